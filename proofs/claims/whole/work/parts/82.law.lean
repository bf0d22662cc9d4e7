/-! THE LAW -/
def la_K (c : String → Int32) (a : sx_A) (k : Int32) (f : Nat → Int64) : Prop := match a with
  | .inl y => k = 0 ∧ ∀ x, y = some x → f 0 = x.toInt64
  | .inr e => k = c e
theorem la_Q.k {c : String → Int32} {σ σ1 : nq_S} {r : sx_A × sx_S} {o : Option Value ⊕ String} (h : la_Q c σ r o σ1) : ∃ k f1, o = .inl (some (.int k)) ∧ qs_R σ1 r.2 ∧ la_fr σ σ1 ∧ la_O σ1 f1 ∧ la_K c r.1 k f1 := by
  obtain ⟨a, S⟩ := r
  obtain ⟨h1, h2, f, h3, h4⟩ := h
  cases a with
  | inl y => exact ⟨0, f, h4.1, h1, h2, h3, rfl, h4.2⟩
  | inr e => exact ⟨c e, f, h4, h1, h2, h3, rfl⟩
theorem mo_Q.k {c : String → Int32} {σ σ1 : nq_S} {r : sx_A × sx_S} {o : Option Value ⊕ String} {k : Int32} {f : Nat → Int64} (h : mo_Q c σ r o σ1) (hk : la_K c r.1 k f) (hc : ∀ e, c e ≠ 0) : ∃ x v ar, o = .inl (some (.int x)) ∧ mo_fg σ σ1 ∧ mo_W σ1 v ar ∧ mo_P v ar r.2 ∧ v 7 = k ∧ (k = 0 → f 0 = x.toInt64) := by
  obtain ⟨a, S⟩ := r
  obtain ⟨h1, v, ar, x, h2, h3, h4, h5⟩ := h
  cases a with
  | inl y => exact ⟨x, v, ar, h4, h1, h2, h3, h5.2.trans hk.1.symm, fun _ => hk.2 x h5.1⟩
  | inr e => exact ⟨x, v, ar, h4, h1, h2, h3, h5.trans hk.symm, fun h => absurd (hk.symm.trans h) (hc e)⟩
theorem mo_B.k {σ σ1 : nq_S} {r : sx_A × sx_S} {o : Option Value ⊕ String} {k : Int32} {f : Nat → Int64} (h : mo_B σ r o σ1) (hk : la_K mo_one r.1 k f) : ∃ v ar, o = .inl none ∧ mo_fg σ σ1 ∧ mo_W σ1 v ar ∧ mo_P v ar r.2 ∧ v 7 = k := by
  obtain ⟨a, S⟩ := r
  obtain ⟨h0, h1, v, ar, h2, h3, h5⟩ := h
  cases a with
  | inl y => exact ⟨v, ar, h0, h1, h2, h3, h5.2.trans hk.1.symm⟩
  | inr e => exact ⟨v, ar, h0, h1, h2, h3, h5.trans hk.symm⟩
theorem mo_ty_n (e : String) : mo_ty e ≠ 0 := by
  unfold mo_ty
  split <;> decide
theorem mo_one_n (e : String) : mo_one e ≠ 0 := by
  unfold mo_one
  decide
theorem mo_rwc_n (e : String) : mo_rwc e ≠ 0 := by
  unfold mo_rwc
  split <;> decide
theorem mo_run_n (e : String) : mo_run e ≠ 0 := by
  unfold mo_run
  split
  · decide
  · exact (mo_thr_pos e).2
theorem lg_cmp_self (a : Int64) : lg_cmp a a = 0 := by
  unfold lg_cmp
  simp
theorem qs_R.up {σ : nq_S} {S : sx_S} (h : qs_R σ S) : ∀ t, t < 3 → rw_up (S.2.2.2.1.getD t []) := by
  obtain ⟨T, pl, kp, tb, old, bg, nt, dn, fl, res, w⟩ := S
  obtain ⟨h0, hw, sp, R, ch, nn, es, width, hX, hr, hB, hT, hP⟩ := h
  intro t ht
  obtain ⟨used, g, pa, qa, sz, fs, k1, k2, k3, k4, k5, k6, k7⟩ := hX.2.2.1.2 t ht
  exact k6
theorem qs_R.wl {σ : nq_S} {S : sx_S} (h : qs_R σ S) : 288 ≤ σ.length ∧ qs_W S := by
  obtain ⟨T, pl, kp, tb, old, bg, nt, dn, fl, res, w⟩ := S
  exact ⟨h.1, h.2.1⟩
def la_S (σ : nq_S) (S : sx_S) : Prop := qs_R σ S ∧ (∃ v ar, mo_W σ v ar ∧ mo_P v ar S) ∧ ∃ f, la_O σ f
theorem la_two {σ1 σ2 : nq_S} {S : sx_S} {f : Nat → Int64} {v : Nat → Int32} {ar : mo_Ar} (hR : qs_R σ1 S) (hO : la_O σ1 f) (hF : mo_fg σ1 σ2) (hW : mo_W σ2 v ar) (hP : mo_P v ar S) : la_S σ2 S ∧ la_O σ2 f := by
  have hl := hR.wl.1
  have hO2 : la_O σ2 f := (hF.2.2 287 (by omega)).trans hO
  exact ⟨⟨hR.of (fun i hi => hF.2.2 i (.inl hi)) (fun i a b => hF.2.2 i (.inr ⟨by omega, b⟩)) hF.1, ⟨v, ar, hW, hP⟩, f, hO2⟩, hO2⟩
theorem la_cmp {N j : Nat} (hN : N ≤ 2048) (hj : j ≤ 4096) : nI N - 4 < nI j ↔ N < j + 4 := by
  by_cases h : 4 ≤ N
  · obtain ⟨M, rfl⟩ : ∃ M, N = M + 4 := ⟨N - 4, by omega⟩
    rw [show nI (M + 4) - 4 = nI M from by rw [← nI_add]; exact Int32.add_sub_cancel _ _]
    constructor
    · intro h1
      have h2 : ¬ j ≤ M := fun h2 => Int32.not_lt.mpr ((nI_leI (a := j) (b := M) (by omega) (by omega)).mpr h2) h1
      omega
    · intro h1
      exact Int32.not_le.mp (fun h2 => by
        have := (nI_leI (a := j) (b := M) (by omega) (by omega)).mp h2
        omega)
  · have h4 : N = 0 ∨ N = 1 ∨ N = 2 ∨ N = 3 := by omega
    have hn : nI N - 4 < 0 := by rcases h4 with rfl | rfl | rfl | rfl <;> decide
    exact ⟨fun _ => by omega, fun _ => Int32.lt_of_lt_of_le hn ((nI_leI (a := 0) (b := j) (by omega) (by omega)).mpr (by omega))⟩
section LL
variable {G : nq_G} {d : Nat}
theorem law_loop (hN : G.2.2.1 ≤ 2048) (hD : 26 ≤ d) : ∀ (m i : Nat) (σ : nq_S) (S : sx_S) (l5 l6 : Option Value), G.2.2.1 < 4 * (i + m) + 4 → i + m ≤ 512 → la_S σ S → σ.length ≤ 288 + 5 * i → nq_J G d (6 * m) (169 * m) m_Law_law 23 [some (.ref 3000000), some (.ref 0), some (.ref 270), some (.ref 287), some (.int (nI (4 * i))), l5, l6] [] σ (fun o _ => o = .inl (some (.int 1))) := by
  obtain ⟨d, rfl⟩ : ∃ d', d = d' + 1 := ⟨d - 1, by omega⟩
  intro m
  induction m with
  | zero =>
    intro i σ S l5 l6 hm him hS hl
    refine nq_iload (pc' := 25) d_Law_law_23 rfl rfl ?_
    refine nq_aload_n (pc' := 26) d_Law_law_25 rfl rfl rfl ?_
    refine nq_slen (pc' := 27) d_Law_law_26 rfl ?_
    refine nq_iconst (v := 4) (pc' := 28) d_Law_law_27 rfl (by decide) ?_
    refine nq_isub (pc' := 29) d_Law_law_28 rfl ?_
    refine nq_icmp_gt (pc' := 32) (tgt := 651) d_Law_law_29 rfl (by decide) (fun _ => ?_) (fun h => absurd ((la_cmp hN (by omega)).mpr (by omega)) h)
    refine nq_iconst (v := 1) (pc' := 652) d_Law_law_651 rfl (by decide) ?_
    refine nq_iret d_Law_law_652 rfl rfl rfl
  | succ m ih =>
    intro i σ S l5 l6 hm him hS hl
    obtain ⟨hR, ⟨v, ar, hW, hP⟩, f, hO⟩ := hS
    obtain ⟨hl288, hw⟩ := hR.wl
    have hup := hR.up
    have hO' := hO
    unfold la_O at hO'
    obtain ⟨fs, z0⟩ := hR.zero
    have w := hW.1
    by_cases hend : G.2.2.1 < 4 * i + 4
    · refine nq_iload (pc' := 25) d_Law_law_23 rfl rfl ?_
      refine nq_aload_n (pc' := 26) d_Law_law_25 rfl rfl rfl ?_
      refine nq_slen (pc' := 27) d_Law_law_26 rfl ?_
      refine nq_iconst (v := 4) (pc' := 28) d_Law_law_27 rfl (by decide) ?_
      refine nq_isub (pc' := 29) d_Law_law_28 rfl ?_
      refine nq_icmp_gt (pc' := 32) (tgt := 651) d_Law_law_29 rfl (by decide) (fun _ => ?_) (fun h => absurd ((la_cmp hN (by omega)).mpr hend) h)
      refine nq_iconst (v := 1) (pc' := 652) d_Law_law_651 rfl (by decide) ?_
      refine nq_iret d_Law_law_652 rfl rfl rfl
    refine nq_iload (pc' := 25) d_Law_law_23 rfl rfl ?_
    refine nq_aload_n (pc' := 26) d_Law_law_25 rfl rfl rfl ?_
    refine nq_slen (pc' := 27) d_Law_law_26 rfl ?_
    refine nq_iconst (v := 4) (pc' := 28) d_Law_law_27 rfl (by decide) ?_
    refine nq_isub (pc' := 29) d_Law_law_28 rfl ?_
    refine nq_icmp_gt (pc' := 32) (tgt := 651) d_Law_law_29 rfl (by decide) (fun h => absurd ((la_cmp hN (by omega)).mp h) hend) (fun _ => ?_)
    have next : ∀ (σ2 : nq_S) (S2 : sx_S) (l5 l6 : Option Value), la_S σ2 S2 → σ2.length ≤ 288 + 5 * (i + 1) → nq_J G (d + 1) (6 * m) (169 * m) m_Law_law 645 [some (.ref 3000000), some (.ref 0), some (.ref 270), some (.ref 287), some (.int (nI (4 * i))), l5, l6] [] σ2 (fun o _ => o = .inl (some (.int 1))) := by
      intro σ2 S2 l5 l6 h1 h2
      refine nq_iinc (pc' := 648) d_Law_law_645 rfl rfl (v := nI (4 * (i + 1))) (by exact nI_add (4 * i) 4) (by decide) rfl ?_
      refine nq_goto (tgt := 23) d_Law_law_648 (by decide) ?_
      exact ih (i + 1) σ2 S2 l5 l6 (by omega) (by omega) h1 h2
    refine nq_aload_n (pc' := 33) d_Law_law_32 rfl rfl rfl ?_
    refine nq_iload (pc' := 35) d_Law_law_33 rfl rfl ?_
    refine nq_sld (pc' := 36) d_Law_law_35 rfl (j := 4 * i) rfl (by omega) (by omega) ?_
    refine nq_bipush (v := 15) (pc' := 38) d_Law_law_36 rfl (by decide) ?_
    refine nq_iand (pc' := 39) d_Law_law_38 rfl ?_
    generalize G.2.2.2 (4 * i) &&& 15 = sw
    by_cases hd : sw.toInt < 0 ∨ 9 < sw.toInt
    · refine nq_J.le (kc := 6 * m) (ks := 169 * m) (by omega) (by omega) ?_
      refine nq_tableOut (tgt := 645) d_Law_law_39 hd (by decide) ?_
      exact next σ S _ _ ⟨hR, ⟨v, ar, hW, hP⟩, f, hO⟩ (by omega)
    obtain ⟨n, hn, rfl⟩ : ∃ n, n ≤ 9 ∧ sw = nI n := nI_of2 (M := 9) rfl (fun h => hd (.inl (Int32.lt_iff_toInt_lt.mp h))) (Int32.le_iff_toInt_le.mpr (Int.not_lt.mp (fun h => hd (.inr h))))
    have hn12 : n = 0 ∨ n = 1 ∨ n = 2 ∨ n = 3 ∨ n = 4 ∨ n = 5 ∨ n = 6 ∨ n = 7 ∨ n = 8 ∨ n = 9 := by omega
    rcases hn12 with rfl | rfl | rfl | rfl | rfl | rfl | rfl | rfl | rfl | rfl
    · refine nq_J.le (kc := 6 * m + 0 + 1) (ks := 169 * m + 0 + 6) (by omega) (by omega) ?_
      refine nq_tableIn (off := 53) (tgt := 92) d_Law_law_39 (by decide) (by decide) (by decide) (by decide) ?_
      refine nq_aload_n (pc' := 93) d_Law_law_92 rfl rfl rfl ?_
      refine nq_aload_n (pc' := 94) d_Law_law_93 rfl rfl rfl ?_
      refine nq_iload (pc' := 96) d_Law_law_94 rfl rfl ?_
      refine nq_iconst (v := 1) (pc' := 97) d_Law_law_96 rfl (by decide) ?_
      refine nq_iadd (pc' := 98) d_Law_law_97 rfl ?_
      refine nq_sld (pc' := 99) d_Law_law_98 rfl (j := 4 * i + 1) (nI_add (4 * i) 1) (by omega) (by omega) ?_
      refine nq_i2l (pc' := 100) d_Law_law_99 rfl ?_
      refine nq_bipush (v := 32) (pc' := 102) d_Law_law_100 rfl (by decide) ?_
      refine nq_lshl (pc' := 103) d_Law_law_102 rfl ?_
      refine nq_aload_n (pc' := 104) d_Law_law_103 rfl rfl rfl ?_
      refine nq_iload (pc' := 106) d_Law_law_104 rfl rfl ?_
      refine nq_iconst (v := 2) (pc' := 107) d_Law_law_106 rfl (by decide) ?_
      refine nq_iadd (pc' := 108) d_Law_law_107 rfl ?_
      refine nq_sld (pc' := 109) d_Law_law_108 rfl (j := 4 * i + 2) (nI_add (4 * i) 2) (by omega) (by omega) ?_
      refine nq_i2l (pc' := 110) d_Law_law_109 rfl ?_
      refine nq_ldc2 (pc' := 113) d_Law_law_110 rfl ld_Law_55 ?_
      refine nq_land (pc' := 114) d_Law_law_113 rfl ?_
      refine nq_lor (pc' := 115) d_Law_law_114 rfl ?_
      refine nq_aload_n (pc' := 116) d_Law_law_115 rfl rfl rfl ?_
      refine nq_callS (pc' := 119) d_Law_law_116 rfl cl_Law_57 st_Law_57 rfl (kc := 6 * m + 0) (ks := 169 * m + 0) (mc' := 1) (ms' := 6) (As := [.ref 0, .long _, .ref 287]) (rest := []) rfl rfl (by decide) (k_Law_type hR hO (by omega)) (fun E σ1 hq => ?_) (fun z σ1 hq => ?_)
      · obtain ⟨k, f1, e, _⟩ := hq.k
        cases e
      obtain ⟨k, f1, e, R1, L1, O1, K1⟩ := hq.k
      cases e
      have W1 : mo_W σ1 v ar := hW.of (fun j a b => L1.1 j a b)
      have P1 := hP
      have w1 := W1.1
      have l1 := L1.2.1
      have l2 := L1.2.2
      refine nq_istore (pc' := 121) d_Law_law_119 rfl (by decide) rfl ?_
      refine nq_aload_n (pc' := 122) d_Law_law_121 rfl rfl rfl ?_
      refine nq_aload_n (pc' := 123) d_Law_law_122 rfl rfl rfl ?_
      refine nq_iload (pc' := 125) d_Law_law_123 rfl rfl ?_
      refine nq_iconst (v := 1) (pc' := 126) d_Law_law_125 rfl (by decide) ?_
      refine nq_iadd (pc' := 127) d_Law_law_126 rfl ?_
      refine nq_sld (pc' := 128) d_Law_law_127 rfl (j := 4 * i + 1) (nI_add (4 * i) 1) (by omega) (by omega) ?_
      refine nq_i2l (pc' := 129) d_Law_law_128 rfl ?_
      refine nq_bipush (v := 32) (pc' := 131) d_Law_law_129 rfl (by decide) ?_
      refine nq_lshl (pc' := 132) d_Law_law_131 rfl ?_
      refine nq_aload_n (pc' := 133) d_Law_law_132 rfl rfl rfl ?_
      refine nq_iload (pc' := 135) d_Law_law_133 rfl rfl ?_
      refine nq_iconst (v := 2) (pc' := 136) d_Law_law_135 rfl (by decide) ?_
      refine nq_iadd (pc' := 137) d_Law_law_136 rfl ?_
      refine nq_sld (pc' := 138) d_Law_law_137 rfl (j := 4 * i + 2) (nI_add (4 * i) 2) (by omega) (by omega) ?_
      refine nq_i2l (pc' := 139) d_Law_law_138 rfl ?_
      refine nq_ldc2 (pc' := 142) d_Law_law_139 rfl ld_Law_55 ?_
      refine nq_land (pc' := 143) d_Law_law_142 rfl ?_
      refine nq_lor (pc' := 144) d_Law_law_143 rfl ?_
      refine nq_callV (pc' := 147) d_Law_law_144 rfl cl_Law_62 rfl (by first | assumption | exact nq_ga (by assumption) | exact nq_gs (by first | assumption | exact nq_ga (by assumption) | exact nq_gs (by first | assumption | exact nq_gs (by assumption) | exact nq_gn (by first | assumption | decide | omega | exact nq_ne1 (by assumption) (by assumption) | exact nq_ne2 (by assumption) (by assumption)) (by assumption) | exact nq_ga (by assumption)) | exact nq_gn (by first | assumption | decide | omega | exact nq_ne1 (by assumption) (by assumption) | exact nq_ne2 (by assumption) (by assumption)) (by first | assumption | exact nq_gs (by assumption) | exact nq_gn (by first | assumption | decide | omega | exact nq_ne1 (by assumption) (by assumption) | exact nq_ne2 (by assumption) (by assumption)) (by assumption) | exact nq_ga (by assumption))) | exact nq_gn (by first | assumption | decide | omega | exact nq_ne1 (by assumption) (by assumption) | exact nq_ne2 (by assumption) (by assumption)) (by first | assumption | exact nq_ga (by assumption) | exact nq_gs (by first | assumption | exact nq_gs (by assumption) | exact nq_gn (by first | assumption | decide | omega | exact nq_ne1 (by assumption) (by assumption) | exact nq_ne2 (by assumption) (by assumption)) (by assumption) | exact nq_ga (by assumption)) | exact nq_gn (by first | assumption | decide | omega | exact nq_ne1 (by assumption) (by assumption) | exact nq_ne2 (by assumption) (by assumption)) (by first | assumption | exact nq_gs (by assumption) | exact nq_gn (by first | assumption | decide | omega | exact nq_ne1 (by assumption) (by assumption) | exact nq_ne2 (by assumption) (by assumption)) (by assumption) | exact nq_ga (by assumption)))) rfl rfl (kc := 6 * m) (ks := 169 * m) (mc' := 0) (ms' := 0) (As := [.long _]) (rest := []) rfl rfl (by decide) (k_Mod_type W1 P1 (by omega)) (fun E σ2 hq => ?_) (fun z σ2 hq => ?_)
      · obtain ⟨_, _, _, e, _⟩ := hq.k K1 mo_ty_n
        cases e
      obtain ⟨x, v2, ar2, e, F2, W2, P2, h7, h0⟩ := hq.k K1 mo_ty_n
      cases e
      obtain ⟨S2, O2⟩ := la_two R1 O1 F2 W2 P2
      unfold la_O at O2
      have l3 := F2.2.1
      have w2 := W2.1
      refine nq_istore (pc' := 149) d_Law_law_147 rfl (by decide) rfl ?_
      refine nq_aload_n (pc' := 150) d_Law_law_149 rfl rfl rfl ?_
      refine nq_callVR (pc' := 153) d_Law_law_150 rfl cl_Law_63 rfl (by first | assumption | exact nq_ga (by assumption) | exact nq_gs (by first | assumption | exact nq_ga (by assumption) | exact nq_gs (by first | assumption | exact nq_gs (by assumption) | exact nq_gn (by first | assumption | decide | omega | exact nq_ne1 (by assumption) (by assumption) | exact nq_ne2 (by assumption) (by assumption)) (by assumption) | exact nq_ga (by assumption)) | exact nq_gn (by first | assumption | decide | omega | exact nq_ne1 (by assumption) (by assumption) | exact nq_ne2 (by assumption) (by assumption)) (by first | assumption | exact nq_gs (by assumption) | exact nq_gn (by first | assumption | decide | omega | exact nq_ne1 (by assumption) (by assumption) | exact nq_ne2 (by assumption) (by assumption)) (by assumption) | exact nq_ga (by assumption))) | exact nq_gn (by first | assumption | decide | omega | exact nq_ne1 (by assumption) (by assumption) | exact nq_ne2 (by assumption) (by assumption)) (by first | assumption | exact nq_ga (by assumption) | exact nq_gs (by first | assumption | exact nq_gs (by assumption) | exact nq_gn (by first | assumption | decide | omega | exact nq_ne1 (by assumption) (by assumption) | exact nq_ne2 (by assumption) (by assumption)) (by assumption) | exact nq_ga (by assumption)) | exact nq_gn (by first | assumption | decide | omega | exact nq_ne1 (by assumption) (by assumption) | exact nq_ne2 (by assumption) (by assumption)) (by first | assumption | exact nq_gs (by assumption) | exact nq_gn (by first | assumption | decide | omega | exact nq_ne1 (by assumption) (by assumption) | exact nq_ne2 (by assumption) (by assumption)) (by assumption) | exact nq_ga (by assumption)))) rfl rfl (kc := 6 * m) (ks := 169 * m) (mc' := 0) (ms' := 0) (As := []) (rest := []) rfl rfl (by decide) (k_Mod_thrown W2) ?_
      rw [h7]
      refine nq_iload (pc' := 155) d_Law_law_153 rfl rfl ?_
      refine nq_icmp_eq (pc' := 158) (tgt := 160) d_Law_law_155 rfl (by decide) (fun _ => ?_) (fun h => absurd rfl h)
      refine nq_iload (pc' := 162) d_Law_law_160 rfl rfl ?_
      by_cases hk0 : k = 0
      · refine nq_if_ne (pc' := 165) (tgt := 177) d_Law_law_162 rfl (by decide) (fun h => absurd hk0 h) (fun _ => ?_)
        refine nq_aload_n (pc' := 166) d_Law_law_165 rfl rfl rfl ?_
        refine nq_iconst (v := 0) (pc' := 167) d_Law_law_166 rfl (by decide) ?_
        refine nq_lald (pc' := 168) d_Law_law_167 rfl (by first | assumption | exact nq_ga (by assumption) | exact nq_gs (by first | assumption | exact nq_ga (by assumption) | exact nq_gs (by first | assumption | exact nq_gs (by assumption) | exact nq_gn (by first | assumption | decide | omega | exact nq_ne1 (by assumption) (by assumption) | exact nq_ne2 (by assumption) (by assumption)) (by assumption) | exact nq_ga (by assumption)) | exact nq_gn (by first | assumption | decide | omega | exact nq_ne1 (by assumption) (by assumption) | exact nq_ne2 (by assumption) (by assumption)) (by first | assumption | exact nq_gs (by assumption) | exact nq_gn (by first | assumption | decide | omega | exact nq_ne1 (by assumption) (by assumption) | exact nq_ne2 (by assumption) (by assumption)) (by assumption) | exact nq_ga (by assumption))) | exact nq_gn (by first | assumption | decide | omega | exact nq_ne1 (by assumption) (by assumption) | exact nq_ne2 (by assumption) (by assumption)) (by first | assumption | exact nq_ga (by assumption) | exact nq_gs (by first | assumption | exact nq_gs (by assumption) | exact nq_gn (by first | assumption | decide | omega | exact nq_ne1 (by assumption) (by assumption) | exact nq_ne2 (by assumption) (by assumption)) (by assumption) | exact nq_ga (by assumption)) | exact nq_gn (by first | assumption | decide | omega | exact nq_ne1 (by assumption) (by assumption) | exact nq_ne2 (by assumption) (by assumption)) (by first | assumption | exact nq_gs (by assumption) | exact nq_gn (by first | assumption | decide | omega | exact nq_ne1 (by assumption) (by assumption) | exact nq_ne2 (by assumption) (by assumption)) (by assumption) | exact nq_ga (by assumption)))) rfl (j := 0) rfl (by decide) (by decide) ?_
        rw [h0 hk0]
        refine nq_iload (pc' := 170) d_Law_law_168 rfl rfl ?_
        refine nq_i2l (pc' := 171) d_Law_law_170 rfl ?_
        refine nq_lcmp (pc' := 172) d_Law_law_171 rfl ?_
        rw [lg_cmp_self]
        refine nq_if_eq (pc' := 175) (tgt := 177) d_Law_law_172 rfl (by decide) (fun _ => ?_) (fun h => absurd rfl h)
        refine nq_goto (tgt := 645) d_Law_law_177 (by decide) ?_
        exact next σ2 _ _ _ S2 (by omega)
      · refine nq_if_ne (pc' := 165) (tgt := 177) d_Law_law_162 rfl (by decide) (fun _ => ?_) (fun h => absurd h hk0)
        refine nq_goto (tgt := 645) d_Law_law_177 (by decide) ?_
        exact next σ2 _ _ _ S2 (by omega)
    · refine nq_J.le (kc := 6 * m + 0 + 6) (ks := 169 * m + 0 + 169) (by omega) (by omega) ?_
      refine nq_tableIn (off := 141) (tgt := 180) d_Law_law_39 (by decide) (by decide) (by decide) (by decide) ?_
      refine nq_aload_n (pc' := 181) d_Law_law_180 rfl rfl rfl ?_
      refine nq_aload_n (pc' := 182) d_Law_law_181 rfl rfl rfl ?_
      refine nq_iload (pc' := 184) d_Law_law_182 rfl rfl ?_
      refine nq_iconst (v := 1) (pc' := 185) d_Law_law_184 rfl (by decide) ?_
      refine nq_iadd (pc' := 186) d_Law_law_185 rfl ?_
      refine nq_sld (pc' := 187) d_Law_law_186 rfl (j := 4 * i + 1) (nI_add (4 * i) 1) (by omega) (by omega) ?_
      refine nq_aload_n (pc' := 188) d_Law_law_187 rfl rfl rfl ?_
      refine nq_callS (pc' := 191) d_Law_law_188 rfl cl_Law_66 st_Law_66 rfl (kc := 6 * m + 0) (ks := 169 * m + 0) (mc' := 6) (ms' := 169) (As := [.ref 0, .int _, .ref 287]) (rest := []) rfl rfl (by decide) (k_Law_keep hR hO (by omega) (by omega)) (fun E σ1 hq => ?_) (fun z σ1 hq => ?_)
      · obtain ⟨k, f1, e, _⟩ := hq.k
        cases e
      obtain ⟨k, f1, e, R1, L1, O1, K1⟩ := hq.k
      cases e
      have W1 : mo_W σ1 v ar := hW.of (fun j a b => L1.1 j a b)
      have P1 := hP
      have w1 := W1.1
      have l1 := L1.2.1
      have l2 := L1.2.2
      refine nq_istore (pc' := 193) d_Law_law_191 rfl (by decide) rfl ?_
      refine nq_aload_n (pc' := 194) d_Law_law_193 rfl rfl rfl ?_
      refine nq_aload_n (pc' := 195) d_Law_law_194 rfl rfl rfl ?_
      refine nq_iload (pc' := 197) d_Law_law_195 rfl rfl ?_
      refine nq_iconst (v := 1) (pc' := 198) d_Law_law_197 rfl (by decide) ?_
      refine nq_iadd (pc' := 199) d_Law_law_198 rfl ?_
      refine nq_sld (pc' := 200) d_Law_law_199 rfl (j := 4 * i + 1) (nI_add (4 * i) 1) (by omega) (by omega) ?_
      refine nq_callV (pc' := 203) d_Law_law_200 rfl cl_Law_69 rfl (by first | assumption | exact nq_ga (by assumption) | exact nq_gs (by first | assumption | exact nq_ga (by assumption) | exact nq_gs (by first | assumption | exact nq_gs (by assumption) | exact nq_gn (by first | assumption | decide | omega | exact nq_ne1 (by assumption) (by assumption) | exact nq_ne2 (by assumption) (by assumption)) (by assumption) | exact nq_ga (by assumption)) | exact nq_gn (by first | assumption | decide | omega | exact nq_ne1 (by assumption) (by assumption) | exact nq_ne2 (by assumption) (by assumption)) (by first | assumption | exact nq_gs (by assumption) | exact nq_gn (by first | assumption | decide | omega | exact nq_ne1 (by assumption) (by assumption) | exact nq_ne2 (by assumption) (by assumption)) (by assumption) | exact nq_ga (by assumption))) | exact nq_gn (by first | assumption | decide | omega | exact nq_ne1 (by assumption) (by assumption) | exact nq_ne2 (by assumption) (by assumption)) (by first | assumption | exact nq_ga (by assumption) | exact nq_gs (by first | assumption | exact nq_gs (by assumption) | exact nq_gn (by first | assumption | decide | omega | exact nq_ne1 (by assumption) (by assumption) | exact nq_ne2 (by assumption) (by assumption)) (by assumption) | exact nq_ga (by assumption)) | exact nq_gn (by first | assumption | decide | omega | exact nq_ne1 (by assumption) (by assumption) | exact nq_ne2 (by assumption) (by assumption)) (by first | assumption | exact nq_gs (by assumption) | exact nq_gn (by first | assumption | decide | omega | exact nq_ne1 (by assumption) (by assumption) | exact nq_ne2 (by assumption) (by assumption)) (by assumption) | exact nq_ga (by assumption)))) rfl rfl (kc := 6 * m) (ks := 169 * m) (mc' := 0) (ms' := 0) (As := [.int _]) (rest := []) rfl rfl (by decide) (k_Mod_keep W1 P1 (by omega)) (fun E σ2 hq => ?_) (fun z σ2 hq => ?_)
      · obtain ⟨_, _, _, e, _⟩ := hq.k K1 mo_one_n
        cases e
      obtain ⟨x, v2, ar2, e, F2, W2, P2, h7, h0⟩ := hq.k K1 mo_one_n
      cases e
      obtain ⟨S2, O2⟩ := la_two R1 O1 F2 W2 P2
      unfold la_O at O2
      have l3 := F2.2.1
      have w2 := W2.1
      refine nq_istore (pc' := 205) d_Law_law_203 rfl (by decide) rfl ?_
      refine nq_aload_n (pc' := 206) d_Law_law_205 rfl rfl rfl ?_
      refine nq_callVR (pc' := 209) d_Law_law_206 rfl cl_Law_63 rfl (by first | assumption | exact nq_ga (by assumption) | exact nq_gs (by first | assumption | exact nq_ga (by assumption) | exact nq_gs (by first | assumption | exact nq_gs (by assumption) | exact nq_gn (by first | assumption | decide | omega | exact nq_ne1 (by assumption) (by assumption) | exact nq_ne2 (by assumption) (by assumption)) (by assumption) | exact nq_ga (by assumption)) | exact nq_gn (by first | assumption | decide | omega | exact nq_ne1 (by assumption) (by assumption) | exact nq_ne2 (by assumption) (by assumption)) (by first | assumption | exact nq_gs (by assumption) | exact nq_gn (by first | assumption | decide | omega | exact nq_ne1 (by assumption) (by assumption) | exact nq_ne2 (by assumption) (by assumption)) (by assumption) | exact nq_ga (by assumption))) | exact nq_gn (by first | assumption | decide | omega | exact nq_ne1 (by assumption) (by assumption) | exact nq_ne2 (by assumption) (by assumption)) (by first | assumption | exact nq_ga (by assumption) | exact nq_gs (by first | assumption | exact nq_gs (by assumption) | exact nq_gn (by first | assumption | decide | omega | exact nq_ne1 (by assumption) (by assumption) | exact nq_ne2 (by assumption) (by assumption)) (by assumption) | exact nq_ga (by assumption)) | exact nq_gn (by first | assumption | decide | omega | exact nq_ne1 (by assumption) (by assumption) | exact nq_ne2 (by assumption) (by assumption)) (by first | assumption | exact nq_gs (by assumption) | exact nq_gn (by first | assumption | decide | omega | exact nq_ne1 (by assumption) (by assumption) | exact nq_ne2 (by assumption) (by assumption)) (by assumption) | exact nq_ga (by assumption)))) rfl rfl (kc := 6 * m) (ks := 169 * m) (mc' := 0) (ms' := 0) (As := []) (rest := []) rfl rfl (by decide) (k_Mod_thrown W2) ?_
      rw [h7]
      refine nq_iload (pc' := 211) d_Law_law_209 rfl rfl ?_
      refine nq_icmp_eq (pc' := 214) (tgt := 216) d_Law_law_211 rfl (by decide) (fun _ => ?_) (fun h => absurd rfl h)
      refine nq_iload (pc' := 218) d_Law_law_216 rfl rfl ?_
      by_cases hk0 : k = 0
      · refine nq_if_ne (pc' := 221) (tgt := 233) d_Law_law_218 rfl (by decide) (fun h => absurd hk0 h) (fun _ => ?_)
        refine nq_aload_n (pc' := 222) d_Law_law_221 rfl rfl rfl ?_
        refine nq_iconst (v := 0) (pc' := 223) d_Law_law_222 rfl (by decide) ?_
        refine nq_lald (pc' := 224) d_Law_law_223 rfl (by first | assumption | exact nq_ga (by assumption) | exact nq_gs (by first | assumption | exact nq_ga (by assumption) | exact nq_gs (by first | assumption | exact nq_gs (by assumption) | exact nq_gn (by first | assumption | decide | omega | exact nq_ne1 (by assumption) (by assumption) | exact nq_ne2 (by assumption) (by assumption)) (by assumption) | exact nq_ga (by assumption)) | exact nq_gn (by first | assumption | decide | omega | exact nq_ne1 (by assumption) (by assumption) | exact nq_ne2 (by assumption) (by assumption)) (by first | assumption | exact nq_gs (by assumption) | exact nq_gn (by first | assumption | decide | omega | exact nq_ne1 (by assumption) (by assumption) | exact nq_ne2 (by assumption) (by assumption)) (by assumption) | exact nq_ga (by assumption))) | exact nq_gn (by first | assumption | decide | omega | exact nq_ne1 (by assumption) (by assumption) | exact nq_ne2 (by assumption) (by assumption)) (by first | assumption | exact nq_ga (by assumption) | exact nq_gs (by first | assumption | exact nq_gs (by assumption) | exact nq_gn (by first | assumption | decide | omega | exact nq_ne1 (by assumption) (by assumption) | exact nq_ne2 (by assumption) (by assumption)) (by assumption) | exact nq_ga (by assumption)) | exact nq_gn (by first | assumption | decide | omega | exact nq_ne1 (by assumption) (by assumption) | exact nq_ne2 (by assumption) (by assumption)) (by first | assumption | exact nq_gs (by assumption) | exact nq_gn (by first | assumption | decide | omega | exact nq_ne1 (by assumption) (by assumption) | exact nq_ne2 (by assumption) (by assumption)) (by assumption) | exact nq_ga (by assumption)))) rfl (j := 0) rfl (by decide) (by decide) ?_
        rw [h0 hk0]
        refine nq_iload (pc' := 226) d_Law_law_224 rfl rfl ?_
        refine nq_i2l (pc' := 227) d_Law_law_226 rfl ?_
        refine nq_lcmp (pc' := 228) d_Law_law_227 rfl ?_
        rw [lg_cmp_self]
        refine nq_if_eq (pc' := 231) (tgt := 233) d_Law_law_228 rfl (by decide) (fun _ => ?_) (fun h => absurd rfl h)
        refine nq_goto (tgt := 645) d_Law_law_233 (by decide) ?_
        exact next σ2 _ _ _ S2 (by omega)
      · refine nq_if_ne (pc' := 221) (tgt := 233) d_Law_law_218 rfl (by decide) (fun _ => ?_) (fun h => absurd h hk0)
        refine nq_goto (tgt := 645) d_Law_law_233 (by decide) ?_
        exact next σ2 _ _ _ S2 (by omega)
    · refine nq_J.le (kc := 6 * m + 1 + 1) (ks := 169 * m + 3 + 6) (by omega) (by omega) ?_
      refine nq_tableIn (off := 197) (tgt := 236) d_Law_law_39 (by decide) (by decide) (by decide) (by decide) ?_
      refine nq_aload_n (pc' := 237) d_Law_law_236 rfl rfl rfl ?_
      refine nq_aload_n (pc' := 238) d_Law_law_237 rfl rfl rfl ?_
      refine nq_iload (pc' := 240) d_Law_law_238 rfl rfl ?_
      refine nq_iconst (v := 1) (pc' := 241) d_Law_law_240 rfl (by decide) ?_
      refine nq_iadd (pc' := 242) d_Law_law_241 rfl ?_
      refine nq_sld (pc' := 243) d_Law_law_242 rfl (j := 4 * i + 1) (nI_add (4 * i) 1) (by omega) (by omega) ?_
      refine nq_aload_n (pc' := 244) d_Law_law_243 rfl rfl rfl ?_
      refine nq_iload (pc' := 246) d_Law_law_244 rfl rfl ?_
      refine nq_iconst (v := 2) (pc' := 247) d_Law_law_246 rfl (by decide) ?_
      refine nq_iadd (pc' := 248) d_Law_law_247 rfl ?_
      refine nq_sld (pc' := 249) d_Law_law_248 rfl (j := 4 * i + 2) (nI_add (4 * i) 2) (by omega) (by omega) ?_
      refine nq_aload_n (pc' := 250) d_Law_law_249 rfl rfl rfl ?_
      refine nq_callS (pc' := 253) d_Law_law_250 rfl cl_Law_70 st_Law_70 rfl (kc := 6 * m + 1) (ks := 169 * m + 3) (mc' := 1) (ms' := 6) (As := [.ref 0, .int _, .int _, .ref 287]) (rest := []) rfl rfl (by decide) (k_Law_run hR hO (by omega)) (fun E σ1 hq => ?_) (fun z σ1 hq => ?_)
      · obtain ⟨k, f1, e, _⟩ := hq.k
        cases e
      obtain ⟨k, f1, e, R1, L1, O1, K1⟩ := hq.k
      cases e
      have W1 : mo_W σ1 v ar := hW.of (fun j a b => L1.1 j a b)
      have P1 := hP
      have w1 := W1.1
      have l1 := L1.2.1
      have l2 := L1.2.2
      refine nq_istore (pc' := 255) d_Law_law_253 rfl (by decide) rfl ?_
      refine nq_aload_n (pc' := 256) d_Law_law_255 rfl rfl rfl ?_
      refine nq_aload_n (pc' := 257) d_Law_law_256 rfl rfl rfl ?_
      refine nq_iload (pc' := 259) d_Law_law_257 rfl rfl ?_
      refine nq_iconst (v := 1) (pc' := 260) d_Law_law_259 rfl (by decide) ?_
      refine nq_iadd (pc' := 261) d_Law_law_260 rfl ?_
      refine nq_sld (pc' := 262) d_Law_law_261 rfl (j := 4 * i + 1) (nI_add (4 * i) 1) (by omega) (by omega) ?_
      refine nq_aload_n (pc' := 263) d_Law_law_262 rfl rfl rfl ?_
      refine nq_iload (pc' := 265) d_Law_law_263 rfl rfl ?_
      refine nq_iconst (v := 2) (pc' := 266) d_Law_law_265 rfl (by decide) ?_
      refine nq_iadd (pc' := 267) d_Law_law_266 rfl ?_
      refine nq_sld (pc' := 268) d_Law_law_267 rfl (j := 4 * i + 2) (nI_add (4 * i) 2) (by omega) (by omega) ?_
      refine nq_callV (pc' := 271) d_Law_law_268 rfl cl_Law_73 rfl (by first | assumption | exact nq_ga (by assumption) | exact nq_gs (by first | assumption | exact nq_ga (by assumption) | exact nq_gs (by first | assumption | exact nq_gs (by assumption) | exact nq_gn (by first | assumption | decide | omega | exact nq_ne1 (by assumption) (by assumption) | exact nq_ne2 (by assumption) (by assumption)) (by assumption) | exact nq_ga (by assumption)) | exact nq_gn (by first | assumption | decide | omega | exact nq_ne1 (by assumption) (by assumption) | exact nq_ne2 (by assumption) (by assumption)) (by first | assumption | exact nq_gs (by assumption) | exact nq_gn (by first | assumption | decide | omega | exact nq_ne1 (by assumption) (by assumption) | exact nq_ne2 (by assumption) (by assumption)) (by assumption) | exact nq_ga (by assumption))) | exact nq_gn (by first | assumption | decide | omega | exact nq_ne1 (by assumption) (by assumption) | exact nq_ne2 (by assumption) (by assumption)) (by first | assumption | exact nq_ga (by assumption) | exact nq_gs (by first | assumption | exact nq_gs (by assumption) | exact nq_gn (by first | assumption | decide | omega | exact nq_ne1 (by assumption) (by assumption) | exact nq_ne2 (by assumption) (by assumption)) (by assumption) | exact nq_ga (by assumption)) | exact nq_gn (by first | assumption | decide | omega | exact nq_ne1 (by assumption) (by assumption) | exact nq_ne2 (by assumption) (by assumption)) (by first | assumption | exact nq_gs (by assumption) | exact nq_gn (by first | assumption | decide | omega | exact nq_ne1 (by assumption) (by assumption) | exact nq_ne2 (by assumption) (by assumption)) (by assumption) | exact nq_ga (by assumption)))) rfl rfl (kc := 6 * m) (ks := 169 * m) (mc' := 1) (ms' := 3) (As := [.int _, .int _]) (rest := []) rfl rfl (by decide) (k_Mod_run W1 P1 hup (by omega) (by omega) (by omega)) (fun E σ2 hq => ?_) (fun z σ2 hq => ?_)
      · obtain ⟨_, _, _, e, _⟩ := hq.k K1 mo_run_n
        cases e
      obtain ⟨x, v2, ar2, e, F2, W2, P2, h7, h0⟩ := hq.k K1 mo_run_n
      cases e
      obtain ⟨S2, O2⟩ := la_two R1 O1 F2 W2 P2
      unfold la_O at O2
      have l3 := F2.2.1
      have w2 := W2.1
      refine nq_istore (pc' := 273) d_Law_law_271 rfl (by decide) rfl ?_
      refine nq_aload_n (pc' := 274) d_Law_law_273 rfl rfl rfl ?_
      refine nq_callVR (pc' := 277) d_Law_law_274 rfl cl_Law_63 rfl (by first | assumption | exact nq_ga (by assumption) | exact nq_gs (by first | assumption | exact nq_ga (by assumption) | exact nq_gs (by first | assumption | exact nq_gs (by assumption) | exact nq_gn (by first | assumption | decide | omega | exact nq_ne1 (by assumption) (by assumption) | exact nq_ne2 (by assumption) (by assumption)) (by assumption) | exact nq_ga (by assumption)) | exact nq_gn (by first | assumption | decide | omega | exact nq_ne1 (by assumption) (by assumption) | exact nq_ne2 (by assumption) (by assumption)) (by first | assumption | exact nq_gs (by assumption) | exact nq_gn (by first | assumption | decide | omega | exact nq_ne1 (by assumption) (by assumption) | exact nq_ne2 (by assumption) (by assumption)) (by assumption) | exact nq_ga (by assumption))) | exact nq_gn (by first | assumption | decide | omega | exact nq_ne1 (by assumption) (by assumption) | exact nq_ne2 (by assumption) (by assumption)) (by first | assumption | exact nq_ga (by assumption) | exact nq_gs (by first | assumption | exact nq_gs (by assumption) | exact nq_gn (by first | assumption | decide | omega | exact nq_ne1 (by assumption) (by assumption) | exact nq_ne2 (by assumption) (by assumption)) (by assumption) | exact nq_ga (by assumption)) | exact nq_gn (by first | assumption | decide | omega | exact nq_ne1 (by assumption) (by assumption) | exact nq_ne2 (by assumption) (by assumption)) (by first | assumption | exact nq_gs (by assumption) | exact nq_gn (by first | assumption | decide | omega | exact nq_ne1 (by assumption) (by assumption) | exact nq_ne2 (by assumption) (by assumption)) (by assumption) | exact nq_ga (by assumption)))) rfl rfl (kc := 6 * m) (ks := 169 * m) (mc' := 0) (ms' := 0) (As := []) (rest := []) rfl rfl (by decide) (k_Mod_thrown W2) ?_
      rw [h7]
      refine nq_iload (pc' := 279) d_Law_law_277 rfl rfl ?_
      refine nq_icmp_eq (pc' := 282) (tgt := 284) d_Law_law_279 rfl (by decide) (fun _ => ?_) (fun h => absurd rfl h)
      refine nq_iload (pc' := 286) d_Law_law_284 rfl rfl ?_
      by_cases hk0 : k = 0
      · refine nq_if_ne (pc' := 289) (tgt := 301) d_Law_law_286 rfl (by decide) (fun h => absurd hk0 h) (fun _ => ?_)
        refine nq_aload_n (pc' := 290) d_Law_law_289 rfl rfl rfl ?_
        refine nq_iconst (v := 0) (pc' := 291) d_Law_law_290 rfl (by decide) ?_
        refine nq_lald (pc' := 292) d_Law_law_291 rfl (by first | assumption | exact nq_ga (by assumption) | exact nq_gs (by first | assumption | exact nq_ga (by assumption) | exact nq_gs (by first | assumption | exact nq_gs (by assumption) | exact nq_gn (by first | assumption | decide | omega | exact nq_ne1 (by assumption) (by assumption) | exact nq_ne2 (by assumption) (by assumption)) (by assumption) | exact nq_ga (by assumption)) | exact nq_gn (by first | assumption | decide | omega | exact nq_ne1 (by assumption) (by assumption) | exact nq_ne2 (by assumption) (by assumption)) (by first | assumption | exact nq_gs (by assumption) | exact nq_gn (by first | assumption | decide | omega | exact nq_ne1 (by assumption) (by assumption) | exact nq_ne2 (by assumption) (by assumption)) (by assumption) | exact nq_ga (by assumption))) | exact nq_gn (by first | assumption | decide | omega | exact nq_ne1 (by assumption) (by assumption) | exact nq_ne2 (by assumption) (by assumption)) (by first | assumption | exact nq_ga (by assumption) | exact nq_gs (by first | assumption | exact nq_gs (by assumption) | exact nq_gn (by first | assumption | decide | omega | exact nq_ne1 (by assumption) (by assumption) | exact nq_ne2 (by assumption) (by assumption)) (by assumption) | exact nq_ga (by assumption)) | exact nq_gn (by first | assumption | decide | omega | exact nq_ne1 (by assumption) (by assumption) | exact nq_ne2 (by assumption) (by assumption)) (by first | assumption | exact nq_gs (by assumption) | exact nq_gn (by first | assumption | decide | omega | exact nq_ne1 (by assumption) (by assumption) | exact nq_ne2 (by assumption) (by assumption)) (by assumption) | exact nq_ga (by assumption)))) rfl (j := 0) rfl (by decide) (by decide) ?_
        rw [h0 hk0]
        refine nq_iload (pc' := 294) d_Law_law_292 rfl rfl ?_
        refine nq_i2l (pc' := 295) d_Law_law_294 rfl ?_
        refine nq_lcmp (pc' := 296) d_Law_law_295 rfl ?_
        rw [lg_cmp_self]
        refine nq_if_eq (pc' := 299) (tgt := 301) d_Law_law_296 rfl (by decide) (fun _ => ?_) (fun h => absurd rfl h)
        refine nq_goto (tgt := 645) d_Law_law_301 (by decide) ?_
        exact next σ2 _ _ _ S2 (by omega)
      · refine nq_if_ne (pc' := 289) (tgt := 301) d_Law_law_286 rfl (by decide) (fun _ => ?_) (fun h => absurd h hk0)
        refine nq_goto (tgt := 645) d_Law_law_301 (by decide) ?_
        exact next σ2 _ _ _ S2 (by omega)
    · refine nq_J.le (kc := 6 * m + 1 + 1) (ks := 169 * m + 3 + 6) (by omega) (by omega) ?_
      refine nq_tableIn (off := 265) (tgt := 304) d_Law_law_39 (by decide) (by decide) (by decide) (by decide) ?_
      refine nq_aload_n (pc' := 305) d_Law_law_304 rfl rfl rfl ?_
      refine nq_aload_n (pc' := 306) d_Law_law_305 rfl rfl rfl ?_
      refine nq_iload (pc' := 308) d_Law_law_306 rfl rfl ?_
      refine nq_iconst (v := 1) (pc' := 309) d_Law_law_308 rfl (by decide) ?_
      refine nq_iadd (pc' := 310) d_Law_law_309 rfl ?_
      refine nq_sld (pc' := 311) d_Law_law_310 rfl (j := 4 * i + 1) (nI_add (4 * i) 1) (by omega) (by omega) ?_
      refine nq_aload_n (pc' := 312) d_Law_law_311 rfl rfl rfl ?_
      refine nq_callS (pc' := 315) d_Law_law_312 rfl cl_Law_74 st_Law_74 rfl (kc := 6 * m + 1) (ks := 169 * m + 3) (mc' := 1) (ms' := 6) (As := [.ref 0, .int _, .ref 287]) (rest := []) rfl rfl (by decide) (k_Law_ask hR hO (by omega)) (fun E σ1 hq => ?_) (fun z σ1 hq => ?_)
      · obtain ⟨k, f1, e, _⟩ := hq.k
        cases e
      obtain ⟨k, f1, e, R1, L1, O1, K1⟩ := hq.k
      cases e
      have W1 : mo_W σ1 v ar := hW.of (fun j a b => L1.1 j a b)
      have P1 := hP
      have w1 := W1.1
      have l1 := L1.2.1
      have l2 := L1.2.2
      refine nq_istore (pc' := 317) d_Law_law_315 rfl (by decide) rfl ?_
      refine nq_aload_n (pc' := 318) d_Law_law_317 rfl rfl rfl ?_
      refine nq_aload_n (pc' := 319) d_Law_law_318 rfl rfl rfl ?_
      refine nq_iload (pc' := 321) d_Law_law_319 rfl rfl ?_
      refine nq_iconst (v := 1) (pc' := 322) d_Law_law_321 rfl (by decide) ?_
      refine nq_iadd (pc' := 323) d_Law_law_322 rfl ?_
      refine nq_sld (pc' := 324) d_Law_law_323 rfl (j := 4 * i + 1) (nI_add (4 * i) 1) (by omega) (by omega) ?_
      refine nq_callV (pc' := 327) d_Law_law_324 rfl cl_Law_76 rfl (by first | assumption | exact nq_ga (by assumption) | exact nq_gs (by first | assumption | exact nq_ga (by assumption) | exact nq_gs (by first | assumption | exact nq_gs (by assumption) | exact nq_gn (by first | assumption | decide | omega | exact nq_ne1 (by assumption) (by assumption) | exact nq_ne2 (by assumption) (by assumption)) (by assumption) | exact nq_ga (by assumption)) | exact nq_gn (by first | assumption | decide | omega | exact nq_ne1 (by assumption) (by assumption) | exact nq_ne2 (by assumption) (by assumption)) (by first | assumption | exact nq_gs (by assumption) | exact nq_gn (by first | assumption | decide | omega | exact nq_ne1 (by assumption) (by assumption) | exact nq_ne2 (by assumption) (by assumption)) (by assumption) | exact nq_ga (by assumption))) | exact nq_gn (by first | assumption | decide | omega | exact nq_ne1 (by assumption) (by assumption) | exact nq_ne2 (by assumption) (by assumption)) (by first | assumption | exact nq_ga (by assumption) | exact nq_gs (by first | assumption | exact nq_gs (by assumption) | exact nq_gn (by first | assumption | decide | omega | exact nq_ne1 (by assumption) (by assumption) | exact nq_ne2 (by assumption) (by assumption)) (by assumption) | exact nq_ga (by assumption)) | exact nq_gn (by first | assumption | decide | omega | exact nq_ne1 (by assumption) (by assumption) | exact nq_ne2 (by assumption) (by assumption)) (by first | assumption | exact nq_gs (by assumption) | exact nq_gn (by first | assumption | decide | omega | exact nq_ne1 (by assumption) (by assumption) | exact nq_ne2 (by assumption) (by assumption)) (by assumption) | exact nq_ga (by assumption)))) rfl rfl (kc := 6 * m) (ks := 169 * m) (mc' := 1) (ms' := 3) (As := [.int _]) (rest := []) rfl rfl (by decide) (k_Mod_ask W1 P1 hup (by omega) (by omega) (by omega)) (fun E σ2 hq => ?_) (fun z σ2 hq => ?_)
      · obtain ⟨_, _, _, e, _⟩ := hq.k K1 mo_run_n
        cases e
      obtain ⟨x, v2, ar2, e, F2, W2, P2, h7, h0⟩ := hq.k K1 mo_run_n
      cases e
      obtain ⟨S2, O2⟩ := la_two R1 O1 F2 W2 P2
      unfold la_O at O2
      have l3 := F2.2.1
      have w2 := W2.1
      refine nq_istore (pc' := 329) d_Law_law_327 rfl (by decide) rfl ?_
      refine nq_aload_n (pc' := 330) d_Law_law_329 rfl rfl rfl ?_
      refine nq_callVR (pc' := 333) d_Law_law_330 rfl cl_Law_63 rfl (by first | assumption | exact nq_ga (by assumption) | exact nq_gs (by first | assumption | exact nq_ga (by assumption) | exact nq_gs (by first | assumption | exact nq_gs (by assumption) | exact nq_gn (by first | assumption | decide | omega | exact nq_ne1 (by assumption) (by assumption) | exact nq_ne2 (by assumption) (by assumption)) (by assumption) | exact nq_ga (by assumption)) | exact nq_gn (by first | assumption | decide | omega | exact nq_ne1 (by assumption) (by assumption) | exact nq_ne2 (by assumption) (by assumption)) (by first | assumption | exact nq_gs (by assumption) | exact nq_gn (by first | assumption | decide | omega | exact nq_ne1 (by assumption) (by assumption) | exact nq_ne2 (by assumption) (by assumption)) (by assumption) | exact nq_ga (by assumption))) | exact nq_gn (by first | assumption | decide | omega | exact nq_ne1 (by assumption) (by assumption) | exact nq_ne2 (by assumption) (by assumption)) (by first | assumption | exact nq_ga (by assumption) | exact nq_gs (by first | assumption | exact nq_gs (by assumption) | exact nq_gn (by first | assumption | decide | omega | exact nq_ne1 (by assumption) (by assumption) | exact nq_ne2 (by assumption) (by assumption)) (by assumption) | exact nq_ga (by assumption)) | exact nq_gn (by first | assumption | decide | omega | exact nq_ne1 (by assumption) (by assumption) | exact nq_ne2 (by assumption) (by assumption)) (by first | assumption | exact nq_gs (by assumption) | exact nq_gn (by first | assumption | decide | omega | exact nq_ne1 (by assumption) (by assumption) | exact nq_ne2 (by assumption) (by assumption)) (by assumption) | exact nq_ga (by assumption)))) rfl rfl (kc := 6 * m) (ks := 169 * m) (mc' := 0) (ms' := 0) (As := []) (rest := []) rfl rfl (by decide) (k_Mod_thrown W2) ?_
      rw [h7]
      refine nq_iload (pc' := 335) d_Law_law_333 rfl rfl ?_
      refine nq_icmp_eq (pc' := 338) (tgt := 340) d_Law_law_335 rfl (by decide) (fun _ => ?_) (fun h => absurd rfl h)
      refine nq_iload (pc' := 342) d_Law_law_340 rfl rfl ?_
      by_cases hk0 : k = 0
      · refine nq_if_ne (pc' := 345) (tgt := 357) d_Law_law_342 rfl (by decide) (fun h => absurd hk0 h) (fun _ => ?_)
        refine nq_aload_n (pc' := 346) d_Law_law_345 rfl rfl rfl ?_
        refine nq_iconst (v := 0) (pc' := 347) d_Law_law_346 rfl (by decide) ?_
        refine nq_lald (pc' := 348) d_Law_law_347 rfl (by first | assumption | exact nq_ga (by assumption) | exact nq_gs (by first | assumption | exact nq_ga (by assumption) | exact nq_gs (by first | assumption | exact nq_gs (by assumption) | exact nq_gn (by first | assumption | decide | omega | exact nq_ne1 (by assumption) (by assumption) | exact nq_ne2 (by assumption) (by assumption)) (by assumption) | exact nq_ga (by assumption)) | exact nq_gn (by first | assumption | decide | omega | exact nq_ne1 (by assumption) (by assumption) | exact nq_ne2 (by assumption) (by assumption)) (by first | assumption | exact nq_gs (by assumption) | exact nq_gn (by first | assumption | decide | omega | exact nq_ne1 (by assumption) (by assumption) | exact nq_ne2 (by assumption) (by assumption)) (by assumption) | exact nq_ga (by assumption))) | exact nq_gn (by first | assumption | decide | omega | exact nq_ne1 (by assumption) (by assumption) | exact nq_ne2 (by assumption) (by assumption)) (by first | assumption | exact nq_ga (by assumption) | exact nq_gs (by first | assumption | exact nq_gs (by assumption) | exact nq_gn (by first | assumption | decide | omega | exact nq_ne1 (by assumption) (by assumption) | exact nq_ne2 (by assumption) (by assumption)) (by assumption) | exact nq_ga (by assumption)) | exact nq_gn (by first | assumption | decide | omega | exact nq_ne1 (by assumption) (by assumption) | exact nq_ne2 (by assumption) (by assumption)) (by first | assumption | exact nq_gs (by assumption) | exact nq_gn (by first | assumption | decide | omega | exact nq_ne1 (by assumption) (by assumption) | exact nq_ne2 (by assumption) (by assumption)) (by assumption) | exact nq_ga (by assumption)))) rfl (j := 0) rfl (by decide) (by decide) ?_
        rw [h0 hk0]
        refine nq_iload (pc' := 350) d_Law_law_348 rfl rfl ?_
        refine nq_i2l (pc' := 351) d_Law_law_350 rfl ?_
        refine nq_lcmp (pc' := 352) d_Law_law_351 rfl ?_
        rw [lg_cmp_self]
        refine nq_if_eq (pc' := 355) (tgt := 357) d_Law_law_352 rfl (by decide) (fun _ => ?_) (fun h => absurd rfl h)
        refine nq_goto (tgt := 645) d_Law_law_357 (by decide) ?_
        exact next σ2 _ _ _ S2 (by omega)
      · refine nq_if_ne (pc' := 345) (tgt := 357) d_Law_law_342 rfl (by decide) (fun _ => ?_) (fun h => absurd h hk0)
        refine nq_goto (tgt := 645) d_Law_law_357 (by decide) ?_
        exact next σ2 _ _ _ S2 (by omega)
    · refine nq_J.le (kc := 6 * m + 0 + 1) (ks := 169 * m + 0 + 6) (by omega) (by omega) ?_
      refine nq_tableIn (off := 321) (tgt := 360) d_Law_law_39 (by decide) (by decide) (by decide) (by decide) ?_
      refine nq_aload_n (pc' := 361) d_Law_law_360 rfl rfl rfl ?_
      refine nq_aload_n (pc' := 362) d_Law_law_361 rfl rfl rfl ?_
      refine nq_iload (pc' := 364) d_Law_law_362 rfl rfl ?_
      refine nq_iconst (v := 1) (pc' := 365) d_Law_law_364 rfl (by decide) ?_
      refine nq_iadd (pc' := 366) d_Law_law_365 rfl ?_
      refine nq_sld (pc' := 367) d_Law_law_366 rfl (j := 4 * i + 1) (nI_add (4 * i) 1) (by omega) (by omega) ?_
      refine nq_aload_n (pc' := 368) d_Law_law_367 rfl rfl rfl ?_
      refine nq_iload (pc' := 370) d_Law_law_368 rfl rfl ?_
      refine nq_iconst (v := 2) (pc' := 371) d_Law_law_370 rfl (by decide) ?_
      refine nq_iadd (pc' := 372) d_Law_law_371 rfl ?_
      refine nq_sld (pc' := 373) d_Law_law_372 rfl (j := 4 * i + 2) (nI_add (4 * i) 2) (by omega) (by omega) ?_
      refine nq_aload_n (pc' := 374) d_Law_law_373 rfl rfl rfl ?_
      refine nq_callS (pc' := 377) d_Law_law_374 rfl cl_Law_77 st_Law_77 rfl (kc := 6 * m + 0) (ks := 169 * m + 0) (mc' := 1) (ms' := 6) (As := [.ref 0, .int _, .int _, .ref 287]) (rest := []) rfl rfl (by decide) (k_Law_value hR hO (by omega)) (fun E σ1 hq => ?_) (fun z σ1 hq => ?_)
      · obtain ⟨k, f1, e, _⟩ := hq.k
        cases e
      obtain ⟨k, f1, e, R1, L1, O1, K1⟩ := hq.k
      cases e
      have W1 : mo_W σ1 v ar := hW.of (fun j a b => L1.1 j a b)
      have P1 := hP
      have w1 := W1.1
      have l1 := L1.2.1
      have l2 := L1.2.2
      refine nq_istore (pc' := 379) d_Law_law_377 rfl (by decide) rfl ?_
      refine nq_aload_n (pc' := 380) d_Law_law_379 rfl rfl rfl ?_
      refine nq_aload_n (pc' := 381) d_Law_law_380 rfl rfl rfl ?_
      refine nq_iload (pc' := 383) d_Law_law_381 rfl rfl ?_
      refine nq_iconst (v := 1) (pc' := 384) d_Law_law_383 rfl (by decide) ?_
      refine nq_iadd (pc' := 385) d_Law_law_384 rfl ?_
      refine nq_sld (pc' := 386) d_Law_law_385 rfl (j := 4 * i + 1) (nI_add (4 * i) 1) (by omega) (by omega) ?_
      refine nq_aload_n (pc' := 387) d_Law_law_386 rfl rfl rfl ?_
      refine nq_iload (pc' := 389) d_Law_law_387 rfl rfl ?_
      refine nq_iconst (v := 2) (pc' := 390) d_Law_law_389 rfl (by decide) ?_
      refine nq_iadd (pc' := 391) d_Law_law_390 rfl ?_
      refine nq_sld (pc' := 392) d_Law_law_391 rfl (j := 4 * i + 2) (nI_add (4 * i) 2) (by omega) (by omega) ?_
      refine nq_callV (pc' := 395) d_Law_law_392 rfl cl_Law_79 rfl (by first | assumption | exact nq_ga (by assumption) | exact nq_gs (by first | assumption | exact nq_ga (by assumption) | exact nq_gs (by first | assumption | exact nq_gs (by assumption) | exact nq_gn (by first | assumption | decide | omega | exact nq_ne1 (by assumption) (by assumption) | exact nq_ne2 (by assumption) (by assumption)) (by assumption) | exact nq_ga (by assumption)) | exact nq_gn (by first | assumption | decide | omega | exact nq_ne1 (by assumption) (by assumption) | exact nq_ne2 (by assumption) (by assumption)) (by first | assumption | exact nq_gs (by assumption) | exact nq_gn (by first | assumption | decide | omega | exact nq_ne1 (by assumption) (by assumption) | exact nq_ne2 (by assumption) (by assumption)) (by assumption) | exact nq_ga (by assumption))) | exact nq_gn (by first | assumption | decide | omega | exact nq_ne1 (by assumption) (by assumption) | exact nq_ne2 (by assumption) (by assumption)) (by first | assumption | exact nq_ga (by assumption) | exact nq_gs (by first | assumption | exact nq_gs (by assumption) | exact nq_gn (by first | assumption | decide | omega | exact nq_ne1 (by assumption) (by assumption) | exact nq_ne2 (by assumption) (by assumption)) (by assumption) | exact nq_ga (by assumption)) | exact nq_gn (by first | assumption | decide | omega | exact nq_ne1 (by assumption) (by assumption) | exact nq_ne2 (by assumption) (by assumption)) (by first | assumption | exact nq_gs (by assumption) | exact nq_gn (by first | assumption | decide | omega | exact nq_ne1 (by assumption) (by assumption) | exact nq_ne2 (by assumption) (by assumption)) (by assumption) | exact nq_ga (by assumption)))) rfl rfl (kc := 6 * m) (ks := 169 * m) (mc' := 0) (ms' := 0) (As := [.int _, .int _]) (rest := []) rfl rfl (by decide) (k_Mod_value W1 P1 hw (by omega)) (fun E σ2 hq => ?_) (fun z σ2 hq => ?_)
      · obtain ⟨_, _, _, e, _⟩ := hq.k K1 mo_one_n
        cases e
      obtain ⟨x, v2, ar2, e, F2, W2, P2, h7, h0⟩ := hq.k K1 mo_one_n
      cases e
      obtain ⟨S2, O2⟩ := la_two R1 O1 F2 W2 P2
      unfold la_O at O2
      have l3 := F2.2.1
      have w2 := W2.1
      refine nq_istore (pc' := 397) d_Law_law_395 rfl (by decide) rfl ?_
      refine nq_aload_n (pc' := 398) d_Law_law_397 rfl rfl rfl ?_
      refine nq_callVR (pc' := 401) d_Law_law_398 rfl cl_Law_63 rfl (by first | assumption | exact nq_ga (by assumption) | exact nq_gs (by first | assumption | exact nq_ga (by assumption) | exact nq_gs (by first | assumption | exact nq_gs (by assumption) | exact nq_gn (by first | assumption | decide | omega | exact nq_ne1 (by assumption) (by assumption) | exact nq_ne2 (by assumption) (by assumption)) (by assumption) | exact nq_ga (by assumption)) | exact nq_gn (by first | assumption | decide | omega | exact nq_ne1 (by assumption) (by assumption) | exact nq_ne2 (by assumption) (by assumption)) (by first | assumption | exact nq_gs (by assumption) | exact nq_gn (by first | assumption | decide | omega | exact nq_ne1 (by assumption) (by assumption) | exact nq_ne2 (by assumption) (by assumption)) (by assumption) | exact nq_ga (by assumption))) | exact nq_gn (by first | assumption | decide | omega | exact nq_ne1 (by assumption) (by assumption) | exact nq_ne2 (by assumption) (by assumption)) (by first | assumption | exact nq_ga (by assumption) | exact nq_gs (by first | assumption | exact nq_gs (by assumption) | exact nq_gn (by first | assumption | decide | omega | exact nq_ne1 (by assumption) (by assumption) | exact nq_ne2 (by assumption) (by assumption)) (by assumption) | exact nq_ga (by assumption)) | exact nq_gn (by first | assumption | decide | omega | exact nq_ne1 (by assumption) (by assumption) | exact nq_ne2 (by assumption) (by assumption)) (by first | assumption | exact nq_gs (by assumption) | exact nq_gn (by first | assumption | decide | omega | exact nq_ne1 (by assumption) (by assumption) | exact nq_ne2 (by assumption) (by assumption)) (by assumption) | exact nq_ga (by assumption)))) rfl rfl (kc := 6 * m) (ks := 169 * m) (mc' := 0) (ms' := 0) (As := []) (rest := []) rfl rfl (by decide) (k_Mod_thrown W2) ?_
      rw [h7]
      refine nq_iload (pc' := 403) d_Law_law_401 rfl rfl ?_
      refine nq_icmp_eq (pc' := 406) (tgt := 408) d_Law_law_403 rfl (by decide) (fun _ => ?_) (fun h => absurd rfl h)
      refine nq_iload (pc' := 410) d_Law_law_408 rfl rfl ?_
      by_cases hk0 : k = 0
      · refine nq_if_ne (pc' := 413) (tgt := 425) d_Law_law_410 rfl (by decide) (fun h => absurd hk0 h) (fun _ => ?_)
        refine nq_aload_n (pc' := 414) d_Law_law_413 rfl rfl rfl ?_
        refine nq_iconst (v := 0) (pc' := 415) d_Law_law_414 rfl (by decide) ?_
        refine nq_lald (pc' := 416) d_Law_law_415 rfl (by first | assumption | exact nq_ga (by assumption) | exact nq_gs (by first | assumption | exact nq_ga (by assumption) | exact nq_gs (by first | assumption | exact nq_gs (by assumption) | exact nq_gn (by first | assumption | decide | omega | exact nq_ne1 (by assumption) (by assumption) | exact nq_ne2 (by assumption) (by assumption)) (by assumption) | exact nq_ga (by assumption)) | exact nq_gn (by first | assumption | decide | omega | exact nq_ne1 (by assumption) (by assumption) | exact nq_ne2 (by assumption) (by assumption)) (by first | assumption | exact nq_gs (by assumption) | exact nq_gn (by first | assumption | decide | omega | exact nq_ne1 (by assumption) (by assumption) | exact nq_ne2 (by assumption) (by assumption)) (by assumption) | exact nq_ga (by assumption))) | exact nq_gn (by first | assumption | decide | omega | exact nq_ne1 (by assumption) (by assumption) | exact nq_ne2 (by assumption) (by assumption)) (by first | assumption | exact nq_ga (by assumption) | exact nq_gs (by first | assumption | exact nq_gs (by assumption) | exact nq_gn (by first | assumption | decide | omega | exact nq_ne1 (by assumption) (by assumption) | exact nq_ne2 (by assumption) (by assumption)) (by assumption) | exact nq_ga (by assumption)) | exact nq_gn (by first | assumption | decide | omega | exact nq_ne1 (by assumption) (by assumption) | exact nq_ne2 (by assumption) (by assumption)) (by first | assumption | exact nq_gs (by assumption) | exact nq_gn (by first | assumption | decide | omega | exact nq_ne1 (by assumption) (by assumption) | exact nq_ne2 (by assumption) (by assumption)) (by assumption) | exact nq_ga (by assumption)))) rfl (j := 0) rfl (by decide) (by decide) ?_
        rw [h0 hk0]
        refine nq_iload (pc' := 418) d_Law_law_416 rfl rfl ?_
        refine nq_i2l (pc' := 419) d_Law_law_418 rfl ?_
        refine nq_lcmp (pc' := 420) d_Law_law_419 rfl ?_
        rw [lg_cmp_self]
        refine nq_if_eq (pc' := 423) (tgt := 425) d_Law_law_420 rfl (by decide) (fun _ => ?_) (fun h => absurd rfl h)
        refine nq_goto (tgt := 645) d_Law_law_425 (by decide) ?_
        exact next σ2 _ _ _ S2 (by omega)
      · refine nq_if_ne (pc' := 413) (tgt := 425) d_Law_law_410 rfl (by decide) (fun _ => ?_) (fun h => absurd h hk0)
        refine nq_goto (tgt := 645) d_Law_law_425 (by decide) ?_
        exact next σ2 _ _ _ S2 (by omega)
    · refine nq_J.le (kc := 6 * m + 0 + 1) (ks := 169 * m + 0 + 6) (by omega) (by omega) ?_
      refine nq_tableIn (off := 389) (tgt := 428) d_Law_law_39 (by decide) (by decide) (by decide) (by decide) ?_
      refine nq_aload_n (pc' := 429) d_Law_law_428 rfl rfl rfl ?_
      refine nq_aload_n (pc' := 430) d_Law_law_429 rfl rfl rfl ?_
      refine nq_iload (pc' := 432) d_Law_law_430 rfl rfl ?_
      refine nq_iconst (v := 1) (pc' := 433) d_Law_law_432 rfl (by decide) ?_
      refine nq_iadd (pc' := 434) d_Law_law_433 rfl ?_
      refine nq_sld (pc' := 435) d_Law_law_434 rfl (j := 4 * i + 1) (nI_add (4 * i) 1) (by omega) (by omega) ?_
      refine nq_aload_n (pc' := 436) d_Law_law_435 rfl rfl rfl ?_
      refine nq_iload (pc' := 438) d_Law_law_436 rfl rfl ?_
      refine nq_iconst (v := 2) (pc' := 439) d_Law_law_438 rfl (by decide) ?_
      refine nq_iadd (pc' := 440) d_Law_law_439 rfl ?_
      refine nq_sld (pc' := 441) d_Law_law_440 rfl (j := 4 * i + 2) (nI_add (4 * i) 2) (by omega) (by omega) ?_
      refine nq_aload_n (pc' := 442) d_Law_law_441 rfl rfl rfl ?_
      refine nq_iload (pc' := 444) d_Law_law_442 rfl rfl ?_
      refine nq_iconst (v := 3) (pc' := 445) d_Law_law_444 rfl (by decide) ?_
      refine nq_iadd (pc' := 446) d_Law_law_445 rfl ?_
      refine nq_sld (pc' := 447) d_Law_law_446 rfl (j := 4 * i + 3) (nI_add (4 * i) 3) (by omega) (by omega) ?_
      refine nq_aload_n (pc' := 448) d_Law_law_447 rfl rfl rfl ?_
      refine nq_callS (pc' := 451) d_Law_law_448 rfl cl_Law_80 st_Law_80 rfl (kc := 6 * m + 0) (ks := 169 * m + 0) (mc' := 1) (ms' := 6) (As := [.ref 0, .int _, .int _, .int _, .ref 287]) (rest := []) rfl rfl (by decide) (k_Law_row hR hO (by omega)) (fun E σ1 hq => ?_) (fun z σ1 hq => ?_)
      · obtain ⟨k, f1, e, _⟩ := hq.k
        cases e
      obtain ⟨k, f1, e, R1, L1, O1, K1⟩ := hq.k
      cases e
      have W1 : mo_W σ1 v ar := hW.of (fun j a b => L1.1 j a b)
      have P1 := hP
      have w1 := W1.1
      have l1 := L1.2.1
      have l2 := L1.2.2
      refine nq_istore (pc' := 453) d_Law_law_451 rfl (by decide) rfl ?_
      refine nq_aload_n (pc' := 454) d_Law_law_453 rfl rfl rfl ?_
      refine nq_aload_n (pc' := 455) d_Law_law_454 rfl rfl rfl ?_
      refine nq_iload (pc' := 457) d_Law_law_455 rfl rfl ?_
      refine nq_iconst (v := 1) (pc' := 458) d_Law_law_457 rfl (by decide) ?_
      refine nq_iadd (pc' := 459) d_Law_law_458 rfl ?_
      refine nq_sld (pc' := 460) d_Law_law_459 rfl (j := 4 * i + 1) (nI_add (4 * i) 1) (by omega) (by omega) ?_
      refine nq_aload_n (pc' := 461) d_Law_law_460 rfl rfl rfl ?_
      refine nq_iload (pc' := 463) d_Law_law_461 rfl rfl ?_
      refine nq_iconst (v := 2) (pc' := 464) d_Law_law_463 rfl (by decide) ?_
      refine nq_iadd (pc' := 465) d_Law_law_464 rfl ?_
      refine nq_sld (pc' := 466) d_Law_law_465 rfl (j := 4 * i + 2) (nI_add (4 * i) 2) (by omega) (by omega) ?_
      refine nq_aload_n (pc' := 467) d_Law_law_466 rfl rfl rfl ?_
      refine nq_iload (pc' := 469) d_Law_law_467 rfl rfl ?_
      refine nq_iconst (v := 3) (pc' := 470) d_Law_law_469 rfl (by decide) ?_
      refine nq_iadd (pc' := 471) d_Law_law_470 rfl ?_
      refine nq_sld (pc' := 472) d_Law_law_471 rfl (j := 4 * i + 3) (nI_add (4 * i) 3) (by omega) (by omega) ?_
      refine nq_callV (pc' := 475) d_Law_law_472 rfl cl_Law_83 rfl (by first | assumption | exact nq_ga (by assumption) | exact nq_gs (by first | assumption | exact nq_ga (by assumption) | exact nq_gs (by first | assumption | exact nq_gs (by assumption) | exact nq_gn (by first | assumption | decide | omega | exact nq_ne1 (by assumption) (by assumption) | exact nq_ne2 (by assumption) (by assumption)) (by assumption) | exact nq_ga (by assumption)) | exact nq_gn (by first | assumption | decide | omega | exact nq_ne1 (by assumption) (by assumption) | exact nq_ne2 (by assumption) (by assumption)) (by first | assumption | exact nq_gs (by assumption) | exact nq_gn (by first | assumption | decide | omega | exact nq_ne1 (by assumption) (by assumption) | exact nq_ne2 (by assumption) (by assumption)) (by assumption) | exact nq_ga (by assumption))) | exact nq_gn (by first | assumption | decide | omega | exact nq_ne1 (by assumption) (by assumption) | exact nq_ne2 (by assumption) (by assumption)) (by first | assumption | exact nq_ga (by assumption) | exact nq_gs (by first | assumption | exact nq_gs (by assumption) | exact nq_gn (by first | assumption | decide | omega | exact nq_ne1 (by assumption) (by assumption) | exact nq_ne2 (by assumption) (by assumption)) (by assumption) | exact nq_ga (by assumption)) | exact nq_gn (by first | assumption | decide | omega | exact nq_ne1 (by assumption) (by assumption) | exact nq_ne2 (by assumption) (by assumption)) (by first | assumption | exact nq_gs (by assumption) | exact nq_gn (by first | assumption | decide | omega | exact nq_ne1 (by assumption) (by assumption) | exact nq_ne2 (by assumption) (by assumption)) (by assumption) | exact nq_ga (by assumption)))) rfl rfl (kc := 6 * m) (ks := 169 * m) (mc' := 0) (ms' := 0) (As := [.int _, .int _, .int _]) (rest := []) rfl rfl (by decide) (k_Mod_row W1 P1 (by omega)) (fun E σ2 hq => ?_) (fun z σ2 hq => ?_)
      · obtain ⟨_, _, _, e, _⟩ := hq.k K1 mo_rwc_n
        cases e
      obtain ⟨x, v2, ar2, e, F2, W2, P2, h7, h0⟩ := hq.k K1 mo_rwc_n
      cases e
      obtain ⟨S2, O2⟩ := la_two R1 O1 F2 W2 P2
      unfold la_O at O2
      have l3 := F2.2.1
      have w2 := W2.1
      refine nq_istore (pc' := 477) d_Law_law_475 rfl (by decide) rfl ?_
      refine nq_aload_n (pc' := 478) d_Law_law_477 rfl rfl rfl ?_
      refine nq_callVR (pc' := 481) d_Law_law_478 rfl cl_Law_63 rfl (by first | assumption | exact nq_ga (by assumption) | exact nq_gs (by first | assumption | exact nq_ga (by assumption) | exact nq_gs (by first | assumption | exact nq_gs (by assumption) | exact nq_gn (by first | assumption | decide | omega | exact nq_ne1 (by assumption) (by assumption) | exact nq_ne2 (by assumption) (by assumption)) (by assumption) | exact nq_ga (by assumption)) | exact nq_gn (by first | assumption | decide | omega | exact nq_ne1 (by assumption) (by assumption) | exact nq_ne2 (by assumption) (by assumption)) (by first | assumption | exact nq_gs (by assumption) | exact nq_gn (by first | assumption | decide | omega | exact nq_ne1 (by assumption) (by assumption) | exact nq_ne2 (by assumption) (by assumption)) (by assumption) | exact nq_ga (by assumption))) | exact nq_gn (by first | assumption | decide | omega | exact nq_ne1 (by assumption) (by assumption) | exact nq_ne2 (by assumption) (by assumption)) (by first | assumption | exact nq_ga (by assumption) | exact nq_gs (by first | assumption | exact nq_gs (by assumption) | exact nq_gn (by first | assumption | decide | omega | exact nq_ne1 (by assumption) (by assumption) | exact nq_ne2 (by assumption) (by assumption)) (by assumption) | exact nq_ga (by assumption)) | exact nq_gn (by first | assumption | decide | omega | exact nq_ne1 (by assumption) (by assumption) | exact nq_ne2 (by assumption) (by assumption)) (by first | assumption | exact nq_gs (by assumption) | exact nq_gn (by first | assumption | decide | omega | exact nq_ne1 (by assumption) (by assumption) | exact nq_ne2 (by assumption) (by assumption)) (by assumption) | exact nq_ga (by assumption)))) rfl rfl (kc := 6 * m) (ks := 169 * m) (mc' := 0) (ms' := 0) (As := []) (rest := []) rfl rfl (by decide) (k_Mod_thrown W2) ?_
      rw [h7]
      refine nq_iload (pc' := 483) d_Law_law_481 rfl rfl ?_
      refine nq_icmp_eq (pc' := 486) (tgt := 488) d_Law_law_483 rfl (by decide) (fun _ => ?_) (fun h => absurd rfl h)
      refine nq_iload (pc' := 490) d_Law_law_488 rfl rfl ?_
      by_cases hk0 : k = 0
      · refine nq_if_ne (pc' := 493) (tgt := 505) d_Law_law_490 rfl (by decide) (fun h => absurd hk0 h) (fun _ => ?_)
        refine nq_aload_n (pc' := 494) d_Law_law_493 rfl rfl rfl ?_
        refine nq_iconst (v := 0) (pc' := 495) d_Law_law_494 rfl (by decide) ?_
        refine nq_lald (pc' := 496) d_Law_law_495 rfl (by first | assumption | exact nq_ga (by assumption) | exact nq_gs (by first | assumption | exact nq_ga (by assumption) | exact nq_gs (by first | assumption | exact nq_gs (by assumption) | exact nq_gn (by first | assumption | decide | omega | exact nq_ne1 (by assumption) (by assumption) | exact nq_ne2 (by assumption) (by assumption)) (by assumption) | exact nq_ga (by assumption)) | exact nq_gn (by first | assumption | decide | omega | exact nq_ne1 (by assumption) (by assumption) | exact nq_ne2 (by assumption) (by assumption)) (by first | assumption | exact nq_gs (by assumption) | exact nq_gn (by first | assumption | decide | omega | exact nq_ne1 (by assumption) (by assumption) | exact nq_ne2 (by assumption) (by assumption)) (by assumption) | exact nq_ga (by assumption))) | exact nq_gn (by first | assumption | decide | omega | exact nq_ne1 (by assumption) (by assumption) | exact nq_ne2 (by assumption) (by assumption)) (by first | assumption | exact nq_ga (by assumption) | exact nq_gs (by first | assumption | exact nq_gs (by assumption) | exact nq_gn (by first | assumption | decide | omega | exact nq_ne1 (by assumption) (by assumption) | exact nq_ne2 (by assumption) (by assumption)) (by assumption) | exact nq_ga (by assumption)) | exact nq_gn (by first | assumption | decide | omega | exact nq_ne1 (by assumption) (by assumption) | exact nq_ne2 (by assumption) (by assumption)) (by first | assumption | exact nq_gs (by assumption) | exact nq_gn (by first | assumption | decide | omega | exact nq_ne1 (by assumption) (by assumption) | exact nq_ne2 (by assumption) (by assumption)) (by assumption) | exact nq_ga (by assumption)))) rfl (j := 0) rfl (by decide) (by decide) ?_
        rw [h0 hk0]
        refine nq_iload (pc' := 498) d_Law_law_496 rfl rfl ?_
        refine nq_i2l (pc' := 499) d_Law_law_498 rfl ?_
        refine nq_lcmp (pc' := 500) d_Law_law_499 rfl ?_
        rw [lg_cmp_self]
        refine nq_if_eq (pc' := 503) (tgt := 505) d_Law_law_500 rfl (by decide) (fun _ => ?_) (fun h => absurd rfl h)
        refine nq_goto (tgt := 645) d_Law_law_505 (by decide) ?_
        exact next σ2 _ _ _ S2 (by omega)
      · refine nq_if_ne (pc' := 493) (tgt := 505) d_Law_law_490 rfl (by decide) (fun _ => ?_) (fun h => absurd h hk0)
        refine nq_goto (tgt := 645) d_Law_law_505 (by decide) ?_
        exact next σ2 _ _ _ S2 (by omega)
    · refine nq_J.le (kc := 6 * m + 0 + 1) (ks := 169 * m + 0 + 6) (by omega) (by omega) ?_
      refine nq_tableIn (off := 469) (tgt := 508) d_Law_law_39 (by decide) (by decide) (by decide) (by decide) ?_
      refine nq_aload_n (pc' := 509) d_Law_law_508 rfl rfl rfl ?_
      refine nq_callS (pc' := 512) d_Law_law_509 rfl cl_Law_84 st_Law_84 rfl (kc := 6 * m + 0) (ks := 169 * m + 0) (mc' := 1) (ms' := 6) (As := [.ref 0]) (rest := []) rfl rfl (by decide) (k_Law_begin hR hO (by omega)) (fun E σ1 hq => ?_) (fun z σ1 hq => ?_)
      · obtain ⟨k, f1, e, _⟩ := hq.k
        cases e
      obtain ⟨k, f1, e, R1, L1, O1, K1⟩ := hq.k
      cases e
      have W1 : mo_W σ1 v ar := hW.of (fun j a b => L1.1 j a b)
      have P1 := hP
      have w1 := W1.1
      have l1 := L1.2.1
      have l2 := L1.2.2
      refine nq_istore (pc' := 514) d_Law_law_512 rfl (by decide) rfl ?_
      refine nq_aload_n (pc' := 515) d_Law_law_514 rfl rfl rfl ?_
      refine nq_callV (pc' := 518) d_Law_law_515 rfl cl_Law_87 rfl (by first | assumption | exact nq_ga (by assumption) | exact nq_gs (by first | assumption | exact nq_ga (by assumption) | exact nq_gs (by first | assumption | exact nq_gs (by assumption) | exact nq_gn (by first | assumption | decide | omega | exact nq_ne1 (by assumption) (by assumption) | exact nq_ne2 (by assumption) (by assumption)) (by assumption) | exact nq_ga (by assumption)) | exact nq_gn (by first | assumption | decide | omega | exact nq_ne1 (by assumption) (by assumption) | exact nq_ne2 (by assumption) (by assumption)) (by first | assumption | exact nq_gs (by assumption) | exact nq_gn (by first | assumption | decide | omega | exact nq_ne1 (by assumption) (by assumption) | exact nq_ne2 (by assumption) (by assumption)) (by assumption) | exact nq_ga (by assumption))) | exact nq_gn (by first | assumption | decide | omega | exact nq_ne1 (by assumption) (by assumption) | exact nq_ne2 (by assumption) (by assumption)) (by first | assumption | exact nq_ga (by assumption) | exact nq_gs (by first | assumption | exact nq_gs (by assumption) | exact nq_gn (by first | assumption | decide | omega | exact nq_ne1 (by assumption) (by assumption) | exact nq_ne2 (by assumption) (by assumption)) (by assumption) | exact nq_ga (by assumption)) | exact nq_gn (by first | assumption | decide | omega | exact nq_ne1 (by assumption) (by assumption) | exact nq_ne2 (by assumption) (by assumption)) (by first | assumption | exact nq_gs (by assumption) | exact nq_gn (by first | assumption | decide | omega | exact nq_ne1 (by assumption) (by assumption) | exact nq_ne2 (by assumption) (by assumption)) (by assumption) | exact nq_ga (by assumption)))) rfl rfl (kc := 6 * m) (ks := 169 * m) (mc' := 0) (ms' := 0) (As := []) (rest := []) rfl rfl (by decide) (k_Mod_begin W1 P1 hw) (fun E σ2 hq => ?_) (fun z σ2 hq => ?_)
      · obtain ⟨_, _, e, _⟩ := hq.k K1
        cases e
      obtain ⟨v2, ar2, e, F2, W2, P2, h7⟩ := hq.k K1
      cases e
      obtain ⟨S2, O2⟩ := la_two R1 O1 F2 W2 P2
      unfold la_O at O2
      have l3 := F2.2.1
      have w2 := W2.1
      refine nq_aload_n (pc' := 519) d_Law_law_518 rfl rfl rfl ?_
      refine nq_callVR (pc' := 522) d_Law_law_519 rfl cl_Law_63 rfl (by first | assumption | exact nq_ga (by assumption) | exact nq_gs (by first | assumption | exact nq_ga (by assumption) | exact nq_gs (by first | assumption | exact nq_gs (by assumption) | exact nq_gn (by first | assumption | decide | omega | exact nq_ne1 (by assumption) (by assumption) | exact nq_ne2 (by assumption) (by assumption)) (by assumption) | exact nq_ga (by assumption)) | exact nq_gn (by first | assumption | decide | omega | exact nq_ne1 (by assumption) (by assumption) | exact nq_ne2 (by assumption) (by assumption)) (by first | assumption | exact nq_gs (by assumption) | exact nq_gn (by first | assumption | decide | omega | exact nq_ne1 (by assumption) (by assumption) | exact nq_ne2 (by assumption) (by assumption)) (by assumption) | exact nq_ga (by assumption))) | exact nq_gn (by first | assumption | decide | omega | exact nq_ne1 (by assumption) (by assumption) | exact nq_ne2 (by assumption) (by assumption)) (by first | assumption | exact nq_ga (by assumption) | exact nq_gs (by first | assumption | exact nq_gs (by assumption) | exact nq_gn (by first | assumption | decide | omega | exact nq_ne1 (by assumption) (by assumption) | exact nq_ne2 (by assumption) (by assumption)) (by assumption) | exact nq_ga (by assumption)) | exact nq_gn (by first | assumption | decide | omega | exact nq_ne1 (by assumption) (by assumption) | exact nq_ne2 (by assumption) (by assumption)) (by first | assumption | exact nq_gs (by assumption) | exact nq_gn (by first | assumption | decide | omega | exact nq_ne1 (by assumption) (by assumption) | exact nq_ne2 (by assumption) (by assumption)) (by assumption) | exact nq_ga (by assumption)))) rfl rfl (kc := 6 * m) (ks := 169 * m) (mc' := 0) (ms' := 0) (As := []) (rest := []) rfl rfl (by decide) (k_Mod_thrown W2) ?_
      rw [h7]
      refine nq_iload (pc' := 524) d_Law_law_522 rfl rfl ?_
      refine nq_icmp_eq (pc' := 527) (tgt := 529) d_Law_law_524 rfl (by decide) (fun _ => ?_) (fun h => absurd rfl h)
      refine nq_goto (tgt := 645) d_Law_law_529 (by decide) ?_
      exact next σ2 _ _ _ S2 (by omega)
    · refine nq_J.le (kc := 6 * m + 0 + 1) (ks := 169 * m + 0 + 6) (by omega) (by omega) ?_
      refine nq_tableIn (off := 493) (tgt := 532) d_Law_law_39 (by decide) (by decide) (by decide) (by decide) ?_
      refine nq_aload_n (pc' := 533) d_Law_law_532 rfl rfl rfl ?_
      refine nq_aload_n (pc' := 534) d_Law_law_533 rfl rfl rfl ?_
      refine nq_callS (pc' := 537) d_Law_law_534 rfl cl_Law_88 st_Law_88 rfl (kc := 6 * m + 0) (ks := 169 * m + 0) (mc' := 1) (ms' := 6) (As := [.ref 0, .ref 287]) (rest := []) rfl rfl (by decide) (k_Law_end hR hO (by omega)) (fun E σ1 hq => ?_) (fun z σ1 hq => ?_)
      · obtain ⟨k, f1, e, _⟩ := hq.k
        cases e
      obtain ⟨k, f1, e, R1, L1, O1, K1⟩ := hq.k
      cases e
      have W1 : mo_W σ1 v ar := hW.of (fun j a b => L1.1 j a b)
      have P1 := hP
      have w1 := W1.1
      have l1 := L1.2.1
      have l2 := L1.2.2
      refine nq_istore (pc' := 539) d_Law_law_537 rfl (by decide) rfl ?_
      refine nq_aload_n (pc' := 540) d_Law_law_539 rfl rfl rfl ?_
      refine nq_callV (pc' := 543) d_Law_law_540 rfl cl_Law_91 rfl (by first | assumption | exact nq_ga (by assumption) | exact nq_gs (by first | assumption | exact nq_ga (by assumption) | exact nq_gs (by first | assumption | exact nq_gs (by assumption) | exact nq_gn (by first | assumption | decide | omega | exact nq_ne1 (by assumption) (by assumption) | exact nq_ne2 (by assumption) (by assumption)) (by assumption) | exact nq_ga (by assumption)) | exact nq_gn (by first | assumption | decide | omega | exact nq_ne1 (by assumption) (by assumption) | exact nq_ne2 (by assumption) (by assumption)) (by first | assumption | exact nq_gs (by assumption) | exact nq_gn (by first | assumption | decide | omega | exact nq_ne1 (by assumption) (by assumption) | exact nq_ne2 (by assumption) (by assumption)) (by assumption) | exact nq_ga (by assumption))) | exact nq_gn (by first | assumption | decide | omega | exact nq_ne1 (by assumption) (by assumption) | exact nq_ne2 (by assumption) (by assumption)) (by first | assumption | exact nq_ga (by assumption) | exact nq_gs (by first | assumption | exact nq_gs (by assumption) | exact nq_gn (by first | assumption | decide | omega | exact nq_ne1 (by assumption) (by assumption) | exact nq_ne2 (by assumption) (by assumption)) (by assumption) | exact nq_ga (by assumption)) | exact nq_gn (by first | assumption | decide | omega | exact nq_ne1 (by assumption) (by assumption) | exact nq_ne2 (by assumption) (by assumption)) (by first | assumption | exact nq_gs (by assumption) | exact nq_gn (by first | assumption | decide | omega | exact nq_ne1 (by assumption) (by assumption) | exact nq_ne2 (by assumption) (by assumption)) (by assumption) | exact nq_ga (by assumption)))) rfl rfl (kc := 6 * m) (ks := 169 * m) (mc' := 0) (ms' := 0) (As := []) (rest := []) rfl rfl (by decide) (k_Mod_end W1 P1 hw (by omega)) (fun E σ2 hq => ?_) (fun z σ2 hq => ?_)
      · obtain ⟨_, _, _, e, _⟩ := hq.k K1 mo_one_n
        cases e
      obtain ⟨x, v2, ar2, e, F2, W2, P2, h7, h0⟩ := hq.k K1 mo_one_n
      cases e
      obtain ⟨S2, O2⟩ := la_two R1 O1 F2 W2 P2
      unfold la_O at O2
      have l3 := F2.2.1
      have w2 := W2.1
      refine nq_istore (pc' := 545) d_Law_law_543 rfl (by decide) rfl ?_
      refine nq_aload_n (pc' := 546) d_Law_law_545 rfl rfl rfl ?_
      refine nq_callVR (pc' := 549) d_Law_law_546 rfl cl_Law_63 rfl (by first | assumption | exact nq_ga (by assumption) | exact nq_gs (by first | assumption | exact nq_ga (by assumption) | exact nq_gs (by first | assumption | exact nq_gs (by assumption) | exact nq_gn (by first | assumption | decide | omega | exact nq_ne1 (by assumption) (by assumption) | exact nq_ne2 (by assumption) (by assumption)) (by assumption) | exact nq_ga (by assumption)) | exact nq_gn (by first | assumption | decide | omega | exact nq_ne1 (by assumption) (by assumption) | exact nq_ne2 (by assumption) (by assumption)) (by first | assumption | exact nq_gs (by assumption) | exact nq_gn (by first | assumption | decide | omega | exact nq_ne1 (by assumption) (by assumption) | exact nq_ne2 (by assumption) (by assumption)) (by assumption) | exact nq_ga (by assumption))) | exact nq_gn (by first | assumption | decide | omega | exact nq_ne1 (by assumption) (by assumption) | exact nq_ne2 (by assumption) (by assumption)) (by first | assumption | exact nq_ga (by assumption) | exact nq_gs (by first | assumption | exact nq_gs (by assumption) | exact nq_gn (by first | assumption | decide | omega | exact nq_ne1 (by assumption) (by assumption) | exact nq_ne2 (by assumption) (by assumption)) (by assumption) | exact nq_ga (by assumption)) | exact nq_gn (by first | assumption | decide | omega | exact nq_ne1 (by assumption) (by assumption) | exact nq_ne2 (by assumption) (by assumption)) (by first | assumption | exact nq_gs (by assumption) | exact nq_gn (by first | assumption | decide | omega | exact nq_ne1 (by assumption) (by assumption) | exact nq_ne2 (by assumption) (by assumption)) (by assumption) | exact nq_ga (by assumption)))) rfl rfl (kc := 6 * m) (ks := 169 * m) (mc' := 0) (ms' := 0) (As := []) (rest := []) rfl rfl (by decide) (k_Mod_thrown W2) ?_
      rw [h7]
      refine nq_iload (pc' := 551) d_Law_law_549 rfl rfl ?_
      refine nq_icmp_eq (pc' := 554) (tgt := 556) d_Law_law_551 rfl (by decide) (fun _ => ?_) (fun h => absurd rfl h)
      refine nq_iload (pc' := 558) d_Law_law_556 rfl rfl ?_
      by_cases hk0 : k = 0
      · refine nq_if_ne (pc' := 561) (tgt := 573) d_Law_law_558 rfl (by decide) (fun h => absurd hk0 h) (fun _ => ?_)
        refine nq_aload_n (pc' := 562) d_Law_law_561 rfl rfl rfl ?_
        refine nq_iconst (v := 0) (pc' := 563) d_Law_law_562 rfl (by decide) ?_
        refine nq_lald (pc' := 564) d_Law_law_563 rfl (by first | assumption | exact nq_ga (by assumption) | exact nq_gs (by first | assumption | exact nq_ga (by assumption) | exact nq_gs (by first | assumption | exact nq_gs (by assumption) | exact nq_gn (by first | assumption | decide | omega | exact nq_ne1 (by assumption) (by assumption) | exact nq_ne2 (by assumption) (by assumption)) (by assumption) | exact nq_ga (by assumption)) | exact nq_gn (by first | assumption | decide | omega | exact nq_ne1 (by assumption) (by assumption) | exact nq_ne2 (by assumption) (by assumption)) (by first | assumption | exact nq_gs (by assumption) | exact nq_gn (by first | assumption | decide | omega | exact nq_ne1 (by assumption) (by assumption) | exact nq_ne2 (by assumption) (by assumption)) (by assumption) | exact nq_ga (by assumption))) | exact nq_gn (by first | assumption | decide | omega | exact nq_ne1 (by assumption) (by assumption) | exact nq_ne2 (by assumption) (by assumption)) (by first | assumption | exact nq_ga (by assumption) | exact nq_gs (by first | assumption | exact nq_gs (by assumption) | exact nq_gn (by first | assumption | decide | omega | exact nq_ne1 (by assumption) (by assumption) | exact nq_ne2 (by assumption) (by assumption)) (by assumption) | exact nq_ga (by assumption)) | exact nq_gn (by first | assumption | decide | omega | exact nq_ne1 (by assumption) (by assumption) | exact nq_ne2 (by assumption) (by assumption)) (by first | assumption | exact nq_gs (by assumption) | exact nq_gn (by first | assumption | decide | omega | exact nq_ne1 (by assumption) (by assumption) | exact nq_ne2 (by assumption) (by assumption)) (by assumption) | exact nq_ga (by assumption)))) rfl (j := 0) rfl (by decide) (by decide) ?_
        rw [h0 hk0]
        refine nq_iload (pc' := 566) d_Law_law_564 rfl rfl ?_
        refine nq_i2l (pc' := 567) d_Law_law_566 rfl ?_
        refine nq_lcmp (pc' := 568) d_Law_law_567 rfl ?_
        rw [lg_cmp_self]
        refine nq_if_eq (pc' := 571) (tgt := 573) d_Law_law_568 rfl (by decide) (fun _ => ?_) (fun h => absurd rfl h)
        refine nq_goto (tgt := 645) d_Law_law_573 (by decide) ?_
        exact next σ2 _ _ _ S2 (by omega)
      · refine nq_if_ne (pc' := 561) (tgt := 573) d_Law_law_558 rfl (by decide) (fun _ => ?_) (fun h => absurd h hk0)
        refine nq_goto (tgt := 645) d_Law_law_573 (by decide) ?_
        exact next σ2 _ _ _ S2 (by omega)
    · refine nq_J.le (kc := 6 * m + 0 + 1) (ks := 169 * m + 0 + 6) (by omega) (by omega) ?_
      refine nq_tableIn (off := 537) (tgt := 576) d_Law_law_39 (by decide) (by decide) (by decide) (by decide) ?_
      refine nq_aload_n (pc' := 577) d_Law_law_576 rfl rfl rfl ?_
      refine nq_aload_n (pc' := 578) d_Law_law_577 rfl rfl rfl ?_
      refine nq_callS (pc' := 581) d_Law_law_578 rfl cl_Law_92 st_Law_92 rfl (kc := 6 * m + 0) (ks := 169 * m + 0) (mc' := 1) (ms' := 6) (As := [.ref 0, .ref 287]) (rest := []) rfl rfl (by decide) (k_Law_back hR hO (by omega)) (fun E σ1 hq => ?_) (fun z σ1 hq => ?_)
      · obtain ⟨k, f1, e, _⟩ := hq.k
        cases e
      obtain ⟨k, f1, e, R1, L1, O1, K1⟩ := hq.k
      cases e
      have W1 : mo_W σ1 v ar := hW.of (fun j a b => L1.1 j a b)
      have P1 := hP
      have w1 := W1.1
      have l1 := L1.2.1
      have l2 := L1.2.2
      refine nq_istore (pc' := 583) d_Law_law_581 rfl (by decide) rfl ?_
      refine nq_aload_n (pc' := 584) d_Law_law_583 rfl rfl rfl ?_
      refine nq_callV (pc' := 587) d_Law_law_584 rfl cl_Law_94 rfl (by first | assumption | exact nq_ga (by assumption) | exact nq_gs (by first | assumption | exact nq_ga (by assumption) | exact nq_gs (by first | assumption | exact nq_gs (by assumption) | exact nq_gn (by first | assumption | decide | omega | exact nq_ne1 (by assumption) (by assumption) | exact nq_ne2 (by assumption) (by assumption)) (by assumption) | exact nq_ga (by assumption)) | exact nq_gn (by first | assumption | decide | omega | exact nq_ne1 (by assumption) (by assumption) | exact nq_ne2 (by assumption) (by assumption)) (by first | assumption | exact nq_gs (by assumption) | exact nq_gn (by first | assumption | decide | omega | exact nq_ne1 (by assumption) (by assumption) | exact nq_ne2 (by assumption) (by assumption)) (by assumption) | exact nq_ga (by assumption))) | exact nq_gn (by first | assumption | decide | omega | exact nq_ne1 (by assumption) (by assumption) | exact nq_ne2 (by assumption) (by assumption)) (by first | assumption | exact nq_ga (by assumption) | exact nq_gs (by first | assumption | exact nq_gs (by assumption) | exact nq_gn (by first | assumption | decide | omega | exact nq_ne1 (by assumption) (by assumption) | exact nq_ne2 (by assumption) (by assumption)) (by assumption) | exact nq_ga (by assumption)) | exact nq_gn (by first | assumption | decide | omega | exact nq_ne1 (by assumption) (by assumption) | exact nq_ne2 (by assumption) (by assumption)) (by first | assumption | exact nq_gs (by assumption) | exact nq_gn (by first | assumption | decide | omega | exact nq_ne1 (by assumption) (by assumption) | exact nq_ne2 (by assumption) (by assumption)) (by assumption) | exact nq_ga (by assumption)))) rfl rfl (kc := 6 * m) (ks := 169 * m) (mc' := 0) (ms' := 0) (As := []) (rest := []) rfl rfl (by decide) (k_Mod_back W1 P1 hw (by omega)) (fun E σ2 hq => ?_) (fun z σ2 hq => ?_)
      · obtain ⟨_, _, _, e, _⟩ := hq.k K1 mo_one_n
        cases e
      obtain ⟨x, v2, ar2, e, F2, W2, P2, h7, h0⟩ := hq.k K1 mo_one_n
      cases e
      obtain ⟨S2, O2⟩ := la_two R1 O1 F2 W2 P2
      unfold la_O at O2
      have l3 := F2.2.1
      have w2 := W2.1
      refine nq_istore (pc' := 589) d_Law_law_587 rfl (by decide) rfl ?_
      refine nq_aload_n (pc' := 590) d_Law_law_589 rfl rfl rfl ?_
      refine nq_callVR (pc' := 593) d_Law_law_590 rfl cl_Law_63 rfl (by first | assumption | exact nq_ga (by assumption) | exact nq_gs (by first | assumption | exact nq_ga (by assumption) | exact nq_gs (by first | assumption | exact nq_gs (by assumption) | exact nq_gn (by first | assumption | decide | omega | exact nq_ne1 (by assumption) (by assumption) | exact nq_ne2 (by assumption) (by assumption)) (by assumption) | exact nq_ga (by assumption)) | exact nq_gn (by first | assumption | decide | omega | exact nq_ne1 (by assumption) (by assumption) | exact nq_ne2 (by assumption) (by assumption)) (by first | assumption | exact nq_gs (by assumption) | exact nq_gn (by first | assumption | decide | omega | exact nq_ne1 (by assumption) (by assumption) | exact nq_ne2 (by assumption) (by assumption)) (by assumption) | exact nq_ga (by assumption))) | exact nq_gn (by first | assumption | decide | omega | exact nq_ne1 (by assumption) (by assumption) | exact nq_ne2 (by assumption) (by assumption)) (by first | assumption | exact nq_ga (by assumption) | exact nq_gs (by first | assumption | exact nq_gs (by assumption) | exact nq_gn (by first | assumption | decide | omega | exact nq_ne1 (by assumption) (by assumption) | exact nq_ne2 (by assumption) (by assumption)) (by assumption) | exact nq_ga (by assumption)) | exact nq_gn (by first | assumption | decide | omega | exact nq_ne1 (by assumption) (by assumption) | exact nq_ne2 (by assumption) (by assumption)) (by first | assumption | exact nq_gs (by assumption) | exact nq_gn (by first | assumption | decide | omega | exact nq_ne1 (by assumption) (by assumption) | exact nq_ne2 (by assumption) (by assumption)) (by assumption) | exact nq_ga (by assumption)))) rfl rfl (kc := 6 * m) (ks := 169 * m) (mc' := 0) (ms' := 0) (As := []) (rest := []) rfl rfl (by decide) (k_Mod_thrown W2) ?_
      rw [h7]
      refine nq_iload (pc' := 595) d_Law_law_593 rfl rfl ?_
      refine nq_icmp_eq (pc' := 598) (tgt := 600) d_Law_law_595 rfl (by decide) (fun _ => ?_) (fun h => absurd rfl h)
      refine nq_iload (pc' := 602) d_Law_law_600 rfl rfl ?_
      by_cases hk0 : k = 0
      · refine nq_if_ne (pc' := 605) (tgt := 617) d_Law_law_602 rfl (by decide) (fun h => absurd hk0 h) (fun _ => ?_)
        refine nq_aload_n (pc' := 606) d_Law_law_605 rfl rfl rfl ?_
        refine nq_iconst (v := 0) (pc' := 607) d_Law_law_606 rfl (by decide) ?_
        refine nq_lald (pc' := 608) d_Law_law_607 rfl (by first | assumption | exact nq_ga (by assumption) | exact nq_gs (by first | assumption | exact nq_ga (by assumption) | exact nq_gs (by first | assumption | exact nq_gs (by assumption) | exact nq_gn (by first | assumption | decide | omega | exact nq_ne1 (by assumption) (by assumption) | exact nq_ne2 (by assumption) (by assumption)) (by assumption) | exact nq_ga (by assumption)) | exact nq_gn (by first | assumption | decide | omega | exact nq_ne1 (by assumption) (by assumption) | exact nq_ne2 (by assumption) (by assumption)) (by first | assumption | exact nq_gs (by assumption) | exact nq_gn (by first | assumption | decide | omega | exact nq_ne1 (by assumption) (by assumption) | exact nq_ne2 (by assumption) (by assumption)) (by assumption) | exact nq_ga (by assumption))) | exact nq_gn (by first | assumption | decide | omega | exact nq_ne1 (by assumption) (by assumption) | exact nq_ne2 (by assumption) (by assumption)) (by first | assumption | exact nq_ga (by assumption) | exact nq_gs (by first | assumption | exact nq_gs (by assumption) | exact nq_gn (by first | assumption | decide | omega | exact nq_ne1 (by assumption) (by assumption) | exact nq_ne2 (by assumption) (by assumption)) (by assumption) | exact nq_ga (by assumption)) | exact nq_gn (by first | assumption | decide | omega | exact nq_ne1 (by assumption) (by assumption) | exact nq_ne2 (by assumption) (by assumption)) (by first | assumption | exact nq_gs (by assumption) | exact nq_gn (by first | assumption | decide | omega | exact nq_ne1 (by assumption) (by assumption) | exact nq_ne2 (by assumption) (by assumption)) (by assumption) | exact nq_ga (by assumption)))) rfl (j := 0) rfl (by decide) (by decide) ?_
        rw [h0 hk0]
        refine nq_iload (pc' := 610) d_Law_law_608 rfl rfl ?_
        refine nq_i2l (pc' := 611) d_Law_law_610 rfl ?_
        refine nq_lcmp (pc' := 612) d_Law_law_611 rfl ?_
        rw [lg_cmp_self]
        refine nq_if_eq (pc' := 615) (tgt := 617) d_Law_law_612 rfl (by decide) (fun _ => ?_) (fun h => absurd rfl h)
        refine nq_goto (tgt := 645) d_Law_law_617 (by decide) ?_
        exact next σ2 _ _ _ S2 (by omega)
      · refine nq_if_ne (pc' := 605) (tgt := 617) d_Law_law_602 rfl (by decide) (fun _ => ?_) (fun h => absurd h hk0)
        refine nq_goto (tgt := 645) d_Law_law_617 (by decide) ?_
        exact next σ2 _ _ _ S2 (by omega)
    · refine nq_J.le (kc := 6 * m) (ks := 169 * m) (by omega) (by omega) ?_
      refine nq_tableIn (off := 581) (tgt := 620) d_Law_law_39 (by decide) (by decide) (by decide) (by decide) ?_
      refine nq_aload_n (pc' := 621) d_Law_law_620 rfl rfl rfl ?_
      refine nq_aload_n (pc' := 622) d_Law_law_621 rfl rfl rfl ?_
      refine nq_iload (pc' := 624) d_Law_law_622 rfl rfl ?_
      refine nq_iconst (v := 1) (pc' := 625) d_Law_law_624 rfl (by decide) ?_
      refine nq_iadd (pc' := 626) d_Law_law_625 rfl ?_
      refine nq_sld (pc' := 627) d_Law_law_626 rfl (j := 4 * i + 1) (nI_add (4 * i) 1) (by omega) (by omega) ?_
      refine nq_callVR (pc' := 630) d_Law_law_627 rfl cl_Law_95 rfl (by first | assumption | exact nq_ga (by assumption) | exact nq_gs (by first | assumption | exact nq_ga (by assumption) | exact nq_gs (by first | assumption | exact nq_gs (by assumption) | exact nq_gn (by first | assumption | decide | omega | exact nq_ne1 (by assumption) (by assumption) | exact nq_ne2 (by assumption) (by assumption)) (by assumption) | exact nq_ga (by assumption)) | exact nq_gn (by first | assumption | decide | omega | exact nq_ne1 (by assumption) (by assumption) | exact nq_ne2 (by assumption) (by assumption)) (by first | assumption | exact nq_gs (by assumption) | exact nq_gn (by first | assumption | decide | omega | exact nq_ne1 (by assumption) (by assumption) | exact nq_ne2 (by assumption) (by assumption)) (by assumption) | exact nq_ga (by assumption))) | exact nq_gn (by first | assumption | decide | omega | exact nq_ne1 (by assumption) (by assumption) | exact nq_ne2 (by assumption) (by assumption)) (by first | assumption | exact nq_ga (by assumption) | exact nq_gs (by first | assumption | exact nq_gs (by assumption) | exact nq_gn (by first | assumption | decide | omega | exact nq_ne1 (by assumption) (by assumption) | exact nq_ne2 (by assumption) (by assumption)) (by assumption) | exact nq_ga (by assumption)) | exact nq_gn (by first | assumption | decide | omega | exact nq_ne1 (by assumption) (by assumption) | exact nq_ne2 (by assumption) (by assumption)) (by first | assumption | exact nq_gs (by assumption) | exact nq_gn (by first | assumption | decide | omega | exact nq_ne1 (by assumption) (by assumption) | exact nq_ne2 (by assumption) (by assumption)) (by assumption) | exact nq_ga (by assumption)))) rfl rfl (kc := 6 * m) (ks := 169 * m) (mc' := 0) (ms' := 0) (As := [.int _]) (rest := []) rfl rfl (by decide) (k_QS_count hR (by omega)) ?_
      refine nq_aload_n (pc' := 631) d_Law_law_630 rfl rfl rfl ?_
      refine nq_aload_n (pc' := 632) d_Law_law_631 rfl rfl rfl ?_
      refine nq_iload (pc' := 634) d_Law_law_632 rfl rfl ?_
      refine nq_iconst (v := 1) (pc' := 635) d_Law_law_634 rfl (by decide) ?_
      refine nq_iadd (pc' := 636) d_Law_law_635 rfl ?_
      refine nq_sld (pc' := 637) d_Law_law_636 rfl (j := 4 * i + 1) (nI_add (4 * i) 1) (by omega) (by omega) ?_
      refine nq_callV (pc' := 640) d_Law_law_637 rfl cl_Law_98 rfl (by first | assumption | exact nq_ga (by assumption) | exact nq_gs (by first | assumption | exact nq_ga (by assumption) | exact nq_gs (by first | assumption | exact nq_gs (by assumption) | exact nq_gn (by first | assumption | decide | omega | exact nq_ne1 (by assumption) (by assumption) | exact nq_ne2 (by assumption) (by assumption)) (by assumption) | exact nq_ga (by assumption)) | exact nq_gn (by first | assumption | decide | omega | exact nq_ne1 (by assumption) (by assumption) | exact nq_ne2 (by assumption) (by assumption)) (by first | assumption | exact nq_gs (by assumption) | exact nq_gn (by first | assumption | decide | omega | exact nq_ne1 (by assumption) (by assumption) | exact nq_ne2 (by assumption) (by assumption)) (by assumption) | exact nq_ga (by assumption))) | exact nq_gn (by first | assumption | decide | omega | exact nq_ne1 (by assumption) (by assumption) | exact nq_ne2 (by assumption) (by assumption)) (by first | assumption | exact nq_ga (by assumption) | exact nq_gs (by first | assumption | exact nq_gs (by assumption) | exact nq_gn (by first | assumption | decide | omega | exact nq_ne1 (by assumption) (by assumption) | exact nq_ne2 (by assumption) (by assumption)) (by assumption) | exact nq_ga (by assumption)) | exact nq_gn (by first | assumption | decide | omega | exact nq_ne1 (by assumption) (by assumption) | exact nq_ne2 (by assumption) (by assumption)) (by first | assumption | exact nq_gs (by assumption) | exact nq_gn (by first | assumption | decide | omega | exact nq_ne1 (by assumption) (by assumption) | exact nq_ne2 (by assumption) (by assumption)) (by assumption) | exact nq_ga (by assumption)))) rfl rfl (kc := 6 * m) (ks := 169 * m) (mc' := 0) (ms' := 0) (As := [.int _]) (rest := [.int _]) rfl rfl (Nat.le_of_ble_eq_true rfl) (k_Mod_count hW hP hw) (fun E σ2 hq => by cases hq.1) (fun z σ2 hq => ?_)
      obtain ⟨e, F2, v2, W2, P2⟩ := hq
      cases e
      obtain ⟨S2, O2⟩ := la_two hR hO F2.g W2 P2
      have l3 := F2.1
      refine nq_icmp_eq (pc' := 643) (tgt := 645) d_Law_law_640 rfl (by decide) (fun _ => ?_) (fun h => absurd rfl h)
      exact next σ2 _ _ _ S2 (by omega)
end LL
