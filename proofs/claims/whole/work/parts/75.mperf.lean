/-! THE OTHER STORE AND WHAT IT IS; perform -/
def mo_P (v : Nat → Int32) (ar : mo_Ar) : sx_S → Prop
  | (T, pl, kp, tb, old, bg, nt, dn, fl, res, w) => (v 0 = nI T.length ∧ rd_T (ar 0) T ∧ v 1 = pl) ∧ (∀ k, k < 4 → (kp k = none → ar 6 k = 0) ∧ ∀ s, kp k = some s → ar 6 k = 1 ∧ md_R (ar 1) (400 * k) s) ∧ (mo_tb (ar 2) (ar 3) tb ∧ mo_tb (ar 4) (ar 5) old) ∧ (v 12 = qs_bg bg ∧ v 8 = nt ∧ v 9 = dn ∧ v 10 = fl) ∧ v 13 = nI res.length ∧ (res ≠ [] → v 14 = nI w) ∧ mo_rs (ar 12) res
def mo_Q (c : String → Int32) (σ : nq_S) (r : sx_A × sx_S) : nq_Q := fun o σ' => mo_fg σ σ' ∧ ∃ v' ar' x, mo_W σ' v' ar' ∧ mo_P v' ar' r.2 ∧ o = .inl (some (.int x)) ∧ match r.1 with
  | .inl y => y = some x ∧ v' 7 = 0
  | .inr e => v' 7 = c e
def mo_run (e : String) : Int32 := if e = nq_IA then 1 else mo_thr e
theorem mo_fr.tg {σ σ1 σ2 : nq_S} (h : mo_fr σ σ1) (k : mo_fg σ1 σ2) : mo_fg σ σ2 := ⟨by rw [← h.1]; exact k.1, by rw [← h.1]; exact k.2.1, fun i hi => (k.2.2 i (by rw [h.1]; exact hi)).trans (h.2 i (by omega))⟩
theorem sx_ch_e {up : Bool} {vs : List (List nq_In)} {cs : List sp_K} {p : Int32} {e : String} : ∀ {l : List nq_Rw} {cl : List (Option Int32)}, sx_ch up vs cs p l cl = .inl e → e = nq_AE
  | [], cl, h => by cases h
  | x :: r, cl, h => by
    unfold sx_ch at h
    split at h
    · cases h; rfl
    · exact sx_ch_e h
    · split at h
      · split at h
        · cases h; rfl
        · exact sx_ch_e h
      · exact sx_ch_e h
theorem sx_col_e {vs : List (List nq_In)} {cs : List sp_K} {e : String} : ∀ {l : List (Nat → Int32)} {cl : List Int32}, sx_col vs cs l cl = .inl e → e = nq_AE
  | [], cl, h => by cases h
  | x :: r, cl, h => by
    unfold sx_col at h
    split at h
    · cases h; rfl
    · exact sx_col_e h
    · split at h
      · cases h; rfl
      · exact sx_col_e h
theorem sx_sel_e {vs : List (List nq_In)} {cs : List sp_K} {od : Nat} {e : String} : ∀ {l : List (Nat → Int32)} {cl : List sx_E}, sx_sel vs cs od l cl = .inl e → e = nq_AE ∨ e = nq_UE
  | [], cl, h => by cases h
  | x :: r, cl, h => by
    unfold sx_sel at h
    split at h
    · cases h; exact .inl rfl
    · exact sx_sel_e h
    · split at h
      · cases h; exact .inl rfl
      · split at h
        · cases h; exact .inr rfl
        · exact sx_sel_e h
theorem sx_exec_e {tb : sx_T} {s : sp_St} {p : Int32} {e : String} (h : sx_exec tb s p = .inl e) : e = nq_NE ∨ e = nq_AE ∨ e = nq_IS ∨ e = nq_UE := by
  unfold sx_exec at h
  split at h
  · split at h
    · cases h; exact .inr (.inl rfl)
    · split at h
      · cases h; exact .inr (.inr (.inl rfl))
      · cases h
  · split at h
    · split at h
      · rename_i e' he
        cases h; exact .inr (.inl (sx_ch_e he))
      · cases h
    · split at h
      · split at h
        · rename_i e' he
          cases h; exact .inr (.inl (sx_ch_e he))
        · cases h
      · split at h
        · split at h
          · rename_i e' he
            cases h; exact .inr (.inl (sx_col_e he))
          · split at h
            · cases h; exact .inl rfl
            · cases h
        · split at h
          · rename_i e' he
            cases h
            rcases sx_sel_e he with h | h
            · exact .inr (.inl h)
            · exact .inr (.inr (.inr h))
          · cases h
theorem mo_run_e {e : String} (h : e = nq_NE ∨ e = nq_AE ∨ e = nq_IS ∨ e = nq_UE) : mo_run e = mo_thr e := by
  rcases h with h | h | h | h <;> rw [h] <;> decide
theorem mo_400 : ∀ k : Fin 5, nI k.1 * 400 = nI (400 * k.1) := by decide
section MP
variable {G : nq_G} {d : Nat} {σ : nq_S} {v : Nat → Int32} {ar : mo_Ar} {k : Nat} {s : sp_St} {p : Int32} {S : sx_S}
theorem k_Mod_perform (hW : mo_W σ v ar) (hP : mo_P v ar S) (hM : md_R (ar 1) (400 * k) s) (hk : k < 5) (hup : ∀ t, t < 3 → rw_up (S.2.2.2.1.getD t [])) (h7 : v 7 = 0) (hl : 288 ≤ σ.length) (hl9 : σ.length < 890000) (hD : 9 ≤ d) : nq_JM G d 1 3 m_Mod_perform [.ref 270, .int (nI k), .int p] σ (mo_Q mo_run σ (sx_run s p S)) := by
  obtain ⟨d, rfl⟩ : ∃ d', d = d' + 1 := ⟨d - 1, by omega⟩
  obtain ⟨T, pl, kp, tb, old, bg, nt, dn, fl, res, w9⟩ := S
  obtain ⟨⟨p0, p1, p2⟩, p3, ⟨p4, p5⟩, ⟨p6, p7, p8, p9⟩, p10, p11, p12⟩ := hP
  have hup' : ∀ t, t < 3 → rw_up (tb.getD t []) := hup
  have hok := hM.1
  have m0 : ar 1 (400 * k) = nI s.1 := by
    obtain ⟨_, out, hol, ho, m0, _⟩ := hM
    exact m0
  have hk1 := hok.1
  have h128 : s.1 < 128 := by
    have : ∀ c ∈ tx 1, c < 128 := by decide
    exact this _ hk1
  have kk : ∀ x, x < 128 → s.1 ≠ x → ¬ nI s.1 = nI x := fun x hx hn h => hn (nI_inj (by omega) (by omega) h)
  have hm : nI k * 400 = nI (400 * k) := mo_400 ⟨k, hk⟩
  have w := hW.1
  have a1 := hW.2.2.1
  generalize hv1 : upd (upd (upd v 15 p) 13 0) 14 0 = v1
  have q1 : ∀ j, j ≠ 13 → j ≠ 14 → j ≠ 15 → v1 j = v j := fun j a b c => by rw [← hv1, upd_ne b, upd_ne a, upd_ne c]
  have q13 : v1 13 = 0 := by rw [← hv1, upd_ne (by decide)]; exact upd_at
  have q14 : v1 14 = 0 := by rw [← hv1]; exact upd_at
  have q15 : v1 15 = p := by rw [← hv1, upd_ne (by decide), upd_ne (by decide)]; exact upd_at
  have W1 : mo_W (σ.set 270 (mo_F v1)) v1 ar := hW.fi
  have F1 : mo_fr σ (σ.set 270 (mo_F v1)) := mo_fr.st (by decide)
  have h71 : v1 7 = 0 := (q1 7 (by decide) (by decide) (by decide)).trans h7
  /- what comes behind the statement -/
  have after : ∀ (o : Option Value ⊕ String) (σ2 : nq_S), xm_Q (σ.set 270 (mo_F v1)) v1 ar tb (sx_exec tb s p) o σ2 → ∃ x, o = .inl (some (.int x)) ∧ nq_J G (d + 1) 0 0 m_Mod_perform 71 [some (.ref 270), some (.int (nI k)), some (.int p), some (.int (nI (400 * k))), some (.int (nI s.1)), none] [.int x] σ2 (mo_Q mo_run σ (sx_run s p (T, pl, kp, tb, old, bg, nt, dn, fl, res, w9))) := by
    intro o σ2 hq
    obtain ⟨F2, v2, ar2, x, W2, K2, e2, hq⟩ := hq
    refine ⟨x, e2, ?_⟩
    have F := F1.tg F2
    have w2 := W2.1
    have vv : ∀ j, j ≠ 7 → j ≠ 11 → j ≠ 13 → j ≠ 14 → j ≠ 15 → j ≠ 16 → v2 j = v j := fun j a b c e f g => (K2.1 j a b c e g).trans (q1 j c e f)
    have aa := K2.2
    have P0 : v2 0 = nI T.length := (vv 0 (by decide) (by decide) (by decide) (by decide) (by decide) (by decide)).trans p0
    have P1 : rd_T (ar2 0) T := by rw [aa 0 (by decide)]; exact p1
    have P2 : v2 1 = pl := (vv 1 (by decide) (by decide) (by decide) (by decide) (by decide) (by decide)).trans p2
    have P3 : ∀ k, k < 4 → (kp k = none → ar2 6 k = 0) ∧ ∀ s, kp k = some s → ar2 6 k = 1 ∧ md_R (ar2 1) (400 * k) s := by rw [aa 6 (by decide), aa 1 (by decide)]; exact p3
    have P5 : mo_tb (ar2 4) (ar2 5) old := by rw [aa 4 (by decide), aa 5 (by decide)]; exact p5
    have P6 : v2 12 = qs_bg bg := (vv 12 (by decide) (by decide) (by decide) (by decide) (by decide) (by decide)).trans p6
    have P7 : v2 8 = nt := (vv 8 (by decide) (by decide) (by decide) (by decide) (by decide) (by decide)).trans p7
    have P8 : v2 9 = dn := (vv 9 (by decide) (by decide) (by decide) (by decide) (by decide) (by decide)).trans p8
    have P9 : v2 10 = fl := (vv 10 (by decide) (by decide) (by decide) (by decide) (by decide) (by decide)).trans p9
    unfold sx_run
    simp only
    cases hx : sx_exec tb s p with
    | inl e =>
      rw [hx] at hq
      obtain ⟨t7, t4⟩ := hq
      refine nq_istore (pc' := 73) d_Mod_perform_71 rfl (by decide) rfl ?_
      refine nq_aload_n (pc' := 74) d_Mod_perform_73 rfl rfl rfl ?_
      refine nq_getf (pc' := 77) d_Mod_perform_74 rfl fl_Mod_63 (by first | assumption | exact nq_ga (by assumption) | exact nq_gs (by first | assumption | exact nq_ga (by assumption) | exact nq_gs (by first | assumption | exact nq_gs (by assumption) | exact nq_gn (by first | assumption | decide | omega | exact nq_ne1 (by assumption) (by assumption) | exact nq_ne2 (by assumption) (by assumption)) (by assumption) | exact nq_ga (by assumption)) | exact nq_gn (by first | assumption | decide | omega | exact nq_ne1 (by assumption) (by assumption) | exact nq_ne2 (by assumption) (by assumption)) (by first | assumption | exact nq_gs (by assumption) | exact nq_gn (by first | assumption | decide | omega | exact nq_ne1 (by assumption) (by assumption) | exact nq_ne2 (by assumption) (by assumption)) (by assumption) | exact nq_ga (by assumption))) | exact nq_gn (by first | assumption | decide | omega | exact nq_ne1 (by assumption) (by assumption) | exact nq_ne2 (by assumption) (by assumption)) (by first | assumption | exact nq_ga (by assumption) | exact nq_gs (by first | assumption | exact nq_gs (by assumption) | exact nq_gn (by first | assumption | decide | omega | exact nq_ne1 (by assumption) (by assumption) | exact nq_ne2 (by assumption) (by assumption)) (by assumption) | exact nq_ga (by assumption)) | exact nq_gn (by first | assumption | decide | omega | exact nq_ne1 (by assumption) (by assumption) | exact nq_ne2 (by assumption) (by assumption)) (by first | assumption | exact nq_gs (by assumption) | exact nq_gn (by first | assumption | decide | omega | exact nq_ne1 (by assumption) (by assumption) | exact nq_ne2 (by assumption) (by assumption)) (by assumption) | exact nq_ga (by assumption)))) rfl ?_
      rw [t7]
      refine nq_if_le (pc' := 80) (tgt := 97) d_Mod_perform_77 rfl (by decide) (fun h => absurd h (mo_thr_pos e).1) (fun _ => ?_)
      refine nq_aload_n (pc' := 81) d_Mod_perform_80 rfl rfl rfl ?_
      refine nq_iconst (v := 0) (pc' := 82) d_Mod_perform_81 rfl (by decide) ?_
      refine nq_putf (pc' := 85) d_Mod_perform_82 rfl fl_Mod_167 (by first | assumption | exact nq_ga (by assumption) | exact nq_gs (by first | assumption | exact nq_ga (by assumption) | exact nq_gs (by first | assumption | exact nq_gs (by assumption) | exact nq_gn (by first | assumption | decide | omega | exact nq_ne1 (by assumption) (by assumption) | exact nq_ne2 (by assumption) (by assumption)) (by assumption) | exact nq_ga (by assumption)) | exact nq_gn (by first | assumption | decide | omega | exact nq_ne1 (by assumption) (by assumption) | exact nq_ne2 (by assumption) (by assumption)) (by first | assumption | exact nq_gs (by assumption) | exact nq_gn (by first | assumption | decide | omega | exact nq_ne1 (by assumption) (by assumption) | exact nq_ne2 (by assumption) (by assumption)) (by assumption) | exact nq_ga (by assumption))) | exact nq_gn (by first | assumption | decide | omega | exact nq_ne1 (by assumption) (by assumption) | exact nq_ne2 (by assumption) (by assumption)) (by first | assumption | exact nq_ga (by assumption) | exact nq_gs (by first | assumption | exact nq_gs (by assumption) | exact nq_gn (by first | assumption | decide | omega | exact nq_ne1 (by assumption) (by assumption) | exact nq_ne2 (by assumption) (by assumption)) (by assumption) | exact nq_ga (by assumption)) | exact nq_gn (by first | assumption | decide | omega | exact nq_ne1 (by assumption) (by assumption) | exact nq_ne2 (by assumption) (by assumption)) (by first | assumption | exact nq_gs (by assumption) | exact nq_gn (by first | assumption | decide | omega | exact nq_ne1 (by assumption) (by assumption) | exact nq_ne2 (by assumption) (by assumption)) (by assumption) | exact nq_ga (by assumption)))) (Nat.le_of_ble_eq_true rfl) rfl rfl ?_
      try rw [nq_ss]
      refine nq_aload_n (pc' := 86) d_Mod_perform_85 rfl rfl rfl ?_
      refine nq_dup (pc' := 87) d_Mod_perform_86 rfl rfl ?_
      refine nq_getf (pc' := 90) d_Mod_perform_87 rfl fl_Mod_192 (by first | assumption | exact nq_ga (by assumption) | exact nq_gs (by first | assumption | exact nq_ga (by assumption) | exact nq_gs (by first | assumption | exact nq_gs (by assumption) | exact nq_gn (by first | assumption | decide | omega | exact nq_ne1 (by assumption) (by assumption) | exact nq_ne2 (by assumption) (by assumption)) (by assumption) | exact nq_ga (by assumption)) | exact nq_gn (by first | assumption | decide | omega | exact nq_ne1 (by assumption) (by assumption) | exact nq_ne2 (by assumption) (by assumption)) (by first | assumption | exact nq_gs (by assumption) | exact nq_gn (by first | assumption | decide | omega | exact nq_ne1 (by assumption) (by assumption) | exact nq_ne2 (by assumption) (by assumption)) (by assumption) | exact nq_ga (by assumption))) | exact nq_gn (by first | assumption | decide | omega | exact nq_ne1 (by assumption) (by assumption) | exact nq_ne2 (by assumption) (by assumption)) (by first | assumption | exact nq_ga (by assumption) | exact nq_gs (by first | assumption | exact nq_gs (by assumption) | exact nq_gn (by first | assumption | decide | omega | exact nq_ne1 (by assumption) (by assumption) | exact nq_ne2 (by assumption) (by assumption)) (by assumption) | exact nq_ga (by assumption)) | exact nq_gn (by first | assumption | decide | omega | exact nq_ne1 (by assumption) (by assumption) | exact nq_ne2 (by assumption) (by assumption)) (by first | assumption | exact nq_gs (by assumption) | exact nq_gn (by first | assumption | decide | omega | exact nq_ne1 (by assumption) (by assumption) | exact nq_ne2 (by assumption) (by assumption)) (by assumption) | exact nq_ga (by assumption)))) rfl ?_
      refine nq_iconst (v := 1) (pc' := 91) d_Mod_perform_90 rfl (by decide) ?_
      refine nq_iadd (pc' := 92) d_Mod_perform_91 rfl ?_
      refine nq_putf (pc' := 95) d_Mod_perform_92 rfl fl_Mod_192 (by first | assumption | exact nq_ga (by assumption) | exact nq_gs (by first | assumption | exact nq_ga (by assumption) | exact nq_gs (by first | assumption | exact nq_gs (by assumption) | exact nq_gn (by first | assumption | decide | omega | exact nq_ne1 (by assumption) (by assumption) | exact nq_ne2 (by assumption) (by assumption)) (by assumption) | exact nq_ga (by assumption)) | exact nq_gn (by first | assumption | decide | omega | exact nq_ne1 (by assumption) (by assumption) | exact nq_ne2 (by assumption) (by assumption)) (by first | assumption | exact nq_gs (by assumption) | exact nq_gn (by first | assumption | decide | omega | exact nq_ne1 (by assumption) (by assumption) | exact nq_ne2 (by assumption) (by assumption)) (by assumption) | exact nq_ga (by assumption))) | exact nq_gn (by first | assumption | decide | omega | exact nq_ne1 (by assumption) (by assumption) | exact nq_ne2 (by assumption) (by assumption)) (by first | assumption | exact nq_ga (by assumption) | exact nq_gs (by first | assumption | exact nq_gs (by assumption) | exact nq_gn (by first | assumption | decide | omega | exact nq_ne1 (by assumption) (by assumption) | exact nq_ne2 (by assumption) (by assumption)) (by assumption) | exact nq_ga (by assumption)) | exact nq_gn (by first | assumption | decide | omega | exact nq_ne1 (by assumption) (by assumption) | exact nq_ne2 (by assumption) (by assumption)) (by first | assumption | exact nq_gs (by assumption) | exact nq_gn (by first | assumption | decide | omega | exact nq_ne1 (by assumption) (by assumption) | exact nq_ne2 (by assumption) (by assumption)) (by assumption) | exact nq_ga (by assumption)))) (Nat.le_of_ble_eq_true rfl) rfl rfl ?_
      try rw [nq_ss]
      refine nq_iconst (v := 0) (pc' := 96) d_Mod_perform_95 rfl (by decide) ?_
      refine nq_iret d_Mod_perform_96 rfl rfl ?_
      refine ⟨F.fr (mo_fr.st (by decide)) hl, upd (upd v2 13 0) 10 (v2 10 + 1), ar2, 0, W2.fi (v' := upd (upd v2 13 0) 10 (v2 10 + 1)), ?_, rfl, ?_⟩
      · refine ⟨⟨P0, P1, P2⟩, P3, ⟨t4, P5⟩, ⟨P6, P7, P8, ?_⟩, rfl, fun h => absurd rfl h, fun i x h => (by cases h)⟩
        rw [upd_at, P9]
      · simp only
        rw [upd_ne (by decide), upd_ne (by decide), t7, mo_run_e (sx_exec_e hx)]
    | inr r =>
      obtain ⟨n, tb', res', w'⟩ := r
      rw [hx] at hq
      obtain ⟨rfl, t7, t4, t13, t14, t12⟩ := hq
      simp only
      refine nq_istore (pc' := 73) d_Mod_perform_71 rfl (by decide) rfl ?_
      refine nq_aload_n (pc' := 74) d_Mod_perform_73 rfl rfl rfl ?_
      refine nq_getf (pc' := 77) d_Mod_perform_74 rfl fl_Mod_63 (by first | assumption | exact nq_ga (by assumption) | exact nq_gs (by first | assumption | exact nq_ga (by assumption) | exact nq_gs (by first | assumption | exact nq_gs (by assumption) | exact nq_gn (by first | assumption | decide | omega | exact nq_ne1 (by assumption) (by assumption) | exact nq_ne2 (by assumption) (by assumption)) (by assumption) | exact nq_ga (by assumption)) | exact nq_gn (by first | assumption | decide | omega | exact nq_ne1 (by assumption) (by assumption) | exact nq_ne2 (by assumption) (by assumption)) (by first | assumption | exact nq_gs (by assumption) | exact nq_gn (by first | assumption | decide | omega | exact nq_ne1 (by assumption) (by assumption) | exact nq_ne2 (by assumption) (by assumption)) (by assumption) | exact nq_ga (by assumption))) | exact nq_gn (by first | assumption | decide | omega | exact nq_ne1 (by assumption) (by assumption) | exact nq_ne2 (by assumption) (by assumption)) (by first | assumption | exact nq_ga (by assumption) | exact nq_gs (by first | assumption | exact nq_gs (by assumption) | exact nq_gn (by first | assumption | decide | omega | exact nq_ne1 (by assumption) (by assumption) | exact nq_ne2 (by assumption) (by assumption)) (by assumption) | exact nq_ga (by assumption)) | exact nq_gn (by first | assumption | decide | omega | exact nq_ne1 (by assumption) (by assumption) | exact nq_ne2 (by assumption) (by assumption)) (by first | assumption | exact nq_gs (by assumption) | exact nq_gn (by first | assumption | decide | omega | exact nq_ne1 (by assumption) (by assumption) | exact nq_ne2 (by assumption) (by assumption)) (by assumption) | exact nq_ga (by assumption)))) rfl ?_
      rw [t7]
      refine nq_if_le (pc' := 80) (tgt := 97) d_Mod_perform_77 rfl (by decide) (fun _ => ?_) (fun h => absurd (show (0 : Int32) ≤ 0 by decide) h)
      have fin : ∀ (v3 : Nat → Int32) (σ3 : nq_S), mo_fg σ σ3 → mo_W σ3 v3 ar2 → (∀ j, j ≠ 8 → v3 j = v2 j) → v3 8 = (if bg = true ∧ (s.1 = 73 ∨ s.1 = 68 ∨ s.1 = 85) then nt + x else nt) → nq_J G (d + 1) 0 0 m_Mod_perform 136 [some (.ref 270), some (.int (nI k)), some (.int p), some (.int (nI (400 * k))), some (.int (nI s.1)), some (.int x)] [] σ3 (mo_Q mo_run σ (.inl (some x), (T, pl, kp, tb', old, bg, (if bg = true ∧ (s.1 = 73 ∨ s.1 = 68 ∨ s.1 = 85) then nt + x else nt), dn + 1, fl, res', w'))) := by
        intro v3 σ3 F3 W3 e3 e8
        have w3 := W3.1
        refine nq_aload_n (pc' := 137) d_Mod_perform_136 rfl rfl rfl ?_
        refine nq_dup (pc' := 138) d_Mod_perform_137 rfl rfl ?_
        refine nq_getf (pc' := 141) d_Mod_perform_138 rfl fl_Mod_202 (by first | assumption | exact nq_ga (by assumption) | exact nq_gs (by first | assumption | exact nq_ga (by assumption) | exact nq_gs (by first | assumption | exact nq_gs (by assumption) | exact nq_gn (by first | assumption | decide | omega | exact nq_ne1 (by assumption) (by assumption) | exact nq_ne2 (by assumption) (by assumption)) (by assumption) | exact nq_ga (by assumption)) | exact nq_gn (by first | assumption | decide | omega | exact nq_ne1 (by assumption) (by assumption) | exact nq_ne2 (by assumption) (by assumption)) (by first | assumption | exact nq_gs (by assumption) | exact nq_gn (by first | assumption | decide | omega | exact nq_ne1 (by assumption) (by assumption) | exact nq_ne2 (by assumption) (by assumption)) (by assumption) | exact nq_ga (by assumption))) | exact nq_gn (by first | assumption | decide | omega | exact nq_ne1 (by assumption) (by assumption) | exact nq_ne2 (by assumption) (by assumption)) (by first | assumption | exact nq_ga (by assumption) | exact nq_gs (by first | assumption | exact nq_gs (by assumption) | exact nq_gn (by first | assumption | decide | omega | exact nq_ne1 (by assumption) (by assumption) | exact nq_ne2 (by assumption) (by assumption)) (by assumption) | exact nq_ga (by assumption)) | exact nq_gn (by first | assumption | decide | omega | exact nq_ne1 (by assumption) (by assumption) | exact nq_ne2 (by assumption) (by assumption)) (by first | assumption | exact nq_gs (by assumption) | exact nq_gn (by first | assumption | decide | omega | exact nq_ne1 (by assumption) (by assumption) | exact nq_ne2 (by assumption) (by assumption)) (by assumption) | exact nq_ga (by assumption)))) rfl ?_
        refine nq_iconst (v := 1) (pc' := 142) d_Mod_perform_141 rfl (by decide) ?_
        refine nq_iadd (pc' := 143) d_Mod_perform_142 rfl ?_
        refine nq_putf (pc' := 146) d_Mod_perform_143 rfl fl_Mod_202 (by first | assumption | exact nq_ga (by assumption) | exact nq_gs (by first | assumption | exact nq_ga (by assumption) | exact nq_gs (by first | assumption | exact nq_gs (by assumption) | exact nq_gn (by first | assumption | decide | omega | exact nq_ne1 (by assumption) (by assumption) | exact nq_ne2 (by assumption) (by assumption)) (by assumption) | exact nq_ga (by assumption)) | exact nq_gn (by first | assumption | decide | omega | exact nq_ne1 (by assumption) (by assumption) | exact nq_ne2 (by assumption) (by assumption)) (by first | assumption | exact nq_gs (by assumption) | exact nq_gn (by first | assumption | decide | omega | exact nq_ne1 (by assumption) (by assumption) | exact nq_ne2 (by assumption) (by assumption)) (by assumption) | exact nq_ga (by assumption))) | exact nq_gn (by first | assumption | decide | omega | exact nq_ne1 (by assumption) (by assumption) | exact nq_ne2 (by assumption) (by assumption)) (by first | assumption | exact nq_ga (by assumption) | exact nq_gs (by first | assumption | exact nq_gs (by assumption) | exact nq_gn (by first | assumption | decide | omega | exact nq_ne1 (by assumption) (by assumption) | exact nq_ne2 (by assumption) (by assumption)) (by assumption) | exact nq_ga (by assumption)) | exact nq_gn (by first | assumption | decide | omega | exact nq_ne1 (by assumption) (by assumption) | exact nq_ne2 (by assumption) (by assumption)) (by first | assumption | exact nq_gs (by assumption) | exact nq_gn (by first | assumption | decide | omega | exact nq_ne1 (by assumption) (by assumption) | exact nq_ne2 (by assumption) (by assumption)) (by assumption) | exact nq_ga (by assumption)))) (Nat.le_of_ble_eq_true rfl) rfl rfl ?_
        try rw [nq_ss]
        refine nq_iload (pc' := 148) d_Mod_perform_146 rfl rfl ?_
        refine nq_iret d_Mod_perform_148 rfl rfl ?_
        refine ⟨F3.fr (mo_fr.st (by decide)) hl, upd v3 9 (v3 9 + 1), ar2, x, W3.fi (v' := upd v3 9 (v3 9 + 1)), ?_, rfl, rfl, ?_⟩
        · refine ⟨⟨(e3 0 (by decide)).trans P0, P1, (e3 1 (by decide)).trans P2⟩, P3, ⟨t4, P5⟩, ⟨(e3 12 (by decide)).trans P6, e8, ?_, (e3 10 (by decide)).trans P9⟩, (e3 13 (by decide)).trans t13, fun _ => (e3 14 (by decide)).trans t14, t12⟩
          rw [upd_at, e3 9 (by decide), P8]
        · rw [upd_ne (by decide), e3 7 (by decide)]
          exact t7
      have noted : bg = true → (s.1 = 73 ∨ s.1 = 68 ∨ s.1 = 85) → nq_J G (d + 1) 0 0 m_Mod_perform 125 [some (.ref 270), some (.int (nI k)), some (.int p), some (.int (nI (400 * k))), some (.int (nI s.1)), some (.int x)] [] σ2 (mo_Q mo_run σ (.inl (some x), (T, pl, kp, tb', old, bg, (if bg = true ∧ (s.1 = 73 ∨ s.1 = 68 ∨ s.1 = 85) then nt + x else nt), dn + 1, fl, res', w'))) := by
        intro hb hs
        refine nq_aload_n (pc' := 126) d_Mod_perform_125 rfl rfl rfl ?_
        refine nq_dup (pc' := 127) d_Mod_perform_126 rfl rfl ?_
        refine nq_getf (pc' := 130) d_Mod_perform_127 rfl fl_Mod_199 (by first | assumption | exact nq_ga (by assumption) | exact nq_gs (by first | assumption | exact nq_ga (by assumption) | exact nq_gs (by first | assumption | exact nq_gs (by assumption) | exact nq_gn (by first | assumption | decide | omega | exact nq_ne1 (by assumption) (by assumption) | exact nq_ne2 (by assumption) (by assumption)) (by assumption) | exact nq_ga (by assumption)) | exact nq_gn (by first | assumption | decide | omega | exact nq_ne1 (by assumption) (by assumption) | exact nq_ne2 (by assumption) (by assumption)) (by first | assumption | exact nq_gs (by assumption) | exact nq_gn (by first | assumption | decide | omega | exact nq_ne1 (by assumption) (by assumption) | exact nq_ne2 (by assumption) (by assumption)) (by assumption) | exact nq_ga (by assumption))) | exact nq_gn (by first | assumption | decide | omega | exact nq_ne1 (by assumption) (by assumption) | exact nq_ne2 (by assumption) (by assumption)) (by first | assumption | exact nq_ga (by assumption) | exact nq_gs (by first | assumption | exact nq_gs (by assumption) | exact nq_gn (by first | assumption | decide | omega | exact nq_ne1 (by assumption) (by assumption) | exact nq_ne2 (by assumption) (by assumption)) (by assumption) | exact nq_ga (by assumption)) | exact nq_gn (by first | assumption | decide | omega | exact nq_ne1 (by assumption) (by assumption) | exact nq_ne2 (by assumption) (by assumption)) (by first | assumption | exact nq_gs (by assumption) | exact nq_gn (by first | assumption | decide | omega | exact nq_ne1 (by assumption) (by assumption) | exact nq_ne2 (by assumption) (by assumption)) (by assumption) | exact nq_ga (by assumption)))) rfl ?_
        refine nq_iload (pc' := 132) d_Mod_perform_130 rfl rfl ?_
        refine nq_iadd (pc' := 133) d_Mod_perform_132 rfl ?_
        refine nq_putf (pc' := 136) d_Mod_perform_133 rfl fl_Mod_199 (by first | assumption | exact nq_ga (by assumption) | exact nq_gs (by first | assumption | exact nq_ga (by assumption) | exact nq_gs (by first | assumption | exact nq_gs (by assumption) | exact nq_gn (by first | assumption | decide | omega | exact nq_ne1 (by assumption) (by assumption) | exact nq_ne2 (by assumption) (by assumption)) (by assumption) | exact nq_ga (by assumption)) | exact nq_gn (by first | assumption | decide | omega | exact nq_ne1 (by assumption) (by assumption) | exact nq_ne2 (by assumption) (by assumption)) (by first | assumption | exact nq_gs (by assumption) | exact nq_gn (by first | assumption | decide | omega | exact nq_ne1 (by assumption) (by assumption) | exact nq_ne2 (by assumption) (by assumption)) (by assumption) | exact nq_ga (by assumption))) | exact nq_gn (by first | assumption | decide | omega | exact nq_ne1 (by assumption) (by assumption) | exact nq_ne2 (by assumption) (by assumption)) (by first | assumption | exact nq_ga (by assumption) | exact nq_gs (by first | assumption | exact nq_gs (by assumption) | exact nq_gn (by first | assumption | decide | omega | exact nq_ne1 (by assumption) (by assumption) | exact nq_ne2 (by assumption) (by assumption)) (by assumption) | exact nq_ga (by assumption)) | exact nq_gn (by first | assumption | decide | omega | exact nq_ne1 (by assumption) (by assumption) | exact nq_ne2 (by assumption) (by assumption)) (by first | assumption | exact nq_gs (by assumption) | exact nq_gn (by first | assumption | decide | omega | exact nq_ne1 (by assumption) (by assumption) | exact nq_ne2 (by assumption) (by assumption)) (by assumption) | exact nq_ga (by assumption)))) (Nat.le_of_ble_eq_true rfl) rfl rfl ?_
        try rw [nq_ss]
        refine fin (upd v2 8 (v2 8 + x)) _ (F.fr (mo_fr.st (by decide)) hl) (W2.fi (v' := upd v2 8 (v2 8 + x))) (fun j hj => upd_ne hj) ?_
        rw [upd_at, if_pos ⟨hb, hs⟩, P7]
      refine nq_aload_n (pc' := 98) d_Mod_perform_97 rfl rfl rfl ?_
      refine nq_getf (pc' := 101) d_Mod_perform_98 rfl fl_Mod_195 (by first | assumption | exact nq_ga (by assumption) | exact nq_gs (by first | assumption | exact nq_ga (by assumption) | exact nq_gs (by first | assumption | exact nq_gs (by assumption) | exact nq_gn (by first | assumption | decide | omega | exact nq_ne1 (by assumption) (by assumption) | exact nq_ne2 (by assumption) (by assumption)) (by assumption) | exact nq_ga (by assumption)) | exact nq_gn (by first | assumption | decide | omega | exact nq_ne1 (by assumption) (by assumption) | exact nq_ne2 (by assumption) (by assumption)) (by first | assumption | exact nq_gs (by assumption) | exact nq_gn (by first | assumption | decide | omega | exact nq_ne1 (by assumption) (by assumption) | exact nq_ne2 (by assumption) (by assumption)) (by assumption) | exact nq_ga (by assumption))) | exact nq_gn (by first | assumption | decide | omega | exact nq_ne1 (by assumption) (by assumption) | exact nq_ne2 (by assumption) (by assumption)) (by first | assumption | exact nq_ga (by assumption) | exact nq_gs (by first | assumption | exact nq_gs (by assumption) | exact nq_gn (by first | assumption | decide | omega | exact nq_ne1 (by assumption) (by assumption) | exact nq_ne2 (by assumption) (by assumption)) (by assumption) | exact nq_ga (by assumption)) | exact nq_gn (by first | assumption | decide | omega | exact nq_ne1 (by assumption) (by assumption) | exact nq_ne2 (by assumption) (by assumption)) (by first | assumption | exact nq_gs (by assumption) | exact nq_gn (by first | assumption | decide | omega | exact nq_ne1 (by assumption) (by assumption) | exact nq_ne2 (by assumption) (by assumption)) (by assumption) | exact nq_ga (by assumption)))) rfl ?_
      rw [P6]
      cases hb : bg with
      | false =>
        rw [hb] at fin
        refine nq_if_eq (pc' := 104) (tgt := 136) d_Mod_perform_101 rfl (by decide) (fun _ => ?_) (fun h => absurd rfl h)
        exact fin v2 σ2 F W2 (fun _ _ => rfl) (by rw [if_neg (by simp)]; exact P7)
      | true =>
      rw [hb] at fin noted
      refine nq_if_eq (pc' := 104) (tgt := 136) d_Mod_perform_101 rfl (by decide) (fun h => absurd h (by decide)) (fun _ => ?_)
      refine nq_iload (pc' := 106) d_Mod_perform_104 rfl rfl ?_
      refine nq_bipush (v := 73) (pc' := 108) d_Mod_perform_106 rfl (by decide) ?_
      by_cases k73 : s.1 = 73
      · refine nq_icmp_eq (pc' := 111) (tgt := 125) d_Mod_perform_108 rfl (by decide) (fun _ => noted rfl (.inl k73)) (fun h => absurd (by rw [k73]; rfl) h)
      refine nq_icmp_eq (pc' := 111) (tgt := 125) d_Mod_perform_108 rfl (by decide) (fun h => absurd h (kk 73 (by omega) k73)) (fun _ => ?_)
      refine nq_iload (pc' := 113) d_Mod_perform_111 rfl rfl ?_
      refine nq_bipush (v := 68) (pc' := 115) d_Mod_perform_113 rfl (by decide) ?_
      by_cases k68 : s.1 = 68
      · refine nq_icmp_eq (pc' := 118) (tgt := 125) d_Mod_perform_115 rfl (by decide) (fun _ => noted rfl (.inr (.inl k68))) (fun h => absurd (by rw [k68]; rfl) h)
      refine nq_icmp_eq (pc' := 118) (tgt := 125) d_Mod_perform_115 rfl (by decide) (fun h => absurd h (kk 68 (by omega) k68)) (fun _ => ?_)
      refine nq_iload (pc' := 120) d_Mod_perform_118 rfl rfl ?_
      refine nq_bipush (v := 85) (pc' := 122) d_Mod_perform_120 rfl (by decide) ?_
      by_cases k85 : s.1 = 85
      · refine nq_icmp_ne (pc' := 125) (tgt := 136) d_Mod_perform_122 rfl (by decide) (fun h => absurd (by rw [k85]; rfl) h) (fun _ => noted rfl (.inr (.inr k85)))
      refine nq_icmp_ne (pc' := 125) (tgt := 136) d_Mod_perform_122 rfl (by decide) (fun _ => ?_) (fun h => absurd h (kk 85 (by omega) k85))
      exact fin v2 σ2 F W2 (fun _ _ => rfl) (by rw [if_neg (by omega)]; exact P7)
  refine nq_mk' (lv := [some (.ref 270), some (.int (nI k)), some (.int p), none, none, none]) (by decide +kernel) rfl (Nat.le_of_ble_eq_true rfl) rfl ?_
  refine nq_iload_n (pc' := 1) d_Mod_perform_0 rfl rfl rfl ?_
  refine nq_sipush (v := 400) (pc' := 4) d_Mod_perform_1 rfl (by decide) ?_
  refine nq_imul (pc' := 5) d_Mod_perform_4 rfl ?_
  rw [hm]
  refine nq_istore_n (pc' := 6) d_Mod_perform_5 rfl rfl (by decide) rfl ?_
  refine nq_aload_n (pc' := 7) d_Mod_perform_6 rfl rfl rfl ?_
  refine nq_getf (pc' := 10) d_Mod_perform_7 rfl fl_Mod_13 (by first | assumption | exact nq_ga (by assumption) | exact nq_gs (by first | assumption | exact nq_ga (by assumption) | exact nq_gs (by first | assumption | exact nq_gs (by assumption) | exact nq_gn (by first | assumption | decide | omega | exact nq_ne1 (by assumption) (by assumption) | exact nq_ne2 (by assumption) (by assumption)) (by assumption) | exact nq_ga (by assumption)) | exact nq_gn (by first | assumption | decide | omega | exact nq_ne1 (by assumption) (by assumption) | exact nq_ne2 (by assumption) (by assumption)) (by first | assumption | exact nq_gs (by assumption) | exact nq_gn (by first | assumption | decide | omega | exact nq_ne1 (by assumption) (by assumption) | exact nq_ne2 (by assumption) (by assumption)) (by assumption) | exact nq_ga (by assumption))) | exact nq_gn (by first | assumption | decide | omega | exact nq_ne1 (by assumption) (by assumption) | exact nq_ne2 (by assumption) (by assumption)) (by first | assumption | exact nq_ga (by assumption) | exact nq_gs (by first | assumption | exact nq_gs (by assumption) | exact nq_gn (by first | assumption | decide | omega | exact nq_ne1 (by assumption) (by assumption) | exact nq_ne2 (by assumption) (by assumption)) (by assumption) | exact nq_ga (by assumption)) | exact nq_gn (by first | assumption | decide | omega | exact nq_ne1 (by assumption) (by assumption) | exact nq_ne2 (by assumption) (by assumption)) (by first | assumption | exact nq_gs (by assumption) | exact nq_gn (by first | assumption | decide | omega | exact nq_ne1 (by assumption) (by assumption) | exact nq_ne2 (by assumption) (by assumption)) (by assumption) | exact nq_ga (by assumption)))) rfl ?_
  refine nq_iload_n (pc' := 11) d_Mod_perform_10 rfl rfl rfl ?_
  refine nq_iald (pc' := 12) d_Mod_perform_11 rfl (by first | assumption | exact nq_ga (by assumption) | exact nq_gs (by first | assumption | exact nq_ga (by assumption) | exact nq_gs (by first | assumption | exact nq_gs (by assumption) | exact nq_gn (by first | assumption | decide | omega | exact nq_ne1 (by assumption) (by assumption) | exact nq_ne2 (by assumption) (by assumption)) (by assumption) | exact nq_ga (by assumption)) | exact nq_gn (by first | assumption | decide | omega | exact nq_ne1 (by assumption) (by assumption) | exact nq_ne2 (by assumption) (by assumption)) (by first | assumption | exact nq_gs (by assumption) | exact nq_gn (by first | assumption | decide | omega | exact nq_ne1 (by assumption) (by assumption) | exact nq_ne2 (by assumption) (by assumption)) (by assumption) | exact nq_ga (by assumption))) | exact nq_gn (by first | assumption | decide | omega | exact nq_ne1 (by assumption) (by assumption) | exact nq_ne2 (by assumption) (by assumption)) (by first | assumption | exact nq_ga (by assumption) | exact nq_gs (by first | assumption | exact nq_gs (by assumption) | exact nq_gn (by first | assumption | decide | omega | exact nq_ne1 (by assumption) (by assumption) | exact nq_ne2 (by assumption) (by assumption)) (by assumption) | exact nq_ga (by assumption)) | exact nq_gn (by first | assumption | decide | omega | exact nq_ne1 (by assumption) (by assumption) | exact nq_ne2 (by assumption) (by assumption)) (by first | assumption | exact nq_gs (by assumption) | exact nq_gn (by first | assumption | decide | omega | exact nq_ne1 (by assumption) (by assumption) | exact nq_ne2 (by assumption) (by assumption)) (by assumption) | exact nq_ga (by assumption)))) rfl (j := 400 * k) rfl (by omega) (by decide) ?_
  rw [m0]
  refine nq_istore (pc' := 14) d_Mod_perform_12 rfl (by decide) rfl ?_
  refine nq_aload_n (pc' := 15) d_Mod_perform_14 rfl rfl rfl ?_
  refine nq_iload_n (pc' := 16) d_Mod_perform_15 rfl rfl rfl ?_
  refine nq_putf (pc' := 19) d_Mod_perform_16 rfl fl_Mod_147 (by first | assumption | exact nq_ga (by assumption) | exact nq_gs (by first | assumption | exact nq_ga (by assumption) | exact nq_gs (by first | assumption | exact nq_gs (by assumption) | exact nq_gn (by first | assumption | decide | omega | exact nq_ne1 (by assumption) (by assumption) | exact nq_ne2 (by assumption) (by assumption)) (by assumption) | exact nq_ga (by assumption)) | exact nq_gn (by first | assumption | decide | omega | exact nq_ne1 (by assumption) (by assumption) | exact nq_ne2 (by assumption) (by assumption)) (by first | assumption | exact nq_gs (by assumption) | exact nq_gn (by first | assumption | decide | omega | exact nq_ne1 (by assumption) (by assumption) | exact nq_ne2 (by assumption) (by assumption)) (by assumption) | exact nq_ga (by assumption))) | exact nq_gn (by first | assumption | decide | omega | exact nq_ne1 (by assumption) (by assumption) | exact nq_ne2 (by assumption) (by assumption)) (by first | assumption | exact nq_ga (by assumption) | exact nq_gs (by first | assumption | exact nq_gs (by assumption) | exact nq_gn (by first | assumption | decide | omega | exact nq_ne1 (by assumption) (by assumption) | exact nq_ne2 (by assumption) (by assumption)) (by assumption) | exact nq_ga (by assumption)) | exact nq_gn (by first | assumption | decide | omega | exact nq_ne1 (by assumption) (by assumption) | exact nq_ne2 (by assumption) (by assumption)) (by first | assumption | exact nq_gs (by assumption) | exact nq_gn (by first | assumption | decide | omega | exact nq_ne1 (by assumption) (by assumption) | exact nq_ne2 (by assumption) (by assumption)) (by assumption) | exact nq_ga (by assumption)))) (Nat.le_of_ble_eq_true rfl) rfl rfl ?_
  try rw [nq_ss]
  refine nq_aload_n (pc' := 20) d_Mod_perform_19 rfl rfl rfl ?_
  refine nq_iconst (v := 0) (pc' := 21) d_Mod_perform_20 rfl (by decide) ?_
  refine nq_putf (pc' := 24) d_Mod_perform_21 rfl fl_Mod_167 (by first | assumption | exact nq_ga (by assumption) | exact nq_gs (by first | assumption | exact nq_ga (by assumption) | exact nq_gs (by first | assumption | exact nq_gs (by assumption) | exact nq_gn (by first | assumption | decide | omega | exact nq_ne1 (by assumption) (by assumption) | exact nq_ne2 (by assumption) (by assumption)) (by assumption) | exact nq_ga (by assumption)) | exact nq_gn (by first | assumption | decide | omega | exact nq_ne1 (by assumption) (by assumption) | exact nq_ne2 (by assumption) (by assumption)) (by first | assumption | exact nq_gs (by assumption) | exact nq_gn (by first | assumption | decide | omega | exact nq_ne1 (by assumption) (by assumption) | exact nq_ne2 (by assumption) (by assumption)) (by assumption) | exact nq_ga (by assumption))) | exact nq_gn (by first | assumption | decide | omega | exact nq_ne1 (by assumption) (by assumption) | exact nq_ne2 (by assumption) (by assumption)) (by first | assumption | exact nq_ga (by assumption) | exact nq_gs (by first | assumption | exact nq_gs (by assumption) | exact nq_gn (by first | assumption | decide | omega | exact nq_ne1 (by assumption) (by assumption) | exact nq_ne2 (by assumption) (by assumption)) (by assumption) | exact nq_ga (by assumption)) | exact nq_gn (by first | assumption | decide | omega | exact nq_ne1 (by assumption) (by assumption) | exact nq_ne2 (by assumption) (by assumption)) (by first | assumption | exact nq_gs (by assumption) | exact nq_gn (by first | assumption | decide | omega | exact nq_ne1 (by assumption) (by assumption) | exact nq_ne2 (by assumption) (by assumption)) (by assumption) | exact nq_ga (by assumption)))) (Nat.le_of_ble_eq_true rfl) rfl rfl ?_
  try rw [nq_ss]
  refine nq_aload_n (pc' := 25) d_Mod_perform_24 rfl rfl rfl ?_
  refine nq_iconst (v := 0) (pc' := 26) d_Mod_perform_25 rfl (by decide) ?_
  refine nq_putf (pc' := 29) d_Mod_perform_26 rfl fl_Mod_177 (by first | assumption | exact nq_ga (by assumption) | exact nq_gs (by first | assumption | exact nq_ga (by assumption) | exact nq_gs (by first | assumption | exact nq_gs (by assumption) | exact nq_gn (by first | assumption | decide | omega | exact nq_ne1 (by assumption) (by assumption) | exact nq_ne2 (by assumption) (by assumption)) (by assumption) | exact nq_ga (by assumption)) | exact nq_gn (by first | assumption | decide | omega | exact nq_ne1 (by assumption) (by assumption) | exact nq_ne2 (by assumption) (by assumption)) (by first | assumption | exact nq_gs (by assumption) | exact nq_gn (by first | assumption | decide | omega | exact nq_ne1 (by assumption) (by assumption) | exact nq_ne2 (by assumption) (by assumption)) (by assumption) | exact nq_ga (by assumption))) | exact nq_gn (by first | assumption | decide | omega | exact nq_ne1 (by assumption) (by assumption) | exact nq_ne2 (by assumption) (by assumption)) (by first | assumption | exact nq_ga (by assumption) | exact nq_gs (by first | assumption | exact nq_gs (by assumption) | exact nq_gn (by first | assumption | decide | omega | exact nq_ne1 (by assumption) (by assumption) | exact nq_ne2 (by assumption) (by assumption)) (by assumption) | exact nq_ga (by assumption)) | exact nq_gn (by first | assumption | decide | omega | exact nq_ne1 (by assumption) (by assumption) | exact nq_ne2 (by assumption) (by assumption)) (by first | assumption | exact nq_gs (by assumption) | exact nq_gn (by first | assumption | decide | omega | exact nq_ne1 (by assumption) (by assumption) | exact nq_ne2 (by assumption) (by assumption)) (by assumption) | exact nq_ga (by assumption)))) (Nat.le_of_ble_eq_true rfl) rfl rfl ?_
  try rw [nq_ss]
  refine nq_J.of_eq (σ' := σ.set 270 (mo_F v1)) (by rw [← hv1]; rfl) ?_
  have hl1 : (σ.set 270 (mo_F v1)).length = σ.length := List.length_set
  have w1 := W1.1
  generalize σ.set 270 (mo_F v1) = σ1 at W1 F1 after w1 hl1 ⊢
  refine nq_iload (pc' := 31) d_Mod_perform_29 rfl rfl ?_
  refine nq_bipush (v := 73) (pc' := 33) d_Mod_perform_31 rfl (by decide) ?_
  by_cases k73 : s.1 = 73
  · refine nq_icmp_ne (pc' := 36) (tgt := 44) d_Mod_perform_33 rfl (by decide) (fun h => absurd (by rw [k73]; rfl) h) (fun _ => ?_)
    refine nq_aload_n (pc' := 37) d_Mod_perform_36 rfl rfl rfl ?_
    refine nq_iload_n (pc' := 38) d_Mod_perform_37 rfl rfl rfl ?_
    have hI := k_Mod_insert (G := G) (d := d) (h := 400 * k) (s := s) W1 hM k73 (by omega) p4 hup' h71 q13 q14 (by omega) (by omega) (by omega)
    rw [q15] at hI
    refine nq_callV (pc' := 41) d_Mod_perform_38 rfl cl_Mod_183 rfl (by first | assumption | exact nq_ga (by assumption) | exact nq_gs (by first | assumption | exact nq_ga (by assumption) | exact nq_gs (by first | assumption | exact nq_gs (by assumption) | exact nq_gn (by first | assumption | decide | omega | exact nq_ne1 (by assumption) (by assumption) | exact nq_ne2 (by assumption) (by assumption)) (by assumption) | exact nq_ga (by assumption)) | exact nq_gn (by first | assumption | decide | omega | exact nq_ne1 (by assumption) (by assumption) | exact nq_ne2 (by assumption) (by assumption)) (by first | assumption | exact nq_gs (by assumption) | exact nq_gn (by first | assumption | decide | omega | exact nq_ne1 (by assumption) (by assumption) | exact nq_ne2 (by assumption) (by assumption)) (by assumption) | exact nq_ga (by assumption))) | exact nq_gn (by first | assumption | decide | omega | exact nq_ne1 (by assumption) (by assumption) | exact nq_ne2 (by assumption) (by assumption)) (by first | assumption | exact nq_ga (by assumption) | exact nq_gs (by first | assumption | exact nq_gs (by assumption) | exact nq_gn (by first | assumption | decide | omega | exact nq_ne1 (by assumption) (by assumption) | exact nq_ne2 (by assumption) (by assumption)) (by assumption) | exact nq_ga (by assumption)) | exact nq_gn (by first | assumption | decide | omega | exact nq_ne1 (by assumption) (by assumption) | exact nq_ne2 (by assumption) (by assumption)) (by first | assumption | exact nq_gs (by assumption) | exact nq_gn (by first | assumption | decide | omega | exact nq_ne1 (by assumption) (by assumption) | exact nq_ne2 (by assumption) (by assumption)) (by assumption) | exact nq_ga (by assumption)))) rfl rfl (kc := 0) (ks := 0) (mc' := 1) (ms' := 3) (As := [.int (nI (400 * k))]) (rest := []) rfl rfl (by decide) hI (fun E σ3 hq => ?_) (fun z σ3 hq => ?_)
    · obtain ⟨x, e, _⟩ := after _ _ hq
      cases e
    · obtain ⟨x, e, hJ⟩ := after _ _ hq
      cases e
      refine nq_goto (tgt := 71) d_Mod_perform_41 (by decide) ?_
      exact hJ
  refine nq_icmp_ne (pc' := 36) (tgt := 44) d_Mod_perform_33 rfl (by decide) (fun _ => ?_) (fun h => absurd h (kk 73 (by omega) k73))
  refine nq_J.le (kc := 0) (ks := 0) (by omega) (by omega) ?_
  have chg : s.1 = 68 ∨ s.1 = 85 → nq_J G (d + 1) 0 0 m_Mod_perform 58 [some (.ref 270), some (.int (nI k)), some (.int p), some (.int (nI (400 * k))), some (.int (nI s.1)), none] [] σ1 (mo_Q mo_run σ (sx_run s p (T, pl, kp, tb, old, bg, nt, dn, fl, res, w9))) := by
    intro hs
    have hI := k_Mod_change (G := G) (d := d) (h := 400 * k) (s := s) W1 hM hs (by omega) p4 h71 q13 q14 (by omega)
    rw [q15] at hI
    refine nq_aload_n (pc' := 59) d_Mod_perform_58 rfl rfl rfl ?_
    refine nq_iload_n (pc' := 60) d_Mod_perform_59 rfl rfl rfl ?_
    refine nq_callV (pc' := 63) d_Mod_perform_60 rfl cl_Mod_186 rfl (by first | assumption | exact nq_ga (by assumption) | exact nq_gs (by first | assumption | exact nq_ga (by assumption) | exact nq_gs (by first | assumption | exact nq_gs (by assumption) | exact nq_gn (by first | assumption | decide | omega | exact nq_ne1 (by assumption) (by assumption) | exact nq_ne2 (by assumption) (by assumption)) (by assumption) | exact nq_ga (by assumption)) | exact nq_gn (by first | assumption | decide | omega | exact nq_ne1 (by assumption) (by assumption) | exact nq_ne2 (by assumption) (by assumption)) (by first | assumption | exact nq_gs (by assumption) | exact nq_gn (by first | assumption | decide | omega | exact nq_ne1 (by assumption) (by assumption) | exact nq_ne2 (by assumption) (by assumption)) (by assumption) | exact nq_ga (by assumption))) | exact nq_gn (by first | assumption | decide | omega | exact nq_ne1 (by assumption) (by assumption) | exact nq_ne2 (by assumption) (by assumption)) (by first | assumption | exact nq_ga (by assumption) | exact nq_gs (by first | assumption | exact nq_gs (by assumption) | exact nq_gn (by first | assumption | decide | omega | exact nq_ne1 (by assumption) (by assumption) | exact nq_ne2 (by assumption) (by assumption)) (by assumption) | exact nq_ga (by assumption)) | exact nq_gn (by first | assumption | decide | omega | exact nq_ne1 (by assumption) (by assumption) | exact nq_ne2 (by assumption) (by assumption)) (by first | assumption | exact nq_gs (by assumption) | exact nq_gn (by first | assumption | decide | omega | exact nq_ne1 (by assumption) (by assumption) | exact nq_ne2 (by assumption) (by assumption)) (by assumption) | exact nq_ga (by assumption)))) rfl rfl (kc := 0) (ks := 0) (mc' := 0) (ms' := 0) (As := [.int (nI (400 * k))]) (rest := []) rfl rfl (by decide) hI (fun E σ3 hq => ?_) (fun z σ3 hq => ?_)
    · obtain ⟨x, e, _⟩ := after _ _ hq
      cases e
    · obtain ⟨x, e, hJ⟩ := after _ _ hq
      cases e
      refine nq_goto (tgt := 71) d_Mod_perform_63 (by decide) ?_
      exact hJ
  refine nq_iload (pc' := 46) d_Mod_perform_44 rfl rfl ?_
  refine nq_bipush (v := 68) (pc' := 48) d_Mod_perform_46 rfl (by decide) ?_
  by_cases k68 : s.1 = 68
  · refine nq_icmp_eq (pc' := 51) (tgt := 58) d_Mod_perform_48 rfl (by decide) (fun _ => chg (.inl k68)) (fun h => absurd (by rw [k68]; rfl) h)
  refine nq_icmp_eq (pc' := 51) (tgt := 58) d_Mod_perform_48 rfl (by decide) (fun h => absurd h (kk 68 (by omega) k68)) (fun _ => ?_)
  refine nq_iload (pc' := 53) d_Mod_perform_51 rfl rfl ?_
  refine nq_bipush (v := 85) (pc' := 55) d_Mod_perform_53 rfl (by decide) ?_
  by_cases k85 : s.1 = 85
  · refine nq_icmp_ne (pc' := 58) (tgt := 66) d_Mod_perform_55 rfl (by decide) (fun h => absurd (by rw [k85]; rfl) h) (fun _ => chg (.inr k85))
  refine nq_icmp_ne (pc' := 58) (tgt := 66) d_Mod_perform_55 rfl (by decide) (fun _ => ?_) (fun h => absurd h (kk 85 (by omega) k85))
  refine nq_aload_n (pc' := 67) d_Mod_perform_66 rfl rfl rfl ?_
  refine nq_iload_n (pc' := 68) d_Mod_perform_67 rfl rfl rfl ?_
  have hs4 : s.1 = 83 ∨ s.1 = 80 ∨ s.1 = 65 ∨ s.1 = 66 := by
    have : ∀ c ∈ tx 1, c = 73 ∨ c = 68 ∨ c = 85 ∨ c = 83 ∨ c = 80 ∨ c = 65 ∨ c = 66 := by decide
    have := this _ hk1
    omega
  have hI := k_Mod_select (G := G) (d := d) (h := 400 * k) (s := s) W1 hM hs4 (by omega) p4 h71 q13 (by omega)
  rw [q15] at hI
  refine nq_callV (pc' := 71) d_Mod_perform_68 rfl cl_Mod_189 rfl (by first | assumption | exact nq_ga (by assumption) | exact nq_gs (by first | assumption | exact nq_ga (by assumption) | exact nq_gs (by first | assumption | exact nq_gs (by assumption) | exact nq_gn (by first | assumption | decide | omega | exact nq_ne1 (by assumption) (by assumption) | exact nq_ne2 (by assumption) (by assumption)) (by assumption) | exact nq_ga (by assumption)) | exact nq_gn (by first | assumption | decide | omega | exact nq_ne1 (by assumption) (by assumption) | exact nq_ne2 (by assumption) (by assumption)) (by first | assumption | exact nq_gs (by assumption) | exact nq_gn (by first | assumption | decide | omega | exact nq_ne1 (by assumption) (by assumption) | exact nq_ne2 (by assumption) (by assumption)) (by assumption) | exact nq_ga (by assumption))) | exact nq_gn (by first | assumption | decide | omega | exact nq_ne1 (by assumption) (by assumption) | exact nq_ne2 (by assumption) (by assumption)) (by first | assumption | exact nq_ga (by assumption) | exact nq_gs (by first | assumption | exact nq_gs (by assumption) | exact nq_gn (by first | assumption | decide | omega | exact nq_ne1 (by assumption) (by assumption) | exact nq_ne2 (by assumption) (by assumption)) (by assumption) | exact nq_ga (by assumption)) | exact nq_gn (by first | assumption | decide | omega | exact nq_ne1 (by assumption) (by assumption) | exact nq_ne2 (by assumption) (by assumption)) (by first | assumption | exact nq_gs (by assumption) | exact nq_gn (by first | assumption | decide | omega | exact nq_ne1 (by assumption) (by assumption) | exact nq_ne2 (by assumption) (by assumption)) (by assumption) | exact nq_ga (by assumption)))) rfl rfl (kc := 0) (ks := 0) (mc' := 0) (ms' := 0) (As := [.int (nI (400 * k))]) (rest := []) rfl rfl (by decide) hI (fun E σ3 hq => ?_) (fun z σ3 hq => ?_)
  · obtain ⟨x, e, _⟩ := after _ _ hq
    cases e
  · obtain ⟨x, e, hJ⟩ := after _ _ hq
    cases e
    exact hJ
end MP
