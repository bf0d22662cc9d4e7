/-! THE OTHER STORE: type -/
def mo_ty (e : String) : Int32 := if e = nq_IA then 1 else 2
/-- what the first pass over the last k bytes comes to -/
def ty_lp (v : Int64) : Nat → Nat → Bool → Nat × Bool
  | 0, n, b => (n, b)
  | k + 1, n, b => if sx_by v (sx_sh (8 - (k + 1))) = 0 then ty_lp v k n b else ty_lp v k (n + 1) (if sx_by v (sx_sh (8 - (k + 1))) < 33 ∨ 126 < sx_by v (sx_sh (8 - (k + 1))) then false else b)
theorem ty_lp_f (v : Int64) : ∀ (k n : Nat), (ty_lp v k n false).2 = false
  | 0, n => rfl
  | k + 1, n => by
    unfold ty_lp
    split
    · exact ty_lp_f v k n
    · split
      · exact ty_lp_f v k (n + 1)
      · exact ty_lp_f v k (n + 1)
theorem ty_lp_n (v : Int64) : ∀ (k n : Nat), sx_cn v k = none → (ty_lp v k n true).2 = false
  | 0, n, h => by cases h
  | k + 1, n, h => by
    unfold sx_cn at h
    unfold ty_lp
    split
    · rename_i h0
      rw [if_pos h0] at h
      exact ty_lp_n v k n h
    · rename_i h0
      rw [if_neg h0] at h
      split
      · exact ty_lp_f v k (n + 1)
      · rename_i h1
        rw [if_neg h1] at h
        cases hk : sx_cn v k with
        | none => exact ty_lp_n v k (n + 1) hk
        | some m => rw [hk] at h; cases h
theorem ty_lp_s (v : Int64) : ∀ (k n m : Nat), sx_cn v k = some m → ty_lp v k n true = (n + m, true)
  | 0, n, m, h => by cases h; rfl
  | k + 1, n, m, h => by
    unfold sx_cn at h
    unfold ty_lp
    split
    · rename_i h0
      rw [if_pos h0] at h
      exact ty_lp_s v k n m h
    · rename_i h0
      rw [if_neg h0] at h
      split
      · rename_i h1
        rw [if_pos h1] at h
        cases h
      · rename_i h1
        rw [if_neg h1] at h
        cases hk : sx_cn v k with
        | none => rw [hk] at h; cases h
        | some m' =>
          rw [hk] at h
          cases h
          rw [ty_lp_s v k (n + 1) m' hk]
          show (n + 1 + m', true) = (n + (m' + 1), true)
          rw [Nat.add_assoc, Nat.add_comm 1]
theorem rd_T.push {f : Nat → Int32} {T : List Nat} {b : Nat} (hT : rd_T f T) (hl : T.length < 48) (hb : 33 ≤ b ∧ b ≤ 126) : rd_T (upd f T.length (nI b)) (T ++ [b]) := by
  refine ⟨by simp only [List.length_append, List.length_cons, List.length_nil]; omega, fun i x hx => ?_⟩
  by_cases hi : i = T.length
  · subst hi
    rw [List.getElem?_append_right (Nat.le_refl _), Nat.sub_self] at hx
    cases hx
    exact ⟨upd_at, hb⟩
  · have hl := (List.getElem?_eq_some_iff.mp hx).1
    simp only [List.length_append, List.length_cons, List.length_nil] at hl
    rw [List.getElem?_append_left (by omega)] at hx
    rw [upd_ne hi]
    exact hT.2 i x hx
theorem mo_P.ty {v v' : Nat → Int32} {ar : mo_Ar} {f : Nat → Int32} {T T' : List Nat} {r : Int32 × (Nat → Option sp_St) × sx_T × sx_T × Bool × Int32 × Int32 × Int32 × List sx_E × Nat} (h : mo_P v ar (T, r)) (hT : rd_T f T') (h0 : v' 0 = nI T'.length) (hv : ∀ k, k ≠ 0 → k ≠ 7 → v' k = v k) : mo_P v' (ua ar 0 f) (T', r) := by
  obtain ⟨pl, kp, tb, old, bg, nt, dn, fl, res, w9⟩ := r
  obtain ⟨⟨p0, p1, p2⟩, p3, p4, ⟨p6, p7, p8, p9⟩, p10, p11, p12⟩ := h
  exact ⟨⟨h0, hT, (hv 1 (by decide) (by decide)).trans p2⟩, p3, p4, ⟨(hv 12 (by decide) (by decide)).trans p6, (hv 8 (by decide) (by decide)).trans p7, (hv 9 (by decide) (by decide)).trans p8, (hv 10 (by decide) (by decide)).trans p9⟩, (hv 13 (by decide) (by decide)).trans p10, fun h => (hv 14 (by decide) (by decide)).trans (p11 h), p12⟩
section MT
variable {G : nq_G} {d : Nat} {σ : nq_S} {v : Nat → Int32} {ar : mo_Ar} {S : sx_S} {p : Int64}
theorem k_Mod_type (hW : mo_W σ v ar) (hP : mo_P v ar S) (hD : 1 ≤ d) : nq_JM G d 0 0 m_Mod_type [.ref 270, .long p] σ (mo_Q mo_ty σ (sx_type p S)) := by
  obtain ⟨d, rfl⟩ : ∃ d', d = d' + 1 := ⟨d - 1, by omega⟩
  have w := hW.1
  obtain ⟨T, r⟩ := S
  have hP0 := hP
  have t0 : v 0 = nI T.length ∧ rd_T (ar 0) T := by
    obtain ⟨pl, kp, tb, old, bg, nt, dn, fl, res, w9⟩ := r
    exact ⟨hP.1.1, hP.1.2.1⟩
  obtain ⟨t1, t2⟩ := t0
  have hT48 := t2.1
  unfold sx_type
  simp only
  have loop2 : ∀ (k : Nat) (T1 : List Nat) (v1 : Nat → Int32) (f : Nat → Int32) (σ1 : nq_S) (l6 : Option Value), k ≤ 8 → T1.length + (sx_cs p k).length ≤ 48 → (∀ c ∈ sx_cs p k, 33 ≤ c ∧ c ≤ 126) → rd_T f T1 → mo_fr σ σ1 → mo_W σ1 v1 (ua ar 0 f) → v1 0 = nI T1.length → v1 7 = 0 → (∀ j, j ≠ 0 → j ≠ 7 → v1 j = v j) → nq_J G (d + 1) 0 0 m_Mod_type 91 [some (.ref 270), some (.long p), none, none, none, some (.int (sx_sh (8 - k))), l6] [] σ1 (mo_Q mo_ty σ (.inl (some (nI (T1.length + (sx_cs p k).length))), (T1 ++ sx_cs p k, r))) := by
    intro k
    induction k with
    | zero =>
      intro T1 v1 f σ1 l6 hk hl hc hT F1 W1 h0 h7 hv
      have w1 := W1.1
      refine nq_iload (pc' := 93) d_Mod_type_91 rfl rfl ?_
      refine nq_if_lt (pc' := 96) (tgt := 142) d_Mod_type_93 rfl (by decide) (fun _ => ?_) (fun h => absurd ((sx_sh_ok ⟨8, by omega⟩).1.mpr rfl) h)
      refine nq_aload_n (pc' := 143) d_Mod_type_142 rfl rfl rfl ?_
      refine nq_getf (pc' := 146) d_Mod_type_143 rfl fl_Mod_74 (by first | assumption | exact nq_ga (by assumption) | exact nq_gs (by first | assumption | exact nq_ga (by assumption) | exact nq_gs (by first | assumption | exact nq_gs (by assumption) | exact nq_gn (by first | assumption | decide | omega | exact nq_ne1 (by assumption) (by assumption) | exact nq_ne2 (by assumption) (by assumption)) (by assumption) | exact nq_ga (by assumption)) | exact nq_gn (by first | assumption | decide | omega | exact nq_ne1 (by assumption) (by assumption) | exact nq_ne2 (by assumption) (by assumption)) (by first | assumption | exact nq_gs (by assumption) | exact nq_gn (by first | assumption | decide | omega | exact nq_ne1 (by assumption) (by assumption) | exact nq_ne2 (by assumption) (by assumption)) (by assumption) | exact nq_ga (by assumption))) | exact nq_gn (by first | assumption | decide | omega | exact nq_ne1 (by assumption) (by assumption) | exact nq_ne2 (by assumption) (by assumption)) (by first | assumption | exact nq_ga (by assumption) | exact nq_gs (by first | assumption | exact nq_gs (by assumption) | exact nq_gn (by first | assumption | decide | omega | exact nq_ne1 (by assumption) (by assumption) | exact nq_ne2 (by assumption) (by assumption)) (by assumption) | exact nq_ga (by assumption)) | exact nq_gn (by first | assumption | decide | omega | exact nq_ne1 (by assumption) (by assumption) | exact nq_ne2 (by assumption) (by assumption)) (by first | assumption | exact nq_gs (by assumption) | exact nq_gn (by first | assumption | decide | omega | exact nq_ne1 (by assumption) (by assumption) | exact nq_ne2 (by assumption) (by assumption)) (by assumption) | exact nq_ga (by assumption)))) rfl ?_
      refine nq_iret d_Mod_type_146 rfl rfl ⟨F1.g, v1, _, v1 0, W1, ?_, rfl, ?_, h7⟩
      · unfold sx_cs
        rw [List.append_nil]
        exact hP0.ty hT h0 hv
      · rw [h0]
        rfl
    | succ k ih =>
      intro T1 v1 f σ1 l6 hk hl hc hT F1 W1 h0 h7 hv
      have w1 := W1.1
      have a0 : σ1[271]? = some (.inl (0, 48, .inl f)) := W1.2.1
      have hs := sx_sh_ok ⟨8 - (k + 1), by omega⟩
      simp only at hs
      have hst : sx_sh (8 - (k + 1)) + Int32.ofInt (-8) = sx_sh (8 - k) := by rw [hs.2 (by omega)]; congr 1; omega
      have hb := sx_by_lt p (sx_sh (8 - (k + 1)))
      refine nq_iload (pc' := 93) d_Mod_type_91 rfl rfl ?_
      refine nq_if_lt (pc' := 96) (tgt := 142) d_Mod_type_93 rfl (by decide) (fun h => absurd (hs.1.mp h) (by omega)) (fun _ => ?_)
      refine nq_lload_n (pc' := 97) d_Mod_type_96 rfl rfl rfl ?_
      refine nq_iload (pc' := 99) d_Mod_type_97 rfl rfl ?_
      refine nq_lushr (pc' := 100) d_Mod_type_99 rfl ?_
      refine nq_l2i (pc' := 101) d_Mod_type_100 rfl ?_
      refine nq_sipush (v := 255) (pc' := 104) d_Mod_type_101 rfl (by decide) ?_
      refine nq_iand (pc' := 105) d_Mod_type_104 rfl ?_
      rw [sx_by_eq]
      unfold sx_cs at hl hc ⊢
      generalize sx_by p (sx_sh (8 - (k + 1))) = b at hb hl hc ⊢
      refine nq_istore (pc' := 107) d_Mod_type_105 rfl (by decide) rfl ?_
      refine nq_iload (pc' := 109) d_Mod_type_107 rfl rfl ?_
      by_cases b0 : b = 0
      · rw [if_pos b0] at hl hc ⊢
        subst b0
        refine nq_if_ne (pc' := 112) (tgt := 115) d_Mod_type_109 rfl (by decide) (fun h => absurd rfl h) (fun _ => ?_)
        refine nq_goto (tgt := 136) d_Mod_type_112 (by decide) ?_
        refine nq_iinc (pc' := 139) d_Mod_type_136 rfl rfl (v := sx_sh (8 - k)) hst (by decide) rfl ?_
        refine nq_goto (tgt := 91) d_Mod_type_139 (by decide) ?_
        exact ih T1 v1 f σ1 _ (by omega) hl hc hT F1 W1 h0 h7 hv
      · rw [if_neg b0] at hl hc ⊢
        simp only [List.length_cons] at hl
        refine nq_if_ne (pc' := 112) (tgt := 115) d_Mod_type_109 rfl (by decide) (fun _ => ?_) (fun h => absurd h (nI_ne0 (by omega) (by omega)))
        refine nq_aload_n (pc' := 116) d_Mod_type_115 rfl rfl rfl ?_
        refine nq_getf (pc' := 119) d_Mod_type_116 rfl fl_Mod_7 (by first | assumption | exact nq_ga (by assumption) | exact nq_gs (by first | assumption | exact nq_ga (by assumption) | exact nq_gs (by first | assumption | exact nq_gs (by assumption) | exact nq_gn (by first | assumption | decide | omega | exact nq_ne1 (by assumption) (by assumption) | exact nq_ne2 (by assumption) (by assumption)) (by assumption) | exact nq_ga (by assumption)) | exact nq_gn (by first | assumption | decide | omega | exact nq_ne1 (by assumption) (by assumption) | exact nq_ne2 (by assumption) (by assumption)) (by first | assumption | exact nq_gs (by assumption) | exact nq_gn (by first | assumption | decide | omega | exact nq_ne1 (by assumption) (by assumption) | exact nq_ne2 (by assumption) (by assumption)) (by assumption) | exact nq_ga (by assumption))) | exact nq_gn (by first | assumption | decide | omega | exact nq_ne1 (by assumption) (by assumption) | exact nq_ne2 (by assumption) (by assumption)) (by first | assumption | exact nq_ga (by assumption) | exact nq_gs (by first | assumption | exact nq_gs (by assumption) | exact nq_gn (by first | assumption | decide | omega | exact nq_ne1 (by assumption) (by assumption) | exact nq_ne2 (by assumption) (by assumption)) (by assumption) | exact nq_ga (by assumption)) | exact nq_gn (by first | assumption | decide | omega | exact nq_ne1 (by assumption) (by assumption) | exact nq_ne2 (by assumption) (by assumption)) (by first | assumption | exact nq_gs (by assumption) | exact nq_gn (by first | assumption | decide | omega | exact nq_ne1 (by assumption) (by assumption) | exact nq_ne2 (by assumption) (by assumption)) (by assumption) | exact nq_ga (by assumption)))) rfl ?_
        refine nq_aload_n (pc' := 120) d_Mod_type_119 rfl rfl rfl ?_
        refine nq_getf (pc' := 123) d_Mod_type_120 rfl fl_Mod_74 (by first | assumption | exact nq_ga (by assumption) | exact nq_gs (by first | assumption | exact nq_ga (by assumption) | exact nq_gs (by first | assumption | exact nq_gs (by assumption) | exact nq_gn (by first | assumption | decide | omega | exact nq_ne1 (by assumption) (by assumption) | exact nq_ne2 (by assumption) (by assumption)) (by assumption) | exact nq_ga (by assumption)) | exact nq_gn (by first | assumption | decide | omega | exact nq_ne1 (by assumption) (by assumption) | exact nq_ne2 (by assumption) (by assumption)) (by first | assumption | exact nq_gs (by assumption) | exact nq_gn (by first | assumption | decide | omega | exact nq_ne1 (by assumption) (by assumption) | exact nq_ne2 (by assumption) (by assumption)) (by assumption) | exact nq_ga (by assumption))) | exact nq_gn (by first | assumption | decide | omega | exact nq_ne1 (by assumption) (by assumption) | exact nq_ne2 (by assumption) (by assumption)) (by first | assumption | exact nq_ga (by assumption) | exact nq_gs (by first | assumption | exact nq_gs (by assumption) | exact nq_gn (by first | assumption | decide | omega | exact nq_ne1 (by assumption) (by assumption) | exact nq_ne2 (by assumption) (by assumption)) (by assumption) | exact nq_ga (by assumption)) | exact nq_gn (by first | assumption | decide | omega | exact nq_ne1 (by assumption) (by assumption) | exact nq_ne2 (by assumption) (by assumption)) (by first | assumption | exact nq_gs (by assumption) | exact nq_gn (by first | assumption | decide | omega | exact nq_ne1 (by assumption) (by assumption) | exact nq_ne2 (by assumption) (by assumption)) (by assumption) | exact nq_ga (by assumption)))) rfl ?_
        refine nq_iload (pc' := 125) d_Mod_type_123 rfl rfl ?_
        rw [h0]
        refine nq_iast (pc' := 126) d_Mod_type_125 rfl (by first | assumption | exact nq_ga (by assumption) | exact nq_gs (by first | assumption | exact nq_ga (by assumption) | exact nq_gs (by first | assumption | exact nq_gs (by assumption) | exact nq_gn (by first | assumption | decide | omega | exact nq_ne1 (by assumption) (by assumption) | exact nq_ne2 (by assumption) (by assumption)) (by assumption) | exact nq_ga (by assumption)) | exact nq_gn (by first | assumption | decide | omega | exact nq_ne1 (by assumption) (by assumption) | exact nq_ne2 (by assumption) (by assumption)) (by first | assumption | exact nq_gs (by assumption) | exact nq_gn (by first | assumption | decide | omega | exact nq_ne1 (by assumption) (by assumption) | exact nq_ne2 (by assumption) (by assumption)) (by assumption) | exact nq_ga (by assumption))) | exact nq_gn (by first | assumption | decide | omega | exact nq_ne1 (by assumption) (by assumption) | exact nq_ne2 (by assumption) (by assumption)) (by first | assumption | exact nq_ga (by assumption) | exact nq_gs (by first | assumption | exact nq_gs (by assumption) | exact nq_gn (by first | assumption | decide | omega | exact nq_ne1 (by assumption) (by assumption) | exact nq_ne2 (by assumption) (by assumption)) (by assumption) | exact nq_ga (by assumption)) | exact nq_gn (by first | assumption | decide | omega | exact nq_ne1 (by assumption) (by assumption) | exact nq_ne2 (by assumption) (by assumption)) (by first | assumption | exact nq_gs (by assumption) | exact nq_gn (by first | assumption | decide | omega | exact nq_ne1 (by assumption) (by assumption) | exact nq_ne2 (by assumption) (by assumption)) (by assumption) | exact nq_ga (by assumption)))) rfl (j := T1.length) rfl (by omega) (by decide) ?_
        have W2 := W1.a0 (f := upd f T1.length (nI b))
        rw [ua_ua] at W2
        have w2 := W2.1
        refine nq_aload_n (pc' := 127) d_Mod_type_126 rfl rfl rfl ?_
        refine nq_dup (pc' := 128) d_Mod_type_127 rfl rfl ?_
        refine nq_getf (pc' := 131) d_Mod_type_128 rfl fl_Mod_74 (by first | assumption | exact nq_ga (by assumption) | exact nq_gs (by first | assumption | exact nq_ga (by assumption) | exact nq_gs (by first | assumption | exact nq_gs (by assumption) | exact nq_gn (by first | assumption | decide | omega | exact nq_ne1 (by assumption) (by assumption) | exact nq_ne2 (by assumption) (by assumption)) (by assumption) | exact nq_ga (by assumption)) | exact nq_gn (by first | assumption | decide | omega | exact nq_ne1 (by assumption) (by assumption) | exact nq_ne2 (by assumption) (by assumption)) (by first | assumption | exact nq_gs (by assumption) | exact nq_gn (by first | assumption | decide | omega | exact nq_ne1 (by assumption) (by assumption) | exact nq_ne2 (by assumption) (by assumption)) (by assumption) | exact nq_ga (by assumption))) | exact nq_gn (by first | assumption | decide | omega | exact nq_ne1 (by assumption) (by assumption) | exact nq_ne2 (by assumption) (by assumption)) (by first | assumption | exact nq_ga (by assumption) | exact nq_gs (by first | assumption | exact nq_gs (by assumption) | exact nq_gn (by first | assumption | decide | omega | exact nq_ne1 (by assumption) (by assumption) | exact nq_ne2 (by assumption) (by assumption)) (by assumption) | exact nq_ga (by assumption)) | exact nq_gn (by first | assumption | decide | omega | exact nq_ne1 (by assumption) (by assumption) | exact nq_ne2 (by assumption) (by assumption)) (by first | assumption | exact nq_gs (by assumption) | exact nq_gn (by first | assumption | decide | omega | exact nq_ne1 (by assumption) (by assumption) | exact nq_ne2 (by assumption) (by assumption)) (by assumption) | exact nq_ga (by assumption)))) rfl ?_
        refine nq_iconst (v := 1) (pc' := 132) d_Mod_type_131 rfl (by decide) ?_
        refine nq_iadd (pc' := 133) d_Mod_type_132 rfl ?_
        refine nq_putf (pc' := 136) d_Mod_type_133 rfl fl_Mod_74 (by first | assumption | exact nq_ga (by assumption) | exact nq_gs (by first | assumption | exact nq_ga (by assumption) | exact nq_gs (by first | assumption | exact nq_gs (by assumption) | exact nq_gn (by first | assumption | decide | omega | exact nq_ne1 (by assumption) (by assumption) | exact nq_ne2 (by assumption) (by assumption)) (by assumption) | exact nq_ga (by assumption)) | exact nq_gn (by first | assumption | decide | omega | exact nq_ne1 (by assumption) (by assumption) | exact nq_ne2 (by assumption) (by assumption)) (by first | assumption | exact nq_gs (by assumption) | exact nq_gn (by first | assumption | decide | omega | exact nq_ne1 (by assumption) (by assumption) | exact nq_ne2 (by assumption) (by assumption)) (by assumption) | exact nq_ga (by assumption))) | exact nq_gn (by first | assumption | decide | omega | exact nq_ne1 (by assumption) (by assumption) | exact nq_ne2 (by assumption) (by assumption)) (by first | assumption | exact nq_ga (by assumption) | exact nq_gs (by first | assumption | exact nq_gs (by assumption) | exact nq_gn (by first | assumption | decide | omega | exact nq_ne1 (by assumption) (by assumption) | exact nq_ne2 (by assumption) (by assumption)) (by assumption) | exact nq_ga (by assumption)) | exact nq_gn (by first | assumption | decide | omega | exact nq_ne1 (by assumption) (by assumption) | exact nq_ne2 (by assumption) (by assumption)) (by first | assumption | exact nq_gs (by assumption) | exact nq_gn (by first | assumption | decide | omega | exact nq_ne1 (by assumption) (by assumption) | exact nq_ne2 (by assumption) (by assumption)) (by assumption) | exact nq_ga (by assumption)))) (Nat.le_of_ble_eq_true rfl) rfl rfl ?_
        refine nq_iinc (pc' := 139) d_Mod_type_136 rfl rfl (v := sx_sh (8 - k)) hst (by decide) rfl ?_
        refine nq_goto (tgt := 91) d_Mod_type_139 (by decide) ?_
        have W3 := W2.fi (v' := upd v1 0 (v1 0 + 1))
        have := ih (T1 ++ [b]) (upd v1 0 (v1 0 + 1)) (upd f T1.length (nI b)) _ (some (.int (nI b))) (by omega) (by simp only [List.length_append, List.length_cons, List.length_nil]; omega) (fun c h => hc c (List.mem_cons_of_mem _ h)) (hT.push (by omega) (hc b List.mem_cons_self)) ((F1.tr (mo_fr.st (by decide))).tr (mo_fr.st (by decide))) W3 (by rw [upd_at, h0, nI_1]; simp) h7 (fun j a c => (upd_ne a).trans (hv j a c))
        rw [List.append_assoc] at this
        have e : (T1 ++ [b]).length + (sx_cs p k).length = T1.length + (b :: sx_cs p k).length := by simp; omega
        rw [e] at this
        exact this
  have pass : ∀ (Q : nq_Q) (k n : Nat) (b : Bool) (l6 : Option Value), k ≤ 8 → (∀ l5 l6, nq_J G (d + 1) 0 0 m_Mod_type 59 [some (.ref 270), some (.long p), none, some (.int (nI (ty_lp p k n b).1)), some (.int (if (ty_lp p k n b).2 then 1 else 0)), l5, l6] [] σ Q) → nq_J G (d + 1) 0 0 m_Mod_type 9 [some (.ref 270), some (.long p), none, some (.int (nI n)), some (.int (if b then 1 else 0)), some (.int (sx_sh (8 - k))), l6] [] σ Q := by
    intro Q k
    induction k with
    | zero =>
      intro n b l6 hk kont
      refine nq_iload (pc' := 11) d_Mod_type_9 rfl rfl ?_
      refine nq_if_lt (pc' := 14) (tgt := 59) d_Mod_type_11 rfl (by decide) (fun _ => kont _ _) (fun h => absurd ((sx_sh_ok ⟨8, by omega⟩).1.mpr rfl) h)
    | succ k ih =>
      intro n b l6 hk kont
      have hs := sx_sh_ok ⟨8 - (k + 1), by omega⟩
      simp only at hs
      have hst : sx_sh (8 - (k + 1)) + Int32.ofInt (-8) = sx_sh (8 - k) := by rw [hs.2 (by omega)]; congr 1; omega
      have hb := sx_by_lt p (sx_sh (8 - (k + 1)))
      refine nq_iload (pc' := 11) d_Mod_type_9 rfl rfl ?_
      refine nq_if_lt (pc' := 14) (tgt := 59) d_Mod_type_11 rfl (by decide) (fun h => absurd (hs.1.mp h) (by omega)) (fun _ => ?_)
      refine nq_lload_n (pc' := 15) d_Mod_type_14 rfl rfl rfl ?_
      refine nq_iload (pc' := 17) d_Mod_type_15 rfl rfl ?_
      refine nq_lushr (pc' := 18) d_Mod_type_17 rfl ?_
      refine nq_l2i (pc' := 19) d_Mod_type_18 rfl ?_
      refine nq_sipush (v := 255) (pc' := 22) d_Mod_type_19 rfl (by decide) ?_
      refine nq_iand (pc' := 23) d_Mod_type_22 rfl ?_
      rw [sx_by_eq]
      unfold ty_lp at kont
      generalize sx_by p (sx_sh (8 - (k + 1))) = c at hb kont ⊢
      refine nq_istore (pc' := 25) d_Mod_type_23 rfl (by decide) rfl ?_
      refine nq_iload (pc' := 27) d_Mod_type_25 rfl rfl ?_
      by_cases c0 : c = 0
      · rw [if_pos c0] at kont
        subst c0
        refine nq_if_eq (pc' := 30) (tgt := 33) d_Mod_type_27 rfl (by decide) (fun _ => ?_) (fun h => absurd rfl h)
        refine nq_iload (pc' := 35) d_Mod_type_33 rfl rfl ?_
        refine nq_if_eq (pc' := 38) (tgt := 53) d_Mod_type_35 rfl (by decide) (fun _ => ?_) (fun h => absurd rfl h)
        refine nq_iinc (pc' := 56) d_Mod_type_53 rfl rfl (v := sx_sh (8 - k)) hst (by decide) rfl ?_
        refine nq_goto (tgt := 9) d_Mod_type_56 (by decide) ?_
        exact ih n b _ (by omega) kont
      · rw [if_neg c0] at kont
        refine nq_if_eq (pc' := 30) (tgt := 33) d_Mod_type_27 rfl (by decide) (fun h => absurd h (nI_ne0 (by omega) (by omega))) (fun _ => ?_)
        refine nq_iinc (pc' := 33) d_Mod_type_30 rfl rfl (v := nI (n + 1)) (nI_1 n) (by decide) rfl ?_
        refine nq_iload (pc' := 35) d_Mod_type_33 rfl rfl ?_
        refine nq_if_eq (pc' := 38) (tgt := 53) d_Mod_type_35 rfl (by decide) (fun h => absurd h (nI_ne0 (by omega) (by omega))) (fun _ => ?_)
        refine nq_iload (pc' := 40) d_Mod_type_38 rfl rfl ?_
        refine nq_bipush (v := 33) (pc' := 42) d_Mod_type_40 rfl (by decide) ?_
        refine nq_bipush (v := 126) (pc' := 44) d_Mod_type_42 rfl (by decide) ?_
        by_cases c1 : c < 33 ∨ 126 < c
        · rw [if_pos c1] at kont
          refine nq_callSR (pc' := 47) d_Mod_type_44 rfl cl_Mod_66 st_Mod_66 rfl (kc := 0) (ks := 0) (mc' := 0) (ms' := 0) (As := [.int (nI c), .int 33, .int 126]) (rest := []) rfl rfl (by decide) (k_Mod_in0 (fun h => by
            have h1 := (nI_leI (a := 33) (b := c) (by omega) (by omega)).mp h.1
            have h2 := (nI_leI (a := c) (b := 126) (by omega) (by omega)).mp h.2
            omega)) ?_
          refine nq_if_ne (pc' := 50) (tgt := 53) d_Mod_type_47 rfl (by decide) (fun h => absurd rfl h) (fun _ => ?_)
          refine nq_iconst (v := 0) (pc' := 51) d_Mod_type_50 rfl (by decide) ?_
          refine nq_istore (pc' := 53) d_Mod_type_51 rfl (by decide) rfl ?_
          refine nq_iinc (pc' := 56) d_Mod_type_53 rfl rfl (v := sx_sh (8 - k)) hst (by decide) rfl ?_
          refine nq_goto (tgt := 9) d_Mod_type_56 (by decide) ?_
          exact ih (n + 1) false _ (by omega) kont
        · rw [if_neg c1] at kont
          refine nq_callSR (pc' := 47) d_Mod_type_44 rfl cl_Mod_66 st_Mod_66 rfl (kc := 0) (ks := 0) (mc' := 0) (ms' := 0) (As := [.int (nI c), .int 33, .int 126]) (rest := []) rfl rfl (by decide) (k_Mod_in1 ⟨(nI_leI (a := 33) (b := c) (by omega) (by omega)).mpr (by omega), (nI_leI (a := c) (b := 126) (by omega) (by omega)).mpr (by omega)⟩) ?_
          refine nq_if_ne (pc' := 50) (tgt := 53) d_Mod_type_47 rfl (by decide) (fun _ => ?_) (fun h => absurd h (by decide))
          refine nq_iinc (pc' := 56) d_Mod_type_53 rfl rfl (v := sx_sh (8 - k)) hst (by decide) rfl ?_
          refine nq_goto (tgt := 9) d_Mod_type_56 (by decide) ?_
          exact ih (n + 1) b _ (by omega) kont
  refine nq_mk' (lv := [some (.ref 270), some (.long p), none, none, none, none, none]) (by decide +kernel) rfl (Nat.le_of_ble_eq_true rfl) rfl ?_
  refine nq_iconst (v := 0) (pc' := 1) d_Mod_type_0 rfl (by decide) ?_
  refine nq_istore_n (pc' := 2) d_Mod_type_1 rfl rfl (by decide) rfl ?_
  refine nq_iconst (v := 1) (pc' := 3) d_Mod_type_2 rfl (by decide) ?_
  refine nq_istore (pc' := 5) d_Mod_type_3 rfl (by decide) rfl ?_
  refine nq_bipush (v := 56) (pc' := 7) d_Mod_type_5 rfl (by decide) ?_
  refine nq_istore (pc' := 9) d_Mod_type_7 rfl (by decide) rfl ?_
  refine pass _ 8 0 true none (by omega) (fun l5 l6 => ?_)
  unfold sx_ty
  cases hn : sx_cn p 8 with
  | none =>
    rw [ty_lp_n p 8 0 hn]
    refine nq_aload_n (pc' := 60) d_Mod_type_59 rfl rfl rfl ?_
    refine nq_iload (pc' := 62) d_Mod_type_60 rfl rfl ?_
    refine nq_callVR (pc' := 65) d_Mod_type_62 rfl cl_Mod_70 rfl (by first | assumption | exact nq_ga (by assumption) | exact nq_gs (by first | assumption | exact nq_ga (by assumption) | exact nq_gs (by first | assumption | exact nq_gs (by assumption) | exact nq_gn (by first | assumption | decide | omega | exact nq_ne1 (by assumption) (by assumption) | exact nq_ne2 (by assumption) (by assumption)) (by assumption) | exact nq_ga (by assumption)) | exact nq_gn (by first | assumption | decide | omega | exact nq_ne1 (by assumption) (by assumption) | exact nq_ne2 (by assumption) (by assumption)) (by first | assumption | exact nq_gs (by assumption) | exact nq_gn (by first | assumption | decide | omega | exact nq_ne1 (by assumption) (by assumption) | exact nq_ne2 (by assumption) (by assumption)) (by assumption) | exact nq_ga (by assumption))) | exact nq_gn (by first | assumption | decide | omega | exact nq_ne1 (by assumption) (by assumption) | exact nq_ne2 (by assumption) (by assumption)) (by first | assumption | exact nq_ga (by assumption) | exact nq_gs (by first | assumption | exact nq_gs (by assumption) | exact nq_gn (by first | assumption | decide | omega | exact nq_ne1 (by assumption) (by assumption) | exact nq_ne2 (by assumption) (by assumption)) (by assumption) | exact nq_ga (by assumption)) | exact nq_gn (by first | assumption | decide | omega | exact nq_ne1 (by assumption) (by assumption) | exact nq_ne2 (by assumption) (by assumption)) (by first | assumption | exact nq_gs (by assumption) | exact nq_gn (by first | assumption | decide | omega | exact nq_ne1 (by assumption) (by assumption) | exact nq_ne2 (by assumption) (by assumption)) (by assumption) | exact nq_ga (by assumption)))) rfl rfl (kc := 0) (ks := 0) (mc' := 0) (ms' := 0) (As := [.int 0]) (rest := []) rfl rfl (by decide) (k_Mod_bad0 hW) ?_
    refine nq_if_eq (pc' := 68) (tgt := 70) d_Mod_type_65 rfl (by decide) (fun h => absurd h (by decide)) (fun _ => ?_)
    refine nq_iconst (v := 0) (pc' := 69) d_Mod_type_68 rfl (by decide) ?_
    refine nq_iret d_Mod_type_69 rfl rfl ⟨(mo_fr.st (by decide)).g, upd v 7 1, ar, 0, hW.fi, hP0.u7, rfl, rfl⟩
  | some n =>
    rw [ty_lp_s p 8 0 n hn]
    simp only
    rw [Nat.zero_add]
    obtain ⟨e1, e2⟩ := sx_cn_cs p hn
    have hn8 : (sx_cs p 8).length ≤ 8 := by
      have : ∀ k, (sx_cs p k).length ≤ k := by
        intro k
        induction k with
        | zero => exact Nat.le_refl _
        | succ k ih =>
          unfold sx_cs
          split
          · omega
          · simp only [List.length_cons]; omega
      exact this 8
    refine nq_aload_n (pc' := 60) d_Mod_type_59 rfl rfl rfl ?_
    refine nq_iload (pc' := 62) d_Mod_type_60 rfl rfl ?_
    refine nq_callVR (pc' := 65) d_Mod_type_62 rfl cl_Mod_70 rfl (by first | assumption | exact nq_ga (by assumption) | exact nq_gs (by first | assumption | exact nq_ga (by assumption) | exact nq_gs (by first | assumption | exact nq_gs (by assumption) | exact nq_gn (by first | assumption | decide | omega | exact nq_ne1 (by assumption) (by assumption) | exact nq_ne2 (by assumption) (by assumption)) (by assumption) | exact nq_ga (by assumption)) | exact nq_gn (by first | assumption | decide | omega | exact nq_ne1 (by assumption) (by assumption) | exact nq_ne2 (by assumption) (by assumption)) (by first | assumption | exact nq_gs (by assumption) | exact nq_gn (by first | assumption | decide | omega | exact nq_ne1 (by assumption) (by assumption) | exact nq_ne2 (by assumption) (by assumption)) (by assumption) | exact nq_ga (by assumption))) | exact nq_gn (by first | assumption | decide | omega | exact nq_ne1 (by assumption) (by assumption) | exact nq_ne2 (by assumption) (by assumption)) (by first | assumption | exact nq_ga (by assumption) | exact nq_gs (by first | assumption | exact nq_gs (by assumption) | exact nq_gn (by first | assumption | decide | omega | exact nq_ne1 (by assumption) (by assumption) | exact nq_ne2 (by assumption) (by assumption)) (by assumption) | exact nq_ga (by assumption)) | exact nq_gn (by first | assumption | decide | omega | exact nq_ne1 (by assumption) (by assumption) | exact nq_ne2 (by assumption) (by assumption)) (by first | assumption | exact nq_gs (by assumption) | exact nq_gn (by first | assumption | decide | omega | exact nq_ne1 (by assumption) (by assumption) | exact nq_ne2 (by assumption) (by assumption)) (by assumption) | exact nq_ga (by assumption)))) rfl rfl (kc := 0) (ks := 0) (mc' := 0) (ms' := 0) (As := [.int 1]) (rest := []) rfl rfl (by decide) (k_Mod_bad1 hW) ?_
    refine nq_if_eq (pc' := 68) (tgt := 70) d_Mod_type_65 rfl (by decide) (fun _ => ?_) (fun h => absurd rfl h)
    have W1 : mo_W (σ.set 270 (mo_F (upd v 7 0))) (upd v 7 0) ar := hW.fi
    have F1 : mo_fr σ (σ.set 270 (mo_F (upd v 7 0))) := mo_fr.st (by decide)
    have hv1 : ∀ j, j ≠ 0 → j ≠ 7 → upd v 7 0 j = v j := fun j _ b => upd_ne b
    have h71 : upd v 7 0 7 = 0 := upd_at
    have h01 : upd v 7 0 0 = nI T.length := t1
    have hP1 : mo_P (upd v 7 0) ar (T, r) := hP0.u7
    generalize upd v 7 0 = v1 at W1 F1 hv1 h71 h01 hP1 ⊢
    generalize σ.set 270 (mo_F v1) = σ1 at W1 F1 ⊢
    have w1 := W1.1
    refine nq_aload_n (pc' := 71) d_Mod_type_70 rfl rfl rfl ?_
    refine nq_getf (pc' := 74) d_Mod_type_71 rfl fl_Mod_74 (by first | assumption | exact nq_ga (by assumption) | exact nq_gs (by first | assumption | exact nq_ga (by assumption) | exact nq_gs (by first | assumption | exact nq_gs (by assumption) | exact nq_gn (by first | assumption | decide | omega | exact nq_ne1 (by assumption) (by assumption) | exact nq_ne2 (by assumption) (by assumption)) (by assumption) | exact nq_ga (by assumption)) | exact nq_gn (by first | assumption | decide | omega | exact nq_ne1 (by assumption) (by assumption) | exact nq_ne2 (by assumption) (by assumption)) (by first | assumption | exact nq_gs (by assumption) | exact nq_gn (by first | assumption | decide | omega | exact nq_ne1 (by assumption) (by assumption) | exact nq_ne2 (by assumption) (by assumption)) (by assumption) | exact nq_ga (by assumption))) | exact nq_gn (by first | assumption | decide | omega | exact nq_ne1 (by assumption) (by assumption) | exact nq_ne2 (by assumption) (by assumption)) (by first | assumption | exact nq_ga (by assumption) | exact nq_gs (by first | assumption | exact nq_gs (by assumption) | exact nq_gn (by first | assumption | decide | omega | exact nq_ne1 (by assumption) (by assumption) | exact nq_ne2 (by assumption) (by assumption)) (by assumption) | exact nq_ga (by assumption)) | exact nq_gn (by first | assumption | decide | omega | exact nq_ne1 (by assumption) (by assumption) | exact nq_ne2 (by assumption) (by assumption)) (by first | assumption | exact nq_gs (by assumption) | exact nq_gn (by first | assumption | decide | omega | exact nq_ne1 (by assumption) (by assumption) | exact nq_ne2 (by assumption) (by assumption)) (by assumption) | exact nq_ga (by assumption)))) rfl ?_
    refine nq_iload_n (pc' := 75) d_Mod_type_74 rfl rfl rfl ?_
    refine nq_iadd (pc' := 76) d_Mod_type_75 rfl ?_
    refine nq_bipush (v := 48) (pc' := 78) d_Mod_type_76 rfl (by decide) ?_
    rw [h01]
    by_cases b0 : 48 < T.length + n
    · rw [if_pos b0]
      refine nq_icmp_le (pc' := 81) (tgt := 87) d_Mod_type_78 rfl (by decide) (fun h => absurd ((nI_leI (a := T.length + n) (b := 48) (by omega) (by omega)).mp (by rw [← nI_add]; exact h)) (by omega)) (fun _ => ?_)
      refine nq_aload_n (pc' := 82) d_Mod_type_81 rfl rfl rfl ?_
      refine nq_iconst (v := 2) (pc' := 83) d_Mod_type_82 rfl (by decide) ?_
      refine nq_callVR (pc' := 86) d_Mod_type_83 rfl cl_Mod_77 rfl (by first | assumption | exact nq_ga (by assumption) | exact nq_gs (by first | assumption | exact nq_ga (by assumption) | exact nq_gs (by first | assumption | exact nq_gs (by assumption) | exact nq_gn (by first | assumption | decide | omega | exact nq_ne1 (by assumption) (by assumption) | exact nq_ne2 (by assumption) (by assumption)) (by assumption) | exact nq_ga (by assumption)) | exact nq_gn (by first | assumption | decide | omega | exact nq_ne1 (by assumption) (by assumption) | exact nq_ne2 (by assumption) (by assumption)) (by first | assumption | exact nq_gs (by assumption) | exact nq_gn (by first | assumption | decide | omega | exact nq_ne1 (by assumption) (by assumption) | exact nq_ne2 (by assumption) (by assumption)) (by assumption) | exact nq_ga (by assumption))) | exact nq_gn (by first | assumption | decide | omega | exact nq_ne1 (by assumption) (by assumption) | exact nq_ne2 (by assumption) (by assumption)) (by first | assumption | exact nq_ga (by assumption) | exact nq_gs (by first | assumption | exact nq_gs (by assumption) | exact nq_gn (by first | assumption | decide | omega | exact nq_ne1 (by assumption) (by assumption) | exact nq_ne2 (by assumption) (by assumption)) (by assumption) | exact nq_ga (by assumption)) | exact nq_gn (by first | assumption | decide | omega | exact nq_ne1 (by assumption) (by assumption) | exact nq_ne2 (by assumption) (by assumption)) (by first | assumption | exact nq_gs (by assumption) | exact nq_gn (by first | assumption | decide | omega | exact nq_ne1 (by assumption) (by assumption) | exact nq_ne2 (by assumption) (by assumption)) (by assumption) | exact nq_ga (by assumption)))) rfl rfl (kc := 0) (ks := 0) (mc' := 0) (ms' := 0) (As := [.int 2]) (rest := []) rfl rfl (by decide) (k_Mod_fail W1) ?_
      refine nq_iret d_Mod_type_86 rfl rfl ⟨(F1.tr (mo_fr.st (by decide))).g, upd v1 7 2, ar, 0, W1.fi, hP1.u7, rfl, rfl⟩
    · rw [if_neg b0]
      refine nq_icmp_le (pc' := 81) (tgt := 87) d_Mod_type_78 rfl (by decide) (fun _ => ?_) (fun h => absurd (show nI T.length + nI n ≤ 48 from by rw [nI_add]; exact (nI_leI (a := T.length + n) (b := 48) (by omega) (by omega)).mpr (by omega)) h)
      refine nq_bipush (v := 56) (pc' := 89) d_Mod_type_87 rfl (by decide) ?_
      refine nq_istore (pc' := 91) d_Mod_type_89 rfl (by decide) rfl ?_
      refine nq_J.fo 4 (nq_J.fo 3 ?_)
      have := loop2 8 T v1 (ar 0) σ1 l6 (by omega) (by omega) e2 t2 F1 (by rw [ua_self]; exact W1) h01 h71 hv1
      rw [← e1] at this
      exact this
end MT
