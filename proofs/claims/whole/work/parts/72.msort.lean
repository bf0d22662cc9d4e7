/-! THE OTHER STORE: the result is put in order -/
def so_M (f g : Nat → Int32) (xs : List sx_E) : Prop := ∀ i x, xs[i]? = some x → g i = x.1 ∧ x.2.length ≤ 3 ∧ ∀ j y, x.2[j]? = some y → f (3 * i + j) = y
def mo_sw (f : Nat → Int32) (p k : Nat) : Nat → Int32 := fun x => if 3 * p ≤ x ∧ x < 3 * p + k then f (x + 3) else if 3 * p + 3 ≤ x ∧ x < 3 * p + 3 + k then f (x - 3) else f x
theorem mo_sw_st {f : Nat → Int32} {p k : Nat} (hk : k < 3) : upd (upd (mo_sw f p k) (3 * p + 3 + k) (mo_sw f p k (3 * p + k))) (3 * p + k) (mo_sw f p k (3 * p + 3 + k)) = mo_sw f p (k + 1) := by
  funext x
  unfold upd mo_sw
  by_cases h1 : x = 3 * p + k
  · subst h1
    rw [if_pos rfl, if_neg (by omega), if_neg (by omega), if_pos (by omega)]
    exact congrArg f (by omega)
  · rw [if_neg h1]
    by_cases h2 : x = 3 * p + 3 + k
    · subst h2
      rw [if_pos rfl, if_neg (by omega), if_neg (by omega), if_neg (by omega), if_pos (by omega)]
      exact congrArg f (by omega)
    · rw [if_neg h2]
      by_cases h3 : 3 * p ≤ x ∧ x < 3 * p + k
      · rw [if_pos h3, if_pos (by omega)]
      · have h3' : ¬ (3 * p ≤ x ∧ x < 3 * p + (k + 1)) := by omega
        rw [if_neg h3, if_neg h3']
        by_cases h4 : 3 * p + 3 ≤ x ∧ x < 3 * p + 3 + k
        · have h4' : 3 * p + 3 ≤ x ∧ x < 3 * p + 3 + (k + 1) := by omega
          rw [if_pos h4, if_pos h4']
        · have h4' : ¬ (3 * p + 3 ≤ x ∧ x < 3 * p + 3 + (k + 1)) := by omega
          rw [if_neg h4, if_neg h4']
/-- two rows side by side change places -/
theorem so_M.sw {f g : Nat → Int32} {X Y : List sx_E} {a b : sx_E} (h : so_M f g (X ++ a :: b :: Y)) : so_M (mo_sw f X.length 3) (upd (upd g (X.length + 1) (g X.length)) X.length (g (X.length + 1))) (X ++ b :: a :: Y) := by
  have ha := h X.length a (by rw [List.getElem?_append_right (Nat.le_refl _), Nat.sub_self]; rfl)
  have hb := h (X.length + 1) b (by rw [List.getElem?_append_right (by omega), Nat.add_sub_cancel_left]; rfl)
  intro i x hx
  by_cases c1 : i < X.length
  · rw [List.getElem?_append_left c1] at hx
    have := h i x (by rw [List.getElem?_append_left c1]; exact hx)
    refine ⟨by rw [upd_ne (by omega), upd_ne (by omega)]; exact this.1, this.2.1, fun j y hy => ?_⟩
    have hj := (List.getElem?_eq_some_iff.mp hy).1
    have hl := this.2.1
    unfold mo_sw
    rw [if_neg (by omega), if_neg (by omega)]
    exact this.2.2 j y hy
  · rw [List.getElem?_append_right (by omega)] at hx
    by_cases c2 : i = X.length
    · subst c2
      rw [Nat.sub_self] at hx
      cases hx
      refine ⟨by rw [upd_at]; exact hb.1, hb.2.1, fun j y hy => ?_⟩
      have hj := (List.getElem?_eq_some_iff.mp hy).1
      have hl := hb.2.1
      unfold mo_sw
      rw [if_pos (by omega)]
      have := hb.2.2 j y hy
      rw [show 3 * (X.length + 1) + j = 3 * X.length + j + 3 from by omega] at this
      exact this
    · by_cases c3 : i = X.length + 1
      · subst c3
        rw [Nat.add_sub_cancel_left] at hx
        cases hx
        refine ⟨by rw [upd_ne (by omega), upd_at]; exact ha.1, ha.2.1, fun j y hy => ?_⟩
        have hj := (List.getElem?_eq_some_iff.mp hy).1
        have hl := ha.2.1
        unfold mo_sw
        rw [if_neg (by omega), if_pos (by omega)]
        have := ha.2.2 j y hy
        rw [show 3 * (X.length + 1) + j - 3 = 3 * X.length + j from by omega]
        exact this
      · obtain ⟨k, hk⟩ : ∃ k, i - X.length = k + 2 := ⟨i - X.length - 2, by omega⟩
        rw [hk] at hx
        have := h i x (by rw [List.getElem?_append_right (by omega), hk]; exact hx)
        refine ⟨by rw [upd_ne (by omega), upd_ne (by omega)]; exact this.1, this.2.1, fun j y hy => ?_⟩
        have hj := (List.getElem?_eq_some_iff.mp hy).1
        have hl := this.2.1
        unfold mo_sw
        rw [if_neg (by omega), if_neg (by omega)]
        exact this.2.2 j y hy
section MO
variable {G : nq_G} {d : Nat} {σ : nq_S} {v : Nat → Int32} {ar : mo_Ar}
theorem so_in {A rest : List sx_E} {e : sx_E} {n : Nat} {Q : nq_Q} (hA : A.length + 1 + rest.length ≤ 40) (hi : A.length = n) (k : ∀ (σ2 : nq_S) (f g : Nat → Int32), mo_fr σ σ2 → mo_W σ2 v (ua (ua ar 12 f) 13 g) → so_M f g (sx_add A e ++ rest) → nq_J G d 0 0 m_Mod_sortResult 136 [some (.ref 270), some (.int (nI n)), none, none, none, none] [] σ2 Q) : ∀ (j : Nat) (σ1 : nq_S) (f g : Nat → Int32), j ≤ A.length → rs_ps (sx_k A) e.1 j = rs_ps (sx_k A) e.1 A.length → mo_fr σ σ1 → mo_W σ1 v (ua (ua ar 12 f) 13 g) → so_M f g (A.take j ++ e :: (A.drop j ++ rest)) → nq_J G d 0 0 m_Mod_sortResult 12 [some (.ref 270), some (.int (nI n)), some (.int (nI j)), none, none, none] [] σ1 Q := by
  intro j
  have fin : ∀ (j : Nat) (σ1 : nq_S) (f g : Nat → Int32), j ≤ A.length → j = rs_ps (sx_k A) e.1 A.length → mo_fr σ σ1 → mo_W σ1 v (ua (ua ar 12 f) 13 g) → so_M f g (A.take j ++ e :: (A.drop j ++ rest)) → nq_J G d 0 0 m_Mod_sortResult 136 [some (.ref 270), some (.int (nI n)), some (.int (nI j)), none, none, none] [] σ1 Q := by
    intro j σ1 f g hj hp F W M
    refine nq_J.fo 2 (k σ1 f g F W ?_)
    unfold sx_add
    rw [← hp, List.append_assoc]
    exact M
  induction j with
  | zero =>
    intro σ1 f g hj hp F W M
    refine nq_iload_n (pc' := 13) d_Mod_sortResult_12 rfl rfl rfl ?_
    refine nq_if_le (pc' := 16) (tgt := 136) d_Mod_sortResult_13 rfl (by decide) (fun _ => fin 0 σ1 f g hj hp F W M) (fun h => absurd (Int32.le_refl _) h)
  | succ j ih =>
    intro σ1 f g hj hp F W M
    have hjl : j < A.length := by omega
    have hgA := List.getElem?_eq_getElem hjl
    have et : A.take (j + 1) = A.take j ++ [A[j]] := List.take_succ_eq_append_getElem hjl
    have ed : A.drop j = A[j] :: A.drop (j + 1) := List.drop_eq_getElem_cons hjl
    have hlen : (A.take j).length = j := by rw [List.length_take]; omega
    have M2 : so_M f g (A.take j ++ A[j] :: e :: (A.drop (j + 1) ++ rest)) := by
      rw [et] at M
      simp only [List.append_assoc, List.singleton_append] at M
      exact M
    have g0 := (M2 j A[j] (by rw [List.getElem?_append_right (by omega), hlen, Nat.sub_self]; rfl)).1
    have g1 := (M2 (j + 1) e (by rw [List.getElem?_append_right (by omega), hlen, Nat.add_sub_cancel_left]; rfl)).1
    have hk : sx_k A j = A[j].1 := by unfold sx_k; rw [hgA]
    have hps : rs_ps (sx_k A) e.1 (j + 1) = if e.1 < A[j].1 then rs_ps (sx_k A) e.1 j else j + 1 := by
      rw [← hk]
      rfl
    have w := W.1
    have a12 : σ1[283]? = some (.inl (0, 123, .inl f)) := W.2.2.2.2.2.2.2.2.2.2.2.2.2.1
    have a13 : σ1[284]? = some (.inl (0, 41, .inl g)) := W.2.2.2.2.2.2.2.2.2.2.2.2.2.2.1
    refine nq_iload_n (pc' := 13) d_Mod_sortResult_12 rfl rfl rfl ?_
    refine nq_if_le (pc' := 16) (tgt := 136) d_Mod_sortResult_13 rfl (by decide) (fun h => absurd h (nI_nle (by omega) (by omega))) (fun _ => ?_)
    refine nq_aload_n (pc' := 17) d_Mod_sortResult_16 rfl rfl rfl ?_
    refine nq_getf (pc' := 20) d_Mod_sortResult_17 rfl fl_Mod_54 (by first | assumption | exact nq_ga (by assumption) | exact nq_gs (by first | assumption | exact nq_ga (by assumption) | exact nq_gs (by first | assumption | exact nq_gs (by assumption) | exact nq_gn (by first | assumption | decide | omega | exact nq_ne1 (by assumption) (by assumption) | exact nq_ne2 (by assumption) (by assumption)) (by assumption) | exact nq_ga (by assumption)) | exact nq_gn (by first | assumption | decide | omega | exact nq_ne1 (by assumption) (by assumption) | exact nq_ne2 (by assumption) (by assumption)) (by first | assumption | exact nq_gs (by assumption) | exact nq_gn (by first | assumption | decide | omega | exact nq_ne1 (by assumption) (by assumption) | exact nq_ne2 (by assumption) (by assumption)) (by assumption) | exact nq_ga (by assumption))) | exact nq_gn (by first | assumption | decide | omega | exact nq_ne1 (by assumption) (by assumption) | exact nq_ne2 (by assumption) (by assumption)) (by first | assumption | exact nq_ga (by assumption) | exact nq_gs (by first | assumption | exact nq_gs (by assumption) | exact nq_gn (by first | assumption | decide | omega | exact nq_ne1 (by assumption) (by assumption) | exact nq_ne2 (by assumption) (by assumption)) (by assumption) | exact nq_ga (by assumption)) | exact nq_gn (by first | assumption | decide | omega | exact nq_ne1 (by assumption) (by assumption) | exact nq_ne2 (by assumption) (by assumption)) (by first | assumption | exact nq_gs (by assumption) | exact nq_gn (by first | assumption | decide | omega | exact nq_ne1 (by assumption) (by assumption) | exact nq_ne2 (by assumption) (by assumption)) (by assumption) | exact nq_ga (by assumption)))) rfl ?_
    refine nq_iload_n (pc' := 21) d_Mod_sortResult_20 rfl rfl rfl ?_
    refine nq_iconst (v := 1) (pc' := 22) d_Mod_sortResult_21 rfl (by decide) ?_
    refine nq_isub (pc' := 23) d_Mod_sortResult_22 rfl ?_
    rw [nI_pred]
    refine nq_iald (pc' := 24) d_Mod_sortResult_23 rfl (by first | assumption | exact nq_ga (by assumption) | exact nq_gs (by first | assumption | exact nq_ga (by assumption) | exact nq_gs (by first | assumption | exact nq_gs (by assumption) | exact nq_gn (by first | assumption | decide | omega | exact nq_ne1 (by assumption) (by assumption) | exact nq_ne2 (by assumption) (by assumption)) (by assumption) | exact nq_ga (by assumption)) | exact nq_gn (by first | assumption | decide | omega | exact nq_ne1 (by assumption) (by assumption) | exact nq_ne2 (by assumption) (by assumption)) (by first | assumption | exact nq_gs (by assumption) | exact nq_gn (by first | assumption | decide | omega | exact nq_ne1 (by assumption) (by assumption) | exact nq_ne2 (by assumption) (by assumption)) (by assumption) | exact nq_ga (by assumption))) | exact nq_gn (by first | assumption | decide | omega | exact nq_ne1 (by assumption) (by assumption) | exact nq_ne2 (by assumption) (by assumption)) (by first | assumption | exact nq_ga (by assumption) | exact nq_gs (by first | assumption | exact nq_gs (by assumption) | exact nq_gn (by first | assumption | decide | omega | exact nq_ne1 (by assumption) (by assumption) | exact nq_ne2 (by assumption) (by assumption)) (by assumption) | exact nq_ga (by assumption)) | exact nq_gn (by first | assumption | decide | omega | exact nq_ne1 (by assumption) (by assumption) | exact nq_ne2 (by assumption) (by assumption)) (by first | assumption | exact nq_gs (by assumption) | exact nq_gn (by first | assumption | decide | omega | exact nq_ne1 (by assumption) (by assumption) | exact nq_ne2 (by assumption) (by assumption)) (by assumption) | exact nq_ga (by assumption)))) rfl (j := j) rfl (by omega) (by decide) ?_
    rw [g0]
    refine nq_aload_n (pc' := 25) d_Mod_sortResult_24 rfl rfl rfl ?_
    refine nq_getf (pc' := 28) d_Mod_sortResult_25 rfl fl_Mod_54 (by first | assumption | exact nq_ga (by assumption) | exact nq_gs (by first | assumption | exact nq_ga (by assumption) | exact nq_gs (by first | assumption | exact nq_gs (by assumption) | exact nq_gn (by first | assumption | decide | omega | exact nq_ne1 (by assumption) (by assumption) | exact nq_ne2 (by assumption) (by assumption)) (by assumption) | exact nq_ga (by assumption)) | exact nq_gn (by first | assumption | decide | omega | exact nq_ne1 (by assumption) (by assumption) | exact nq_ne2 (by assumption) (by assumption)) (by first | assumption | exact nq_gs (by assumption) | exact nq_gn (by first | assumption | decide | omega | exact nq_ne1 (by assumption) (by assumption) | exact nq_ne2 (by assumption) (by assumption)) (by assumption) | exact nq_ga (by assumption))) | exact nq_gn (by first | assumption | decide | omega | exact nq_ne1 (by assumption) (by assumption) | exact nq_ne2 (by assumption) (by assumption)) (by first | assumption | exact nq_ga (by assumption) | exact nq_gs (by first | assumption | exact nq_gs (by assumption) | exact nq_gn (by first | assumption | decide | omega | exact nq_ne1 (by assumption) (by assumption) | exact nq_ne2 (by assumption) (by assumption)) (by assumption) | exact nq_ga (by assumption)) | exact nq_gn (by first | assumption | decide | omega | exact nq_ne1 (by assumption) (by assumption) | exact nq_ne2 (by assumption) (by assumption)) (by first | assumption | exact nq_gs (by assumption) | exact nq_gn (by first | assumption | decide | omega | exact nq_ne1 (by assumption) (by assumption) | exact nq_ne2 (by assumption) (by assumption)) (by assumption) | exact nq_ga (by assumption)))) rfl ?_
    refine nq_iload_n (pc' := 29) d_Mod_sortResult_28 rfl rfl rfl ?_
    refine nq_iald (pc' := 30) d_Mod_sortResult_29 rfl (by first | assumption | exact nq_ga (by assumption) | exact nq_gs (by first | assumption | exact nq_ga (by assumption) | exact nq_gs (by first | assumption | exact nq_gs (by assumption) | exact nq_gn (by first | assumption | decide | omega | exact nq_ne1 (by assumption) (by assumption) | exact nq_ne2 (by assumption) (by assumption)) (by assumption) | exact nq_ga (by assumption)) | exact nq_gn (by first | assumption | decide | omega | exact nq_ne1 (by assumption) (by assumption) | exact nq_ne2 (by assumption) (by assumption)) (by first | assumption | exact nq_gs (by assumption) | exact nq_gn (by first | assumption | decide | omega | exact nq_ne1 (by assumption) (by assumption) | exact nq_ne2 (by assumption) (by assumption)) (by assumption) | exact nq_ga (by assumption))) | exact nq_gn (by first | assumption | decide | omega | exact nq_ne1 (by assumption) (by assumption) | exact nq_ne2 (by assumption) (by assumption)) (by first | assumption | exact nq_ga (by assumption) | exact nq_gs (by first | assumption | exact nq_gs (by assumption) | exact nq_gn (by first | assumption | decide | omega | exact nq_ne1 (by assumption) (by assumption) | exact nq_ne2 (by assumption) (by assumption)) (by assumption) | exact nq_ga (by assumption)) | exact nq_gn (by first | assumption | decide | omega | exact nq_ne1 (by assumption) (by assumption) | exact nq_ne2 (by assumption) (by assumption)) (by first | assumption | exact nq_gs (by assumption) | exact nq_gn (by first | assumption | decide | omega | exact nq_ne1 (by assumption) (by assumption) | exact nq_ne2 (by assumption) (by assumption)) (by assumption) | exact nq_ga (by assumption)))) rfl (j := j + 1) rfl (by omega) (by decide) ?_
    rw [g1]
    by_cases hlt : ¬ (e.1 < A[j].1)
    · refine nq_icmp_le (pc' := 33) (tgt := 136) d_Mod_sortResult_30 rfl (by decide) (fun _ => fin (j + 1) σ1 f g hj (by rw [← hp, hps, if_neg hlt]) F W M) (fun h => absurd (Int32.not_lt.mp hlt) h)
    replace hlt := Classical.not_not.mp hlt
    rw [if_pos hlt] at hps
    refine nq_icmp_le (pc' := 33) (tgt := 136) d_Mod_sortResult_30 rfl (by decide) (fun h => absurd hlt (Int32.not_lt.mpr h)) (fun _ => ?_)
    refine nq_aload_n (pc' := 34) d_Mod_sortResult_33 rfl rfl rfl ?_
    refine nq_getf (pc' := 37) d_Mod_sortResult_34 rfl fl_Mod_54 (by first | assumption | exact nq_ga (by assumption) | exact nq_gs (by first | assumption | exact nq_ga (by assumption) | exact nq_gs (by first | assumption | exact nq_gs (by assumption) | exact nq_gn (by first | assumption | decide | omega | exact nq_ne1 (by assumption) (by assumption) | exact nq_ne2 (by assumption) (by assumption)) (by assumption) | exact nq_ga (by assumption)) | exact nq_gn (by first | assumption | decide | omega | exact nq_ne1 (by assumption) (by assumption) | exact nq_ne2 (by assumption) (by assumption)) (by first | assumption | exact nq_gs (by assumption) | exact nq_gn (by first | assumption | decide | omega | exact nq_ne1 (by assumption) (by assumption) | exact nq_ne2 (by assumption) (by assumption)) (by assumption) | exact nq_ga (by assumption))) | exact nq_gn (by first | assumption | decide | omega | exact nq_ne1 (by assumption) (by assumption) | exact nq_ne2 (by assumption) (by assumption)) (by first | assumption | exact nq_ga (by assumption) | exact nq_gs (by first | assumption | exact nq_gs (by assumption) | exact nq_gn (by first | assumption | decide | omega | exact nq_ne1 (by assumption) (by assumption) | exact nq_ne2 (by assumption) (by assumption)) (by assumption) | exact nq_ga (by assumption)) | exact nq_gn (by first | assumption | decide | omega | exact nq_ne1 (by assumption) (by assumption) | exact nq_ne2 (by assumption) (by assumption)) (by first | assumption | exact nq_gs (by assumption) | exact nq_gn (by first | assumption | decide | omega | exact nq_ne1 (by assumption) (by assumption) | exact nq_ne2 (by assumption) (by assumption)) (by assumption) | exact nq_ga (by assumption)))) rfl ?_
    refine nq_iload_n (pc' := 38) d_Mod_sortResult_37 rfl rfl rfl ?_
    refine nq_iald (pc' := 39) d_Mod_sortResult_38 rfl (by first | assumption | exact nq_ga (by assumption) | exact nq_gs (by first | assumption | exact nq_ga (by assumption) | exact nq_gs (by first | assumption | exact nq_gs (by assumption) | exact nq_gn (by first | assumption | decide | omega | exact nq_ne1 (by assumption) (by assumption) | exact nq_ne2 (by assumption) (by assumption)) (by assumption) | exact nq_ga (by assumption)) | exact nq_gn (by first | assumption | decide | omega | exact nq_ne1 (by assumption) (by assumption) | exact nq_ne2 (by assumption) (by assumption)) (by first | assumption | exact nq_gs (by assumption) | exact nq_gn (by first | assumption | decide | omega | exact nq_ne1 (by assumption) (by assumption) | exact nq_ne2 (by assumption) (by assumption)) (by assumption) | exact nq_ga (by assumption))) | exact nq_gn (by first | assumption | decide | omega | exact nq_ne1 (by assumption) (by assumption) | exact nq_ne2 (by assumption) (by assumption)) (by first | assumption | exact nq_ga (by assumption) | exact nq_gs (by first | assumption | exact nq_gs (by assumption) | exact nq_gn (by first | assumption | decide | omega | exact nq_ne1 (by assumption) (by assumption) | exact nq_ne2 (by assumption) (by assumption)) (by assumption) | exact nq_ga (by assumption)) | exact nq_gn (by first | assumption | decide | omega | exact nq_ne1 (by assumption) (by assumption) | exact nq_ne2 (by assumption) (by assumption)) (by first | assumption | exact nq_gs (by assumption) | exact nq_gn (by first | assumption | decide | omega | exact nq_ne1 (by assumption) (by assumption) | exact nq_ne2 (by assumption) (by assumption)) (by assumption) | exact nq_ga (by assumption)))) rfl (j := j + 1) rfl (by omega) (by decide) ?_
    refine nq_istore_n (pc' := 40) d_Mod_sortResult_39 rfl rfl (by decide) rfl ?_
    refine nq_aload_n (pc' := 41) d_Mod_sortResult_40 rfl rfl rfl ?_
    refine nq_getf (pc' := 44) d_Mod_sortResult_41 rfl fl_Mod_54 (by first | assumption | exact nq_ga (by assumption) | exact nq_gs (by first | assumption | exact nq_ga (by assumption) | exact nq_gs (by first | assumption | exact nq_gs (by assumption) | exact nq_gn (by first | assumption | decide | omega | exact nq_ne1 (by assumption) (by assumption) | exact nq_ne2 (by assumption) (by assumption)) (by assumption) | exact nq_ga (by assumption)) | exact nq_gn (by first | assumption | decide | omega | exact nq_ne1 (by assumption) (by assumption) | exact nq_ne2 (by assumption) (by assumption)) (by first | assumption | exact nq_gs (by assumption) | exact nq_gn (by first | assumption | decide | omega | exact nq_ne1 (by assumption) (by assumption) | exact nq_ne2 (by assumption) (by assumption)) (by assumption) | exact nq_ga (by assumption))) | exact nq_gn (by first | assumption | decide | omega | exact nq_ne1 (by assumption) (by assumption) | exact nq_ne2 (by assumption) (by assumption)) (by first | assumption | exact nq_ga (by assumption) | exact nq_gs (by first | assumption | exact nq_gs (by assumption) | exact nq_gn (by first | assumption | decide | omega | exact nq_ne1 (by assumption) (by assumption) | exact nq_ne2 (by assumption) (by assumption)) (by assumption) | exact nq_ga (by assumption)) | exact nq_gn (by first | assumption | decide | omega | exact nq_ne1 (by assumption) (by assumption) | exact nq_ne2 (by assumption) (by assumption)) (by first | assumption | exact nq_gs (by assumption) | exact nq_gn (by first | assumption | decide | omega | exact nq_ne1 (by assumption) (by assumption) | exact nq_ne2 (by assumption) (by assumption)) (by assumption) | exact nq_ga (by assumption)))) rfl ?_
    refine nq_iload_n (pc' := 45) d_Mod_sortResult_44 rfl rfl rfl ?_
    refine nq_aload_n (pc' := 46) d_Mod_sortResult_45 rfl rfl rfl ?_
    refine nq_getf (pc' := 49) d_Mod_sortResult_46 rfl fl_Mod_54 (by first | assumption | exact nq_ga (by assumption) | exact nq_gs (by first | assumption | exact nq_ga (by assumption) | exact nq_gs (by first | assumption | exact nq_gs (by assumption) | exact nq_gn (by first | assumption | decide | omega | exact nq_ne1 (by assumption) (by assumption) | exact nq_ne2 (by assumption) (by assumption)) (by assumption) | exact nq_ga (by assumption)) | exact nq_gn (by first | assumption | decide | omega | exact nq_ne1 (by assumption) (by assumption) | exact nq_ne2 (by assumption) (by assumption)) (by first | assumption | exact nq_gs (by assumption) | exact nq_gn (by first | assumption | decide | omega | exact nq_ne1 (by assumption) (by assumption) | exact nq_ne2 (by assumption) (by assumption)) (by assumption) | exact nq_ga (by assumption))) | exact nq_gn (by first | assumption | decide | omega | exact nq_ne1 (by assumption) (by assumption) | exact nq_ne2 (by assumption) (by assumption)) (by first | assumption | exact nq_ga (by assumption) | exact nq_gs (by first | assumption | exact nq_gs (by assumption) | exact nq_gn (by first | assumption | decide | omega | exact nq_ne1 (by assumption) (by assumption) | exact nq_ne2 (by assumption) (by assumption)) (by assumption) | exact nq_ga (by assumption)) | exact nq_gn (by first | assumption | decide | omega | exact nq_ne1 (by assumption) (by assumption) | exact nq_ne2 (by assumption) (by assumption)) (by first | assumption | exact nq_gs (by assumption) | exact nq_gn (by first | assumption | decide | omega | exact nq_ne1 (by assumption) (by assumption) | exact nq_ne2 (by assumption) (by assumption)) (by assumption) | exact nq_ga (by assumption)))) rfl ?_
    refine nq_iload_n (pc' := 50) d_Mod_sortResult_49 rfl rfl rfl ?_
    refine nq_iconst (v := 1) (pc' := 51) d_Mod_sortResult_50 rfl (by decide) ?_
    refine nq_isub (pc' := 52) d_Mod_sortResult_51 rfl ?_
    rw [nI_pred]
    refine nq_iald (pc' := 53) d_Mod_sortResult_52 rfl (by first | assumption | exact nq_ga (by assumption) | exact nq_gs (by first | assumption | exact nq_ga (by assumption) | exact nq_gs (by first | assumption | exact nq_gs (by assumption) | exact nq_gn (by first | assumption | decide | omega | exact nq_ne1 (by assumption) (by assumption) | exact nq_ne2 (by assumption) (by assumption)) (by assumption) | exact nq_ga (by assumption)) | exact nq_gn (by first | assumption | decide | omega | exact nq_ne1 (by assumption) (by assumption) | exact nq_ne2 (by assumption) (by assumption)) (by first | assumption | exact nq_gs (by assumption) | exact nq_gn (by first | assumption | decide | omega | exact nq_ne1 (by assumption) (by assumption) | exact nq_ne2 (by assumption) (by assumption)) (by assumption) | exact nq_ga (by assumption))) | exact nq_gn (by first | assumption | decide | omega | exact nq_ne1 (by assumption) (by assumption) | exact nq_ne2 (by assumption) (by assumption)) (by first | assumption | exact nq_ga (by assumption) | exact nq_gs (by first | assumption | exact nq_gs (by assumption) | exact nq_gn (by first | assumption | decide | omega | exact nq_ne1 (by assumption) (by assumption) | exact nq_ne2 (by assumption) (by assumption)) (by assumption) | exact nq_ga (by assumption)) | exact nq_gn (by first | assumption | decide | omega | exact nq_ne1 (by assumption) (by assumption) | exact nq_ne2 (by assumption) (by assumption)) (by first | assumption | exact nq_gs (by assumption) | exact nq_gn (by first | assumption | decide | omega | exact nq_ne1 (by assumption) (by assumption) | exact nq_ne2 (by assumption) (by assumption)) (by assumption) | exact nq_ga (by assumption)))) rfl (j := j) rfl (by omega) (by decide) ?_
    refine nq_iast (pc' := 54) d_Mod_sortResult_53 rfl (by first | assumption | exact nq_ga (by assumption) | exact nq_gs (by first | assumption | exact nq_ga (by assumption) | exact nq_gs (by first | assumption | exact nq_gs (by assumption) | exact nq_gn (by first | assumption | decide | omega | exact nq_ne1 (by assumption) (by assumption) | exact nq_ne2 (by assumption) (by assumption)) (by assumption) | exact nq_ga (by assumption)) | exact nq_gn (by first | assumption | decide | omega | exact nq_ne1 (by assumption) (by assumption) | exact nq_ne2 (by assumption) (by assumption)) (by first | assumption | exact nq_gs (by assumption) | exact nq_gn (by first | assumption | decide | omega | exact nq_ne1 (by assumption) (by assumption) | exact nq_ne2 (by assumption) (by assumption)) (by assumption) | exact nq_ga (by assumption))) | exact nq_gn (by first | assumption | decide | omega | exact nq_ne1 (by assumption) (by assumption) | exact nq_ne2 (by assumption) (by assumption)) (by first | assumption | exact nq_ga (by assumption) | exact nq_gs (by first | assumption | exact nq_gs (by assumption) | exact nq_gn (by first | assumption | decide | omega | exact nq_ne1 (by assumption) (by assumption) | exact nq_ne2 (by assumption) (by assumption)) (by assumption) | exact nq_ga (by assumption)) | exact nq_gn (by first | assumption | decide | omega | exact nq_ne1 (by assumption) (by assumption) | exact nq_ne2 (by assumption) (by assumption)) (by first | assumption | exact nq_gs (by assumption) | exact nq_gn (by first | assumption | decide | omega | exact nq_ne1 (by assumption) (by assumption) | exact nq_ne2 (by assumption) (by assumption)) (by assumption) | exact nq_ga (by assumption)))) rfl (j := j + 1) rfl (by omega) (by decide) ?_
    refine nq_aload_n (pc' := 55) d_Mod_sortResult_54 rfl rfl rfl ?_
    refine nq_getf (pc' := 58) d_Mod_sortResult_55 rfl fl_Mod_54 (by first | assumption | exact nq_ga (by assumption) | exact nq_gs (by first | assumption | exact nq_ga (by assumption) | exact nq_gs (by first | assumption | exact nq_gs (by assumption) | exact nq_gn (by first | assumption | decide | omega | exact nq_ne1 (by assumption) (by assumption) | exact nq_ne2 (by assumption) (by assumption)) (by assumption) | exact nq_ga (by assumption)) | exact nq_gn (by first | assumption | decide | omega | exact nq_ne1 (by assumption) (by assumption) | exact nq_ne2 (by assumption) (by assumption)) (by first | assumption | exact nq_gs (by assumption) | exact nq_gn (by first | assumption | decide | omega | exact nq_ne1 (by assumption) (by assumption) | exact nq_ne2 (by assumption) (by assumption)) (by assumption) | exact nq_ga (by assumption))) | exact nq_gn (by first | assumption | decide | omega | exact nq_ne1 (by assumption) (by assumption) | exact nq_ne2 (by assumption) (by assumption)) (by first | assumption | exact nq_ga (by assumption) | exact nq_gs (by first | assumption | exact nq_gs (by assumption) | exact nq_gn (by first | assumption | decide | omega | exact nq_ne1 (by assumption) (by assumption) | exact nq_ne2 (by assumption) (by assumption)) (by assumption) | exact nq_ga (by assumption)) | exact nq_gn (by first | assumption | decide | omega | exact nq_ne1 (by assumption) (by assumption) | exact nq_ne2 (by assumption) (by assumption)) (by first | assumption | exact nq_gs (by assumption) | exact nq_gn (by first | assumption | decide | omega | exact nq_ne1 (by assumption) (by assumption) | exact nq_ne2 (by assumption) (by assumption)) (by assumption) | exact nq_ga (by assumption)))) rfl ?_
    refine nq_iload_n (pc' := 59) d_Mod_sortResult_58 rfl rfl rfl ?_
    refine nq_iconst (v := 1) (pc' := 60) d_Mod_sortResult_59 rfl (by decide) ?_
    refine nq_isub (pc' := 61) d_Mod_sortResult_60 rfl ?_
    refine nq_iload_n (pc' := 62) d_Mod_sortResult_61 rfl rfl rfl ?_
    rw [nI_pred]
    refine nq_iast (pc' := 63) d_Mod_sortResult_62 rfl (by first | assumption | exact nq_ga (by assumption) | exact nq_gs (by first | assumption | exact nq_ga (by assumption) | exact nq_gs (by first | assumption | exact nq_gs (by assumption) | exact nq_gn (by first | assumption | decide | omega | exact nq_ne1 (by assumption) (by assumption) | exact nq_ne2 (by assumption) (by assumption)) (by assumption) | exact nq_ga (by assumption)) | exact nq_gn (by first | assumption | decide | omega | exact nq_ne1 (by assumption) (by assumption) | exact nq_ne2 (by assumption) (by assumption)) (by first | assumption | exact nq_gs (by assumption) | exact nq_gn (by first | assumption | decide | omega | exact nq_ne1 (by assumption) (by assumption) | exact nq_ne2 (by assumption) (by assumption)) (by assumption) | exact nq_ga (by assumption))) | exact nq_gn (by first | assumption | decide | omega | exact nq_ne1 (by assumption) (by assumption) | exact nq_ne2 (by assumption) (by assumption)) (by first | assumption | exact nq_ga (by assumption) | exact nq_gs (by first | assumption | exact nq_gs (by assumption) | exact nq_gn (by first | assumption | decide | omega | exact nq_ne1 (by assumption) (by assumption) | exact nq_ne2 (by assumption) (by assumption)) (by assumption) | exact nq_ga (by assumption)) | exact nq_gn (by first | assumption | decide | omega | exact nq_ne1 (by assumption) (by assumption) | exact nq_ne2 (by assumption) (by assumption)) (by first | assumption | exact nq_gs (by assumption) | exact nq_gn (by first | assumption | decide | omega | exact nq_ne1 (by assumption) (by assumption) | exact nq_ne2 (by assumption) (by assumption)) (by assumption) | exact nq_ga (by assumption)))) rfl (j := j) rfl (by omega) (by decide) ?_
    rw [nq_ss]
    refine nq_iconst (v := 0) (pc' := 64) d_Mod_sortResult_63 rfl (by decide) ?_
    refine nq_istore (pc' := 66) d_Mod_sortResult_64 rfl (by decide) rfl ?_
    have W2 := W.a13 (f := upd (upd g (j + 1) (g j)) j (g (j + 1)))
    have F2 : mo_fr σ (σ1.set 284 (.inl (0, 41, .inl (upd (upd g (j + 1) (g j)) j (g (j + 1)))))) := F.tr (mo_fr.st (by decide))
    rw [ua_ua] at W2
    generalize σ1.set 284 (.inl (0, 41, .inl (upd (upd g (j + 1) (g j)) j (g (j + 1))))) = σ2 at W2 F2 ⊢
    have ex1 : ∀ c, nI (j + 1) * 3 + nI c = nI (3 * j + 3 + c) := fun c => by
      rw [show (3 : Int32) = nI 3 from rfl, pk_mul, nI_add]
      exact congrArg nI (by omega)
    have ex0 : ∀ c, nI (j + 1) * 3 - 3 + nI c = nI (3 * j + c) := fun c => by
      rw [show (3 : Int32) = nI 3 from rfl, pk_mul, rd_sb (by omega), nI_add]
      exact congrArg nI (by omega)
    have inner : ∀ (m c : Nat) (l3 : Int32) (l5 : Option Value) (σ3 : nq_S), m + c = 3 → mo_fr σ σ3 → mo_W σ3 v (ua (ua ar 12 (mo_sw f j c)) 13 (upd (upd g (j + 1) (g j)) j (g (j + 1)))) → nq_J G d 0 0 m_Mod_sortResult 66 [some (.ref 270), some (.int (nI n)), some (.int (nI (j + 1))), some (.int l3), some (.int (nI c)), l5] [] σ3 Q := by
      intro m
      induction m with
      | zero =>
        intro c l3 l5 σ3 hm F3 W3
        have hc3 : c = 3 := by omega
        subst hc3
        refine nq_iload (pc' := 68) d_Mod_sortResult_66 rfl rfl ?_
        refine nq_iconst (v := 3) (pc' := 69) d_Mod_sortResult_68 rfl (by decide) ?_
        refine nq_icmp_ge (pc' := 72) (tgt := 130) d_Mod_sortResult_69 rfl (by decide) (fun _ => ?_) (fun h => absurd (Int32.le_refl _) h)
        refine nq_iinc (pc' := 133) d_Mod_sortResult_130 rfl rfl (v := nI j) (by have := mo_dec (n := j + 1) (by omega); rw [Nat.add_sub_cancel] at this; exact this) (by decide) rfl ?_
        refine nq_goto (tgt := 12) d_Mod_sortResult_133 (by decide) ?_
        refine nq_J.fo 3 (nq_J.fo 4 (nq_J.fo 5 ?_))
        refine ih σ3 (mo_sw f j 3) _ (by omega) (hps.symm.trans hp) F3 W3 ?_
        have := M2.sw
        rw [hlen] at this
        rw [ed]
        exact this
      | succ m ihm =>
        intro c l3 l5 σ3 hm F3 W3
        have w3 := W3.1
        have c12 : σ3[283]? = some (.inl (0, 123, .inl (mo_sw f j c))) := W3.2.2.2.2.2.2.2.2.2.2.2.2.2.1
        refine nq_iload (pc' := 68) d_Mod_sortResult_66 rfl rfl ?_
        refine nq_iconst (v := 3) (pc' := 69) d_Mod_sortResult_68 rfl (by decide) ?_
        refine nq_icmp_ge (pc' := 72) (tgt := 130) d_Mod_sortResult_69 rfl (by decide) (fun h => absurd ((nI_leI (a := 3) (by omega) (by omega)).mp h) (by omega)) (fun _ => ?_)
        refine nq_aload_n (pc' := 73) d_Mod_sortResult_72 rfl rfl rfl ?_
        refine nq_getf (pc' := 76) d_Mod_sortResult_73 rfl fl_Mod_51 (by first | assumption | exact nq_ga (by assumption) | exact nq_gs (by first | assumption | exact nq_ga (by assumption) | exact nq_gs (by first | assumption | exact nq_gs (by assumption) | exact nq_gn (by first | assumption | decide | omega | exact nq_ne1 (by assumption) (by assumption) | exact nq_ne2 (by assumption) (by assumption)) (by assumption) | exact nq_ga (by assumption)) | exact nq_gn (by first | assumption | decide | omega | exact nq_ne1 (by assumption) (by assumption) | exact nq_ne2 (by assumption) (by assumption)) (by first | assumption | exact nq_gs (by assumption) | exact nq_gn (by first | assumption | decide | omega | exact nq_ne1 (by assumption) (by assumption) | exact nq_ne2 (by assumption) (by assumption)) (by assumption) | exact nq_ga (by assumption))) | exact nq_gn (by first | assumption | decide | omega | exact nq_ne1 (by assumption) (by assumption) | exact nq_ne2 (by assumption) (by assumption)) (by first | assumption | exact nq_ga (by assumption) | exact nq_gs (by first | assumption | exact nq_gs (by assumption) | exact nq_gn (by first | assumption | decide | omega | exact nq_ne1 (by assumption) (by assumption) | exact nq_ne2 (by assumption) (by assumption)) (by assumption) | exact nq_ga (by assumption)) | exact nq_gn (by first | assumption | decide | omega | exact nq_ne1 (by assumption) (by assumption) | exact nq_ne2 (by assumption) (by assumption)) (by first | assumption | exact nq_gs (by assumption) | exact nq_gn (by first | assumption | decide | omega | exact nq_ne1 (by assumption) (by assumption) | exact nq_ne2 (by assumption) (by assumption)) (by assumption) | exact nq_ga (by assumption)))) rfl ?_
        refine nq_iload_n (pc' := 77) d_Mod_sortResult_76 rfl rfl rfl ?_
        refine nq_iconst (v := 3) (pc' := 78) d_Mod_sortResult_77 rfl (by decide) ?_
        refine nq_imul (pc' := 79) d_Mod_sortResult_78 rfl ?_
        refine nq_iload (pc' := 81) d_Mod_sortResult_79 rfl rfl ?_
        refine nq_iadd (pc' := 82) d_Mod_sortResult_81 rfl ?_
        refine nq_iald (pc' := 83) d_Mod_sortResult_82 rfl (by first | assumption | exact nq_ga (by assumption) | exact nq_gs (by first | assumption | exact nq_ga (by assumption) | exact nq_gs (by first | assumption | exact nq_gs (by assumption) | exact nq_gn (by first | assumption | decide | omega | exact nq_ne1 (by assumption) (by assumption) | exact nq_ne2 (by assumption) (by assumption)) (by assumption) | exact nq_ga (by assumption)) | exact nq_gn (by first | assumption | decide | omega | exact nq_ne1 (by assumption) (by assumption) | exact nq_ne2 (by assumption) (by assumption)) (by first | assumption | exact nq_gs (by assumption) | exact nq_gn (by first | assumption | decide | omega | exact nq_ne1 (by assumption) (by assumption) | exact nq_ne2 (by assumption) (by assumption)) (by assumption) | exact nq_ga (by assumption))) | exact nq_gn (by first | assumption | decide | omega | exact nq_ne1 (by assumption) (by assumption) | exact nq_ne2 (by assumption) (by assumption)) (by first | assumption | exact nq_ga (by assumption) | exact nq_gs (by first | assumption | exact nq_gs (by assumption) | exact nq_gn (by first | assumption | decide | omega | exact nq_ne1 (by assumption) (by assumption) | exact nq_ne2 (by assumption) (by assumption)) (by assumption) | exact nq_ga (by assumption)) | exact nq_gn (by first | assumption | decide | omega | exact nq_ne1 (by assumption) (by assumption) | exact nq_ne2 (by assumption) (by assumption)) (by first | assumption | exact nq_gs (by assumption) | exact nq_gn (by first | assumption | decide | omega | exact nq_ne1 (by assumption) (by assumption) | exact nq_ne2 (by assumption) (by assumption)) (by assumption) | exact nq_ga (by assumption)))) rfl (j := 3 * j + 3 + c) (ex1 c) (by omega) (by decide) ?_
        refine nq_istore (pc' := 85) d_Mod_sortResult_83 rfl (by decide) rfl ?_
        refine nq_aload_n (pc' := 86) d_Mod_sortResult_85 rfl rfl rfl ?_
        refine nq_getf (pc' := 89) d_Mod_sortResult_86 rfl fl_Mod_51 (by first | assumption | exact nq_ga (by assumption) | exact nq_gs (by first | assumption | exact nq_ga (by assumption) | exact nq_gs (by first | assumption | exact nq_gs (by assumption) | exact nq_gn (by first | assumption | decide | omega | exact nq_ne1 (by assumption) (by assumption) | exact nq_ne2 (by assumption) (by assumption)) (by assumption) | exact nq_ga (by assumption)) | exact nq_gn (by first | assumption | decide | omega | exact nq_ne1 (by assumption) (by assumption) | exact nq_ne2 (by assumption) (by assumption)) (by first | assumption | exact nq_gs (by assumption) | exact nq_gn (by first | assumption | decide | omega | exact nq_ne1 (by assumption) (by assumption) | exact nq_ne2 (by assumption) (by assumption)) (by assumption) | exact nq_ga (by assumption))) | exact nq_gn (by first | assumption | decide | omega | exact nq_ne1 (by assumption) (by assumption) | exact nq_ne2 (by assumption) (by assumption)) (by first | assumption | exact nq_ga (by assumption) | exact nq_gs (by first | assumption | exact nq_gs (by assumption) | exact nq_gn (by first | assumption | decide | omega | exact nq_ne1 (by assumption) (by assumption) | exact nq_ne2 (by assumption) (by assumption)) (by assumption) | exact nq_ga (by assumption)) | exact nq_gn (by first | assumption | decide | omega | exact nq_ne1 (by assumption) (by assumption) | exact nq_ne2 (by assumption) (by assumption)) (by first | assumption | exact nq_gs (by assumption) | exact nq_gn (by first | assumption | decide | omega | exact nq_ne1 (by assumption) (by assumption) | exact nq_ne2 (by assumption) (by assumption)) (by assumption) | exact nq_ga (by assumption)))) rfl ?_
        refine nq_iload_n (pc' := 90) d_Mod_sortResult_89 rfl rfl rfl ?_
        refine nq_iconst (v := 3) (pc' := 91) d_Mod_sortResult_90 rfl (by decide) ?_
        refine nq_imul (pc' := 92) d_Mod_sortResult_91 rfl ?_
        refine nq_iload (pc' := 94) d_Mod_sortResult_92 rfl rfl ?_
        refine nq_iadd (pc' := 95) d_Mod_sortResult_94 rfl ?_
        refine nq_aload_n (pc' := 96) d_Mod_sortResult_95 rfl rfl rfl ?_
        refine nq_getf (pc' := 99) d_Mod_sortResult_96 rfl fl_Mod_51 (by first | assumption | exact nq_ga (by assumption) | exact nq_gs (by first | assumption | exact nq_ga (by assumption) | exact nq_gs (by first | assumption | exact nq_gs (by assumption) | exact nq_gn (by first | assumption | decide | omega | exact nq_ne1 (by assumption) (by assumption) | exact nq_ne2 (by assumption) (by assumption)) (by assumption) | exact nq_ga (by assumption)) | exact nq_gn (by first | assumption | decide | omega | exact nq_ne1 (by assumption) (by assumption) | exact nq_ne2 (by assumption) (by assumption)) (by first | assumption | exact nq_gs (by assumption) | exact nq_gn (by first | assumption | decide | omega | exact nq_ne1 (by assumption) (by assumption) | exact nq_ne2 (by assumption) (by assumption)) (by assumption) | exact nq_ga (by assumption))) | exact nq_gn (by first | assumption | decide | omega | exact nq_ne1 (by assumption) (by assumption) | exact nq_ne2 (by assumption) (by assumption)) (by first | assumption | exact nq_ga (by assumption) | exact nq_gs (by first | assumption | exact nq_gs (by assumption) | exact nq_gn (by first | assumption | decide | omega | exact nq_ne1 (by assumption) (by assumption) | exact nq_ne2 (by assumption) (by assumption)) (by assumption) | exact nq_ga (by assumption)) | exact nq_gn (by first | assumption | decide | omega | exact nq_ne1 (by assumption) (by assumption) | exact nq_ne2 (by assumption) (by assumption)) (by first | assumption | exact nq_gs (by assumption) | exact nq_gn (by first | assumption | decide | omega | exact nq_ne1 (by assumption) (by assumption) | exact nq_ne2 (by assumption) (by assumption)) (by assumption) | exact nq_ga (by assumption)))) rfl ?_
        refine nq_iload_n (pc' := 100) d_Mod_sortResult_99 rfl rfl rfl ?_
        refine nq_iconst (v := 3) (pc' := 101) d_Mod_sortResult_100 rfl (by decide) ?_
        refine nq_imul (pc' := 102) d_Mod_sortResult_101 rfl ?_
        refine nq_iconst (v := 3) (pc' := 103) d_Mod_sortResult_102 rfl (by decide) ?_
        refine nq_isub (pc' := 104) d_Mod_sortResult_103 rfl ?_
        refine nq_iload (pc' := 106) d_Mod_sortResult_104 rfl rfl ?_
        refine nq_iadd (pc' := 107) d_Mod_sortResult_106 rfl ?_
        refine nq_iald (pc' := 108) d_Mod_sortResult_107 rfl (by first | assumption | exact nq_ga (by assumption) | exact nq_gs (by first | assumption | exact nq_ga (by assumption) | exact nq_gs (by first | assumption | exact nq_gs (by assumption) | exact nq_gn (by first | assumption | decide | omega | exact nq_ne1 (by assumption) (by assumption) | exact nq_ne2 (by assumption) (by assumption)) (by assumption) | exact nq_ga (by assumption)) | exact nq_gn (by first | assumption | decide | omega | exact nq_ne1 (by assumption) (by assumption) | exact nq_ne2 (by assumption) (by assumption)) (by first | assumption | exact nq_gs (by assumption) | exact nq_gn (by first | assumption | decide | omega | exact nq_ne1 (by assumption) (by assumption) | exact nq_ne2 (by assumption) (by assumption)) (by assumption) | exact nq_ga (by assumption))) | exact nq_gn (by first | assumption | decide | omega | exact nq_ne1 (by assumption) (by assumption) | exact nq_ne2 (by assumption) (by assumption)) (by first | assumption | exact nq_ga (by assumption) | exact nq_gs (by first | assumption | exact nq_gs (by assumption) | exact nq_gn (by first | assumption | decide | omega | exact nq_ne1 (by assumption) (by assumption) | exact nq_ne2 (by assumption) (by assumption)) (by assumption) | exact nq_ga (by assumption)) | exact nq_gn (by first | assumption | decide | omega | exact nq_ne1 (by assumption) (by assumption) | exact nq_ne2 (by assumption) (by assumption)) (by first | assumption | exact nq_gs (by assumption) | exact nq_gn (by first | assumption | decide | omega | exact nq_ne1 (by assumption) (by assumption) | exact nq_ne2 (by assumption) (by assumption)) (by assumption) | exact nq_ga (by assumption)))) rfl (j := 3 * j + c) (ex0 c) (by omega) (by decide) ?_
        refine nq_iast (pc' := 109) d_Mod_sortResult_108 rfl (by first | assumption | exact nq_ga (by assumption) | exact nq_gs (by first | assumption | exact nq_ga (by assumption) | exact nq_gs (by first | assumption | exact nq_gs (by assumption) | exact nq_gn (by first | assumption | decide | omega | exact nq_ne1 (by assumption) (by assumption) | exact nq_ne2 (by assumption) (by assumption)) (by assumption) | exact nq_ga (by assumption)) | exact nq_gn (by first | assumption | decide | omega | exact nq_ne1 (by assumption) (by assumption) | exact nq_ne2 (by assumption) (by assumption)) (by first | assumption | exact nq_gs (by assumption) | exact nq_gn (by first | assumption | decide | omega | exact nq_ne1 (by assumption) (by assumption) | exact nq_ne2 (by assumption) (by assumption)) (by assumption) | exact nq_ga (by assumption))) | exact nq_gn (by first | assumption | decide | omega | exact nq_ne1 (by assumption) (by assumption) | exact nq_ne2 (by assumption) (by assumption)) (by first | assumption | exact nq_ga (by assumption) | exact nq_gs (by first | assumption | exact nq_gs (by assumption) | exact nq_gn (by first | assumption | decide | omega | exact nq_ne1 (by assumption) (by assumption) | exact nq_ne2 (by assumption) (by assumption)) (by assumption) | exact nq_ga (by assumption)) | exact nq_gn (by first | assumption | decide | omega | exact nq_ne1 (by assumption) (by assumption) | exact nq_ne2 (by assumption) (by assumption)) (by first | assumption | exact nq_gs (by assumption) | exact nq_gn (by first | assumption | decide | omega | exact nq_ne1 (by assumption) (by assumption) | exact nq_ne2 (by assumption) (by assumption)) (by assumption) | exact nq_ga (by assumption)))) rfl (j := 3 * j + 3 + c) (ex1 c) (by omega) (by decide) ?_
        refine nq_aload_n (pc' := 110) d_Mod_sortResult_109 rfl rfl rfl ?_
        refine nq_getf (pc' := 113) d_Mod_sortResult_110 rfl fl_Mod_51 (by first | assumption | exact nq_ga (by assumption) | exact nq_gs (by first | assumption | exact nq_ga (by assumption) | exact nq_gs (by first | assumption | exact nq_gs (by assumption) | exact nq_gn (by first | assumption | decide | omega | exact nq_ne1 (by assumption) (by assumption) | exact nq_ne2 (by assumption) (by assumption)) (by assumption) | exact nq_ga (by assumption)) | exact nq_gn (by first | assumption | decide | omega | exact nq_ne1 (by assumption) (by assumption) | exact nq_ne2 (by assumption) (by assumption)) (by first | assumption | exact nq_gs (by assumption) | exact nq_gn (by first | assumption | decide | omega | exact nq_ne1 (by assumption) (by assumption) | exact nq_ne2 (by assumption) (by assumption)) (by assumption) | exact nq_ga (by assumption))) | exact nq_gn (by first | assumption | decide | omega | exact nq_ne1 (by assumption) (by assumption) | exact nq_ne2 (by assumption) (by assumption)) (by first | assumption | exact nq_ga (by assumption) | exact nq_gs (by first | assumption | exact nq_gs (by assumption) | exact nq_gn (by first | assumption | decide | omega | exact nq_ne1 (by assumption) (by assumption) | exact nq_ne2 (by assumption) (by assumption)) (by assumption) | exact nq_ga (by assumption)) | exact nq_gn (by first | assumption | decide | omega | exact nq_ne1 (by assumption) (by assumption) | exact nq_ne2 (by assumption) (by assumption)) (by first | assumption | exact nq_gs (by assumption) | exact nq_gn (by first | assumption | decide | omega | exact nq_ne1 (by assumption) (by assumption) | exact nq_ne2 (by assumption) (by assumption)) (by assumption) | exact nq_ga (by assumption)))) rfl ?_
        refine nq_iload_n (pc' := 114) d_Mod_sortResult_113 rfl rfl rfl ?_
        refine nq_iconst (v := 3) (pc' := 115) d_Mod_sortResult_114 rfl (by decide) ?_
        refine nq_imul (pc' := 116) d_Mod_sortResult_115 rfl ?_
        refine nq_iconst (v := 3) (pc' := 117) d_Mod_sortResult_116 rfl (by decide) ?_
        refine nq_isub (pc' := 118) d_Mod_sortResult_117 rfl ?_
        refine nq_iload (pc' := 120) d_Mod_sortResult_118 rfl rfl ?_
        refine nq_iadd (pc' := 121) d_Mod_sortResult_120 rfl ?_
        refine nq_iload (pc' := 123) d_Mod_sortResult_121 rfl rfl ?_
        refine nq_iast (pc' := 124) d_Mod_sortResult_123 rfl (by first | assumption | exact nq_ga (by assumption) | exact nq_gs (by first | assumption | exact nq_ga (by assumption) | exact nq_gs (by first | assumption | exact nq_gs (by assumption) | exact nq_gn (by first | assumption | decide | omega | exact nq_ne1 (by assumption) (by assumption) | exact nq_ne2 (by assumption) (by assumption)) (by assumption) | exact nq_ga (by assumption)) | exact nq_gn (by first | assumption | decide | omega | exact nq_ne1 (by assumption) (by assumption) | exact nq_ne2 (by assumption) (by assumption)) (by first | assumption | exact nq_gs (by assumption) | exact nq_gn (by first | assumption | decide | omega | exact nq_ne1 (by assumption) (by assumption) | exact nq_ne2 (by assumption) (by assumption)) (by assumption) | exact nq_ga (by assumption))) | exact nq_gn (by first | assumption | decide | omega | exact nq_ne1 (by assumption) (by assumption) | exact nq_ne2 (by assumption) (by assumption)) (by first | assumption | exact nq_ga (by assumption) | exact nq_gs (by first | assumption | exact nq_gs (by assumption) | exact nq_gn (by first | assumption | decide | omega | exact nq_ne1 (by assumption) (by assumption) | exact nq_ne2 (by assumption) (by assumption)) (by assumption) | exact nq_ga (by assumption)) | exact nq_gn (by first | assumption | decide | omega | exact nq_ne1 (by assumption) (by assumption) | exact nq_ne2 (by assumption) (by assumption)) (by first | assumption | exact nq_gs (by assumption) | exact nq_gn (by first | assumption | decide | omega | exact nq_ne1 (by assumption) (by assumption) | exact nq_ne2 (by assumption) (by assumption)) (by assumption) | exact nq_ga (by assumption)))) rfl (j := 3 * j + c) (ex0 c) (by omega) (by decide) ?_
        rw [nq_ss, mo_sw_st (by omega)]
        refine nq_iinc (pc' := 127) d_Mod_sortResult_124 rfl rfl (v := nI (c + 1)) (nI_1 c) (by decide) rfl ?_
        refine nq_goto (tgt := 66) d_Mod_sortResult_127 (by decide) ?_
        refine ihm (c + 1) l3 _ _ (by omega) (F3.tr (mo_fr.st (by decide))) ?_
        have e : ua (ua ar 12 (mo_sw f j (c + 1))) 13 (upd (upd g (j + 1) (g j)) j (g (j + 1))) = ua (ua (ua ar 12 (mo_sw f j c)) 13 (upd (upd g (j + 1) (g j)) j (g (j + 1)))) 12 (mo_sw f j (c + 1)) := by
          funext x
          unfold ua
          by_cases h12 : x = 12
          · simp [h12]
          · by_cases h13 : x = 13
            · simp [h13]
            · simp [h12, h13]
        rw [e]
        exact W3.a12
    refine inner 3 0 _ _ σ2 rfl F2 ?_
    have e0 : mo_sw f j 0 = f := by
      funext x
      unfold mo_sw
      rw [if_neg (by omega), if_neg (by omega)]
    rw [e0]
    exact W2
theorem k_Mod_sortResult {cl : List sx_E} (hW : mo_W σ v ar) (h13 : v 13 = nI cl.length) (hl : cl.length ≤ 40) (hM : so_M (ar 12) (ar 13) cl) : nq_JM G d 0 0 m_Mod_sortResult [.ref 270] σ (fun o σ' => o = .inl none ∧ mo_fr σ σ' ∧ ∃ f g, mo_W σ' v (ua (ua ar 12 f) 13 g) ∧ so_M f g (cl.foldl sx_add [])) := by
  have loop : ∀ (m i : Nat) (σ1 : nq_S) (f g : Nat → Int32), (m + i = cl.length ∨ (m = 0 ∧ cl.length ≤ i ∧ i ≤ 1)) → mo_fr σ σ1 → mo_W σ1 v (ua (ua ar 12 f) 13 g) → so_M f g ((cl.take i).foldl sx_add [] ++ cl.drop i) → nq_J G d 0 0 m_Mod_sortResult 2 [some (.ref 270), some (.int (nI i)), none, none, none, none] [] σ1 (fun o σ' => o = .inl none ∧ mo_fr σ σ' ∧ ∃ f g, mo_W σ' v (ua (ua ar 12 f) 13 g) ∧ so_M f g (cl.foldl sx_add [])) := by
    intro m
    induction m with
    | zero =>
      intro i σ1 f g hm F W M
      have w := W.1
      rw [List.take_of_length_le (by omega), List.drop_of_length_le (by omega), List.append_nil] at M
      refine nq_iload_n (pc' := 3) d_Mod_sortResult_2 rfl rfl rfl ?_
      refine nq_aload_n (pc' := 4) d_Mod_sortResult_3 rfl rfl rfl ?_
      refine nq_getf (pc' := 7) d_Mod_sortResult_4 rfl fl_Mod_167 (by first | assumption | exact nq_ga (by assumption) | exact nq_gs (by first | assumption | exact nq_ga (by assumption) | exact nq_gs (by first | assumption | exact nq_gs (by assumption) | exact nq_gn (by first | assumption | decide | omega | exact nq_ne1 (by assumption) (by assumption) | exact nq_ne2 (by assumption) (by assumption)) (by assumption) | exact nq_ga (by assumption)) | exact nq_gn (by first | assumption | decide | omega | exact nq_ne1 (by assumption) (by assumption) | exact nq_ne2 (by assumption) (by assumption)) (by first | assumption | exact nq_gs (by assumption) | exact nq_gn (by first | assumption | decide | omega | exact nq_ne1 (by assumption) (by assumption) | exact nq_ne2 (by assumption) (by assumption)) (by assumption) | exact nq_ga (by assumption))) | exact nq_gn (by first | assumption | decide | omega | exact nq_ne1 (by assumption) (by assumption) | exact nq_ne2 (by assumption) (by assumption)) (by first | assumption | exact nq_ga (by assumption) | exact nq_gs (by first | assumption | exact nq_gs (by assumption) | exact nq_gn (by first | assumption | decide | omega | exact nq_ne1 (by assumption) (by assumption) | exact nq_ne2 (by assumption) (by assumption)) (by assumption) | exact nq_ga (by assumption)) | exact nq_gn (by first | assumption | decide | omega | exact nq_ne1 (by assumption) (by assumption) | exact nq_ne2 (by assumption) (by assumption)) (by first | assumption | exact nq_gs (by assumption) | exact nq_gn (by first | assumption | decide | omega | exact nq_ne1 (by assumption) (by assumption) | exact nq_ne2 (by assumption) (by assumption)) (by assumption) | exact nq_ga (by assumption)))) rfl ?_
      rw [h13]
      refine nq_icmp_ge (pc' := 10) (tgt := 142) d_Mod_sortResult_7 rfl (by decide) (fun _ => ?_) (fun h => absurd ((nI_leI (by omega) (by omega)).mpr (by omega)) h)
      refine nq_vret d_Mod_sortResult_142 rfl ⟨rfl, F, f, g, W, M⟩
    | succ m ih =>
      intro i σ1 f g hm F W M
      have hil : i < cl.length := by omega
      have w := W.1
      have et : cl.take (i + 1) = cl.take i ++ [cl[i]] := List.take_succ_eq_append_getElem hil
      have ed : cl.drop i = cl[i] :: cl.drop (i + 1) := List.drop_eq_getElem_cons hil
      have hAl : ((cl.take i).foldl sx_add []).length = i := by rw [sx_all_len, List.length_take, List.length_nil]; omega
      refine nq_iload_n (pc' := 3) d_Mod_sortResult_2 rfl rfl rfl ?_
      refine nq_aload_n (pc' := 4) d_Mod_sortResult_3 rfl rfl rfl ?_
      refine nq_getf (pc' := 7) d_Mod_sortResult_4 rfl fl_Mod_167 (by first | assumption | exact nq_ga (by assumption) | exact nq_gs (by first | assumption | exact nq_ga (by assumption) | exact nq_gs (by first | assumption | exact nq_gs (by assumption) | exact nq_gn (by first | assumption | decide | omega | exact nq_ne1 (by assumption) (by assumption) | exact nq_ne2 (by assumption) (by assumption)) (by assumption) | exact nq_ga (by assumption)) | exact nq_gn (by first | assumption | decide | omega | exact nq_ne1 (by assumption) (by assumption) | exact nq_ne2 (by assumption) (by assumption)) (by first | assumption | exact nq_gs (by assumption) | exact nq_gn (by first | assumption | decide | omega | exact nq_ne1 (by assumption) (by assumption) | exact nq_ne2 (by assumption) (by assumption)) (by assumption) | exact nq_ga (by assumption))) | exact nq_gn (by first | assumption | decide | omega | exact nq_ne1 (by assumption) (by assumption) | exact nq_ne2 (by assumption) (by assumption)) (by first | assumption | exact nq_ga (by assumption) | exact nq_gs (by first | assumption | exact nq_gs (by assumption) | exact nq_gn (by first | assumption | decide | omega | exact nq_ne1 (by assumption) (by assumption) | exact nq_ne2 (by assumption) (by assumption)) (by assumption) | exact nq_ga (by assumption)) | exact nq_gn (by first | assumption | decide | omega | exact nq_ne1 (by assumption) (by assumption) | exact nq_ne2 (by assumption) (by assumption)) (by first | assumption | exact nq_gs (by assumption) | exact nq_gn (by first | assumption | decide | omega | exact nq_ne1 (by assumption) (by assumption) | exact nq_ne2 (by assumption) (by assumption)) (by assumption) | exact nq_ga (by assumption)))) rfl ?_
      rw [h13]
      refine nq_icmp_ge (pc' := 10) (tgt := 142) d_Mod_sortResult_7 rfl (by decide) (fun h => absurd ((nI_leI (by omega) (by omega)).mp h) (by omega)) (fun _ => ?_)
      refine nq_iload_n (pc' := 11) d_Mod_sortResult_10 rfl rfl rfl ?_
      refine nq_istore_n (pc' := 12) d_Mod_sortResult_11 rfl rfl (by decide) rfl ?_
      refine so_in (A := (cl.take i).foldl sx_add []) (rest := cl.drop (i + 1)) (e := cl[i]) (n := i) (σ := σ) (by rw [hAl, List.length_drop]; omega) hAl (fun σ2 f2 g2 F2 W2 M2 => ?_) i σ1 f g (by omega) (by rw [hAl]) F W ?_
      · refine nq_iinc (pc' := 139) d_Mod_sortResult_136 rfl rfl (v := nI (i + 1)) (nI_1 i) (by decide) rfl ?_
        refine nq_goto (tgt := 2) d_Mod_sortResult_139 (by decide) ?_
        refine ih (i + 1) σ2 f2 g2 (.inl (by omega)) F2 W2 ?_
        rw [et, sx_all_app]
        exact M2
      · rw [List.take_of_length_le (by omega), List.drop_of_length_le (by omega), List.nil_append, ← ed]
        exact M
  refine nq_mk' (lv := [some (.ref 270), none, none, none, none, none]) (by decide +kernel) rfl (Nat.le_of_ble_eq_true rfl) rfl ?_
  refine nq_iconst (v := 1) (pc' := 1) d_Mod_sortResult_0 rfl (by decide) ?_
  refine nq_istore_n (pc' := 2) d_Mod_sortResult_1 rfl rfl (by decide) rfl ?_
  have eW : mo_W σ v (ua (ua ar 12 (ar 12)) 13 (ar 13)) := by
    rw [ua_self, ua_self]
    exact hW
  refine loop (cl.length - 1) 1 σ (ar 12) (ar 13) (by omega) mo_fr.rf eW ?_
  cases cl with
  | nil => exact hM
  | cons x xs => exact hM
end MO
