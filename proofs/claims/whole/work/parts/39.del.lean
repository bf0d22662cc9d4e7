/-! THE STORE: delete, update -/
theorem sx_del_nil (m : List (Option Int32)) : sx_del [] m = [] := by cases m <;> rfl
theorem sx_put_nil (c : Nat) (m : List (Option Int32)) : sx_put c [] m = [] := by cases m <;> rfl
/-- the rows behind k are through -/
def sx_D (rows : List nq_Rw) (m : List (Option Int32)) (k : Nat) : List nq_Rw := rows.take k ++ sx_del (rows.drop k) (m.drop k)
theorem sx_D_no {rows : List nq_Rw} {m : List (Option Int32)} {k : Nat} {r : nq_Rw} (hr : rows[k]? = some r) (hm : m[k]? = some none) : sx_D rows m (k + 1) = sx_D rows m k := by
  obtain ⟨h1, h2⟩ := List.getElem?_eq_some_iff.mp hr
  obtain ⟨h3, h4⟩ := List.getElem?_eq_some_iff.mp hm
  unfold sx_D
  have e : rows.take (k + 1) = rows.take k ++ [rows[k]] := List.take_succ_eq_append_getElem h1
  conv => rhs; rw [List.drop_eq_getElem_cons h1, List.drop_eq_getElem_cons h3, h4]
  rw [e, List.append_assoc]
  simp [sx_del]
theorem sx_D_yes {rows : List nq_Rw} {m : List (Option Int32)} {k : Nat} {r : nq_Rw} {v : Int32} (hr : rows[k]? = some r) (hm : m[k]? = some (some v)) : (sx_D rows m (k + 1)).eraseIdx k = sx_D rows m k ∧ k < (sx_D rows m (k + 1)).length := by
  obtain ⟨h1, h2⟩ := List.getElem?_eq_some_iff.mp hr
  obtain ⟨h3, h4⟩ := List.getElem?_eq_some_iff.mp hm
  unfold sx_D
  have e : rows.take (k + 1) = rows.take k ++ [rows[k]] := List.take_succ_eq_append_getElem h1
  constructor
  · conv => rhs; rw [List.drop_eq_getElem_cons h1, List.drop_eq_getElem_cons h3, h4]
    rw [e, List.append_assoc, List.eraseIdx_append_of_length_le (by rw [List.length_take]; omega)]
    rw [List.length_take, Nat.min_eq_left (by omega), Nat.sub_self]
    simp [sx_del]
  · rw [e]
    simp only [List.length_append, List.length_take, List.length_cons, List.length_nil]
    omega
theorem vp_b {b : Bool} : vp_nar .boolean (if b then 1 else 0) = if b then 1 else 0 := by cases b <;> rfl
theorem sp_ok.u3 {s : sp_St} (h : sp_ok s) (hk : ¬ (s.1 = 80 ∨ s.1 = 66)) : s.2.2.1 = 3 := by
  have := h.2.2.1
  rw [if_neg hk] at this
  exact this
section QD
variable {G : nq_G} {d : Nat} {σ : nq_S} {sp c : Nat} {bg nt st fi : Int32} {tb : sx_T} {R ch nn : Nat → Int32} {es : List nq_Er} {size width : Int32} {s : sp_St}
/-- meets, for a statement over one table -/
theorem qs_meet1 {i : Nat} {r1 : nq_Rw} (hX : qs_X σ sp bg nt st fi tb R ch nn es size width) (hC : qs_C σ c s) (hD : 4 ≤ d) (hu : s.2.2.1 = 3) (hp : i < 20) (hr1 : (tb.getD s.2.1 [])[i]? = some r1) : nq_JM G d 0 0 m_QS_meets [.ref 0, .ref c, .int (nI i)] σ (fun o σ' => ∃ R', σ' = σ.set 6 (.inl (0, 20, .inl R')) ∧ o = nq_ob (sx_m s.2.2.2.2.2.1 (sx_env r1 sx_row0 (R 6))) ∧ (sx_m s.2.2.2.2.2.1 (sx_env r1 sx_row0 (R 6)) ≠ none → (∀ i, i < sp_nc (sp_cols s.1) → R' i = sx_env r1 sx_row0 (R 6) i) ∧ R' 6 = R 6)) := by
  have hm : qs_m tb s.2.2.1 = 1 := by unfold qs_m; rw [if_pos hu]
  exact k_QS_meets hX hC hD (by rw [hm]; decide) (by rw [hm]; decide) (by omega) (by rw [hm, Nat.div_one]) rfl hr1 (.inl hu)
theorem k_QS_delete (hX : qs_X σ sp bg nt st fi tb R ch nn es 0 width) (hC : qs_C σ c s) (hk : s.1 = 68) (hD : 5 ≤ d) : nq_JM G d 0 0 m_QS_delete [.ref 0, .ref c] σ (xq_Q σ sp bg nt st fi tb width s.1 (sx_exec tb s (R 6))) := by
  obtain ⟨d, rfl⟩ : ∃ d', d = d' + 1 := ⟨d - 1, by omega⟩
  obtain ⟨d2, rfl⟩ : ∃ d2, d = d2 + 2 := ⟨d - 2, by omega⟩
  have hu := hC.2.1.u3 (by omega)
  have ht := hC.2.1.2.1
  have hl20 := tb_len (hX.2.2.1.2 s.2.1 ht)
  unfold sx_exec
  rw [if_neg (by omega), if_pos hk]
  generalize hrows : tb.getD s.2.1 [] = rows at hl20 ⊢
  have loop2 : ∀ (k : Nat) (cl : List (Option Int32)) (σ1 : nq_S) (R1 ch1 : Nat → Int32), k ≤ rows.length → cl.length = rows.length → (∀ j x, cl[j]? = some x → ch1 j = if x.isSome then 1 else 0) → qs_fr σ σ1 → qs_X σ1 sp bg nt st fi (tb.set s.2.1 (sx_D rows cl k)) R1 ch1 nn es 0 width → nq_J G (d2 + 2 + 1) 0 0 m_QS_delete 65 [some (.ref 0), some (.ref c), some (.ref (18 + 84 * s.2.1)), some (.int (nI (sx_many cl))), some (.int (nI k - 1))] [] σ1 (xq_Q σ sp bg nt st fi tb width s.1 (.inr (nI (sx_many cl), tb.set s.2.1 (sx_del rows cl), [], 0))) := by
    intro k
    induction k with
    | zero =>
      intro cl σ1 R1 ch1 hk2 hcl hch F1 X1
      have z1 := X1.1
      refine nq_iload (pc' := 67) d_QS_delete_65 rfl rfl ?_
      refine nq_if_lt (pc' := 70) (tgt := 92) d_QS_delete_67 rfl (by decide) (fun _ => ?_) (fun h => absurd (by decide) h)
      refine nq_aload_n (pc' := 93) d_QS_delete_92 rfl rfl rfl ?_
      refine nq_iload_n (pc' := 94) d_QS_delete_93 rfl rfl rfl ?_
      refine nq_callVR (pc' := 97) d_QS_delete_94 rfl cl_QS_176 rfl (by first | assumption | exact nq_ga (by assumption) | exact nq_gs (by first | assumption | exact nq_ga (by assumption) | exact nq_gs (by first | assumption | exact nq_gs (by assumption) | exact nq_gn (by first | assumption | decide | omega | exact nq_ne1 (by assumption) (by assumption) | exact nq_ne2 (by assumption) (by assumption)) (by assumption) | exact nq_ga (by assumption)) | exact nq_gn (by first | assumption | decide | omega | exact nq_ne1 (by assumption) (by assumption) | exact nq_ne2 (by assumption) (by assumption)) (by first | assumption | exact nq_gs (by assumption) | exact nq_gn (by first | assumption | decide | omega | exact nq_ne1 (by assumption) (by assumption) | exact nq_ne2 (by assumption) (by assumption)) (by assumption) | exact nq_ga (by assumption))) | exact nq_gn (by first | assumption | decide | omega | exact nq_ne1 (by assumption) (by assumption) | exact nq_ne2 (by assumption) (by assumption)) (by first | assumption | exact nq_ga (by assumption) | exact nq_gs (by first | assumption | exact nq_gs (by assumption) | exact nq_gn (by first | assumption | decide | omega | exact nq_ne1 (by assumption) (by assumption) | exact nq_ne2 (by assumption) (by assumption)) (by assumption) | exact nq_ga (by assumption)) | exact nq_gn (by first | assumption | decide | omega | exact nq_ne1 (by assumption) (by assumption) | exact nq_ne2 (by assumption) (by assumption)) (by first | assumption | exact nq_gs (by assumption) | exact nq_gn (by first | assumption | decide | omega | exact nq_ne1 (by assumption) (by assumption) | exact nq_ne2 (by assumption) (by assumption)) (by assumption) | exact nq_ga (by assumption)))) rfl rfl (kc := 0) (ks := 0) (mc' := 0) (ms' := 0) (As := [.int (nI (sx_many cl))]) (rest := []) rfl rfl (by decide) (k_QS_note X1) ?_
      refine nq_iload_n (pc' := 98) d_QS_delete_97 rfl rfl rfl ?_
      refine nq_iret d_QS_delete_98 rfl rfl (xq_end (by rw [hk]; rfl) F1 X1)
    | succ k ih =>
      intro cl σ1 R1 ch1 hk2 hcl hch F1 X1
      have X1' := X1
      obtain ⟨k1, ⟨g', k2, k2'⟩, ⟨k3, k3'⟩, k4, k5, k6, k7, k8⟩ := X1
      have hT := k3' s.2.1 ht
      rw [show (tb.set s.2.1 (sx_D rows cl (k + 1))).getD s.2.1 [] = sx_D rows cl (k + 1) from by simp [List.getD, show tb.length = 3 from hX.2.2.1.1, ht]] at hT
      obtain ⟨used, htc⟩ := hT.cell
      have hr := List.getElem?_eq_some_iff.mpr ⟨show k < rows.length by omega, rfl⟩
      have hm := List.getElem?_eq_some_iff.mpr ⟨show k < cl.length by omega, rfl⟩
      have hc1 := hch k _ hm
      have hiv : nI k + Int32.ofInt (-1) = nI k - 1 := by rw [Int32.sub_eq_add_neg]; rfl
      rw [nI_pred]
      refine nq_iload (pc' := 67) d_QS_delete_65 rfl rfl ?_
      refine nq_if_lt (pc' := 70) (tgt := 92) d_QS_delete_67 rfl (by decide) (fun h => absurd h (nI_pos (by omega))) (fun _ => ?_)
      refine nq_aload_n (pc' := 71) d_QS_delete_70 rfl rfl rfl ?_
      refine nq_getf (pc' := 74) d_QS_delete_71 rfl fl_QS_45 (by first | assumption | exact nq_ga (by assumption) | exact nq_gs (by first | assumption | exact nq_ga (by assumption) | exact nq_gs (by first | assumption | exact nq_gs (by assumption) | exact nq_gn (by first | assumption | decide | omega | exact nq_ne1 (by assumption) (by assumption) | exact nq_ne2 (by assumption) (by assumption)) (by assumption) | exact nq_ga (by assumption)) | exact nq_gn (by first | assumption | decide | omega | exact nq_ne1 (by assumption) (by assumption) | exact nq_ne2 (by assumption) (by assumption)) (by first | assumption | exact nq_gs (by assumption) | exact nq_gn (by first | assumption | decide | omega | exact nq_ne1 (by assumption) (by assumption) | exact nq_ne2 (by assumption) (by assumption)) (by assumption) | exact nq_ga (by assumption))) | exact nq_gn (by first | assumption | decide | omega | exact nq_ne1 (by assumption) (by assumption) | exact nq_ne2 (by assumption) (by assumption)) (by first | assumption | exact nq_ga (by assumption) | exact nq_gs (by first | assumption | exact nq_gs (by assumption) | exact nq_gn (by first | assumption | decide | omega | exact nq_ne1 (by assumption) (by assumption) | exact nq_ne2 (by assumption) (by assumption)) (by assumption) | exact nq_ga (by assumption)) | exact nq_gn (by first | assumption | decide | omega | exact nq_ne1 (by assumption) (by assumption) | exact nq_ne2 (by assumption) (by assumption)) (by first | assumption | exact nq_gs (by assumption) | exact nq_gn (by first | assumption | decide | omega | exact nq_ne1 (by assumption) (by assumption) | exact nq_ne2 (by assumption) (by assumption)) (by assumption) | exact nq_ga (by assumption)))) rfl ?_
      refine nq_iload (pc' := 76) d_QS_delete_74 rfl rfl ?_
      refine nq_zald (pc' := 77) d_QS_delete_76 rfl (by first | assumption | exact nq_ga (by assumption) | exact nq_gs (by first | assumption | exact nq_ga (by assumption) | exact nq_gs (by first | assumption | exact nq_gs (by assumption) | exact nq_gn (by first | assumption | decide | omega | exact nq_ne1 (by assumption) (by assumption) | exact nq_ne2 (by assumption) (by assumption)) (by assumption) | exact nq_ga (by assumption)) | exact nq_gn (by first | assumption | decide | omega | exact nq_ne1 (by assumption) (by assumption) | exact nq_ne2 (by assumption) (by assumption)) (by first | assumption | exact nq_gs (by assumption) | exact nq_gn (by first | assumption | decide | omega | exact nq_ne1 (by assumption) (by assumption) | exact nq_ne2 (by assumption) (by assumption)) (by assumption) | exact nq_ga (by assumption))) | exact nq_gn (by first | assumption | decide | omega | exact nq_ne1 (by assumption) (by assumption) | exact nq_ne2 (by assumption) (by assumption)) (by first | assumption | exact nq_ga (by assumption) | exact nq_gs (by first | assumption | exact nq_gs (by assumption) | exact nq_gn (by first | assumption | decide | omega | exact nq_ne1 (by assumption) (by assumption) | exact nq_ne2 (by assumption) (by assumption)) (by assumption) | exact nq_ga (by assumption)) | exact nq_gn (by first | assumption | decide | omega | exact nq_ne1 (by assumption) (by assumption) | exact nq_ne2 (by assumption) (by assumption)) (by first | assumption | exact nq_gs (by assumption) | exact nq_gn (by first | assumption | decide | omega | exact nq_ne1 (by assumption) (by assumption) | exact nq_ne2 (by assumption) (by assumption)) (by assumption) | exact nq_ga (by assumption)))) rfl (j := k) rfl (by omega) (by decide) ?_
      rw [hc1]
      cases hx : cl[k] with
      | none =>
        rw [hx] at hm
        rw [if_neg (by simp)]
        refine nq_if_eq (pc' := 80) (tgt := 86) d_QS_delete_77 rfl (by decide) (fun _ => ?_) (fun h => absurd rfl h)
        refine nq_iinc (pc' := 89) d_QS_delete_86 rfl rfl (v := nI k - 1) hiv (by decide) rfl ?_
        refine nq_goto (tgt := 65) d_QS_delete_89 (by decide) ?_
        rw [sx_D_no hr hm] at X1'
        exact ih cl σ1 R1 ch1 (by omega) hcl hch F1 X1'
      | some w =>
        rw [hx] at hm
        obtain ⟨y1, y2⟩ := sx_D_yes hr hm
        rw [if_pos (by simp)]
        refine nq_if_eq (pc' := 80) (tgt := 86) d_QS_delete_77 rfl (by decide) (fun h => absurd h (by decide)) (fun _ => ?_)
        refine nq_aload_n (pc' := 81) d_QS_delete_80 rfl rfl rfl ?_
        refine nq_iload (pc' := 83) d_QS_delete_81 rfl rfl ?_
        refine nq_callV (pc' := 86) d_QS_delete_83 rfl cl_QS_183 rfl (by first | assumption | exact nq_ga (by assumption) | exact nq_gs (by first | assumption | exact nq_ga (by assumption) | exact nq_gs (by first | assumption | exact nq_gs (by assumption) | exact nq_gn (by first | assumption | decide | omega | exact nq_ne1 (by assumption) (by assumption) | exact nq_ne2 (by assumption) (by assumption)) (by assumption) | exact nq_ga (by assumption)) | exact nq_gn (by first | assumption | decide | omega | exact nq_ne1 (by assumption) (by assumption) | exact nq_ne2 (by assumption) (by assumption)) (by first | assumption | exact nq_gs (by assumption) | exact nq_gn (by first | assumption | decide | omega | exact nq_ne1 (by assumption) (by assumption) | exact nq_ne2 (by assumption) (by assumption)) (by assumption) | exact nq_ga (by assumption))) | exact nq_gn (by first | assumption | decide | omega | exact nq_ne1 (by assumption) (by assumption) | exact nq_ne2 (by assumption) (by assumption)) (by first | assumption | exact nq_ga (by assumption) | exact nq_gs (by first | assumption | exact nq_gs (by assumption) | exact nq_gn (by first | assumption | decide | omega | exact nq_ne1 (by assumption) (by assumption) | exact nq_ne2 (by assumption) (by assumption)) (by assumption) | exact nq_ga (by assumption)) | exact nq_gn (by first | assumption | decide | omega | exact nq_ne1 (by assumption) (by assumption) | exact nq_ne2 (by assumption) (by assumption)) (by first | assumption | exact nq_gs (by assumption) | exact nq_gn (by first | assumption | decide | omega | exact nq_ne1 (by assumption) (by assumption) | exact nq_ne2 (by assumption) (by assumption)) (by assumption) | exact nq_ga (by assumption)))) rfl rfl (kc := 0) (ks := 0) (mc' := 0) (ms' := 0) (As := [.int (nI k)]) (rest := []) rfl rfl (by decide) (t_Table_remove hT y2) (fun E σ2 hq => by cases hq.1) (fun v σ2 hq => ?_)
        obtain ⟨e1, hT2, hf2⟩ := hq
        cases e1
        rw [y1] at hT2
        have X2 := X1'.tab ht hT2 hf2
        rw [List.set_set] at X2
        refine nq_iinc (pc' := 89) d_QS_delete_86 rfl rfl (v := nI k - 1) hiv (by decide) rfl ?_
        refine nq_goto (tgt := 65) d_QS_delete_89 (by decide) ?_
        exact ih cl σ2 R1 ch1 (by omega) hcl hch (F1.tr (qs_fr.fm ht hf2)) X2
  have loop1 : ∀ (n i : Nat) (cl : List (Option Int32)) (σ1 : nq_S) (R1 ch1 : Nat → Int32), n + i = rows.length → cl.length = i → (∀ j x, cl[j]? = some x → ch1 j = if x.isSome then 1 else 0) → qs_fr σ σ1 → R1 6 = R 6 → qs_X σ1 sp bg nt st fi tb R1 ch1 nn es 0 width → nq_J G (d2 + 2 + 1) 0 0 m_QS_delete 15 [some (.ref 0), some (.ref c), some (.ref (18 + 84 * s.2.1)), some (.int (nI (sx_many cl))), some (.int (nI i))] [] σ1 (xq_Q σ sp bg nt st fi tb width s.1 (match sx_ch false s.2.2.2.1 s.2.2.2.2.2.1 (R 6) (rows.drop i) cl with
      | .inl e => .inl e
      | .inr m => .inr (nI (sx_many m), tb.set s.2.1 (sx_del rows m), [], 0))) := by
    intro n
    induction n with
    | zero =>
      intro i cl σ1 R1 ch1 hn hcl hch F1 hR X1
      have X1' := X1
      obtain ⟨k1, ⟨g', k2, k2'⟩, ⟨k3, k3'⟩, k4, k5, k6, k7, k8⟩ := X1
      have hT := k3' s.2.1 ht
      rw [hrows] at hT
      obtain ⟨used, htc⟩ := hT.cell
      rw [List.drop_of_length_le (by omega)]
      refine nq_iload (pc' := 17) d_QS_delete_15 rfl rfl ?_
      refine nq_aload_n (pc' := 18) d_QS_delete_17 rfl rfl rfl ?_
      refine nq_callVR (pc' := 21) d_QS_delete_18 rfl cl_QS_96 rfl (by first | assumption | exact nq_ga (by assumption) | exact nq_gs (by first | assumption | exact nq_ga (by assumption) | exact nq_gs (by first | assumption | exact nq_gs (by assumption) | exact nq_gn (by first | assumption | decide | omega | exact nq_ne1 (by assumption) (by assumption) | exact nq_ne2 (by assumption) (by assumption)) (by assumption) | exact nq_ga (by assumption)) | exact nq_gn (by first | assumption | decide | omega | exact nq_ne1 (by assumption) (by assumption) | exact nq_ne2 (by assumption) (by assumption)) (by first | assumption | exact nq_gs (by assumption) | exact nq_gn (by first | assumption | decide | omega | exact nq_ne1 (by assumption) (by assumption) | exact nq_ne2 (by assumption) (by assumption)) (by assumption) | exact nq_ga (by assumption))) | exact nq_gn (by first | assumption | decide | omega | exact nq_ne1 (by assumption) (by assumption) | exact nq_ne2 (by assumption) (by assumption)) (by first | assumption | exact nq_ga (by assumption) | exact nq_gs (by first | assumption | exact nq_gs (by assumption) | exact nq_gn (by first | assumption | decide | omega | exact nq_ne1 (by assumption) (by assumption) | exact nq_ne2 (by assumption) (by assumption)) (by assumption) | exact nq_ga (by assumption)) | exact nq_gn (by first | assumption | decide | omega | exact nq_ne1 (by assumption) (by assumption) | exact nq_ne2 (by assumption) (by assumption)) (by first | assumption | exact nq_gs (by assumption) | exact nq_gn (by first | assumption | decide | omega | exact nq_ne1 (by assumption) (by assumption) | exact nq_ne2 (by assumption) (by assumption)) (by assumption) | exact nq_ga (by assumption)))) rfl rfl (kc := 0) (ks := 0) (mc' := 0) (ms' := 0) (As := []) (rest := [.int (nI i)]) rfl rfl (Nat.le_of_ble_eq_true rfl) (t_Table_size hT) ?_
      refine nq_icmp_ge (pc' := 24) (tgt := 57) d_QS_delete_21 rfl (by decide) (fun _ => ?_) (fun h => absurd ((nI_leI (by omega) (by omega)).mpr (by omega)) h)
      refine nq_aload_n (pc' := 58) d_QS_delete_57 rfl rfl rfl ?_
      refine nq_callVR (pc' := 61) d_QS_delete_58 rfl cl_QS_96 rfl (by first | assumption | exact nq_ga (by assumption) | exact nq_gs (by first | assumption | exact nq_ga (by assumption) | exact nq_gs (by first | assumption | exact nq_gs (by assumption) | exact nq_gn (by first | assumption | decide | omega | exact nq_ne1 (by assumption) (by assumption) | exact nq_ne2 (by assumption) (by assumption)) (by assumption) | exact nq_ga (by assumption)) | exact nq_gn (by first | assumption | decide | omega | exact nq_ne1 (by assumption) (by assumption) | exact nq_ne2 (by assumption) (by assumption)) (by first | assumption | exact nq_gs (by assumption) | exact nq_gn (by first | assumption | decide | omega | exact nq_ne1 (by assumption) (by assumption) | exact nq_ne2 (by assumption) (by assumption)) (by assumption) | exact nq_ga (by assumption))) | exact nq_gn (by first | assumption | decide | omega | exact nq_ne1 (by assumption) (by assumption) | exact nq_ne2 (by assumption) (by assumption)) (by first | assumption | exact nq_ga (by assumption) | exact nq_gs (by first | assumption | exact nq_gs (by assumption) | exact nq_gn (by first | assumption | decide | omega | exact nq_ne1 (by assumption) (by assumption) | exact nq_ne2 (by assumption) (by assumption)) (by assumption) | exact nq_ga (by assumption)) | exact nq_gn (by first | assumption | decide | omega | exact nq_ne1 (by assumption) (by assumption) | exact nq_ne2 (by assumption) (by assumption)) (by first | assumption | exact nq_gs (by assumption) | exact nq_gn (by first | assumption | decide | omega | exact nq_ne1 (by assumption) (by assumption) | exact nq_ne2 (by assumption) (by assumption)) (by assumption) | exact nq_ga (by assumption)))) rfl rfl (kc := 0) (ks := 0) (mc' := 0) (ms' := 0) (As := []) (rest := []) rfl rfl (by decide) (t_Table_size hT) ?_
      refine nq_iconst (v := 1) (pc' := 62) d_QS_delete_61 rfl (by decide) ?_
      refine nq_isub (pc' := 63) d_QS_delete_62 rfl ?_
      refine nq_istore (pc' := 65) d_QS_delete_63 rfl (by decide) rfl ?_
      refine loop2 rows.length cl σ1 R1 ch1 (Nat.le_refl _) (by omega) hch F1 ?_
      have e0 : sx_D rows cl rows.length = rows := by
        unfold sx_D
        rw [List.take_length, List.drop_length, sx_del_nil, List.append_nil]
      rw [e0, show tb.set s.2.1 rows = tb from by
        rw [← hrows]
        refine List.ext_getElem? (fun j => ?_)
        by_cases hj : s.2.1 = j
        · subst hj
          rw [List.getElem?_set_self (by rw [hX.2.2.1.1]; exact ht), List.getD_eq_getElem?_getD, List.getElem?_eq_getElem (by rw [hX.2.2.1.1]; exact ht)]
          rfl
        · rw [List.getElem?_set_ne hj]]
      exact X1'
    | succ n ih =>
      intro i cl σ1 R1 ch1 hn hcl hch F1 hR X1
      have X1' := X1
      have C1 := hC.fr F1
      obtain ⟨k1, ⟨g', k2, k2'⟩, ⟨k3, k3'⟩, k4, k5, k6, k7, k8⟩ := X1
      obtain ⟨n', hcc⟩ := C1.cell
      have hT := k3' s.2.1 ht
      rw [hrows] at hT
      obtain ⟨used, htc⟩ := hT.cell
      have hil : i < rows.length := by omega
      rw [List.drop_eq_getElem_cons hil]
      have hri : (tb.getD s.2.1 [])[i]? = some rows[i] := by rw [hrows]; exact List.getElem?_eq_some_iff.mpr ⟨hil, rfl⟩
      have mt := qs_meet1 (G := G) (d := d2 + 2) X1' C1 (by omega) hu (by omega) hri
      rw [hR] at mt
      unfold sx_ch
      generalize rows[i] = r at mt hri ⊢
      refine nq_iload (pc' := 17) d_QS_delete_15 rfl rfl ?_
      refine nq_aload_n (pc' := 18) d_QS_delete_17 rfl rfl rfl ?_
      refine nq_callVR (pc' := 21) d_QS_delete_18 rfl cl_QS_96 rfl (by first | assumption | exact nq_ga (by assumption) | exact nq_gs (by first | assumption | exact nq_ga (by assumption) | exact nq_gs (by first | assumption | exact nq_gs (by assumption) | exact nq_gn (by first | assumption | decide | omega | exact nq_ne1 (by assumption) (by assumption) | exact nq_ne2 (by assumption) (by assumption)) (by assumption) | exact nq_ga (by assumption)) | exact nq_gn (by first | assumption | decide | omega | exact nq_ne1 (by assumption) (by assumption) | exact nq_ne2 (by assumption) (by assumption)) (by first | assumption | exact nq_gs (by assumption) | exact nq_gn (by first | assumption | decide | omega | exact nq_ne1 (by assumption) (by assumption) | exact nq_ne2 (by assumption) (by assumption)) (by assumption) | exact nq_ga (by assumption))) | exact nq_gn (by first | assumption | decide | omega | exact nq_ne1 (by assumption) (by assumption) | exact nq_ne2 (by assumption) (by assumption)) (by first | assumption | exact nq_ga (by assumption) | exact nq_gs (by first | assumption | exact nq_gs (by assumption) | exact nq_gn (by first | assumption | decide | omega | exact nq_ne1 (by assumption) (by assumption) | exact nq_ne2 (by assumption) (by assumption)) (by assumption) | exact nq_ga (by assumption)) | exact nq_gn (by first | assumption | decide | omega | exact nq_ne1 (by assumption) (by assumption) | exact nq_ne2 (by assumption) (by assumption)) (by first | assumption | exact nq_gs (by assumption) | exact nq_gn (by first | assumption | decide | omega | exact nq_ne1 (by assumption) (by assumption) | exact nq_ne2 (by assumption) (by assumption)) (by assumption) | exact nq_ga (by assumption)))) rfl rfl (kc := 0) (ks := 0) (mc' := 0) (ms' := 0) (As := []) (rest := [.int (nI i)]) rfl rfl (Nat.le_of_ble_eq_true rfl) (t_Table_size hT) ?_
      refine nq_icmp_ge (pc' := 24) (tgt := 57) d_QS_delete_21 rfl (by decide) (fun h => absurd ((nI_leI (by omega) (by omega)).mp h) (by omega)) (fun _ => ?_)
      refine nq_aload_n (pc' := 25) d_QS_delete_24 rfl rfl rfl ?_
      refine nq_getf (pc' := 28) d_QS_delete_25 rfl fl_QS_45 (by first | assumption | exact nq_ga (by assumption) | exact nq_gs (by first | assumption | exact nq_ga (by assumption) | exact nq_gs (by first | assumption | exact nq_gs (by assumption) | exact nq_gn (by first | assumption | decide | omega | exact nq_ne1 (by assumption) (by assumption) | exact nq_ne2 (by assumption) (by assumption)) (by assumption) | exact nq_ga (by assumption)) | exact nq_gn (by first | assumption | decide | omega | exact nq_ne1 (by assumption) (by assumption) | exact nq_ne2 (by assumption) (by assumption)) (by first | assumption | exact nq_gs (by assumption) | exact nq_gn (by first | assumption | decide | omega | exact nq_ne1 (by assumption) (by assumption) | exact nq_ne2 (by assumption) (by assumption)) (by assumption) | exact nq_ga (by assumption))) | exact nq_gn (by first | assumption | decide | omega | exact nq_ne1 (by assumption) (by assumption) | exact nq_ne2 (by assumption) (by assumption)) (by first | assumption | exact nq_ga (by assumption) | exact nq_gs (by first | assumption | exact nq_gs (by assumption) | exact nq_gn (by first | assumption | decide | omega | exact nq_ne1 (by assumption) (by assumption) | exact nq_ne2 (by assumption) (by assumption)) (by assumption) | exact nq_ga (by assumption)) | exact nq_gn (by first | assumption | decide | omega | exact nq_ne1 (by assumption) (by assumption) | exact nq_ne2 (by assumption) (by assumption)) (by first | assumption | exact nq_gs (by assumption) | exact nq_gn (by first | assumption | decide | omega | exact nq_ne1 (by assumption) (by assumption) | exact nq_ne2 (by assumption) (by assumption)) (by assumption) | exact nq_ga (by assumption)))) rfl ?_
      refine nq_iload (pc' := 30) d_QS_delete_28 rfl rfl ?_
      refine nq_aload_n (pc' := 31) d_QS_delete_30 rfl rfl rfl ?_
      refine nq_aload_n (pc' := 32) d_QS_delete_31 rfl rfl rfl ?_
      refine nq_iload (pc' := 34) d_QS_delete_32 rfl rfl ?_
      refine nq_callV (pc' := 37) d_QS_delete_34 rfl cl_QS_179 rfl (by first | assumption | exact nq_ga (by assumption) | exact nq_gs (by first | assumption | exact nq_ga (by assumption) | exact nq_gs (by first | assumption | exact nq_gs (by assumption) | exact nq_gn (by first | assumption | decide | omega | exact nq_ne1 (by assumption) (by assumption) | exact nq_ne2 (by assumption) (by assumption)) (by assumption) | exact nq_ga (by assumption)) | exact nq_gn (by first | assumption | decide | omega | exact nq_ne1 (by assumption) (by assumption) | exact nq_ne2 (by assumption) (by assumption)) (by first | assumption | exact nq_gs (by assumption) | exact nq_gn (by first | assumption | decide | omega | exact nq_ne1 (by assumption) (by assumption) | exact nq_ne2 (by assumption) (by assumption)) (by assumption) | exact nq_ga (by assumption))) | exact nq_gn (by first | assumption | decide | omega | exact nq_ne1 (by assumption) (by assumption) | exact nq_ne2 (by assumption) (by assumption)) (by first | assumption | exact nq_ga (by assumption) | exact nq_gs (by first | assumption | exact nq_gs (by assumption) | exact nq_gn (by first | assumption | decide | omega | exact nq_ne1 (by assumption) (by assumption) | exact nq_ne2 (by assumption) (by assumption)) (by assumption) | exact nq_ga (by assumption)) | exact nq_gn (by first | assumption | decide | omega | exact nq_ne1 (by assumption) (by assumption) | exact nq_ne2 (by assumption) (by assumption)) (by first | assumption | exact nq_gs (by assumption) | exact nq_gn (by first | assumption | decide | omega | exact nq_ne1 (by assumption) (by assumption) | exact nq_ne2 (by assumption) (by assumption)) (by assumption) | exact nq_ga (by assumption)))) rfl rfl (kc := 0) (ks := 0) (mc' := 0) (ms' := 0) (As := [.ref c, .int (nI i)]) (rest := [.int (nI i), .ref 12]) rfl rfl (Nat.le_of_ble_eq_true rfl) mt (fun E σ2 hq => ?_) (fun v σ2 hq => ?_)
      · obtain ⟨R', rfl, hq, hk3⟩ := hq
        cases hv : sx_m s.2.2.2.2.2.1 (sx_env r sx_row0 (R 6)) with
        | none =>
          rw [hv] at hq
          exact ⟨F1.tr (qs_fr.set (by unfold qs_k; omega)), hq, R', ch1, nn, es, X1'.regs⟩
        | some b =>
          rw [hv] at hq
          cases hq
      obtain ⟨R', rfl, hq, hk3⟩ := hq
      cases hv : sx_m s.2.2.2.2.2.1 (sx_env r sx_row0 (R 6)) with
      | none =>
        rw [hv] at hq
        cases hq
      | some b =>
      rw [hv] at hq hk3
      cases hq
      obtain ⟨hk4, hk5⟩ := hk3 (by simp)
      refine nq_zast (pc' := 38) d_QS_delete_37 rfl (by first | assumption | exact nq_ga (by assumption) | exact nq_gs (by first | assumption | exact nq_ga (by assumption) | exact nq_gs (by first | assumption | exact nq_gs (by assumption) | exact nq_gn (by first | assumption | decide | omega | exact nq_ne1 (by assumption) (by assumption) | exact nq_ne2 (by assumption) (by assumption)) (by assumption) | exact nq_ga (by assumption)) | exact nq_gn (by first | assumption | decide | omega | exact nq_ne1 (by assumption) (by assumption) | exact nq_ne2 (by assumption) (by assumption)) (by first | assumption | exact nq_gs (by assumption) | exact nq_gn (by first | assumption | decide | omega | exact nq_ne1 (by assumption) (by assumption) | exact nq_ne2 (by assumption) (by assumption)) (by assumption) | exact nq_ga (by assumption))) | exact nq_gn (by first | assumption | decide | omega | exact nq_ne1 (by assumption) (by assumption) | exact nq_ne2 (by assumption) (by assumption)) (by first | assumption | exact nq_ga (by assumption) | exact nq_gs (by first | assumption | exact nq_gs (by assumption) | exact nq_gn (by first | assumption | decide | omega | exact nq_ne1 (by assumption) (by assumption) | exact nq_ne2 (by assumption) (by assumption)) (by assumption) | exact nq_ga (by assumption)) | exact nq_gn (by first | assumption | decide | omega | exact nq_ne1 (by assumption) (by assumption) | exact nq_ne2 (by assumption) (by assumption)) (by first | assumption | exact nq_gs (by assumption) | exact nq_gn (by first | assumption | decide | omega | exact nq_ne1 (by assumption) (by assumption) | exact nq_ne2 (by assumption) (by assumption)) (by assumption) | exact nq_ga (by assumption)))) rfl (j := i) rfl (by omega) (by decide) ?_
      rw [vp_b]
      have X3 := (X1'.regs (R' := R')).cho (ch' := upd ch1 i (if b then 1 else 0))
      have F3 : qs_fr σ ((σ1.set 6 (.inl (0, 20, .inl R'))).set 12 (.inl (1, 20, .inl (upd ch1 i (if b then 1 else 0))))) := (F1.tr (qs_fr.set (by unfold qs_k; omega))).tr (qs_fr.set (by unfold qs_k; omega))
      generalize hσ3 : (σ1.set 6 (.inl (0, 20, .inl R'))).set 12 (.inl (1, 20, .inl (upd ch1 i (if b then 1 else 0)))) = σ3 at X3 F3 ⊢
      have z1 := X3.1
      have z12 := X3.2.2.2.2.2.2.1
      have hch3 : ∀ (o : Option Int32), (if o.isSome then (1 : Int32) else 0) = (if b then 1 else 0) → ∀ j x, (cl ++ [o])[j]? = some x → upd ch1 i (if b then 1 else 0) j = if x.isSome then 1 else 0 := by
        intro o ho j x hx
        by_cases hj : j = i
        · subst hj
          rw [upd_at]
          rw [List.getElem?_append_right (by omega), hcl, Nat.sub_self] at hx
          cases hx
          exact ho.symm
        · rw [upd_ne hj]
          have hl := (List.getElem?_eq_some_iff.mp hx).1
          simp only [List.length_append, List.length_cons, List.length_nil] at hl
          rw [List.getElem?_append_left (by omega)] at hx
          exact hch j x hx
      refine nq_aload_n (pc' := 39) d_QS_delete_38 rfl rfl rfl ?_
      refine nq_getf (pc' := 42) d_QS_delete_39 rfl fl_QS_45 (by first | assumption | exact nq_ga (by assumption) | exact nq_gs (by first | assumption | exact nq_ga (by assumption) | exact nq_gs (by first | assumption | exact nq_gs (by assumption) | exact nq_gn (by first | assumption | decide | omega | exact nq_ne1 (by assumption) (by assumption) | exact nq_ne2 (by assumption) (by assumption)) (by assumption) | exact nq_ga (by assumption)) | exact nq_gn (by first | assumption | decide | omega | exact nq_ne1 (by assumption) (by assumption) | exact nq_ne2 (by assumption) (by assumption)) (by first | assumption | exact nq_gs (by assumption) | exact nq_gn (by first | assumption | decide | omega | exact nq_ne1 (by assumption) (by assumption) | exact nq_ne2 (by assumption) (by assumption)) (by assumption) | exact nq_ga (by assumption))) | exact nq_gn (by first | assumption | decide | omega | exact nq_ne1 (by assumption) (by assumption) | exact nq_ne2 (by assumption) (by assumption)) (by first | assumption | exact nq_ga (by assumption) | exact nq_gs (by first | assumption | exact nq_gs (by assumption) | exact nq_gn (by first | assumption | decide | omega | exact nq_ne1 (by assumption) (by assumption) | exact nq_ne2 (by assumption) (by assumption)) (by assumption) | exact nq_ga (by assumption)) | exact nq_gn (by first | assumption | decide | omega | exact nq_ne1 (by assumption) (by assumption) | exact nq_ne2 (by assumption) (by assumption)) (by first | assumption | exact nq_gs (by assumption) | exact nq_gn (by first | assumption | decide | omega | exact nq_ne1 (by assumption) (by assumption) | exact nq_ne2 (by assumption) (by assumption)) (by assumption) | exact nq_ga (by assumption)))) rfl ?_
      refine nq_iload (pc' := 44) d_QS_delete_42 rfl rfl ?_
      refine nq_zald (pc' := 45) d_QS_delete_44 rfl (by first | assumption | exact nq_ga (by assumption) | exact nq_gs (by first | assumption | exact nq_ga (by assumption) | exact nq_gs (by first | assumption | exact nq_gs (by assumption) | exact nq_gn (by first | assumption | decide | omega | exact nq_ne1 (by assumption) (by assumption) | exact nq_ne2 (by assumption) (by assumption)) (by assumption) | exact nq_ga (by assumption)) | exact nq_gn (by first | assumption | decide | omega | exact nq_ne1 (by assumption) (by assumption) | exact nq_ne2 (by assumption) (by assumption)) (by first | assumption | exact nq_gs (by assumption) | exact nq_gn (by first | assumption | decide | omega | exact nq_ne1 (by assumption) (by assumption) | exact nq_ne2 (by assumption) (by assumption)) (by assumption) | exact nq_ga (by assumption))) | exact nq_gn (by first | assumption | decide | omega | exact nq_ne1 (by assumption) (by assumption) | exact nq_ne2 (by assumption) (by assumption)) (by first | assumption | exact nq_ga (by assumption) | exact nq_gs (by first | assumption | exact nq_gs (by assumption) | exact nq_gn (by first | assumption | decide | omega | exact nq_ne1 (by assumption) (by assumption) | exact nq_ne2 (by assumption) (by assumption)) (by assumption) | exact nq_ga (by assumption)) | exact nq_gn (by first | assumption | decide | omega | exact nq_ne1 (by assumption) (by assumption) | exact nq_ne2 (by assumption) (by assumption)) (by first | assumption | exact nq_gs (by assumption) | exact nq_gn (by first | assumption | decide | omega | exact nq_ne1 (by assumption) (by assumption) | exact nq_ne2 (by assumption) (by assumption)) (by assumption) | exact nq_ga (by assumption)))) rfl (j := i) rfl (by omega) (by decide) ?_
      rw [upd_at]
      cases b with
      | false =>
        refine nq_if_eq (pc' := 48) (tgt := 51) d_QS_delete_45 rfl (by decide) (fun _ => ?_) (fun h => absurd rfl h)
        refine nq_iinc (pc' := 54) d_QS_delete_51 rfl rfl (v := nI (i + 1)) (nI_1 i) (by decide) rfl ?_
        refine nq_goto (tgt := 15) d_QS_delete_54 (by decide) ?_
        have := ih (i + 1) (cl ++ [none]) σ3 R' _ (by omega) (by simp [hcl]) (hch3 none rfl) F3 hk5 X3
        rw [sx_many_app] at this
        exact this
      | true =>
        refine nq_if_eq (pc' := 48) (tgt := 51) d_QS_delete_45 rfl (by decide) (fun h => absurd h (by decide)) (fun _ => ?_)
        refine nq_iinc (pc' := 51) d_QS_delete_48 rfl rfl (v := nI (sx_many cl + 1)) (nI_1 _) (by decide) rfl ?_
        refine nq_iinc (pc' := 54) d_QS_delete_51 rfl rfl (v := nI (i + 1)) (nI_1 i) (by decide) rfl ?_
        refine nq_goto (tgt := 15) d_QS_delete_54 (by decide) ?_
        have := ih (i + 1) (cl ++ [some 0]) σ3 R' _ (by omega) (by simp [hcl]) (hch3 (some 0) rfl) F3 hk5 X3
        rw [sx_many_app] at this
        exact this
  have hX' := hX
  obtain ⟨h1, ⟨g, h2, h2'⟩, ⟨h3, h3'⟩, h4, h5, h6, h7, h8⟩ := hX
  obtain ⟨n, hc⟩ := hC.cell
  refine nq_mk' (lv := [some (.ref 0), some (.ref c), none, none, none]) (by decide +kernel) rfl (Nat.le_of_ble_eq_true rfl) rfl ?_
  refine nq_aload_n (pc' := 1) d_QS_delete_0 rfl rfl rfl ?_
  refine nq_getf (pc' := 4) d_QS_delete_1 rfl fl_QS_11 (by first | assumption | exact nq_ga (by assumption) | exact nq_gs (by first | assumption | exact nq_ga (by assumption) | exact nq_gs (by first | assumption | exact nq_gs (by assumption) | exact nq_gn (by first | assumption | decide | omega | exact nq_ne1 (by assumption) (by assumption) | exact nq_ne2 (by assumption) (by assumption)) (by assumption) | exact nq_ga (by assumption)) | exact nq_gn (by first | assumption | decide | omega | exact nq_ne1 (by assumption) (by assumption) | exact nq_ne2 (by assumption) (by assumption)) (by first | assumption | exact nq_gs (by assumption) | exact nq_gn (by first | assumption | decide | omega | exact nq_ne1 (by assumption) (by assumption) | exact nq_ne2 (by assumption) (by assumption)) (by assumption) | exact nq_ga (by assumption))) | exact nq_gn (by first | assumption | decide | omega | exact nq_ne1 (by assumption) (by assumption) | exact nq_ne2 (by assumption) (by assumption)) (by first | assumption | exact nq_ga (by assumption) | exact nq_gs (by first | assumption | exact nq_gs (by assumption) | exact nq_gn (by first | assumption | decide | omega | exact nq_ne1 (by assumption) (by assumption) | exact nq_ne2 (by assumption) (by assumption)) (by assumption) | exact nq_ga (by assumption)) | exact nq_gn (by first | assumption | decide | omega | exact nq_ne1 (by assumption) (by assumption) | exact nq_ne2 (by assumption) (by assumption)) (by first | assumption | exact nq_gs (by assumption) | exact nq_gn (by first | assumption | decide | omega | exact nq_ne1 (by assumption) (by assumption) | exact nq_ne2 (by assumption) (by assumption)) (by assumption) | exact nq_ga (by assumption)))) rfl ?_
  refine nq_aload_n (pc' := 5) d_QS_delete_4 rfl rfl rfl ?_
  refine nq_getf (pc' := 8) d_QS_delete_5 rfl fl_QS_159 (by first | assumption | exact nq_ga (by assumption) | exact nq_gs (by first | assumption | exact nq_ga (by assumption) | exact nq_gs (by first | assumption | exact nq_gs (by assumption) | exact nq_gn (by first | assumption | decide | omega | exact nq_ne1 (by assumption) (by assumption) | exact nq_ne2 (by assumption) (by assumption)) (by assumption) | exact nq_ga (by assumption)) | exact nq_gn (by first | assumption | decide | omega | exact nq_ne1 (by assumption) (by assumption) | exact nq_ne2 (by assumption) (by assumption)) (by first | assumption | exact nq_gs (by assumption) | exact nq_gn (by first | assumption | decide | omega | exact nq_ne1 (by assumption) (by assumption) | exact nq_ne2 (by assumption) (by assumption)) (by assumption) | exact nq_ga (by assumption))) | exact nq_gn (by first | assumption | decide | omega | exact nq_ne1 (by assumption) (by assumption) | exact nq_ne2 (by assumption) (by assumption)) (by first | assumption | exact nq_ga (by assumption) | exact nq_gs (by first | assumption | exact nq_gs (by assumption) | exact nq_gn (by first | assumption | decide | omega | exact nq_ne1 (by assumption) (by assumption) | exact nq_ne2 (by assumption) (by assumption)) (by assumption) | exact nq_ga (by assumption)) | exact nq_gn (by first | assumption | decide | omega | exact nq_ne1 (by assumption) (by assumption) | exact nq_ne2 (by assumption) (by assumption)) (by first | assumption | exact nq_gs (by assumption) | exact nq_gn (by first | assumption | decide | omega | exact nq_ne1 (by assumption) (by assumption) | exact nq_ne2 (by assumption) (by assumption)) (by assumption) | exact nq_ga (by assumption)))) rfl ?_
  refine nq_aaldR (pc' := 9) d_QS_delete_8 rfl (by first | assumption | exact nq_ga (by assumption) | exact nq_gs (by first | assumption | exact nq_ga (by assumption) | exact nq_gs (by first | assumption | exact nq_gs (by assumption) | exact nq_gn (by first | assumption | decide | omega | exact nq_ne1 (by assumption) (by assumption) | exact nq_ne2 (by assumption) (by assumption)) (by assumption) | exact nq_ga (by assumption)) | exact nq_gn (by first | assumption | decide | omega | exact nq_ne1 (by assumption) (by assumption) | exact nq_ne2 (by assumption) (by assumption)) (by first | assumption | exact nq_gs (by assumption) | exact nq_gn (by first | assumption | decide | omega | exact nq_ne1 (by assumption) (by assumption) | exact nq_ne2 (by assumption) (by assumption)) (by assumption) | exact nq_ga (by assumption))) | exact nq_gn (by first | assumption | decide | omega | exact nq_ne1 (by assumption) (by assumption) | exact nq_ne2 (by assumption) (by assumption)) (by first | assumption | exact nq_ga (by assumption) | exact nq_gs (by first | assumption | exact nq_gs (by assumption) | exact nq_gn (by first | assumption | decide | omega | exact nq_ne1 (by assumption) (by assumption) | exact nq_ne2 (by assumption) (by assumption)) (by assumption) | exact nq_ga (by assumption)) | exact nq_gn (by first | assumption | decide | omega | exact nq_ne1 (by assumption) (by assumption) | exact nq_ne2 (by assumption) (by assumption)) (by first | assumption | exact nq_gs (by assumption) | exact nq_gn (by first | assumption | decide | omega | exact nq_ne1 (by assumption) (by assumption) | exact nq_ne2 (by assumption) (by assumption)) (by assumption) | exact nq_ga (by assumption)))) rfl (j := s.2.1) rfl (by omega) (h2' _ ht) (by decide) ?_
  refine nq_astore_n (pc' := 10) d_QS_delete_9 rfl rfl (by decide) rfl ?_
  refine nq_iconst (v := 0) (pc' := 11) d_QS_delete_10 rfl (by decide) ?_
  refine nq_istore_n (pc' := 12) d_QS_delete_11 rfl rfl (by decide) rfl ?_
  refine nq_iconst (v := 0) (pc' := 13) d_QS_delete_12 rfl (by decide) ?_
  refine nq_istore (pc' := 15) d_QS_delete_13 rfl (by decide) rfl ?_
  have := loop1 rows.length 0 [] σ R ch (by omega) rfl (fun j x h => by simp at h) qs_fr.rf rfl hX'
  rw [List.drop_zero] at this
  exact this
end QD
