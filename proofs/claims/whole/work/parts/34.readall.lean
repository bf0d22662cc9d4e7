/-! THE READER: read -/
def rd_RQ (σ0 : nq_S) (r ta c o1 o2 o3 : Nat) (f : Nat → Int32) (N : Nat) (pl : Int32) (res : Nat ⊕ sp_St) : nq_Q := fun o σ' => match res with
  | .inl p => o = .inr nq_IA ∧ rd_no σ0 σ' r ta c o1 o2 o3 f 0 N p
  | .inr s => o = .inl none ∧ rd_fr r c o1 o2 o3 σ0 σ' ∧ ∃ at9 cols, cols < 22 ∧ rd_W σ' r ta c o1 o2 o3 f 0 N at9 pl cols (cl_L s) (cl_h s) (cl_q s)
theorem sp_head_ok {L : Nat → Nat} {N k t u i : Nat} (hL : ∀ i, L i ≠ 0 → i < N) (e : sp_head L = .inr (k, t, u, i)) : k ∈ tx 1 ∧ 2 ≤ i ∧ i ≤ N := by
  unfold sp_head at e
  split at e
  · rename_i k1
    split at e
    · rename_i k2
      have z1 := hL 1 (tx_n0 k2)
      split at e
      · split at e
        · rename_i k4
          have z2 := hL 2 (tx_n0 k4)
          cases e
          exact ⟨k1, by omega, by omega⟩
        · cases e
      · cases e
        exact ⟨k1, by omega, by omega⟩
    · cases e
  · cases e
section RX
variable {G : nq_G} {d : Nat} {σ : nq_S} {r ta c o1 o2 o3 N i cols q : Nat} {f : Nat → Int32} {L : Nat → Nat} {len pl : Int32} {Lc C : List nq_In} {h : List Value} {v1 v2 v3 v4 v5 v6 v7 v8 : Value}
theorem rd_TQ.fin {k t u fn j : Nat} {vs : List (List nq_In)} {o : Option Value ⊕ String} {σ' : nq_S} (hs : sp_vals L k cols i = .inr (vs, fn, j)) (hq : rd_TQ σ r ta c o1 o2 o3 f 0 N pl (vs.flatten ++ [(11, 0, 0)]) (.int (nI k)) (.int (nI t)) (.int (rd_u u)) (.int (if k = 85 then nI fn else 0)) (.int (if k = 65 ∨ k = 66 then nI fn else 0)) (.int (if k = 83 ∨ k = 80 then nI vs.length else 0)) (sp_q vs.flatten) (sp_tail L N k cols j) o σ') : rd_RQ σ r ta c o1 o2 o3 f N pl (sp_body L N k t u cols i) o σ' := by
  rw [sp_body_tail, hs]
  simp only
  cases hx : sp_tail L N k cols j with
  | inl p =>
    rw [hx] at hq
    exact hq
  | inr w =>
    obtain ⟨cs, od⟩ := w
    rw [hx] at hq
    obtain ⟨e1, f1, at9, cols', hc, hw⟩ := hq
    refine ⟨e1, f1, at9, cols', hc, ?_⟩
    have e2 : cl_L (k, t, u, vs, fn, cs, od) = rd_cl (vs.flatten ++ [(11, 0, 0)]) cs := by
      unfold cl_L rd_cl
      simp only [List.length_append, List.length_cons, List.length_nil]
    have e3 : cl_q (k, t, u, vs, fn, cs, od) = sp_q vs.flatten + sp_cq cs := by
      unfold cl_q sp_cq
      rw [sp_q_app]
    rw [e2, e3]
    exact hw
theorem rd_start {A : nq_C} {cols0 : Nat} (hr : ∃ x, σ[r]? = some x) (n1 : r ≠ ta) (n2 : r ≠ c) (n3' : r ≠ o1) (n4' : r ≠ o2) (n5 : r ≠ o3) (m1 : c ≠ ta) (hta : σ[ta]? = some (.inl (2, 48, .inl f))) (hC : ∃ Lc0 H0, cd_C σ c o1 o2 o3 Lc0 H0) : rd_W (((σ.set r A).set c (.inr (0, [.ref o1, .ref o2, .ref o3, .int 0, .int 0, .int 0, .int (-1), .int 0, .int 0, .int 0, .int (-1), .int (-1), .int 0]))).set r (rd_F ta 0 N 0 pl c cols0)) r ta c o1 o2 o3 f 0 N 0 pl cols0 [] [.int 0, .int 0, .int (-1), .int 0, .int 0, .int 0, .int (-1), .int (-1)] 0 := by
  obtain ⟨x, hr⟩ := hr
  obtain ⟨Lc0, H0, fo, fr, fa, ⟨h1, h2, h3, h4, h5, h6, h7⟩, h8, h9⟩ := hC
  have g1 : c ≠ o1 := nq_ne1 h1 h2
  have g2 : c ≠ o2 := nq_ne1 h1 h3
  have g3 : c ≠ o3 := nq_ne1 h1 h4
  refine ⟨nq_gs (nq_gn n2 (nq_gs hr)), nq_gn (Ne.symm n1) (nq_gn (Ne.symm m1) (nq_gn (Ne.symm n1) hta)), fo, fr, fa, ⟨nq_gn (Ne.symm n2) (nq_gs (nq_gn (Ne.symm n2) h1)), nq_gn (Ne.symm n3') (nq_gn (Ne.symm g1) (nq_gn (Ne.symm n3') h2)), nq_gn (Ne.symm n4') (nq_gn (Ne.symm g2) (nq_gn (Ne.symm n4') h3)), nq_gn (Ne.symm n5) (nq_gn (Ne.symm g3) (nq_gn (Ne.symm n5) h4)), h5, h6, h7⟩, fun i x hx => (by cases hx), by decide⟩
theorem k_Reader_read {e0 a0 : Int32} {cv : Value} {cols0 : Nat} {Lc0 : List nq_In} {H0 : List Value} (hD : 22 ≤ d) (hL : rd_L f L N) (hr : σ[r]? = some (.inr (3, [.ref ta, .int (nI N), .int e0, .int a0, .int pl, cv, .ref (1000000 + cols0)]))) (hta : σ[ta]? = some (.inl (2, 48, .inl f))) (hC : cd_C σ c o1 o2 o3 Lc0 H0) (hH : H0.length = 9) (hc0 : cols0 < 22) : nq_JM G d 0 0 m_Reader_read [.ref r, .ref c] σ (rd_RQ σ r ta c o1 o2 o3 f N pl (sp_stmt L N)) := by
  obtain ⟨d, rfl⟩ : ∃ d', d = d' + 1 := ⟨d - 1, by omega⟩
  have hN := hL.1
  have hC' := hC
  obtain ⟨fo, fr, fa, ⟨h1, h2, h3, h4, h5, h6, h7⟩, h8, h9⟩ := hC
  match H0, hH with
  | [g0, g1, g2, g3, g4, g5, g6, g7, g8], _ =>
  have n1 : r ≠ ta := nq_nc hr hta (by simp)
  have n2 : r ≠ c := nq_nc hr h1 (by simp)
  have n3' : r ≠ o1 := nq_nc hr h2 (by simp)
  have n4' : r ≠ o2 := nq_nc hr h3 (by simp)
  have n5 : r ≠ o3 := nq_nc hr h4 (by simp)
  have m1 : c ≠ ta := nq_nc h1 hta (by simp)
  have n2' := Ne.symm n2
  refine nq_mk' (lv := [some (.ref r), some (.ref c)]) (by decide +kernel) rfl (Nat.le_of_ble_eq_true rfl) rfl ?_
  refine nq_aload_n (pc' := 1) d_Reader_read_0 rfl rfl rfl ?_
  refine nq_aload_n (pc' := 2) d_Reader_read_1 rfl rfl rfl ?_
  refine nq_putf (pc' := 5) d_Reader_read_2 rfl fl_Reader_42 (by first | assumption | exact nq_ga (by assumption) | exact nq_gs (by first | assumption | exact nq_ga (by assumption) | exact nq_gs (by first | assumption | exact nq_gs (by assumption) | exact nq_gn (by first | assumption | decide | omega | exact nq_ne1 (by assumption) (by assumption) | exact nq_ne2 (by assumption) (by assumption)) (by assumption) | exact nq_ga (by assumption)) | exact nq_gn (by first | assumption | decide | omega | exact nq_ne1 (by assumption) (by assumption) | exact nq_ne2 (by assumption) (by assumption)) (by first | assumption | exact nq_gs (by assumption) | exact nq_gn (by first | assumption | decide | omega | exact nq_ne1 (by assumption) (by assumption) | exact nq_ne2 (by assumption) (by assumption)) (by assumption) | exact nq_ga (by assumption))) | exact nq_gn (by first | assumption | decide | omega | exact nq_ne1 (by assumption) (by assumption) | exact nq_ne2 (by assumption) (by assumption)) (by first | assumption | exact nq_ga (by assumption) | exact nq_gs (by first | assumption | exact nq_gs (by assumption) | exact nq_gn (by first | assumption | decide | omega | exact nq_ne1 (by assumption) (by assumption) | exact nq_ne2 (by assumption) (by assumption)) (by assumption) | exact nq_ga (by assumption)) | exact nq_gn (by first | assumption | decide | omega | exact nq_ne1 (by assumption) (by assumption) | exact nq_ne2 (by assumption) (by assumption)) (by first | assumption | exact nq_gs (by assumption) | exact nq_gn (by first | assumption | decide | omega | exact nq_ne1 (by assumption) (by assumption) | exact nq_ne2 (by assumption) (by assumption)) (by assumption) | exact nq_ga (by assumption)))) (Nat.le_of_ble_eq_true rfl) rfl rfl ?_
  refine nq_aload_n (pc' := 6) d_Reader_read_5 rfl rfl rfl ?_
  refine nq_getf (pc' := 9) d_Reader_read_6 rfl fl_Reader_42 (by first | assumption | exact nq_ga (by assumption) | exact nq_gs (by first | assumption | exact nq_ga (by assumption) | exact nq_gs (by first | assumption | exact nq_gs (by assumption) | exact nq_gn (by first | assumption | decide | omega | exact nq_ne1 (by assumption) (by assumption) | exact nq_ne2 (by assumption) (by assumption)) (by assumption) | exact nq_ga (by assumption)) | exact nq_gn (by first | assumption | decide | omega | exact nq_ne1 (by assumption) (by assumption) | exact nq_ne2 (by assumption) (by assumption)) (by first | assumption | exact nq_gs (by assumption) | exact nq_gn (by first | assumption | decide | omega | exact nq_ne1 (by assumption) (by assumption) | exact nq_ne2 (by assumption) (by assumption)) (by assumption) | exact nq_ga (by assumption))) | exact nq_gn (by first | assumption | decide | omega | exact nq_ne1 (by assumption) (by assumption) | exact nq_ne2 (by assumption) (by assumption)) (by first | assumption | exact nq_ga (by assumption) | exact nq_gs (by first | assumption | exact nq_gs (by assumption) | exact nq_gn (by first | assumption | decide | omega | exact nq_ne1 (by assumption) (by assumption) | exact nq_ne2 (by assumption) (by assumption)) (by assumption) | exact nq_ga (by assumption)) | exact nq_gn (by first | assumption | decide | omega | exact nq_ne1 (by assumption) (by assumption) | exact nq_ne2 (by assumption) (by assumption)) (by first | assumption | exact nq_gs (by assumption) | exact nq_gn (by first | assumption | decide | omega | exact nq_ne1 (by assumption) (by assumption) | exact nq_ne2 (by assumption) (by assumption)) (by assumption) | exact nq_ga (by assumption)))) rfl ?_
  refine nq_callVR (pc' := 12) d_Reader_read_9 rfl cl_Reader_46 rfl (by first | assumption | exact nq_ga (by assumption) | exact nq_gs (by first | assumption | exact nq_ga (by assumption) | exact nq_gs (by first | assumption | exact nq_gs (by assumption) | exact nq_gn (by first | assumption | decide | omega | exact nq_ne1 (by assumption) (by assumption) | exact nq_ne2 (by assumption) (by assumption)) (by assumption) | exact nq_ga (by assumption)) | exact nq_gn (by first | assumption | decide | omega | exact nq_ne1 (by assumption) (by assumption) | exact nq_ne2 (by assumption) (by assumption)) (by first | assumption | exact nq_gs (by assumption) | exact nq_gn (by first | assumption | decide | omega | exact nq_ne1 (by assumption) (by assumption) | exact nq_ne2 (by assumption) (by assumption)) (by assumption) | exact nq_ga (by assumption))) | exact nq_gn (by first | assumption | decide | omega | exact nq_ne1 (by assumption) (by assumption) | exact nq_ne2 (by assumption) (by assumption)) (by first | assumption | exact nq_ga (by assumption) | exact nq_gs (by first | assumption | exact nq_gs (by assumption) | exact nq_gn (by first | assumption | decide | omega | exact nq_ne1 (by assumption) (by assumption) | exact nq_ne2 (by assumption) (by assumption)) (by assumption) | exact nq_ga (by assumption)) | exact nq_gn (by first | assumption | decide | omega | exact nq_ne1 (by assumption) (by assumption) | exact nq_ne2 (by assumption) (by assumption)) (by first | assumption | exact nq_gs (by assumption) | exact nq_gn (by first | assumption | decide | omega | exact nq_ne1 (by assumption) (by assumption) | exact nq_ne2 (by assumption) (by assumption)) (by assumption) | exact nq_ga (by assumption)))) rfl rfl (kc := 0) (ks := 0) (mc' := 0) (ms' := 0) (As := []) (rest := []) rfl rfl (Nat.le_of_ble_eq_true rfl) (k_Code_clear (nq_gn (Ne.symm n2) h1)) ?_
  refine nq_aload_n (pc' := 13) d_Reader_read_12 rfl rfl rfl ?_
  refine nq_iconst (v := 0) (pc' := 14) d_Reader_read_13 rfl (by decide) ?_
  refine nq_putf (pc' := 17) d_Reader_read_14 rfl fl_Reader_51 (by first | assumption | exact nq_ga (by assumption) | exact nq_gs (by first | assumption | exact nq_ga (by assumption) | exact nq_gs (by first | assumption | exact nq_gs (by assumption) | exact nq_gn (by first | assumption | decide | omega | exact nq_ne1 (by assumption) (by assumption) | exact nq_ne2 (by assumption) (by assumption)) (by assumption) | exact nq_ga (by assumption)) | exact nq_gn (by first | assumption | decide | omega | exact nq_ne1 (by assumption) (by assumption) | exact nq_ne2 (by assumption) (by assumption)) (by first | assumption | exact nq_gs (by assumption) | exact nq_gn (by first | assumption | decide | omega | exact nq_ne1 (by assumption) (by assumption) | exact nq_ne2 (by assumption) (by assumption)) (by assumption) | exact nq_ga (by assumption))) | exact nq_gn (by first | assumption | decide | omega | exact nq_ne1 (by assumption) (by assumption) | exact nq_ne2 (by assumption) (by assumption)) (by first | assumption | exact nq_ga (by assumption) | exact nq_gs (by first | assumption | exact nq_gs (by assumption) | exact nq_gn (by first | assumption | decide | omega | exact nq_ne1 (by assumption) (by assumption) | exact nq_ne2 (by assumption) (by assumption)) (by assumption) | exact nq_ga (by assumption)) | exact nq_gn (by first | assumption | decide | omega | exact nq_ne1 (by assumption) (by assumption) | exact nq_ne2 (by assumption) (by assumption)) (by first | assumption | exact nq_gs (by assumption) | exact nq_gn (by first | assumption | decide | omega | exact nq_ne1 (by assumption) (by assumption) | exact nq_ne2 (by assumption) (by assumption)) (by assumption) | exact nq_ga (by assumption)))) (Nat.le_of_ble_eq_true rfl) rfl rfl ?_
  try rw [nq_ss]
  refine nq_aload_n (pc' := 18) d_Reader_read_17 rfl rfl rfl ?_
  refine nq_aload_n (pc' := 19) d_Reader_read_18 rfl rfl rfl ?_
  refine nq_getf (pc' := 22) d_Reader_read_19 rfl fl_Reader_25 (by first | assumption | exact nq_ga (by assumption) | exact nq_gs (by first | assumption | exact nq_ga (by assumption) | exact nq_gs (by first | assumption | exact nq_gs (by assumption) | exact nq_gn (by first | assumption | decide | omega | exact nq_ne1 (by assumption) (by assumption) | exact nq_ne2 (by assumption) (by assumption)) (by assumption) | exact nq_ga (by assumption)) | exact nq_gn (by first | assumption | decide | omega | exact nq_ne1 (by assumption) (by assumption) | exact nq_ne2 (by assumption) (by assumption)) (by first | assumption | exact nq_gs (by assumption) | exact nq_gn (by first | assumption | decide | omega | exact nq_ne1 (by assumption) (by assumption) | exact nq_ne2 (by assumption) (by assumption)) (by assumption) | exact nq_ga (by assumption))) | exact nq_gn (by first | assumption | decide | omega | exact nq_ne1 (by assumption) (by assumption) | exact nq_ne2 (by assumption) (by assumption)) (by first | assumption | exact nq_ga (by assumption) | exact nq_gs (by first | assumption | exact nq_gs (by assumption) | exact nq_gn (by first | assumption | decide | omega | exact nq_ne1 (by assumption) (by assumption) | exact nq_ne2 (by assumption) (by assumption)) (by assumption) | exact nq_ga (by assumption)) | exact nq_gn (by first | assumption | decide | omega | exact nq_ne1 (by assumption) (by assumption) | exact nq_ne2 (by assumption) (by assumption)) (by first | assumption | exact nq_gs (by assumption) | exact nq_gn (by first | assumption | decide | omega | exact nq_ne1 (by assumption) (by assumption) | exact nq_ne2 (by assumption) (by assumption)) (by assumption) | exact nq_ga (by assumption)))) rfl ?_
  refine nq_putf (pc' := 25) d_Reader_read_22 rfl fl_Reader_54 (by first | assumption | exact nq_ga (by assumption) | exact nq_gs (by first | assumption | exact nq_ga (by assumption) | exact nq_gs (by first | assumption | exact nq_gs (by assumption) | exact nq_gn (by first | assumption | decide | omega | exact nq_ne1 (by assumption) (by assumption) | exact nq_ne2 (by assumption) (by assumption)) (by assumption) | exact nq_ga (by assumption)) | exact nq_gn (by first | assumption | decide | omega | exact nq_ne1 (by assumption) (by assumption) | exact nq_ne2 (by assumption) (by assumption)) (by first | assumption | exact nq_gs (by assumption) | exact nq_gn (by first | assumption | decide | omega | exact nq_ne1 (by assumption) (by assumption) | exact nq_ne2 (by assumption) (by assumption)) (by assumption) | exact nq_ga (by assumption))) | exact nq_gn (by first | assumption | decide | omega | exact nq_ne1 (by assumption) (by assumption) | exact nq_ne2 (by assumption) (by assumption)) (by first | assumption | exact nq_ga (by assumption) | exact nq_gs (by first | assumption | exact nq_gs (by assumption) | exact nq_gn (by first | assumption | decide | omega | exact nq_ne1 (by assumption) (by assumption) | exact nq_ne2 (by assumption) (by assumption)) (by assumption) | exact nq_ga (by assumption)) | exact nq_gn (by first | assumption | decide | omega | exact nq_ne1 (by assumption) (by assumption) | exact nq_ne2 (by assumption) (by assumption)) (by first | assumption | exact nq_gs (by assumption) | exact nq_gn (by first | assumption | decide | omega | exact nq_ne1 (by assumption) (by assumption) | exact nq_ne2 (by assumption) (by assumption)) (by assumption) | exact nq_ga (by assumption)))) (Nat.le_of_ble_eq_true rfl) rfl rfl ?_
  try rw [nq_ss]
  refine nq_aload_n (pc' := 26) d_Reader_read_25 rfl rfl rfl ?_
  refine nq_iconst (v := 0) (pc' := 27) d_Reader_read_26 rfl (by decide) ?_
  refine nq_putf (pc' := 30) d_Reader_read_27 rfl fl_Reader_25 (by first | assumption | exact nq_ga (by assumption) | exact nq_gs (by first | assumption | exact nq_ga (by assumption) | exact nq_gs (by first | assumption | exact nq_gs (by assumption) | exact nq_gn (by first | assumption | decide | omega | exact nq_ne1 (by assumption) (by assumption) | exact nq_ne2 (by assumption) (by assumption)) (by assumption) | exact nq_ga (by assumption)) | exact nq_gn (by first | assumption | decide | omega | exact nq_ne1 (by assumption) (by assumption) | exact nq_ne2 (by assumption) (by assumption)) (by first | assumption | exact nq_gs (by assumption) | exact nq_gn (by first | assumption | decide | omega | exact nq_ne1 (by assumption) (by assumption) | exact nq_ne2 (by assumption) (by assumption)) (by assumption) | exact nq_ga (by assumption))) | exact nq_gn (by first | assumption | decide | omega | exact nq_ne1 (by assumption) (by assumption) | exact nq_ne2 (by assumption) (by assumption)) (by first | assumption | exact nq_ga (by assumption) | exact nq_gs (by first | assumption | exact nq_gs (by assumption) | exact nq_gn (by first | assumption | decide | omega | exact nq_ne1 (by assumption) (by assumption) | exact nq_ne2 (by assumption) (by assumption)) (by assumption) | exact nq_ga (by assumption)) | exact nq_gn (by first | assumption | decide | omega | exact nq_ne1 (by assumption) (by assumption) | exact nq_ne2 (by assumption) (by assumption)) (by first | assumption | exact nq_gs (by assumption) | exact nq_gn (by first | assumption | decide | omega | exact nq_ne1 (by assumption) (by assumption) | exact nq_ne2 (by assumption) (by assumption)) (by assumption) | exact nq_ga (by assumption)))) (Nat.le_of_ble_eq_true rfl) rfl rfl ?_
  try rw [nq_ss]
  refine rd_gen (P := fun w => nq_J _ _ _ _ _ _ _ _ w _) (rd_start (N := N) (pl := pl) (cols0 := cols0) ⟨_, hr⟩ n1 n2 n3' n4' n5 m1 hta ⟨_, _, hC'⟩) ((rd_fr.sr.tr rd_fr.sc).tr rd_fr.sr) (fun σ0 W0 F0 => ?_)
  have x1 := W0.1
  refine nq_aload_n (pc' := 31) d_Reader_read_30 rfl rfl rfl ?_
  refine nq_callV (pc' := 34) d_Reader_read_31 rfl cl_Reader_57 rfl (by first | assumption | exact nq_ga (by assumption) | exact nq_gs (by first | assumption | exact nq_ga (by assumption) | exact nq_gs (by first | assumption | exact nq_gs (by assumption) | exact nq_gn (by first | assumption | decide | omega | exact nq_ne1 (by assumption) (by assumption) | exact nq_ne2 (by assumption) (by assumption)) (by assumption) | exact nq_ga (by assumption)) | exact nq_gn (by first | assumption | decide | omega | exact nq_ne1 (by assumption) (by assumption) | exact nq_ne2 (by assumption) (by assumption)) (by first | assumption | exact nq_gs (by assumption) | exact nq_gn (by first | assumption | decide | omega | exact nq_ne1 (by assumption) (by assumption) | exact nq_ne2 (by assumption) (by assumption)) (by assumption) | exact nq_ga (by assumption))) | exact nq_gn (by first | assumption | decide | omega | exact nq_ne1 (by assumption) (by assumption) | exact nq_ne2 (by assumption) (by assumption)) (by first | assumption | exact nq_ga (by assumption) | exact nq_gs (by first | assumption | exact nq_gs (by assumption) | exact nq_gn (by first | assumption | decide | omega | exact nq_ne1 (by assumption) (by assumption) | exact nq_ne2 (by assumption) (by assumption)) (by assumption) | exact nq_ga (by assumption)) | exact nq_gn (by first | assumption | decide | omega | exact nq_ne1 (by assumption) (by assumption) | exact nq_ne2 (by assumption) (by assumption)) (by first | assumption | exact nq_gs (by assumption) | exact nq_gn (by first | assumption | decide | omega | exact nq_ne1 (by assumption) (by assumption) | exact nq_ne2 (by assumption) (by assumption)) (by assumption) | exact nq_ga (by assumption)))) rfl rfl (kc := 0) (ks := 0) (mc' := 0) (ms' := 0) (As := []) (rest := []) rfl rfl (Nat.le_of_ble_eq_true rfl) (k_Reader_readHead (by omega) hL W0 hc0) (fun E σ1 hq => ?_) (fun v σ1 hq => ?_)
  · rw [sp_stmt_head]
    cases hx : sp_head L with
    | inl p =>
      rw [hx] at hq
      exact ⟨hq.1, hq.2.fr F0⟩
    | inr w =>
      rw [hx] at hq
      cases hq.1
  rw [sp_stmt_head]
  cases hx : sp_head L with
  | inl p =>
    rw [hx] at hq
    cases hq.1
  | inr w =>
  obtain ⟨k, t, u, i⟩ := w
  rw [hx] at hq
  obtain ⟨e1, f1, W1⟩ := hq
  cases e1
  have F1 := F0.tr f1
  obtain ⟨hk, hi2, hiN⟩ := sp_head_ok hL.lt hx
  have hc := sp_cols_ok k
  have y1 := W1.1
  have y3 := W1.cell
  simp only [List.cons_append, List.nil_append] at y3
  simp only
  refine nq_aload_n (pc' := 35) d_Reader_read_34 rfl rfl rfl ?_
  refine nq_getf (pc' := 38) d_Reader_read_35 rfl fl_Reader_42 (by first | assumption | exact nq_ga (by assumption) | exact nq_gs (by first | assumption | exact nq_ga (by assumption) | exact nq_gs (by first | assumption | exact nq_gs (by assumption) | exact nq_gn (by first | assumption | decide | omega | exact nq_ne1 (by assumption) (by assumption) | exact nq_ne2 (by assumption) (by assumption)) (by assumption) | exact nq_ga (by assumption)) | exact nq_gn (by first | assumption | decide | omega | exact nq_ne1 (by assumption) (by assumption) | exact nq_ne2 (by assumption) (by assumption)) (by first | assumption | exact nq_gs (by assumption) | exact nq_gn (by first | assumption | decide | omega | exact nq_ne1 (by assumption) (by assumption) | exact nq_ne2 (by assumption) (by assumption)) (by assumption) | exact nq_ga (by assumption))) | exact nq_gn (by first | assumption | decide | omega | exact nq_ne1 (by assumption) (by assumption) | exact nq_ne2 (by assumption) (by assumption)) (by first | assumption | exact nq_ga (by assumption) | exact nq_gs (by first | assumption | exact nq_gs (by assumption) | exact nq_gn (by first | assumption | decide | omega | exact nq_ne1 (by assumption) (by assumption) | exact nq_ne2 (by assumption) (by assumption)) (by assumption) | exact nq_ga (by assumption)) | exact nq_gn (by first | assumption | decide | omega | exact nq_ne1 (by assumption) (by assumption) | exact nq_ne2 (by assumption) (by assumption)) (by first | assumption | exact nq_gs (by assumption) | exact nq_gn (by first | assumption | decide | omega | exact nq_ne1 (by assumption) (by assumption) | exact nq_ne2 (by assumption) (by assumption)) (by assumption) | exact nq_ga (by assumption)))) rfl ?_
  refine nq_getf (pc' := 41) d_Reader_read_38 rfl fl_Reader_60 (by first | assumption | exact nq_ga (by assumption) | exact nq_gs (by first | assumption | exact nq_ga (by assumption) | exact nq_gs (by first | assumption | exact nq_gs (by assumption) | exact nq_gn (by first | assumption | decide | omega | exact nq_ne1 (by assumption) (by assumption) | exact nq_ne2 (by assumption) (by assumption)) (by assumption) | exact nq_ga (by assumption)) | exact nq_gn (by first | assumption | decide | omega | exact nq_ne1 (by assumption) (by assumption) | exact nq_ne2 (by assumption) (by assumption)) (by first | assumption | exact nq_gs (by assumption) | exact nq_gn (by first | assumption | decide | omega | exact nq_ne1 (by assumption) (by assumption) | exact nq_ne2 (by assumption) (by assumption)) (by assumption) | exact nq_ga (by assumption))) | exact nq_gn (by first | assumption | decide | omega | exact nq_ne1 (by assumption) (by assumption) | exact nq_ne2 (by assumption) (by assumption)) (by first | assumption | exact nq_ga (by assumption) | exact nq_gs (by first | assumption | exact nq_gs (by assumption) | exact nq_gn (by first | assumption | decide | omega | exact nq_ne1 (by assumption) (by assumption) | exact nq_ne2 (by assumption) (by assumption)) (by assumption) | exact nq_ga (by assumption)) | exact nq_gn (by first | assumption | decide | omega | exact nq_ne1 (by assumption) (by assumption) | exact nq_ne2 (by assumption) (by assumption)) (by first | assumption | exact nq_gs (by assumption) | exact nq_gn (by first | assumption | decide | omega | exact nq_ne1 (by assumption) (by assumption) | exact nq_ne2 (by assumption) (by assumption)) (by assumption) | exact nq_ga (by assumption)))) rfl ?_
  have fin : ∀ (vs : List (List nq_In)) (fn j : Nat) (σ2 : nq_S), sp_vals L k (sp_cols k) i = .inr (vs, fn, j) → rd_fr r c o1 o2 o3 σ σ2 → rd_W σ2 r ta c o1 o2 o3 f 0 N j pl (sp_cols k) ([] ++ vs.flatten) [.int (nI k), .int (nI t), .int (rd_u u), .int (if k = 85 then nI fn else 0), .int (if k = 65 ∨ k = 66 then nI fn else 0), .int (if k = 83 ∨ k = 80 then nI vs.length else 0), .int (-1), .int (-1)] (0 + sp_q vs.flatten) → nq_J G (d + 1) 0 0 m_Reader_read 120 [some (.ref r), some (.ref c)] [] σ2 (rd_RQ σ r ta c o1 o2 o3 f N pl (sp_body L N k t u (sp_cols k) i)) := by
    intro vs fn j σ2 hs F2 W2
    obtain ⟨a1, a2, a3, a4, a5⟩ := sp_vals_ok hL.lt hc hiN hs
    rw [List.nil_append, Nat.zero_add] at W2
    refine nq_J.mono (rd_tail (by omega) hL (by have : ∀ c ∈ tx 1, c < 128 := by decide
                                                exact this k hk) hc a5 (by omega) (fun x hx => by have := sp_wv_op a2 x hx; omega) F2 W2) (fun o σ' hq => ?_)
    exact hq.fin hs
  have hk7 : k = 73 ∨ k = 68 ∨ k = 85 ∨ k = 83 ∨ k = 80 ∨ k = 65 ∨ k = 66 := by
    have : ∀ k ∈ tx 1, k = 73 ∨ k = 68 ∨ k = 85 ∨ k = 83 ∨ k = 80 ∨ k = 65 ∨ k = 66 := by decide
    exact this k hk
  have hli : ([] : List nq_In).length ≤ i := Nat.zero_le _
  rcases hk7 with rfl | rfl | rfl | rfl | rfl | rfl | rfl
  · refine nq_lookup (off := 51) (tgt := 92) d_Reader_read_41 (by decide) (by decide) (by decide) ?_
    refine nq_aload_n (pc' := 93) d_Reader_read_92 rfl rfl rfl ?_
    refine nq_callV (pc' := 96) d_Reader_read_93 rfl cl_Reader_63 rfl (by first | assumption | exact nq_ga (by assumption) | exact nq_gs (by first | assumption | exact nq_ga (by assumption) | exact nq_gs (by first | assumption | exact nq_gs (by assumption) | exact nq_gn (by first | assumption | decide | omega | exact nq_ne1 (by assumption) (by assumption) | exact nq_ne2 (by assumption) (by assumption)) (by assumption) | exact nq_ga (by assumption)) | exact nq_gn (by first | assumption | decide | omega | exact nq_ne1 (by assumption) (by assumption) | exact nq_ne2 (by assumption) (by assumption)) (by first | assumption | exact nq_gs (by assumption) | exact nq_gn (by first | assumption | decide | omega | exact nq_ne1 (by assumption) (by assumption) | exact nq_ne2 (by assumption) (by assumption)) (by assumption) | exact nq_ga (by assumption))) | exact nq_gn (by first | assumption | decide | omega | exact nq_ne1 (by assumption) (by assumption) | exact nq_ne2 (by assumption) (by assumption)) (by first | assumption | exact nq_ga (by assumption) | exact nq_gs (by first | assumption | exact nq_gs (by assumption) | exact nq_gn (by first | assumption | decide | omega | exact nq_ne1 (by assumption) (by assumption) | exact nq_ne2 (by assumption) (by assumption)) (by assumption) | exact nq_ga (by assumption)) | exact nq_gn (by first | assumption | decide | omega | exact nq_ne1 (by assumption) (by assumption) | exact nq_ne2 (by assumption) (by assumption)) (by first | assumption | exact nq_gs (by assumption) | exact nq_gn (by first | assumption | decide | omega | exact nq_ne1 (by assumption) (by assumption) | exact nq_ne2 (by assumption) (by assumption)) (by assumption) | exact nq_ga (by assumption)))) rfl rfl (kc := 0) (ks := 0) (mc' := 0) (ms' := 0) (As := []) (rest := []) rfl rfl (Nat.le_of_ble_eq_true rfl) (k_Reader_readNewRow (by omega) rfl hL hc W1 hiN hli) (fun E σ2 hq => ?_) (fun v σ2 hq => ?_)
    · rw [sp_body_tail]
      cases hx : sp_vals L 73 (sp_cols 73) i with
      | inl p =>
        rw [hx] at hq
        exact ⟨hq.1, hq.2.fr F1⟩
      | inr w =>
        rw [hx] at hq
        cases hq.1
    · cases hx : sp_vals L 73 (sp_cols 73) i with
      | inl p =>
        rw [hx] at hq
        cases hq.1
      | inr w =>
        obtain ⟨vs, fn, j⟩ := w
        rw [hx] at hq
        obtain ⟨e1, f2, W2⟩ := hq
        cases e1
        refine nq_goto (tgt := 120) d_Reader_read_96 (by decide) ?_
        exact fin vs fn j σ2 hx (F1.tr f2) W2
  · refine nq_lookup (off := 58) (tgt := 99) d_Reader_read_41 (by decide) (by decide) (by decide) ?_
    refine nq_goto (tgt := 120) d_Reader_read_99 (by decide) ?_
    exact fin [] 0 i σ1 rfl F1 W1
  · refine nq_lookup (off := 61) (tgt := 102) d_Reader_read_41 (by decide) (by decide) (by decide) ?_
    refine nq_aload_n (pc' := 103) d_Reader_read_102 rfl rfl rfl ?_
    refine nq_callV (pc' := 106) d_Reader_read_103 rfl cl_Reader_66 rfl (by first | assumption | exact nq_ga (by assumption) | exact nq_gs (by first | assumption | exact nq_ga (by assumption) | exact nq_gs (by first | assumption | exact nq_gs (by assumption) | exact nq_gn (by first | assumption | decide | omega | exact nq_ne1 (by assumption) (by assumption) | exact nq_ne2 (by assumption) (by assumption)) (by assumption) | exact nq_ga (by assumption)) | exact nq_gn (by first | assumption | decide | omega | exact nq_ne1 (by assumption) (by assumption) | exact nq_ne2 (by assumption) (by assumption)) (by first | assumption | exact nq_gs (by assumption) | exact nq_gn (by first | assumption | decide | omega | exact nq_ne1 (by assumption) (by assumption) | exact nq_ne2 (by assumption) (by assumption)) (by assumption) | exact nq_ga (by assumption))) | exact nq_gn (by first | assumption | decide | omega | exact nq_ne1 (by assumption) (by assumption) | exact nq_ne2 (by assumption) (by assumption)) (by first | assumption | exact nq_ga (by assumption) | exact nq_gs (by first | assumption | exact nq_gs (by assumption) | exact nq_gn (by first | assumption | decide | omega | exact nq_ne1 (by assumption) (by assumption) | exact nq_ne2 (by assumption) (by assumption)) (by assumption) | exact nq_ga (by assumption)) | exact nq_gn (by first | assumption | decide | omega | exact nq_ne1 (by assumption) (by assumption) | exact nq_ne2 (by assumption) (by assumption)) (by first | assumption | exact nq_gs (by assumption) | exact nq_gn (by first | assumption | decide | omega | exact nq_ne1 (by assumption) (by assumption) | exact nq_ne2 (by assumption) (by assumption)) (by assumption) | exact nq_ga (by assumption)))) rfl rfl (kc := 0) (ks := 0) (mc' := 0) (ms' := 0) (As := []) (rest := []) rfl rfl (Nat.le_of_ble_eq_true rfl) (k_Reader_readChange (by omega) hL hc W1 hiN hli) (fun E σ2 hq => ?_) (fun v σ2 hq => ?_)
    · rw [sp_body_tail]
      cases hx : sp_vals L 85 (sp_cols 85) i with
      | inl p =>
        rw [hx] at hq
        exact ⟨hq.1, hq.2.fr F1⟩
      | inr w =>
        rw [hx] at hq
        cases hq.1
    · cases hx : sp_vals L 85 (sp_cols 85) i with
      | inl p =>
        rw [hx] at hq
        cases hq.1
      | inr w =>
        obtain ⟨vs, fn, j⟩ := w
        rw [hx] at hq
        obtain ⟨e1, f2, W2⟩ := hq
        cases e1
        refine nq_goto (tgt := 120) d_Reader_read_106 (by decide) ?_
        exact fin vs fn j σ2 hx (F1.tr f2) W2
  · refine nq_lookup (off := 75) (tgt := 116) d_Reader_read_41 (by decide) (by decide) (by decide) ?_
    refine nq_aload_n (pc' := 117) d_Reader_read_116 rfl rfl rfl ?_
    have hv : sp_vals L 83 (sp_cols 83) i = (match sp_list L (sp_cols 83) 3 [] i with
      | .inl p => .inl p
      | .inr (vs, j) => .inr (vs, 0, j)) := by
      unfold sp_vals
      rw [if_neg (by decide), if_neg (by decide), if_neg (by decide), if_neg (by decide)]
      try rfl
    refine nq_callV (pc' := 120) d_Reader_read_117 rfl cl_Reader_72 rfl (by first | assumption | exact nq_ga (by assumption) | exact nq_gs (by first | assumption | exact nq_ga (by assumption) | exact nq_gs (by first | assumption | exact nq_gs (by assumption) | exact nq_gn (by first | assumption | decide | omega | exact nq_ne1 (by assumption) (by assumption) | exact nq_ne2 (by assumption) (by assumption)) (by assumption) | exact nq_ga (by assumption)) | exact nq_gn (by first | assumption | decide | omega | exact nq_ne1 (by assumption) (by assumption) | exact nq_ne2 (by assumption) (by assumption)) (by first | assumption | exact nq_gs (by assumption) | exact nq_gn (by first | assumption | decide | omega | exact nq_ne1 (by assumption) (by assumption) | exact nq_ne2 (by assumption) (by assumption)) (by assumption) | exact nq_ga (by assumption))) | exact nq_gn (by first | assumption | decide | omega | exact nq_ne1 (by assumption) (by assumption) | exact nq_ne2 (by assumption) (by assumption)) (by first | assumption | exact nq_ga (by assumption) | exact nq_gs (by first | assumption | exact nq_gs (by assumption) | exact nq_gn (by first | assumption | decide | omega | exact nq_ne1 (by assumption) (by assumption) | exact nq_ne2 (by assumption) (by assumption)) (by assumption) | exact nq_ga (by assumption)) | exact nq_gn (by first | assumption | decide | omega | exact nq_ne1 (by assumption) (by assumption) | exact nq_ne2 (by assumption) (by assumption)) (by first | assumption | exact nq_gs (by assumption) | exact nq_gn (by first | assumption | decide | omega | exact nq_ne1 (by assumption) (by assumption) | exact nq_ne2 (by assumption) (by assumption)) (by assumption) | exact nq_ga (by assumption)))) rfl rfl (kc := 0) (ks := 0) (mc' := 0) (ms' := 0) (As := []) (rest := []) rfl rfl (Nat.le_of_ble_eq_true rfl) (k_Reader_readList (by omega) hL hc W1 hiN hli) (fun E σ2 hq => ?_) (fun v σ2 hq => ?_)
    · rw [sp_body_tail]
      cases hx : sp_list L (sp_cols 83) 3 [] i with
      | inl p =>
        rw [hx] at hq
        rw [hv, hx]
        exact ⟨hq.1, hq.2.fr F1⟩
      | inr w =>
        rw [hx] at hq
        cases hq.1
    · cases hx : sp_list L (sp_cols 83) 3 [] i with
      | inl p =>
        rw [hx] at hq
        cases hq.1
      | inr w =>
        obtain ⟨vs, j⟩ := w
        rw [hx] at hq hv
        obtain ⟨e1, f2, W2⟩ := hq
        cases e1
        exact fin vs 0 j σ2 hv (F1.tr f2) W2
  · refine nq_lookup (off := 75) (tgt := 116) d_Reader_read_41 (by decide) (by decide) (by decide) ?_
    refine nq_aload_n (pc' := 117) d_Reader_read_116 rfl rfl rfl ?_
    have hv : sp_vals L 80 (sp_cols 80) i = (match sp_list L (sp_cols 80) 3 [] i with
      | .inl p => .inl p
      | .inr (vs, j) => .inr (vs, 0, j)) := by
      unfold sp_vals
      rw [if_neg (by decide), if_neg (by decide), if_neg (by decide), if_neg (by decide)]
      try rfl
    refine nq_callV (pc' := 120) d_Reader_read_117 rfl cl_Reader_72 rfl (by first | assumption | exact nq_ga (by assumption) | exact nq_gs (by first | assumption | exact nq_ga (by assumption) | exact nq_gs (by first | assumption | exact nq_gs (by assumption) | exact nq_gn (by first | assumption | decide | omega | exact nq_ne1 (by assumption) (by assumption) | exact nq_ne2 (by assumption) (by assumption)) (by assumption) | exact nq_ga (by assumption)) | exact nq_gn (by first | assumption | decide | omega | exact nq_ne1 (by assumption) (by assumption) | exact nq_ne2 (by assumption) (by assumption)) (by first | assumption | exact nq_gs (by assumption) | exact nq_gn (by first | assumption | decide | omega | exact nq_ne1 (by assumption) (by assumption) | exact nq_ne2 (by assumption) (by assumption)) (by assumption) | exact nq_ga (by assumption))) | exact nq_gn (by first | assumption | decide | omega | exact nq_ne1 (by assumption) (by assumption) | exact nq_ne2 (by assumption) (by assumption)) (by first | assumption | exact nq_ga (by assumption) | exact nq_gs (by first | assumption | exact nq_gs (by assumption) | exact nq_gn (by first | assumption | decide | omega | exact nq_ne1 (by assumption) (by assumption) | exact nq_ne2 (by assumption) (by assumption)) (by assumption) | exact nq_ga (by assumption)) | exact nq_gn (by first | assumption | decide | omega | exact nq_ne1 (by assumption) (by assumption) | exact nq_ne2 (by assumption) (by assumption)) (by first | assumption | exact nq_gs (by assumption) | exact nq_gn (by first | assumption | decide | omega | exact nq_ne1 (by assumption) (by assumption) | exact nq_ne2 (by assumption) (by assumption)) (by assumption) | exact nq_ga (by assumption)))) rfl rfl (kc := 0) (ks := 0) (mc' := 0) (ms' := 0) (As := []) (rest := []) rfl rfl (Nat.le_of_ble_eq_true rfl) (k_Reader_readList (by omega) hL hc W1 hiN hli) (fun E σ2 hq => ?_) (fun v σ2 hq => ?_)
    · rw [sp_body_tail]
      cases hx : sp_list L (sp_cols 80) 3 [] i with
      | inl p =>
        rw [hx] at hq
        rw [hv, hx]
        exact ⟨hq.1, hq.2.fr F1⟩
      | inr w =>
        rw [hx] at hq
        cases hq.1
    · cases hx : sp_list L (sp_cols 80) 3 [] i with
      | inl p =>
        rw [hx] at hq
        cases hq.1
      | inr w =>
        obtain ⟨vs, j⟩ := w
        rw [hx] at hq hv
        obtain ⟨e1, f2, W2⟩ := hq
        cases e1
        exact fin vs 0 j σ2 hv (F1.tr f2) W2
  · refine nq_lookup (off := 68) (tgt := 109) d_Reader_read_41 (by decide) (by decide) (by decide) ?_
    refine nq_aload_n (pc' := 110) d_Reader_read_109 rfl rfl rfl ?_
    refine nq_callV (pc' := 113) d_Reader_read_110 rfl cl_Reader_69 rfl (by first | assumption | exact nq_ga (by assumption) | exact nq_gs (by first | assumption | exact nq_ga (by assumption) | exact nq_gs (by first | assumption | exact nq_gs (by assumption) | exact nq_gn (by first | assumption | decide | omega | exact nq_ne1 (by assumption) (by assumption) | exact nq_ne2 (by assumption) (by assumption)) (by assumption) | exact nq_ga (by assumption)) | exact nq_gn (by first | assumption | decide | omega | exact nq_ne1 (by assumption) (by assumption) | exact nq_ne2 (by assumption) (by assumption)) (by first | assumption | exact nq_gs (by assumption) | exact nq_gn (by first | assumption | decide | omega | exact nq_ne1 (by assumption) (by assumption) | exact nq_ne2 (by assumption) (by assumption)) (by assumption) | exact nq_ga (by assumption))) | exact nq_gn (by first | assumption | decide | omega | exact nq_ne1 (by assumption) (by assumption) | exact nq_ne2 (by assumption) (by assumption)) (by first | assumption | exact nq_ga (by assumption) | exact nq_gs (by first | assumption | exact nq_gs (by assumption) | exact nq_gn (by first | assumption | decide | omega | exact nq_ne1 (by assumption) (by assumption) | exact nq_ne2 (by assumption) (by assumption)) (by assumption) | exact nq_ga (by assumption)) | exact nq_gn (by first | assumption | decide | omega | exact nq_ne1 (by assumption) (by assumption) | exact nq_ne2 (by assumption) (by assumption)) (by first | assumption | exact nq_gs (by assumption) | exact nq_gn (by first | assumption | decide | omega | exact nq_ne1 (by assumption) (by assumption) | exact nq_ne2 (by assumption) (by assumption)) (by assumption) | exact nq_ga (by assumption)))) rfl rfl (kc := 0) (ks := 0) (mc' := 0) (ms' := 0) (As := []) (rest := []) rfl rfl (Nat.le_of_ble_eq_true rfl) (k_Reader_readFold (k := 65) (by decide) (by omega) hL hc W1 hiN hli) (fun E σ2 hq => ?_) (fun v σ2 hq => ?_)
    · rw [sp_body_tail]
      cases hx : sp_vals L 65 (sp_cols 65) i with
      | inl p =>
        rw [hx] at hq
        exact ⟨hq.1, hq.2.fr F1⟩
      | inr w =>
        rw [hx] at hq
        cases hq.1
    · cases hx : sp_vals L 65 (sp_cols 65) i with
      | inl p =>
        rw [hx] at hq
        cases hq.1
      | inr w =>
        obtain ⟨vs, fn, j⟩ := w
        rw [hx] at hq
        obtain ⟨e1, f2, W2⟩ := hq
        cases e1
        refine nq_goto (tgt := 120) d_Reader_read_113 (by decide) ?_
        exact fin vs fn j σ2 hx (F1.tr f2) W2
  · refine nq_lookup (off := 68) (tgt := 109) d_Reader_read_41 (by decide) (by decide) (by decide) ?_
    refine nq_aload_n (pc' := 110) d_Reader_read_109 rfl rfl rfl ?_
    refine nq_callV (pc' := 113) d_Reader_read_110 rfl cl_Reader_69 rfl (by first | assumption | exact nq_ga (by assumption) | exact nq_gs (by first | assumption | exact nq_ga (by assumption) | exact nq_gs (by first | assumption | exact nq_gs (by assumption) | exact nq_gn (by first | assumption | decide | omega | exact nq_ne1 (by assumption) (by assumption) | exact nq_ne2 (by assumption) (by assumption)) (by assumption) | exact nq_ga (by assumption)) | exact nq_gn (by first | assumption | decide | omega | exact nq_ne1 (by assumption) (by assumption) | exact nq_ne2 (by assumption) (by assumption)) (by first | assumption | exact nq_gs (by assumption) | exact nq_gn (by first | assumption | decide | omega | exact nq_ne1 (by assumption) (by assumption) | exact nq_ne2 (by assumption) (by assumption)) (by assumption) | exact nq_ga (by assumption))) | exact nq_gn (by first | assumption | decide | omega | exact nq_ne1 (by assumption) (by assumption) | exact nq_ne2 (by assumption) (by assumption)) (by first | assumption | exact nq_ga (by assumption) | exact nq_gs (by first | assumption | exact nq_gs (by assumption) | exact nq_gn (by first | assumption | decide | omega | exact nq_ne1 (by assumption) (by assumption) | exact nq_ne2 (by assumption) (by assumption)) (by assumption) | exact nq_ga (by assumption)) | exact nq_gn (by first | assumption | decide | omega | exact nq_ne1 (by assumption) (by assumption) | exact nq_ne2 (by assumption) (by assumption)) (by first | assumption | exact nq_gs (by assumption) | exact nq_gn (by first | assumption | decide | omega | exact nq_ne1 (by assumption) (by assumption) | exact nq_ne2 (by assumption) (by assumption)) (by assumption) | exact nq_ga (by assumption)))) rfl rfl (kc := 0) (ks := 0) (mc' := 0) (ms' := 0) (As := []) (rest := []) rfl rfl (Nat.le_of_ble_eq_true rfl) (k_Reader_readFold (k := 66) (by decide) (by omega) hL hc W1 hiN hli) (fun E σ2 hq => ?_) (fun v σ2 hq => ?_)
    · rw [sp_body_tail]
      cases hx : sp_vals L 66 (sp_cols 66) i with
      | inl p =>
        rw [hx] at hq
        exact ⟨hq.1, hq.2.fr F1⟩
      | inr w =>
        rw [hx] at hq
        cases hq.1
    · cases hx : sp_vals L 66 (sp_cols 66) i with
      | inl p =>
        rw [hx] at hq
        cases hq.1
      | inr w =>
        obtain ⟨vs, fn, j⟩ := w
        rw [hx] at hq
        obtain ⟨e1, f2, W2⟩ := hq
        cases e1
        refine nq_goto (tgt := 120) d_Reader_read_113 (by decide) ?_
        exact fin vs fn j σ2 hx (F1.tr f2) W2
end RX
