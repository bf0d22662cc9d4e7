/-! THE STORE: folds; execute -/
def cg_f (fn : Nat) (h x : Int32) : Int32 := if fn = 43 then h + x else if fn = 35 then h + 1 else if fn = 62 then (if h < x then x else h) else (if x < h then x else h)
def cg_0 (fn : Nat) : Int32 := if fn = 62 then -2147483648 else if fn = 60 then 2147483647 else 0
theorem cg_min (x : Int32) : (if (-2147483648 : Int32) < x then x else -2147483648) = x := by
  split
  · rfl
  · rename_i h
    have h1 : x ≤ -2147483648 := Int32.not_lt.mp h
    have h2 : (-2147483648 : Int32) ≤ x := by
      have := Int32.minValue_le x
      exact this
    exact Int32.le_antisymm h2 h1
theorem cg_max (x : Int32) : (if x < (2147483647 : Int32) then x else 2147483647) = x := by
  split
  · rfl
  · rename_i h
    have h1 : (2147483647 : Int32) ≤ x := Int32.not_lt.mp h
    have h2 : x ≤ (2147483647 : Int32) := by
      have := Int32.le_maxValue x
      exact this
    exact Int32.le_antisymm h1 h2
theorem cg_cnt (xs : List Int32) : ∀ n : Nat, xs.foldl (cg_f 35) (nI n) = nI (n + xs.length) := by
  induction xs with
  | nil => intro n; rfl
  | cons x xs ih =>
    intro n
    rw [List.foldl_cons, show cg_f 35 (nI n) x = nI (n + 1) from by unfold cg_f; rw [if_neg (by decide), if_pos rfl, nI_1], ih, List.length_cons]
    congr 1
    omega
theorem cg_agg {fn : Nat} (hf : fn ∈ tx 15) (xs : List Int32) : sx_agg fn xs = if xs = [] ∧ (fn = 60 ∨ fn = 62) then none else some (xs.foldl (cg_f fn) (cg_0 fn)) := by
  have h4 : fn = 43 ∨ fn = 35 ∨ fn = 62 ∨ fn = 60 := by
    have : ∀ f ∈ tx 15, f = 43 ∨ f = 35 ∨ f = 62 ∨ f = 60 := by decide
    exact this fn hf
  unfold sx_agg
  rcases h4 with rfl | rfl | rfl | rfl
  · rw [if_pos rfl, if_neg (by simp)]
    rfl
  · rw [if_neg (by decide), if_pos rfl, if_neg (by simp)]
    have := cg_cnt xs 0
    rw [Nat.zero_add] at this
    exact congrArg some this.symm
  · rw [if_neg (by decide), if_neg (by decide)]
    cases xs with
    | nil => simp
    | cons x r =>
      rw [if_neg (by simp), List.foldl_cons]
      have e : cg_f 62 (cg_0 62) x = x := cg_min x
      rw [e]
      rfl
  · rw [if_neg (by decide), if_neg (by decide)]
    cases xs with
    | nil => simp
    | cons x r =>
      rw [if_neg (by simp), List.foldl_cons]
      have e : cg_f 60 (cg_0 60) x = x := cg_max x
      rw [e]
      rfl
section QA
variable {G : nq_G} {d : Nat} {σ : nq_S} {sp c : Nat} {bg nt st fi : Int32} {tb : sx_T} {R ch nn : Nat → Int32} {es : List nq_Er} {size width : Int32} {s : sp_St}
theorem k_QS_foldOfNone {fn : Nat} (hf : fn < 128) : nq_JM G d 0 0 m_QS_foldOfNone [.int (nI fn)] σ (nq_R (some (.int (cg_0 fn))) σ) := by
  have kk : ∀ x, x < 128 → fn ≠ x → ¬ nI fn = nI x := fun x hx hn h => hn (nI_inj (by omega) (by omega) h)
  unfold cg_0
  refine nq_mk' (lv := [some (.int (nI fn))]) (by decide +kernel) rfl (Nat.le_of_ble_eq_true rfl) rfl ?_
  refine nq_iload_n (pc' := 1) d_QS_foldOfNone_0 rfl rfl rfl ?_
  refine nq_bipush (v := 62) (pc' := 3) d_QS_foldOfNone_1 rfl (by decide) ?_
  by_cases h62 : fn = 62
  · rw [if_pos h62, h62]
    refine nq_icmp_ne (pc' := 6) (tgt := 9) d_QS_foldOfNone_3 rfl (by decide) (fun h => absurd rfl h) (fun _ => ?_)
    refine nq_ldc (pc' := 8) d_QS_foldOfNone_6 rfl ld_QS_217 ?_
    refine nq_iret d_QS_foldOfNone_8 rfl rfl ⟨rfl, rfl⟩
  · rw [if_neg h62]
    refine nq_icmp_ne (pc' := 6) (tgt := 9) d_QS_foldOfNone_3 rfl (by decide) (fun _ => ?_) (fun h => absurd h (kk 62 (by decide) h62))
    refine nq_iload_n (pc' := 10) d_QS_foldOfNone_9 rfl rfl rfl ?_
    refine nq_bipush (v := 60) (pc' := 12) d_QS_foldOfNone_10 rfl (by decide) ?_
    by_cases h60 : fn = 60
    · rw [if_pos h60, h60]
      refine nq_icmp_ne (pc' := 15) (tgt := 20) d_QS_foldOfNone_12 rfl (by decide) (fun h => absurd rfl h) (fun _ => ?_)
      refine nq_ldc (pc' := 17) d_QS_foldOfNone_15 rfl ld_QS_218 ?_
      refine nq_goto (tgt := 21) d_QS_foldOfNone_17 (by decide) ?_
      refine nq_iret d_QS_foldOfNone_21 rfl rfl ⟨rfl, rfl⟩
    · rw [if_neg h60]
      refine nq_icmp_ne (pc' := 15) (tgt := 20) d_QS_foldOfNone_12 rfl (by decide) (fun _ => ?_) (fun h => absurd h (kk 60 (by decide) h60))
      refine nq_iconst (v := 0) (pc' := 21) d_QS_foldOfNone_20 rfl (by decide) ?_
      refine nq_iret d_QS_foldOfNone_21 rfl rfl ⟨rfl, rfl⟩
theorem k_QS_fold {fn : Nat} {a b : Int32} (hf : fn ∈ tx 15) : nq_JM G d 0 0 m_QS_fold [.int (nI fn), .int a, .int b] σ (nq_R (some (.int (cg_f fn a b))) σ) := by
  have h4 : fn = 43 ∨ fn = 35 ∨ fn = 62 ∨ fn = 60 := by
    have : ∀ f ∈ tx 15, f = 43 ∨ f = 35 ∨ f = 62 ∨ f = 60 := by decide
    exact this fn hf
  refine nq_mk' (lv := [some (.int (nI fn)), some (.int a), some (.int b)]) (by decide +kernel) rfl (Nat.le_of_ble_eq_true rfl) rfl ?_
  refine nq_iload_n (pc' := 1) d_QS_fold_0 rfl rfl rfl ?_
  rcases h4 with rfl | rfl | rfl | rfl
  · refine nq_lookup (off := 35) (tgt := 36) d_QS_fold_1 (by decide) (by decide) (by decide) ?_
    refine nq_iload_n (pc' := 37) d_QS_fold_36 rfl rfl rfl ?_
    refine nq_iload_n (pc' := 38) d_QS_fold_37 rfl rfl rfl ?_
    refine nq_iadd (pc' := 39) d_QS_fold_38 rfl ?_
    refine nq_iret d_QS_fold_39 rfl rfl ⟨rfl, rfl⟩
  · refine nq_lookup (off := 39) (tgt := 40) d_QS_fold_1 (by decide) (by decide) (by decide) ?_
    refine nq_iload_n (pc' := 41) d_QS_fold_40 rfl rfl rfl ?_
    refine nq_iconst (v := 1) (pc' := 42) d_QS_fold_41 rfl (by decide) ?_
    refine nq_iadd (pc' := 43) d_QS_fold_42 rfl ?_
    refine nq_iret d_QS_fold_43 rfl rfl ⟨rfl, rfl⟩
  · refine nq_lookup (off := 43) (tgt := 44) d_QS_fold_1 (by decide) (by decide) (by decide) ?_
    refine nq_iload_n (pc' := 45) d_QS_fold_44 rfl rfl rfl ?_
    refine nq_iload_n (pc' := 46) d_QS_fold_45 rfl rfl rfl ?_
    refine nq_max (pc' := 49) d_QS_fold_46 rfl mm_QS_219 mm_max1 mm_0 mm_max2 (by decide) ?_
    refine nq_iret d_QS_fold_49 rfl rfl ⟨rfl, rfl⟩
  · refine nq_lookup (off := 49) (tgt := 50) d_QS_fold_1 (by decide) (by decide) (by decide) ?_
    refine nq_iload_n (pc' := 51) d_QS_fold_50 rfl rfl rfl ?_
    refine nq_iload_n (pc' := 52) d_QS_fold_51 rfl rfl rfl ?_
    refine nq_min (pc' := 55) d_QS_fold_52 rfl mm_QS_224 mm_min1 mm_0 mm_min2 (by decide) ?_
    refine nq_iret d_QS_fold_55 rfl rfl ⟨rfl, rfl⟩
theorem k_QS_aggregate (hX : qs_X σ sp bg nt st fi tb R ch nn [] 0 width) (hC : qs_C σ c s) (hk : s.1 = 65 ∨ s.1 = 66) (hD : 5 ≤ d) : nq_JM G d 0 0 m_QS_aggregate [.ref 0, .ref c] σ (xq_Q σ sp bg nt st fi tb width s.1 (sx_exec tb s (R 6))) := by
  obtain ⟨d, rfl⟩ : ∃ d', d = d' + 1 := ⟨d - 1, by omega⟩
  obtain ⟨hv1, hfn⟩ := hC.2.1.2.2.2.1.2.2.2.1 hk
  have hn6 := sp_nc_le s.1
  have hm20 := qs_m20 hX hC
  have hl20 := tb_len (hX.2.2.1.2 _ hC.2.1.2.1)
  have hN400 := Nat.mul_le_mul hl20 hm20
  have hxc : xq_ch s.1 = false := by rcases hk with h | h <;> rw [h] <;> rfl
  have hf7 : s.2.2.2.2.1 < 128 := by
    have : ∀ f ∈ tx 15, f < 128 := by decide
    exact this _ hfn
  have kk : ∀ x, x < 128 → s.2.2.2.2.1 ≠ x → ¬ nI s.2.2.2.2.1 = nI x := fun x hx hn h => hn (nI_inj (by omega) (by omega) h)
  obtain ⟨eN, _⟩ := sx_envs_at (tb := tb) (T1 := tb.getD s.2.1 []) (u := s.2.2.1) (p := R 6)
  unfold sx_exec
  rw [if_neg (by omega), if_neg (by omega), if_neg (by omega), if_pos hk]
  generalize henv : sx_envs (tb.getD s.2.1 []) (sx_two tb s.2.2.1) (R 6) = envs at eN ⊢
  generalize hNN : (tb.getD s.2.1 []).length * qs_m tb s.2.2.1 = NN at eN hN400
  have loop : ∀ (n k : Nat) (cl : List Int32) (σ1 : nq_S) (R1 : Nat → Int32), n + k = NN → cl.length ≤ k → qs_fr σ σ1 → R1 6 = R 6 → qs_X σ1 sp bg nt st fi tb R1 ch nn [] 0 width → nq_J G (d + 1) 0 0 m_QS_aggregate 20 [some (.ref 0), some (.ref c), some (.int (nI NN)), some (.int (nI cl.length)), some (.int (cl.foldl (cg_f s.2.2.2.2.1) (cg_0 s.2.2.2.2.1))), some (.int (nI k))] [] σ1 (xq_Q σ sp bg nt st fi tb width s.1 (match sx_col s.2.2.2.1 s.2.2.2.2.2.1 (envs.drop k) cl with
      | .inl e => .inl e
      | .inr xs => match sx_agg s.2.2.2.2.1 xs with
        | none => .inl nq_NE
        | some v => .inr (1, tb, [(0, [v])], 1))) := by
    intro n
    induction n with
    | zero =>
      intro k cl σ1 R1 hn hcl F1 hR X1
      have C1 := hC.fr F1
      obtain ⟨n', hcc⟩ := C1.cell
      rw [if_pos hk] at hcc
      have z1 := X1.1
      have z4 := X1.2.2.2.1
      have z5 := X1.2.2.2.2.1
      rw [List.drop_of_length_le (by omega)]
      unfold sx_col
      simp only
      rw [cg_agg hfn]
      have yes : ¬ (cl = [] ∧ (s.2.2.2.2.1 = 60 ∨ s.2.2.2.2.1 = 62)) → nq_J G (d + 1) 0 0 m_QS_aggregate 103 [some (.ref 0), some (.ref c), some (.int (nI NN)), some (.int (nI cl.length)), some (.int (cl.foldl (cg_f s.2.2.2.2.1) (cg_0 s.2.2.2.2.1))), some (.int (nI k))] [] σ1 (xq_Q σ sp bg nt st fi tb width s.1 (match (if cl = [] ∧ (s.2.2.2.2.1 = 60 ∨ s.2.2.2.2.1 = 62) then none else some (cl.foldl (cg_f s.2.2.2.2.1) (cg_0 s.2.2.2.2.1))) with
        | none => .inl nq_NE
        | some v => .inr (1, tb, [(0, [v])], 1))) := by
        intro hno
        rw [if_neg hno]
        generalize cl.foldl (cg_f s.2.2.2.2.1) (cg_0 s.2.2.2.2.1) = held
        refine nq_aload_n (pc' := 104) d_QS_aggregate_103 rfl rfl rfl ?_
        refine nq_getf (pc' := 107) d_QS_aggregate_104 rfl fl_QS_28 (by first | assumption | exact nq_ga (by assumption) | exact nq_gs (by first | assumption | exact nq_ga (by assumption) | exact nq_gs (by first | assumption | exact nq_gs (by assumption) | exact nq_gn (by first | assumption | decide | omega | exact nq_ne1 (by assumption) (by assumption) | exact nq_ne2 (by assumption) (by assumption)) (by assumption) | exact nq_ga (by assumption)) | exact nq_gn (by first | assumption | decide | omega | exact nq_ne1 (by assumption) (by assumption) | exact nq_ne2 (by assumption) (by assumption)) (by first | assumption | exact nq_gs (by assumption) | exact nq_gn (by first | assumption | decide | omega | exact nq_ne1 (by assumption) (by assumption) | exact nq_ne2 (by assumption) (by assumption)) (by assumption) | exact nq_ga (by assumption))) | exact nq_gn (by first | assumption | decide | omega | exact nq_ne1 (by assumption) (by assumption) | exact nq_ne2 (by assumption) (by assumption)) (by first | assumption | exact nq_ga (by assumption) | exact nq_gs (by first | assumption | exact nq_gs (by assumption) | exact nq_gn (by first | assumption | decide | omega | exact nq_ne1 (by assumption) (by assumption) | exact nq_ne2 (by assumption) (by assumption)) (by assumption) | exact nq_ga (by assumption)) | exact nq_gn (by first | assumption | decide | omega | exact nq_ne1 (by assumption) (by assumption) | exact nq_ne2 (by assumption) (by assumption)) (by first | assumption | exact nq_gs (by assumption) | exact nq_gn (by first | assumption | decide | omega | exact nq_ne1 (by assumption) (by assumption) | exact nq_ne2 (by assumption) (by assumption)) (by assumption) | exact nq_ga (by assumption)))) rfl ?_
        refine nq_bipush (v := 7) (pc' := 109) d_QS_aggregate_107 rfl (by decide) ?_
        refine nq_iload (pc' := 111) d_QS_aggregate_109 rfl rfl ?_
        refine nq_callVR (pc' := 114) d_QS_aggregate_111 rfl cl_QS_133 rfl (by first | assumption | exact nq_ga (by assumption) | exact nq_gs (by first | assumption | exact nq_ga (by assumption) | exact nq_gs (by first | assumption | exact nq_gs (by assumption) | exact nq_gn (by first | assumption | decide | omega | exact nq_ne1 (by assumption) (by assumption) | exact nq_ne2 (by assumption) (by assumption)) (by assumption) | exact nq_ga (by assumption)) | exact nq_gn (by first | assumption | decide | omega | exact nq_ne1 (by assumption) (by assumption) | exact nq_ne2 (by assumption) (by assumption)) (by first | assumption | exact nq_gs (by assumption) | exact nq_gn (by first | assumption | decide | omega | exact nq_ne1 (by assumption) (by assumption) | exact nq_ne2 (by assumption) (by assumption)) (by assumption) | exact nq_ga (by assumption))) | exact nq_gn (by first | assumption | decide | omega | exact nq_ne1 (by assumption) (by assumption) | exact nq_ne2 (by assumption) (by assumption)) (by first | assumption | exact nq_ga (by assumption) | exact nq_gs (by first | assumption | exact nq_gs (by assumption) | exact nq_gn (by first | assumption | decide | omega | exact nq_ne1 (by assumption) (by assumption) | exact nq_ne2 (by assumption) (by assumption)) (by assumption) | exact nq_ga (by assumption)) | exact nq_gn (by first | assumption | decide | omega | exact nq_ne1 (by assumption) (by assumption) | exact nq_ne2 (by assumption) (by assumption)) (by first | assumption | exact nq_gs (by assumption) | exact nq_gn (by first | assumption | decide | omega | exact nq_ne1 (by assumption) (by assumption) | exact nq_ne2 (by assumption) (by assumption)) (by assumption) | exact nq_ga (by assumption)))) rfl rfl (kc := 0) (ks := 0) (mc' := 0) (ms' := 0) (As := [.int (nI 7), .int held]) (rest := []) rfl rfl (by decide) (k_Machine_put (r := 7) z4 z5 (by decide)) ?_
        have X2 := X1.regs (R' := upd R1 7 held)
        have F2 : qs_fr σ (σ1.set 6 (.inl (0, 20, .inl (upd R1 7 held)))) := F1.tr (qs_fr.set (by unfold qs_k; omega))
        generalize hσ2 : σ1.set 6 (.inl (0, 20, .inl (upd R1 7 held))) = σ2 at X2 F2 ⊢
        have y1 := X2.1
        have y4 := X2.2.2.2.1
        have y5 := X2.2.2.2.2.1
        have yr := X2.2.2.2.2.2.1
        have yc := yr.cell
        obtain ⟨d3, rfl⟩ : ∃ d3, d = d3 + 1 := ⟨d - 1, by omega⟩
        refine nq_aload_n (pc' := 115) d_QS_aggregate_114 rfl rfl rfl ?_
        refine nq_getf (pc' := 118) d_QS_aggregate_115 rfl fl_QS_35 (by first | assumption | exact nq_ga (by assumption) | exact nq_gs (by first | assumption | exact nq_ga (by assumption) | exact nq_gs (by first | assumption | exact nq_gs (by assumption) | exact nq_gn (by first | assumption | decide | omega | exact nq_ne1 (by assumption) (by assumption) | exact nq_ne2 (by assumption) (by assumption)) (by assumption) | exact nq_ga (by assumption)) | exact nq_gn (by first | assumption | decide | omega | exact nq_ne1 (by assumption) (by assumption) | exact nq_ne2 (by assumption) (by assumption)) (by first | assumption | exact nq_gs (by assumption) | exact nq_gn (by first | assumption | decide | omega | exact nq_ne1 (by assumption) (by assumption) | exact nq_ne2 (by assumption) (by assumption)) (by assumption) | exact nq_ga (by assumption))) | exact nq_gn (by first | assumption | decide | omega | exact nq_ne1 (by assumption) (by assumption) | exact nq_ne2 (by assumption) (by assumption)) (by first | assumption | exact nq_ga (by assumption) | exact nq_gs (by first | assumption | exact nq_gs (by assumption) | exact nq_gn (by first | assumption | decide | omega | exact nq_ne1 (by assumption) (by assumption) | exact nq_ne2 (by assumption) (by assumption)) (by assumption) | exact nq_ga (by assumption)) | exact nq_gn (by first | assumption | decide | omega | exact nq_ne1 (by assumption) (by assumption) | exact nq_ne2 (by assumption) (by assumption)) (by first | assumption | exact nq_gs (by assumption) | exact nq_gn (by first | assumption | decide | omega | exact nq_ne1 (by assumption) (by assumption) | exact nq_ne2 (by assumption) (by assumption)) (by assumption) | exact nq_ga (by assumption)))) rfl ?_
        refine nq_aload_n (pc' := 119) d_QS_aggregate_118 rfl rfl rfl ?_
        refine nq_getf (pc' := 122) d_QS_aggregate_119 rfl fl_QS_28 (by first | assumption | exact nq_ga (by assumption) | exact nq_gs (by first | assumption | exact nq_ga (by assumption) | exact nq_gs (by first | assumption | exact nq_gs (by assumption) | exact nq_gn (by first | assumption | decide | omega | exact nq_ne1 (by assumption) (by assumption) | exact nq_ne2 (by assumption) (by assumption)) (by assumption) | exact nq_ga (by assumption)) | exact nq_gn (by first | assumption | decide | omega | exact nq_ne1 (by assumption) (by assumption) | exact nq_ne2 (by assumption) (by assumption)) (by first | assumption | exact nq_gs (by assumption) | exact nq_gn (by first | assumption | decide | omega | exact nq_ne1 (by assumption) (by assumption) | exact nq_ne2 (by assumption) (by assumption)) (by assumption) | exact nq_ga (by assumption))) | exact nq_gn (by first | assumption | decide | omega | exact nq_ne1 (by assumption) (by assumption) | exact nq_ne2 (by assumption) (by assumption)) (by first | assumption | exact nq_ga (by assumption) | exact nq_gs (by first | assumption | exact nq_gs (by assumption) | exact nq_gn (by first | assumption | decide | omega | exact nq_ne1 (by assumption) (by assumption) | exact nq_ne2 (by assumption) (by assumption)) (by assumption) | exact nq_ga (by assumption)) | exact nq_gn (by first | assumption | decide | omega | exact nq_ne1 (by assumption) (by assumption) | exact nq_ne2 (by assumption) (by assumption)) (by first | assumption | exact nq_gs (by assumption) | exact nq_gn (by first | assumption | decide | omega | exact nq_ne1 (by assumption) (by assumption) | exact nq_ne2 (by assumption) (by assumption)) (by assumption) | exact nq_ga (by assumption)))) rfl ?_
        refine nq_iconst (v := (-1)) (pc' := 123) d_QS_aggregate_122 rfl (by decide) ?_
        refine nq_callV (pc' := 126) d_QS_aggregate_123 rfl cl_QS_197 rfl (by first | assumption | exact nq_ga (by assumption) | exact nq_gs (by first | assumption | exact nq_ga (by assumption) | exact nq_gs (by first | assumption | exact nq_gs (by assumption) | exact nq_gn (by first | assumption | decide | omega | exact nq_ne1 (by assumption) (by assumption) | exact nq_ne2 (by assumption) (by assumption)) (by assumption) | exact nq_ga (by assumption)) | exact nq_gn (by first | assumption | decide | omega | exact nq_ne1 (by assumption) (by assumption) | exact nq_ne2 (by assumption) (by assumption)) (by first | assumption | exact nq_gs (by assumption) | exact nq_gn (by first | assumption | decide | omega | exact nq_ne1 (by assumption) (by assumption) | exact nq_ne2 (by assumption) (by assumption)) (by assumption) | exact nq_ga (by assumption))) | exact nq_gn (by first | assumption | decide | omega | exact nq_ne1 (by assumption) (by assumption) | exact nq_ne2 (by assumption) (by assumption)) (by first | assumption | exact nq_ga (by assumption) | exact nq_gs (by first | assumption | exact nq_gs (by assumption) | exact nq_gn (by first | assumption | decide | omega | exact nq_ne1 (by assumption) (by assumption) | exact nq_ne2 (by assumption) (by assumption)) (by assumption) | exact nq_ga (by assumption)) | exact nq_gn (by first | assumption | decide | omega | exact nq_ne1 (by assumption) (by assumption) | exact nq_ne2 (by assumption) (by assumption)) (by first | assumption | exact nq_gs (by assumption) | exact nq_gn (by first | assumption | decide | omega | exact nq_ne1 (by assumption) (by assumption) | exact nq_ne2 (by assumption) (by assumption)) (by assumption) | exact nq_ga (by assumption)))) rfl rfl (kc := 0) (ks := 0) (mc' := 0) (ms' := 0) (As := [.ref 5, .int (-1)]) (rest := []) rfl rfl (by decide) (k_Result_add (mark := 0) yr y4 y5 (by decide) (by decide) (by decide) (.inl ⟨rfl, rfl⟩)) (fun E σ5 hq => ?_) (fun v σ5 hq => ?_)
        · rcases hq with ⟨q1, q2, rfl⟩ | ⟨_, q2, _⟩
          · cases q1
          · cases q2
        rcases hq with ⟨_, q2, _⟩ | ⟨q1, q2, S5, l5, f5⟩
        · cases q2
        cases q2
        have X5 := X2.res S5 f5
        have F5 : qs_fr σ σ5 := F2.tr ⟨l5, fun i hi => f5 i (by unfold qs_k at hi; omega) (by unfold qs_k at hi; omega) (by unfold qs_k at hi; omega) (by unfold qs_k at hi; omega)⟩
        have x1 := X5.1
        have xc := S5.cell
        refine nq_aload_n (pc' := 127) d_QS_aggregate_126 rfl rfl rfl ?_
        refine nq_getf (pc' := 130) d_QS_aggregate_127 rfl fl_QS_35 (by first | assumption | exact nq_ga (by assumption) | exact nq_gs (by first | assumption | exact nq_ga (by assumption) | exact nq_gs (by first | assumption | exact nq_gs (by assumption) | exact nq_gn (by first | assumption | decide | omega | exact nq_ne1 (by assumption) (by assumption) | exact nq_ne2 (by assumption) (by assumption)) (by assumption) | exact nq_ga (by assumption)) | exact nq_gn (by first | assumption | decide | omega | exact nq_ne1 (by assumption) (by assumption) | exact nq_ne2 (by assumption) (by assumption)) (by first | assumption | exact nq_gs (by assumption) | exact nq_gn (by first | assumption | decide | omega | exact nq_ne1 (by assumption) (by assumption) | exact nq_ne2 (by assumption) (by assumption)) (by assumption) | exact nq_ga (by assumption))) | exact nq_gn (by first | assumption | decide | omega | exact nq_ne1 (by assumption) (by assumption) | exact nq_ne2 (by assumption) (by assumption)) (by first | assumption | exact nq_ga (by assumption) | exact nq_gs (by first | assumption | exact nq_gs (by assumption) | exact nq_gn (by first | assumption | decide | omega | exact nq_ne1 (by assumption) (by assumption) | exact nq_ne2 (by assumption) (by assumption)) (by assumption) | exact nq_ga (by assumption)) | exact nq_gn (by first | assumption | decide | omega | exact nq_ne1 (by assumption) (by assumption) | exact nq_ne2 (by assumption) (by assumption)) (by first | assumption | exact nq_gs (by assumption) | exact nq_gn (by first | assumption | decide | omega | exact nq_ne1 (by assumption) (by assumption) | exact nq_ne2 (by assumption) (by assumption)) (by assumption) | exact nq_ga (by assumption)))) rfl ?_
        refine nq_iconst (v := 1) (pc' := 131) d_QS_aggregate_130 rfl (by decide) ?_
        refine nq_callV (pc' := 134) d_QS_aggregate_131 rfl cl_QS_202 rfl (by first | assumption | exact nq_ga (by assumption) | exact nq_gs (by first | assumption | exact nq_ga (by assumption) | exact nq_gs (by first | assumption | exact nq_gs (by assumption) | exact nq_gn (by first | assumption | decide | omega | exact nq_ne1 (by assumption) (by assumption) | exact nq_ne2 (by assumption) (by assumption)) (by assumption) | exact nq_ga (by assumption)) | exact nq_gn (by first | assumption | decide | omega | exact nq_ne1 (by assumption) (by assumption) | exact nq_ne2 (by assumption) (by assumption)) (by first | assumption | exact nq_gs (by assumption) | exact nq_gn (by first | assumption | decide | omega | exact nq_ne1 (by assumption) (by assumption) | exact nq_ne2 (by assumption) (by assumption)) (by assumption) | exact nq_ga (by assumption))) | exact nq_gn (by first | assumption | decide | omega | exact nq_ne1 (by assumption) (by assumption) | exact nq_ne2 (by assumption) (by assumption)) (by first | assumption | exact nq_ga (by assumption) | exact nq_gs (by first | assumption | exact nq_gs (by assumption) | exact nq_gn (by first | assumption | decide | omega | exact nq_ne1 (by assumption) (by assumption) | exact nq_ne2 (by assumption) (by assumption)) (by assumption) | exact nq_ga (by assumption)) | exact nq_gn (by first | assumption | decide | omega | exact nq_ne1 (by assumption) (by assumption) | exact nq_ne2 (by assumption) (by assumption)) (by first | assumption | exact nq_gs (by assumption) | exact nq_gn (by first | assumption | decide | omega | exact nq_ne1 (by assumption) (by assumption) | exact nq_ne2 (by assumption) (by assumption)) (by assumption) | exact nq_ga (by assumption)))) rfl rfl (kc := 0) (ks := 0) (mc' := 0) (ms' := 0) (As := [.int 1]) (rest := []) rfl rfl (by decide) (k_Result_show S5) (fun E σ2 hq => by cases hq.1) (fun v σ6 hq => ?_)
        obtain ⟨e1, S6, l6, f6⟩ := hq
        cases e1
        have X6 := X5.res S6 (fun i a _ _ _ => f6 i a)
        have F6 : qs_fr σ σ6 := F5.tr ⟨l6, fun i hi => f6 i (by unfold qs_k at hi; omega)⟩
        refine nq_iconst (v := 1) (pc' := 135) d_QS_aggregate_134 rfl (by decide) ?_
        refine nq_iret d_QS_aggregate_135 rfl rfl ?_
        refine ⟨F6, rfl, upd R1 7 held, ch, nn, rs_add [] (0, upd R1 7 held 7, upd R1 7 held 8, upd R1 7 held 9), 1, ?_, fun _ => ⟨⟨rfl, fun i e x he hx => ?_⟩, rfl⟩⟩
        · rw [if_neg (by rw [hxc]; simp)]
          exact X6
        · have hi : i = 0 := by
            have := (List.getElem?_eq_some_iff.mp hx).1
            simp only [List.length_cons, List.length_nil] at this
            omega
          subst hi
          cases he
          cases hx
          refine ⟨rfl, fun j v hj hv => ?_⟩
          have hj0 : j = 0 := by omega
          subst hj0
          cases hv
          rfl
      refine nq_iload (pc' := 22) d_QS_aggregate_20 rfl rfl ?_
      refine nq_iload_n (pc' := 23) d_QS_aggregate_22 rfl rfl rfl ?_
      refine nq_icmp_ge (pc' := 26) (tgt := 73) d_QS_aggregate_23 rfl (by decide) (fun _ => ?_) (fun h => absurd ((nI_leI (by omega) (by omega)).mpr (by omega)) h)
      refine nq_iload_n (pc' := 74) d_QS_aggregate_73 rfl rfl rfl ?_
      by_cases h0 : cl = []
      · rw [h0] at yes ⊢
        refine nq_if_ne (pc' := 77) (tgt := 103) d_QS_aggregate_74 rfl (by decide) (fun h => absurd rfl h) (fun _ => ?_)
        refine nq_aload_n (pc' := 78) d_QS_aggregate_77 rfl rfl rfl ?_
        refine nq_getf (pc' := 81) d_QS_aggregate_78 rfl fl_QS_205 (by first | assumption | exact nq_ga (by assumption) | exact nq_gs (by first | assumption | exact nq_ga (by assumption) | exact nq_gs (by first | assumption | exact nq_gs (by assumption) | exact nq_gn (by first | assumption | decide | omega | exact nq_ne1 (by assumption) (by assumption) | exact nq_ne2 (by assumption) (by assumption)) (by assumption) | exact nq_ga (by assumption)) | exact nq_gn (by first | assumption | decide | omega | exact nq_ne1 (by assumption) (by assumption) | exact nq_ne2 (by assumption) (by assumption)) (by first | assumption | exact nq_gs (by assumption) | exact nq_gn (by first | assumption | decide | omega | exact nq_ne1 (by assumption) (by assumption) | exact nq_ne2 (by assumption) (by assumption)) (by assumption) | exact nq_ga (by assumption))) | exact nq_gn (by first | assumption | decide | omega | exact nq_ne1 (by assumption) (by assumption) | exact nq_ne2 (by assumption) (by assumption)) (by first | assumption | exact nq_ga (by assumption) | exact nq_gs (by first | assumption | exact nq_gs (by assumption) | exact nq_gn (by first | assumption | decide | omega | exact nq_ne1 (by assumption) (by assumption) | exact nq_ne2 (by assumption) (by assumption)) (by assumption) | exact nq_ga (by assumption)) | exact nq_gn (by first | assumption | decide | omega | exact nq_ne1 (by assumption) (by assumption) | exact nq_ne2 (by assumption) (by assumption)) (by first | assumption | exact nq_gs (by assumption) | exact nq_gn (by first | assumption | decide | omega | exact nq_ne1 (by assumption) (by assumption) | exact nq_ne2 (by assumption) (by assumption)) (by assumption) | exact nq_ga (by assumption)))) rfl ?_
        refine nq_bipush (v := 60) (pc' := 83) d_QS_aggregate_81 rfl (by decide) ?_
        have no : (s.2.2.2.2.1 = 60 ∨ s.2.2.2.2.1 = 62) → nq_J G (d + 1) 0 0 m_QS_aggregate 95 [some (.ref 0), some (.ref c), some (.int (nI NN)), some (.int (nI ([] : List Int32).length)), some (.int (([] : List Int32).foldl (cg_f s.2.2.2.2.1) (cg_0 s.2.2.2.2.1))), some (.int (nI k))] [] σ1 (xq_Q σ sp bg nt st fi tb width s.1 (match (if ([] : List Int32) = [] ∧ (s.2.2.2.2.1 = 60 ∨ s.2.2.2.2.1 = 62) then none else some (([] : List Int32).foldl (cg_f s.2.2.2.2.1) (cg_0 s.2.2.2.2.1))) with
          | none => .inl nq_NE
          | some v => .inr (1, tb, [(0, [v])], 1))) := by
          intro hh
          rw [if_pos ⟨rfl, hh⟩]
          refine nq_throw tl_QS_75_77 rfl (by decide) d_QS_aggregate_95 d_QS_aggregate_98 d_QS_aggregate_99 d_QS_aggregate_102 ⟨F1, rfl, R1, ch, nn, [], X1⟩
        by_cases h60 : s.2.2.2.2.1 = 60
        · refine nq_icmp_eq (pc' := 86) (tgt := 95) d_QS_aggregate_83 rfl (by decide) (fun _ => no (.inl h60)) (fun h => absurd (by rw [h60]; rfl) h)
        · refine nq_icmp_eq (pc' := 86) (tgt := 95) d_QS_aggregate_83 rfl (by decide) (fun h => absurd h (kk 60 (by decide) h60)) (fun _ => ?_)
          refine nq_aload_n (pc' := 87) d_QS_aggregate_86 rfl rfl rfl ?_
          refine nq_getf (pc' := 90) d_QS_aggregate_87 rfl fl_QS_205 (by first | assumption | exact nq_ga (by assumption) | exact nq_gs (by first | assumption | exact nq_ga (by assumption) | exact nq_gs (by first | assumption | exact nq_gs (by assumption) | exact nq_gn (by first | assumption | decide | omega | exact nq_ne1 (by assumption) (by assumption) | exact nq_ne2 (by assumption) (by assumption)) (by assumption) | exact nq_ga (by assumption)) | exact nq_gn (by first | assumption | decide | omega | exact nq_ne1 (by assumption) (by assumption) | exact nq_ne2 (by assumption) (by assumption)) (by first | assumption | exact nq_gs (by assumption) | exact nq_gn (by first | assumption | decide | omega | exact nq_ne1 (by assumption) (by assumption) | exact nq_ne2 (by assumption) (by assumption)) (by assumption) | exact nq_ga (by assumption))) | exact nq_gn (by first | assumption | decide | omega | exact nq_ne1 (by assumption) (by assumption) | exact nq_ne2 (by assumption) (by assumption)) (by first | assumption | exact nq_ga (by assumption) | exact nq_gs (by first | assumption | exact nq_gs (by assumption) | exact nq_gn (by first | assumption | decide | omega | exact nq_ne1 (by assumption) (by assumption) | exact nq_ne2 (by assumption) (by assumption)) (by assumption) | exact nq_ga (by assumption)) | exact nq_gn (by first | assumption | decide | omega | exact nq_ne1 (by assumption) (by assumption) | exact nq_ne2 (by assumption) (by assumption)) (by first | assumption | exact nq_gs (by assumption) | exact nq_gn (by first | assumption | decide | omega | exact nq_ne1 (by assumption) (by assumption) | exact nq_ne2 (by assumption) (by assumption)) (by assumption) | exact nq_ga (by assumption)))) rfl ?_
          refine nq_bipush (v := 62) (pc' := 92) d_QS_aggregate_90 rfl (by decide) ?_
          by_cases h62 : s.2.2.2.2.1 = 62
          · refine nq_icmp_ne (pc' := 95) (tgt := 103) d_QS_aggregate_92 rfl (by decide) (fun h => absurd (by rw [h62]; rfl) h) (fun _ => no (.inr h62))
          · refine nq_icmp_ne (pc' := 95) (tgt := 103) d_QS_aggregate_92 rfl (by decide) (fun _ => yes (fun h => by omega)) (fun h => absurd h (kk 62 (by decide) h62))
      · have hpos : 0 < cl.length := List.length_pos_iff.mpr h0
        refine nq_if_ne (pc' := 77) (tgt := 103) d_QS_aggregate_74 rfl (by decide) (fun _ => yes (fun h => h0 h.1)) (fun h => absurd h (nI_ne0 hpos (by omega)))
    | succ n ih =>
      intro k cl σ1 R1 hn hcl F1 hR X1
      have C1 := hC.fr F1
      obtain ⟨n', hcc⟩ := C1.cell
      have z1 := X1.1
      have hkl : k < envs.length := by omega
      obtain ⟨ρ, p1, p2, mt⟩ := qs_meetk (G := G) (d := d) (k := k) X1 C1 (by omega) (by omega)
      rw [hR] at p1 p2
      rw [henv, List.getElem?_eq_getElem hkl] at p1
      cases p1
      rw [List.drop_eq_getElem_cons hkl]
      unfold sx_col
      generalize envs[k] = ρ at p2 mt ⊢
      rw [hR] at mt
      refine nq_iload (pc' := 22) d_QS_aggregate_20 rfl rfl ?_
      refine nq_iload_n (pc' := 23) d_QS_aggregate_22 rfl rfl rfl ?_
      refine nq_icmp_ge (pc' := 26) (tgt := 73) d_QS_aggregate_23 rfl (by decide) (fun h => absurd ((nI_leI (by omega) (by omega)).mp h) (by omega)) (fun _ => ?_)
      refine nq_aload_n (pc' := 27) d_QS_aggregate_26 rfl rfl rfl ?_
      refine nq_aload_n (pc' := 28) d_QS_aggregate_27 rfl rfl rfl ?_
      refine nq_iload (pc' := 30) d_QS_aggregate_28 rfl rfl ?_
      refine nq_callV (pc' := 33) d_QS_aggregate_30 rfl cl_QS_179 rfl (by first | assumption | exact nq_ga (by assumption) | exact nq_gs (by first | assumption | exact nq_ga (by assumption) | exact nq_gs (by first | assumption | exact nq_gs (by assumption) | exact nq_gn (by first | assumption | decide | omega | exact nq_ne1 (by assumption) (by assumption) | exact nq_ne2 (by assumption) (by assumption)) (by assumption) | exact nq_ga (by assumption)) | exact nq_gn (by first | assumption | decide | omega | exact nq_ne1 (by assumption) (by assumption) | exact nq_ne2 (by assumption) (by assumption)) (by first | assumption | exact nq_gs (by assumption) | exact nq_gn (by first | assumption | decide | omega | exact nq_ne1 (by assumption) (by assumption) | exact nq_ne2 (by assumption) (by assumption)) (by assumption) | exact nq_ga (by assumption))) | exact nq_gn (by first | assumption | decide | omega | exact nq_ne1 (by assumption) (by assumption) | exact nq_ne2 (by assumption) (by assumption)) (by first | assumption | exact nq_ga (by assumption) | exact nq_gs (by first | assumption | exact nq_gs (by assumption) | exact nq_gn (by first | assumption | decide | omega | exact nq_ne1 (by assumption) (by assumption) | exact nq_ne2 (by assumption) (by assumption)) (by assumption) | exact nq_ga (by assumption)) | exact nq_gn (by first | assumption | decide | omega | exact nq_ne1 (by assumption) (by assumption) | exact nq_ne2 (by assumption) (by assumption)) (by first | assumption | exact nq_gs (by assumption) | exact nq_gn (by first | assumption | decide | omega | exact nq_ne1 (by assumption) (by assumption) | exact nq_ne2 (by assumption) (by assumption)) (by assumption) | exact nq_ga (by assumption)))) rfl rfl (kc := 0) (ks := 0) (mc' := 0) (ms' := 0) (As := [.ref c, .int (nI k)]) (rest := []) rfl rfl (by decide) mt (fun E σ2 hq => ?_) (fun v σ2 hq => ?_)
      · obtain ⟨R', rfl, hq, hk3⟩ := hq
        cases hv : sx_m s.2.2.2.2.2.1 ρ with
        | none =>
          rw [hv] at hq
          exact ⟨F1.tr (qs_fr.set (by unfold qs_k; omega)), hq, R', ch, nn, [], X1.regs⟩
        | some b =>
          rw [hv] at hq
          cases hq
      obtain ⟨R', rfl, hq, hk3⟩ := hq
      cases hv : sx_m s.2.2.2.2.2.1 ρ with
      | none =>
        rw [hv] at hq
        cases hq
      | some b =>
      rw [hv] at hq hk3
      cases hq
      obtain ⟨hk4, hk5⟩ := hk3 (by simp)
      have X3 := X1.regs (R' := R')
      have F3 : qs_fr σ (σ1.set 6 (.inl (0, 20, .inl R'))) := F1.tr (qs_fr.set (by unfold qs_k; omega))
      generalize hσ3 : σ1.set 6 (.inl (0, 20, .inl R')) = σ3 at X3 F3 ⊢
      have z1 := X3.1
      have z4 := X3.2.2.2.1
      have z5 := X3.2.2.2.2.1
      have C3 := hC.fr F3
      obtain ⟨n3, hcc3⟩ := C3.cell
      cases b with
      | false =>
        refine nq_if_eq (pc' := 36) (tgt := 67) d_QS_aggregate_33 rfl (by decide) (fun _ => ?_) (fun h => absurd rfl h)
        refine nq_iinc (pc' := 70) d_QS_aggregate_67 rfl rfl (v := nI (k + 1)) (nI_1 k) (by decide) rfl ?_
        refine nq_goto (tgt := 20) d_QS_aggregate_70 (by decide) ?_
        exact ih (k + 1) cl σ3 R' (by omega) (by omega) F3 hk5 X3
      | true =>
        refine nq_if_eq (pc' := 36) (tgt := 67) d_QS_aggregate_33 rfl (by decide) (fun h => absurd h (by decide)) (fun _ => ?_)
        refine nq_aload_n (pc' := 37) d_QS_aggregate_36 rfl rfl rfl ?_
        refine nq_getf (pc' := 40) d_QS_aggregate_37 rfl fl_QS_28 (by first | assumption | exact nq_ga (by assumption) | exact nq_gs (by first | assumption | exact nq_ga (by assumption) | exact nq_gs (by first | assumption | exact nq_gs (by assumption) | exact nq_gn (by first | assumption | decide | omega | exact nq_ne1 (by assumption) (by assumption) | exact nq_ne2 (by assumption) (by assumption)) (by assumption) | exact nq_ga (by assumption)) | exact nq_gn (by first | assumption | decide | omega | exact nq_ne1 (by assumption) (by assumption) | exact nq_ne2 (by assumption) (by assumption)) (by first | assumption | exact nq_gs (by assumption) | exact nq_gn (by first | assumption | decide | omega | exact nq_ne1 (by assumption) (by assumption) | exact nq_ne2 (by assumption) (by assumption)) (by assumption) | exact nq_ga (by assumption))) | exact nq_gn (by first | assumption | decide | omega | exact nq_ne1 (by assumption) (by assumption) | exact nq_ne2 (by assumption) (by assumption)) (by first | assumption | exact nq_ga (by assumption) | exact nq_gs (by first | assumption | exact nq_gs (by assumption) | exact nq_gn (by first | assumption | decide | omega | exact nq_ne1 (by assumption) (by assumption) | exact nq_ne2 (by assumption) (by assumption)) (by assumption) | exact nq_ga (by assumption)) | exact nq_gn (by first | assumption | decide | omega | exact nq_ne1 (by assumption) (by assumption) | exact nq_ne2 (by assumption) (by assumption)) (by first | assumption | exact nq_gs (by assumption) | exact nq_gn (by first | assumption | decide | omega | exact nq_ne1 (by assumption) (by assumption) | exact nq_ne2 (by assumption) (by assumption)) (by assumption) | exact nq_ga (by assumption)))) rfl ?_
        refine nq_aload_n (pc' := 41) d_QS_aggregate_40 rfl rfl rfl ?_
        refine nq_callV (pc' := 44) d_QS_aggregate_41 rfl cl_QS_156 rfl (by first | assumption | exact nq_ga (by assumption) | exact nq_gs (by first | assumption | exact nq_ga (by assumption) | exact nq_gs (by first | assumption | exact nq_gs (by assumption) | exact nq_gn (by first | assumption | decide | omega | exact nq_ne1 (by assumption) (by assumption) | exact nq_ne2 (by assumption) (by assumption)) (by assumption) | exact nq_ga (by assumption)) | exact nq_gn (by first | assumption | decide | omega | exact nq_ne1 (by assumption) (by assumption) | exact nq_ne2 (by assumption) (by assumption)) (by first | assumption | exact nq_gs (by assumption) | exact nq_gn (by first | assumption | decide | omega | exact nq_ne1 (by assumption) (by assumption) | exact nq_ne2 (by assumption) (by assumption)) (by assumption) | exact nq_ga (by assumption))) | exact nq_gn (by first | assumption | decide | omega | exact nq_ne1 (by assumption) (by assumption) | exact nq_ne2 (by assumption) (by assumption)) (by first | assumption | exact nq_ga (by assumption) | exact nq_gs (by first | assumption | exact nq_gs (by assumption) | exact nq_gn (by first | assumption | decide | omega | exact nq_ne1 (by assumption) (by assumption) | exact nq_ne2 (by assumption) (by assumption)) (by assumption) | exact nq_ga (by assumption)) | exact nq_gn (by first | assumption | decide | omega | exact nq_ne1 (by assumption) (by assumption) | exact nq_ne2 (by assumption) (by assumption)) (by first | assumption | exact nq_gs (by assumption) | exact nq_gn (by first | assumption | decide | omega | exact nq_ne1 (by assumption) (by assumption) | exact nq_ne2 (by assumption) (by assumption)) (by assumption) | exact nq_ga (by assumption)))) rfl rfl (kc := 0) (ks := 0) (mc' := 0) (ms' := 0) (As := [.ref c]) (rest := []) rfl rfl (by decide) (qs_work (ρ := ρ) rfl (by omega) z4 z5 C3 hk4 (hk5.trans p2.symm)) (fun E σ4 hq => ?_) (fun v σ4 hq => ?_)
        · obtain ⟨R4, rfl, hq⟩ := hq
          simp only
          cases hw : sx_vs 7 ρ s.2.2.2.1 with
          | none =>
            rw [hw] at hq
            exact ⟨F3.tr (qs_fr.set (by unfold qs_k; omega)), hq, R4, ch, nn, [], X3.regs⟩
          | some xs =>
            rw [hw] at hq
            cases hq.1
        obtain ⟨R4, rfl, hq⟩ := hq
        simp only
        cases hw : sx_vs 7 ρ s.2.2.2.1 with
        | none =>
          rw [hw] at hq
          cases hq
        | some xs =>
        rw [hw] at hq
        obtain ⟨e1, e2, e3, e4⟩ := hq
        cases e1
        simp only
        rw [hv1] at e2
        match xs, e2 with
        | [x0], _ =>
        have r7 : R4 7 = x0 := e3 0 x0 rfl
        have X4 := X3.regs (R' := R4)
        have F4 : qs_fr σ (σ3.set 6 (.inl (0, 20, .inl R4))) := F3.tr (qs_fr.set (by unfold qs_k; omega))
        generalize hσ4 : σ3.set 6 (.inl (0, 20, .inl R4)) = σ4 at X4 F4 ⊢
        have C4 := hC.fr F4
        obtain ⟨n4', hcc4⟩ := C4.cell
        rw [if_pos hk] at hcc4
        have y1 := X4.1
        have y4 := X4.2.2.2.1
        have y5 := X4.2.2.2.2.1
        refine nq_aload_n (pc' := 45) d_QS_aggregate_44 rfl rfl rfl ?_
        refine nq_getf (pc' := 48) d_QS_aggregate_45 rfl fl_QS_205 (by first | assumption | exact nq_ga (by assumption) | exact nq_gs (by first | assumption | exact nq_ga (by assumption) | exact nq_gs (by first | assumption | exact nq_gs (by assumption) | exact nq_gn (by first | assumption | decide | omega | exact nq_ne1 (by assumption) (by assumption) | exact nq_ne2 (by assumption) (by assumption)) (by assumption) | exact nq_ga (by assumption)) | exact nq_gn (by first | assumption | decide | omega | exact nq_ne1 (by assumption) (by assumption) | exact nq_ne2 (by assumption) (by assumption)) (by first | assumption | exact nq_gs (by assumption) | exact nq_gn (by first | assumption | decide | omega | exact nq_ne1 (by assumption) (by assumption) | exact nq_ne2 (by assumption) (by assumption)) (by assumption) | exact nq_ga (by assumption))) | exact nq_gn (by first | assumption | decide | omega | exact nq_ne1 (by assumption) (by assumption) | exact nq_ne2 (by assumption) (by assumption)) (by first | assumption | exact nq_ga (by assumption) | exact nq_gs (by first | assumption | exact nq_gs (by assumption) | exact nq_gn (by first | assumption | decide | omega | exact nq_ne1 (by assumption) (by assumption) | exact nq_ne2 (by assumption) (by assumption)) (by assumption) | exact nq_ga (by assumption)) | exact nq_gn (by first | assumption | decide | omega | exact nq_ne1 (by assumption) (by assumption) | exact nq_ne2 (by assumption) (by assumption)) (by first | assumption | exact nq_gs (by assumption) | exact nq_gn (by first | assumption | decide | omega | exact nq_ne1 (by assumption) (by assumption) | exact nq_ne2 (by assumption) (by assumption)) (by assumption) | exact nq_ga (by assumption)))) rfl ?_
        refine nq_iload (pc' := 50) d_QS_aggregate_48 rfl rfl ?_
        refine nq_aload_n (pc' := 51) d_QS_aggregate_50 rfl rfl rfl ?_
        refine nq_getf (pc' := 54) d_QS_aggregate_51 rfl fl_QS_28 (by first | assumption | exact nq_ga (by assumption) | exact nq_gs (by first | assumption | exact nq_ga (by assumption) | exact nq_gs (by first | assumption | exact nq_gs (by assumption) | exact nq_gn (by first | assumption | decide | omega | exact nq_ne1 (by assumption) (by assumption) | exact nq_ne2 (by assumption) (by assumption)) (by assumption) | exact nq_ga (by assumption)) | exact nq_gn (by first | assumption | decide | omega | exact nq_ne1 (by assumption) (by assumption) | exact nq_ne2 (by assumption) (by assumption)) (by first | assumption | exact nq_gs (by assumption) | exact nq_gn (by first | assumption | decide | omega | exact nq_ne1 (by assumption) (by assumption) | exact nq_ne2 (by assumption) (by assumption)) (by assumption) | exact nq_ga (by assumption))) | exact nq_gn (by first | assumption | decide | omega | exact nq_ne1 (by assumption) (by assumption) | exact nq_ne2 (by assumption) (by assumption)) (by first | assumption | exact nq_ga (by assumption) | exact nq_gs (by first | assumption | exact nq_gs (by assumption) | exact nq_gn (by first | assumption | decide | omega | exact nq_ne1 (by assumption) (by assumption) | exact nq_ne2 (by assumption) (by assumption)) (by assumption) | exact nq_ga (by assumption)) | exact nq_gn (by first | assumption | decide | omega | exact nq_ne1 (by assumption) (by assumption) | exact nq_ne2 (by assumption) (by assumption)) (by first | assumption | exact nq_gs (by assumption) | exact nq_gn (by first | assumption | decide | omega | exact nq_ne1 (by assumption) (by assumption) | exact nq_ne2 (by assumption) (by assumption)) (by assumption) | exact nq_ga (by assumption)))) rfl ?_
        refine nq_bipush (v := 7) (pc' := 56) d_QS_aggregate_54 rfl (by decide) ?_
        refine nq_callVR (pc' := 59) d_QS_aggregate_56 rfl cl_QS_162 rfl (by first | assumption | exact nq_ga (by assumption) | exact nq_gs (by first | assumption | exact nq_ga (by assumption) | exact nq_gs (by first | assumption | exact nq_gs (by assumption) | exact nq_gn (by first | assumption | decide | omega | exact nq_ne1 (by assumption) (by assumption) | exact nq_ne2 (by assumption) (by assumption)) (by assumption) | exact nq_ga (by assumption)) | exact nq_gn (by first | assumption | decide | omega | exact nq_ne1 (by assumption) (by assumption) | exact nq_ne2 (by assumption) (by assumption)) (by first | assumption | exact nq_gs (by assumption) | exact nq_gn (by first | assumption | decide | omega | exact nq_ne1 (by assumption) (by assumption) | exact nq_ne2 (by assumption) (by assumption)) (by assumption) | exact nq_ga (by assumption))) | exact nq_gn (by first | assumption | decide | omega | exact nq_ne1 (by assumption) (by assumption) | exact nq_ne2 (by assumption) (by assumption)) (by first | assumption | exact nq_ga (by assumption) | exact nq_gs (by first | assumption | exact nq_gs (by assumption) | exact nq_gn (by first | assumption | decide | omega | exact nq_ne1 (by assumption) (by assumption) | exact nq_ne2 (by assumption) (by assumption)) (by assumption) | exact nq_ga (by assumption)) | exact nq_gn (by first | assumption | decide | omega | exact nq_ne1 (by assumption) (by assumption) | exact nq_ne2 (by assumption) (by assumption)) (by first | assumption | exact nq_gs (by assumption) | exact nq_gn (by first | assumption | decide | omega | exact nq_ne1 (by assumption) (by assumption) | exact nq_ne2 (by assumption) (by assumption)) (by assumption) | exact nq_ga (by assumption)))) rfl rfl (kc := 0) (ks := 0) (mc' := 0) (ms' := 0) (As := [.int (nI 7)]) (rest := [.int (cl.foldl (cg_f s.2.2.2.2.1) (cg_0 s.2.2.2.2.1)), .int (nI s.2.2.2.2.1)]) rfl rfl (Nat.le_of_ble_eq_true rfl) (k_Machine_get (r := 7) y4 y5 (by decide)) ?_
        rw [r7]
        refine nq_callSR (pc' := 62) d_QS_aggregate_59 rfl cl_QS_211 st_QS_211 rfl (kc := 0) (ks := 0) (mc' := 0) (ms' := 0) (As := [.int (nI s.2.2.2.2.1), .int (cl.foldl (cg_f s.2.2.2.2.1) (cg_0 s.2.2.2.2.1)), .int x0]) (rest := []) rfl rfl (by decide) (k_QS_fold hfn) ?_
        refine nq_istore (pc' := 64) d_QS_aggregate_62 rfl (by decide) rfl ?_
        refine nq_iinc (pc' := 67) d_QS_aggregate_64 rfl rfl (v := nI (cl.length + 1)) (nI_1 _) (by decide) rfl ?_
        refine nq_iinc (pc' := 70) d_QS_aggregate_67 rfl rfl (v := nI (k + 1)) (nI_1 k) (by decide) rfl ?_
        refine nq_goto (tgt := 20) d_QS_aggregate_70 (by decide) ?_
        have := ih (k + 1) (cl ++ [x0]) σ4 R4 (by omega) (by simp; omega) F4 ((e4 6 (by decide)).trans hk5) X4
        rw [List.foldl_append, List.length_append] at this
        exact this
  have h1 := hX.1
  obtain ⟨n, hc⟩ := hC.cell
  rw [if_pos hk] at hc
  refine nq_mk' (lv := [some (.ref 0), some (.ref c), none, none, none, none]) (by decide +kernel) rfl (Nat.le_of_ble_eq_true rfl) rfl ?_
  refine nq_aload_n (pc' := 1) d_QS_aggregate_0 rfl rfl rfl ?_
  refine nq_aload_n (pc' := 2) d_QS_aggregate_1 rfl rfl rfl ?_
  refine nq_callVR (pc' := 5) d_QS_aggregate_2 rfl cl_QS_191 rfl (by first | assumption | exact nq_ga (by assumption) | exact nq_gs (by first | assumption | exact nq_ga (by assumption) | exact nq_gs (by first | assumption | exact nq_gs (by assumption) | exact nq_gn (by first | assumption | decide | omega | exact nq_ne1 (by assumption) (by assumption) | exact nq_ne2 (by assumption) (by assumption)) (by assumption) | exact nq_ga (by assumption)) | exact nq_gn (by first | assumption | decide | omega | exact nq_ne1 (by assumption) (by assumption) | exact nq_ne2 (by assumption) (by assumption)) (by first | assumption | exact nq_gs (by assumption) | exact nq_gn (by first | assumption | decide | omega | exact nq_ne1 (by assumption) (by assumption) | exact nq_ne2 (by assumption) (by assumption)) (by assumption) | exact nq_ga (by assumption))) | exact nq_gn (by first | assumption | decide | omega | exact nq_ne1 (by assumption) (by assumption) | exact nq_ne2 (by assumption) (by assumption)) (by first | assumption | exact nq_ga (by assumption) | exact nq_gs (by first | assumption | exact nq_gs (by assumption) | exact nq_gn (by first | assumption | decide | omega | exact nq_ne1 (by assumption) (by assumption) | exact nq_ne2 (by assumption) (by assumption)) (by assumption) | exact nq_ga (by assumption)) | exact nq_gn (by first | assumption | decide | omega | exact nq_ne1 (by assumption) (by assumption) | exact nq_ne2 (by assumption) (by assumption)) (by first | assumption | exact nq_gs (by assumption) | exact nq_gn (by first | assumption | decide | omega | exact nq_ne1 (by assumption) (by assumption) | exact nq_ne2 (by assumption) (by assumption)) (by assumption) | exact nq_ga (by assumption)))) rfl rfl (kc := 0) (ks := 0) (mc' := 0) (ms' := 0) (As := [.ref c]) (rest := []) rfl rfl (by decide) (k_QS_pairsOf hX hC (by omega)) ?_
  rw [hNN]
  refine nq_istore_n (pc' := 6) d_QS_aggregate_5 rfl rfl (by decide) rfl ?_
  refine nq_iconst (v := 0) (pc' := 7) d_QS_aggregate_6 rfl (by decide) ?_
  refine nq_istore_n (pc' := 8) d_QS_aggregate_7 rfl rfl (by decide) rfl ?_
  refine nq_aload_n (pc' := 9) d_QS_aggregate_8 rfl rfl rfl ?_
  refine nq_getf (pc' := 12) d_QS_aggregate_9 rfl fl_QS_205 (by first | assumption | exact nq_ga (by assumption) | exact nq_gs (by first | assumption | exact nq_ga (by assumption) | exact nq_gs (by first | assumption | exact nq_gs (by assumption) | exact nq_gn (by first | assumption | decide | omega | exact nq_ne1 (by assumption) (by assumption) | exact nq_ne2 (by assumption) (by assumption)) (by assumption) | exact nq_ga (by assumption)) | exact nq_gn (by first | assumption | decide | omega | exact nq_ne1 (by assumption) (by assumption) | exact nq_ne2 (by assumption) (by assumption)) (by first | assumption | exact nq_gs (by assumption) | exact nq_gn (by first | assumption | decide | omega | exact nq_ne1 (by assumption) (by assumption) | exact nq_ne2 (by assumption) (by assumption)) (by assumption) | exact nq_ga (by assumption))) | exact nq_gn (by first | assumption | decide | omega | exact nq_ne1 (by assumption) (by assumption) | exact nq_ne2 (by assumption) (by assumption)) (by first | assumption | exact nq_ga (by assumption) | exact nq_gs (by first | assumption | exact nq_gs (by assumption) | exact nq_gn (by first | assumption | decide | omega | exact nq_ne1 (by assumption) (by assumption) | exact nq_ne2 (by assumption) (by assumption)) (by assumption) | exact nq_ga (by assumption)) | exact nq_gn (by first | assumption | decide | omega | exact nq_ne1 (by assumption) (by assumption) | exact nq_ne2 (by assumption) (by assumption)) (by first | assumption | exact nq_gs (by assumption) | exact nq_gn (by first | assumption | decide | omega | exact nq_ne1 (by assumption) (by assumption) | exact nq_ne2 (by assumption) (by assumption)) (by assumption) | exact nq_ga (by assumption)))) rfl ?_
  refine nq_callSR (pc' := 15) d_QS_aggregate_12 rfl cl_QS_208 st_QS_208 rfl (kc := 0) (ks := 0) (mc' := 0) (ms' := 0) (As := [.int (nI s.2.2.2.2.1)]) (rest := []) rfl rfl (by decide) (k_QS_foldOfNone hf7) ?_
  refine nq_istore (pc' := 17) d_QS_aggregate_15 rfl (by decide) rfl ?_
  refine nq_iconst (v := 0) (pc' := 18) d_QS_aggregate_17 rfl (by decide) ?_
  refine nq_istore (pc' := 20) d_QS_aggregate_18 rfl (by decide) rfl ?_
  have := loop NN 0 [] σ R (by omega) (by simp) qs_fr.rf rfl hX
  rw [List.drop_zero] at this
  exact this
end QA
