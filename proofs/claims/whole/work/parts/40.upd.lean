/-! THE STORE: update -/
def sx_one (c : Nat) (r : nq_Rw) (x : Option Int32) : nq_Rw := match x with
  | none => r
  | some v => rw_s r c v
theorem sx_put_app (c : Nat) (r : nq_Rw) (x : Option Int32) : ∀ (a : List nq_Rw) (b : List (Option Int32)), a.length = b.length → sx_put c (a ++ [r]) (b ++ [x]) = sx_put c a b ++ [sx_one c r x]
  | [], [], _ => by cases x <;> rfl
  | y :: a, none :: b, h => by
    simp only [List.cons_append, sx_put]
    rw [sx_put_app c r x a b (by simpa using h)]
  | y :: a, some v :: b, h => by
    simp only [List.cons_append, sx_put]
    rw [sx_put_app c r x a b (by simpa using h)]
theorem sx_put_len (c : Nat) : ∀ (a : List nq_Rw) (b : List (Option Int32)), (sx_put c a b).length = a.length
  | [], b => by cases b <;> rfl
  | y :: a, [] => rfl
  | y :: a, none :: b => by simp only [sx_put, List.length_cons, sx_put_len c a b]
  | y :: a, some v :: b => by simp only [sx_put, List.length_cons, sx_put_len c a b]
/-- the rows up to k are through -/
def sx_U (c : Nat) (rows : List nq_Rw) (m : List (Option Int32)) (k : Nat) : List nq_Rw := sx_put c (rows.take k) (m.take k) ++ rows.drop k
theorem sx_U_st {c : Nat} {rows : List nq_Rw} {m : List (Option Int32)} {k : Nat} {r : nq_Rw} {x : Option Int32} (hr : rows[k]? = some r) (hm : m[k]? = some x) : (sx_U c rows m k)[k]? = some r ∧ (sx_U c rows m k).set k (sx_one c r x) = sx_U c rows m (k + 1) := by
  obtain ⟨h1, h2⟩ := List.getElem?_eq_some_iff.mp hr
  obtain ⟨h3, h4⟩ := List.getElem?_eq_some_iff.mp hm
  have e1 : rows.take (k + 1) = rows.take k ++ [r] := by rw [List.take_succ_eq_append_getElem h1, h2]
  have e2 : m.take (k + 1) = m.take k ++ [x] := by rw [List.take_succ_eq_append_getElem h3, h4]
  have e3 : rows.drop k = r :: rows.drop (k + 1) := by rw [List.drop_eq_getElem_cons h1, h2]
  have hl : (sx_put c (rows.take k) (m.take k)).length = k := by rw [sx_put_len, List.length_take]; omega
  unfold sx_U
  rw [e1, e2, e3, sx_put_app _ _ _ _ _ (by simp only [List.length_take]; omega)]
  constructor
  · rw [List.getElem?_append_right (by omega), hl, Nat.sub_self]
    rfl
  · rw [List.set_append_right _ _ (by omega), hl, Nat.sub_self]
    simp
section QU
variable {G : nq_G} {d : Nat} {σ : nq_S} {sp c : Nat} {bg nt st fi : Int32} {tb : sx_T} {R ch nn : Nat → Int32} {es : List nq_Er} {size width : Int32} {s : sp_St}
theorem tb_set_self {t : Nat} (h3 : tb.length = 3) (ht : t < 3) : tb.set t (tb.getD t []) = tb := by
  refine List.ext_getElem? (fun j => ?_)
  by_cases hj : t = j
  · subst hj
    rw [List.getElem?_set_self (by omega), List.getD_eq_getElem?_getD, List.getElem?_eq_getElem (by omega)]
    rfl
  · rw [List.getElem?_set_ne hj]
theorem tb_get_set {t : Nat} {rows : List nq_Rw} (h3 : tb.length = 3) (ht : t < 3) : (tb.set t rows).getD t [] = rows := by simp [List.getD, h3, ht]
theorem k_QS_update (hX : qs_X σ sp bg nt st fi tb R ch nn es 0 width) (hC : qs_C σ c s) (hk : s.1 = 85) (hD : 5 ≤ d) : nq_JM G d 0 0 m_QS_update [.ref 0, .ref c] σ (xq_Q σ sp bg nt st fi tb width s.1 (sx_exec tb s (R 6))) := by
  obtain ⟨d, rfl⟩ : ∃ d', d = d' + 1 := ⟨d - 1, by omega⟩
  obtain ⟨d2, rfl⟩ : ∃ d2, d = d2 + 2 := ⟨d - 2, by omega⟩
  have hu := hC.2.1.u3 (by omega)
  have ht := hC.2.1.2.1
  have h3tb := hX.2.2.1.1
  have hl20 := tb_len (hX.2.2.1.2 s.2.1 ht)
  obtain ⟨hv1, hfn⟩ := hC.2.1.2.2.2.1.2.2.1 hk
  unfold sx_exec
  rw [if_neg (by omega), if_neg (by omega), if_pos hk]
  generalize hrows : tb.getD s.2.1 [] = rows at hl20 ⊢
  have loop2 : ∀ (n k : Nat) (cl : List (Option Int32)) (σ1 : nq_S) (R1 ch1 nn1 : Nat → Int32), n + k = rows.length → cl.length = rows.length → (∀ j x, cl[j]? = some x → ch1 j = (if x.isSome then 1 else 0) ∧ ∀ v, x = some v → nn1 j = v) → qs_fr σ σ1 → qs_X σ1 sp bg nt st fi (tb.set s.2.1 (sx_U s.2.2.2.2.1 rows cl k)) R1 ch1 nn1 es 0 width → nq_J G (d2 + 2 + 1) 0 0 m_QS_update 84 [some (.ref 0), some (.ref c), some (.ref (18 + 84 * s.2.1)), some (.int (nI (sx_many cl))), some (.int (nI k))] [] σ1 (xq_Q σ sp bg nt st fi tb width s.1 (.inr (nI (sx_many cl), tb.set s.2.1 (sx_put s.2.2.2.2.1 rows cl), [], 0))) := by
    intro n
    induction n with
    | zero =>
      intro k cl σ1 R1 ch1 nn1 hn hcl hch F1 X1
      have z1 := X1.1
      have hT := X1.2.2.1.2 s.2.1 ht
      rw [tb_get_set h3tb ht] at hT
      obtain ⟨used, htc⟩ := hT.cell
      have hlen : (sx_U s.2.2.2.2.1 rows cl k).length = rows.length := by
        unfold sx_U
        rw [List.length_append, sx_put_len, List.length_take, List.length_drop]
        omega
      have eU : sx_U s.2.2.2.2.1 rows cl k = sx_put s.2.2.2.2.1 rows cl := by
        unfold sx_U
        rw [List.take_of_length_le (by omega), List.take_of_length_le (by omega), List.drop_of_length_le (by omega), List.append_nil]
      refine nq_iload (pc' := 86) d_QS_update_84 rfl rfl ?_
      refine nq_aload_n (pc' := 87) d_QS_update_86 rfl rfl rfl ?_
      refine nq_callVR (pc' := 90) d_QS_update_87 rfl cl_QS_96 rfl (by first | assumption | exact nq_ga (by assumption) | exact nq_gs (by first | assumption | exact nq_ga (by assumption) | exact nq_gs (by first | assumption | exact nq_gs (by assumption) | exact nq_gn (by first | assumption | decide | omega | exact nq_ne1 (by assumption) (by assumption) | exact nq_ne2 (by assumption) (by assumption)) (by assumption) | exact nq_ga (by assumption)) | exact nq_gn (by first | assumption | decide | omega | exact nq_ne1 (by assumption) (by assumption) | exact nq_ne2 (by assumption) (by assumption)) (by first | assumption | exact nq_gs (by assumption) | exact nq_gn (by first | assumption | decide | omega | exact nq_ne1 (by assumption) (by assumption) | exact nq_ne2 (by assumption) (by assumption)) (by assumption) | exact nq_ga (by assumption))) | exact nq_gn (by first | assumption | decide | omega | exact nq_ne1 (by assumption) (by assumption) | exact nq_ne2 (by assumption) (by assumption)) (by first | assumption | exact nq_ga (by assumption) | exact nq_gs (by first | assumption | exact nq_gs (by assumption) | exact nq_gn (by first | assumption | decide | omega | exact nq_ne1 (by assumption) (by assumption) | exact nq_ne2 (by assumption) (by assumption)) (by assumption) | exact nq_ga (by assumption)) | exact nq_gn (by first | assumption | decide | omega | exact nq_ne1 (by assumption) (by assumption) | exact nq_ne2 (by assumption) (by assumption)) (by first | assumption | exact nq_gs (by assumption) | exact nq_gn (by first | assumption | decide | omega | exact nq_ne1 (by assumption) (by assumption) | exact nq_ne2 (by assumption) (by assumption)) (by assumption) | exact nq_ga (by assumption)))) rfl rfl (kc := 0) (ks := 0) (mc' := 0) (ms' := 0) (As := []) (rest := [.int (nI k)]) rfl rfl (Nat.le_of_ble_eq_true rfl) (t_Table_size hT) ?_
      rw [hlen]
      refine nq_icmp_ge (pc' := 93) (tgt := 126) d_QS_update_90 rfl (by decide) (fun _ => ?_) (fun h => absurd ((nI_leI (by omega) (by omega)).mpr (by omega)) h)
      refine nq_aload_n (pc' := 127) d_QS_update_126 rfl rfl rfl ?_
      refine nq_iload_n (pc' := 128) d_QS_update_127 rfl rfl rfl ?_
      rw [eU] at X1
      refine nq_callVR (pc' := 131) d_QS_update_128 rfl cl_QS_176 rfl (by first | assumption | exact nq_ga (by assumption) | exact nq_gs (by first | assumption | exact nq_ga (by assumption) | exact nq_gs (by first | assumption | exact nq_gs (by assumption) | exact nq_gn (by first | assumption | decide | omega | exact nq_ne1 (by assumption) (by assumption) | exact nq_ne2 (by assumption) (by assumption)) (by assumption) | exact nq_ga (by assumption)) | exact nq_gn (by first | assumption | decide | omega | exact nq_ne1 (by assumption) (by assumption) | exact nq_ne2 (by assumption) (by assumption)) (by first | assumption | exact nq_gs (by assumption) | exact nq_gn (by first | assumption | decide | omega | exact nq_ne1 (by assumption) (by assumption) | exact nq_ne2 (by assumption) (by assumption)) (by assumption) | exact nq_ga (by assumption))) | exact nq_gn (by first | assumption | decide | omega | exact nq_ne1 (by assumption) (by assumption) | exact nq_ne2 (by assumption) (by assumption)) (by first | assumption | exact nq_ga (by assumption) | exact nq_gs (by first | assumption | exact nq_gs (by assumption) | exact nq_gn (by first | assumption | decide | omega | exact nq_ne1 (by assumption) (by assumption) | exact nq_ne2 (by assumption) (by assumption)) (by assumption) | exact nq_ga (by assumption)) | exact nq_gn (by first | assumption | decide | omega | exact nq_ne1 (by assumption) (by assumption) | exact nq_ne2 (by assumption) (by assumption)) (by first | assumption | exact nq_gs (by assumption) | exact nq_gn (by first | assumption | decide | omega | exact nq_ne1 (by assumption) (by assumption) | exact nq_ne2 (by assumption) (by assumption)) (by assumption) | exact nq_ga (by assumption)))) rfl rfl (kc := 0) (ks := 0) (mc' := 0) (ms' := 0) (As := [.int (nI (sx_many cl))]) (rest := []) rfl rfl (by decide) (k_QS_note X1) ?_
      refine nq_iload_n (pc' := 132) d_QS_update_131 rfl rfl rfl ?_
      refine nq_iret d_QS_update_132 rfl rfl (xq_end (by rw [hk]; rfl) F1 X1)
    | succ n ih =>
      intro k cl σ1 R1 ch1 nn1 hn hcl hch F1 X1
      have X1' := X1
      have C1 := hC.fr F1
      obtain ⟨n', hcc⟩ := C1.cell
      rw [if_pos hk] at hcc
      obtain ⟨k1, ⟨g', k2, k2'⟩, ⟨k3, k3'⟩, k4, k5, k6, k7, k8⟩ := X1
      have hT := k3' s.2.1 ht
      rw [tb_get_set h3tb ht] at hT
      obtain ⟨used, htc⟩ := hT.cell
      have hlen : (sx_U s.2.2.2.2.1 rows cl k).length = rows.length := by
        unfold sx_U
        rw [List.length_append, sx_put_len, List.length_take, List.length_drop]
        omega
      have hr := List.getElem?_eq_some_iff.mpr ⟨show k < rows.length by omega, rfl⟩
      have hm := List.getElem?_eq_some_iff.mpr ⟨show k < cl.length by omega, rfl⟩
      obtain ⟨hc1, hc2⟩ := hch k _ hm
      obtain ⟨u1, u2⟩ := sx_U_st (c := s.2.2.2.2.1) hr hm
      refine nq_iload (pc' := 86) d_QS_update_84 rfl rfl ?_
      refine nq_aload_n (pc' := 87) d_QS_update_86 rfl rfl rfl ?_
      refine nq_callVR (pc' := 90) d_QS_update_87 rfl cl_QS_96 rfl (by first | assumption | exact nq_ga (by assumption) | exact nq_gs (by first | assumption | exact nq_ga (by assumption) | exact nq_gs (by first | assumption | exact nq_gs (by assumption) | exact nq_gn (by first | assumption | decide | omega | exact nq_ne1 (by assumption) (by assumption) | exact nq_ne2 (by assumption) (by assumption)) (by assumption) | exact nq_ga (by assumption)) | exact nq_gn (by first | assumption | decide | omega | exact nq_ne1 (by assumption) (by assumption) | exact nq_ne2 (by assumption) (by assumption)) (by first | assumption | exact nq_gs (by assumption) | exact nq_gn (by first | assumption | decide | omega | exact nq_ne1 (by assumption) (by assumption) | exact nq_ne2 (by assumption) (by assumption)) (by assumption) | exact nq_ga (by assumption))) | exact nq_gn (by first | assumption | decide | omega | exact nq_ne1 (by assumption) (by assumption) | exact nq_ne2 (by assumption) (by assumption)) (by first | assumption | exact nq_ga (by assumption) | exact nq_gs (by first | assumption | exact nq_gs (by assumption) | exact nq_gn (by first | assumption | decide | omega | exact nq_ne1 (by assumption) (by assumption) | exact nq_ne2 (by assumption) (by assumption)) (by assumption) | exact nq_ga (by assumption)) | exact nq_gn (by first | assumption | decide | omega | exact nq_ne1 (by assumption) (by assumption) | exact nq_ne2 (by assumption) (by assumption)) (by first | assumption | exact nq_gs (by assumption) | exact nq_gn (by first | assumption | decide | omega | exact nq_ne1 (by assumption) (by assumption) | exact nq_ne2 (by assumption) (by assumption)) (by assumption) | exact nq_ga (by assumption)))) rfl rfl (kc := 0) (ks := 0) (mc' := 0) (ms' := 0) (As := []) (rest := [.int (nI k)]) rfl rfl (Nat.le_of_ble_eq_true rfl) (t_Table_size hT) ?_
      rw [hlen]
      refine nq_icmp_ge (pc' := 93) (tgt := 126) d_QS_update_90 rfl (by decide) (fun h => absurd ((nI_leI (by omega) (by omega)).mp h) (by omega)) (fun _ => ?_)
      refine nq_aload_n (pc' := 94) d_QS_update_93 rfl rfl rfl ?_
      refine nq_getf (pc' := 97) d_QS_update_94 rfl fl_QS_45 (by first | assumption | exact nq_ga (by assumption) | exact nq_gs (by first | assumption | exact nq_ga (by assumption) | exact nq_gs (by first | assumption | exact nq_gs (by assumption) | exact nq_gn (by first | assumption | decide | omega | exact nq_ne1 (by assumption) (by assumption) | exact nq_ne2 (by assumption) (by assumption)) (by assumption) | exact nq_ga (by assumption)) | exact nq_gn (by first | assumption | decide | omega | exact nq_ne1 (by assumption) (by assumption) | exact nq_ne2 (by assumption) (by assumption)) (by first | assumption | exact nq_gs (by assumption) | exact nq_gn (by first | assumption | decide | omega | exact nq_ne1 (by assumption) (by assumption) | exact nq_ne2 (by assumption) (by assumption)) (by assumption) | exact nq_ga (by assumption))) | exact nq_gn (by first | assumption | decide | omega | exact nq_ne1 (by assumption) (by assumption) | exact nq_ne2 (by assumption) (by assumption)) (by first | assumption | exact nq_ga (by assumption) | exact nq_gs (by first | assumption | exact nq_gs (by assumption) | exact nq_gn (by first | assumption | decide | omega | exact nq_ne1 (by assumption) (by assumption) | exact nq_ne2 (by assumption) (by assumption)) (by assumption) | exact nq_ga (by assumption)) | exact nq_gn (by first | assumption | decide | omega | exact nq_ne1 (by assumption) (by assumption) | exact nq_ne2 (by assumption) (by assumption)) (by first | assumption | exact nq_gs (by assumption) | exact nq_gn (by first | assumption | decide | omega | exact nq_ne1 (by assumption) (by assumption) | exact nq_ne2 (by assumption) (by assumption)) (by assumption) | exact nq_ga (by assumption)))) rfl ?_
      refine nq_iload (pc' := 99) d_QS_update_97 rfl rfl ?_
      refine nq_zald (pc' := 100) d_QS_update_99 rfl (by first | assumption | exact nq_ga (by assumption) | exact nq_gs (by first | assumption | exact nq_ga (by assumption) | exact nq_gs (by first | assumption | exact nq_gs (by assumption) | exact nq_gn (by first | assumption | decide | omega | exact nq_ne1 (by assumption) (by assumption) | exact nq_ne2 (by assumption) (by assumption)) (by assumption) | exact nq_ga (by assumption)) | exact nq_gn (by first | assumption | decide | omega | exact nq_ne1 (by assumption) (by assumption) | exact nq_ne2 (by assumption) (by assumption)) (by first | assumption | exact nq_gs (by assumption) | exact nq_gn (by first | assumption | decide | omega | exact nq_ne1 (by assumption) (by assumption) | exact nq_ne2 (by assumption) (by assumption)) (by assumption) | exact nq_ga (by assumption))) | exact nq_gn (by first | assumption | decide | omega | exact nq_ne1 (by assumption) (by assumption) | exact nq_ne2 (by assumption) (by assumption)) (by first | assumption | exact nq_ga (by assumption) | exact nq_gs (by first | assumption | exact nq_gs (by assumption) | exact nq_gn (by first | assumption | decide | omega | exact nq_ne1 (by assumption) (by assumption) | exact nq_ne2 (by assumption) (by assumption)) (by assumption) | exact nq_ga (by assumption)) | exact nq_gn (by first | assumption | decide | omega | exact nq_ne1 (by assumption) (by assumption) | exact nq_ne2 (by assumption) (by assumption)) (by first | assumption | exact nq_gs (by assumption) | exact nq_gn (by first | assumption | decide | omega | exact nq_ne1 (by assumption) (by assumption) | exact nq_ne2 (by assumption) (by assumption)) (by assumption) | exact nq_ga (by assumption)))) rfl (j := k) rfl (by omega) (by decide) ?_
      rw [hc1]
      cases hx : cl[k] with
      | none =>
        rw [hx] at u2
        rw [if_neg (by simp)]
        refine nq_if_eq (pc' := 103) (tgt := 120) d_QS_update_100 rfl (by decide) (fun _ => ?_) (fun h => absurd rfl h)
        refine nq_iinc (pc' := 123) d_QS_update_120 rfl rfl (v := nI (k + 1)) (nI_1 k) (by decide) rfl ?_
        refine nq_goto (tgt := 84) d_QS_update_123 (by decide) ?_
        have eU : sx_U s.2.2.2.2.1 rows cl k = sx_U s.2.2.2.2.1 rows cl (k + 1) := by
          rw [← u2]
          exact (List.ext_getElem? (fun j => by
            by_cases hj : k = j
            · subst hj
              rw [List.getElem?_set_self (by omega), u1]
              rfl
            · rw [List.getElem?_set_ne hj])).symm
        rw [eU] at X1'
        exact ih (k + 1) cl σ1 R1 ch1 nn1 (by omega) hcl hch F1 X1'
      | some w =>
        rw [hx] at u2
        have hnn := hc2 w hx
        rw [if_pos (by simp)]
        refine nq_if_eq (pc' := 103) (tgt := 120) d_QS_update_100 rfl (by decide) (fun h => absurd h (by decide)) (fun _ => ?_)
        refine nq_aload_n (pc' := 104) d_QS_update_103 rfl rfl rfl ?_
        refine nq_iload (pc' := 106) d_QS_update_104 rfl rfl ?_
        refine nq_aload_n (pc' := 107) d_QS_update_106 rfl rfl rfl ?_
        refine nq_getf (pc' := 110) d_QS_update_107 rfl fl_QS_186 (by first | assumption | exact nq_ga (by assumption) | exact nq_gs (by first | assumption | exact nq_ga (by assumption) | exact nq_gs (by first | assumption | exact nq_gs (by assumption) | exact nq_gn (by first | assumption | decide | omega | exact nq_ne1 (by assumption) (by assumption) | exact nq_ne2 (by assumption) (by assumption)) (by assumption) | exact nq_ga (by assumption)) | exact nq_gn (by first | assumption | decide | omega | exact nq_ne1 (by assumption) (by assumption) | exact nq_ne2 (by assumption) (by assumption)) (by first | assumption | exact nq_gs (by assumption) | exact nq_gn (by first | assumption | decide | omega | exact nq_ne1 (by assumption) (by assumption) | exact nq_ne2 (by assumption) (by assumption)) (by assumption) | exact nq_ga (by assumption))) | exact nq_gn (by first | assumption | decide | omega | exact nq_ne1 (by assumption) (by assumption) | exact nq_ne2 (by assumption) (by assumption)) (by first | assumption | exact nq_ga (by assumption) | exact nq_gs (by first | assumption | exact nq_gs (by assumption) | exact nq_gn (by first | assumption | decide | omega | exact nq_ne1 (by assumption) (by assumption) | exact nq_ne2 (by assumption) (by assumption)) (by assumption) | exact nq_ga (by assumption)) | exact nq_gn (by first | assumption | decide | omega | exact nq_ne1 (by assumption) (by assumption) | exact nq_ne2 (by assumption) (by assumption)) (by first | assumption | exact nq_gs (by assumption) | exact nq_gn (by first | assumption | decide | omega | exact nq_ne1 (by assumption) (by assumption) | exact nq_ne2 (by assumption) (by assumption)) (by assumption) | exact nq_ga (by assumption)))) rfl ?_
        refine nq_aload_n (pc' := 111) d_QS_update_110 rfl rfl rfl ?_
        refine nq_getf (pc' := 114) d_QS_update_111 rfl fl_QS_49 (by first | assumption | exact nq_ga (by assumption) | exact nq_gs (by first | assumption | exact nq_ga (by assumption) | exact nq_gs (by first | assumption | exact nq_gs (by assumption) | exact nq_gn (by first | assumption | decide | omega | exact nq_ne1 (by assumption) (by assumption) | exact nq_ne2 (by assumption) (by assumption)) (by assumption) | exact nq_ga (by assumption)) | exact nq_gn (by first | assumption | decide | omega | exact nq_ne1 (by assumption) (by assumption) | exact nq_ne2 (by assumption) (by assumption)) (by first | assumption | exact nq_gs (by assumption) | exact nq_gn (by first | assumption | decide | omega | exact nq_ne1 (by assumption) (by assumption) | exact nq_ne2 (by assumption) (by assumption)) (by assumption) | exact nq_ga (by assumption))) | exact nq_gn (by first | assumption | decide | omega | exact nq_ne1 (by assumption) (by assumption) | exact nq_ne2 (by assumption) (by assumption)) (by first | assumption | exact nq_ga (by assumption) | exact nq_gs (by first | assumption | exact nq_gs (by assumption) | exact nq_gn (by first | assumption | decide | omega | exact nq_ne1 (by assumption) (by assumption) | exact nq_ne2 (by assumption) (by assumption)) (by assumption) | exact nq_ga (by assumption)) | exact nq_gn (by first | assumption | decide | omega | exact nq_ne1 (by assumption) (by assumption) | exact nq_ne2 (by assumption) (by assumption)) (by first | assumption | exact nq_gs (by assumption) | exact nq_gn (by first | assumption | decide | omega | exact nq_ne1 (by assumption) (by assumption) | exact nq_ne2 (by assumption) (by assumption)) (by assumption) | exact nq_ga (by assumption)))) rfl ?_
        refine nq_iload (pc' := 116) d_QS_update_114 rfl rfl ?_
        refine nq_iald (pc' := 117) d_QS_update_116 rfl (by first | assumption | exact nq_ga (by assumption) | exact nq_gs (by first | assumption | exact nq_ga (by assumption) | exact nq_gs (by first | assumption | exact nq_gs (by assumption) | exact nq_gn (by first | assumption | decide | omega | exact nq_ne1 (by assumption) (by assumption) | exact nq_ne2 (by assumption) (by assumption)) (by assumption) | exact nq_ga (by assumption)) | exact nq_gn (by first | assumption | decide | omega | exact nq_ne1 (by assumption) (by assumption) | exact nq_ne2 (by assumption) (by assumption)) (by first | assumption | exact nq_gs (by assumption) | exact nq_gn (by first | assumption | decide | omega | exact nq_ne1 (by assumption) (by assumption) | exact nq_ne2 (by assumption) (by assumption)) (by assumption) | exact nq_ga (by assumption))) | exact nq_gn (by first | assumption | decide | omega | exact nq_ne1 (by assumption) (by assumption) | exact nq_ne2 (by assumption) (by assumption)) (by first | assumption | exact nq_ga (by assumption) | exact nq_gs (by first | assumption | exact nq_gs (by assumption) | exact nq_gn (by first | assumption | decide | omega | exact nq_ne1 (by assumption) (by assumption) | exact nq_ne2 (by assumption) (by assumption)) (by assumption) | exact nq_ga (by assumption)) | exact nq_gn (by first | assumption | decide | omega | exact nq_ne1 (by assumption) (by assumption) | exact nq_ne2 (by assumption) (by assumption)) (by first | assumption | exact nq_gs (by assumption) | exact nq_gn (by first | assumption | decide | omega | exact nq_ne1 (by assumption) (by assumption) | exact nq_ne2 (by assumption) (by assumption)) (by assumption) | exact nq_ga (by assumption)))) rfl (j := k) rfl (by omega) (by decide) ?_
        rw [hnn]
        refine nq_callV (pc' := 120) d_QS_update_117 rfl cl_QS_189 rfl (by first | assumption | exact nq_ga (by assumption) | exact nq_gs (by first | assumption | exact nq_ga (by assumption) | exact nq_gs (by first | assumption | exact nq_gs (by assumption) | exact nq_gn (by first | assumption | decide | omega | exact nq_ne1 (by assumption) (by assumption) | exact nq_ne2 (by assumption) (by assumption)) (by assumption) | exact nq_ga (by assumption)) | exact nq_gn (by first | assumption | decide | omega | exact nq_ne1 (by assumption) (by assumption) | exact nq_ne2 (by assumption) (by assumption)) (by first | assumption | exact nq_gs (by assumption) | exact nq_gn (by first | assumption | decide | omega | exact nq_ne1 (by assumption) (by assumption) | exact nq_ne2 (by assumption) (by assumption)) (by assumption) | exact nq_ga (by assumption))) | exact nq_gn (by first | assumption | decide | omega | exact nq_ne1 (by assumption) (by assumption) | exact nq_ne2 (by assumption) (by assumption)) (by first | assumption | exact nq_ga (by assumption) | exact nq_gs (by first | assumption | exact nq_gs (by assumption) | exact nq_gn (by first | assumption | decide | omega | exact nq_ne1 (by assumption) (by assumption) | exact nq_ne2 (by assumption) (by assumption)) (by assumption) | exact nq_ga (by assumption)) | exact nq_gn (by first | assumption | decide | omega | exact nq_ne1 (by assumption) (by assumption) | exact nq_ne2 (by assumption) (by assumption)) (by first | assumption | exact nq_gs (by assumption) | exact nq_gn (by first | assumption | decide | omega | exact nq_ne1 (by assumption) (by assumption) | exact nq_ne2 (by assumption) (by assumption)) (by assumption) | exact nq_ga (by assumption)))) rfl rfl (kc := 0) (ks := 0) (mc' := 0) (ms' := 0) (As := [.int (nI k), .int (nI s.2.2.2.2.1), .int w]) (rest := []) rfl rfl (by decide) (t_Table_put hT u1 (by omega) (by omega)) (fun E σ2 hq => by cases hq.1) (fun v σ2 hq => ?_)
        obtain ⟨e1, hT2, hf2⟩ := hq
        cases e1
        have u3 : (sx_U s.2.2.2.2.1 rows cl k).set k (rw_s rows[k] s.2.2.2.2.1 w) = sx_U s.2.2.2.2.1 rows cl (k + 1) := u2
        rw [u3] at hT2
        have X2 := X1'.tab ht hT2 hf2
        rw [List.set_set] at X2
        refine nq_iinc (pc' := 123) d_QS_update_120 rfl rfl (v := nI (k + 1)) (nI_1 k) (by decide) rfl ?_
        refine nq_goto (tgt := 84) d_QS_update_123 (by decide) ?_
        exact ih (k + 1) cl σ2 R1 ch1 nn1 (by omega) hcl hch (F1.tr (qs_fr.fm ht hf2)) X2
  have loop1 : ∀ (n i : Nat) (cl : List (Option Int32)) (σ1 : nq_S) (R1 ch1 nn1 : Nat → Int32), n + i = rows.length → cl.length = i → (∀ j x, cl[j]? = some x → ch1 j = (if x.isSome then 1 else 0) ∧ ∀ v, x = some v → nn1 j = v) → qs_fr σ σ1 → R1 6 = R 6 → qs_X σ1 sp bg nt st fi tb R1 ch1 nn1 es 0 width → nq_J G (d2 + 2 + 1) 0 0 m_QS_update 15 [some (.ref 0), some (.ref c), some (.ref (18 + 84 * s.2.1)), some (.int (nI (sx_many cl))), some (.int (nI i))] [] σ1 (xq_Q σ sp bg nt st fi tb width s.1 (match sx_ch true s.2.2.2.1 s.2.2.2.2.2.1 (R 6) (rows.drop i) cl with
      | .inl e => .inl e
      | .inr m => .inr (nI (sx_many m), tb.set s.2.1 (sx_put s.2.2.2.2.1 rows m), [], 0))) := by
    intro n
    induction n with
    | zero =>
      intro i cl σ1 R1 ch1 nn1 hn hcl hch F1 hR X1
      have X1' := X1
      obtain ⟨k1, ⟨g', k2, k2'⟩, ⟨k3, k3'⟩, k4, k5, k6, k7, k8⟩ := X1
      have hT := k3' s.2.1 ht
      rw [hrows] at hT
      obtain ⟨used, htc⟩ := hT.cell
      rw [List.drop_of_length_le (by omega)]
      refine nq_iload (pc' := 17) d_QS_update_15 rfl rfl ?_
      refine nq_aload_n (pc' := 18) d_QS_update_17 rfl rfl rfl ?_
      refine nq_callVR (pc' := 21) d_QS_update_18 rfl cl_QS_96 rfl (by first | assumption | exact nq_ga (by assumption) | exact nq_gs (by first | assumption | exact nq_ga (by assumption) | exact nq_gs (by first | assumption | exact nq_gs (by assumption) | exact nq_gn (by first | assumption | decide | omega | exact nq_ne1 (by assumption) (by assumption) | exact nq_ne2 (by assumption) (by assumption)) (by assumption) | exact nq_ga (by assumption)) | exact nq_gn (by first | assumption | decide | omega | exact nq_ne1 (by assumption) (by assumption) | exact nq_ne2 (by assumption) (by assumption)) (by first | assumption | exact nq_gs (by assumption) | exact nq_gn (by first | assumption | decide | omega | exact nq_ne1 (by assumption) (by assumption) | exact nq_ne2 (by assumption) (by assumption)) (by assumption) | exact nq_ga (by assumption))) | exact nq_gn (by first | assumption | decide | omega | exact nq_ne1 (by assumption) (by assumption) | exact nq_ne2 (by assumption) (by assumption)) (by first | assumption | exact nq_ga (by assumption) | exact nq_gs (by first | assumption | exact nq_gs (by assumption) | exact nq_gn (by first | assumption | decide | omega | exact nq_ne1 (by assumption) (by assumption) | exact nq_ne2 (by assumption) (by assumption)) (by assumption) | exact nq_ga (by assumption)) | exact nq_gn (by first | assumption | decide | omega | exact nq_ne1 (by assumption) (by assumption) | exact nq_ne2 (by assumption) (by assumption)) (by first | assumption | exact nq_gs (by assumption) | exact nq_gn (by first | assumption | decide | omega | exact nq_ne1 (by assumption) (by assumption) | exact nq_ne2 (by assumption) (by assumption)) (by assumption) | exact nq_ga (by assumption)))) rfl rfl (kc := 0) (ks := 0) (mc' := 0) (ms' := 0) (As := []) (rest := [.int (nI i)]) rfl rfl (Nat.le_of_ble_eq_true rfl) (t_Table_size hT) ?_
      refine nq_icmp_ge (pc' := 24) (tgt := 81) d_QS_update_21 rfl (by decide) (fun _ => ?_) (fun h => absurd ((nI_leI (by omega) (by omega)).mpr (by omega)) h)
      refine nq_iconst (v := 0) (pc' := 82) d_QS_update_81 rfl (by decide) ?_
      refine nq_istore (pc' := 84) d_QS_update_82 rfl (by decide) rfl ?_
      refine loop2 rows.length 0 cl σ1 R1 ch1 nn1 (by omega) (by omega) hch F1 ?_
      have e0 : sx_U s.2.2.2.2.1 rows cl 0 = rows := by
        unfold sx_U
        rw [List.take_zero, List.take_zero, List.drop_zero]
        rfl
      rw [e0, ← hrows, tb_set_self h3tb ht]
      exact X1'
    | succ n ih =>
      intro i cl σ1 R1 ch1 nn1 hn hcl hch F1 hR X1
      have X1' := X1
      have C1 := hC.fr F1
      obtain ⟨k1, ⟨g', k2, k2'⟩, ⟨k3, k3'⟩, k4, k5, k6, k7, k8⟩ := X1
      obtain ⟨n', hcc⟩ := C1.cell
      have hT := k3' s.2.1 ht
      rw [hrows] at hT
      obtain ⟨used, htc⟩ := hT.cell
      have hil : i < rows.length := by omega
      rw [List.drop_eq_getElem_cons hil]
      have hri : (tb.getD s.2.1 [])[i]? = some rows[i] := by rw [hrows]; exact List.getElem?_eq_some_iff.mpr ⟨hil, rfl⟩
      have mt := qs_meet1 (G := G) (d := d2 + 2) X1' C1 (by omega) hu (by omega) hri
      rw [hR] at mt
      unfold sx_ch
      generalize rows[i] = r at mt hri ⊢
      refine nq_iload (pc' := 17) d_QS_update_15 rfl rfl ?_
      refine nq_aload_n (pc' := 18) d_QS_update_17 rfl rfl rfl ?_
      refine nq_callVR (pc' := 21) d_QS_update_18 rfl cl_QS_96 rfl (by first | assumption | exact nq_ga (by assumption) | exact nq_gs (by first | assumption | exact nq_ga (by assumption) | exact nq_gs (by first | assumption | exact nq_gs (by assumption) | exact nq_gn (by first | assumption | decide | omega | exact nq_ne1 (by assumption) (by assumption) | exact nq_ne2 (by assumption) (by assumption)) (by assumption) | exact nq_ga (by assumption)) | exact nq_gn (by first | assumption | decide | omega | exact nq_ne1 (by assumption) (by assumption) | exact nq_ne2 (by assumption) (by assumption)) (by first | assumption | exact nq_gs (by assumption) | exact nq_gn (by first | assumption | decide | omega | exact nq_ne1 (by assumption) (by assumption) | exact nq_ne2 (by assumption) (by assumption)) (by assumption) | exact nq_ga (by assumption))) | exact nq_gn (by first | assumption | decide | omega | exact nq_ne1 (by assumption) (by assumption) | exact nq_ne2 (by assumption) (by assumption)) (by first | assumption | exact nq_ga (by assumption) | exact nq_gs (by first | assumption | exact nq_gs (by assumption) | exact nq_gn (by first | assumption | decide | omega | exact nq_ne1 (by assumption) (by assumption) | exact nq_ne2 (by assumption) (by assumption)) (by assumption) | exact nq_ga (by assumption)) | exact nq_gn (by first | assumption | decide | omega | exact nq_ne1 (by assumption) (by assumption) | exact nq_ne2 (by assumption) (by assumption)) (by first | assumption | exact nq_gs (by assumption) | exact nq_gn (by first | assumption | decide | omega | exact nq_ne1 (by assumption) (by assumption) | exact nq_ne2 (by assumption) (by assumption)) (by assumption) | exact nq_ga (by assumption)))) rfl rfl (kc := 0) (ks := 0) (mc' := 0) (ms' := 0) (As := []) (rest := [.int (nI i)]) rfl rfl (Nat.le_of_ble_eq_true rfl) (t_Table_size hT) ?_
      refine nq_icmp_ge (pc' := 24) (tgt := 81) d_QS_update_21 rfl (by decide) (fun h => absurd ((nI_leI (by omega) (by omega)).mp h) (by omega)) (fun _ => ?_)
      refine nq_aload_n (pc' := 25) d_QS_update_24 rfl rfl rfl ?_
      refine nq_getf (pc' := 28) d_QS_update_25 rfl fl_QS_45 (by first | assumption | exact nq_ga (by assumption) | exact nq_gs (by first | assumption | exact nq_ga (by assumption) | exact nq_gs (by first | assumption | exact nq_gs (by assumption) | exact nq_gn (by first | assumption | decide | omega | exact nq_ne1 (by assumption) (by assumption) | exact nq_ne2 (by assumption) (by assumption)) (by assumption) | exact nq_ga (by assumption)) | exact nq_gn (by first | assumption | decide | omega | exact nq_ne1 (by assumption) (by assumption) | exact nq_ne2 (by assumption) (by assumption)) (by first | assumption | exact nq_gs (by assumption) | exact nq_gn (by first | assumption | decide | omega | exact nq_ne1 (by assumption) (by assumption) | exact nq_ne2 (by assumption) (by assumption)) (by assumption) | exact nq_ga (by assumption))) | exact nq_gn (by first | assumption | decide | omega | exact nq_ne1 (by assumption) (by assumption) | exact nq_ne2 (by assumption) (by assumption)) (by first | assumption | exact nq_ga (by assumption) | exact nq_gs (by first | assumption | exact nq_gs (by assumption) | exact nq_gn (by first | assumption | decide | omega | exact nq_ne1 (by assumption) (by assumption) | exact nq_ne2 (by assumption) (by assumption)) (by assumption) | exact nq_ga (by assumption)) | exact nq_gn (by first | assumption | decide | omega | exact nq_ne1 (by assumption) (by assumption) | exact nq_ne2 (by assumption) (by assumption)) (by first | assumption | exact nq_gs (by assumption) | exact nq_gn (by first | assumption | decide | omega | exact nq_ne1 (by assumption) (by assumption) | exact nq_ne2 (by assumption) (by assumption)) (by assumption) | exact nq_ga (by assumption)))) rfl ?_
      refine nq_iload (pc' := 30) d_QS_update_28 rfl rfl ?_
      refine nq_aload_n (pc' := 31) d_QS_update_30 rfl rfl rfl ?_
      refine nq_aload_n (pc' := 32) d_QS_update_31 rfl rfl rfl ?_
      refine nq_iload (pc' := 34) d_QS_update_32 rfl rfl ?_
      refine nq_callV (pc' := 37) d_QS_update_34 rfl cl_QS_179 rfl (by first | assumption | exact nq_ga (by assumption) | exact nq_gs (by first | assumption | exact nq_ga (by assumption) | exact nq_gs (by first | assumption | exact nq_gs (by assumption) | exact nq_gn (by first | assumption | decide | omega | exact nq_ne1 (by assumption) (by assumption) | exact nq_ne2 (by assumption) (by assumption)) (by assumption) | exact nq_ga (by assumption)) | exact nq_gn (by first | assumption | decide | omega | exact nq_ne1 (by assumption) (by assumption) | exact nq_ne2 (by assumption) (by assumption)) (by first | assumption | exact nq_gs (by assumption) | exact nq_gn (by first | assumption | decide | omega | exact nq_ne1 (by assumption) (by assumption) | exact nq_ne2 (by assumption) (by assumption)) (by assumption) | exact nq_ga (by assumption))) | exact nq_gn (by first | assumption | decide | omega | exact nq_ne1 (by assumption) (by assumption) | exact nq_ne2 (by assumption) (by assumption)) (by first | assumption | exact nq_ga (by assumption) | exact nq_gs (by first | assumption | exact nq_gs (by assumption) | exact nq_gn (by first | assumption | decide | omega | exact nq_ne1 (by assumption) (by assumption) | exact nq_ne2 (by assumption) (by assumption)) (by assumption) | exact nq_ga (by assumption)) | exact nq_gn (by first | assumption | decide | omega | exact nq_ne1 (by assumption) (by assumption) | exact nq_ne2 (by assumption) (by assumption)) (by first | assumption | exact nq_gs (by assumption) | exact nq_gn (by first | assumption | decide | omega | exact nq_ne1 (by assumption) (by assumption) | exact nq_ne2 (by assumption) (by assumption)) (by assumption) | exact nq_ga (by assumption)))) rfl rfl (kc := 0) (ks := 0) (mc' := 0) (ms' := 0) (As := [.ref c, .int (nI i)]) (rest := [.int (nI i), .ref 12]) rfl rfl (Nat.le_of_ble_eq_true rfl) mt (fun E σ2 hq => ?_) (fun v σ2 hq => ?_)
      · obtain ⟨R', rfl, hq, hk3⟩ := hq
        cases hv : sx_m s.2.2.2.2.2.1 (sx_env r sx_row0 (R 6)) with
        | none =>
          rw [hv] at hq
          exact ⟨F1.tr (qs_fr.set (by unfold qs_k; omega)), hq, R', ch1, nn1, es, X1'.regs⟩
        | some b =>
          rw [hv] at hq
          cases hq
      obtain ⟨R', rfl, hq, hk3⟩ := hq
      cases hv : sx_m s.2.2.2.2.2.1 (sx_env r sx_row0 (R 6)) with
      | none =>
        rw [hv] at hq
        cases hq
      | some b =>
      rw [hv] at hq hk3
      cases hq
      obtain ⟨hk4, hk5⟩ := hk3 (by simp)
      refine nq_zast (pc' := 38) d_QS_update_37 rfl (by first | assumption | exact nq_ga (by assumption) | exact nq_gs (by first | assumption | exact nq_ga (by assumption) | exact nq_gs (by first | assumption | exact nq_gs (by assumption) | exact nq_gn (by first | assumption | decide | omega | exact nq_ne1 (by assumption) (by assumption) | exact nq_ne2 (by assumption) (by assumption)) (by assumption) | exact nq_ga (by assumption)) | exact nq_gn (by first | assumption | decide | omega | exact nq_ne1 (by assumption) (by assumption) | exact nq_ne2 (by assumption) (by assumption)) (by first | assumption | exact nq_gs (by assumption) | exact nq_gn (by first | assumption | decide | omega | exact nq_ne1 (by assumption) (by assumption) | exact nq_ne2 (by assumption) (by assumption)) (by assumption) | exact nq_ga (by assumption))) | exact nq_gn (by first | assumption | decide | omega | exact nq_ne1 (by assumption) (by assumption) | exact nq_ne2 (by assumption) (by assumption)) (by first | assumption | exact nq_ga (by assumption) | exact nq_gs (by first | assumption | exact nq_gs (by assumption) | exact nq_gn (by first | assumption | decide | omega | exact nq_ne1 (by assumption) (by assumption) | exact nq_ne2 (by assumption) (by assumption)) (by assumption) | exact nq_ga (by assumption)) | exact nq_gn (by first | assumption | decide | omega | exact nq_ne1 (by assumption) (by assumption) | exact nq_ne2 (by assumption) (by assumption)) (by first | assumption | exact nq_gs (by assumption) | exact nq_gn (by first | assumption | decide | omega | exact nq_ne1 (by assumption) (by assumption) | exact nq_ne2 (by assumption) (by assumption)) (by assumption) | exact nq_ga (by assumption)))) rfl (j := i) rfl (by omega) (by decide) ?_
      rw [vp_b]
      have X3 := (X1'.regs (R' := R')).cho (ch' := upd ch1 i (if b then 1 else 0))
      have F3 : qs_fr σ ((σ1.set 6 (.inl (0, 20, .inl R'))).set 12 (.inl (1, 20, .inl (upd ch1 i (if b then 1 else 0))))) := (F1.tr (qs_fr.set (by unfold qs_k; omega))).tr (qs_fr.set (by unfold qs_k; omega))
      generalize hσ3 : (σ1.set 6 (.inl (0, 20, .inl R'))).set 12 (.inl (1, 20, .inl (upd ch1 i (if b then 1 else 0)))) = σ3 at X3 F3 ⊢
      have z1 := X3.1
      have z4 := X3.2.2.2.1
      have z5 := X3.2.2.2.2.1
      have z12 := X3.2.2.2.2.2.2.1
      have hch3 : ∀ (o : Option Int32) (nn2 : Nat → Int32), (if o.isSome then (1 : Int32) else 0) = (if b then 1 else 0) → (∀ v, o = some v → nn2 i = v) → (∀ j, j ≠ i → nn2 j = nn1 j) → ∀ j x, (cl ++ [o])[j]? = some x → upd ch1 i (if b then 1 else 0) j = (if x.isSome then 1 else 0) ∧ ∀ v, x = some v → nn2 j = v := by
        intro o nn2 ho hv2 hnn j x hx
        by_cases hj : j = i
        · subst hj
          rw [upd_at]
          rw [List.getElem?_append_right (by omega), hcl, Nat.sub_self] at hx
          cases hx
          exact ⟨ho.symm, hv2⟩
        · rw [upd_ne hj]
          have hl := (List.getElem?_eq_some_iff.mp hx).1
          simp only [List.length_append, List.length_cons, List.length_nil] at hl
          rw [List.getElem?_append_left (by omega)] at hx
          rw [hnn j hj]
          exact hch j x hx
      refine nq_aload_n (pc' := 39) d_QS_update_38 rfl rfl rfl ?_
      refine nq_getf (pc' := 42) d_QS_update_39 rfl fl_QS_45 (by first | assumption | exact nq_ga (by assumption) | exact nq_gs (by first | assumption | exact nq_ga (by assumption) | exact nq_gs (by first | assumption | exact nq_gs (by assumption) | exact nq_gn (by first | assumption | decide | omega | exact nq_ne1 (by assumption) (by assumption) | exact nq_ne2 (by assumption) (by assumption)) (by assumption) | exact nq_ga (by assumption)) | exact nq_gn (by first | assumption | decide | omega | exact nq_ne1 (by assumption) (by assumption) | exact nq_ne2 (by assumption) (by assumption)) (by first | assumption | exact nq_gs (by assumption) | exact nq_gn (by first | assumption | decide | omega | exact nq_ne1 (by assumption) (by assumption) | exact nq_ne2 (by assumption) (by assumption)) (by assumption) | exact nq_ga (by assumption))) | exact nq_gn (by first | assumption | decide | omega | exact nq_ne1 (by assumption) (by assumption) | exact nq_ne2 (by assumption) (by assumption)) (by first | assumption | exact nq_ga (by assumption) | exact nq_gs (by first | assumption | exact nq_gs (by assumption) | exact nq_gn (by first | assumption | decide | omega | exact nq_ne1 (by assumption) (by assumption) | exact nq_ne2 (by assumption) (by assumption)) (by assumption) | exact nq_ga (by assumption)) | exact nq_gn (by first | assumption | decide | omega | exact nq_ne1 (by assumption) (by assumption) | exact nq_ne2 (by assumption) (by assumption)) (by first | assumption | exact nq_gs (by assumption) | exact nq_gn (by first | assumption | decide | omega | exact nq_ne1 (by assumption) (by assumption) | exact nq_ne2 (by assumption) (by assumption)) (by assumption) | exact nq_ga (by assumption)))) rfl ?_
      refine nq_iload (pc' := 44) d_QS_update_42 rfl rfl ?_
      refine nq_zald (pc' := 45) d_QS_update_44 rfl (by first | assumption | exact nq_ga (by assumption) | exact nq_gs (by first | assumption | exact nq_ga (by assumption) | exact nq_gs (by first | assumption | exact nq_gs (by assumption) | exact nq_gn (by first | assumption | decide | omega | exact nq_ne1 (by assumption) (by assumption) | exact nq_ne2 (by assumption) (by assumption)) (by assumption) | exact nq_ga (by assumption)) | exact nq_gn (by first | assumption | decide | omega | exact nq_ne1 (by assumption) (by assumption) | exact nq_ne2 (by assumption) (by assumption)) (by first | assumption | exact nq_gs (by assumption) | exact nq_gn (by first | assumption | decide | omega | exact nq_ne1 (by assumption) (by assumption) | exact nq_ne2 (by assumption) (by assumption)) (by assumption) | exact nq_ga (by assumption))) | exact nq_gn (by first | assumption | decide | omega | exact nq_ne1 (by assumption) (by assumption) | exact nq_ne2 (by assumption) (by assumption)) (by first | assumption | exact nq_ga (by assumption) | exact nq_gs (by first | assumption | exact nq_gs (by assumption) | exact nq_gn (by first | assumption | decide | omega | exact nq_ne1 (by assumption) (by assumption) | exact nq_ne2 (by assumption) (by assumption)) (by assumption) | exact nq_ga (by assumption)) | exact nq_gn (by first | assumption | decide | omega | exact nq_ne1 (by assumption) (by assumption) | exact nq_ne2 (by assumption) (by assumption)) (by first | assumption | exact nq_gs (by assumption) | exact nq_gn (by first | assumption | decide | omega | exact nq_ne1 (by assumption) (by assumption) | exact nq_ne2 (by assumption) (by assumption)) (by assumption) | exact nq_ga (by assumption)))) rfl (j := i) rfl (by omega) (by decide) ?_
      rw [upd_at]
      cases b with
      | false =>
        refine nq_if_eq (pc' := 48) (tgt := 75) d_QS_update_45 rfl (by decide) (fun _ => ?_) (fun h => absurd rfl h)
        refine nq_iinc (pc' := 78) d_QS_update_75 rfl rfl (v := nI (i + 1)) (nI_1 i) (by decide) rfl ?_
        refine nq_goto (tgt := 15) d_QS_update_78 (by decide) ?_
        have := ih (i + 1) (cl ++ [none]) σ3 R' _ nn1 (by omega) (by simp [hcl]) (hch3 none nn1 rfl (fun v h => by cases h) (fun _ _ => rfl)) F3 hk5 X3
        rw [sx_many_app] at this
        exact this
      | true =>
        have C3 := hC.fr F3
        refine nq_if_eq (pc' := 48) (tgt := 75) d_QS_update_45 rfl (by decide) (fun h => absurd h (by decide)) (fun _ => ?_)
        refine nq_aload_n (pc' := 49) d_QS_update_48 rfl rfl rfl ?_
        refine nq_getf (pc' := 52) d_QS_update_49 rfl fl_QS_28 (by first | assumption | exact nq_ga (by assumption) | exact nq_gs (by first | assumption | exact nq_ga (by assumption) | exact nq_gs (by first | assumption | exact nq_gs (by assumption) | exact nq_gn (by first | assumption | decide | omega | exact nq_ne1 (by assumption) (by assumption) | exact nq_ne2 (by assumption) (by assumption)) (by assumption) | exact nq_ga (by assumption)) | exact nq_gn (by first | assumption | decide | omega | exact nq_ne1 (by assumption) (by assumption) | exact nq_ne2 (by assumption) (by assumption)) (by first | assumption | exact nq_gs (by assumption) | exact nq_gn (by first | assumption | decide | omega | exact nq_ne1 (by assumption) (by assumption) | exact nq_ne2 (by assumption) (by assumption)) (by assumption) | exact nq_ga (by assumption))) | exact nq_gn (by first | assumption | decide | omega | exact nq_ne1 (by assumption) (by assumption) | exact nq_ne2 (by assumption) (by assumption)) (by first | assumption | exact nq_ga (by assumption) | exact nq_gs (by first | assumption | exact nq_gs (by assumption) | exact nq_gn (by first | assumption | decide | omega | exact nq_ne1 (by assumption) (by assumption) | exact nq_ne2 (by assumption) (by assumption)) (by assumption) | exact nq_ga (by assumption)) | exact nq_gn (by first | assumption | decide | omega | exact nq_ne1 (by assumption) (by assumption) | exact nq_ne2 (by assumption) (by assumption)) (by first | assumption | exact nq_gs (by assumption) | exact nq_gn (by first | assumption | decide | omega | exact nq_ne1 (by assumption) (by assumption) | exact nq_ne2 (by assumption) (by assumption)) (by assumption) | exact nq_ga (by assumption)))) rfl ?_
        refine nq_aload_n (pc' := 53) d_QS_update_52 rfl rfl rfl ?_
        refine nq_callV (pc' := 56) d_QS_update_53 rfl cl_QS_156 rfl (by first | assumption | exact nq_ga (by assumption) | exact nq_gs (by first | assumption | exact nq_ga (by assumption) | exact nq_gs (by first | assumption | exact nq_gs (by assumption) | exact nq_gn (by first | assumption | decide | omega | exact nq_ne1 (by assumption) (by assumption) | exact nq_ne2 (by assumption) (by assumption)) (by assumption) | exact nq_ga (by assumption)) | exact nq_gn (by first | assumption | decide | omega | exact nq_ne1 (by assumption) (by assumption) | exact nq_ne2 (by assumption) (by assumption)) (by first | assumption | exact nq_gs (by assumption) | exact nq_gn (by first | assumption | decide | omega | exact nq_ne1 (by assumption) (by assumption) | exact nq_ne2 (by assumption) (by assumption)) (by assumption) | exact nq_ga (by assumption))) | exact nq_gn (by first | assumption | decide | omega | exact nq_ne1 (by assumption) (by assumption) | exact nq_ne2 (by assumption) (by assumption)) (by first | assumption | exact nq_ga (by assumption) | exact nq_gs (by first | assumption | exact nq_gs (by assumption) | exact nq_gn (by first | assumption | decide | omega | exact nq_ne1 (by assumption) (by assumption) | exact nq_ne2 (by assumption) (by assumption)) (by assumption) | exact nq_ga (by assumption)) | exact nq_gn (by first | assumption | decide | omega | exact nq_ne1 (by assumption) (by assumption) | exact nq_ne2 (by assumption) (by assumption)) (by first | assumption | exact nq_gs (by assumption) | exact nq_gn (by first | assumption | decide | omega | exact nq_ne1 (by assumption) (by assumption) | exact nq_ne2 (by assumption) (by assumption)) (by assumption) | exact nq_ga (by assumption)))) rfl rfl (kc := 0) (ks := 0) (mc' := 0) (ms' := 0) (As := [.ref c]) (rest := []) rfl rfl (by decide) (qs_work (ρ := sx_env r sx_row0 (R 6)) rfl (by omega) z4 z5 C3 hk4 hk5) (fun E σ4 hq => ?_) (fun v σ4 hq => ?_)
        · obtain ⟨R4, rfl, hq⟩ := hq
          simp only [if_true]
          cases hw : sx_vs 7 (sx_env r sx_row0 (R 6)) s.2.2.2.1 with
          | none =>
            rw [hw] at hq
            exact ⟨F3.tr (qs_fr.set (by unfold qs_k; omega)), hq, R4, _, nn1, es, X3.regs⟩
          | some xs =>
            rw [hw] at hq
            cases hq.1
        obtain ⟨R4, rfl, hq⟩ := hq
        simp only [if_true]
        cases hw : sx_vs 7 (sx_env r sx_row0 (R 6)) s.2.2.2.1 with
        | none =>
          rw [hw] at hq
          cases hq
        | some xs =>
        rw [hw] at hq
        obtain ⟨e1, e2, e3, e4⟩ := hq
        cases e1
        rw [hv1] at e2
        match xs, e2 with
        | [x0], _ =>
        have r7 : R4 7 = x0 := e3 0 x0 rfl
        have X4 := X3.regs (R' := R4)
        have F4 : qs_fr σ (σ3.set 6 (.inl (0, 20, .inl R4))) := F3.tr (qs_fr.set (by unfold qs_k; omega))
        generalize hσ4 : σ3.set 6 (.inl (0, 20, .inl R4)) = σ4 at X4 F4 ⊢
        have y1 := X4.1
        have y4 := X4.2.2.2.1
        have y5 := X4.2.2.2.2.1
        have y13 := X4.2.2.2.2.2.2.2
        refine nq_aload_n (pc' := 57) d_QS_update_56 rfl rfl rfl ?_
        refine nq_getf (pc' := 60) d_QS_update_57 rfl fl_QS_49 (by first | assumption | exact nq_ga (by assumption) | exact nq_gs (by first | assumption | exact nq_ga (by assumption) | exact nq_gs (by first | assumption | exact nq_gs (by assumption) | exact nq_gn (by first | assumption | decide | omega | exact nq_ne1 (by assumption) (by assumption) | exact nq_ne2 (by assumption) (by assumption)) (by assumption) | exact nq_ga (by assumption)) | exact nq_gn (by first | assumption | decide | omega | exact nq_ne1 (by assumption) (by assumption) | exact nq_ne2 (by assumption) (by assumption)) (by first | assumption | exact nq_gs (by assumption) | exact nq_gn (by first | assumption | decide | omega | exact nq_ne1 (by assumption) (by assumption) | exact nq_ne2 (by assumption) (by assumption)) (by assumption) | exact nq_ga (by assumption))) | exact nq_gn (by first | assumption | decide | omega | exact nq_ne1 (by assumption) (by assumption) | exact nq_ne2 (by assumption) (by assumption)) (by first | assumption | exact nq_ga (by assumption) | exact nq_gs (by first | assumption | exact nq_gs (by assumption) | exact nq_gn (by first | assumption | decide | omega | exact nq_ne1 (by assumption) (by assumption) | exact nq_ne2 (by assumption) (by assumption)) (by assumption) | exact nq_ga (by assumption)) | exact nq_gn (by first | assumption | decide | omega | exact nq_ne1 (by assumption) (by assumption) | exact nq_ne2 (by assumption) (by assumption)) (by first | assumption | exact nq_gs (by assumption) | exact nq_gn (by first | assumption | decide | omega | exact nq_ne1 (by assumption) (by assumption) | exact nq_ne2 (by assumption) (by assumption)) (by assumption) | exact nq_ga (by assumption)))) rfl ?_
        refine nq_iload (pc' := 62) d_QS_update_60 rfl rfl ?_
        refine nq_aload_n (pc' := 63) d_QS_update_62 rfl rfl rfl ?_
        refine nq_getf (pc' := 66) d_QS_update_63 rfl fl_QS_28 (by first | assumption | exact nq_ga (by assumption) | exact nq_gs (by first | assumption | exact nq_ga (by assumption) | exact nq_gs (by first | assumption | exact nq_gs (by assumption) | exact nq_gn (by first | assumption | decide | omega | exact nq_ne1 (by assumption) (by assumption) | exact nq_ne2 (by assumption) (by assumption)) (by assumption) | exact nq_ga (by assumption)) | exact nq_gn (by first | assumption | decide | omega | exact nq_ne1 (by assumption) (by assumption) | exact nq_ne2 (by assumption) (by assumption)) (by first | assumption | exact nq_gs (by assumption) | exact nq_gn (by first | assumption | decide | omega | exact nq_ne1 (by assumption) (by assumption) | exact nq_ne2 (by assumption) (by assumption)) (by assumption) | exact nq_ga (by assumption))) | exact nq_gn (by first | assumption | decide | omega | exact nq_ne1 (by assumption) (by assumption) | exact nq_ne2 (by assumption) (by assumption)) (by first | assumption | exact nq_ga (by assumption) | exact nq_gs (by first | assumption | exact nq_gs (by assumption) | exact nq_gn (by first | assumption | decide | omega | exact nq_ne1 (by assumption) (by assumption) | exact nq_ne2 (by assumption) (by assumption)) (by assumption) | exact nq_ga (by assumption)) | exact nq_gn (by first | assumption | decide | omega | exact nq_ne1 (by assumption) (by assumption) | exact nq_ne2 (by assumption) (by assumption)) (by first | assumption | exact nq_gs (by assumption) | exact nq_gn (by first | assumption | decide | omega | exact nq_ne1 (by assumption) (by assumption) | exact nq_ne2 (by assumption) (by assumption)) (by assumption) | exact nq_ga (by assumption)))) rfl ?_
        refine nq_bipush (v := 7) (pc' := 68) d_QS_update_66 rfl (by decide) ?_
        refine nq_callVR (pc' := 71) d_QS_update_68 rfl cl_QS_162 rfl (by first | assumption | exact nq_ga (by assumption) | exact nq_gs (by first | assumption | exact nq_ga (by assumption) | exact nq_gs (by first | assumption | exact nq_gs (by assumption) | exact nq_gn (by first | assumption | decide | omega | exact nq_ne1 (by assumption) (by assumption) | exact nq_ne2 (by assumption) (by assumption)) (by assumption) | exact nq_ga (by assumption)) | exact nq_gn (by first | assumption | decide | omega | exact nq_ne1 (by assumption) (by assumption) | exact nq_ne2 (by assumption) (by assumption)) (by first | assumption | exact nq_gs (by assumption) | exact nq_gn (by first | assumption | decide | omega | exact nq_ne1 (by assumption) (by assumption) | exact nq_ne2 (by assumption) (by assumption)) (by assumption) | exact nq_ga (by assumption))) | exact nq_gn (by first | assumption | decide | omega | exact nq_ne1 (by assumption) (by assumption) | exact nq_ne2 (by assumption) (by assumption)) (by first | assumption | exact nq_ga (by assumption) | exact nq_gs (by first | assumption | exact nq_gs (by assumption) | exact nq_gn (by first | assumption | decide | omega | exact nq_ne1 (by assumption) (by assumption) | exact nq_ne2 (by assumption) (by assumption)) (by assumption) | exact nq_ga (by assumption)) | exact nq_gn (by first | assumption | decide | omega | exact nq_ne1 (by assumption) (by assumption) | exact nq_ne2 (by assumption) (by assumption)) (by first | assumption | exact nq_gs (by assumption) | exact nq_gn (by first | assumption | decide | omega | exact nq_ne1 (by assumption) (by assumption) | exact nq_ne2 (by assumption) (by assumption)) (by assumption) | exact nq_ga (by assumption)))) rfl rfl (kc := 0) (ks := 0) (mc' := 0) (ms' := 0) (As := [.int (nI 7)]) (rest := [.int (nI i), .ref 13]) rfl rfl (Nat.le_of_ble_eq_true rfl) (k_Machine_get (r := 7) y4 y5 (by decide)) ?_
        rw [r7]
        refine nq_iast (pc' := 72) d_QS_update_71 rfl (by first | assumption | exact nq_ga (by assumption) | exact nq_gs (by first | assumption | exact nq_ga (by assumption) | exact nq_gs (by first | assumption | exact nq_gs (by assumption) | exact nq_gn (by first | assumption | decide | omega | exact nq_ne1 (by assumption) (by assumption) | exact nq_ne2 (by assumption) (by assumption)) (by assumption) | exact nq_ga (by assumption)) | exact nq_gn (by first | assumption | decide | omega | exact nq_ne1 (by assumption) (by assumption) | exact nq_ne2 (by assumption) (by assumption)) (by first | assumption | exact nq_gs (by assumption) | exact nq_gn (by first | assumption | decide | omega | exact nq_ne1 (by assumption) (by assumption) | exact nq_ne2 (by assumption) (by assumption)) (by assumption) | exact nq_ga (by assumption))) | exact nq_gn (by first | assumption | decide | omega | exact nq_ne1 (by assumption) (by assumption) | exact nq_ne2 (by assumption) (by assumption)) (by first | assumption | exact nq_ga (by assumption) | exact nq_gs (by first | assumption | exact nq_gs (by assumption) | exact nq_gn (by first | assumption | decide | omega | exact nq_ne1 (by assumption) (by assumption) | exact nq_ne2 (by assumption) (by assumption)) (by assumption) | exact nq_ga (by assumption)) | exact nq_gn (by first | assumption | decide | omega | exact nq_ne1 (by assumption) (by assumption) | exact nq_ne2 (by assumption) (by assumption)) (by first | assumption | exact nq_gs (by assumption) | exact nq_gn (by first | assumption | decide | omega | exact nq_ne1 (by assumption) (by assumption) | exact nq_ne2 (by assumption) (by assumption)) (by assumption) | exact nq_ga (by assumption)))) rfl (j := i) rfl (by omega) (by decide) ?_
        refine nq_iinc (pc' := 75) d_QS_update_72 rfl rfl (v := nI (sx_many cl + 1)) (nI_1 _) (by decide) rfl ?_
        refine nq_iinc (pc' := 78) d_QS_update_75 rfl rfl (v := nI (i + 1)) (nI_1 i) (by decide) rfl ?_
        refine nq_goto (tgt := 15) d_QS_update_78 (by decide) ?_
        have := ih (i + 1) (cl ++ [some x0]) _ R4 _ (upd nn1 i x0) (by omega) (by simp [hcl]) (hch3 (some x0) (upd nn1 i x0) rfl (fun v h => by cases h; exact upd_at) (fun j hj => upd_ne hj)) (F4.tr (qs_fr.set (j := 13) (by unfold qs_k; omega))) ((e4 6 (by decide)).trans hk5) (X4.num (nn' := upd nn1 i x0))
        rw [sx_many_app] at this
        exact this
  have hX' := hX
  obtain ⟨h1, ⟨g, h2, h2'⟩, ⟨h3, h3'⟩, h4, h5, h6, h7, h8⟩ := hX
  obtain ⟨n, hc⟩ := hC.cell
  refine nq_mk' (lv := [some (.ref 0), some (.ref c), none, none, none]) (by decide +kernel) rfl (Nat.le_of_ble_eq_true rfl) rfl ?_
  refine nq_aload_n (pc' := 1) d_QS_update_0 rfl rfl rfl ?_
  refine nq_getf (pc' := 4) d_QS_update_1 rfl fl_QS_11 (by first | assumption | exact nq_ga (by assumption) | exact nq_gs (by first | assumption | exact nq_ga (by assumption) | exact nq_gs (by first | assumption | exact nq_gs (by assumption) | exact nq_gn (by first | assumption | decide | omega | exact nq_ne1 (by assumption) (by assumption) | exact nq_ne2 (by assumption) (by assumption)) (by assumption) | exact nq_ga (by assumption)) | exact nq_gn (by first | assumption | decide | omega | exact nq_ne1 (by assumption) (by assumption) | exact nq_ne2 (by assumption) (by assumption)) (by first | assumption | exact nq_gs (by assumption) | exact nq_gn (by first | assumption | decide | omega | exact nq_ne1 (by assumption) (by assumption) | exact nq_ne2 (by assumption) (by assumption)) (by assumption) | exact nq_ga (by assumption))) | exact nq_gn (by first | assumption | decide | omega | exact nq_ne1 (by assumption) (by assumption) | exact nq_ne2 (by assumption) (by assumption)) (by first | assumption | exact nq_ga (by assumption) | exact nq_gs (by first | assumption | exact nq_gs (by assumption) | exact nq_gn (by first | assumption | decide | omega | exact nq_ne1 (by assumption) (by assumption) | exact nq_ne2 (by assumption) (by assumption)) (by assumption) | exact nq_ga (by assumption)) | exact nq_gn (by first | assumption | decide | omega | exact nq_ne1 (by assumption) (by assumption) | exact nq_ne2 (by assumption) (by assumption)) (by first | assumption | exact nq_gs (by assumption) | exact nq_gn (by first | assumption | decide | omega | exact nq_ne1 (by assumption) (by assumption) | exact nq_ne2 (by assumption) (by assumption)) (by assumption) | exact nq_ga (by assumption)))) rfl ?_
  refine nq_aload_n (pc' := 5) d_QS_update_4 rfl rfl rfl ?_
  refine nq_getf (pc' := 8) d_QS_update_5 rfl fl_QS_159 (by first | assumption | exact nq_ga (by assumption) | exact nq_gs (by first | assumption | exact nq_ga (by assumption) | exact nq_gs (by first | assumption | exact nq_gs (by assumption) | exact nq_gn (by first | assumption | decide | omega | exact nq_ne1 (by assumption) (by assumption) | exact nq_ne2 (by assumption) (by assumption)) (by assumption) | exact nq_ga (by assumption)) | exact nq_gn (by first | assumption | decide | omega | exact nq_ne1 (by assumption) (by assumption) | exact nq_ne2 (by assumption) (by assumption)) (by first | assumption | exact nq_gs (by assumption) | exact nq_gn (by first | assumption | decide | omega | exact nq_ne1 (by assumption) (by assumption) | exact nq_ne2 (by assumption) (by assumption)) (by assumption) | exact nq_ga (by assumption))) | exact nq_gn (by first | assumption | decide | omega | exact nq_ne1 (by assumption) (by assumption) | exact nq_ne2 (by assumption) (by assumption)) (by first | assumption | exact nq_ga (by assumption) | exact nq_gs (by first | assumption | exact nq_gs (by assumption) | exact nq_gn (by first | assumption | decide | omega | exact nq_ne1 (by assumption) (by assumption) | exact nq_ne2 (by assumption) (by assumption)) (by assumption) | exact nq_ga (by assumption)) | exact nq_gn (by first | assumption | decide | omega | exact nq_ne1 (by assumption) (by assumption) | exact nq_ne2 (by assumption) (by assumption)) (by first | assumption | exact nq_gs (by assumption) | exact nq_gn (by first | assumption | decide | omega | exact nq_ne1 (by assumption) (by assumption) | exact nq_ne2 (by assumption) (by assumption)) (by assumption) | exact nq_ga (by assumption)))) rfl ?_
  refine nq_aaldR (pc' := 9) d_QS_update_8 rfl (by first | assumption | exact nq_ga (by assumption) | exact nq_gs (by first | assumption | exact nq_ga (by assumption) | exact nq_gs (by first | assumption | exact nq_gs (by assumption) | exact nq_gn (by first | assumption | decide | omega | exact nq_ne1 (by assumption) (by assumption) | exact nq_ne2 (by assumption) (by assumption)) (by assumption) | exact nq_ga (by assumption)) | exact nq_gn (by first | assumption | decide | omega | exact nq_ne1 (by assumption) (by assumption) | exact nq_ne2 (by assumption) (by assumption)) (by first | assumption | exact nq_gs (by assumption) | exact nq_gn (by first | assumption | decide | omega | exact nq_ne1 (by assumption) (by assumption) | exact nq_ne2 (by assumption) (by assumption)) (by assumption) | exact nq_ga (by assumption))) | exact nq_gn (by first | assumption | decide | omega | exact nq_ne1 (by assumption) (by assumption) | exact nq_ne2 (by assumption) (by assumption)) (by first | assumption | exact nq_ga (by assumption) | exact nq_gs (by first | assumption | exact nq_gs (by assumption) | exact nq_gn (by first | assumption | decide | omega | exact nq_ne1 (by assumption) (by assumption) | exact nq_ne2 (by assumption) (by assumption)) (by assumption) | exact nq_ga (by assumption)) | exact nq_gn (by first | assumption | decide | omega | exact nq_ne1 (by assumption) (by assumption) | exact nq_ne2 (by assumption) (by assumption)) (by first | assumption | exact nq_gs (by assumption) | exact nq_gn (by first | assumption | decide | omega | exact nq_ne1 (by assumption) (by assumption) | exact nq_ne2 (by assumption) (by assumption)) (by assumption) | exact nq_ga (by assumption)))) rfl (j := s.2.1) rfl (by omega) (h2' _ ht) (by decide) ?_
  refine nq_astore_n (pc' := 10) d_QS_update_9 rfl rfl (by decide) rfl ?_
  refine nq_iconst (v := 0) (pc' := 11) d_QS_update_10 rfl (by decide) ?_
  refine nq_istore_n (pc' := 12) d_QS_update_11 rfl rfl (by decide) rfl ?_
  refine nq_iconst (v := 0) (pc' := 13) d_QS_update_12 rfl (by decide) ?_
  refine nq_istore (pc' := 15) d_QS_update_13 rfl (by decide) rfl ?_
  have := loop1 rows.length 0 [] σ R ch nn (by omega) rfl (fun j x h => by simp at h) qs_fr.rf rfl hX'
  rw [List.drop_zero] at this
  exact this
end QU
