/-! THE STORE: select -/
theorem sx_fm {α β : Type} {f : α → List β} {m : Nat} (hm : 0 < m) : ∀ (T : List α), (∀ a ∈ T, (f a).length = m) → (T.flatMap f).length = T.length * m ∧ ∀ k, k < T.length * m → ∃ a, T[k / m]? = some a ∧ (T.flatMap f)[k]? = (f a)[k % m]?
  | [], _ => ⟨by simp, fun k hk => by simp at hk⟩
  | a :: T, h => by
    obtain ⟨h1, h2⟩ := sx_fm hm T (fun b hb => h b (List.mem_cons_of_mem _ hb))
    have ha := h a List.mem_cons_self
    rw [List.flatMap_cons]
    refine ⟨by rw [List.length_append, h1, ha, List.length_cons, Nat.succ_mul]; omega, fun k hk => ?_⟩
    rw [List.length_cons, Nat.succ_mul] at hk
    by_cases hkm : k < m
    · refine ⟨a, by rw [Nat.div_eq_of_lt hkm]; rfl, ?_⟩
      rw [List.getElem?_append_left (by omega), Nat.mod_eq_of_lt hkm]
    · obtain ⟨b, b1, b2⟩ := h2 (k - m) (by omega)
      refine ⟨b, ?_, ?_⟩
      · rw [Nat.div_eq_sub_div hm (by omega)]
        exact b1
      · rw [List.getElem?_append_right (by omega), ha, b2, Nat.mod_eq_sub_mod (a := k) (b := m) (by omega)]
/-- the pair k -/
theorem sx_envs_at {tb : sx_T} {T1 : List nq_Rw} {u : Nat} {p : Int32} : (sx_envs T1 (sx_two tb u) p).length = T1.length * qs_m tb u ∧ ∀ k, k < T1.length * qs_m tb u → ∃ r1 r2, T1[k / qs_m tb u]? = some r1 ∧ (u = 3 ∨ (tb.getD u [])[k % qs_m tb u]? = some r2) ∧ (sx_envs T1 (sx_two tb u) p)[k]? = some (sx_env r1 r2 p) := by
  unfold sx_envs sx_two qs_m
  by_cases hu : u = 3
  · rw [if_pos hu, if_pos hu]
    refine ⟨by simp, fun k hk => ?_⟩
    rw [Nat.mul_one] at hk
    refine ⟨T1[k], sx_row0, ?_, .inl hu, ?_⟩
    · rw [Nat.div_one]
      exact List.getElem?_eq_some_iff.mpr ⟨hk, rfl⟩
    · simp only
      rw [List.getElem?_map, List.getElem?_eq_getElem hk]
      rfl
  · rw [if_neg hu, if_neg hu]
    simp only
    by_cases hm : (tb.getD u []).length = 0
    · rw [hm]
      have e : tb.getD u [] = [] := List.eq_nil_of_length_eq_zero hm
      refine ⟨?_, fun k hk => absurd hk (by omega)⟩
      rw [e, Nat.mul_zero]
      induction T1 with
      | nil => rfl
      | cons a T ih => rw [List.flatMap_cons, List.length_append, ih]; rfl
    · obtain ⟨h1, h2⟩ := sx_fm (f := fun r => (tb.getD u []).map (fun r2 => sx_env r r2 p)) (m := (tb.getD u []).length) (by omega) T1 (fun a _ => by rw [List.length_map])
      refine ⟨h1, fun k hk => ?_⟩
      obtain ⟨a, b1, b2⟩ := h2 k hk
      have hlt : k % (tb.getD u []).length < (tb.getD u []).length := Nat.mod_lt _ (by omega)
      refine ⟨a, (tb.getD u [])[k % (tb.getD u []).length], b1, .inr (List.getElem?_eq_some_iff.mpr ⟨hlt, rfl⟩), ?_⟩
      rw [b2, List.getElem?_map, List.getElem?_eq_getElem hlt]
      rfl
theorem sx_ins_at {α : Type} {l : List α} {p i : Nat} {a : α} (hp : p ≤ l.length) : (l.take p ++ a :: l.drop p)[i]? = if i < p then l[i]? else if i = p then some a else l[i - 1]? := by
  have hl : (l.take p).length = p := by rw [List.length_take]; omega
  by_cases h1 : i < p
  · rw [if_pos h1, List.getElem?_append_left (by omega), List.getElem?_take_of_lt h1]
  · rw [if_neg h1, List.getElem?_append_right (by omega), hl]
    by_cases h2 : i = p
    · rw [if_pos h2, h2, Nat.sub_self]
      rfl
    · rw [if_neg h2]
      obtain ⟨j, hj⟩ : ∃ j, i - p = j + 1 := ⟨i - p - 1, by omega⟩
      rw [hj, List.getElem?_cons_succ, List.getElem?_drop]
      congr 1
      omega
theorem sx_rel_add {w : Nat} {es : List nq_Er} {xs : List sx_E} {e : nq_Er} {x : sx_E} (h : sx_rel w es xs) (h1 : e.1 = x.1) (h2 : ∀ (j : Nat) (v : Int32), j < w → x.2[j]? = some v → rw_c e.2 j = v) : sx_rel w (rs_add es e) (sx_add xs x) := by
  obtain ⟨hl, hr⟩ := h
  have hp : rs_ps (rs_mk es) e.1 es.length = rs_ps (sx_k xs) x.1 xs.length := by
    rw [h1, hl]
    refine rs_ps_congr _ (fun i hi => ?_)
    unfold rs_mk sx_k
    rw [List.getElem?_eq_getElem (show i < es.length by omega), List.getElem?_eq_getElem hi]
    exact (hr i _ _ (List.getElem?_eq_getElem (by omega)) (List.getElem?_eq_getElem hi)).1
  have hle := rs_ps_le (rs_mk es) e.1 es.length
  unfold rs_add sx_add
  rw [← hp]
  generalize rs_ps (rs_mk es) e.1 es.length = p at hle ⊢
  constructor
  · simp only [List.length_append, List.length_cons, List.length_take, List.length_drop]
    omega
  · intro i e' x' he hx
    rw [sx_ins_at (by omega)] at he hx
    by_cases c1 : i < p
    · rw [if_pos c1] at he hx
      exact hr i e' x' he hx
    · rw [if_neg c1] at he hx
      by_cases c2 : i = p
      · rw [if_pos c2] at he hx
        cases he
        cases hx
        exact ⟨h1, h2⟩
      · rw [if_neg c2] at he hx
        exact hr _ e' x' he hx
theorem sx_add_len (xs : List sx_E) (x : sx_E) : (sx_add xs x).length = xs.length + 1 := by
  have := rs_ps_le (sx_k xs) x.1 xs.length
  unfold sx_add
  simp only [List.length_append, List.length_cons, List.length_take, List.length_drop]
  omega
theorem sx_all_len (cl : List sx_E) : ∀ a : List sx_E, (cl.foldl sx_add a).length = a.length + cl.length := by
  induction cl with
  | nil => intro a; rfl
  | cons x cl ih =>
    intro a
    rw [List.foldl_cons, ih, sx_add_len, List.length_cons]
    omega
theorem sx_all_app (cl : List sx_E) (x : sx_E) : (cl ++ [x]).foldl sx_add [] = sx_add (cl.foldl sx_add []) x := by
  rw [List.foldl_append]
  rfl
theorem rd_od_ok {od : Nat} (h : od ≤ 6) : (rd_od od = -1 ∧ od = 0) ∨ (rd_od od = nI (od - 1) ∧ od ≠ 0) := by
  unfold rd_od
  split
  · exact .inl ⟨rfl, by assumption⟩
  · exact .inr ⟨rfl, by assumption⟩
section QS
variable {G : nq_G} {d : Nat} {σ : nq_S} {sp c : Nat} {bg nt st fi : Int32} {tb : sx_T} {R ch nn : Nat → Int32} {es : List nq_Er} {size width : Int32} {s : sp_St}
theorem qs_m20 (hX : qs_X σ sp bg nt st fi tb R ch nn es size width) (hC : qs_C σ c s) : qs_m tb s.2.2.1 ≤ 20 := by
  unfold qs_m
  split
  · decide
  · have := hC.2.1.u
    exact tb_len (hX.2.2.1.2 _ (by omega))
/-- meets, for the pair k -/
theorem qs_meetk {k : Nat} (hX : qs_X σ sp bg nt st fi tb R ch nn es size width) (hC : qs_C σ c s) (hD : 4 ≤ d) (hkl : k < (tb.getD s.2.1 []).length * qs_m tb s.2.2.1) : ∃ ρ, (sx_envs (tb.getD s.2.1 []) (sx_two tb s.2.2.1) (R 6))[k]? = some ρ ∧ ρ 6 = R 6 ∧ nq_JM G d 0 0 m_QS_meets [.ref 0, .ref c, .int (nI k)] σ (fun o σ' => ∃ R', σ' = σ.set 6 (.inl (0, 20, .inl R')) ∧ o = nq_ob (sx_m s.2.2.2.2.2.1 ρ) ∧ (sx_m s.2.2.2.2.2.1 ρ ≠ none → (∀ i, i < sp_nc (sp_cols s.1) → R' i = ρ i) ∧ R' 6 = R 6)) := by
  have hm := qs_m20 hX hC
  have hl := tb_len (hX.2.2.1.2 _ hC.2.1.2.1)
  obtain ⟨r1, r2, a1, a2, a3⟩ := (sx_envs_at (tb := tb) (T1 := tb.getD s.2.1 []) (u := s.2.2.1) (p := R 6)).2 k hkl
  have hk400 : k ≤ 400 := by
    have := Nat.mul_le_mul hl hm
    omega
  refine ⟨_, a3, rfl, k_QS_meets hX hC hD (fun h => by rw [h] at hkl; omega) hm hk400 rfl rfl a1 a2⟩
theorem k_QS_select (hX : qs_X σ sp bg nt st fi tb R ch nn [] 0 width) (hC : qs_C σ c s) (hk : s.1 = 83 ∨ s.1 = 80) (hD : 5 ≤ d) : nq_JM G d 0 0 m_QS_select [.ref 0, .ref c] σ (xq_Q σ sp bg nt st fi tb width s.1 (sx_exec tb s (R 6))) := by
  obtain ⟨d, rfl⟩ : ∃ d', d = d' + 1 := ⟨d - 1, by omega⟩
  have hvl : s.2.2.2.1.length ≤ 3 := hC.2.1.2.2.2.1.2.2.2.2.2
  have hod := hC.2.1.2.2.2.2.2.2.2.2.2.1
  have hn6 := sp_nc_le s.1
  have hm20 := qs_m20 hX hC
  have hl20 := tb_len (hX.2.2.1.2 _ hC.2.1.2.1)
  have hN400 := Nat.mul_le_mul hl20 hm20
  have hxc : xq_ch s.1 = false := by rcases hk with h | h <;> rw [h] <;> rfl
  obtain ⟨eN, _⟩ := sx_envs_at (tb := tb) (T1 := tb.getD s.2.1 []) (u := s.2.2.1) (p := R 6)
  unfold sx_exec
  rw [if_neg (by omega), if_neg (by omega), if_neg (by omega), if_neg (by omega)]
  generalize henv : sx_envs (tb.getD s.2.1 []) (sx_two tb s.2.2.1) (R 6) = envs at eN ⊢
  generalize hNN : (tb.getD s.2.1 []).length * qs_m tb s.2.2.1 = NN at eN hN400
  have loop : ∀ (n k : Nat) (cl : List sx_E) (σ1 : nq_S) (R1 : Nat → Int32) (es1 : List nq_Er), n + k = NN → sx_rel s.2.2.2.1.length es1 (cl.foldl sx_add []) → qs_fr σ σ1 → R1 6 = R 6 → qs_X σ1 sp bg nt st fi tb R1 ch nn es1 0 width → nq_J G (d + 1) 0 0 m_QS_select 8 [some (.ref 0), some (.ref c), some (.int (nI NN)), some (.int (nI k))] [] σ1 (xq_Q σ sp bg nt st fi tb width s.1 (match sx_sel s.2.2.2.1 s.2.2.2.2.2.1 s.2.2.2.2.2.2 (envs.drop k) cl with
      | .inl e => .inl e
      | .inr cl => .inr (nI cl.length, tb, cl.foldl sx_add [], s.2.2.2.1.length))) := by
    intro n
    induction n with
    | zero =>
      intro k cl σ1 R1 es1 hn hrel F1 hR X1
      have C1 := hC.fr F1
      obtain ⟨n', hcc⟩ := C1.cell
      rw [if_pos hk] at hcc
      have z1 := X1.1
      have zr := X1.2.2.2.2.2.1
      have zc := zr.cell
      have hlen : es1.length = cl.length := by rw [hrel.1, sx_all_len]; simp
      rw [List.drop_of_length_le (by omega)]
      refine nq_iload_n (pc' := 9) d_QS_select_8 rfl rfl rfl ?_
      refine nq_iload_n (pc' := 10) d_QS_select_9 rfl rfl rfl ?_
      refine nq_icmp_ge (pc' := 13) (tgt := 51) d_QS_select_10 rfl (by decide) (fun _ => ?_) (fun h => absurd ((nI_leI (by omega) (by omega)).mpr (by omega)) h)
      refine nq_aload_n (pc' := 52) d_QS_select_51 rfl rfl rfl ?_
      refine nq_getf (pc' := 55) d_QS_select_52 rfl fl_QS_35 (by first | assumption | exact nq_ga (by assumption) | exact nq_gs (by first | assumption | exact nq_ga (by assumption) | exact nq_gs (by first | assumption | exact nq_gs (by assumption) | exact nq_gn (by first | assumption | decide | omega | exact nq_ne1 (by assumption) (by assumption) | exact nq_ne2 (by assumption) (by assumption)) (by assumption) | exact nq_ga (by assumption)) | exact nq_gn (by first | assumption | decide | omega | exact nq_ne1 (by assumption) (by assumption) | exact nq_ne2 (by assumption) (by assumption)) (by first | assumption | exact nq_gs (by assumption) | exact nq_gn (by first | assumption | decide | omega | exact nq_ne1 (by assumption) (by assumption) | exact nq_ne2 (by assumption) (by assumption)) (by assumption) | exact nq_ga (by assumption))) | exact nq_gn (by first | assumption | decide | omega | exact nq_ne1 (by assumption) (by assumption) | exact nq_ne2 (by assumption) (by assumption)) (by first | assumption | exact nq_ga (by assumption) | exact nq_gs (by first | assumption | exact nq_gs (by assumption) | exact nq_gn (by first | assumption | decide | omega | exact nq_ne1 (by assumption) (by assumption) | exact nq_ne2 (by assumption) (by assumption)) (by assumption) | exact nq_ga (by assumption)) | exact nq_gn (by first | assumption | decide | omega | exact nq_ne1 (by assumption) (by assumption) | exact nq_ne2 (by assumption) (by assumption)) (by first | assumption | exact nq_gs (by assumption) | exact nq_gn (by first | assumption | decide | omega | exact nq_ne1 (by assumption) (by assumption) | exact nq_ne2 (by assumption) (by assumption)) (by assumption) | exact nq_ga (by assumption)))) rfl ?_
      refine nq_aload_n (pc' := 56) d_QS_select_55 rfl rfl rfl ?_
      refine nq_getf (pc' := 59) d_QS_select_56 rfl fl_QS_200 (by first | assumption | exact nq_ga (by assumption) | exact nq_gs (by first | assumption | exact nq_ga (by assumption) | exact nq_gs (by first | assumption | exact nq_gs (by assumption) | exact nq_gn (by first | assumption | decide | omega | exact nq_ne1 (by assumption) (by assumption) | exact nq_ne2 (by assumption) (by assumption)) (by assumption) | exact nq_ga (by assumption)) | exact nq_gn (by first | assumption | decide | omega | exact nq_ne1 (by assumption) (by assumption) | exact nq_ne2 (by assumption) (by assumption)) (by first | assumption | exact nq_gs (by assumption) | exact nq_gn (by first | assumption | decide | omega | exact nq_ne1 (by assumption) (by assumption) | exact nq_ne2 (by assumption) (by assumption)) (by assumption) | exact nq_ga (by assumption))) | exact nq_gn (by first | assumption | decide | omega | exact nq_ne1 (by assumption) (by assumption) | exact nq_ne2 (by assumption) (by assumption)) (by first | assumption | exact nq_ga (by assumption) | exact nq_gs (by first | assumption | exact nq_gs (by assumption) | exact nq_gn (by first | assumption | decide | omega | exact nq_ne1 (by assumption) (by assumption) | exact nq_ne2 (by assumption) (by assumption)) (by assumption) | exact nq_ga (by assumption)) | exact nq_gn (by first | assumption | decide | omega | exact nq_ne1 (by assumption) (by assumption) | exact nq_ne2 (by assumption) (by assumption)) (by first | assumption | exact nq_gs (by assumption) | exact nq_gn (by first | assumption | decide | omega | exact nq_ne1 (by assumption) (by assumption) | exact nq_ne2 (by assumption) (by assumption)) (by assumption) | exact nq_ga (by assumption)))) rfl ?_
      refine nq_callV (pc' := 62) d_QS_select_59 rfl cl_QS_202 rfl (by first | assumption | exact nq_ga (by assumption) | exact nq_gs (by first | assumption | exact nq_ga (by assumption) | exact nq_gs (by first | assumption | exact nq_gs (by assumption) | exact nq_gn (by first | assumption | decide | omega | exact nq_ne1 (by assumption) (by assumption) | exact nq_ne2 (by assumption) (by assumption)) (by assumption) | exact nq_ga (by assumption)) | exact nq_gn (by first | assumption | decide | omega | exact nq_ne1 (by assumption) (by assumption) | exact nq_ne2 (by assumption) (by assumption)) (by first | assumption | exact nq_gs (by assumption) | exact nq_gn (by first | assumption | decide | omega | exact nq_ne1 (by assumption) (by assumption) | exact nq_ne2 (by assumption) (by assumption)) (by assumption) | exact nq_ga (by assumption))) | exact nq_gn (by first | assumption | decide | omega | exact nq_ne1 (by assumption) (by assumption) | exact nq_ne2 (by assumption) (by assumption)) (by first | assumption | exact nq_ga (by assumption) | exact nq_gs (by first | assumption | exact nq_gs (by assumption) | exact nq_gn (by first | assumption | decide | omega | exact nq_ne1 (by assumption) (by assumption) | exact nq_ne2 (by assumption) (by assumption)) (by assumption) | exact nq_ga (by assumption)) | exact nq_gn (by first | assumption | decide | omega | exact nq_ne1 (by assumption) (by assumption) | exact nq_ne2 (by assumption) (by assumption)) (by first | assumption | exact nq_gs (by assumption) | exact nq_gn (by first | assumption | decide | omega | exact nq_ne1 (by assumption) (by assumption) | exact nq_ne2 (by assumption) (by assumption)) (by assumption) | exact nq_ga (by assumption)))) rfl rfl (kc := 0) (ks := 0) (mc' := 0) (ms' := 0) (As := [.int (nI s.2.2.2.1.length)]) (rest := []) rfl rfl (by decide) (k_Result_show zr) (fun E σ2 hq => by cases hq.1) (fun v σ2 hq => ?_)
      obtain ⟨e1, S2, l2, f2⟩ := hq
      cases e1
      have X2 := X1.res S2 (fun i a _ _ _ => f2 i a)
      have F2 : qs_fr σ σ2 := F1.tr ⟨l2, fun i hi => f2 i (by unfold qs_k at hi; omega)⟩
      have y1 := X2.1
      have yc := S2.cell
      refine nq_aload_n (pc' := 63) d_QS_select_62 rfl rfl rfl ?_
      refine nq_getf (pc' := 66) d_QS_select_63 rfl fl_QS_35 (by first | assumption | exact nq_ga (by assumption) | exact nq_gs (by first | assumption | exact nq_ga (by assumption) | exact nq_gs (by first | assumption | exact nq_gs (by assumption) | exact nq_gn (by first | assumption | decide | omega | exact nq_ne1 (by assumption) (by assumption) | exact nq_ne2 (by assumption) (by assumption)) (by assumption) | exact nq_ga (by assumption)) | exact nq_gn (by first | assumption | decide | omega | exact nq_ne1 (by assumption) (by assumption) | exact nq_ne2 (by assumption) (by assumption)) (by first | assumption | exact nq_gs (by assumption) | exact nq_gn (by first | assumption | decide | omega | exact nq_ne1 (by assumption) (by assumption) | exact nq_ne2 (by assumption) (by assumption)) (by assumption) | exact nq_ga (by assumption))) | exact nq_gn (by first | assumption | decide | omega | exact nq_ne1 (by assumption) (by assumption) | exact nq_ne2 (by assumption) (by assumption)) (by first | assumption | exact nq_ga (by assumption) | exact nq_gs (by first | assumption | exact nq_gs (by assumption) | exact nq_gn (by first | assumption | decide | omega | exact nq_ne1 (by assumption) (by assumption) | exact nq_ne2 (by assumption) (by assumption)) (by assumption) | exact nq_ga (by assumption)) | exact nq_gn (by first | assumption | decide | omega | exact nq_ne1 (by assumption) (by assumption) | exact nq_ne2 (by assumption) (by assumption)) (by first | assumption | exact nq_gs (by assumption) | exact nq_gn (by first | assumption | decide | omega | exact nq_ne1 (by assumption) (by assumption) | exact nq_ne2 (by assumption) (by assumption)) (by assumption) | exact nq_ga (by assumption)))) rfl ?_
      refine nq_callVR (pc' := 69) d_QS_select_66 rfl cl_QS_82 rfl (by first | assumption | exact nq_ga (by assumption) | exact nq_gs (by first | assumption | exact nq_ga (by assumption) | exact nq_gs (by first | assumption | exact nq_gs (by assumption) | exact nq_gn (by first | assumption | decide | omega | exact nq_ne1 (by assumption) (by assumption) | exact nq_ne2 (by assumption) (by assumption)) (by assumption) | exact nq_ga (by assumption)) | exact nq_gn (by first | assumption | decide | omega | exact nq_ne1 (by assumption) (by assumption) | exact nq_ne2 (by assumption) (by assumption)) (by first | assumption | exact nq_gs (by assumption) | exact nq_gn (by first | assumption | decide | omega | exact nq_ne1 (by assumption) (by assumption) | exact nq_ne2 (by assumption) (by assumption)) (by assumption) | exact nq_ga (by assumption))) | exact nq_gn (by first | assumption | decide | omega | exact nq_ne1 (by assumption) (by assumption) | exact nq_ne2 (by assumption) (by assumption)) (by first | assumption | exact nq_ga (by assumption) | exact nq_gs (by first | assumption | exact nq_gs (by assumption) | exact nq_gn (by first | assumption | decide | omega | exact nq_ne1 (by assumption) (by assumption) | exact nq_ne2 (by assumption) (by assumption)) (by assumption) | exact nq_ga (by assumption)) | exact nq_gn (by first | assumption | decide | omega | exact nq_ne1 (by assumption) (by assumption) | exact nq_ne2 (by assumption) (by assumption)) (by first | assumption | exact nq_gs (by assumption) | exact nq_gn (by first | assumption | decide | omega | exact nq_ne1 (by assumption) (by assumption) | exact nq_ne2 (by assumption) (by assumption)) (by assumption) | exact nq_ga (by assumption)))) rfl rfl (kc := 0) (ks := 0) (mc' := 0) (ms' := 0) (As := []) (rest := []) rfl rfl (by decide) (k_Result_size S2) ?_
      refine nq_iret d_QS_select_69 rfl rfl ?_
      refine ⟨F2, by rw [hlen], R1, ch, nn, es1, nI s.2.2.2.1.length, ?_, fun _ => ⟨hrel, rfl⟩⟩
      rw [if_neg (by rw [hxc]; simp), ← hrel.1]
      exact X2
    | succ n ih =>
      intro k cl σ1 R1 es1 hn hrel F1 hR X1
      have C1 := hC.fr F1
      obtain ⟨n', hcc⟩ := C1.cell
      have z1 := X1.1
      have hkl : k < envs.length := by omega
      obtain ⟨ρ, p1, p2, mt⟩ := qs_meetk (G := G) (d := d) (k := k) X1 C1 (by omega) (by omega)
      rw [hR] at p1 p2
      rw [henv, List.getElem?_eq_getElem hkl] at p1
      cases p1
      rw [List.drop_eq_getElem_cons hkl]
      unfold sx_sel
      generalize envs[k] = ρ at p2 mt ⊢
      rw [hR] at mt
      refine nq_iload_n (pc' := 9) d_QS_select_8 rfl rfl rfl ?_
      refine nq_iload_n (pc' := 10) d_QS_select_9 rfl rfl rfl ?_
      refine nq_icmp_ge (pc' := 13) (tgt := 51) d_QS_select_10 rfl (by decide) (fun h => absurd ((nI_leI (by omega) (by omega)).mp h) (by omega)) (fun _ => ?_)
      refine nq_aload_n (pc' := 14) d_QS_select_13 rfl rfl rfl ?_
      refine nq_aload_n (pc' := 15) d_QS_select_14 rfl rfl rfl ?_
      refine nq_iload_n (pc' := 16) d_QS_select_15 rfl rfl rfl ?_
      refine nq_callV (pc' := 19) d_QS_select_16 rfl cl_QS_179 rfl (by first | assumption | exact nq_ga (by assumption) | exact nq_gs (by first | assumption | exact nq_ga (by assumption) | exact nq_gs (by first | assumption | exact nq_gs (by assumption) | exact nq_gn (by first | assumption | decide | omega | exact nq_ne1 (by assumption) (by assumption) | exact nq_ne2 (by assumption) (by assumption)) (by assumption) | exact nq_ga (by assumption)) | exact nq_gn (by first | assumption | decide | omega | exact nq_ne1 (by assumption) (by assumption) | exact nq_ne2 (by assumption) (by assumption)) (by first | assumption | exact nq_gs (by assumption) | exact nq_gn (by first | assumption | decide | omega | exact nq_ne1 (by assumption) (by assumption) | exact nq_ne2 (by assumption) (by assumption)) (by assumption) | exact nq_ga (by assumption))) | exact nq_gn (by first | assumption | decide | omega | exact nq_ne1 (by assumption) (by assumption) | exact nq_ne2 (by assumption) (by assumption)) (by first | assumption | exact nq_ga (by assumption) | exact nq_gs (by first | assumption | exact nq_gs (by assumption) | exact nq_gn (by first | assumption | decide | omega | exact nq_ne1 (by assumption) (by assumption) | exact nq_ne2 (by assumption) (by assumption)) (by assumption) | exact nq_ga (by assumption)) | exact nq_gn (by first | assumption | decide | omega | exact nq_ne1 (by assumption) (by assumption) | exact nq_ne2 (by assumption) (by assumption)) (by first | assumption | exact nq_gs (by assumption) | exact nq_gn (by first | assumption | decide | omega | exact nq_ne1 (by assumption) (by assumption) | exact nq_ne2 (by assumption) (by assumption)) (by assumption) | exact nq_ga (by assumption)))) rfl rfl (kc := 0) (ks := 0) (mc' := 0) (ms' := 0) (As := [.ref c, .int (nI k)]) (rest := []) rfl rfl (by decide) mt (fun E σ2 hq => ?_) (fun v σ2 hq => ?_)
      · obtain ⟨R', rfl, hq, hk3⟩ := hq
        cases hv : sx_m s.2.2.2.2.2.1 ρ with
        | none =>
          rw [hv] at hq
          exact ⟨F1.tr (qs_fr.set (by unfold qs_k; omega)), hq, R', ch, nn, es1, X1.regs⟩
        | some b =>
          rw [hv] at hq
          cases hq
      obtain ⟨R', rfl, hq, hk3⟩ := hq
      cases hv : sx_m s.2.2.2.2.2.1 ρ with
      | none =>
        rw [hv] at hq
        cases hq
      | some b =>
      rw [hv] at hq hk3
      cases hq
      obtain ⟨hk4, hk5⟩ := hk3 (by simp)
      have X3 := X1.regs (R' := R')
      have F3 : qs_fr σ (σ1.set 6 (.inl (0, 20, .inl R'))) := F1.tr (qs_fr.set (by unfold qs_k; omega))
      generalize hσ3 : σ1.set 6 (.inl (0, 20, .inl R')) = σ3 at X3 F3 ⊢
      have z1 := X3.1
      have z4 := X3.2.2.2.1
      have z5 := X3.2.2.2.2.1
      have C3 := hC.fr F3
      obtain ⟨n3, hcc3⟩ := C3.cell
      cases b with
      | false =>
        refine nq_if_eq (pc' := 22) (tgt := 45) d_QS_select_19 rfl (by decide) (fun _ => ?_) (fun h => absurd rfl h)
        refine nq_iinc (pc' := 48) d_QS_select_45 rfl rfl (v := nI (k + 1)) (nI_1 k) (by decide) rfl ?_
        refine nq_goto (tgt := 8) d_QS_select_48 (by decide) ?_
        exact ih (k + 1) cl σ3 R' es1 (by omega) hrel F3 hk5 X3
      | true =>
        refine nq_if_eq (pc' := 22) (tgt := 45) d_QS_select_19 rfl (by decide) (fun h => absurd h (by decide)) (fun _ => ?_)
        refine nq_aload_n (pc' := 23) d_QS_select_22 rfl rfl rfl ?_
        refine nq_getf (pc' := 26) d_QS_select_23 rfl fl_QS_28 (by first | assumption | exact nq_ga (by assumption) | exact nq_gs (by first | assumption | exact nq_ga (by assumption) | exact nq_gs (by first | assumption | exact nq_gs (by assumption) | exact nq_gn (by first | assumption | decide | omega | exact nq_ne1 (by assumption) (by assumption) | exact nq_ne2 (by assumption) (by assumption)) (by assumption) | exact nq_ga (by assumption)) | exact nq_gn (by first | assumption | decide | omega | exact nq_ne1 (by assumption) (by assumption) | exact nq_ne2 (by assumption) (by assumption)) (by first | assumption | exact nq_gs (by assumption) | exact nq_gn (by first | assumption | decide | omega | exact nq_ne1 (by assumption) (by assumption) | exact nq_ne2 (by assumption) (by assumption)) (by assumption) | exact nq_ga (by assumption))) | exact nq_gn (by first | assumption | decide | omega | exact nq_ne1 (by assumption) (by assumption) | exact nq_ne2 (by assumption) (by assumption)) (by first | assumption | exact nq_ga (by assumption) | exact nq_gs (by first | assumption | exact nq_gs (by assumption) | exact nq_gn (by first | assumption | decide | omega | exact nq_ne1 (by assumption) (by assumption) | exact nq_ne2 (by assumption) (by assumption)) (by assumption) | exact nq_ga (by assumption)) | exact nq_gn (by first | assumption | decide | omega | exact nq_ne1 (by assumption) (by assumption) | exact nq_ne2 (by assumption) (by assumption)) (by first | assumption | exact nq_gs (by assumption) | exact nq_gn (by first | assumption | decide | omega | exact nq_ne1 (by assumption) (by assumption) | exact nq_ne2 (by assumption) (by assumption)) (by assumption) | exact nq_ga (by assumption)))) rfl ?_
        refine nq_aload_n (pc' := 27) d_QS_select_26 rfl rfl rfl ?_
        refine nq_callV (pc' := 30) d_QS_select_27 rfl cl_QS_156 rfl (by first | assumption | exact nq_ga (by assumption) | exact nq_gs (by first | assumption | exact nq_ga (by assumption) | exact nq_gs (by first | assumption | exact nq_gs (by assumption) | exact nq_gn (by first | assumption | decide | omega | exact nq_ne1 (by assumption) (by assumption) | exact nq_ne2 (by assumption) (by assumption)) (by assumption) | exact nq_ga (by assumption)) | exact nq_gn (by first | assumption | decide | omega | exact nq_ne1 (by assumption) (by assumption) | exact nq_ne2 (by assumption) (by assumption)) (by first | assumption | exact nq_gs (by assumption) | exact nq_gn (by first | assumption | decide | omega | exact nq_ne1 (by assumption) (by assumption) | exact nq_ne2 (by assumption) (by assumption)) (by assumption) | exact nq_ga (by assumption))) | exact nq_gn (by first | assumption | decide | omega | exact nq_ne1 (by assumption) (by assumption) | exact nq_ne2 (by assumption) (by assumption)) (by first | assumption | exact nq_ga (by assumption) | exact nq_gs (by first | assumption | exact nq_gs (by assumption) | exact nq_gn (by first | assumption | decide | omega | exact nq_ne1 (by assumption) (by assumption) | exact nq_ne2 (by assumption) (by assumption)) (by assumption) | exact nq_ga (by assumption)) | exact nq_gn (by first | assumption | decide | omega | exact nq_ne1 (by assumption) (by assumption) | exact nq_ne2 (by assumption) (by assumption)) (by first | assumption | exact nq_gs (by assumption) | exact nq_gn (by first | assumption | decide | omega | exact nq_ne1 (by assumption) (by assumption) | exact nq_ne2 (by assumption) (by assumption)) (by assumption) | exact nq_ga (by assumption)))) rfl rfl (kc := 0) (ks := 0) (mc' := 0) (ms' := 0) (As := [.ref c]) (rest := []) rfl rfl (by decide) (qs_work (ρ := ρ) rfl (by omega) z4 z5 C3 hk4 (hk5.trans p2.symm)) (fun E σ4 hq => ?_) (fun v σ4 hq => ?_)
        · obtain ⟨R4, rfl, hq⟩ := hq
          simp only
          cases hw : sx_vs 7 ρ s.2.2.2.1 with
          | none =>
            rw [hw] at hq
            exact ⟨F3.tr (qs_fr.set (by unfold qs_k; omega)), hq, R4, ch, nn, es1, X3.regs⟩
          | some xs =>
            rw [hw] at hq
            cases hq.1
        obtain ⟨R4, rfl, hq⟩ := hq
        simp only
        cases hw : sx_vs 7 ρ s.2.2.2.1 with
        | none =>
          rw [hw] at hq
          cases hq
        | some xs =>
        rw [hw] at hq
        obtain ⟨e1, e2, e3, e4⟩ := hq
        cases e1
        simp only
        have X4 := X3.regs (R' := R4)
        have F4 : qs_fr σ (σ3.set 6 (.inl (0, 20, .inl R4))) := F3.tr (qs_fr.set (by unfold qs_k; omega))
        generalize hσ4 : σ3.set 6 (.inl (0, 20, .inl R4)) = σ4 at X4 F4 ⊢
        have C4 := hC.fr F4
        obtain ⟨n4', hcc4⟩ := C4.cell
        have y1 := X4.1
        have y4 := X4.2.2.2.1
        have y5 := X4.2.2.2.2.1
        have yr := X4.2.2.2.2.2.1
        have yc := yr.cell
        have ho : (rd_od s.2.2.2.2.2.2 = -1 ∧ sx_mk s.2.2.2.2.2.2 ρ = 0) ∨ ∃ k, rd_od s.2.2.2.2.2.2 = nI k ∧ k < 20 ∧ sx_mk s.2.2.2.2.2.2 ρ = R4 k := by
          rcases rd_od_ok (od := s.2.2.2.2.2.2) (by omega) with ⟨a, b⟩ | ⟨a, b⟩
          · exact .inl ⟨a, by unfold sx_mk; rw [if_pos b]⟩
          · refine .inr ⟨s.2.2.2.2.2.2 - 1, a, by omega, ?_⟩
            unfold sx_mk
            rw [if_neg b, e4 _ (by omega)]
            exact (hk4 _ (by omega)).symm
        have hlen : es1.length = cl.length := by rw [hrel.1, sx_all_len]; simp
        obtain ⟨d3, rfl⟩ : ∃ d3, d = d3 + 1 := ⟨d - 1, by omega⟩
        refine nq_aload_n (pc' := 31) d_QS_select_30 rfl rfl rfl ?_
        refine nq_getf (pc' := 34) d_QS_select_31 rfl fl_QS_35 (by first | assumption | exact nq_ga (by assumption) | exact nq_gs (by first | assumption | exact nq_ga (by assumption) | exact nq_gs (by first | assumption | exact nq_gs (by assumption) | exact nq_gn (by first | assumption | decide | omega | exact nq_ne1 (by assumption) (by assumption) | exact nq_ne2 (by assumption) (by assumption)) (by assumption) | exact nq_ga (by assumption)) | exact nq_gn (by first | assumption | decide | omega | exact nq_ne1 (by assumption) (by assumption) | exact nq_ne2 (by assumption) (by assumption)) (by first | assumption | exact nq_gs (by assumption) | exact nq_gn (by first | assumption | decide | omega | exact nq_ne1 (by assumption) (by assumption) | exact nq_ne2 (by assumption) (by assumption)) (by assumption) | exact nq_ga (by assumption))) | exact nq_gn (by first | assumption | decide | omega | exact nq_ne1 (by assumption) (by assumption) | exact nq_ne2 (by assumption) (by assumption)) (by first | assumption | exact nq_ga (by assumption) | exact nq_gs (by first | assumption | exact nq_gs (by assumption) | exact nq_gn (by first | assumption | decide | omega | exact nq_ne1 (by assumption) (by assumption) | exact nq_ne2 (by assumption) (by assumption)) (by assumption) | exact nq_ga (by assumption)) | exact nq_gn (by first | assumption | decide | omega | exact nq_ne1 (by assumption) (by assumption) | exact nq_ne2 (by assumption) (by assumption)) (by first | assumption | exact nq_gs (by assumption) | exact nq_gn (by first | assumption | decide | omega | exact nq_ne1 (by assumption) (by assumption) | exact nq_ne2 (by assumption) (by assumption)) (by assumption) | exact nq_ga (by assumption)))) rfl ?_
        refine nq_aload_n (pc' := 35) d_QS_select_34 rfl rfl rfl ?_
        refine nq_getf (pc' := 38) d_QS_select_35 rfl fl_QS_28 (by first | assumption | exact nq_ga (by assumption) | exact nq_gs (by first | assumption | exact nq_ga (by assumption) | exact nq_gs (by first | assumption | exact nq_gs (by assumption) | exact nq_gn (by first | assumption | decide | omega | exact nq_ne1 (by assumption) (by assumption) | exact nq_ne2 (by assumption) (by assumption)) (by assumption) | exact nq_ga (by assumption)) | exact nq_gn (by first | assumption | decide | omega | exact nq_ne1 (by assumption) (by assumption) | exact nq_ne2 (by assumption) (by assumption)) (by first | assumption | exact nq_gs (by assumption) | exact nq_gn (by first | assumption | decide | omega | exact nq_ne1 (by assumption) (by assumption) | exact nq_ne2 (by assumption) (by assumption)) (by assumption) | exact nq_ga (by assumption))) | exact nq_gn (by first | assumption | decide | omega | exact nq_ne1 (by assumption) (by assumption) | exact nq_ne2 (by assumption) (by assumption)) (by first | assumption | exact nq_ga (by assumption) | exact nq_gs (by first | assumption | exact nq_gs (by assumption) | exact nq_gn (by first | assumption | decide | omega | exact nq_ne1 (by assumption) (by assumption) | exact nq_ne2 (by assumption) (by assumption)) (by assumption) | exact nq_ga (by assumption)) | exact nq_gn (by first | assumption | decide | omega | exact nq_ne1 (by assumption) (by assumption) | exact nq_ne2 (by assumption) (by assumption)) (by first | assumption | exact nq_gs (by assumption) | exact nq_gn (by first | assumption | decide | omega | exact nq_ne1 (by assumption) (by assumption) | exact nq_ne2 (by assumption) (by assumption)) (by assumption) | exact nq_ga (by assumption)))) rfl ?_
        refine nq_aload_n (pc' := 39) d_QS_select_38 rfl rfl rfl ?_
        refine nq_getf (pc' := 42) d_QS_select_39 rfl fl_QS_194 (by first | assumption | exact nq_ga (by assumption) | exact nq_gs (by first | assumption | exact nq_ga (by assumption) | exact nq_gs (by first | assumption | exact nq_gs (by assumption) | exact nq_gn (by first | assumption | decide | omega | exact nq_ne1 (by assumption) (by assumption) | exact nq_ne2 (by assumption) (by assumption)) (by assumption) | exact nq_ga (by assumption)) | exact nq_gn (by first | assumption | decide | omega | exact nq_ne1 (by assumption) (by assumption) | exact nq_ne2 (by assumption) (by assumption)) (by first | assumption | exact nq_gs (by assumption) | exact nq_gn (by first | assumption | decide | omega | exact nq_ne1 (by assumption) (by assumption) | exact nq_ne2 (by assumption) (by assumption)) (by assumption) | exact nq_ga (by assumption))) | exact nq_gn (by first | assumption | decide | omega | exact nq_ne1 (by assumption) (by assumption) | exact nq_ne2 (by assumption) (by assumption)) (by first | assumption | exact nq_ga (by assumption) | exact nq_gs (by first | assumption | exact nq_gs (by assumption) | exact nq_gn (by first | assumption | decide | omega | exact nq_ne1 (by assumption) (by assumption) | exact nq_ne2 (by assumption) (by assumption)) (by assumption) | exact nq_ga (by assumption)) | exact nq_gn (by first | assumption | decide | omega | exact nq_ne1 (by assumption) (by assumption) | exact nq_ne2 (by assumption) (by assumption)) (by first | assumption | exact nq_gs (by assumption) | exact nq_gn (by first | assumption | decide | omega | exact nq_ne1 (by assumption) (by assumption) | exact nq_ne2 (by assumption) (by assumption)) (by assumption) | exact nq_ga (by assumption)))) rfl ?_
        refine nq_callV (pc' := 45) d_QS_select_42 rfl cl_QS_197 rfl (by first | assumption | exact nq_ga (by assumption) | exact nq_gs (by first | assumption | exact nq_ga (by assumption) | exact nq_gs (by first | assumption | exact nq_gs (by assumption) | exact nq_gn (by first | assumption | decide | omega | exact nq_ne1 (by assumption) (by assumption) | exact nq_ne2 (by assumption) (by assumption)) (by assumption) | exact nq_ga (by assumption)) | exact nq_gn (by first | assumption | decide | omega | exact nq_ne1 (by assumption) (by assumption) | exact nq_ne2 (by assumption) (by assumption)) (by first | assumption | exact nq_gs (by assumption) | exact nq_gn (by first | assumption | decide | omega | exact nq_ne1 (by assumption) (by assumption) | exact nq_ne2 (by assumption) (by assumption)) (by assumption) | exact nq_ga (by assumption))) | exact nq_gn (by first | assumption | decide | omega | exact nq_ne1 (by assumption) (by assumption) | exact nq_ne2 (by assumption) (by assumption)) (by first | assumption | exact nq_ga (by assumption) | exact nq_gs (by first | assumption | exact nq_gs (by assumption) | exact nq_gn (by first | assumption | decide | omega | exact nq_ne1 (by assumption) (by assumption) | exact nq_ne2 (by assumption) (by assumption)) (by assumption) | exact nq_ga (by assumption)) | exact nq_gn (by first | assumption | decide | omega | exact nq_ne1 (by assumption) (by assumption) | exact nq_ne2 (by assumption) (by assumption)) (by first | assumption | exact nq_gs (by assumption) | exact nq_gn (by first | assumption | decide | omega | exact nq_ne1 (by assumption) (by assumption) | exact nq_ne2 (by assumption) (by assumption)) (by assumption) | exact nq_ga (by assumption)))) rfl rfl (kc := 0) (ks := 0) (mc' := 0) (ms' := 0) (As := [.ref 5, .int (rd_od s.2.2.2.2.2.2)]) (rest := []) rfl rfl (by decide) (k_Result_add yr y4 y5 (by decide) (by decide) (by decide) ho) (fun E σ5 hq => ?_) (fun v σ5 hq => ?_)
        · rcases hq with ⟨q1, q2, rfl⟩ | ⟨_, q2, _⟩
          · rw [if_pos (by omega)]
            exact ⟨F4, q2, R4, ch, nn, es1, X4⟩
          · cases q2
        rcases hq with ⟨_, q2, _⟩ | ⟨q1, q2, S5, l5, f5⟩
        · cases q2
        cases q2
        rw [if_neg (by omega)]
        have X5 := X4.res S5 f5
        have F5 : qs_fr σ σ5 := F4.tr ⟨l5, fun i hi => f5 i (by unfold qs_k at hi; omega) (by unfold qs_k at hi; omega) (by unfold qs_k at hi; omega) (by unfold qs_k at hi; omega)⟩
        refine nq_iinc (pc' := 48) d_QS_select_45 rfl rfl (v := nI (k + 1)) (nI_1 k) (by decide) rfl ?_
        refine nq_goto (tgt := 8) d_QS_select_48 (by decide) ?_
        refine ih (k + 1) (cl ++ [(sx_mk s.2.2.2.2.2.2 ρ, xs)]) σ5 R4 _ (by omega) ?_ F5 ((e4 6 (by decide)).trans hk5) X5
        rw [sx_all_app]
        refine sx_rel_add hrel rfl (fun j v hj hx => ?_)
        have hjx := e3 j v hx
        have : j = 0 ∨ j = 1 ∨ j = 2 := by omega
        rcases this with rfl | rfl | rfl
        · exact hjx
        · exact hjx
        · exact hjx
  have h1 := hX.1
  refine nq_mk' (lv := [some (.ref 0), some (.ref c), none, none]) (by decide +kernel) rfl (Nat.le_of_ble_eq_true rfl) rfl ?_
  refine nq_aload_n (pc' := 1) d_QS_select_0 rfl rfl rfl ?_
  refine nq_aload_n (pc' := 2) d_QS_select_1 rfl rfl rfl ?_
  refine nq_callVR (pc' := 5) d_QS_select_2 rfl cl_QS_191 rfl (by first | assumption | exact nq_ga (by assumption) | exact nq_gs (by first | assumption | exact nq_ga (by assumption) | exact nq_gs (by first | assumption | exact nq_gs (by assumption) | exact nq_gn (by first | assumption | decide | omega | exact nq_ne1 (by assumption) (by assumption) | exact nq_ne2 (by assumption) (by assumption)) (by assumption) | exact nq_ga (by assumption)) | exact nq_gn (by first | assumption | decide | omega | exact nq_ne1 (by assumption) (by assumption) | exact nq_ne2 (by assumption) (by assumption)) (by first | assumption | exact nq_gs (by assumption) | exact nq_gn (by first | assumption | decide | omega | exact nq_ne1 (by assumption) (by assumption) | exact nq_ne2 (by assumption) (by assumption)) (by assumption) | exact nq_ga (by assumption))) | exact nq_gn (by first | assumption | decide | omega | exact nq_ne1 (by assumption) (by assumption) | exact nq_ne2 (by assumption) (by assumption)) (by first | assumption | exact nq_ga (by assumption) | exact nq_gs (by first | assumption | exact nq_gs (by assumption) | exact nq_gn (by first | assumption | decide | omega | exact nq_ne1 (by assumption) (by assumption) | exact nq_ne2 (by assumption) (by assumption)) (by assumption) | exact nq_ga (by assumption)) | exact nq_gn (by first | assumption | decide | omega | exact nq_ne1 (by assumption) (by assumption) | exact nq_ne2 (by assumption) (by assumption)) (by first | assumption | exact nq_gs (by assumption) | exact nq_gn (by first | assumption | decide | omega | exact nq_ne1 (by assumption) (by assumption) | exact nq_ne2 (by assumption) (by assumption)) (by assumption) | exact nq_ga (by assumption)))) rfl rfl (kc := 0) (ks := 0) (mc' := 0) (ms' := 0) (As := [.ref c]) (rest := []) rfl rfl (by decide) (k_QS_pairsOf hX hC (by omega)) ?_
  rw [hNN]
  refine nq_istore_n (pc' := 6) d_QS_select_5 rfl rfl (by decide) rfl ?_
  refine nq_iconst (v := 0) (pc' := 7) d_QS_select_6 rfl (by decide) ?_
  refine nq_istore_n (pc' := 8) d_QS_select_7 rfl rfl (by decide) rfl ?_
  have := loop NN 0 [] σ R [] (by omega) ⟨rfl, fun i e x h => by simp at h⟩ qs_fr.rf rfl hX
  rw [List.drop_zero] at this
  exact this
end QS
