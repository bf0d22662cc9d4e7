/-! THE LAW: its helpers -/
theorem nq_mkH' {G : nq_G} {d kc ks : Nat} {y : nq_M} {σ : nq_S} {Q : nq_Q} {av : List Value} {lv : List (Option Value)} {h0 : Nat × Nat × Nat × Nat} {hh0 : List (Nat × Nat × Nat × Nat)} (hy : plainName y.1.cls = true) (hh : y.2.2.2.2 = h0 :: hh0) (hn : (nq_ea av).length ≤ y.2.2.1) (hlv : nq_ent av y.2.2.1 = lv) (k : nq_J G d kc ks y 0 lv [] σ Q) : nq_JM G d kc ks y av σ Q := by
  subst hlv
  exact nq_mkH hy hh hn k
theorem ck_13 : Cond.classLink "QueryStoreLaw" 13 "java/lang/IllegalArgumentException" ∈ nq_T := (nq_i2 32 rfl rfl)
theorem ck_15 : Cond.classLink "QueryStoreLaw" 15 "java/lang/IllegalStateException" ∈ nq_T := (nq_i2 33 rfl rfl)
theorem ck_25 : Cond.classLink "QueryStoreLaw" 25 "java/util/NoSuchElementException" ∈ nq_T := (nq_i3 85 rfl rfl)
theorem ck_27 : Cond.classLink "QueryStoreLaw" 27 "java/lang/ArithmeticException" ∈ nq_T := (nq_i3 86 rfl rfl)
theorem ck_29 : Cond.classLink "QueryStoreLaw" 29 "java/lang/UnsupportedOperationException" ∈ nq_T := (nq_i3 87 rfl rfl)
theorem cc_13 : Cond.castable nq_IA "java/lang/IllegalArgumentException" ∈ nq_N := List.mem_append.mpr (.inr (List.mem_append.mpr (.inl (List.mem_map.mpr ⟨(nq_IA, "java/lang/IllegalArgumentException"), by decide, rfl⟩))))
theorem cc_15 : Cond.castable nq_IS "java/lang/IllegalStateException" ∈ nq_N := List.mem_append.mpr (.inr (List.mem_append.mpr (.inl (List.mem_map.mpr ⟨(nq_IS, "java/lang/IllegalStateException"), by decide, rfl⟩))))
theorem cc_25 : Cond.castable nq_NE "java/util/NoSuchElementException" ∈ nq_N := List.mem_append.mpr (.inr (List.mem_append.mpr (.inl (List.mem_map.mpr ⟨(nq_NE, "java/util/NoSuchElementException"), by decide, rfl⟩))))
theorem cc_27 : Cond.castable nq_AE "java/lang/ArithmeticException" ∈ nq_N := List.mem_append.mpr (.inr (List.mem_append.mpr (.inl (List.mem_map.mpr ⟨(nq_AE, "java/lang/ArithmeticException"), by decide, rfl⟩))))
theorem cc_29 : Cond.castable nq_UE "java/lang/UnsupportedOperationException" ∈ nq_N := List.mem_append.mpr (.inr (List.mem_append.mpr (.inl (List.mem_map.mpr ⟨(nq_UE, "java/lang/UnsupportedOperationException"), by decide, rfl⟩))))
theorem cv_13_15 : (nq_IA, "java/lang/IllegalStateException") ∈ nq_V := by decide
theorem cv_13_25 : (nq_IA, "java/util/NoSuchElementException") ∈ nq_V := by decide
theorem cv_13_27 : (nq_IA, "java/lang/ArithmeticException") ∈ nq_V := by decide
theorem cv_13_29 : (nq_IA, "java/lang/UnsupportedOperationException") ∈ nq_V := by decide
theorem cv_15_13 : (nq_IS, "java/lang/IllegalArgumentException") ∈ nq_V := by decide
theorem cv_15_25 : (nq_IS, "java/util/NoSuchElementException") ∈ nq_V := by decide
theorem cv_15_27 : (nq_IS, "java/lang/ArithmeticException") ∈ nq_V := by decide
theorem cv_15_29 : (nq_IS, "java/lang/UnsupportedOperationException") ∈ nq_V := by decide
theorem cv_25_13 : (nq_NE, "java/lang/IllegalArgumentException") ∈ nq_V := by decide
theorem cv_25_15 : (nq_NE, "java/lang/IllegalStateException") ∈ nq_V := by decide
theorem cv_25_27 : (nq_NE, "java/lang/ArithmeticException") ∈ nq_V := by decide
theorem cv_25_29 : (nq_NE, "java/lang/UnsupportedOperationException") ∈ nq_V := by decide
theorem cv_27_13 : (nq_AE, "java/lang/IllegalArgumentException") ∈ nq_V := by decide
theorem cv_27_15 : (nq_AE, "java/lang/IllegalStateException") ∈ nq_V := by decide
theorem cv_27_25 : (nq_AE, "java/util/NoSuchElementException") ∈ nq_V := by decide
theorem cv_27_29 : (nq_AE, "java/lang/UnsupportedOperationException") ∈ nq_V := by decide
theorem cv_29_13 : (nq_UE, "java/lang/IllegalArgumentException") ∈ nq_V := by decide
theorem cv_29_15 : (nq_UE, "java/lang/IllegalStateException") ∈ nq_V := by decide
theorem cv_29_25 : (nq_UE, "java/util/NoSuchElementException") ∈ nq_V := by decide
theorem cv_29_27 : (nq_UE, "java/lang/ArithmeticException") ∈ nq_V := by decide
theorem ct_type_0 : nq_Ct m_Law_type 4 nq_IA 4 14 := ⟨[], (0, 9, 12, 13), [(0, 9, 16, 15)], _, rfl, (fun z hz => by cases hz), by decide, by decide, ck_13, cc_13, .inr ⟨d_Law_type_12, rfl⟩, by decide⟩
theorem ct_type_1 : nq_Ct m_Law_type 4 nq_IS 4 18 := ⟨[(0, 9, 12, 13)], (0, 9, 16, 15), [], _, rfl, (fun z hz => by
    simp only [List.mem_cons, List.not_mem_nil, or_false] at hz
    rcases hz with rfl
    · exact ⟨by decide, _, ck_13, cv_15_13⟩), by decide, by decide, ck_15, cc_15, .inr ⟨d_Law_type_16, rfl⟩, by decide⟩
theorem ct_keep_0 : nq_Ct m_Law_keep 4 nq_IA 3 13 := ⟨[], (0, 9, 12, 13), [], _, rfl, (fun z hz => by cases hz), by decide, by decide, ck_13, cc_13, .inl ⟨3, rfl, d_Law_keep_12, rfl⟩, by decide⟩
theorem ct_run_0 : nq_Ct m_Law_run 5 nq_IA 4 15 := ⟨[], (0, 10, 13, 13), [(0, 10, 17, 25), (0, 10, 21, 27), (0, 10, 25, 15), (0, 10, 29, 29)], _, rfl, (fun z hz => by cases hz), by decide, by decide, ck_13, cc_13, .inr ⟨d_Law_run_13, rfl⟩, by decide⟩
theorem ct_run_1 : nq_Ct m_Law_run 5 nq_NE 4 19 := ⟨[(0, 10, 13, 13)], (0, 10, 17, 25), [(0, 10, 21, 27), (0, 10, 25, 15), (0, 10, 29, 29)], _, rfl, (fun z hz => by
    simp only [List.mem_cons, List.not_mem_nil, or_false] at hz
    rcases hz with rfl
    · exact ⟨by decide, _, ck_13, cv_25_13⟩), by decide, by decide, ck_25, cc_25, .inr ⟨d_Law_run_17, rfl⟩, by decide⟩
theorem ct_run_2 : nq_Ct m_Law_run 5 nq_AE 4 23 := ⟨[(0, 10, 13, 13), (0, 10, 17, 25)], (0, 10, 21, 27), [(0, 10, 25, 15), (0, 10, 29, 29)], _, rfl, (fun z hz => by
    simp only [List.mem_cons, List.not_mem_nil, or_false] at hz
    rcases hz with rfl | rfl
    · exact ⟨by decide, _, ck_13, cv_27_13⟩
    · exact ⟨by decide, _, ck_25, cv_27_25⟩), by decide, by decide, ck_27, cc_27, .inr ⟨d_Law_run_21, rfl⟩, by decide⟩
theorem ct_run_3 : nq_Ct m_Law_run 5 nq_IS 4 27 := ⟨[(0, 10, 13, 13), (0, 10, 17, 25), (0, 10, 21, 27)], (0, 10, 25, 15), [(0, 10, 29, 29)], _, rfl, (fun z hz => by
    simp only [List.mem_cons, List.not_mem_nil, or_false] at hz
    rcases hz with rfl | rfl | rfl
    · exact ⟨by decide, _, ck_13, cv_15_13⟩
    · exact ⟨by decide, _, ck_25, cv_15_25⟩
    · exact ⟨by decide, _, ck_27, cv_15_27⟩), by decide, by decide, ck_15, cc_15, .inr ⟨d_Law_run_25, rfl⟩, by decide⟩
theorem ct_run_4 : nq_Ct m_Law_run 5 nq_UE 4 31 := ⟨[(0, 10, 13, 13), (0, 10, 17, 25), (0, 10, 21, 27), (0, 10, 25, 15)], (0, 10, 29, 29), [], _, rfl, (fun z hz => by
    simp only [List.mem_cons, List.not_mem_nil, or_false] at hz
    rcases hz with rfl | rfl | rfl | rfl
    · exact ⟨by decide, _, ck_13, cv_29_13⟩
    · exact ⟨by decide, _, ck_25, cv_29_25⟩
    · exact ⟨by decide, _, ck_27, cv_29_27⟩
    · exact ⟨by decide, _, ck_15, cv_29_15⟩), by decide, by decide, ck_29, cc_29, .inr ⟨d_Law_run_29, rfl⟩, by decide⟩
theorem ct_ask_0 : nq_Ct m_Law_ask 4 nq_IA 3 13 := ⟨[], (0, 9, 12, 13), [(0, 9, 15, 25), (0, 9, 18, 27), (0, 9, 21, 15), (0, 9, 24, 29)], _, rfl, (fun z hz => by cases hz), by decide, by decide, ck_13, cc_13, .inl ⟨3, rfl, d_Law_ask_12, rfl⟩, by decide⟩
theorem ct_ask_1 : nq_Ct m_Law_ask 4 nq_NE 3 16 := ⟨[(0, 9, 12, 13)], (0, 9, 15, 25), [(0, 9, 18, 27), (0, 9, 21, 15), (0, 9, 24, 29)], _, rfl, (fun z hz => by
    simp only [List.mem_cons, List.not_mem_nil, or_false] at hz
    rcases hz with rfl
    · exact ⟨by decide, _, ck_13, cv_25_13⟩), by decide, by decide, ck_25, cc_25, .inl ⟨3, rfl, d_Law_ask_15, rfl⟩, by decide⟩
theorem ct_ask_2 : nq_Ct m_Law_ask 4 nq_AE 3 19 := ⟨[(0, 9, 12, 13), (0, 9, 15, 25)], (0, 9, 18, 27), [(0, 9, 21, 15), (0, 9, 24, 29)], _, rfl, (fun z hz => by
    simp only [List.mem_cons, List.not_mem_nil, or_false] at hz
    rcases hz with rfl | rfl
    · exact ⟨by decide, _, ck_13, cv_27_13⟩
    · exact ⟨by decide, _, ck_25, cv_27_25⟩), by decide, by decide, ck_27, cc_27, .inl ⟨3, rfl, d_Law_ask_18, rfl⟩, by decide⟩
theorem ct_ask_3 : nq_Ct m_Law_ask 4 nq_IS 3 22 := ⟨[(0, 9, 12, 13), (0, 9, 15, 25), (0, 9, 18, 27)], (0, 9, 21, 15), [(0, 9, 24, 29)], _, rfl, (fun z hz => by
    simp only [List.mem_cons, List.not_mem_nil, or_false] at hz
    rcases hz with rfl | rfl | rfl
    · exact ⟨by decide, _, ck_13, cv_15_13⟩
    · exact ⟨by decide, _, ck_25, cv_15_25⟩
    · exact ⟨by decide, _, ck_27, cv_15_27⟩), by decide, by decide, ck_15, cc_15, .inl ⟨3, rfl, d_Law_ask_21, rfl⟩, by decide⟩
theorem ct_ask_4 : nq_Ct m_Law_ask 4 nq_UE 3 25 := ⟨[(0, 9, 12, 13), (0, 9, 15, 25), (0, 9, 18, 27), (0, 9, 21, 15)], (0, 9, 24, 29), [], _, rfl, (fun z hz => by
    simp only [List.mem_cons, List.not_mem_nil, or_false] at hz
    rcases hz with rfl | rfl | rfl | rfl
    · exact ⟨by decide, _, ck_13, cv_29_13⟩
    · exact ⟨by decide, _, ck_25, cv_29_25⟩
    · exact ⟨by decide, _, ck_27, cv_29_27⟩
    · exact ⟨by decide, _, ck_15, cv_29_15⟩), by decide, by decide, ck_29, cc_29, .inl ⟨3, rfl, d_Law_ask_24, rfl⟩, by decide⟩
theorem ct_value_0 : nq_Ct m_Law_value 5 nq_NE 4 15 := ⟨[], (0, 10, 13, 25), [], _, rfl, (fun z hz => by cases hz), by decide, by decide, ck_25, cc_25, .inr ⟨d_Law_value_13, rfl⟩, by decide⟩
theorem ct_row_0 : nq_Ct m_Law_row 7 nq_IA 5 17 := ⟨[], (0, 12, 15, 13), [(0, 12, 19, 25)], _, rfl, (fun z hz => by cases hz), by decide, by decide, ck_13, cc_13, .inr ⟨d_Law_row_15, rfl⟩, by decide⟩
theorem ct_row_1 : nq_Ct m_Law_row 7 nq_NE 5 21 := ⟨[(0, 12, 15, 13)], (0, 12, 19, 25), [], _, rfl, (fun z hz => by
    simp only [List.mem_cons, List.not_mem_nil, or_false] at hz
    rcases hz with rfl
    · exact ⟨by decide, _, ck_13, cv_25_13⟩), by decide, by decide, ck_25, cc_25, .inr ⟨d_Law_row_19, rfl⟩, by decide⟩
theorem ct_begin_0 : nq_Ct m_Law_begin 1 nq_IS 1 8 := ⟨[], (0, 4, 7, 15), [], _, rfl, (fun z hz => by cases hz), by decide, by decide, ck_15, cc_15, .inl ⟨1, rfl, d_Law_begin_7, rfl⟩, by decide⟩
theorem ct_end_0 : nq_Ct m_Law_end 3 nq_IS 2 12 := ⟨[], (0, 8, 11, 15), [], _, rfl, (fun z hz => by cases hz), by decide, by decide, ck_15, cc_15, .inl ⟨2, rfl, d_Law_end_11, rfl⟩, by decide⟩
theorem ct_back_0 : nq_Ct m_Law_back 3 nq_IS 2 12 := ⟨[], (0, 8, 11, 15), [], _, rfl, (fun z hz => by cases hz), by decide, by decide, ck_15, cc_15, .inl ⟨2, rfl, d_Law_back_11, rfl⟩, by decide⟩
/-! what each may throw -/
def sx_ks (a : sx_A) (l : List String) : Prop := (∃ x, a = .inl (some x)) ∨ ∃ e ∈ l, a = .inr e
theorem sx_type_k {p : Int64} {S : sx_S} : sx_ks (sx_type p S).1 [nq_IA, nq_IS] := by
  obtain ⟨T, r⟩ := S
  unfold sx_type
  simp only
  unfold sx_ty
  cases sx_cn p 8 with
  | none => exact .inr ⟨nq_IA, by simp, rfl⟩
  | some n =>
    simp only
    by_cases h : 48 < T.length + n
    · rw [if_pos h]
      exact .inr ⟨nq_IS, by simp, rfl⟩
    · rw [if_neg h]
      exact .inl ⟨_, rfl⟩
theorem sx_keep_k {k : Int32} {S : sx_S} : sx_ks (sx_keep k S).1 [nq_IA] := by
  obtain ⟨T, pl, kp, r⟩ := S
  unfold sx_keep
  simp only
  by_cases h : k < 0 ∨ 4 ≤ k
  · rw [if_pos h]
    exact .inr ⟨nq_IA, by simp, rfl⟩
  · rw [if_neg h]
    cases sp_stmt (sx_L T) T.length with
    | inl q => exact .inr ⟨nq_IA, by simp, rfl⟩
    | inr s => exact .inl ⟨_, rfl⟩
theorem sx_run_k {s : sp_St} {p : Int32} {S : sx_S} : sx_ks (sx_run s p S).1 [nq_IA, nq_NE, nq_AE, nq_IS, nq_UE] := by
  obtain ⟨T, pl, kp, tb, old, bg, nt, dn, fl, res, w⟩ := S
  unfold sx_run
  simp only
  cases hx : sx_exec tb s p with
  | inl e =>
    refine .inr ⟨e, ?_, rfl⟩
    rcases sx_exec_e hx with h | h | h | h <;> rw [h] <;> simp
  | inr r =>
    obtain ⟨n, tb', res', w'⟩ := r
    exact .inl ⟨n, rfl⟩
theorem sx_runk_k {k p : Int32} {S : sx_S} : sx_ks (sx_runk k p S).1 [nq_IA, nq_NE, nq_AE, nq_IS, nq_UE] := by
  unfold sx_runk
  by_cases h : k < 0 ∨ 4 ≤ k
  · rw [if_pos h]
    exact .inr ⟨nq_IA, by simp, rfl⟩
  · rw [if_neg h]
    cases S.2.2.1 k.toNatClampNeg with
    | none => exact .inr ⟨nq_NE, by simp, rfl⟩
    | some s => exact sx_run_k
theorem sx_ask_k {p : Int32} {S : sx_S} : sx_ks (sx_ask p S).1 [nq_IA, nq_NE, nq_AE, nq_IS, nq_UE] := by
  obtain ⟨T, pl, r⟩ := S
  unfold sx_ask
  simp only
  cases sp_stmt (sx_L T) T.length with
  | inl q => exact .inr ⟨nq_IA, by simp, rfl⟩
  | inr s => exact sx_run_k
theorem sx_value_k {i j : Int32} {S : sx_S} : sx_ks (sx_value i j S).1 [nq_NE] := by
  obtain ⟨T, pl, kp, tb, old, bg, nt, dn, fl, res, w⟩ := S
  unfold sx_value
  simp only
  by_cases h : i < 0 ∨ nI res.length ≤ i ∨ j < 0 ∨ nI (if res = [] then 0 else w) ≤ j
  · rw [if_pos h]
    exact .inr ⟨nq_NE, by simp, rfl⟩
  · rw [if_neg h]
    exact .inl ⟨_, rfl⟩
theorem sx_rw_k {t i j : Int32} {S : sx_S} : sx_ks (sx_rw t i j S).1 [nq_IA, nq_NE] := by
  obtain ⟨T, pl, kp, tb, old, bg, nt, dn, fl, res, w⟩ := S
  unfold sx_rw
  simp only
  by_cases h : t < 0 ∨ 3 ≤ t ∨ j < 0 ∨ 3 ≤ j
  · rw [if_pos h]
    exact .inr ⟨nq_IA, by simp, rfl⟩
  · rw [if_neg h]
    by_cases h2 : i < 0 ∨ nI (tb.getD t.toNatClampNeg []).length ≤ i
    · rw [if_pos h2]
      exact .inr ⟨nq_NE, by simp, rfl⟩
    · rw [if_neg h2]
      exact .inl ⟨_, rfl⟩
theorem sx_end_k {S : sx_S} : sx_ks (sx_end S).1 [nq_IS] := by
  obtain ⟨T, pl, kp, tb, old, bg, nt, dn, fl, res, w⟩ := S
  unfold sx_end
  cases bg with
  | true => exact .inl ⟨_, rfl⟩
  | false => exact .inr ⟨nq_IS, by simp, rfl⟩
theorem sx_back_k {S : sx_S} : sx_ks (sx_back S).1 [nq_IS] := by
  obtain ⟨T, pl, kp, tb, old, bg, nt, dn, fl, res, w⟩ := S
  unfold sx_back
  cases bg with
  | true => exact .inl ⟨_, rfl⟩
  | false => exact .inr ⟨nq_IS, by simp, rfl⟩
theorem sx_begin_k {S : sx_S} : (sx_begin S).1 = .inl none ∨ (sx_begin S).1 = .inr nq_IS := by
  obtain ⟨T, pl, kp, tb, old, bg, nt, dn, fl, res, w⟩ := S
  unfold sx_begin
  cases bg with
  | true => exact .inr rfl
  | false => exact .inl rfl
def la_fr (σ σ' : nq_S) : Prop := (∀ i, 270 ≤ i → i < 287 → σ'[i]? = σ[i]?) ∧ σ.length ≤ σ'.length ∧ σ'.length ≤ σ.length + 4
def la_O (σ : nq_S) (f : Nat → Int64) : Prop := σ[287]? = some (.inl (3, 1, .inr (.inl f)))
def la_Q (c : String → Int32) (σ : nq_S) (r : sx_A × sx_S) : nq_Q := fun o σ' => qs_R σ' r.2 ∧ la_fr σ σ' ∧ ∃ f', la_O σ' f' ∧ match r.1 with
  | .inl y => o = .inl (some (.int 0)) ∧ ∀ x, y = some x → f' 0 = x.toInt64
  | .inr e => o = .inl (some (.int (c e)))
theorem qs_R.zero {σ : nq_S} {S : sx_S} (h : qs_R σ S) : ∃ fs, σ[0]? = some (.inr (6, fs)) := by
  obtain ⟨T, pl, kp, tb, old, bg, nt, dn, fl, res, w⟩ := S
  obtain ⟨h0, hw, sp, R, ch, nn, es, width, hX, hr, hB, hT, hP⟩ := h
  exact ⟨_, hX.1⟩
section LA
variable {G : nq_G} {d : Nat} {σ : nq_S} {S : sx_S} {f : Nat → Int64}
theorem la_ex {c : String → Int32} {r : sx_A × sx_S} {σ1 : nq_S} {e : String} {k : Int32} (q2 : qs_R σ1 r.2) (q3 : ca_fr σ σ1) (ho : la_O σ f) (hx : r.1 = .inr e) (hk : c e = k) : la_Q c σ r (.inl (some (.int k))) σ1 := by
  refine ⟨q2, ⟨fun i a b => q3.1 i a (by omega), q3.2⟩, f, (q3.1 287 (by decide) (by decide)).trans ho, ?_⟩
  rw [hx]
  simp only
  rw [hk]
theorem la_ok {c : String → Int32} {r : sx_A × sx_S} {σ1 : nq_S} {x : Int32} (q2 : qs_R σ1 r.2) (q3 : ca_fr σ σ1) (ho : la_O σ f) (hx : r.1 = .inl (some x)) : la_Q c σ r (.inl (some (.int 0))) (σ1.set 287 (.inl (3, 1, .inr (.inl (vp_updL f 0 x.toInt64))))) := by
  have ho1 : la_O σ1 f := (q3.1 287 (by decide) (by decide)).trans ho
  refine ⟨q2.of (fun i hi => List.getElem?_set_ne (by omega)) (fun i a b => List.getElem?_set_ne (by omega)) (by rw [List.length_set]; exact Nat.le_refl _), ⟨fun i a b => (List.getElem?_set_ne (by omega)).trans (q3.1 i a (by omega)), by rw [List.length_set]; exact q3.2⟩, _, nq_gs ho1, ?_⟩
  rw [hx]
  exact ⟨rfl, fun y hy => by cases hy; rfl⟩
theorem k_Law_type {p : Int64} (hR : qs_R σ S) (ho : la_O σ f) (hD : 5 ≤ d) : nq_JM G d 1 6 m_Law_type [.ref 0, .long p, .ref 287] σ (la_Q mo_ty σ (sx_type p S)) := by
  obtain ⟨d, rfl⟩ : ∃ d', d = d' + 1 := ⟨d - 1, by omega⟩
  obtain ⟨fs, z0⟩ := hR.zero
  refine nq_mkH' (lv := [some (.ref 0), some (.long p), none, some (.ref 287), none]) (by decide +kernel) rfl (Nat.le_of_ble_eq_true rfl) rfl ?_
  refine nq_aload_n (pc' := 1) d_Law_type_0 rfl rfl rfl ?_
  refine nq_iconst (v := 0) (pc' := 2) d_Law_type_1 rfl (by decide) ?_
  refine nq_aload_n (pc' := 3) d_Law_type_2 rfl rfl rfl ?_
  refine nq_lload_n (pc' := 4) d_Law_type_3 rfl rfl rfl ?_
  refine nq_callVH (pc' := 7) d_Law_type_4 rfl cl_Law_7 (by first | assumption | exact nq_ga (by assumption) | exact nq_gs (by first | assumption | exact nq_ga (by assumption) | exact nq_gs (by first | assumption | exact nq_gs (by assumption) | exact nq_gn (by first | assumption | decide | omega | exact nq_ne1 (by assumption) (by assumption) | exact nq_ne2 (by assumption) (by assumption)) (by assumption) | exact nq_ga (by assumption)) | exact nq_gn (by first | assumption | decide | omega | exact nq_ne1 (by assumption) (by assumption) | exact nq_ne2 (by assumption) (by assumption)) (by first | assumption | exact nq_gs (by assumption) | exact nq_gn (by first | assumption | decide | omega | exact nq_ne1 (by assumption) (by assumption) | exact nq_ne2 (by assumption) (by assumption)) (by assumption) | exact nq_ga (by assumption))) | exact nq_gn (by first | assumption | decide | omega | exact nq_ne1 (by assumption) (by assumption) | exact nq_ne2 (by assumption) (by assumption)) (by first | assumption | exact nq_ga (by assumption) | exact nq_gs (by first | assumption | exact nq_gs (by assumption) | exact nq_gn (by first | assumption | decide | omega | exact nq_ne1 (by assumption) (by assumption) | exact nq_ne2 (by assumption) (by assumption)) (by assumption) | exact nq_ga (by assumption)) | exact nq_gn (by first | assumption | decide | omega | exact nq_ne1 (by assumption) (by assumption) | exact nq_ne2 (by assumption) (by assumption)) (by first | assumption | exact nq_gs (by assumption) | exact nq_gn (by first | assumption | decide | omega | exact nq_ne1 (by assumption) (by assumption) | exact nq_ne2 (by assumption) (by assumption)) (by assumption) | exact nq_ga (by assumption)))) rfl rfl (kc := 0) (ks := 0) (mc' := 0) (ms' := 0) (As := [.long p]) (rest := [.int 0, .ref 287]) rfl rfl (Nat.le_of_ble_eq_true rfl) (k_QS_type hR (by omega)) (fun E σ1 hq => ?_) (fun v σ1 hq => ?_)
  · obtain ⟨q1, q2, q3⟩ := hq
    rcases sx_type_k (p := p) (S := S) with ⟨x, hx⟩ | ⟨e, he, hx⟩
    · rw [hx] at q1
      cases q1
    · rw [hx] at q1
      cases q1
      simp only [List.mem_cons, List.not_mem_nil, or_false] at he
      rcases he with rfl | rfl
      · refine ⟨4, 14, ct_type_0, rfl, ?_⟩
        refine nq_iconst (v := 1) (pc' := 15) d_Law_type_14 rfl (by decide) ?_
        refine nq_iret d_Law_type_15 rfl rfl (la_ex q2 q3 ho hx (by decide))
      · refine ⟨4, 18, ct_type_1, rfl, ?_⟩
        refine nq_iconst (v := 2) (pc' := 19) d_Law_type_18 rfl (by decide) ?_
        refine nq_iret d_Law_type_19 rfl rfl (la_ex q2 q3 ho hx (by decide))
  · obtain ⟨q1, q2, q3⟩ := hq
    rcases sx_type_k (p := p) (S := S) with ⟨x, hx⟩ | ⟨e, he, hx⟩
    · rw [hx] at q1
      cases q1
      have ho1 : la_O σ1 f := (q3.1 287 (by decide) (by decide)).trans ho
      unfold la_O at ho1
      refine nq_i2l (pc' := 8) d_Law_type_7 rfl ?_
      refine nq_last (pc' := 9) d_Law_type_8 rfl (by first | assumption | exact nq_ga (by assumption) | exact nq_gs (by first | assumption | exact nq_ga (by assumption) | exact nq_gs (by first | assumption | exact nq_gs (by assumption) | exact nq_gn (by first | assumption | decide | omega | exact nq_ne1 (by assumption) (by assumption) | exact nq_ne2 (by assumption) (by assumption)) (by assumption) | exact nq_ga (by assumption)) | exact nq_gn (by first | assumption | decide | omega | exact nq_ne1 (by assumption) (by assumption) | exact nq_ne2 (by assumption) (by assumption)) (by first | assumption | exact nq_gs (by assumption) | exact nq_gn (by first | assumption | decide | omega | exact nq_ne1 (by assumption) (by assumption) | exact nq_ne2 (by assumption) (by assumption)) (by assumption) | exact nq_ga (by assumption))) | exact nq_gn (by first | assumption | decide | omega | exact nq_ne1 (by assumption) (by assumption) | exact nq_ne2 (by assumption) (by assumption)) (by first | assumption | exact nq_ga (by assumption) | exact nq_gs (by first | assumption | exact nq_gs (by assumption) | exact nq_gn (by first | assumption | decide | omega | exact nq_ne1 (by assumption) (by assumption) | exact nq_ne2 (by assumption) (by assumption)) (by assumption) | exact nq_ga (by assumption)) | exact nq_gn (by first | assumption | decide | omega | exact nq_ne1 (by assumption) (by assumption) | exact nq_ne2 (by assumption) (by assumption)) (by first | assumption | exact nq_gs (by assumption) | exact nq_gn (by first | assumption | decide | omega | exact nq_ne1 (by assumption) (by assumption) | exact nq_ne2 (by assumption) (by assumption)) (by assumption) | exact nq_ga (by assumption)))) rfl (j := 0) rfl (by decide) (by decide) ?_
      refine nq_goto (tgt := 20) d_Law_type_9 (by decide) ?_
      refine nq_iconst (v := 0) (pc' := 21) d_Law_type_20 rfl (by decide) ?_
      refine nq_iret d_Law_type_21 rfl rfl (la_ok q2 q3 ho hx)
    · rw [hx] at q1
      cases q1
theorem k_Law_keep {k : Int32} (hR : qs_R σ S) (ho : la_O σ f) (hD : 25 ≤ d) (hl9 : σ.length < 890000) : nq_JM G d 6 169 m_Law_keep [.ref 0, .int k, .ref 287] σ (la_Q mo_one σ (sx_keep k S)) := by
  obtain ⟨d, rfl⟩ : ∃ d', d = d' + 1 := ⟨d - 1, by omega⟩
  obtain ⟨fs, z0⟩ := hR.zero
  refine nq_mkH' (lv := [some (.ref 0), some (.int k), some (.ref 287), none]) (by decide +kernel) rfl (Nat.le_of_ble_eq_true rfl) rfl ?_
  refine nq_aload_n (pc' := 1) d_Law_keep_0 rfl rfl rfl ?_
  refine nq_iconst (v := 0) (pc' := 2) d_Law_keep_1 rfl (by decide) ?_
  refine nq_aload_n (pc' := 3) d_Law_keep_2 rfl rfl rfl ?_
  refine nq_iload_n (pc' := 4) d_Law_keep_3 rfl rfl rfl ?_
  refine nq_callVH (pc' := 7) d_Law_keep_4 rfl cl_Law_17 (by first | assumption | exact nq_ga (by assumption) | exact nq_gs (by first | assumption | exact nq_ga (by assumption) | exact nq_gs (by first | assumption | exact nq_gs (by assumption) | exact nq_gn (by first | assumption | decide | omega | exact nq_ne1 (by assumption) (by assumption) | exact nq_ne2 (by assumption) (by assumption)) (by assumption) | exact nq_ga (by assumption)) | exact nq_gn (by first | assumption | decide | omega | exact nq_ne1 (by assumption) (by assumption) | exact nq_ne2 (by assumption) (by assumption)) (by first | assumption | exact nq_gs (by assumption) | exact nq_gn (by first | assumption | decide | omega | exact nq_ne1 (by assumption) (by assumption) | exact nq_ne2 (by assumption) (by assumption)) (by assumption) | exact nq_ga (by assumption))) | exact nq_gn (by first | assumption | decide | omega | exact nq_ne1 (by assumption) (by assumption) | exact nq_ne2 (by assumption) (by assumption)) (by first | assumption | exact nq_ga (by assumption) | exact nq_gs (by first | assumption | exact nq_gs (by assumption) | exact nq_gn (by first | assumption | decide | omega | exact nq_ne1 (by assumption) (by assumption) | exact nq_ne2 (by assumption) (by assumption)) (by assumption) | exact nq_ga (by assumption)) | exact nq_gn (by first | assumption | decide | omega | exact nq_ne1 (by assumption) (by assumption) | exact nq_ne2 (by assumption) (by assumption)) (by first | assumption | exact nq_gs (by assumption) | exact nq_gn (by first | assumption | decide | omega | exact nq_ne1 (by assumption) (by assumption) | exact nq_ne2 (by assumption) (by assumption)) (by assumption) | exact nq_ga (by assumption)))) rfl rfl (kc := 0) (ks := 0) (mc' := 5) (ms' := 163) (As := [.int k]) (rest := [.int 0, .ref 287]) rfl rfl (Nat.le_of_ble_eq_true rfl) (k_QS_keep hR (by omega) hl9) (fun E σ1 hq => ?_) (fun v σ1 hq => ?_)
  · obtain ⟨q1, q2, q3⟩ := hq
    rcases sx_keep_k (k := k) (S := S) with ⟨x, hx⟩ | ⟨e, he, hx⟩
    · rw [hx] at q1
      cases q1
    · rw [hx] at q1
      cases q1
      simp only [List.mem_cons, List.not_mem_nil, or_false] at he
      cases he
      refine ⟨3, 13, ct_keep_0, rfl, ?_⟩
      refine nq_iconst (v := 1) (pc' := 14) d_Law_keep_13 rfl (by decide) ?_
      refine nq_iret d_Law_keep_14 rfl rfl (la_ex q2 q3 ho hx (by decide))
  · obtain ⟨q1, q2, q3⟩ := hq
    rcases sx_keep_k (k := k) (S := S) with ⟨x, hx⟩ | ⟨e, he, hx⟩
    · rw [hx] at q1
      cases q1
      have ho1 : la_O σ1 f := (q3.1 287 (by decide) (by decide)).trans ho
      unfold la_O at ho1
      refine nq_i2l (pc' := 8) d_Law_keep_7 rfl ?_
      refine nq_last (pc' := 9) d_Law_keep_8 rfl (by first | assumption | exact nq_ga (by assumption) | exact nq_gs (by first | assumption | exact nq_ga (by assumption) | exact nq_gs (by first | assumption | exact nq_gs (by assumption) | exact nq_gn (by first | assumption | decide | omega | exact nq_ne1 (by assumption) (by assumption) | exact nq_ne2 (by assumption) (by assumption)) (by assumption) | exact nq_ga (by assumption)) | exact nq_gn (by first | assumption | decide | omega | exact nq_ne1 (by assumption) (by assumption) | exact nq_ne2 (by assumption) (by assumption)) (by first | assumption | exact nq_gs (by assumption) | exact nq_gn (by first | assumption | decide | omega | exact nq_ne1 (by assumption) (by assumption) | exact nq_ne2 (by assumption) (by assumption)) (by assumption) | exact nq_ga (by assumption))) | exact nq_gn (by first | assumption | decide | omega | exact nq_ne1 (by assumption) (by assumption) | exact nq_ne2 (by assumption) (by assumption)) (by first | assumption | exact nq_ga (by assumption) | exact nq_gs (by first | assumption | exact nq_gs (by assumption) | exact nq_gn (by first | assumption | decide | omega | exact nq_ne1 (by assumption) (by assumption) | exact nq_ne2 (by assumption) (by assumption)) (by assumption) | exact nq_ga (by assumption)) | exact nq_gn (by first | assumption | decide | omega | exact nq_ne1 (by assumption) (by assumption) | exact nq_ne2 (by assumption) (by assumption)) (by first | assumption | exact nq_gs (by assumption) | exact nq_gn (by first | assumption | decide | omega | exact nq_ne1 (by assumption) (by assumption) | exact nq_ne2 (by assumption) (by assumption)) (by assumption) | exact nq_ga (by assumption)))) rfl (j := 0) rfl (by decide) (by decide) ?_
      refine nq_goto (tgt := 15) d_Law_keep_9 (by decide) ?_
      refine nq_iconst (v := 0) (pc' := 16) d_Law_keep_15 rfl (by decide) ?_
      refine nq_iret d_Law_keep_16 rfl rfl (la_ok q2 q3 ho hx)
    · rw [hx] at q1
      cases q1
theorem k_Law_run {k p : Int32} (hR : qs_R σ S) (ho : la_O σ f) (hD : 9 ≤ d) : nq_JM G d 1 6 m_Law_run [.ref 0, .int k, .int p, .ref 287] σ (la_Q mo_run σ (sx_runk k p S)) := by
  obtain ⟨d, rfl⟩ : ∃ d', d = d' + 1 := ⟨d - 1, by omega⟩
  obtain ⟨fs, z0⟩ := hR.zero
  refine nq_mkH' (lv := [some (.ref 0), some (.int k), some (.int p), some (.ref 287), none]) (by decide +kernel) rfl (Nat.le_of_ble_eq_true rfl) rfl ?_
  refine nq_aload_n (pc' := 1) d_Law_run_0 rfl rfl rfl ?_
  refine nq_iconst (v := 0) (pc' := 2) d_Law_run_1 rfl (by decide) ?_
  refine nq_aload_n (pc' := 3) d_Law_run_2 rfl rfl rfl ?_
  refine nq_iload_n (pc' := 4) d_Law_run_3 rfl rfl rfl ?_
  refine nq_iload_n (pc' := 5) d_Law_run_4 rfl rfl rfl ?_
  refine nq_callVH (pc' := 8) d_Law_run_5 rfl cl_Law_21 (by first | assumption | exact nq_ga (by assumption) | exact nq_gs (by first | assumption | exact nq_ga (by assumption) | exact nq_gs (by first | assumption | exact nq_gs (by assumption) | exact nq_gn (by first | assumption | decide | omega | exact nq_ne1 (by assumption) (by assumption) | exact nq_ne2 (by assumption) (by assumption)) (by assumption) | exact nq_ga (by assumption)) | exact nq_gn (by first | assumption | decide | omega | exact nq_ne1 (by assumption) (by assumption) | exact nq_ne2 (by assumption) (by assumption)) (by first | assumption | exact nq_gs (by assumption) | exact nq_gn (by first | assumption | decide | omega | exact nq_ne1 (by assumption) (by assumption) | exact nq_ne2 (by assumption) (by assumption)) (by assumption) | exact nq_ga (by assumption))) | exact nq_gn (by first | assumption | decide | omega | exact nq_ne1 (by assumption) (by assumption) | exact nq_ne2 (by assumption) (by assumption)) (by first | assumption | exact nq_ga (by assumption) | exact nq_gs (by first | assumption | exact nq_gs (by assumption) | exact nq_gn (by first | assumption | decide | omega | exact nq_ne1 (by assumption) (by assumption) | exact nq_ne2 (by assumption) (by assumption)) (by assumption) | exact nq_ga (by assumption)) | exact nq_gn (by first | assumption | decide | omega | exact nq_ne1 (by assumption) (by assumption) | exact nq_ne2 (by assumption) (by assumption)) (by first | assumption | exact nq_gs (by assumption) | exact nq_gn (by first | assumption | decide | omega | exact nq_ne1 (by assumption) (by assumption) | exact nq_ne2 (by assumption) (by assumption)) (by assumption) | exact nq_ga (by assumption)))) rfl rfl (kc := 0) (ks := 0) (mc' := 0) (ms' := 0) (As := [.int k, .int p]) (rest := [.int 0, .ref 287]) rfl rfl (Nat.le_of_ble_eq_true rfl) (k_QS_run hR (by omega)) (fun E σ1 hq => ?_) (fun v σ1 hq => ?_)
  · obtain ⟨q1, q2, q3⟩ := hq
    rcases sx_runk_k (k := k) (p := p) (S := S) with ⟨x, hx⟩ | ⟨e, he, hx⟩
    · rw [hx] at q1
      cases q1
    · rw [hx] at q1
      cases q1
      simp only [List.mem_cons, List.not_mem_nil, or_false] at he
      rcases he with rfl | rfl | rfl | rfl | rfl
      · refine ⟨4, 15, ct_run_0, rfl, ?_⟩
        refine nq_iconst (v := 1) (pc' := 16) d_Law_run_15 rfl (by decide) ?_
        refine nq_iret d_Law_run_16 rfl rfl (la_ex q2 q3 ho hx (by decide))
      · refine ⟨4, 19, ct_run_1, rfl, ?_⟩
        refine nq_iconst (v := 2) (pc' := 20) d_Law_run_19 rfl (by decide) ?_
        refine nq_iret d_Law_run_20 rfl rfl (la_ex q2 q3 ho hx (by decide))
      · refine ⟨4, 23, ct_run_2, rfl, ?_⟩
        refine nq_iconst (v := 3) (pc' := 24) d_Law_run_23 rfl (by decide) ?_
        refine nq_iret d_Law_run_24 rfl rfl (la_ex q2 q3 ho hx (by decide))
      · refine ⟨4, 27, ct_run_3, rfl, ?_⟩
        refine nq_iconst (v := 4) (pc' := 28) d_Law_run_27 rfl (by decide) ?_
        refine nq_iret d_Law_run_28 rfl rfl (la_ex q2 q3 ho hx (by decide))
      · refine ⟨4, 31, ct_run_4, rfl, ?_⟩
        refine nq_iconst (v := 5) (pc' := 32) d_Law_run_31 rfl (by decide) ?_
        refine nq_iret d_Law_run_32 rfl rfl (la_ex q2 q3 ho hx (by decide))
  · obtain ⟨q1, q2, q3⟩ := hq
    rcases sx_runk_k (k := k) (p := p) (S := S) with ⟨x, hx⟩ | ⟨e, he, hx⟩
    · rw [hx] at q1
      cases q1
      have ho1 : la_O σ1 f := (q3.1 287 (by decide) (by decide)).trans ho
      unfold la_O at ho1
      refine nq_i2l (pc' := 9) d_Law_run_8 rfl ?_
      refine nq_last (pc' := 10) d_Law_run_9 rfl (by first | assumption | exact nq_ga (by assumption) | exact nq_gs (by first | assumption | exact nq_ga (by assumption) | exact nq_gs (by first | assumption | exact nq_gs (by assumption) | exact nq_gn (by first | assumption | decide | omega | exact nq_ne1 (by assumption) (by assumption) | exact nq_ne2 (by assumption) (by assumption)) (by assumption) | exact nq_ga (by assumption)) | exact nq_gn (by first | assumption | decide | omega | exact nq_ne1 (by assumption) (by assumption) | exact nq_ne2 (by assumption) (by assumption)) (by first | assumption | exact nq_gs (by assumption) | exact nq_gn (by first | assumption | decide | omega | exact nq_ne1 (by assumption) (by assumption) | exact nq_ne2 (by assumption) (by assumption)) (by assumption) | exact nq_ga (by assumption))) | exact nq_gn (by first | assumption | decide | omega | exact nq_ne1 (by assumption) (by assumption) | exact nq_ne2 (by assumption) (by assumption)) (by first | assumption | exact nq_ga (by assumption) | exact nq_gs (by first | assumption | exact nq_gs (by assumption) | exact nq_gn (by first | assumption | decide | omega | exact nq_ne1 (by assumption) (by assumption) | exact nq_ne2 (by assumption) (by assumption)) (by assumption) | exact nq_ga (by assumption)) | exact nq_gn (by first | assumption | decide | omega | exact nq_ne1 (by assumption) (by assumption) | exact nq_ne2 (by assumption) (by assumption)) (by first | assumption | exact nq_gs (by assumption) | exact nq_gn (by first | assumption | decide | omega | exact nq_ne1 (by assumption) (by assumption) | exact nq_ne2 (by assumption) (by assumption)) (by assumption) | exact nq_ga (by assumption)))) rfl (j := 0) rfl (by decide) (by decide) ?_
      refine nq_goto (tgt := 33) d_Law_run_10 (by decide) ?_
      refine nq_iconst (v := 0) (pc' := 34) d_Law_run_33 rfl (by decide) ?_
      refine nq_iret d_Law_run_34 rfl rfl (la_ok q2 q3 ho hx)
    · rw [hx] at q1
      cases q1
theorem k_Law_ask {p : Int32} (hR : qs_R σ S) (ho : la_O σ f) (hD : 25 ≤ d) : nq_JM G d 1 6 m_Law_ask [.ref 0, .int p, .ref 287] σ (la_Q mo_run σ (sx_ask p S)) := by
  obtain ⟨d, rfl⟩ : ∃ d', d = d' + 1 := ⟨d - 1, by omega⟩
  obtain ⟨fs, z0⟩ := hR.zero
  refine nq_mkH' (lv := [some (.ref 0), some (.int p), some (.ref 287), none]) (by decide +kernel) rfl (Nat.le_of_ble_eq_true rfl) rfl ?_
  refine nq_aload_n (pc' := 1) d_Law_ask_0 rfl rfl rfl ?_
  refine nq_iconst (v := 0) (pc' := 2) d_Law_ask_1 rfl (by decide) ?_
  refine nq_aload_n (pc' := 3) d_Law_ask_2 rfl rfl rfl ?_
  refine nq_iload_n (pc' := 4) d_Law_ask_3 rfl rfl rfl ?_
  refine nq_callVH (pc' := 7) d_Law_ask_4 rfl cl_Law_31 (by first | assumption | exact nq_ga (by assumption) | exact nq_gs (by first | assumption | exact nq_ga (by assumption) | exact nq_gs (by first | assumption | exact nq_gs (by assumption) | exact nq_gn (by first | assumption | decide | omega | exact nq_ne1 (by assumption) (by assumption) | exact nq_ne2 (by assumption) (by assumption)) (by assumption) | exact nq_ga (by assumption)) | exact nq_gn (by first | assumption | decide | omega | exact nq_ne1 (by assumption) (by assumption) | exact nq_ne2 (by assumption) (by assumption)) (by first | assumption | exact nq_gs (by assumption) | exact nq_gn (by first | assumption | decide | omega | exact nq_ne1 (by assumption) (by assumption) | exact nq_ne2 (by assumption) (by assumption)) (by assumption) | exact nq_ga (by assumption))) | exact nq_gn (by first | assumption | decide | omega | exact nq_ne1 (by assumption) (by assumption) | exact nq_ne2 (by assumption) (by assumption)) (by first | assumption | exact nq_ga (by assumption) | exact nq_gs (by first | assumption | exact nq_gs (by assumption) | exact nq_gn (by first | assumption | decide | omega | exact nq_ne1 (by assumption) (by assumption) | exact nq_ne2 (by assumption) (by assumption)) (by assumption) | exact nq_ga (by assumption)) | exact nq_gn (by first | assumption | decide | omega | exact nq_ne1 (by assumption) (by assumption) | exact nq_ne2 (by assumption) (by assumption)) (by first | assumption | exact nq_gs (by assumption) | exact nq_gn (by first | assumption | decide | omega | exact nq_ne1 (by assumption) (by assumption) | exact nq_ne2 (by assumption) (by assumption)) (by assumption) | exact nq_ga (by assumption)))) rfl rfl (kc := 0) (ks := 0) (mc' := 0) (ms' := 0) (As := [.int p]) (rest := [.int 0, .ref 287]) rfl rfl (Nat.le_of_ble_eq_true rfl) (k_QS_ask hR (by omega)) (fun E σ1 hq => ?_) (fun v σ1 hq => ?_)
  · obtain ⟨q1, q2, q3⟩ := hq
    rcases sx_ask_k (p := p) (S := S) with ⟨x, hx⟩ | ⟨e, he, hx⟩
    · rw [hx] at q1
      cases q1
    · rw [hx] at q1
      cases q1
      simp only [List.mem_cons, List.not_mem_nil, or_false] at he
      rcases he with rfl | rfl | rfl | rfl | rfl
      · refine ⟨3, 13, ct_ask_0, rfl, ?_⟩
        refine nq_iconst (v := 1) (pc' := 14) d_Law_ask_13 rfl (by decide) ?_
        refine nq_iret d_Law_ask_14 rfl rfl (la_ex q2 q3 ho hx (by decide))
      · refine ⟨3, 16, ct_ask_1, rfl, ?_⟩
        refine nq_iconst (v := 2) (pc' := 17) d_Law_ask_16 rfl (by decide) ?_
        refine nq_iret d_Law_ask_17 rfl rfl (la_ex q2 q3 ho hx (by decide))
      · refine ⟨3, 19, ct_ask_2, rfl, ?_⟩
        refine nq_iconst (v := 3) (pc' := 20) d_Law_ask_19 rfl (by decide) ?_
        refine nq_iret d_Law_ask_20 rfl rfl (la_ex q2 q3 ho hx (by decide))
      · refine ⟨3, 22, ct_ask_3, rfl, ?_⟩
        refine nq_iconst (v := 4) (pc' := 23) d_Law_ask_22 rfl (by decide) ?_
        refine nq_iret d_Law_ask_23 rfl rfl (la_ex q2 q3 ho hx (by decide))
      · refine ⟨3, 25, ct_ask_4, rfl, ?_⟩
        refine nq_iconst (v := 5) (pc' := 26) d_Law_ask_25 rfl (by decide) ?_
        refine nq_iret d_Law_ask_26 rfl rfl (la_ex q2 q3 ho hx (by decide))
  · obtain ⟨q1, q2, q3⟩ := hq
    rcases sx_ask_k (p := p) (S := S) with ⟨x, hx⟩ | ⟨e, he, hx⟩
    · rw [hx] at q1
      cases q1
      have ho1 : la_O σ1 f := (q3.1 287 (by decide) (by decide)).trans ho
      unfold la_O at ho1
      refine nq_i2l (pc' := 8) d_Law_ask_7 rfl ?_
      refine nq_last (pc' := 9) d_Law_ask_8 rfl (by first | assumption | exact nq_ga (by assumption) | exact nq_gs (by first | assumption | exact nq_ga (by assumption) | exact nq_gs (by first | assumption | exact nq_gs (by assumption) | exact nq_gn (by first | assumption | decide | omega | exact nq_ne1 (by assumption) (by assumption) | exact nq_ne2 (by assumption) (by assumption)) (by assumption) | exact nq_ga (by assumption)) | exact nq_gn (by first | assumption | decide | omega | exact nq_ne1 (by assumption) (by assumption) | exact nq_ne2 (by assumption) (by assumption)) (by first | assumption | exact nq_gs (by assumption) | exact nq_gn (by first | assumption | decide | omega | exact nq_ne1 (by assumption) (by assumption) | exact nq_ne2 (by assumption) (by assumption)) (by assumption) | exact nq_ga (by assumption))) | exact nq_gn (by first | assumption | decide | omega | exact nq_ne1 (by assumption) (by assumption) | exact nq_ne2 (by assumption) (by assumption)) (by first | assumption | exact nq_ga (by assumption) | exact nq_gs (by first | assumption | exact nq_gs (by assumption) | exact nq_gn (by first | assumption | decide | omega | exact nq_ne1 (by assumption) (by assumption) | exact nq_ne2 (by assumption) (by assumption)) (by assumption) | exact nq_ga (by assumption)) | exact nq_gn (by first | assumption | decide | omega | exact nq_ne1 (by assumption) (by assumption) | exact nq_ne2 (by assumption) (by assumption)) (by first | assumption | exact nq_gs (by assumption) | exact nq_gn (by first | assumption | decide | omega | exact nq_ne1 (by assumption) (by assumption) | exact nq_ne2 (by assumption) (by assumption)) (by assumption) | exact nq_ga (by assumption)))) rfl (j := 0) rfl (by decide) (by decide) ?_
      refine nq_goto (tgt := 27) d_Law_ask_9 (by decide) ?_
      refine nq_iconst (v := 0) (pc' := 28) d_Law_ask_27 rfl (by decide) ?_
      refine nq_iret d_Law_ask_28 rfl rfl (la_ok q2 q3 ho hx)
    · rw [hx] at q1
      cases q1
theorem k_Law_value {i j : Int32} (hR : qs_R σ S) (ho : la_O σ f) (hD : 3 ≤ d) : nq_JM G d 1 6 m_Law_value [.ref 0, .int i, .int j, .ref 287] σ (la_Q mo_one σ (sx_value i j S)) := by
  obtain ⟨d, rfl⟩ : ∃ d', d = d' + 1 := ⟨d - 1, by omega⟩
  obtain ⟨fs, z0⟩ := hR.zero
  refine nq_mkH' (lv := [some (.ref 0), some (.int i), some (.int j), some (.ref 287), none]) (by decide +kernel) rfl (Nat.le_of_ble_eq_true rfl) rfl ?_
  refine nq_aload_n (pc' := 1) d_Law_value_0 rfl rfl rfl ?_
  refine nq_iconst (v := 0) (pc' := 2) d_Law_value_1 rfl (by decide) ?_
  refine nq_aload_n (pc' := 3) d_Law_value_2 rfl rfl rfl ?_
  refine nq_iload_n (pc' := 4) d_Law_value_3 rfl rfl rfl ?_
  refine nq_iload_n (pc' := 5) d_Law_value_4 rfl rfl rfl ?_
  refine nq_callVH (pc' := 8) d_Law_value_5 rfl cl_Law_34 (by first | assumption | exact nq_ga (by assumption) | exact nq_gs (by first | assumption | exact nq_ga (by assumption) | exact nq_gs (by first | assumption | exact nq_gs (by assumption) | exact nq_gn (by first | assumption | decide | omega | exact nq_ne1 (by assumption) (by assumption) | exact nq_ne2 (by assumption) (by assumption)) (by assumption) | exact nq_ga (by assumption)) | exact nq_gn (by first | assumption | decide | omega | exact nq_ne1 (by assumption) (by assumption) | exact nq_ne2 (by assumption) (by assumption)) (by first | assumption | exact nq_gs (by assumption) | exact nq_gn (by first | assumption | decide | omega | exact nq_ne1 (by assumption) (by assumption) | exact nq_ne2 (by assumption) (by assumption)) (by assumption) | exact nq_ga (by assumption))) | exact nq_gn (by first | assumption | decide | omega | exact nq_ne1 (by assumption) (by assumption) | exact nq_ne2 (by assumption) (by assumption)) (by first | assumption | exact nq_ga (by assumption) | exact nq_gs (by first | assumption | exact nq_gs (by assumption) | exact nq_gn (by first | assumption | decide | omega | exact nq_ne1 (by assumption) (by assumption) | exact nq_ne2 (by assumption) (by assumption)) (by assumption) | exact nq_ga (by assumption)) | exact nq_gn (by first | assumption | decide | omega | exact nq_ne1 (by assumption) (by assumption) | exact nq_ne2 (by assumption) (by assumption)) (by first | assumption | exact nq_gs (by assumption) | exact nq_gn (by first | assumption | decide | omega | exact nq_ne1 (by assumption) (by assumption) | exact nq_ne2 (by assumption) (by assumption)) (by assumption) | exact nq_ga (by assumption)))) rfl rfl (kc := 0) (ks := 0) (mc' := 0) (ms' := 0) (As := [.int i, .int j]) (rest := [.int 0, .ref 287]) rfl rfl (Nat.le_of_ble_eq_true rfl) (k_QS_value hR (by omega)) (fun E σ1 hq => ?_) (fun v σ1 hq => ?_)
  · obtain ⟨q1, q2, q3⟩ := hq
    rcases sx_value_k (i := i) (j := j) (S := S) with ⟨x, hx⟩ | ⟨e, he, hx⟩
    · rw [hx] at q1
      cases q1
    · rw [hx] at q1
      cases q1
      simp only [List.mem_cons, List.not_mem_nil, or_false] at he
      cases he
      refine ⟨4, 15, ct_value_0, rfl, ?_⟩
      refine nq_iconst (v := 1) (pc' := 16) d_Law_value_15 rfl (by decide) ?_
      refine nq_iret d_Law_value_16 rfl rfl (la_ex q2 q3 ho hx (by decide))
  · obtain ⟨q1, q2, q3⟩ := hq
    rcases sx_value_k (i := i) (j := j) (S := S) with ⟨x, hx⟩ | ⟨e, he, hx⟩
    · rw [hx] at q1
      cases q1
      have ho1 : la_O σ1 f := (q3.1 287 (by decide) (by decide)).trans ho
      unfold la_O at ho1
      refine nq_i2l (pc' := 9) d_Law_value_8 rfl ?_
      refine nq_last (pc' := 10) d_Law_value_9 rfl (by first | assumption | exact nq_ga (by assumption) | exact nq_gs (by first | assumption | exact nq_ga (by assumption) | exact nq_gs (by first | assumption | exact nq_gs (by assumption) | exact nq_gn (by first | assumption | decide | omega | exact nq_ne1 (by assumption) (by assumption) | exact nq_ne2 (by assumption) (by assumption)) (by assumption) | exact nq_ga (by assumption)) | exact nq_gn (by first | assumption | decide | omega | exact nq_ne1 (by assumption) (by assumption) | exact nq_ne2 (by assumption) (by assumption)) (by first | assumption | exact nq_gs (by assumption) | exact nq_gn (by first | assumption | decide | omega | exact nq_ne1 (by assumption) (by assumption) | exact nq_ne2 (by assumption) (by assumption)) (by assumption) | exact nq_ga (by assumption))) | exact nq_gn (by first | assumption | decide | omega | exact nq_ne1 (by assumption) (by assumption) | exact nq_ne2 (by assumption) (by assumption)) (by first | assumption | exact nq_ga (by assumption) | exact nq_gs (by first | assumption | exact nq_gs (by assumption) | exact nq_gn (by first | assumption | decide | omega | exact nq_ne1 (by assumption) (by assumption) | exact nq_ne2 (by assumption) (by assumption)) (by assumption) | exact nq_ga (by assumption)) | exact nq_gn (by first | assumption | decide | omega | exact nq_ne1 (by assumption) (by assumption) | exact nq_ne2 (by assumption) (by assumption)) (by first | assumption | exact nq_gs (by assumption) | exact nq_gn (by first | assumption | decide | omega | exact nq_ne1 (by assumption) (by assumption) | exact nq_ne2 (by assumption) (by assumption)) (by assumption) | exact nq_ga (by assumption)))) rfl (j := 0) rfl (by decide) (by decide) ?_
      refine nq_goto (tgt := 17) d_Law_value_10 (by decide) ?_
      refine nq_iconst (v := 0) (pc' := 18) d_Law_value_17 rfl (by decide) ?_
      refine nq_iret d_Law_value_18 rfl rfl (la_ok q2 q3 ho hx)
    · rw [hx] at q1
      cases q1
theorem k_Law_row {t i j : Int32} (hR : qs_R σ S) (ho : la_O σ f) (hD : 5 ≤ d) : nq_JM G d 1 6 m_Law_row [.ref 0, .int t, .int i, .int j, .ref 287] σ (la_Q mo_rwc σ (sx_rw t i j S)) := by
  obtain ⟨d, rfl⟩ : ∃ d', d = d' + 1 := ⟨d - 1, by omega⟩
  obtain ⟨fs, z0⟩ := hR.zero
  refine nq_mkH' (lv := [some (.ref 0), some (.int t), some (.int i), some (.int j), some (.ref 287), none]) (by decide +kernel) rfl (Nat.le_of_ble_eq_true rfl) rfl ?_
  refine nq_aload (pc' := 2) d_Law_row_0 rfl rfl ?_
  refine nq_iconst (v := 0) (pc' := 3) d_Law_row_2 rfl (by decide) ?_
  refine nq_aload_n (pc' := 4) d_Law_row_3 rfl rfl rfl ?_
  refine nq_iload_n (pc' := 5) d_Law_row_4 rfl rfl rfl ?_
  refine nq_iload_n (pc' := 6) d_Law_row_5 rfl rfl rfl ?_
  refine nq_iload_n (pc' := 7) d_Law_row_6 rfl rfl rfl ?_
  refine nq_callVH (pc' := 10) d_Law_row_7 rfl cl_Law_37 (by first | assumption | exact nq_ga (by assumption) | exact nq_gs (by first | assumption | exact nq_ga (by assumption) | exact nq_gs (by first | assumption | exact nq_gs (by assumption) | exact nq_gn (by first | assumption | decide | omega | exact nq_ne1 (by assumption) (by assumption) | exact nq_ne2 (by assumption) (by assumption)) (by assumption) | exact nq_ga (by assumption)) | exact nq_gn (by first | assumption | decide | omega | exact nq_ne1 (by assumption) (by assumption) | exact nq_ne2 (by assumption) (by assumption)) (by first | assumption | exact nq_gs (by assumption) | exact nq_gn (by first | assumption | decide | omega | exact nq_ne1 (by assumption) (by assumption) | exact nq_ne2 (by assumption) (by assumption)) (by assumption) | exact nq_ga (by assumption))) | exact nq_gn (by first | assumption | decide | omega | exact nq_ne1 (by assumption) (by assumption) | exact nq_ne2 (by assumption) (by assumption)) (by first | assumption | exact nq_ga (by assumption) | exact nq_gs (by first | assumption | exact nq_gs (by assumption) | exact nq_gn (by first | assumption | decide | omega | exact nq_ne1 (by assumption) (by assumption) | exact nq_ne2 (by assumption) (by assumption)) (by assumption) | exact nq_ga (by assumption)) | exact nq_gn (by first | assumption | decide | omega | exact nq_ne1 (by assumption) (by assumption) | exact nq_ne2 (by assumption) (by assumption)) (by first | assumption | exact nq_gs (by assumption) | exact nq_gn (by first | assumption | decide | omega | exact nq_ne1 (by assumption) (by assumption) | exact nq_ne2 (by assumption) (by assumption)) (by assumption) | exact nq_ga (by assumption)))) rfl rfl (kc := 0) (ks := 0) (mc' := 0) (ms' := 0) (As := [.int t, .int i, .int j]) (rest := [.int 0, .ref 287]) rfl rfl (Nat.le_of_ble_eq_true rfl) (k_QS_row hR (by omega)) (fun E σ1 hq => ?_) (fun v σ1 hq => ?_)
  · obtain ⟨q1, q2, q3⟩ := hq
    rcases sx_rw_k (t := t) (i := i) (j := j) (S := S) with ⟨x, hx⟩ | ⟨e, he, hx⟩
    · rw [hx] at q1
      cases q1
    · rw [hx] at q1
      cases q1
      simp only [List.mem_cons, List.not_mem_nil, or_false] at he
      rcases he with rfl | rfl
      · refine ⟨5, 17, ct_row_0, rfl, ?_⟩
        refine nq_iconst (v := 1) (pc' := 18) d_Law_row_17 rfl (by decide) ?_
        refine nq_iret d_Law_row_18 rfl rfl (la_ex q2 q3 ho hx (by decide))
      · refine ⟨5, 21, ct_row_1, rfl, ?_⟩
        refine nq_iconst (v := 2) (pc' := 22) d_Law_row_21 rfl (by decide) ?_
        refine nq_iret d_Law_row_22 rfl rfl (la_ex q2 q3 ho hx (by decide))
  · obtain ⟨q1, q2, q3⟩ := hq
    rcases sx_rw_k (t := t) (i := i) (j := j) (S := S) with ⟨x, hx⟩ | ⟨e, he, hx⟩
    · rw [hx] at q1
      cases q1
      have ho1 : la_O σ1 f := (q3.1 287 (by decide) (by decide)).trans ho
      unfold la_O at ho1
      refine nq_i2l (pc' := 11) d_Law_row_10 rfl ?_
      refine nq_last (pc' := 12) d_Law_row_11 rfl (by first | assumption | exact nq_ga (by assumption) | exact nq_gs (by first | assumption | exact nq_ga (by assumption) | exact nq_gs (by first | assumption | exact nq_gs (by assumption) | exact nq_gn (by first | assumption | decide | omega | exact nq_ne1 (by assumption) (by assumption) | exact nq_ne2 (by assumption) (by assumption)) (by assumption) | exact nq_ga (by assumption)) | exact nq_gn (by first | assumption | decide | omega | exact nq_ne1 (by assumption) (by assumption) | exact nq_ne2 (by assumption) (by assumption)) (by first | assumption | exact nq_gs (by assumption) | exact nq_gn (by first | assumption | decide | omega | exact nq_ne1 (by assumption) (by assumption) | exact nq_ne2 (by assumption) (by assumption)) (by assumption) | exact nq_ga (by assumption))) | exact nq_gn (by first | assumption | decide | omega | exact nq_ne1 (by assumption) (by assumption) | exact nq_ne2 (by assumption) (by assumption)) (by first | assumption | exact nq_ga (by assumption) | exact nq_gs (by first | assumption | exact nq_gs (by assumption) | exact nq_gn (by first | assumption | decide | omega | exact nq_ne1 (by assumption) (by assumption) | exact nq_ne2 (by assumption) (by assumption)) (by assumption) | exact nq_ga (by assumption)) | exact nq_gn (by first | assumption | decide | omega | exact nq_ne1 (by assumption) (by assumption) | exact nq_ne2 (by assumption) (by assumption)) (by first | assumption | exact nq_gs (by assumption) | exact nq_gn (by first | assumption | decide | omega | exact nq_ne1 (by assumption) (by assumption) | exact nq_ne2 (by assumption) (by assumption)) (by assumption) | exact nq_ga (by assumption)))) rfl (j := 0) rfl (by decide) (by decide) ?_
      refine nq_goto (tgt := 23) d_Law_row_12 (by decide) ?_
      refine nq_iconst (v := 0) (pc' := 24) d_Law_row_23 rfl (by decide) ?_
      refine nq_iret d_Law_row_24 rfl rfl (la_ok q2 q3 ho hx)
    · rw [hx] at q1
      cases q1
theorem k_Law_end  (hR : qs_R σ S) (ho : la_O σ f) (hD : 3 ≤ d) : nq_JM G d 1 6 m_Law_end [.ref 0, .ref 287] σ (la_Q mo_one σ (sx_end S)) := by
  obtain ⟨d, rfl⟩ : ∃ d', d = d' + 1 := ⟨d - 1, by omega⟩
  obtain ⟨fs, z0⟩ := hR.zero
  refine nq_mkH' (lv := [some (.ref 0), some (.ref 287), none]) (by decide +kernel) rfl (Nat.le_of_ble_eq_true rfl) rfl ?_
  refine nq_aload_n (pc' := 1) d_Law_end_0 rfl rfl rfl ?_
  refine nq_iconst (v := 0) (pc' := 2) d_Law_end_1 rfl (by decide) ?_
  refine nq_aload_n (pc' := 3) d_Law_end_2 rfl rfl rfl ?_
  refine nq_callVH (pc' := 6) d_Law_end_3 rfl cl_Law_44 (by first | assumption | exact nq_ga (by assumption) | exact nq_gs (by first | assumption | exact nq_ga (by assumption) | exact nq_gs (by first | assumption | exact nq_gs (by assumption) | exact nq_gn (by first | assumption | decide | omega | exact nq_ne1 (by assumption) (by assumption) | exact nq_ne2 (by assumption) (by assumption)) (by assumption) | exact nq_ga (by assumption)) | exact nq_gn (by first | assumption | decide | omega | exact nq_ne1 (by assumption) (by assumption) | exact nq_ne2 (by assumption) (by assumption)) (by first | assumption | exact nq_gs (by assumption) | exact nq_gn (by first | assumption | decide | omega | exact nq_ne1 (by assumption) (by assumption) | exact nq_ne2 (by assumption) (by assumption)) (by assumption) | exact nq_ga (by assumption))) | exact nq_gn (by first | assumption | decide | omega | exact nq_ne1 (by assumption) (by assumption) | exact nq_ne2 (by assumption) (by assumption)) (by first | assumption | exact nq_ga (by assumption) | exact nq_gs (by first | assumption | exact nq_gs (by assumption) | exact nq_gn (by first | assumption | decide | omega | exact nq_ne1 (by assumption) (by assumption) | exact nq_ne2 (by assumption) (by assumption)) (by assumption) | exact nq_ga (by assumption)) | exact nq_gn (by first | assumption | decide | omega | exact nq_ne1 (by assumption) (by assumption) | exact nq_ne2 (by assumption) (by assumption)) (by first | assumption | exact nq_gs (by assumption) | exact nq_gn (by first | assumption | decide | omega | exact nq_ne1 (by assumption) (by assumption) | exact nq_ne2 (by assumption) (by assumption)) (by assumption) | exact nq_ga (by assumption)))) rfl rfl (kc := 0) (ks := 0) (mc' := 0) (ms' := 0) (As := []) (rest := [.int 0, .ref 287]) rfl rfl (Nat.le_of_ble_eq_true rfl) (k_QS_end hR (by omega)) (fun E σ1 hq => ?_) (fun v σ1 hq => ?_)
  · obtain ⟨q1, q2, q3⟩ := hq
    rcases sx_end_k (S := S) with ⟨x, hx⟩ | ⟨e, he, hx⟩
    · rw [hx] at q1
      cases q1
    · rw [hx] at q1
      cases q1
      simp only [List.mem_cons, List.not_mem_nil, or_false] at he
      cases he
      refine ⟨2, 12, ct_end_0, rfl, ?_⟩
      refine nq_iconst (v := 1) (pc' := 13) d_Law_end_12 rfl (by decide) ?_
      refine nq_iret d_Law_end_13 rfl rfl (la_ex q2 q3 ho hx (by decide))
  · obtain ⟨q1, q2, q3⟩ := hq
    rcases sx_end_k (S := S) with ⟨x, hx⟩ | ⟨e, he, hx⟩
    · rw [hx] at q1
      cases q1
      have ho1 : la_O σ1 f := (q3.1 287 (by decide) (by decide)).trans ho
      unfold la_O at ho1
      refine nq_i2l (pc' := 7) d_Law_end_6 rfl ?_
      refine nq_last (pc' := 8) d_Law_end_7 rfl (by first | assumption | exact nq_ga (by assumption) | exact nq_gs (by first | assumption | exact nq_ga (by assumption) | exact nq_gs (by first | assumption | exact nq_gs (by assumption) | exact nq_gn (by first | assumption | decide | omega | exact nq_ne1 (by assumption) (by assumption) | exact nq_ne2 (by assumption) (by assumption)) (by assumption) | exact nq_ga (by assumption)) | exact nq_gn (by first | assumption | decide | omega | exact nq_ne1 (by assumption) (by assumption) | exact nq_ne2 (by assumption) (by assumption)) (by first | assumption | exact nq_gs (by assumption) | exact nq_gn (by first | assumption | decide | omega | exact nq_ne1 (by assumption) (by assumption) | exact nq_ne2 (by assumption) (by assumption)) (by assumption) | exact nq_ga (by assumption))) | exact nq_gn (by first | assumption | decide | omega | exact nq_ne1 (by assumption) (by assumption) | exact nq_ne2 (by assumption) (by assumption)) (by first | assumption | exact nq_ga (by assumption) | exact nq_gs (by first | assumption | exact nq_gs (by assumption) | exact nq_gn (by first | assumption | decide | omega | exact nq_ne1 (by assumption) (by assumption) | exact nq_ne2 (by assumption) (by assumption)) (by assumption) | exact nq_ga (by assumption)) | exact nq_gn (by first | assumption | decide | omega | exact nq_ne1 (by assumption) (by assumption) | exact nq_ne2 (by assumption) (by assumption)) (by first | assumption | exact nq_gs (by assumption) | exact nq_gn (by first | assumption | decide | omega | exact nq_ne1 (by assumption) (by assumption) | exact nq_ne2 (by assumption) (by assumption)) (by assumption) | exact nq_ga (by assumption)))) rfl (j := 0) rfl (by decide) (by decide) ?_
      refine nq_goto (tgt := 14) d_Law_end_8 (by decide) ?_
      refine nq_iconst (v := 0) (pc' := 15) d_Law_end_14 rfl (by decide) ?_
      refine nq_iret d_Law_end_15 rfl rfl (la_ok q2 q3 ho hx)
    · rw [hx] at q1
      cases q1
theorem k_Law_back  (hR : qs_R σ S) (ho : la_O σ f) (hD : 5 ≤ d) : nq_JM G d 1 6 m_Law_back [.ref 0, .ref 287] σ (la_Q mo_one σ (sx_back S)) := by
  obtain ⟨d, rfl⟩ : ∃ d', d = d' + 1 := ⟨d - 1, by omega⟩
  obtain ⟨fs, z0⟩ := hR.zero
  refine nq_mkH' (lv := [some (.ref 0), some (.ref 287), none]) (by decide +kernel) rfl (Nat.le_of_ble_eq_true rfl) rfl ?_
  refine nq_aload_n (pc' := 1) d_Law_back_0 rfl rfl rfl ?_
  refine nq_iconst (v := 0) (pc' := 2) d_Law_back_1 rfl (by decide) ?_
  refine nq_aload_n (pc' := 3) d_Law_back_2 rfl rfl rfl ?_
  refine nq_callVH (pc' := 6) d_Law_back_3 rfl cl_Law_48 (by first | assumption | exact nq_ga (by assumption) | exact nq_gs (by first | assumption | exact nq_ga (by assumption) | exact nq_gs (by first | assumption | exact nq_gs (by assumption) | exact nq_gn (by first | assumption | decide | omega | exact nq_ne1 (by assumption) (by assumption) | exact nq_ne2 (by assumption) (by assumption)) (by assumption) | exact nq_ga (by assumption)) | exact nq_gn (by first | assumption | decide | omega | exact nq_ne1 (by assumption) (by assumption) | exact nq_ne2 (by assumption) (by assumption)) (by first | assumption | exact nq_gs (by assumption) | exact nq_gn (by first | assumption | decide | omega | exact nq_ne1 (by assumption) (by assumption) | exact nq_ne2 (by assumption) (by assumption)) (by assumption) | exact nq_ga (by assumption))) | exact nq_gn (by first | assumption | decide | omega | exact nq_ne1 (by assumption) (by assumption) | exact nq_ne2 (by assumption) (by assumption)) (by first | assumption | exact nq_ga (by assumption) | exact nq_gs (by first | assumption | exact nq_gs (by assumption) | exact nq_gn (by first | assumption | decide | omega | exact nq_ne1 (by assumption) (by assumption) | exact nq_ne2 (by assumption) (by assumption)) (by assumption) | exact nq_ga (by assumption)) | exact nq_gn (by first | assumption | decide | omega | exact nq_ne1 (by assumption) (by assumption) | exact nq_ne2 (by assumption) (by assumption)) (by first | assumption | exact nq_gs (by assumption) | exact nq_gn (by first | assumption | decide | omega | exact nq_ne1 (by assumption) (by assumption) | exact nq_ne2 (by assumption) (by assumption)) (by assumption) | exact nq_ga (by assumption)))) rfl rfl (kc := 0) (ks := 0) (mc' := 0) (ms' := 0) (As := []) (rest := [.int 0, .ref 287]) rfl rfl (Nat.le_of_ble_eq_true rfl) (k_QS_back hR (by omega)) (fun E σ1 hq => ?_) (fun v σ1 hq => ?_)
  · obtain ⟨q1, q2, q3⟩ := hq
    rcases sx_back_k (S := S) with ⟨x, hx⟩ | ⟨e, he, hx⟩
    · rw [hx] at q1
      cases q1
    · rw [hx] at q1
      cases q1
      simp only [List.mem_cons, List.not_mem_nil, or_false] at he
      cases he
      refine ⟨2, 12, ct_back_0, rfl, ?_⟩
      refine nq_iconst (v := 1) (pc' := 13) d_Law_back_12 rfl (by decide) ?_
      refine nq_iret d_Law_back_13 rfl rfl (la_ex q2 q3 ho hx (by decide))
  · obtain ⟨q1, q2, q3⟩ := hq
    rcases sx_back_k (S := S) with ⟨x, hx⟩ | ⟨e, he, hx⟩
    · rw [hx] at q1
      cases q1
      have ho1 : la_O σ1 f := (q3.1 287 (by decide) (by decide)).trans ho
      unfold la_O at ho1
      refine nq_i2l (pc' := 7) d_Law_back_6 rfl ?_
      refine nq_last (pc' := 8) d_Law_back_7 rfl (by first | assumption | exact nq_ga (by assumption) | exact nq_gs (by first | assumption | exact nq_ga (by assumption) | exact nq_gs (by first | assumption | exact nq_gs (by assumption) | exact nq_gn (by first | assumption | decide | omega | exact nq_ne1 (by assumption) (by assumption) | exact nq_ne2 (by assumption) (by assumption)) (by assumption) | exact nq_ga (by assumption)) | exact nq_gn (by first | assumption | decide | omega | exact nq_ne1 (by assumption) (by assumption) | exact nq_ne2 (by assumption) (by assumption)) (by first | assumption | exact nq_gs (by assumption) | exact nq_gn (by first | assumption | decide | omega | exact nq_ne1 (by assumption) (by assumption) | exact nq_ne2 (by assumption) (by assumption)) (by assumption) | exact nq_ga (by assumption))) | exact nq_gn (by first | assumption | decide | omega | exact nq_ne1 (by assumption) (by assumption) | exact nq_ne2 (by assumption) (by assumption)) (by first | assumption | exact nq_ga (by assumption) | exact nq_gs (by first | assumption | exact nq_gs (by assumption) | exact nq_gn (by first | assumption | decide | omega | exact nq_ne1 (by assumption) (by assumption) | exact nq_ne2 (by assumption) (by assumption)) (by assumption) | exact nq_ga (by assumption)) | exact nq_gn (by first | assumption | decide | omega | exact nq_ne1 (by assumption) (by assumption) | exact nq_ne2 (by assumption) (by assumption)) (by first | assumption | exact nq_gs (by assumption) | exact nq_gn (by first | assumption | decide | omega | exact nq_ne1 (by assumption) (by assumption) | exact nq_ne2 (by assumption) (by assumption)) (by assumption) | exact nq_ga (by assumption)))) rfl (j := 0) rfl (by decide) (by decide) ?_
      refine nq_goto (tgt := 14) d_Law_back_8 (by decide) ?_
      refine nq_iconst (v := 0) (pc' := 15) d_Law_back_14 rfl (by decide) ?_
      refine nq_iret d_Law_back_15 rfl rfl (la_ok q2 q3 ho hx)
    · rw [hx] at q1
      cases q1
theorem k_Law_begin (hR : qs_R σ S) (ho : la_O σ f) (hD : 5 ≤ d) : nq_JM G d 1 6 m_Law_begin [.ref 0] σ (la_Q mo_one σ (sx_begin S)) := by
  obtain ⟨d, rfl⟩ : ∃ d', d = d' + 1 := ⟨d - 1, by omega⟩
  obtain ⟨fs, z0⟩ := hR.zero
  refine nq_mkH' (lv := [some (.ref 0), none]) (by decide +kernel) rfl (Nat.le_of_ble_eq_true rfl) rfl ?_
  refine nq_aload_n (pc' := 1) d_Law_begin_0 rfl rfl rfl ?_
  refine nq_callVH (pc' := 4) d_Law_begin_1 rfl cl_Law_41 (by first | assumption | exact nq_ga (by assumption) | exact nq_gs (by first | assumption | exact nq_ga (by assumption) | exact nq_gs (by first | assumption | exact nq_gs (by assumption) | exact nq_gn (by first | assumption | decide | omega | exact nq_ne1 (by assumption) (by assumption) | exact nq_ne2 (by assumption) (by assumption)) (by assumption) | exact nq_ga (by assumption)) | exact nq_gn (by first | assumption | decide | omega | exact nq_ne1 (by assumption) (by assumption) | exact nq_ne2 (by assumption) (by assumption)) (by first | assumption | exact nq_gs (by assumption) | exact nq_gn (by first | assumption | decide | omega | exact nq_ne1 (by assumption) (by assumption) | exact nq_ne2 (by assumption) (by assumption)) (by assumption) | exact nq_ga (by assumption))) | exact nq_gn (by first | assumption | decide | omega | exact nq_ne1 (by assumption) (by assumption) | exact nq_ne2 (by assumption) (by assumption)) (by first | assumption | exact nq_ga (by assumption) | exact nq_gs (by first | assumption | exact nq_gs (by assumption) | exact nq_gn (by first | assumption | decide | omega | exact nq_ne1 (by assumption) (by assumption) | exact nq_ne2 (by assumption) (by assumption)) (by assumption) | exact nq_ga (by assumption)) | exact nq_gn (by first | assumption | decide | omega | exact nq_ne1 (by assumption) (by assumption) | exact nq_ne2 (by assumption) (by assumption)) (by first | assumption | exact nq_gs (by assumption) | exact nq_gn (by first | assumption | decide | omega | exact nq_ne1 (by assumption) (by assumption) | exact nq_ne2 (by assumption) (by assumption)) (by assumption) | exact nq_ga (by assumption)))) rfl rfl (kc := 0) (ks := 0) (mc' := 0) (ms' := 0) (As := []) (rest := []) rfl rfl (Nat.le_of_ble_eq_true rfl) (k_QS_begin hR (by omega)) (fun E σ1 hq => ?_) (fun v σ1 hq => ?_)
  · obtain ⟨q1, q2, q3⟩ := hq
    rcases sx_begin_k (S := S) with hx | hx
    · rw [hx] at q1
      cases q1
    · rw [hx] at q1
      cases q1
      refine ⟨1, 8, ct_begin_0, rfl, ?_⟩
      refine nq_iconst (v := 1) (pc' := 9) d_Law_begin_8 rfl (by decide) ?_
      refine nq_iret d_Law_begin_9 rfl rfl (la_ex q2 q3 ho hx (by decide))
  · obtain ⟨q1, q2, q3⟩ := hq
    rcases sx_begin_k (S := S) with hx | hx
    · rw [hx] at q1
      cases q1
      refine nq_goto (tgt := 10) d_Law_begin_4 (by decide) ?_
      refine nq_iconst (v := 0) (pc' := 11) d_Law_begin_10 rfl (by decide) ?_
      refine nq_iret d_Law_begin_11 rfl rfl ⟨q2, ⟨fun i a b => q3.1 i a (by omega), q3.2⟩, f, (q3.1 287 (by decide) (by decide)).trans ho, ?_⟩
      rw [hx]
      exact ⟨rfl, fun y hy => (by cases hy)⟩
    · rw [hx] at q1
      cases q1
end LA
