/-! WHAT A TEXT SAYS: the grammar, read from left to right. L i is the character at place i, 0 behind the end. A value is kept as its code. -/
abbrev sp_P : Type := Nat ⊕ (List nq_In × Nat)
abbrev sp_U : Type := Nat → Nat → sp_P
def sp_num (L : Nat → Nat) : Nat → Nat → Nat → Nat × Nat
  | 0, i, v => (v, i)
  | f + 1, i, v => if L i ∈ tx 6 then sp_num L f (i + 1) (v * 10 + (L i - 48)) else (v, i)
def sp_loop (L : Nat → Nat) (t ob : Nat) (u : sp_U) (r : Nat) : Nat → List nq_In → Nat → sp_P
  | 0, c, j => .inr (c, j)
  | f + 1, c, j => if L j ∈ tx t then (match u (r + 1) (j + 1) with
    | .inl p => .inl p
    | .inr (c2, j2) => sp_loop L t ob u r f (c ++ c2 ++ [(ob + (tx t).idxOf (L j), r, 0)]) j2) else .inr (c, j)
def sp_term (L : Nat → Nat) (u : sp_U) : sp_U := fun r i => match u r i with
  | .inl p => .inl p
  | .inr (c, j) => sp_loop L 10 5 u r 48 c j
def sp_sum (L : Nat → Nat) (u : sp_U) : sp_U := fun r i => match sp_term L u r i with
  | .inl p => .inl p
  | .inr (c, j) => sp_loop L 11 3 (sp_term L u) r 48 c j
/-- a UNIT; k more may stand in it -/
def sp_unit (L : Nat → Nat) (cols : Nat) : Nat → sp_U
  | k, r, i => if L i ∈ tx 6 then .inr ([(0, r, (sp_num L 4 i 0).1)], (sp_num L 4 i 0).2)
    else if L i ∈ tx cols then .inr ([(1, r, L i - 97)], i + 1)
    else if L i = 63 then .inr ([(1, r, 6)], i + 1)
    else match k with
      | 0 => .inl i
      | k + 1 => if L i = 45 then (match sp_unit L cols k r (i + 1) with
          | .inl p => .inl p
          | .inr (c, j) => .inr (c ++ [(2, r, 0)], j))
        else if L i = 40 then (match sp_sum L (sp_unit L cols k) r (i + 1) with
          | .inl p => .inl p
          | .inr (c, j) => if L j = 41 then .inr (c, j + 1) else .inl j)
        else .inl i
def sp_expr (L : Nat → Nat) (cols : Nat) : sp_U := sp_sum L (sp_unit L cols 4)
/-- a comparison: left, sign, right, whether its AND ends with it -/
abbrev sp_K : Type := List nq_In × Nat × List nq_In × Bool
def sp_conds (L : Nat → Nat) (cols : Nat) : Nat → List sp_K → Nat → Nat ⊕ (List sp_K × Nat)
  | 0, acc, i => .inr (acc, i)
  | f + 1, acc, i => match sp_expr L cols 7 i with
    | .inl p => .inl p
    | .inr (c1, j) => if L j ∈ tx 17 then (match sp_expr L cols 8 (j + 1) with
        | .inl p => .inl p
        | .inr (c2, j2) => if L j2 ∈ tx 19 then sp_conds L cols f (acc ++ [(c1, (tx 17).idxOf (L j), c2, decide (L j2 ≠ 38))]) (j2 + 1)
          else if L j2 = 93 then .inr (acc ++ [(c1, (tx 17).idxOf (L j), c2, true)], j2 + 1)
          else .inl j2)
      else .inl j
def sp_list (L : Nat → Nat) (cols : Nat) : Nat → List (List nq_In) → Nat → Nat ⊕ (List (List nq_In) × Nat)
  | 0, acc, i => .inr (acc, i)
  | f + 1, acc, i => match sp_expr L cols (7 + acc.length) i with
    | .inl p => .inl p
    | .inr (c, j) => if f ≠ 0 ∧ L j = 44 then sp_list L cols f (acc ++ [c]) (j + 1) else .inr (acc ++ [c], j)
/-- a STATEMENT: kind, first table, second table (3: none), values, column or function, comparisons, order (0: none, else column + 1) -/
abbrev sp_St : Type := Nat × Nat × Nat × List (List nq_In) × Nat × List sp_K × Nat
def sp_vals (L : Nat → Nat) (k cols i : Nat) : Nat ⊕ (List (List nq_In) × Nat × Nat) :=
  if k = 73 then (if L i = 40 then (match sp_list L cols 3 [] (i + 1) with
      | .inl p => .inl p
      | .inr (vs, j) => if vs.length = 3 ∧ L j = 41 then .inr (vs, 0, j + 1) else .inl j) else .inl i)
  else if k = 68 then .inr ([], 0, i)
  else if k = 85 then (if L i ∈ tx 13 then (if L (i + 1) = 61 then (match sp_list L cols 1 [] (i + 2) with
      | .inl p => .inl p
      | .inr (vs, j) => .inr (vs, L i - 97, j)) else .inl (i + 1)) else .inl i)
  else if k = 65 ∨ k = 66 then (if L i ∈ tx 15 then (match sp_list L cols 1 [] (i + 1) with
      | .inl p => .inl p
      | .inr (vs, j) => .inr (vs, L i, j)) else .inl i)
  else (match sp_list L cols 3 [] i with
      | .inl p => .inl p
      | .inr (vs, j) => .inr (vs, 0, j))
def sp_cond (L : Nat → Nat) (k cols i : Nat) : Nat ⊕ (List sp_K × Nat) := if k ≠ 73 ∧ L i = 91 then sp_conds L cols 48 [] (i + 1) else .inr ([], i)
def sp_ord (L : Nat → Nat) (k cols i : Nat) : Nat ⊕ (Nat × Nat) := if (k = 83 ∨ k = 80) ∧ L i = 94 then (if L (i + 1) ∈ tx cols then .inr (L (i + 1) - 96, i + 2) else .inl (i + 1)) else .inr (0, i)
def sp_body (L : Nat → Nat) (N k t u cols i : Nat) : Nat ⊕ sp_St := match sp_vals L k cols i with
  | .inl p => .inl p
  | .inr (vs, fn, j) => match sp_cond L k cols j with
    | .inl p => .inl p
    | .inr (cs, j2) => match sp_ord L k cols j2 with
      | .inl p => .inl p
      | .inr (od, j3) => if j3 < N then .inl j3 else .inr (k, t, u, vs, fn, cs, od)
def sp_cols (k : Nat) : Nat := if k = 73 then 0 else if k = 80 ∨ k = 66 then 4 else 3
def sp_stmt (L : Nat → Nat) (N : Nat) : Nat ⊕ sp_St :=
  if L 0 ∈ tx 1 then (if L 1 ∈ tx 2 then (if L 0 = 80 ∨ L 0 = 66 then (if L 2 ∈ tx 2 then sp_body L N (L 0) (L 1 - 48) (L 2 - 48) 4 3 else .inl 2)
    else sp_body L N (L 0) (L 1 - 48) 3 (sp_cols (L 0)) 2) else .inl 1) else .inl 0
/-- how often ? stands in a code -/
def sp_q (c : List nq_In) : Nat := c.countP (fun x => x.1 == 1 && x.2.2 == 6)
/-! the shape of a value's code: from the register h on, none below b is changed -/
def wf (nc b : Nat) : List nq_In → Nat → Nat → Prop
  | [], h, h' => h = h'
  | x :: c, h, h' => (x.1 ≤ 1 ∧ x.2.1 = h ∧ b ≤ h ∧ x.2.2 < 10000 ∧ (x.1 = 1 → x.2.2 < nc ∨ x.2.2 = 6) ∧ wf nc b c (h + 1) h') ∨ (x.1 = 2 ∧ x.2.1 + 1 = h ∧ b ≤ x.2.1 ∧ x.2.2 = 0 ∧ wf nc b c h h') ∨ (3 ≤ x.1 ∧ x.1 ≤ 7 ∧ x.2.1 + 2 = h ∧ b ≤ x.2.1 ∧ x.2.2 = 0 ∧ wf nc b c (x.2.1 + 1) h')
theorem wf_app {nc b : Nat} : ∀ {c1 c2 : List nq_In} {h1 h2 h3 : Nat}, wf nc b c1 h1 h2 → wf nc b c2 h2 h3 → wf nc b (c1 ++ c2) h1 h3
  | [], _, _, _, _, h, k => by cases h; exact k
  | _ :: _, _, _, _, _, h, k => by
    rcases h with ⟨a1, a2, a3, a4, a5, a6⟩ | ⟨a1, a2, a3, a4, a5⟩ | ⟨a1, a2, a3, a4, a5, a6⟩
    · exact .inl ⟨a1, a2, a3, a4, a5, wf_app a6 k⟩
    · exact .inr (.inl ⟨a1, a2, a3, a4, wf_app a5 k⟩)
    · exact .inr (.inr ⟨a1, a2, a3, a4, a5, wf_app a6 k⟩)
theorem wf_base {nc b b' : Nat} (hb : b' ≤ b) : ∀ {c : List nq_In} {h1 h2 : Nat}, wf nc b c h1 h2 → wf nc b' c h1 h2
  | [], _, _, h => h
  | _ :: _, _, _, h => by
    rcases h with ⟨a1, a2, a3, a4, a5, a6⟩ | ⟨a1, a2, a3, a4, a5⟩ | ⟨a1, a2, a3, a4, a5, a6⟩
    · exact .inl ⟨a1, a2, by omega, a4, a5, wf_base hb a6⟩
    · exact .inr (.inl ⟨a1, a2, by omega, a4, wf_base hb a5⟩)
    · exact .inr (.inr ⟨a1, a2, a3, by omega, a5, wf_base hb a6⟩)
theorem wf_op {nc b : Nat} : ∀ {c : List nq_In} {h1 h2 : Nat}, wf nc b c h1 h2 → ∀ x ∈ c, x.1 < 8 ∧ x.2.2 < 10000 ∧ (x.1 = 1 → x.2.2 < nc ∨ x.2.2 = 6)
  | [], _, _, _ => fun _ h => absurd h (List.not_mem_nil)
  | y :: c, _, _, h => by
    intro x hx
    rcases h with ⟨a1, a2, a3, a4, a5, a6⟩ | ⟨a1, a2, a3, a4, a5⟩ | ⟨a1, a2, a3, a4, a5, a6⟩
    · rcases List.mem_cons.1 hx with rfl | hx
      · exact ⟨by omega, a4, a5⟩
      · exact wf_op a6 x hx
    · rcases List.mem_cons.1 hx with rfl | hx
      · exact ⟨by omega, by omega, by omega⟩
      · exact wf_op a5 x hx
    · rcases List.mem_cons.1 hx with rfl | hx
      · exact ⟨by omega, by omega, by omega⟩
      · exact wf_op a6 x hx
/-- what holds of a value that was read: c, from i to j, for the register r -/
def sp_c (N nc B r i : Nat) (c : List nq_In) (j : Nat) : Prop := i + c.length ≤ j ∧ i < j ∧ j ≤ N ∧ wf nc r c r (r + 1) ∧ ∀ x ∈ c, x.2.1 ≤ r + B ∧ (3 ≤ x.1 → x.2.1 + 1 ≤ r + B)
def sp_g (N nc B : Nat) (u : sp_U) : Prop := ∀ r i c j, u r i = .inr (c, j) → sp_c N nc B r i c j
theorem sp_c.up {N nc B r i j B' : Nat} {c : List nq_In} (hB : B ≤ B') (h : sp_c N nc B r i c j) : sp_c N nc B' r i c j :=
  ⟨h.1, h.2.1, h.2.2.1, h.2.2.2.1, fun x hx => ⟨by have := (h.2.2.2.2 x hx).1; omega, fun h3 => by have := (h.2.2.2.2 x hx).2 h3; omega⟩⟩
theorem sp_op_lt {t ob c : Nat} (ht : t = 10 ∧ ob = 5 ∨ t = 11 ∧ ob = 3) (h : c ∈ tx t) : 3 ≤ ob + (tx t).idxOf c ∧ ob + (tx t).idxOf c ≤ 7 := by
  have := List.idxOf_lt_length_iff.2 h
  rcases ht with ⟨rfl, rfl⟩ | ⟨rfl, rfl⟩
  · have e : (tx 10).length = 3 := rfl
    omega
  · have e : (tx 11).length = 2 := rfl
    omega
theorem tx_n0 {t c : Nat} (h : c ∈ tx t) : c ≠ 0 := by
  rintro rfl
  have : ∀ t : Fin 22, 0 ∉ tx t := by decide
  by_cases ht : t < 22
  · exact this ⟨t, ht⟩ h
  · have : tx t = [] := by simp [tx, tx_b, List.getElem?_eq_none (l := [([] : List Nat), [73, 68, 85, 83, 80, 65, 66], [48, 49, 50], [97, 98, 99], [97, 98, 99, 100, 101, 102], [40], [48, 49, 50, 51, 52, 53, 54, 55, 56, 57], [63], [45], [41], [42, 47, 37], [43, 45], [44], [98, 99], [61], [43, 35, 62, 60], [91], [60, 61, 62], [38], [38, 124], [93], [94]]) (i := t) (by simp; omega)]
    rw [this] at h
    cases h
section SP
variable {L : Nat → Nat} {N nc cols : Nat}
theorem sp_loop_c {B t ob : Nat} {u : sp_U} (hu : sp_g N nc B u) (ht : t = 10 ∧ ob = 5 ∨ t = 11 ∧ ob = 3) {r i : Nat} : ∀ {f j j' : Nat} {c c' : List nq_In}, sp_c N nc (B + 1) r i c j → sp_loop L t ob u r f c j = .inr (c', j') → sp_c N nc (B + 1) r i c' j'
  | 0, j, j', c, c', h, e => by cases e; exact h
  | f + 1, j, j', c, c', h, e => by
    unfold sp_loop at e
    split at e
    · rename_i hm
      split at e
      · cases e
      · rename_i c2 j2 e2
        obtain ⟨q1, q2, q3, q4, q5⟩ := hu _ _ _ _ e2
        obtain ⟨p1, p2, p3, p4, p5⟩ := h
        obtain ⟨o1, o2⟩ := sp_op_lt ht hm
        refine sp_loop_c hu ht ⟨?_, by omega, q3, ?_, ?_⟩ e
        · simp only [List.length_append, List.length_cons, List.length_nil]
          omega
        · exact wf_app (wf_app p4 (wf_base (by omega) q4)) (.inr (.inr ⟨o1, o2, rfl, Nat.le_refl _, rfl, rfl⟩))
        · intro x hx
          rcases List.mem_append.1 hx with hx | hx
          · rcases List.mem_append.1 hx with hx | hx
            · exact p5 x hx
            · have := q5 x hx
              exact ⟨by omega, fun h => by have := this.2 h; omega⟩
          · rcases List.mem_singleton.1 hx with rfl
            exact ⟨by simp only; omega, fun _ => by simp only; omega⟩
    · cases e
      exact h
theorem sp_term_g {B : Nat} {u : sp_U} (hu : sp_g N nc B u) : sp_g N nc (B + 1) (sp_term L u) := by
  intro r i c j e
  unfold sp_term at e
  split at e
  · cases e
  · rename_i c2 j2 e2
    exact sp_loop_c hu (.inl ⟨rfl, rfl⟩) (sp_c.up (by omega) (hu _ _ _ _ e2)) e
theorem sp_sum_g {B : Nat} {u : sp_U} (hu : sp_g N nc B u) : sp_g N nc (B + 2) (sp_sum L u) := by
  intro r i c j e
  unfold sp_sum at e
  split at e
  · cases e
  · rename_i c2 j2 e2
    exact sp_loop_c (sp_term_g (L := L) hu) (.inr ⟨rfl, rfl⟩) (sp_c.up (by omega) (sp_term_g hu _ _ _ _ e2)) e
theorem sp_dig {c : Nat} (h : c ∈ tx 6) : 48 ≤ c ∧ c ≤ 57 := by
  have : ∀ c ∈ tx 6, 48 ≤ c ∧ c ≤ 57 := by decide
  exact this c h
theorem sp_num_c (hL : ∀ i, L i ≠ 0 → i < N) : ∀ {f i v M : Nat}, i ≤ N → v < M → (sp_num L f i v).1 < M * 10 ^ f ∧ i ≤ (sp_num L f i v).2 ∧ (sp_num L f i v).2 ≤ N
  | 0, i, v, M, h, hv => ⟨by simp only [sp_num]; omega, Nat.le_refl _, h⟩
  | f + 1, i, v, M, h, hv => by
    unfold sp_num
    split
    · rename_i hm
      have h0 := hL i (tx_n0 hm)
      have hd := sp_dig hm
      have := sp_num_c hL (f := f) (i := i + 1) (v := v * 10 + (L i - 48)) (M := M * 10) (by omega) (by omega)
      refine ⟨?_, by omega, this.2.2⟩
      rw [Nat.pow_succ, Nat.mul_comm (10 ^ f) 10, ← Nat.mul_assoc]
      exact this.1
    · refine ⟨?_, Nat.le_refl _, h⟩
      have : 0 < 10 ^ (f + 1) := Nat.pow_pos (by omega)
      calc v < M := hv
        _ = M * 1 := (Nat.mul_one _).symm
        _ ≤ M * 10 ^ (f + 1) := Nat.mul_le_mul_left _ this
/-- how many columns a statement may name -/
def sp_nc (cols : Nat) : Nat := (tx cols).length
theorem sp_col (hc : cols = 0 ∨ cols = 3 ∨ cols = 4) {c : Nat} (h : c ∈ tx cols) : 97 ≤ c ∧ c - 97 < sp_nc cols ∧ sp_nc cols ≤ 6 := by
  rcases hc with rfl | rfl | rfl
  · cases h
  · have : ∀ c ∈ tx 3, 97 ≤ c ∧ c - 97 < sp_nc 3 ∧ sp_nc 3 ≤ 6 := by decide
    exact this c h
  · have : ∀ c ∈ tx 4, 97 ≤ c ∧ c - 97 < sp_nc 4 ∧ sp_nc 4 ≤ 6 := by decide
    exact this c h
theorem sp_unit_h (hL : ∀ i, L i ≠ 0 → i < N) (hc : cols = 0 ∨ cols = 3 ∨ cols = 4) {k r i j : Nat} {c : List nq_In} (ih : ∀ k2, k = k2 + 1 → sp_g N (sp_nc cols) (2 * k2) (sp_unit L cols k2)) (e : sp_unit L cols k r i = .inr (c, j)) : sp_c N (sp_nc cols) (2 * k) r i c j := by
    unfold sp_unit at e
    split at e
    · rename_i hm
      cases e
      have h0 := hL i (tx_n0 hm)
      have h1 := sp_num_c hL (f := 4) (i := i) (v := 0) (M := 1) (by omega) (by omega)
      have h2 := sp_num_c hL (f := 3) (i := i + 1) (v := 0 * 10 + (L i - 48)) (M := 100) (by omega) (by have := sp_dig hm; omega)
      have h3 : sp_num L 4 i 0 = sp_num L 3 (i + 1) (0 * 10 + (L i - 48)) := by conv => lhs; unfold sp_num; rw [if_pos hm]
      refine ⟨?_, ?_, h1.2.2, .inl ⟨by simp, rfl, Nat.le_refl _, by simp only; omega, by simp, rfl⟩, ?_⟩
      · simp only [List.length_cons, List.length_nil]
        rw [h3]; omega
      · rw [h3]; omega
      · intro x hx
        rcases List.mem_singleton.1 hx with rfl
        exact ⟨by simp only; omega, fun h => by simp at h⟩
    · split at e
      · rename_i hm
        cases e
        have h0 := hL i (tx_n0 hm)
        have h1 := sp_col hc hm
        refine ⟨by simp, by omega, by omega, .inl ⟨by simp, rfl, Nat.le_refl _, by simp only; omega, fun _ => .inl h1.2.1, rfl⟩, ?_⟩
        intro x hx
        rcases List.mem_singleton.1 hx with rfl
        exact ⟨by simp only; omega, fun h => by simp at h⟩
      · split at e
        · rename_i hm
          cases e
          have h0 := hL i (by omega)
          refine ⟨by simp, by omega, by omega, .inl ⟨by simp, rfl, Nat.le_refl _, by simp only; omega, fun _ => .inr rfl, rfl⟩, ?_⟩
          intro x hx
          rcases List.mem_singleton.1 hx with rfl
          exact ⟨by simp only; omega, fun h => by simp at h⟩
        · split at e
          · cases e
          · rename_i k2
            split at e
            · rename_i hm
              split at e
              · cases e
              · rename_i c2 j2 e2
                cases e
                obtain ⟨q1, q2, q3, q4, q5⟩ := ih _ rfl _ _ _ _ e2
                refine ⟨by simp only [List.length_append, List.length_cons, List.length_nil]; omega, by omega, q3, wf_app q4 (.inr (.inl ⟨rfl, rfl, Nat.le_refl _, rfl, rfl⟩)), ?_⟩
                intro x hx
                rcases List.mem_append.1 hx with hx | hx
                · have := q5 x hx
                  exact ⟨by omega, fun h => by have := this.2 h; omega⟩
                · rcases List.mem_singleton.1 hx with rfl
                  exact ⟨by simp only; omega, fun h => by simp at h⟩
            · split at e
              · split at e
                · cases e
                · rename_i c2 j2 e2
                  split at e
                  · rename_i hm
                    cases e
                    obtain ⟨q1, q2, q3, q4, q5⟩ := sp_sum_g (ih _ rfl) _ _ _ _ e2
                    have h0 := hL j2 (by omega)
                    refine ⟨by omega, by omega, by omega, q4, ?_⟩
                    intro x hx
                    have := q5 x hx
                    exact ⟨by omega, fun h => by have := this.2 h; omega⟩
                  · cases e
              · cases e
theorem sp_unit_g (hL : ∀ i, L i ≠ 0 → i < N) (hc : cols = 0 ∨ cols = 3 ∨ cols = 4) (k : Nat) : sp_g N (sp_nc cols) (2 * k) (sp_unit L cols k) := by
    induction k with
    | zero =>
      intro r i c j e
      exact sp_unit_h hL hc (fun k2 h => absurd h (by omega)) e
    | succ k ih =>
      intro r i c j e
      exact sp_unit_h hL hc (fun k2 h => by cases h; exact ih) e
theorem sp_expr_g (hL : ∀ i, L i ≠ 0 → i < N) (hc : cols = 0 ∨ cols = 3 ∨ cols = 4) : sp_g N (sp_nc cols) 10 (sp_expr L cols) := sp_sum_g (sp_unit_g hL hc 4)
end SP
/-! WHAT A CODE COMES TO -/
def ev : List nq_In → (Nat → Int32) → Option (Nat → Int32)
  | [], R => some R
  | x :: c, R => match mc_val x R with
    | none => none
    | some v => ev c (upd R x.2.1 v)
theorem ev_app : ∀ (c1 c2 : List nq_In) (R : Nat → Int32), ev (c1 ++ c2) R = match ev c1 R with
    | none => none
    | some R' => ev c2 R'
  | [], _, _ => rfl
  | x :: c1, c2, R => by
    simp only [List.cons_append, ev]
    cases mc_val x R with
    | none => rfl
    | some v => exact ev_app c1 c2 _
theorem mc_val_ag {x : nq_In} {R R' : Nat → Int32} (h1 : x.1 = 1 → R x.2.2 = R' x.2.2) (h2 : x.1 = 2 → R x.2.1 = R' x.2.1) (h3 : 3 ≤ x.1 → R x.2.1 = R' x.2.1 ∧ R (x.2.1 + 1) = R' (x.2.1 + 1)) : mc_val x R = mc_val x R' := by
  unfold mc_val
  by_cases e0 : x.1 = 0
  · rw [if_pos e0, if_pos e0]
  rw [if_neg e0, if_neg e0]
  by_cases e1 : x.1 = 1
  · rw [if_pos e1, if_pos e1, h1 e1]
  rw [if_neg e1, if_neg e1]
  by_cases e2 : x.1 = 2
  · rw [if_pos e2, if_pos e2, h2 e2]
  rw [if_neg e2, if_neg e2]
  obtain ⟨a, b⟩ := h3 (by omega)
  rw [a, b]
/-- two states of the registers that agree in the columns, in the parameter and from b to h -/
def rg (nc b h : Nat) (R R' : Nat → Int32) : Prop := (∀ i, i < nc → R i = R' i) ∧ R 6 = R' 6 ∧ ∀ i, b ≤ i → i < h → R i = R' i
theorem upd_at {f : Nat → Int32} {k : Nat} {x : Int32} : upd f k x k = x := if_pos rfl
theorem upd_ne {f : Nat → Int32} {k j : Nat} {x : Int32} (h : j ≠ k) : upd f k x j = f j := if_neg h
theorem ev_ag {nc b : Nat} (hn : nc ≤ 6) (hb : 7 ≤ b) : ∀ {c : List nq_In} {h h' : Nat} {R R' : Nat → Int32}, wf nc b c h h' → rg nc b h R R' → match ev c R with
    | none => ev c R' = none
    | some S => ∃ S', ev c R' = some S' ∧ rg nc b h' S S' ∧ (∀ i, i < b → S i = R i) ∧ ∀ i, i < b → S' i = R' i
  | [], h, h', R, R', w, g => by
    cases w
    exact ⟨R', rfl, g, fun _ _ => rfl, fun _ _ => rfl⟩
  | x :: c, h, h', R, R', w, ⟨g1, g2, g3⟩ => by
    have key : mc_val x R = mc_val x R' ∧ b ≤ x.2.1 ∧ ∃ h2, wf nc b c h2 h' ∧ ∀ v, rg nc b h2 (upd R x.2.1 v) (upd R' x.2.1 v) := by
      rcases w with ⟨a1, a2, a3, a4, a5, a6⟩ | ⟨a1, a2, a3, a4, a5⟩ | ⟨a1, a2, a3, a4, a5, a6⟩
      · refine ⟨mc_val_ag (fun e => ?_) (fun e => by omega) (fun e => by omega), by omega, h + 1, a6, fun v => ⟨fun i hi => ?_, ?_, fun i h1 h2 => ?_⟩⟩
        · rcases a5 e with h | h
          · exact g1 _ h
          · rw [h]; exact g2
        · rw [upd_ne (by omega), upd_ne (by omega)]; exact g1 i hi
        · rw [upd_ne (by omega), upd_ne (by omega)]; exact g2
        · by_cases e : i = x.2.1
          · rw [e, upd_at, upd_at]
          · rw [upd_ne e, upd_ne e]; exact g3 i h1 (by omega)
      · refine ⟨mc_val_ag (fun e => by omega) (fun e => g3 _ (by omega) (by omega)) (fun e => by omega), by omega, h, a5, fun v => ⟨fun i hi => ?_, ?_, fun i h1 h2 => ?_⟩⟩
        · rw [upd_ne (by omega), upd_ne (by omega)]; exact g1 i hi
        · rw [upd_ne (by omega), upd_ne (by omega)]; exact g2
        · by_cases e : i = x.2.1
          · rw [e, upd_at, upd_at]
          · rw [upd_ne e, upd_ne e]; exact g3 i h1 (by omega)
      · refine ⟨mc_val_ag (fun e => by omega) (fun e => by omega) (fun e => ⟨g3 _ (by omega) (by omega), g3 _ (by omega) (by omega)⟩), by omega, x.2.1 + 1, a6, fun v => ⟨fun i hi => ?_, ?_, fun i h1 h2 => ?_⟩⟩
        · rw [upd_ne (by omega), upd_ne (by omega)]; exact g1 i hi
        · rw [upd_ne (by omega), upd_ne (by omega)]; exact g2
        · by_cases e : i = x.2.1
          · rw [e, upd_at, upd_at]
          · rw [upd_ne e, upd_ne e]; exact g3 i h1 (by omega)
    obtain ⟨k1, k2, h2, k3, k4⟩ := key
    unfold ev
    rw [← k1]
    cases mc_val x R with
    | none => rfl
    | some v =>
      have := ev_ag hn hb k3 (k4 v)
      simp only
      split at this
      · exact this
      · obtain ⟨S', e1, e2, e3, e4⟩ := this
        refine ⟨S', e1, e2, fun i hi => ?_, fun i hi => ?_⟩
        · rw [e3 i hi, upd_ne (by omega)]
        · rw [e4 i hi, upd_ne (by omega)]
/-- what a value of a code at the register b comes to -/
def vl (c : List nq_In) (b : Nat) (R : Nat → Int32) : Option Int32 := (ev c R).map (fun S => S b)
theorem vl_ag {nc b : Nat} (hn : nc ≤ 6) (hb : 7 ≤ b) {c : List nq_In} {R R' : Nat → Int32} (w : wf nc b c b (b + 1)) (g1 : ∀ i, i < nc → R i = R' i) (g2 : R 6 = R' 6) : match ev c R with
    | none => vl c b R' = none
    | some S => vl c b R' = some (S b) ∧ ∀ i, i < b → S i = R i := by
  have := ev_ag hn hb w ⟨g1, g2, fun i h1 h2 => absurd h1 (by omega)⟩
  split at this
  · rename_i e
    simp only [vl, this, Option.map_none]
  · rename_i S e
    obtain ⟨S', e1, e2, e3, e4⟩ := this
    simp only [vl, e1, Option.map_some]
    exact ⟨by rw [e2.2.2 b (by omega) (by omega)], e3⟩
theorem mc_run_ev {F : List nq_In} : ∀ {c pre post : List nq_In} {f : Nat} {R : Nat → Int32}, F = pre ++ c ++ post → (∀ x ∈ c, x.1 < 8) → c.length ≤ f → match ev c R with
    | none => (mc_run F f pre.length R).1 = none
    | some S => mc_run F f pre.length R = mc_run F (f - c.length) (pre.length + c.length) S
  | [], pre, post, f, R, hF, h, hf => rfl
  | x :: c, pre, post, f, R, hF, h, hf => by
    have hx : F[pre.length]? = some x := by rw [hF]; simp
    have h8 := h x (List.mem_cons_self)
    cases f with
    | zero => simp at hf
    | succ f =>
      unfold ev
      simp only [List.length_cons] at hf ⊢
      have e : mc_run F (f + 1) pre.length R = match mc_val x R with
        | none => (none, R)
        | some v => mc_run F f (pre.length + 1) (upd R x.2.1 v) := by
        conv => lhs; unfold mc_run
        rw [hx]
        simp only
        rw [if_neg (by omega), if_neg (by omega), if_pos h8]
        try rfl
      rw [e]
      cases mc_val x R with
      | none => rfl
      | some v =>
        have := mc_run_ev (F := F) (c := c) (pre := pre ++ [x]) (post := post) (f := f) (R := upd R x.2.1 v) (by rw [hF]; simp) (fun y hy => h y (List.mem_cons_of_mem _ hy)) (by omega)
        simp only [List.length_append, List.length_cons, List.length_nil] at this
        simp only
        rw [show f + 1 - (c.length + 1) = f - c.length from by omega, show pre.length + (c.length + 1) = pre.length + (0 + 1) + c.length from by omega]
        exact this
/-! the comparisons -/
def mc_ct (off : Nat) : List sp_K → Nat
  | [] => off
  | (c1, _, c2, en) :: rest => if en then off + c1.length + c2.length + 2 else mc_ct (off + c1.length + c2.length + 1) rest
/-- the code of comparisons that stands from off on -/
def mc_cc (off : Nat) : List sp_K → List nq_In
  | [] => [(12, 0, 0)]
  | (c1, s, c2, en) :: rest => c1 ++ c2 ++ [(8 + s, 7, mc_ct off ((c1, s, c2, en) :: rest))] ++ (if en then [(11, 0, 0)] else []) ++ mc_cc (off + c1.length + c2.length + (if en then 2 else 1)) rest
def sx_cmp (s : Nat) (a b : Int32) : Bool := if s = 0 then decide (a < b) else if s = 1 then decide (a = b) else decide (b < a)
/-- whether the comparisons are met; so: whether those of this AND have been met up to here -/
def sx_meet (ρ : Nat → Int32) : Bool → List sp_K → Option Bool
  | _, [] => some false
  | so, (c1, s, c2, en) :: rest => match (if so then (match vl c1 7 ρ with
      | none => none
      | some a => match vl c2 8 ρ with
        | none => none
        | some b => some (sx_cmp s a b)) else some false) with
    | none => none
    | some so' => if en then (if so' then some true else sx_meet ρ true rest) else sx_meet ρ so' rest
/-- en: the comparison before these ends an AND -/
def sp_we : Bool → List sp_K → Prop
  | en, [] => en = true
  | _, (_, _, _, en) :: rest => sp_we en rest
def sp_kw (nc : Nat) (k : sp_K) : Prop := wf nc 7 k.1 7 8 ∧ k.2.1 ≤ 2 ∧ wf nc 8 k.2.2.1 8 9
theorem mc_cmp_sx {s : Nat} (hs : s ≤ 2) (a b : Int32) : mc_cmp (8 + s) a b = sx_cmp s a b := by
  have : s = 0 ∨ s = 1 ∨ s = 2 := by omega
  rcases this with rfl | rfl | rfl <;> rfl
/-- the code that stands from p on comes to ans, and leaves the first seven registers -/
def mc_an (F : List nq_In) (f p : Nat) (R : Nat → Int32) (ans : Option Bool) : Prop := (mc_run F f p R).1 = ans ∧ (ans ≠ none → ∀ i, i < 7 → (mc_run F f p R).2 i = R i)
theorem mc_an.of {F : List nq_In} {f p f2 p2 : Nat} {R S : Nat → Int32} {ans : Option Bool} (e : mc_run F f p R = mc_run F f2 p2 S) (h : mc_an F f2 p2 S ans) (g : ∀ i, i < 7 → S i = R i) : mc_an F f p R ans := by
  unfold mc_an
  rw [e]
  exact ⟨h.1, fun n i hi => by rw [h.2 n i hi, g i hi]⟩
theorem mc_run_cc {nc : Nat} (hn : nc ≤ 6) {F : List nq_In} {ρ : Nat → Int32} : ∀ {cs : List sp_K} {pre : List nq_In} {f : Nat} {R : Nat → Int32} {en : Bool}, F = pre ++ mc_cc pre.length cs → (∀ k ∈ cs, sp_kw nc k) → sp_we en cs → F.length ≤ f + pre.length → (∀ i, i < nc → R i = ρ i) → R 6 = ρ 6 → mc_an F f pre.length R (sx_meet ρ true cs) ∧ (cs ≠ [] → mc_an F f (mc_ct pre.length cs) R (sx_meet ρ false cs))
  | [], pre, f, R, en, hF, hk, we, hf, g1, g2 => by
    refine ⟨?_, fun h => absurd rfl h⟩
    have hx : F[pre.length]? = some (12, 0, 0) := by rw [hF]; simp [mc_cc]
    have hl : F.length = pre.length + 1 := by rw [hF]; simp [mc_cc]
    cases f with
    | zero => omega
    | succ f =>
      unfold mc_an mc_run
      rw [hx]
      simp [sx_meet]
  | (c1, s, c2, en) :: rest, pre, f, R, en0, hF, hk, we, hf, g1, g2 => by
    obtain ⟨w1, w2, w3⟩ := hk _ (List.mem_cons_self)
    simp only at w1 w2 w3
    have hk' : ∀ k ∈ rest, sp_kw nc k := fun k h => hk k (List.mem_cons_of_mem _ h)
    have we' : sp_we en rest := we
    have hF' := hF
    simp only [mc_cc] at hF
    have hFl : F.length = pre.length + c1.length + c2.length + 1 + (if en then 1 else 0) + (mc_cc (pre.length + c1.length + c2.length + (if en then 2 else 1)) rest).length := by
      rw [hF]
      cases en <;> simp <;> omega
    have two : mc_an F f (mc_ct pre.length ((c1, s, c2, en) :: rest)) R (sx_meet ρ false ((c1, s, c2, en) :: rest)) := by
      cases en with
      | true =>
        have := mc_run_cc hn (F := F) (ρ := ρ) (cs := rest) (pre := pre ++ c1 ++ c2 ++ [(8 + s, 7, mc_ct pre.length ((c1, s, c2, true) :: rest))] ++ [(11, 0, 0)]) (f := f) (R := R) (by rw [hF]; simp [List.append_assoc, Nat.add_assoc]) hk' we' (by simp; omega) g1 g2
        have h := this.1
        simp only [List.length_append, List.length_cons, List.length_nil] at h
        exact h
      | false =>
        have := mc_run_cc hn (F := F) (ρ := ρ) (cs := rest) (pre := pre ++ c1 ++ c2 ++ [(8 + s, 7, mc_ct pre.length ((c1, s, c2, false) :: rest))]) (f := f) (R := R) (by rw [hF]; simp [List.append_assoc, Nat.add_assoc]) hk' we' (by simp; omega) g1 g2
        have h := this.2 (by rintro rfl; cases we')
        simp only [List.length_append, List.length_cons, List.length_nil] at h
        exact h
    refine ⟨?_, fun _ => two⟩
    have r1 := mc_run_ev (F := F) (c := c1) (pre := pre) (post := c2 ++ [(8 + s, 7, mc_ct pre.length ((c1, s, c2, en) :: rest))] ++ (if en then [(11, 0, 0)] else []) ++ mc_cc (pre.length + c1.length + c2.length + (if en then 2 else 1)) rest) (f := f) (R := R) (by rw [hF]; simp [List.append_assoc]) (fun x hx => (wf_op w1 x hx).1) (by omega)
    have v1 := vl_ag hn (by omega) w1 g1 g2
    unfold sx_meet
    split at r1
    · rename_i e1
      rw [e1] at v1
      simp only at v1
      rw [v1]
      exact ⟨r1, fun h => absurd rfl h⟩
    · rename_i S1 e1
      rw [e1] at v1
      obtain ⟨v1, k1⟩ := v1
      rw [v1]
      have r2 := mc_run_ev (F := F) (c := c2) (pre := pre ++ c1) (post := [(8 + s, 7, mc_ct pre.length ((c1, s, c2, en) :: rest))] ++ (if en then [(11, 0, 0)] else []) ++ mc_cc (pre.length + c1.length + c2.length + (if en then 2 else 1)) rest) (f := f - c1.length) (R := S1) (by rw [hF]; simp [List.append_assoc]) (fun x hx => (wf_op w3 x hx).1) (by omega)
      have v2 := vl_ag (R' := ρ) hn (by omega) w3 (R := S1) (fun i hi => by rw [k1 i (by omega)]; exact g1 i hi) (by rw [k1 6 (by omega)]; exact g2)
      rw [List.length_append] at r2
      split at r2
      · rename_i e2
        rw [e2] at v2
        simp only at v2
        rw [v2]
        exact ⟨by rw [r1]; exact r2, fun h => absurd rfl h⟩
      · rename_i S2 e2
        rw [e2] at v2
        obtain ⟨v2, k2⟩ := v2
        rw [v2]
        rw [r2] at r1
        have k3 : ∀ i, i < 7 → S2 i = R i := fun i hi => by rw [k2 i (by omega), k1 i hi]
        refine mc_an.of r1 ?_ k3
        have hx : F[pre.length + c1.length + c2.length]? = some (8 + s, 7, mc_ct pre.length ((c1, s, c2, en) :: rest)) := by
          rw [hF]
          rw [show pre ++ (c1 ++ c2 ++ [(8 + s, 7, mc_ct pre.length ((c1, s, c2, en) :: rest))] ++ (if en = true then [(11, 0, 0)] else []) ++ mc_cc (pre.length + c1.length + c2.length + if en = true then 2 else 1) rest) = (pre ++ c1 ++ c2) ++ ((8 + s, 7, mc_ct pre.length ((c1, s, c2, en) :: rest)) :: ((if en = true then [(11, 0, 0)] else []) ++ mc_cc (pre.length + c1.length + c2.length + if en = true then 2 else 1) rest)) from by simp [List.append_assoc]]
          rw [List.getElem?_append_right (by simp; omega)]
          rw [show pre.length + c1.length + c2.length - (pre ++ c1 ++ c2).length = 0 from by simp [Nat.add_assoc]]
          rfl
        have s7 : S2 7 = S1 7 := k2 7 (by omega)
        cases hf2 : f - c1.length - c2.length with
        | zero => exact absurd hf2 (by omega)
        | succ f2 =>
          have e3 : mc_run F (f2 + 1) (pre.length + c1.length + c2.length) S2 = mc_run F f2 (if sx_cmp s (S1 7) (S2 8) then pre.length + c1.length + c2.length + 1 else mc_ct pre.length ((c1, s, c2, en) :: rest)) S2 := by
            conv => lhs; unfold mc_run
            rw [hx]
            simp only
            rw [if_neg (by omega), if_neg (by omega), if_neg (by omega), mc_cmp_sx w2, s7]
          refine mc_an.of e3 ?_ (fun _ _ => rfl)
          have g1' : ∀ i, i < nc → S2 i = ρ i := fun i hi => by rw [k3 i (by omega)]; exact g1 i hi
          have g2' : S2 6 = ρ 6 := by rw [k3 6 (by omega)]; exact g2
          cases en with
          | true =>
            have h := (mc_run_cc hn (F := F) (ρ := ρ) (cs := rest) (pre := pre ++ c1 ++ c2 ++ [(8 + s, 7, mc_ct pre.length ((c1, s, c2, true) :: rest))] ++ [(11, 0, 0)]) (f := f2) (R := S2) (by rw [hF]; simp [List.append_assoc, Nat.add_assoc]) hk' we' (by simp; simp at hFl; omega) g1' g2').1
            simp only [List.length_append, List.length_cons, List.length_nil] at h
            cases hcm : sx_cmp s (S1 7) (S2 8) with
            | false =>
              simp only [hcm, if_true, Bool.false_eq_true, if_false]
              exact h
            | true =>
              simp only [hcm, if_true]
              have hx2 : F[pre.length + c1.length + c2.length + 1]? = some (11, 0, 0) := by
                rw [hF]
                rw [show pre ++ (c1 ++ c2 ++ [(8 + s, 7, mc_ct pre.length ((c1, s, c2, true) :: rest))] ++ (if true = true then [(11, 0, 0)] else []) ++ mc_cc (pre.length + c1.length + c2.length + if true = true then 2 else 1) rest) = (pre ++ c1 ++ c2 ++ [(8 + s, 7, mc_ct pre.length ((c1, s, c2, true) :: rest))]) ++ ((11, 0, 0) :: (mc_cc (pre.length + c1.length + c2.length + if true = true then 2 else 1) rest)) from by simp [List.append_assoc]]
                rw [List.getElem?_append_right (by simp; omega)]
                simp [Nat.add_assoc]
              cases f2 with
              | zero => exact absurd hf2 (by simp at hFl; omega)
              | succ f3 =>
                unfold mc_an mc_run
                rw [hx2]
                simp
          | false =>
            have h := (mc_run_cc hn (F := F) (ρ := ρ) (cs := rest) (pre := pre ++ c1 ++ c2 ++ [(8 + s, 7, mc_ct pre.length ((c1, s, c2, false) :: rest))]) (f := f2) (R := S2) (by rw [hF]; simp [List.append_assoc, Nat.add_assoc]) hk' we' (by simp; simp at hFl; omega) g1' g2')
            simp only [List.length_append, List.length_cons, List.length_nil] at h
            cases hcm : sx_cmp s (S1 7) (S2 8) with
            | false =>
              simp only [hcm, if_true, Bool.false_eq_true, if_false]
              exact h.2 (by rintro rfl; cases we')
            | true =>
              simp only [hcm, if_true, Bool.false_eq_true, if_false]
              exact h.1
/-! the other reader: a pile of operators that wait -/
abbrev me_st : Type := Nat × List Int32 × List (Nat × Nat) × List Nat × Nat × Bool × Nat
def md_o (op : Nat) : Nat := if op = 3 then 43 else if op = 4 then 45 else if op = 5 then 42 else if op = 6 then 47 else 37
/-- an instruction, as the other reader writes it -/
def md1 (x : nq_In) : List Int32 := if x.1 = 0 then [1, nI x.2.2] else if x.1 = 1 then (if x.2.2 = 6 then [3] else [2, nI x.2.2]) else if x.1 = 2 then [5] else [4, nI (md_o x.1)]
def md (c : List nq_In) : List Int32 := c.flatMap md1
def me_rank (c : Nat) : Nat := if c = 43 ∨ c = 45 then 2 else if c = 42 ∨ c = 47 ∨ c = 37 then 3 else 0
def me_write (fr least : Nat) : List (Nat × Nat) → List Int32 → List (Nat × Nat) × List Int32
  | [], o => ([], o)
  | (c, rk) :: s, o => if fr < s.length + 1 ∧ least ≤ rk then me_write fr least s (o ++ (if rk = 4 then [5] else [4, nI c])) else ((c, rk) :: s, o)
def me_signs (fr : Nat) : List (Nat × Nat) → List Int32 → List (Nat × Nat) × List Int32 × Nat
  | [], o => ([], o, 0)
  | (c, rk) :: s, o => if fr < s.length + 1 ∧ rk = 4 then ((me_signs fr s (o ++ [5])).1, (me_signs fr s (o ++ [5])).2.1, (me_signs fr s (o ++ [5])).2.2 + 1) else ((c, rk) :: s, o, 0)
def me_unit (L : Nat → Nat) (cols i : Nat) : Option (List Int32 × Nat × Nat) :=
  if L i ∈ tx 6 then some ([1, nI (sp_num L 4 i 0).1], (sp_num L 4 i 0).2, 0)
  else if L i = 63 then some ([3], i + 1, 1)
  else if L i ∈ tx cols then some ([2, nI (L i - 97)], i + 1, 0) else none
def me_step (L : Nat → Nat) (cols : Nat) : me_st → (Bool × me_st) ⊕ me_st
  | (i, out, ops, stt, dep, od, q) => if od then (match me_unit L cols i with
      | some (tk, i', dq) => .inr (i', (me_signs (stt.headD 0) ops (out ++ tk)).2.1, (me_signs (stt.headD 0) ops (out ++ tk)).1, stt, dep - (me_signs (stt.headD 0) ops (out ++ tk)).2.2, false, q + dq)
      | none => if dep = 5 ∨ (L i ≠ 45 ∧ L i ≠ 40) then .inl (false, (i, out, ops, stt, dep, od, q)) else if L i = 45 then .inr (i + 1, out, (45, 4) :: ops, stt, dep + 1, true, q) else .inr (i + 1, out, ops, ops.length :: stt, dep + 1, true, q))
    else if 0 < me_rank (L i) then .inr (i + 1, (me_write (stt.headD 0) (me_rank (L i)) ops out).2, (L i, me_rank (L i)) :: (me_write (stt.headD 0) (me_rank (L i)) ops out).1, stt, dep, true, q)
    else match stt with
      | _ :: b2 :: stt2 => if L i = 41 then .inr (i + 1, (me_signs b2 (me_write (stt.headD 0) 1 ops out).1 (me_write (stt.headD 0) 1 ops out).2).2.1, (me_signs b2 (me_write (stt.headD 0) 1 ops out).1 (me_write (stt.headD 0) 1 ops out).2).1, b2 :: stt2, dep - 1 - (me_signs b2 (me_write (stt.headD 0) 1 ops out).1 (me_write (stt.headD 0) 1 ops out).2).2.2, false, q)
        else .inl (false, (i, (me_write (stt.headD 0) 1 ops out).2, (me_write (stt.headD 0) 1 ops out).1, stt, dep, od, q))
      | _ => .inl (true, (i, (me_write (stt.headD 0) 1 ops out).2 ++ [0], (me_write (stt.headD 0) 1 ops out).1, stt, dep, od, q))
def me_it (L : Nat → Nat) (cols : Nat) : Nat → me_st → me_st → Prop
  | 0, s, s' => s = s'
  | n + 1, s, s' => ∃ s1, me_step L cols s = .inr s1 ∧ me_it L cols n s1 s'
def me_to (L : Nat → Nat) (cols : Nat) (s s' : me_st) : Prop := ∃ n, me_it L cols n s s'
def me_no (L : Nat → Nat) (cols : Nat) (s : me_st) (p : Nat) : Prop := ∃ s' s'', me_to L cols s s' ∧ me_step L cols s' = .inl (false, s'') ∧ s''.1 = p
section ME
variable {L : Nat → Nat} {cols : Nat}
theorem me_it.tr : ∀ {n m : Nat} {s s' s'' : me_st}, me_it L cols n s s' → me_it L cols m s' s'' → me_it L cols (n + m) s s''
  | 0, m, s, s', s'', h, k => by cases h; rw [Nat.zero_add]; exact k
  | n + 1, m, s, s', s'', ⟨s1, e, h⟩, k => by
    rw [Nat.add_right_comm]
    exact ⟨s1, e, me_it.tr h k⟩
theorem me_to.rf {s : me_st} : me_to L cols s s := ⟨0, rfl⟩
theorem me_to.tr {s s' s'' : me_st} (h : me_to L cols s s') (k : me_to L cols s' s'') : me_to L cols s s'' := by
  obtain ⟨n, h⟩ := h
  obtain ⟨m, k⟩ := k
  exact ⟨n + m, h.tr k⟩
theorem me_to.st {s s' s'' : me_st} (h : me_step L cols s = .inr s') (k : me_to L cols s' s'') : me_to L cols s s'' := by
  obtain ⟨m, k⟩ := k
  exact ⟨m + 1, s', h, k⟩
theorem me_no.of {s s' : me_st} {p : Nat} (h : me_to L cols s s') (k : me_no L cols s' p) : me_no L cols s p := by
  obtain ⟨a, b, k1, k2, k3⟩ := k
  exact ⟨a, b, h.tr k1, k2, k3⟩
theorem me_no.st {s s' : me_st} {p : Nat} (h : me_step L cols s = .inr s') (k : me_no L cols s' p) : me_no L cols s p := me_no.of (me_to.st h me_to.rf) k
theorem md_app (c c2 : List nq_In) : md (c ++ c2) = md c ++ md c2 := List.flatMap_append
theorem sp_q_app (c c2 : List nq_In) : sp_q (c ++ c2) = sp_q c + sp_q c2 := List.countP_append
def me_ns (b : Nat) : List (Nat × Nat) → Prop
  | [] => True
  | (_, rk) :: s => s.length + 1 ≤ b ∨ rk ≠ 4
theorem me_signs_ok {b : Nat} : ∀ {s : Nat} {ops0 : List (Nat × Nat)} {o : List Int32}, me_ns b ops0 → b ≤ ops0.length → me_signs b (List.replicate s (45, 4) ++ ops0) o = (ops0, o ++ List.replicate s 5, s)
  | 0, [], o, h, _ => by simp [me_signs]
  | 0, (c, rk) :: t, o, h, hb => by
    simp only [List.replicate, List.nil_append, me_signs, List.append_nil]
    rw [if_neg]
    rintro ⟨h1, h2⟩
    rcases h with h | h
    · omega
    · exact h h2
  | s + 1, ops0, o, h, hb => by
    simp only [List.replicate_succ, List.cons_append, me_signs]
    rw [if_pos ⟨by simp; omega, trivial⟩, me_signs_ok h hb]
    simp
def me_fl (p : List (Nat × Nat)) : List Int32 := p.flatMap (fun x => [4, nI x.1])
theorem me_write_ok {b least : Nat} {ops1 : List (Nat × Nat)} (h1 : ops1 = [] ∨ ops1.length ≤ b ∨ ∃ c rk t, ops1 = (c, rk) :: t ∧ rk < least) : ∀ {p : List (Nat × Nat)} {o : List Int32}, (∀ x ∈ p, least ≤ x.2 ∧ x.2 ≠ 4) → b ≤ ops1.length → me_write b least (p ++ ops1) o = (ops1, o ++ me_fl p)
  | [], o, _, hb => by
    rw [List.nil_append]
    simp only [me_fl, List.flatMap_nil, List.append_nil]
    cases ops1 with
    | nil => rfl
    | cons x t =>
      obtain ⟨c, rk⟩ := x
      unfold me_write
      rw [if_neg]
      rintro ⟨a1, a2⟩
      rcases h1 with h | h | ⟨c', rk', t', h, h'⟩
      · cases h
      · simp at h; omega
      · cases h; omega
  | (c, rk) :: p, o, h, hb => by
    have hx := h (c, rk) (List.mem_cons_self)
    simp only [List.cons_append, me_write]
    rw [if_pos ⟨by simp; omega, hx.1⟩, if_neg hx.2, me_write_ok h1 (fun x hx => h x (List.mem_cons_of_mem _ hx)) hb]
    simp [me_fl]
/-- one value, with what stands before it -/
def me_U (L : Nat → Nat) (cols k : Nat) (u : sp_U) : Prop := ∀ (r i : Nat) (out : List Int32) (ops0 : List (Nat × Nat)) (b0 : Nat) (stt : List Nat) (s dep q : Nat), me_ns b0 ops0 → b0 ≤ ops0.length → dep + k = 5 → s ≤ dep → (match u r i with
  | .inl p => me_no L cols (i, out, List.replicate s (45, 4) ++ ops0, b0 :: stt, dep, true, q) p
  | .inr (c, j) => me_to L cols (i, out, List.replicate s (45, 4) ++ ops0, b0 :: stt, dep, true, q) (j, out ++ md c ++ List.replicate s 5, ops0, b0 :: stt, dep - s, false, q + sp_q c))
theorem md_mul {c r : Nat} (h : c ∈ tx 10) : md [(5 + (tx 10).idxOf c, r, 0)] = [4, nI c] ∧ me_rank c = 3 ∧ sp_q [(5 + (tx 10).idxOf c, r, 0)] = 0 := by
  have : c = 42 ∨ c = 47 ∨ c = 37 := by
    have : ∀ c ∈ tx 10, c = 42 ∨ c = 47 ∨ c = 37 := by decide
    exact this c h
  rcases this with rfl | rfl | rfl <;> exact ⟨rfl, rfl, rfl⟩
theorem md_add {c r : Nat} (h : c ∈ tx 11) : md [(3 + (tx 11).idxOf c, r, 0)] = [4, nI c] ∧ me_rank c = 2 ∧ sp_q [(3 + (tx 11).idxOf c, r, 0)] = 0 := by
  have : c = 43 ∨ c = 45 := by
    have : ∀ c ∈ tx 11, c = 43 ∨ c = 45 := by decide
    exact this c h
  rcases this with rfl | rfl <;> exact ⟨rfl, rfl, rfl⟩
theorem me_rank0 {c : Nat} (h1 : c ∉ tx 10) (h2 : c ∉ tx 11) : me_rank c = 0 := by
  have a1 : ¬ (c = 42 ∨ c = 47 ∨ c = 37) := by rintro (rfl | rfl | rfl) <;> exact h1 (by decide)
  have a2 : ¬ (c = 43 ∨ c = 45) := by rintro (rfl | rfl) <;> exact h2 (by decide)
  unfold me_rank
  rw [if_neg a2, if_neg a1]
variable {k : Nat} {u : sp_U}
theorem me_tl (hL : ∀ i, 48 ≤ i → L i = 0) (hu : me_U L cols k u) (hg : ∀ r i c j, u r i = .inr (c, j) → i < j) {r b1 dep : Nat} {stt : List Nat} {pa ops1 : List (Nat × Nat)} {out : List Int32} (hpa : ∀ x ∈ pa, x.2 = 2) (h1 : ops1.length = b1) (hd : dep + k = 5) : ∀ {f j q : Nat} {c : List nq_In} {pm : List (Nat × Nat)} {out2 : List Int32}, (∀ x ∈ pm, x.2 = 3) → out2 ++ me_fl pm = out ++ md c → 48 ≤ f + j → (match sp_loop L 10 5 u r f c j with
    | .inl p => me_no L cols (j, out2, pm ++ (pa ++ ops1), b1 :: stt, dep, false, q) p
    | .inr (c', j') => ∃ pm' out2' d, (∀ x ∈ pm', x.2 = 3) ∧ c' = c ++ d ∧ me_to L cols (j, out2, pm ++ (pa ++ ops1), b1 :: stt, dep, false, q) (j', out2', pm' ++ (pa ++ ops1), b1 :: stt, dep, false, q + sp_q d) ∧ out2' ++ me_fl pm' = out ++ md c' ∧ L j' ∉ tx 10)
  | 0, j, q, c, pm, out2, hm, ho, hf => by
    refine ⟨pm, out2, [], hm, (List.append_nil _).symm, me_to.rf, ho, ?_⟩
    rw [hL j (by omega)]
    decide
  | f + 1, j, q, c, pm, out2, hm, ho, hf => by
    unfold sp_loop
    by_cases hx : L j ∈ tx 10
    · rw [if_pos hx]
      obtain ⟨m1, m2, m3⟩ := md_mul (r := r) hx
      have hw : me_write b1 3 (pm ++ (pa ++ ops1)) out2 = (pa ++ ops1, out ++ md c) := by
        rw [me_write_ok (b := b1) (least := 3) (ops1 := pa ++ ops1) ?_ (fun x h => by have := hm x h; omega) (by simp; omega), ho]
        cases pa with
        | nil => exact .inr (.inl (by simp; omega))
        | cons x t =>
          obtain ⟨a, rk⟩ := x
          have := hpa _ (List.mem_cons_self)
          exact .inr (.inr ⟨a, rk, t ++ ops1, rfl, by simp at this; omega⟩)
      have hs : me_step L cols (j, out2, pm ++ (pa ++ ops1), b1 :: stt, dep, false, q) = .inr (j + 1, out ++ md c, (L j, 3) :: (pa ++ ops1), b1 :: stt, dep, true, q) := by
        unfold me_step
        simp only [Bool.false_eq_true, if_false, m2, List.headD_cons, hw]
        rfl
      have hU := hu (r + 1) (j + 1) (out ++ md c) ((L j, 3) :: (pa ++ ops1)) b1 stt 0 dep q (.inr (by decide)) (by simp; omega) hd (by omega)
      cases hq : u (r + 1) (j + 1) with
      | inl p =>
        rw [hq] at hU
        simp only at hU ⊢
        exact me_no.st hs hU
      | inr v =>
        obtain ⟨c2, j2⟩ := v
        rw [hq] at hU
        simp only [List.replicate, List.nil_append, List.append_nil, Nat.sub_zero] at hU ⊢
        have hl := hg _ _ _ _ hq
        have ih := me_tl hL hu hg (r := r) (stt := stt) (out := out) hpa h1 hd (f := f) (j := j2) (q := q + sp_q c2) (c := c ++ c2 ++ [(5 + (tx 10).idxOf (L j), r, 0)]) (pm := [(L j, 3)]) (out2 := out ++ md c ++ md c2) (fun x h => by rw [List.mem_singleton.1 h]) (by rw [md_app, md_app, m1]; simp [me_fl]) (by omega)
        split at ih
        · exact me_no.st hs (me_no.of hU ih)
        · obtain ⟨pm', out2', d, a1, a2, a3, a4, a5⟩ := ih
          refine ⟨pm', out2', c2 ++ [(5 + (tx 10).idxOf (L j), r, 0)] ++ d, a1, by rw [a2]; simp [List.append_assoc], me_to.st hs (me_to.tr hU ?_), a4, a5⟩
          rw [sp_q_app, sp_q_app, m3, Nat.add_zero, ← Nat.add_assoc]
          exact a3
    · rw [if_neg hx]
      exact ⟨pm, out2, [], hm, (List.append_nil _).symm, me_to.rf, ho, hx⟩
theorem me_term (hL : ∀ i, 48 ≤ i → L i = 0) (hu : me_U L cols k u) (hg : ∀ r i c j, u r i = .inr (c, j) → i < j) {r b1 dep i q : Nat} {stt : List Nat} {pa ops1 : List (Nat × Nat)} {out : List Int32} (hpa : pa = [] ∨ ∃ a, pa = [(a, 2)]) (h1 : ops1.length = b1) (hd : dep + k = 5) : (match sp_term L u r i with
    | .inl p => me_no L cols (i, out, pa ++ ops1, b1 :: stt, dep, true, q) p
    | .inr (c, j) => ∃ pm out2, (∀ x ∈ pm, x.2 = 3) ∧ me_to L cols (i, out, pa ++ ops1, b1 :: stt, dep, true, q) (j, out2, pm ++ (pa ++ ops1), b1 :: stt, dep, false, q + sp_q c) ∧ out2 ++ me_fl pm = out ++ md c ∧ L j ∉ tx 10) := by
  have hns : me_ns b1 (pa ++ ops1) := by
    rcases hpa with rfl | ⟨a, rfl⟩
    · cases ops1 with
      | nil => trivial
      | cons x t => exact .inl (by simp at h1; omega)
    · exact .inr (by decide)
  have hp2 : ∀ x ∈ pa, x.2 = 2 := by
    rcases hpa with rfl | ⟨a, rfl⟩
    · intro x h; cases h
    · intro x h; rw [List.mem_singleton.1 h]
  have hU := hu r i out (pa ++ ops1) b1 stt 0 dep q hns (by simp; omega) hd (by omega)
  unfold sp_term
  cases hq : u r i with
  | inl p =>
    rw [hq] at hU
    exact hU
  | inr v =>
    obtain ⟨c, j⟩ := v
    rw [hq] at hU
    simp only [List.replicate, List.nil_append, List.append_nil, Nat.sub_zero] at hU ⊢
    have ih := me_tl hL hu hg (r := r) (stt := stt) (out := out) hp2 h1 hd (f := 48) (j := j) (q := q + sp_q c) (c := c) (pm := []) (out2 := out ++ md c) (fun x h => by cases h) (by simp [me_fl]) (by omega)
    simp only [List.nil_append] at ih
    split at ih
    · exact me_no.of hU ih
    · obtain ⟨pm', out2', d, a1, a2, a3, a4, a5⟩ := ih
      refine ⟨pm', out2', a1, hU.tr ?_, a4, a5⟩
      rw [a2, sp_q_app, ← Nat.add_assoc]
      exact a3
theorem me_sl (hL : ∀ i, 48 ≤ i → L i = 0) (hu : me_U L cols k u) (hg : ∀ r i c j, u r i = .inr (c, j) → i < j) (hg2 : ∀ r i c j, sp_term L u r i = .inr (c, j) → i < j) {r b1 dep : Nat} {stt : List Nat} {ops1 : List (Nat × Nat)} {out : List Int32} (h1 : ops1.length = b1) (hd : dep + k = 5) : ∀ {f j q : Nat} {c : List nq_In} {pm pa : List (Nat × Nat)} {out2 : List Int32}, (∀ x ∈ pm, x.2 = 3) → (∀ x ∈ pa, x.2 = 2) → out2 ++ me_fl pm ++ me_fl pa = out ++ md c → 48 ≤ f + j → L j ∉ tx 10 → (match sp_loop L 11 3 (sp_term L u) r f c j with
    | .inl p => me_no L cols (j, out2, pm ++ (pa ++ ops1), b1 :: stt, dep, false, q) p
    | .inr (c', j') => ∃ ops2 out2' d, c' = c ++ d ∧ me_to L cols (j, out2, pm ++ (pa ++ ops1), b1 :: stt, dep, false, q) (j', out2', ops2, b1 :: stt, dep, false, q + sp_q d) ∧ me_write b1 1 ops2 out2' = (ops1, out ++ md c') ∧ me_rank (L j') = 0)
  | f, j, q, c, pm, pa, out2, hm, ha, ho, hf, hx => by
    have hw : ∀ least, least = 1 ∨ least = 2 → me_write b1 least (pm ++ (pa ++ ops1)) out2 = (ops1, out ++ md c) := by
      intro least hl
      rw [← List.append_assoc, me_write_ok (b := b1) (least := least) (ops1 := ops1) (.inr (.inl (by omega))) (fun x h => by
        rcases List.mem_append.1 h with h | h
        · have := hm x h; omega
        · have := ha x h; omega) (by omega)]
      rw [← ho]
      simp [me_fl]
    by_cases hy : L j ∈ tx 11
    · cases f with
      | zero => exact absurd hy (by rw [hL j (by omega)]; decide)
      | succ f =>
        unfold sp_loop
        rw [if_pos hy]
        obtain ⟨m1, m2, m3⟩ := md_add (r := r) hy
        have hs : me_step L cols (j, out2, pm ++ (pa ++ ops1), b1 :: stt, dep, false, q) = .inr (j + 1, out ++ md c, (L j, 2) :: ops1, b1 :: stt, dep, true, q) := by
          unfold me_step
          simp only [Bool.false_eq_true, if_false, m2, List.headD_cons, hw 2 (.inr rfl)]
          rfl
        have hT := me_term hL hu hg (r := r + 1) (i := j + 1) (q := q) (stt := stt) (out := out ++ md c) (pa := [(L j, 2)]) (.inr ⟨_, rfl⟩) h1 hd
        cases hq : sp_term L u (r + 1) (j + 1) with
        | inl p =>
          rw [hq] at hT
          exact me_no.st hs hT
        | inr v =>
          obtain ⟨c2, j2⟩ := v
          rw [hq] at hT
          obtain ⟨pm2, out3, t1, t2, t3, t4⟩ := hT
          simp only
          have hl := hg2 _ _ _ _ hq
          have ih := me_sl hL hu hg hg2 (r := r) (stt := stt) (out := out) h1 hd (f := f) (j := j2) (q := q + sp_q c2) (c := c ++ c2 ++ [(3 + (tx 11).idxOf (L j), r, 0)]) (pm := pm2) (pa := [(L j, 2)]) (out2 := out3) t1 (fun x h => by rw [List.mem_singleton.1 h]) (by rw [t3, md_app, md_app, m1]; simp [me_fl]) (by omega) t4
          split at ih
          · exact me_no.st hs (me_no.of t2 ih)
          · obtain ⟨ops2, out2', d, a2, a3, a4, a5⟩ := ih
            refine ⟨ops2, out2', c2 ++ [(3 + (tx 11).idxOf (L j), r, 0)] ++ d, by rw [a2]; simp [List.append_assoc], me_to.st hs (me_to.tr t2 ?_), a4, a5⟩
            rw [sp_q_app, sp_q_app, m3, Nat.add_zero, ← Nat.add_assoc]
            exact a3
    · have e : sp_loop L 11 3 (sp_term L u) r f c j = .inr (c, j) := by
        cases f with
        | zero => rfl
        | succ f => unfold sp_loop; rw [if_neg hy]
      rw [e]
      exact ⟨_, out2, [], (List.append_nil _).symm, me_to.rf, hw 1 (.inl rfl), me_rank0 hx hy⟩
theorem me_sum (hL : ∀ i, 48 ≤ i → L i = 0) (hu : me_U L cols k u) (hg : ∀ r i c j, u r i = .inr (c, j) → i < j) (hg2 : ∀ r i c j, sp_term L u r i = .inr (c, j) → i < j) {r b1 dep i q : Nat} {stt : List Nat} {ops1 : List (Nat × Nat)} {out : List Int32} (h1 : ops1.length = b1) (hd : dep + k = 5) : (match sp_sum L u r i with
    | .inl p => me_no L cols (i, out, ops1, b1 :: stt, dep, true, q) p
    | .inr (c, j) => ∃ ops2 out2, me_to L cols (i, out, ops1, b1 :: stt, dep, true, q) (j, out2, ops2, b1 :: stt, dep, false, q + sp_q c) ∧ me_write b1 1 ops2 out2 = (ops1, out ++ md c) ∧ me_rank (L j) = 0) := by
  have hT := me_term hL hu hg (r := r) (i := i) (q := q) (stt := stt) (out := out) (pa := []) (.inl rfl) h1 hd
  simp only [List.nil_append] at hT
  unfold sp_sum
  cases hq : sp_term L u r i with
  | inl p =>
    rw [hq] at hT
    exact hT
  | inr v =>
    obtain ⟨c, j⟩ := v
    rw [hq] at hT
    obtain ⟨pm2, out3, t1, t2, t3, t4⟩ := hT
    simp only
    have ih := me_sl hL hu hg hg2 (r := r) (stt := stt) (out := out) h1 hd (f := 48) (j := j) (q := q + sp_q c) (c := c) (pm := pm2) (pa := []) (out2 := out3) t1 (fun x h => by cases h) (by rw [t3]; simp [me_fl]) (by omega) t4
    simp only [List.nil_append] at ih
    split at ih
    · exact me_no.of t2 ih
    · obtain ⟨ops2, out2', d, a2, a3, a4, a5⟩ := ih
      refine ⟨ops2, out2', t2.tr ?_, a4, a5⟩
      rw [a2, sp_q_app, ← Nat.add_assoc]
      exact a3
theorem tx_col {cols c : Nat} (hc : cols = 0 ∨ cols = 3 ∨ cols = 4) (h : c ∈ tx cols) : c ≠ 63 ∧ 97 ≤ c ∧ c - 97 < 6 := by
  have := sp_col hc h
  exact ⟨by omega, by omega, by omega⟩
theorem me_unit_no {i : Nat} (h1 : L i ∉ tx 6) (h2 : L i ∉ tx cols) (h3 : L i ≠ 63) : me_unit L cols i = none := by
  unfold me_unit
  rw [if_neg h1, if_neg h3, if_neg h2]
theorem me_unit_h {N : Nat} (hL : ∀ i, L i ≠ 0 → i < N) (hL2 : ∀ i, 48 ≤ i → L i = 0) (hc : cols = 0 ∨ cols = 3 ∨ cols = 4) {k : Nat} (ih : ∀ k2, k = k2 + 1 → me_U L cols k2 (sp_unit L cols k2)) {r i : Nat} {out : List Int32} {ops0 : List (Nat × Nat)} {b0 : Nat} {stt : List Nat} {s dep q : Nat} (hns : me_ns b0 ops0) (hb : b0 ≤ ops0.length) (hd : dep + k = 5) (hs : s ≤ dep) : (match sp_unit L cols k r i with
    | .inl p => me_no L cols (i, out, List.replicate s (45, 4) ++ ops0, b0 :: stt, dep, true, q) p
    | .inr (c, j) => me_to L cols (i, out, List.replicate s (45, 4) ++ ops0, b0 :: stt, dep, true, q) (j, out ++ md c ++ List.replicate s 5, ops0, b0 :: stt, dep - s, false, q + sp_q c)) := by
  have one : ∀ tk i' dq c, me_unit L cols i = some (tk, i', dq) → md c = tk → sp_q c = dq → me_to L cols (i, out, List.replicate s (45, 4) ++ ops0, b0 :: stt, dep, true, q) (i', out ++ md c ++ List.replicate s 5, ops0, b0 :: stt, dep - s, false, q + sp_q c) := by
    intro tk i' dq c h1 h2 h3
    refine me_to.st ?_ me_to.rf
    unfold me_step
    simp only [if_true, h1, List.headD_cons, me_signs_ok hns hb]
    rw [h2, h3]
  unfold sp_unit
  by_cases a1 : L i ∈ tx 6
  · rw [if_pos a1]
    exact one [1, nI (sp_num L 4 i 0).1] (sp_num L 4 i 0).2 0 [(0, r, (sp_num L 4 i 0).1)] (by unfold me_unit; rw [if_pos a1]) rfl rfl
  rw [if_neg a1]
  by_cases a2 : L i ∈ tx cols
  · rw [if_pos a2]
    have h6 := tx_col hc a2
    refine one [2, nI (L i - 97)] _ 0 [(1, r, L i - 97)] (by unfold me_unit; rw [if_neg a1, if_neg h6.1, if_pos a2]) ?_ ?_
    · simp [md, md1, show L i - 97 ≠ 6 from by omega]
    · simp [sp_q, show L i - 97 ≠ 6 from by omega]
  rw [if_neg a2]
  by_cases a3 : L i = 63
  · rw [if_pos a3]
    exact one [3] _ 1 [(1, r, 6)] (by unfold me_unit; rw [if_neg a1, if_pos a3]) rfl rfl
  rw [if_neg a3]
  have hu := me_unit_no a1 a2 a3
  cases k with
  | zero =>
    refine ⟨_, (i, out, List.replicate s (45, 4) ++ ops0, b0 :: stt, dep, true, q), me_to.rf, ?_, rfl⟩
    unfold me_step
    simp only [if_true, hu]
    rw [if_pos (.inl (by omega))]
  | succ k =>
    simp only
    have hU := ih k rfl
    by_cases a4 : L i = 45
    · rw [if_pos a4]
      have hst : me_step L cols (i, out, List.replicate s (45, 4) ++ ops0, b0 :: stt, dep, true, q) = .inr (i + 1, out, List.replicate (s + 1) (45, 4) ++ ops0, b0 :: stt, dep + 1, true, q) := by
        unfold me_step
        simp only [if_true, hu]
        rw [if_neg (by omega), if_pos a4]
        rfl
      have h := hU r (i + 1) out ops0 b0 stt (s + 1) (dep + 1) q hns hb (by omega) (by omega)
      cases hq : sp_unit L cols k r (i + 1) with
      | inl p =>
        rw [hq] at h
        exact me_no.st hst h
      | inr v =>
        obtain ⟨c, j⟩ := v
        rw [hq] at h
        refine me_to.st hst ?_
        rw [md_app, sp_q_app, show dep - s = dep + 1 - (s + 1) from by omega]
        simp only [List.replicate_succ] at h
        simp only [List.append_assoc] at h ⊢
        exact h
    rw [if_neg a4]
    by_cases a5 : L i = 40
    · rw [if_pos a5]
      have hst : me_step L cols (i, out, List.replicate s (45, 4) ++ ops0, b0 :: stt, dep, true, q) = .inr (i + 1, out, List.replicate s (45, 4) ++ ops0, (List.replicate s (45, 4) ++ ops0).length :: b0 :: stt, dep + 1, true, q) := by
        unfold me_step
        simp only [if_true, hu]
        rw [if_neg (by omega), if_neg a4]
      have h := me_sum hL2 hU (fun r i c j e => (sp_unit_g hL hc k r i c j e).2.1) (fun r i c j e => (sp_term_g (sp_unit_g hL hc k) r i c j e).2.1) (r := r) (dep := dep + 1) (i := i + 1) (q := q) (stt := b0 :: stt) (ops1 := List.replicate s (45, 4) ++ ops0) (out := out) rfl (by omega)
      cases hq : sp_sum L (sp_unit L cols k) r (i + 1) with
      | inl p =>
        rw [hq] at h
        exact me_no.st hst h
      | inr v =>
        obtain ⟨c, j⟩ := v
        rw [hq] at h
        obtain ⟨ops2, out2, b1, b2, b3⟩ := h
        simp only
        by_cases a6 : L j = 41
        · rw [if_pos a6]
          refine me_to.st hst (b1.tr (me_to.st ?_ me_to.rf))
          unfold me_step
          simp only [Bool.false_eq_true, if_false, List.headD_cons, b2, me_signs_ok hns hb, a6]
          simp [show me_rank 41 = 0 from rfl]
        · rw [if_neg a6]
          refine me_no.st hst (me_no.of b1 ⟨_, (j, out ++ md c, List.replicate s (45, 4) ++ ops0, (List.replicate s (45, 4) ++ ops0).length :: b0 :: stt, dep + 1, false, q + sp_q c), me_to.rf, ?_, rfl⟩)
          unfold me_step
          simp only [Bool.false_eq_true, if_false, b3, List.headD_cons, b2, a6]
          simp
    rw [if_neg a5]
    refine ⟨_, (i, out, List.replicate s (45, 4) ++ ops0, b0 :: stt, dep, true, q), me_to.rf, ?_, rfl⟩
    unfold me_step
    simp only [if_true, hu]
    rw [if_pos (.inr ⟨a4, a5⟩)]
theorem me_unit_ok {N : Nat} (hN : N ≤ 48) (hL : ∀ i, L i ≠ 0 → i < N) (hc : cols = 0 ∨ cols = 3 ∨ cols = 4) (k : Nat) : me_U L cols k (sp_unit L cols k) := by
  have hL2 : ∀ i, 48 ≤ i → L i = 0 := fun i hi => Nat.eq_zero_of_not_pos (fun h => by have := hL i (by omega); omega)
  induction k with
  | zero =>
    intro r i out ops0 b0 stt s dep q hns hb hd hs
    exact me_unit_h hL hL2 hc (fun k2 h => absurd h (by omega)) hns hb hd hs
  | succ k ih =>
    intro r i out ops0 b0 stt s dep q hns hb hd hs
    exact me_unit_h hL hL2 hc (fun k2 h => by cases h; exact ih) hns hb hd hs
theorem me_expr {N : Nat} (hN : N ≤ 48) (hL : ∀ i, L i ≠ 0 → i < N) (hc : cols = 0 ∨ cols = 3 ∨ cols = 4) {r i q : Nat} {out : List Int32} : (match sp_expr L cols r i with
    | .inl p => me_no L cols (i, out, [], [0], 1, true, q) p
    | .inr (c, j) => ∃ s s', me_to L cols (i, out, [], [0], 1, true, q) s ∧ me_step L cols s = .inl (true, s') ∧ s'.1 = j ∧ s'.2.1 = out ++ md c ++ [0] ∧ s'.2.2.2.2.2.2 = q + sp_q c) := by
  have hL2 : ∀ i, 48 ≤ i → L i = 0 := fun i hi => Nat.eq_zero_of_not_pos (fun h => by have := hL i (by omega); omega)
  have h := me_sum hL2 (me_unit_ok hN hL hc 4) (fun r i c j e => (sp_unit_g hL hc 4 r i c j e).2.1) (fun r i c j e => (sp_term_g (sp_unit_g hL hc 4) r i c j e).2.1) (r := r) (b1 := 0) (dep := 1) (i := i) (q := q) (stt := []) (ops1 := []) (out := out) rfl rfl
  unfold sp_expr
  split at h
  · exact h
  · rename_i c j e
    obtain ⟨ops2, out2, a1, a2, a3⟩ := h
    refine ⟨_, (j, out ++ md c ++ [0], [], [0], 1, false, q + sp_q c), a1, ?_, rfl, rfl, rfl⟩
    unfold me_step
    simp only [Bool.false_eq_true, if_false, a3, List.headD_cons, a2]
    rfl
end ME
/-! the room that the other reader needs -/
def me_sg (ops : List (Nat × Nat)) : Nat := ops.countP (fun x => x.2 == 4)
def me_I (N K : Nat) : me_st → Prop
  | (i, out, ops, stt, dep, _, q) => i ≤ N ∧ ops.length ≤ i ∧ stt ≠ [] ∧ (∀ x ∈ stt, x ≤ 48) ∧ stt.length + me_sg ops ≤ dep ∧ dep ≤ 5 ∧ out.length + 2 * ops.length ≤ 2 * i + K ∧ (∀ x ∈ ops, x.1 < 128 ∧ x.2 ≤ 4) ∧ q ≤ i
theorem me_signs_i {fr : Nat} : ∀ {ops : List (Nat × Nat)} {o : List Int32}, (me_signs fr ops o).1.length ≤ ops.length ∧ me_sg (me_signs fr ops o).1 + (me_signs fr ops o).2.2 = me_sg ops ∧ (me_signs fr ops o).2.1.length + 2 * (me_signs fr ops o).1.length ≤ o.length + 2 * ops.length ∧ ∀ x ∈ (me_signs fr ops o).1, x ∈ ops
  | [], o => ⟨Nat.le_refl _, rfl, Nat.le_refl _, fun x h => h⟩
  | (c, rk) :: s, o => by
    unfold me_signs
    split
    · rename_i h
      obtain ⟨h1, h2⟩ := h
      obtain ⟨a1, a2, a3, a4⟩ := me_signs_i (fr := fr) (ops := s) (o := o ++ [5])
      simp only [List.length_append, List.length_cons, List.length_nil] at a3 ⊢
      refine ⟨by omega, ?_, by omega, fun x h => List.mem_cons_of_mem _ (a4 x h)⟩
      have : me_sg ((c, rk) :: s) = me_sg s + 1 := by simp [me_sg, h2]
      omega
    · exact ⟨Nat.le_refl _, rfl, Nat.le_refl _, fun x h => h⟩
theorem me_write_i {fr least : Nat} : ∀ {ops : List (Nat × Nat)} {o : List Int32}, (me_write fr least ops o).1.length ≤ ops.length ∧ me_sg (me_write fr least ops o).1 ≤ me_sg ops ∧ (me_write fr least ops o).2.length + 2 * (me_write fr least ops o).1.length ≤ o.length + 2 * ops.length ∧ ∀ x ∈ (me_write fr least ops o).1, x ∈ ops
  | [], o => ⟨Nat.le_refl _, Nat.le_refl _, Nat.le_refl _, fun x h => h⟩
  | (c, rk) :: s, o => by
    unfold me_write
    split
    · obtain ⟨a1, a2, a3, a4⟩ := me_write_i (fr := fr) (least := least) (ops := s) (o := o ++ (if rk = 4 then [5] else [4, nI c]))
      have hl : (if rk = 4 then ([5] : List Int32) else [4, nI c]).length ≤ 2 := by split <;> simp
      simp only [List.length_append, List.length_cons] at a3 ⊢
      refine ⟨by omega, ?_, by omega, fun x h => List.mem_cons_of_mem _ (a4 x h)⟩
      have : me_sg s ≤ me_sg ((c, rk) :: s) := by simp [me_sg, List.countP_cons]
      omega
    · exact ⟨Nat.le_refl _, Nat.le_refl _, Nat.le_refl _, fun x h => h⟩
theorem me_unit_i {L : Nat → Nat} {cols N i i' dq : Nat} {tk : List Int32} (hL : ∀ i, L i ≠ 0 → i < N) (h : me_unit L cols i = some (tk, i', dq)) : i < i' ∧ i' ≤ N ∧ tk.length ≤ 2 ∧ dq ≤ 1 := by
  unfold me_unit at h
  split at h
  · rename_i hm
    cases h
    have h0 := hL i (tx_n0 hm)
    have h2 := sp_num_c hL (f := 3) (i := i + 1) (v := 0 * 10 + (L i - 48)) (M := 100) (by omega) (by have := sp_dig hm; omega)
    have h3 : sp_num L 4 i 0 = sp_num L 3 (i + 1) (0 * 10 + (L i - 48)) := by conv => lhs; unfold sp_num; rw [if_pos hm]
    rw [h3]
    exact ⟨by omega, h2.2.2, by simp, by omega⟩
  · split at h
    · rename_i hm
      cases h
      have h0 := hL i (by omega)
      exact ⟨by omega, h0, by simp, by omega⟩
    · split at h
      · rename_i hm
        cases h
        have h0 := hL i (tx_n0 hm)
        exact ⟨by omega, h0, by simp, by omega⟩
      · cases h
theorem me_rank_le (c : Nat) : me_rank c ≤ 3 := by
  unfold me_rank
  split
  · omega
  · split <;> omega
theorem me_I.st {L : Nat → Nat} {cols N K : Nat} (hN : N ≤ 48) (hL : ∀ i, L i ≠ 0 → i < N) (hL7 : ∀ i, L i < 128) {s s' : me_st} (h : me_I N K s) (e : me_step L cols s = .inr s') : me_I N K s' := by
  obtain ⟨i, out, ops, stt, dep, od, q⟩ := s
  obtain ⟨h1, h2, h3, h4, h5, h6, h7, h8, h9⟩ := h
  unfold me_step at e
  simp only at e
  split at e
  · split at e
    · rename_i tk i' dq hu
      cases e
      obtain ⟨u1, u2, u3, u4⟩ := me_unit_i hL hu
      obtain ⟨a1, a2, a3, a4⟩ := me_signs_i (fr := stt.headD 0) (ops := ops) (o := out ++ tk)
      rw [List.length_append] at a3
      exact ⟨u2, by omega, h3, h4, by omega, by omega, by omega, fun x hx => h8 x (a4 x hx), by omega⟩
    · split at e
      · cases e
      · rename_i hd
        have h0 := hL i (by omega)
        split at e
        · cases e
          refine ⟨by omega, by simp; omega, h3, h4, ?_, by omega, by simp; omega, ?_, by omega⟩
          · have : me_sg ((45, 4) :: ops) = me_sg ops + 1 := by simp [me_sg]
            omega
          · intro x hx
            rcases List.mem_cons.1 hx with rfl | hx
            · exact ⟨by decide, by decide⟩
            · exact h8 x hx
        · cases e
          refine ⟨by omega, by omega, by simp, ?_, by simp; omega, by omega, by omega, h8, by omega⟩
          intro x hx
          rcases List.mem_cons.1 hx with rfl | hx
          · omega
          · exact h4 x hx
  · split at e
    · rename_i hr
      cases e
      have h0 := hL i (by intro h; rw [h] at hr; exact absurd hr (by decide))
      obtain ⟨a1, a2, a3, a4⟩ := me_write_i (fr := stt.headD 0) (least := me_rank (L i)) (ops := ops) (o := out)
      have hk := me_rank_le (L i)
      refine ⟨by omega, by simp only [List.length_cons]; omega, h3, h4, ?_, h6, by simp only [List.length_cons]; omega, ?_, by omega⟩
      · have : me_sg ((L i, me_rank (L i)) :: (me_write (stt.headD 0) (me_rank (L i)) ops out).1) = me_sg (me_write (stt.headD 0) (me_rank (L i)) ops out).1 := by
          simp only [me_sg, List.countP_cons]
          rw [if_neg (by simp; omega), Nat.add_zero]
        omega
      · intro x hx
        rcases List.mem_cons.1 hx with rfl | hx
        · exact ⟨hL7 i, by simp only; omega⟩
        · exact h8 x (a4 x hx)
    · split at e
      · rename_i b1 b2 stt2
        split at e
        · rename_i h41
          cases e
          have h0 := hL i (by omega)
          obtain ⟨a1, a2, a3, a4⟩ := me_write_i (fr := b1) (least := 1) (ops := ops) (o := out)
          obtain ⟨c1, c2, c3, c4⟩ := me_signs_i (fr := b2) (ops := (me_write b1 1 ops out).1) (o := (me_write b1 1 ops out).2)
          simp only [List.headD_cons, List.length_cons] at h5 ⊢
          refine ⟨by omega, by omega, by simp, fun x hx => h4 x (List.mem_cons_of_mem _ hx), by simp only [List.length_cons]; omega, by omega, by omega, fun x hx => h8 x (a4 x (c4 x hx)), by omega⟩
        · cases e
      · cases e
/-! the comparisons' code, as it is written from left to right -/
def rd_k (w : List nq_In × Nat) (x : sp_K) : List nq_In × Nat :=
  if x.2.2.2 then (cd_j (w.1 ++ x.1 ++ x.2.2.1 ++ [(8 + x.2.1, 7, 0)] ++ [(11, 0, 0)]) w.2, w.1.length + x.1.length + x.2.2.1.length + 2)
  else (w.1 ++ x.1 ++ x.2.2.1 ++ [(8 + x.2.1, 7, 0)], w.2)
def rd_cs (w : List nq_In × Nat) (cs : List sp_K) : List nq_In × Nat := cs.foldl rd_k w
def rd_p (n : Nat) (x : nq_In) : nq_In := if 8 ≤ x.1 ∧ x.1 ≤ 10 then (x.1, x.2.1, n) else x
theorem cd_j_p (C : List nq_In) (a : Nat) : cd_j C a = C.take a ++ (C.drop a).map (rd_p C.length) := rfl
theorem rd_p_lt {n : Nat} {c : List nq_In} (h : ∀ x ∈ c, x.1 < 8) : c.map (rd_p n) = c := by
  have : ∀ x ∈ c, rd_p n x = x := fun x hx => by
    unfold rd_p
    rw [if_neg]
    have := h x hx
    omega
  exact (List.map_congr_left this).trans (List.map_id c)
theorem cd_j_len (C : List nq_In) (a : Nat) : (cd_j C a).length = C.length := by
  simp only [cd_j, List.length_append, List.length_take, List.length_map, List.length_drop]
  omega
theorem rd_cs_eq {nc : Nat} : ∀ {cs : List sp_K} {C : List nq_In} {a : Nat} {en : Bool}, a ≤ C.length → (en = true → a = C.length) → (∀ x ∈ cs, sp_kw nc x) → sp_we en cs → (rd_cs (C, a) cs).1 ++ [(12, 0, 0)] = C.take a ++ (C.drop a).map (rd_p (mc_ct C.length cs)) ++ mc_cc C.length cs
  | [], C, a, en, h1, h2, h3, h4 => by
    rw [h2 h4]
    simp [rd_cs, mc_cc]
  | (c1, s, c2, en) :: rest, C, a, en0, h1, h2, h3, h4 => by
    obtain ⟨w1, w2, w3⟩ := h3 _ (List.mem_cons_self)
    simp only at w1 w2 w3
    have p1 : ∀ n, c1.map (rd_p n) = c1 := fun n => rd_p_lt (fun x hx => (wf_op w1 x hx).1)
    have p2 : ∀ n, c2.map (rd_p n) = c2 := fun n => rd_p_lt (fun x hx => (wf_op w3 x hx).1)
    have h3' : ∀ x ∈ rest, sp_kw nc x := fun x hx => h3 x (List.mem_cons_of_mem _ hx)
    have pg : ∀ n, rd_p n (8 + s, 7, 0) = (8 + s, 7, n) := fun n => by unfold rd_p; rw [if_pos (by constructor <;> (simp only; omega))]
    cases en with
    | true =>
      have e : rd_cs (C, a) ((c1, s, c2, true) :: rest) = rd_cs (cd_j (C ++ c1 ++ c2 ++ [(8 + s, 7, 0)] ++ [(11, 0, 0)]) a, C.length + c1.length + c2.length + 2) rest := rfl
      have hl : (cd_j (C ++ c1 ++ c2 ++ [(8 + s, 7, 0)] ++ [(11, 0, 0)]) a).length = C.length + c1.length + c2.length + 2 := by rw [cd_j_len]; simp only [List.length_append, List.length_cons, List.length_nil]
      rw [e, rd_cs_eq (nc := nc) (en := true) (by omega) (fun _ => hl.symm) h3' h4, hl]
      rw [List.take_of_length_le (by omega), List.drop_of_length_le (by omega)]
      have hl2 : (C ++ c1 ++ c2 ++ [(8 + s, 7, 0)] ++ [(11, 0, 0)]).length = C.length + c1.length + c2.length + 2 := by simp only [List.length_append, List.length_cons, List.length_nil]
      rw [cd_j_p, hl2]
      have t1 : (C ++ c1 ++ c2 ++ [(8 + s, 7, 0)] ++ [(11, 0, 0)]).take a = C.take a := by
        simp only [List.append_assoc]
        rw [List.take_append_of_le_length h1]
      have t2 : (C ++ c1 ++ c2 ++ [(8 + s, 7, 0)] ++ [(11, 0, 0)]).drop a = C.drop a ++ (c1 ++ (c2 ++ ([(8 + s, 7, 0)] ++ [(11, 0, 0)]))) := by
        simp only [List.append_assoc]
        rw [List.drop_append_of_le_length h1]
      rw [t1, t2]
      simp only [List.map_append, List.map_cons, List.map_nil, p1, p2, pg, mc_cc, mc_ct, if_true, List.append_nil, List.append_assoc]
      rw [show rd_p (C.length + c1.length + c2.length + 2) (11, 0, 0) = (11, 0, 0) from by unfold rd_p; rw [if_neg (by simp)]]
    | false =>
      have e : rd_cs (C, a) ((c1, s, c2, false) :: rest) = rd_cs (C ++ c1 ++ c2 ++ [(8 + s, 7, 0)], a) rest := rfl
      have hl : (C ++ c1 ++ c2 ++ [(8 + s, 7, 0)]).length = C.length + c1.length + c2.length + 1 := by simp only [List.length_append, List.length_cons, List.length_nil]
      rw [e, rd_cs_eq (nc := nc) (en := false) (by omega) (fun h => by cases h) h3' h4, hl]
      have t1 : (C ++ c1 ++ c2 ++ [(8 + s, 7, 0)]).take a = C.take a := by
        simp only [List.append_assoc]
        rw [List.take_append_of_le_length h1]
      have t2 : (C ++ c1 ++ c2 ++ [(8 + s, 7, 0)]).drop a = C.drop a ++ (c1 ++ (c2 ++ [(8 + s, 7, 0)])) := by
        simp only [List.append_assoc]
        rw [List.drop_append_of_le_length h1]
      rw [t1, t2]
      simp only [List.map_append, List.map_cons, List.map_nil, p1, p2, pg, mc_cc, mc_ct, Bool.false_eq_true, if_false, List.append_nil, List.append_assoc]
theorem rd_cs_all {nc : Nat} {cs : List sp_K} {C : List nq_In} (h3 : ∀ x ∈ cs, sp_kw nc x) (h4 : sp_we true cs) : (rd_cs (C, C.length) cs).1 ++ [(12, 0, 0)] = C ++ mc_cc C.length cs := by
  rw [rd_cs_eq (nc := nc) (Nat.le_refl _) (fun _ => rfl) h3 h4]
  simp
/-! the values -/
def sp_wv (nc b : Nat) : List (List nq_In) → Prop
  | [] => True
  | c :: rest => wf nc b c b (b + 1) ∧ sp_wv nc (b + 1) rest
def sx_vs (b : Nat) (ρ : Nat → Int32) : List (List nq_In) → Option (List Int32)
  | [] => some []
  | c :: rest => match vl c b ρ with
    | none => none
    | some x => match sx_vs (b + 1) ρ rest with
      | none => none
      | some xs => some (x :: xs)
theorem sp_wv_app {nc : Nat} : ∀ {vs : List (List nq_In)} {b : Nat} {c : List nq_In}, sp_wv nc b vs → wf nc (b + vs.length) c (b + vs.length) (b + vs.length + 1) → sp_wv nc b (vs ++ [c])
  | [], b, c, _, h => ⟨h, trivial⟩
  | v :: vs, b, c, ⟨h1, h2⟩, h => ⟨h1, sp_wv_app h2 (by simp only [List.length_cons] at h; rw [show b + 1 + vs.length = b + (vs.length + 1) from by omega]; exact h)⟩
theorem ev_vs {nc : Nat} (hn : nc ≤ 6) {ρ : Nat → Int32} : ∀ {vs : List (List nq_In)} {b : Nat} {R : Nat → Int32}, 7 ≤ b → sp_wv nc b vs → (∀ i, i < nc → R i = ρ i) → R 6 = ρ 6 → match sx_vs b ρ vs with
    | none => ev vs.flatten R = none
    | some xs => ∃ S, ev vs.flatten R = some S ∧ xs.length = vs.length ∧ (∀ j x, xs[j]? = some x → S (b + j) = x) ∧ ∀ i, i < b → S i = R i
  | [], b, R, hb, _, g1, g2 => ⟨R, rfl, rfl, fun j x h => by simp at h, fun _ _ => rfl⟩
  | c :: vs, b, R, hb, ⟨w1, w2⟩, g1, g2 => by
    have v1 := vl_ag hn hb w1 g1 g2
    unfold sx_vs
    rw [List.flatten_cons, ev_app]
    cases e1 : ev c R with
    | none =>
      rw [e1] at v1
      simp only at v1
      rw [v1]
    | some S1 =>
      rw [e1] at v1
      obtain ⟨v1, k1⟩ := v1
      rw [v1]
      have ih := ev_vs hn (ρ := ρ) (vs := vs) (b := b + 1) (R := S1) (by omega) w2 (fun i hi => by rw [k1 i (by omega)]; exact g1 i hi) (by rw [k1 6 (by omega)]; exact g2)
      simp only
      cases e2 : sx_vs (b + 1) ρ vs with
      | none =>
        rw [e2] at ih
        exact ih
      | some xs =>
        rw [e2] at ih
        obtain ⟨S, a1, a2, a3, a4⟩ := ih
        refine ⟨S, a1, by simp [a2], fun j x h => ?_, fun i hi => by rw [a4 i (by omega), k1 i hi]⟩
        cases j with
        | zero =>
          simp at h
          rw [Nat.add_zero, a4 b (by omega), h]
        | succ j =>
          simp at h
          rw [show b + (j + 1) = b + 1 + j from by omega]
          exact a3 j x h
/-! a statement's code -/
def cl_L (s : sp_St) : List nq_In := s.2.2.2.1.flatten ++ [(11, 0, 0)] ++ (if s.2.2.2.2.2.1 = [] then [] else mc_cc (s.2.2.2.1.flatten.length + 1) s.2.2.2.2.2.1)
def cl_q (s : sp_St) : Nat := sp_q (s.2.2.2.1.flatten ++ s.2.2.2.2.2.1.flatMap (fun k => k.1 ++ k.2.2.1))
theorem sp_wv_op {nc : Nat} : ∀ {vs : List (List nq_In)} {b : Nat}, sp_wv nc b vs → ∀ x ∈ vs.flatten, x.1 < 8
  | [], _, _, x, hx => by cases hx
  | c :: vs, b, ⟨h1, h2⟩, x, hx => by
    rw [List.flatten_cons] at hx
    rcases List.mem_append.1 hx with hx | hx
    · exact (wf_op h1 x hx).1
    · exact sp_wv_op h2 x hx
/-- the values are worked out -/
theorem cl_work {nc : Nat} (hn : nc ≤ 6) {s : sp_St} {ρ R : Nat → Int32} {f : Nat} (hw : sp_wv nc 7 s.2.2.2.1) (hf : (cl_L s).length ≤ f) (g1 : ∀ i, i < nc → R i = ρ i) (g2 : R 6 = ρ 6) : match sx_vs 7 ρ s.2.2.2.1 with
    | none => (mc_run (cl_L s) f 0 R).1 = none
    | some xs => (mc_run (cl_L s) f 0 R).1 = some true ∧ xs.length = s.2.2.2.1.length ∧ (∀ j x, xs[j]? = some x → (mc_run (cl_L s) f 0 R).2 (7 + j) = x) ∧ ∀ i, i < 7 → (mc_run (cl_L s) f 0 R).2 i = R i := by
  have h := ev_vs hn (b := 7) (Nat.le_refl _) hw g1 g2
  have hl : (cl_L s).length = s.2.2.2.1.flatten.length + 1 + (if s.2.2.2.2.2.1 = [] then [] else mc_cc (s.2.2.2.1.flatten.length + 1) s.2.2.2.2.2.1).length := by
    unfold cl_L
    rw [List.length_append, List.length_append]
    rfl
  have r := mc_run_ev (F := cl_L s) (c := s.2.2.2.1.flatten) (pre := []) (post := [(11, 0, 0)] ++ (if s.2.2.2.2.2.1 = [] then [] else mc_cc (s.2.2.2.1.flatten.length + 1) s.2.2.2.2.2.1)) (f := f) (R := R) (by unfold cl_L; rw [List.nil_append, List.append_assoc]) (sp_wv_op hw) (by omega)
  cases e : sx_vs 7 ρ s.2.2.2.1 with
  | none =>
    rw [e] at h
    simp only at h
    rw [h] at r
    exact r
  | some xs =>
    rw [e] at h
    obtain ⟨S, a1, a2, a3, a4⟩ := h
    rw [a1] at r
    simp only [List.length_nil, Nat.zero_add] at r
    simp only
    rw [r]
    have hx : (cl_L s)[s.2.2.2.1.flatten.length]? = some (11, 0, 0) := by
      unfold cl_L
      rw [List.append_assoc, List.getElem?_append_right (Nat.le_refl _), Nat.sub_self]
      rfl
    cases hf2 : f - s.2.2.2.1.flatten.length with
    | zero => exact absurd hf2 (by omega)
    | succ f2 =>
      unfold mc_run
      rw [hx]
      exact ⟨rfl, a2, a3, a4⟩
def sx_m (cs : List sp_K) (ρ : Nat → Int32) : Option Bool := if cs = [] then some true else sx_meet ρ true cs
theorem cl_test {nc : Nat} (hn : nc ≤ 6) {s : sp_St} {ρ R : Nat → Int32} {f : Nat} (hc : s.2.2.2.2.2.1 ≠ []) (hk : ∀ x ∈ s.2.2.2.2.2.1, sp_kw nc x) (he : sp_we true s.2.2.2.2.2.1) (hf : (cl_L s).length ≤ f) (g1 : ∀ i, i < nc → R i = ρ i) (g2 : R 6 = ρ 6) : mc_an (cl_L s) f (s.2.2.2.1.flatten.length + 1) R (sx_meet ρ true s.2.2.2.2.2.1) := by
  have h := (mc_run_cc hn (F := cl_L s) (ρ := ρ) (cs := s.2.2.2.2.2.1) (pre := s.2.2.2.1.flatten ++ [(11, 0, 0)]) (f := f) (R := R) (by unfold cl_L; rw [if_neg hc, List.length_append]; rfl) hk he (by omega) g1 g2).1
  rw [List.length_append] at h
  exact h
/-! what holds of a statement that was read -/
def sp_b (c : List nq_In) : Prop := ∀ x ∈ c, x.2.1 < 20 ∧ (3 ≤ x.1 → x.2.1 + 1 < 20)
theorem sp_b_app {c c2 : List nq_In} (h : sp_b c) (h2 : sp_b c2) : sp_b (c ++ c2) := fun x hx => by
  rcases List.mem_append.1 hx with hx | hx
  · exact h x hx
  · exact h2 x hx
def sp_kl : List sp_K → Nat
  | [] => 0
  | x :: r => x.1.length + x.2.2.1.length + (if x.2.2.2 then 2 else 1) + sp_kl r
theorem mc_cc_len : ∀ {cs : List sp_K} {off : Nat}, (mc_cc off cs).length = sp_kl cs + 1
  | [], off => rfl
  | (c1, s, c2, en) :: rest, off => by
    simp only [mc_cc, sp_kl, List.length_append, List.length_cons, List.length_nil, mc_cc_len (cs := rest)]
    cases en <;> simp <;> omega
section SQ
variable {L : Nat → Nat} {N cols : Nat}
theorem sp_expr_b {r i j : Nat} {c : List nq_In} (hL : ∀ i, L i ≠ 0 → i < N) (hc : cols = 0 ∨ cols = 3 ∨ cols = 4) (hr : r ≤ 9) (e : sp_expr L cols r i = .inr (c, j)) : i + c.length ≤ j ∧ i < j ∧ j ≤ N ∧ wf (sp_nc cols) r c r (r + 1) ∧ sp_b c := by
  obtain ⟨a1, a2, a3, a4, a5⟩ := sp_expr_g hL hc _ _ _ _ e
  exact ⟨a1, a2, a3, a4, fun x hx => by have := a5 x hx; exact ⟨by omega, fun h => by have := this.2 h; omega⟩⟩
theorem sp_conds_ok (hN : N ≤ 48) (hL : ∀ i, L i ≠ 0 → i < N) (hc : cols = 0 ∨ cols = 3 ∨ cols = 4) : ∀ {f i j : Nat} {acc cs : List sp_K}, i ≤ N → 49 ≤ f + i → sp_conds L cols f acc i = .inr (cs, j) → ∃ ds, cs = acc ++ ds ∧ ds ≠ [] ∧ (∀ x ∈ ds, sp_kw (sp_nc cols) x ∧ sp_b (x.1 ++ x.2.2.1)) ∧ (∀ en, sp_we en ds) ∧ i + sp_kl ds ≤ j ∧ i + 4 * ds.length ≤ j ∧ j ≤ N
  | 0, i, j, acc, cs, hi, hf, e => absurd hf (by omega)
  | f + 1, i, j, acc, cs, hi, hf, e => by
    unfold sp_conds at e
    split at e
    · cases e
    · rename_i c1 j1 e1
      obtain ⟨a1, a2, a3, a4, a5⟩ := sp_expr_b hL hc (by omega) e1
      split at e
      · rename_i hs
        split at e
        · cases e
        · rename_i c2 j2 e2
          obtain ⟨b1, b2, b3, b4, b5⟩ := sp_expr_b hL hc (by omega) e2
          have hs2 : (tx 17).idxOf (L j1) ≤ 2 := by
            have := List.idxOf_lt_length_iff.2 hs
            have e : (tx 17).length = 3 := rfl
            omega
          split at e
          · rename_i hm
            have h0 := hL j2 (tx_n0 hm)
            obtain ⟨ds, d1, d2, d3, d4, d5, d6, d7⟩ := sp_conds_ok hN hL hc (f := f) (i := j2 + 1) (by omega) (by omega) e
            refine ⟨_ :: ds, by rw [d1, List.append_assoc]; rfl, by simp, ?_, fun en => d4 _, ?_, ?_, d7⟩
            · intro x hx
              rcases List.mem_cons.1 hx with rfl | hx
              · exact ⟨⟨a4, hs2, b4⟩, sp_b_app a5 b5⟩
              · exact d3 x hx
            · have : (if decide (L j2 ≠ 38) = true then 2 else 1) ≤ 2 := by split <;> omega
              simp only [sp_kl]
              omega
            · simp only [List.length_cons]
              omega
          · split at e
            · rename_i hm
              cases e
              have h0 := hL j2 (by omega)
              refine ⟨[_], rfl, by simp, ?_, fun en => rfl, ?_, ?_, by omega⟩
              · intro x hx
                rcases List.mem_singleton.1 hx with rfl
                exact ⟨⟨a4, hs2, b4⟩, sp_b_app a5 b5⟩
              · simp only [sp_kl, if_true]
                omega
              · simp only [List.length_cons, List.length_nil]
                omega
            · cases e
      · cases e
theorem sp_list_ok (hL : ∀ i, L i ≠ 0 → i < N) (hc : cols = 0 ∨ cols = 3 ∨ cols = 4) : ∀ {f i j : Nat} {acc vs : List (List nq_In)}, f + 1 + acc.length ≤ 3 → sp_wv (sp_nc cols) 7 acc → sp_b acc.flatten → sp_list L cols (f + 1) acc i = .inr (vs, j) → acc.length < vs.length ∧ vs.length ≤ f + 1 + acc.length ∧ sp_wv (sp_nc cols) 7 vs ∧ sp_b vs.flatten ∧ i + vs.flatten.length ≤ j + acc.flatten.length ∧ i < j ∧ j ≤ N
  | f, i, j, acc, vs, h3, hw, hb, e => by
    unfold sp_list at e
    split at e
    · cases e
    · rename_i c j1 e1
      obtain ⟨a1, a2, a3, a4, a5⟩ := sp_expr_b hL hc (by omega) e1
      have w' := sp_wv_app hw a4
      have b' : sp_b (acc ++ [c]).flatten := by rw [List.flatten_append]; exact sp_b_app hb (by simpa using a5)
      have l' : (acc ++ [c]).flatten.length = acc.flatten.length + c.length := by simp
      split at e
      · rename_i hm
        cases f with
        | zero => exact absurd rfl hm.1
        | succ f =>
          have h0 := hL j1 (by omega)
          obtain ⟨d1, d2, d3, d4, d5, d6, d7⟩ := sp_list_ok hL hc (f := f) (i := j1 + 1) (by simp only [List.length_append, List.length_cons, List.length_nil]; omega) w' b' e
          simp only [List.length_append, List.length_cons, List.length_nil] at d1 d2
          exact ⟨by omega, by omega, d3, d4, by omega, by omega, d7⟩
      · cases e
        exact ⟨by simp, by simp; omega, w', b', by omega, a2, a3⟩
def sp_vk (k fn : Nat) (vs : List (List nq_In)) : Prop := (k = 73 → vs.length = 3) ∧ (k = 68 → vs = []) ∧ (k = 85 → vs.length = 1 ∧ (fn = 1 ∨ fn = 2)) ∧ (k = 65 ∨ k = 66 → vs.length = 1 ∧ fn ∈ tx 15) ∧ (k = 83 ∨ k = 80 → 1 ≤ vs.length) ∧ vs.length ≤ 3
theorem sp_vals_ok (hL : ∀ i, L i ≠ 0 → i < N) (hc : cols = 0 ∨ cols = 3 ∨ cols = 4) {k i j fn : Nat} {vs : List (List nq_In)} (hi : i ≤ N) (e : sp_vals L k cols i = .inr (vs, fn, j)) : sp_vk k fn vs ∧ sp_wv (sp_nc cols) 7 vs ∧ sp_b vs.flatten ∧ i + vs.flatten.length ≤ j ∧ j ≤ N := by
  have hb0 : sp_b ([] : List (List nq_In)).flatten := fun x hx => by cases hx
  unfold sp_vals at e
  split at e
  · rename_i hk
    split at e
    · split at e
      · cases e
      · rename_i vs' j' e'
        obtain ⟨d1, d2, d3, d4, d5, d6, d7⟩ := sp_list_ok hL hc (f := 2) (acc := []) (by simp) trivial hb0 e'
        split at e
        · rename_i hm
          cases e
          have h0 := hL j' (by omega)
          simp only [List.flatten_nil, List.length_nil] at d5
          exact ⟨⟨fun _ => hm.1, by omega, by omega, by omega, by omega, by omega⟩, d3, d4, by omega, by omega⟩
        · cases e
    · cases e
  · split at e
    · cases e
      exact ⟨⟨by omega, fun _ => rfl, by omega, by omega, by omega, by simp⟩, trivial, hb0, by simp, hi⟩
    · split at e
      · split at e
        · rename_i hm
          split at e
          · split at e
            · cases e
            · rename_i vs' j' e'
              obtain ⟨d1, d2, d3, d4, d5, d6, d7⟩ := sp_list_ok hL hc (f := 0) (acc := []) (by simp) trivial hb0 e'
              cases e
              simp only [List.flatten_nil, List.length_nil] at d1 d2 d5
              have : ∀ c ∈ tx 13, c - 97 = 1 ∨ c - 97 = 2 := by decide
              exact ⟨⟨by omega, by omega, fun _ => ⟨by omega, this _ hm⟩, by omega, by omega, by omega⟩, d3, d4, by omega, by omega⟩
          · cases e
        · cases e
      · split at e
        · split at e
          · rename_i hm
            split at e
            · cases e
            · rename_i vs' j' e'
              obtain ⟨d1, d2, d3, d4, d5, d6, d7⟩ := sp_list_ok hL hc (f := 0) (acc := []) (by simp) trivial hb0 e'
              cases e
              simp only [List.flatten_nil, List.length_nil] at d1 d2 d5
              exact ⟨⟨by omega, by omega, by omega, fun _ => ⟨by omega, hm⟩, by omega, by omega⟩, d3, d4, by omega, by omega⟩
          · cases e
        · split at e
          · cases e
          · rename_i vs' j' e'
            obtain ⟨d1, d2, d3, d4, d5, d6, d7⟩ := sp_list_ok hL hc (f := 2) (acc := []) (by simp) trivial hb0 e'
            cases e
            simp only [List.flatten_nil, List.length_nil] at d1 d2 d5
            exact ⟨⟨by omega, by omega, by omega, by omega, by omega, by omega⟩, d3, d4, by omega, by omega⟩
/-- a statement that the grammar makes -/
def sp_ok (s : sp_St) : Prop := s.1 ∈ tx 1 ∧ s.2.1 < 3 ∧ (if s.1 = 80 ∨ s.1 = 66 then s.2.2.1 < 3 else s.2.2.1 = 3) ∧ sp_vk s.1 s.2.2.2.2.1 s.2.2.2.1 ∧ sp_wv (sp_nc (sp_cols s.1)) 7 s.2.2.2.1 ∧ sp_b s.2.2.2.1.flatten ∧ (∀ x ∈ s.2.2.2.2.2.1, sp_kw (sp_nc (sp_cols s.1)) x ∧ sp_b (x.1 ++ x.2.2.1)) ∧ sp_we true s.2.2.2.2.2.1 ∧ (s.1 = 73 → s.2.2.2.2.2.1 = []) ∧ s.2.2.2.2.2.2 ≤ sp_nc (sp_cols s.1) ∧ (s.2.2.2.2.2.2 ≠ 0 → s.1 = 83 ∨ s.1 = 80) ∧ s.2.2.2.1.flatten.length + sp_kl s.2.2.2.2.2.1 + 2 ≤ 48 ∧ s.2.2.2.2.2.1.length ≤ 11
theorem sp_cols_ok (k : Nat) : sp_cols k = 0 ∨ sp_cols k = 3 ∨ sp_cols k = 4 := by
  unfold sp_cols
  split
  · exact .inl rfl
  · split
    · exact .inr (.inr rfl)
    · exact .inr (.inl rfl)
theorem sp_body_ok (hN : N ≤ 48) (hL : ∀ i, L i ≠ 0 → i < N) {k t u i : Nat} {s : sp_St} (hk : k ∈ tx 1) (ht : t < 3) (hu : if k = 80 ∨ k = 66 then u < 3 else u = 3) (hi : 2 ≤ i) (hi2 : i ≤ N) (e : sp_body L N k t u (sp_cols k) i = .inr s) : sp_ok s := by
  have hc := sp_cols_ok k
  unfold sp_body at e
  split at e
  · cases e
  · rename_i vs fn j e1
    obtain ⟨a1, a2, a3, a4, a5⟩ := sp_vals_ok hL hc hi2 e1
    split at e
    · cases e
    · rename_i cs j2 e2
      have hcs : (∀ x ∈ cs, sp_kw (sp_nc (sp_cols k)) x ∧ sp_b (x.1 ++ x.2.2.1)) ∧ sp_we true cs ∧ (k = 73 → cs = []) ∧ j + sp_kl cs ≤ j2 ∧ j + 4 * cs.length ≤ j2 ∧ j2 ≤ N := by
        unfold sp_cond at e2
        split at e2
        · rename_i hm
          have h0 := hL j (by omega)
          obtain ⟨ds, d1, d2, d3, d4, d5, d6, d7⟩ := sp_conds_ok hN hL hc (by omega) (by omega) e2
          rw [List.nil_append] at d1
          subst d1
          exact ⟨d3, d4 _, fun h => absurd h hm.1, by omega, by omega, d7⟩
        · cases e2
          exact ⟨fun x hx => (by cases hx), rfl, fun _ => rfl, by simp [sp_kl], by simp, a5⟩
      obtain ⟨c1, c2, c3, c4, c5, c6⟩ := hcs
      split at e
      · cases e
      · rename_i od j3 e3
        have hod : od ≤ sp_nc (sp_cols k) ∧ (od ≠ 0 → k = 83 ∨ k = 80) := by
          unfold sp_ord at e3
          split at e3
          · rename_i hm
            split at e3
            · rename_i hm2
              cases e3
              have := sp_col hc hm2
              exact ⟨by omega, fun _ => hm.1⟩
            · cases e3
          · cases e3
            exact ⟨by omega, fun h => absurd rfl h⟩
        split at e
        · cases e
        · cases e
          exact ⟨hk, ht, hu, a1, a2, a3, c1, c2, c3, hod.1, hod.2, by simp only; omega, by simp only; omega⟩
theorem sp_stmt_ok (hN : N ≤ 48) (hL : ∀ i, L i ≠ 0 → i < N) {s : sp_St} (e : sp_stmt L N = .inr s) : sp_ok s := by
  have h2 : ∀ c ∈ tx 2, c - 48 < 3 := by decide
  unfold sp_stmt at e
  split at e
  · rename_i k1
    have z0 := hL 0 (tx_n0 k1)
    split at e
    · rename_i k2
      have z1 := hL 1 (tx_n0 k2)
      split at e
      · rename_i k3
        split at e
        · rename_i k4
          have z2 := hL 2 (tx_n0 k4)
          refine sp_body_ok hN hL k1 (h2 _ k2) (u := L 2 - 48) (by rw [if_pos k3]; exact h2 _ k4) (i := 3) (by omega) (by omega) ?_
          rw [show sp_cols (L 0) = 4 from by unfold sp_cols; rw [if_neg (by omega), if_pos k3]]
          exact e
        · cases e
      · rename_i k3
        exact sp_body_ok hN hL k1 (h2 _ k2) (u := 3) (by rw [if_neg k3]) (i := 2) (by omega) (by omega) e
    · cases e
  · cases e
end SQ
theorem cl_L_len {s : sp_St} (h : sp_ok s) : (cl_L s).length ≤ 48 := by
  obtain ⟨h1, h2, h3, h4, h5, h6, h7, h8, h9, h10, h11, h12, h13⟩ := h
  unfold cl_L
  split
  · simp only [List.length_append, List.length_cons, List.length_nil]
    omega
  · simp only [List.length_append, List.length_cons, List.length_nil, mc_cc_len]
    omega
theorem mc_ct_le : ∀ {cs : List sp_K} {off : Nat}, mc_ct off cs ≤ off + sp_kl cs
  | [], off => Nat.le_refl _
  | (c1, s, c2, en) :: rest, off => by
    unfold mc_ct
    cases en with
    | true =>
      simp only [if_true, sp_kl]
      omega
    | false =>
      have := mc_ct_le (cs := rest) (off := off + c1.length + c2.length + 1)
      simp only [Bool.false_eq_true, if_false, sp_kl]
      omega
theorem wf_mc {nc b h h' : Nat} {c : List nq_In} (hn : nc ≤ 6) (w : wf nc b c h h') (hb : sp_b c) : ∀ x ∈ c, mc_ok x := fun x hx => by
  obtain ⟨w1, w2, w3⟩ := wf_op w x hx
  obtain ⟨b1, b2⟩ := hb x hx
  exact ⟨by omega, b1, b2, fun h => by have := w3 h; omega, w2⟩
theorem sp_wv_mc {nc : Nat} (hn : nc ≤ 6) : ∀ {vs : List (List nq_In)} {b : Nat}, sp_wv nc b vs → sp_b vs.flatten → ∀ x ∈ vs.flatten, mc_ok x
  | [], _, _, _, x, hx => by cases hx
  | c :: vs, b, ⟨h1, h2⟩, hb, x, hx => by
    rw [List.flatten_cons] at hx hb
    rcases List.mem_append.1 hx with hx | hx
    · exact wf_mc hn h1 (fun y hy => hb y (List.mem_append_left _ hy)) x hx
    · exact sp_wv_mc hn h2 (fun y hy => hb y (List.mem_append_right _ hy)) x hx
theorem mc_cc_mc {nc : Nat} (hn : nc ≤ 6) : ∀ {cs : List sp_K} {off : Nat}, (∀ x ∈ cs, sp_kw nc x ∧ sp_b (x.1 ++ x.2.2.1)) → off + sp_kl cs < 10000 → ∀ x ∈ mc_cc off cs, mc_ok x
  | [], off, h, ho, x, hx => by
    rcases List.mem_singleton.1 hx with rfl
    exact ⟨by decide, by decide, by decide, by decide, by decide⟩
  | (c1, s, c2, en) :: rest, off, h, ho, x, hx => by
    obtain ⟨⟨w1, w2, w3⟩, hb⟩ := h _ (List.mem_cons_self)
    simp only at w1 w2 w3 hb
    have ht := mc_ct_le (cs := (c1, s, c2, en) :: rest) (off := off)
    unfold mc_cc at hx
    rcases List.mem_append.1 hx with hx | hx
    · rcases List.mem_append.1 hx with hx | hx
      · rcases List.mem_append.1 hx with hx | hx
        · rcases List.mem_append.1 hx with hx | hx
          · exact wf_mc hn w1 (fun y hy => hb y (List.mem_append_left _ hy)) x hx
          · exact wf_mc hn w3 (fun y hy => hb y (List.mem_append_right _ hy)) x hx
        · rcases List.mem_singleton.1 hx with rfl
          exact ⟨by simp only; omega, by simp, fun _ => (by simp), fun h => by simp only at h; omega, by simp only; omega⟩
      · cases en with
        | true =>
          rcases List.mem_singleton.1 hx with rfl
          exact ⟨by decide, by decide, by decide, by decide, by decide⟩
        | false => cases hx
    · refine mc_cc_mc hn (fun y hy => h y (List.mem_cons_of_mem _ hy)) ?_ x hx
      simp only [sp_kl] at ho
      omega
theorem sp_nc_le (k : Nat) : sp_nc (sp_cols k) ≤ 6 := by
  rcases sp_cols_ok k with h | h | h <;> rw [h] <;> decide
theorem cl_L_mc {s : sp_St} (h : sp_ok s) : ∀ x ∈ cl_L s, mc_ok x := by
  obtain ⟨h1, h2, h3, h4, h5, h6, h7, h8, h9, h10, h11, h12, h13⟩ := h
  have hn := sp_nc_le s.1
  intro x hx
  unfold cl_L at hx
  rcases List.mem_append.1 hx with hx | hx
  · rcases List.mem_append.1 hx with hx | hx
    · exact sp_wv_mc hn h5 h6 x hx
    · rcases List.mem_singleton.1 hx with rfl
      exact ⟨by decide, by decide, by decide, by decide, by decide⟩
  · split at hx
    · cases hx
    · exact mc_cc_mc hn h7 (by omega) x hx
