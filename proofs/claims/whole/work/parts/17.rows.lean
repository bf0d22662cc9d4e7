/-! ROWS: a table's rows as a list -/
abbrev nq_Rw : Type := Int32 × Int32 × Int32
def rw_c (r : nq_Rw) (c : Nat) : Int32 := match c with
  | 0 => r.1
  | 1 => r.2.1
  | _ => r.2.2
def rw_s (r : nq_Rw) (c : Nat) (x : Int32) : nq_Rw := match c with
  | 0 => (x, r.2.1, r.2.2)
  | 1 => (r.1, x, r.2.2)
  | _ => (r.1, r.2.1, x)
def pg_row (f : Nat → Int32) (s : Nat) : nq_Rw := (f (s * 3), f (s * 3 + 1), f (s * 3 + 2))
def pg_rows (f : Nat → Int32) (n : Nat) : List nq_Rw := (List.range n).map (pg_row f)
theorem pg_len (f : Nat → Int32) (n : Nat) : (pg_rows f n).length = n := by simp [pg_rows]
theorem pg_at {f : Nat → Int32} {s n : Nat} (h : s < n) : (pg_rows f n)[s]? = some (pg_row f s) := by simp [pg_rows, List.getElem?_range h]
theorem pg_none {f : Nat → Int32} {s n : Nat} (h : n ≤ s) : (pg_rows f n)[s]? = none := by
  rw [List.getElem?_eq_none_iff, pg_len]
  exact h
theorem pg_row_c {f : Nat → Int32} {s c : Nat} (hc : c < 3) : rw_c (pg_row f s) c = f (s * 3 + c) := by
  match c, hc with
  | 0, _ => rfl
  | 1, _ => rfl
  | 2, _ => rfl
theorem pg_mem {f : Nat → Int32} {n : Nat} {x : nq_Rw} : x ∈ pg_rows f n ↔ ∃ s, s < n ∧ pg_row f s = x := by simp [pg_rows]
theorem pg_row_ext {f g : Nat → Int32} {s t : Nat} (h : ∀ c, c < 3 → f (s * 3 + c) = g (t * 3 + c)) : pg_row f s = pg_row g t := by
  unfold pg_row
  rw [show f (s * 3) = g (t * 3) from h 0 (by decide), h 1 (by decide), h 2 (by decide)]
theorem pg_ins_at (f : Nat → Int32) (n : Nat) (a b c : Int32) (j : Nat) : pg_ins f n a b c j = if j < pg_pos f a n * 3 then f j else if j = pg_pos f a n * 3 then a else if j = pg_pos f a n * 3 + 1 then b else if j = pg_pos f a n * 3 + 2 then c else if j < (n + 1) * 3 then f (j - 3) else f j := by
  have hle := pg_pos_le f a n
  unfold pg_ins
  generalize pg_pos f a n = p at hle
  unfold upd va_cpy
  by_cases h1 : j < p * 3
  · rw [if_neg (by omega), if_neg (by omega), if_neg (by omega), if_neg (by omega), if_pos h1]
  rw [if_neg h1]
  by_cases h2 : j = p * 3
  · rw [if_neg (by omega), if_neg (by omega), if_pos (by omega), if_pos h2]
  rw [if_neg h2]
  by_cases h3 : j = p * 3 + 1
  · rw [if_neg (by omega), if_pos h3, if_pos h3]
  rw [if_neg h3]
  by_cases h4 : j = p * 3 + 2
  · rw [if_pos h4, if_pos h4, if_neg h3]
  rw [if_neg h4, if_neg h4, if_neg h3, if_neg (by omega)]
  by_cases h5 : j < (n + 1) * 3
  · rw [if_pos (by omega), if_pos h5]
    congr 1
    omega
  · rw [if_neg (by omega), if_neg h5]
theorem pg_ins_rows (f : Nat → Int32) (n : Nat) (a b c : Int32) : pg_rows (pg_ins f n a b c) (n + 1) = (pg_rows f n).take (pg_pos f a n) ++ (a, b, c) :: (pg_rows f n).drop (pg_pos f a n) := by
  have hle := pg_pos_le f a n
  have hat := pg_ins_at f n a b c
  generalize pg_pos f a n = p at hle hat ⊢
  refine List.ext_getElem? fun i => ?_
  rcases Nat.lt_trichotomy i p with h | h | h
  · rw [List.getElem?_append_left (by rw [List.length_take, pg_len]; omega), pg_at (by omega), List.getElem?_take_of_lt h, pg_at (by omega)]
    congr 1
    refine pg_row_ext fun c9 hc9 => ?_
    rw [hat, if_pos (by omega)]
  · subst h
    rw [List.getElem?_append_right (by rw [List.length_take, pg_len]; omega), pg_at (by omega), List.length_take, pg_len, Nat.min_eq_left hle, Nat.sub_self, List.getElem?_cons_zero]
    unfold pg_row
    rw [hat, hat, hat, if_neg (by omega), if_pos rfl, if_neg (by omega), if_neg (by omega), if_pos rfl, if_neg (by omega), if_neg (by omega), if_neg (by omega), if_pos rfl]
  · rw [List.getElem?_append_right (by rw [List.length_take, pg_len]; omega), List.length_take, pg_len, Nat.min_eq_left hle, show i - p = (i - p - 1) + 1 by omega, List.getElem?_cons_succ, List.getElem?_drop]
    by_cases h9 : i < n + 1
    · rw [pg_at h9, pg_at (by omega)]
      congr 1
      refine pg_row_ext fun c9 hc9 => ?_
      rw [hat, if_neg (by omega), if_neg (by omega), if_neg (by omega), if_neg (by omega), if_pos (by omega)]
      congr 1
      omega
    · rw [pg_none (by omega), pg_none (by omega)]
theorem pg_del_rows {f : Nat → Int32} {n s : Nat} (hs : s < n) : pg_rows (va_cpy f f ((s + 1) * 3) (s * 3) ((n - s - 1) * 3)) (n - 1) = (pg_rows f n).take s ++ (pg_rows f n).drop (s + 1) := by
  refine List.ext_getElem? fun i => ?_
  by_cases h : i < s
  · rw [List.getElem?_append_left (by rw [List.length_take, pg_len]; omega), pg_at (by omega), List.getElem?_take_of_lt h, pg_at (by omega)]
    congr 1
    refine pg_row_ext fun c9 hc9 => ?_
    unfold va_cpy
    rw [if_neg (by omega)]
  · rw [List.getElem?_append_right (by rw [List.length_take, pg_len]; omega), List.length_take, pg_len, Nat.min_eq_left (by omega), List.getElem?_drop]
    by_cases h9 : i < n - 1
    · rw [pg_at h9, pg_at (by omega)]
      congr 1
      refine pg_row_ext fun c9 hc9 => ?_
      unfold va_cpy
      rw [if_pos (by omega)]
      congr 1
      omega
    · rw [pg_none (by omega), pg_none (by omega)]
theorem pg_low {f : Nat → Int32} {n m : Nat} (h : m ≤ n) : pg_rows f m = (pg_rows f n).take m := by
  refine List.ext_getElem? fun i => ?_
  by_cases h9 : i < m
  · rw [pg_at h9, List.getElem?_take_of_lt h9, pg_at (by omega)]
  · rw [pg_none (by omega), List.getElem?_eq_none_iff.mpr (by rw [List.length_take, pg_len]; omega)]
theorem pg_high {f g : Nat → Int32} {n m : Nat} (h : m ≤ n) : pg_rows (va_cpy f g (m * 3) 0 ((n - m) * 3)) (n - m) = (pg_rows f n).drop m := by
  refine List.ext_getElem? fun i => ?_
  rw [List.getElem?_drop]
  by_cases h9 : i < n - m
  · rw [pg_at h9, pg_at (by omega)]
    congr 1
    refine pg_row_ext fun c9 hc9 => ?_
    unfold va_cpy
    rw [if_pos (by omega)]
    congr 1
    omega
  · rw [pg_none (by omega), pg_none (by omega)]
theorem pg_all {f g : Nat → Int32} {n : Nat} (h : n ≤ 4) : pg_rows (va_cpy f g 0 0 12) n = pg_rows f n := by
  refine List.ext_getElem? fun i => ?_
  by_cases h9 : i < n
  · rw [pg_at h9, pg_at h9]
    congr 1
    refine pg_row_ext fun c9 hc9 => ?_
    unfold va_cpy
    rw [if_pos (by omega)]
    congr 1
    omega
  · rw [pg_none (by omega), pg_none (by omega)]
theorem pg_put_rows {f : Nat → Int32} {n s c : Nat} {x : Int32} (hs : s < n) (hc : c < 3) : pg_rows (upd f (s * 3 + c) x) n = (pg_rows f n).set s (rw_s (pg_row f s) c x) := by
  refine List.ext_getElem? fun i => ?_
  rw [List.getElem?_set, pg_len]
  by_cases h : s = i
  · subst h
    rw [if_pos rfl, if_pos hs, pg_at hs]
    congr 1
    match c, hc with
    | 0, _ => simp [pg_row, upd, rw_s]
    | 1, _ => simp [pg_row, upd, rw_s]
    | 2, _ => simp [pg_row, upd, rw_s]
  · rw [if_neg h]
    by_cases h9 : i < n
    · rw [pg_at h9, pg_at h9]
      congr 1
      refine pg_row_ext fun c9 hc9 => ?_
      unfold upd
      rw [if_neg (by omega)]
    · rw [pg_none (by omega), pg_none (by omega)]
/-- the rows of k pages from p on -/
def tb_rw (sz : Nat → Nat) (fs : Nat → Nat → Int32) : Nat → Nat → List nq_Rw
  | _, 0 => []
  | p, k + 1 => pg_rows (fs p) (sz p) ++ tb_rw sz fs (p + 1) k
theorem tb_rw_add (sz : Nat → Nat) (fs : Nat → Nat → Int32) : ∀ (j p k : Nat), tb_rw sz fs p (j + k) = tb_rw sz fs p j ++ tb_rw sz fs (p + j) k
  | 0, p, k => by rw [Nat.zero_add]; rfl
  | j + 1, p, k => by
    rw [show j + 1 + k = (j + k) + 1 by omega, tb_rw, tb_rw, tb_rw_add sz fs j (p + 1) k, List.append_assoc, show p + 1 + j = p + (j + 1) by omega]
theorem tb_rw_sh {sz sz' : Nat → Nat} {fs fs' : Nat → Nat → Int32} : ∀ (k p q : Nat), (∀ i, i < k → pg_rows (fs' (p + i)) (sz' (p + i)) = pg_rows (fs (q + i)) (sz (q + i))) → tb_rw sz' fs' p k = tb_rw sz fs q k
  | 0, _, _, _ => rfl
  | k + 1, p, q, h => by
    rw [tb_rw, tb_rw, show pg_rows (fs' p) (sz' p) = pg_rows (fs q) (sz q) from h 0 (by omega), tb_rw_sh k (p + 1) (q + 1) (fun i hi => by rw [show p + 1 + i = p + (i + 1) by omega, show q + 1 + i = q + (i + 1) by omega]; exact h (i + 1) (by omega))]
theorem tb_rw_cut (sz : Nat → Nat) (fs : Nat → Nat → Int32) {p n : Nat} (h : p < n) : tb_rw sz fs 0 n = tb_rw sz fs 0 p ++ (pg_rows (fs p) (sz p) ++ tb_rw sz fs (p + 1) (n - p - 1)) := by
  have h1 := tb_rw_add sz fs p 0 (n - p)
  rw [show p + (n - p) = n by omega, show n - p = (n - p - 1) + 1 by omega, tb_rw, Nat.zero_add] at h1
  exact h1
theorem tb_rw_len {sz : Nat → Nat} {fs : Nat → Nat → Int32} : ∀ (k p : Nat), (∀ i, p ≤ i → i < p + k → 0 < sz i) → k ≤ (tb_rw sz fs p k).length
  | 0, _, _ => Nat.zero_le _
  | k + 1, p, h => by
    have h1 := tb_rw_len (fs := fs) k (p + 1) (fun i h1 h2 => h i (by omega) (by omega))
    have h2 := h p (Nat.le_refl _) (by omega)
    rw [tb_rw, List.length_append, pg_len]
    omega
theorem tb_sp_at {sz : Nat → Nat} {fs : Nat → Nat → Int32} : ∀ (k p i : Nat), i < (tb_rw sz fs p (k + 1)).length → ∃ p' s, tb_sp sz k p i = (p', s) ∧ p ≤ p' ∧ p' ≤ p + k ∧ s < sz p' ∧ i = (tb_rw sz fs p (p' - p)).length + s
  | 0, p, i, h => by
    rw [tb_rw, tb_rw, List.append_nil, pg_len] at h
    exact ⟨p, i, rfl, Nat.le_refl _, Nat.le_refl _, h, by rw [Nat.sub_self, tb_rw]; simp⟩
  | k + 1, p, i, h => by
    rw [tb_rw, List.length_append, pg_len] at h
    by_cases h1 : sz p ≤ i
    · obtain ⟨p', s, e1, e2, e3, e4, e5⟩ := tb_sp_at (sz := sz) (fs := fs) k (p + 1) (i - sz p) (by omega)
      refine ⟨p', s, by rw [tb_sp, if_pos h1, e1], by omega, by omega, e4, ?_⟩
      rw [show p' - p = (p' - (p + 1)) + 1 by omega, tb_rw, List.length_append, pg_len]
      omega
    · refine ⟨p, i, by rw [tb_sp, if_neg h1], Nat.le_refl _, by omega, by omega, ?_⟩
      rw [Nat.sub_self, tb_rw]
      simp
/-- by rising key -/
def rw_up (rs : List nq_Rw) : Prop := rs.Pairwise (fun x y => x.1 < y.1)
def rw_ins (r : nq_Rw) : List nq_Rw → List nq_Rw
  | [] => [r]
  | x :: xs => if x.1 < r.1 then x :: rw_ins r xs else r :: x :: xs
theorem rw_ins_at {r : nq_Rw} {B : List nq_Rw} (hB : ∀ x ∈ B, ¬ x.1 < r.1) : ∀ (A : List nq_Rw), (∀ x ∈ A, x.1 < r.1) → rw_ins r (A ++ B) = A ++ r :: B
  | [], _ => by
    cases B with
    | nil => rfl
    | cons b bs => rw [List.nil_append, rw_ins, if_neg (hB b List.mem_cons_self)]; rfl
  | a :: A, hA => by
    rw [List.cons_append, rw_ins, if_pos (hA a List.mem_cons_self), rw_ins_at hB A (fun x hx => hA x (List.mem_cons_of_mem _ hx))]
    rfl
theorem rw_ins_len (r : nq_Rw) : ∀ rs : List nq_Rw, (rw_ins r rs).length = rs.length + 1
  | [] => rfl
  | x :: xs => by
    rw [rw_ins]
    split
    · rw [List.length_cons, rw_ins_len r xs, List.length_cons]
    · rfl
theorem rw_up_ins {r : nq_Rw} {A B : List nq_Rw} (h : rw_up (A ++ B)) (hA : ∀ x ∈ A, x.1 < r.1) (hB : ∀ x ∈ B, r.1 < x.1) : rw_up (A ++ r :: B) := by
  unfold rw_up at h ⊢
  rw [List.pairwise_append] at h ⊢
  refine ⟨h.1, List.pairwise_cons.mpr ⟨hB, h.2.1⟩, fun x hx y hy => ?_⟩
  rcases List.mem_cons.mp hy with rfl | hy
  · exact hA x hx
  · exact h.2.2 x hx y hy
theorem rw_i1 {a b c : Int32} (h : a < b) (h' : b < c) : a < c := Int32.lt_trans h h'
theorem rw_i2 {a b c : Int32} (h : a < b) (h' : b ≤ c) : a < c := Int32.lt_of_lt_of_le h h'
theorem rw_i3 {a b c : Int32} (h : a ≤ b) (h' : b < c) : a < c := Int32.lt_of_le_of_lt h h'
theorem pg_pos_hi (f : Nat → Int32) (a : Int32) : ∀ n i, pg_pos f a n ≤ i → i < n → a < f (i * 3)
  | 0, i, _, h => absurd h (Nat.not_lt_zero _)
  | k + 1, i, h1, h2 => by
    unfold pg_pos at h1
    split at h1
    · rename_i h
      rcases Nat.lt_or_eq_of_le (Nat.le_of_lt_succ h2) with h3 | h3
      · exact pg_pos_hi f a k i h1 h3
      · rw [h3]; exact h
    · omega
theorem pg_pos_lo (f : Nat → Int32) (a : Int32) : ∀ n, 0 < pg_pos f a n → f ((pg_pos f a n - 1) * 3) ≤ a
  | 0, h => absurd h (Nat.not_lt_zero _)
  | k + 1, h => by
    unfold pg_pos at h ⊢
    split
    · rename_i h1
      rw [if_pos h1] at h
      exact pg_pos_lo f a k h
    · rename_i h1
      exact Int32.not_lt.mp h1
theorem tb_pf_hi (fs : Nat → Nat → Int32) (a : Int32) : ∀ n i, tb_pf fs a n < i → i ≤ n → a < fs i 0
  | 0, i, h1, h2 => by omega
  | k + 1, i, h1, h2 => by
    unfold tb_pf at h1
    split at h1
    · rename_i h
      rcases Nat.lt_or_eq_of_le h2 with h3 | h3
      · exact tb_pf_hi fs a k i h1 (by omega)
      · rw [h3]; exact h
    · omega
theorem tb_pf_lo (fs : Nat → Nat → Int32) (a : Int32) : ∀ n, 0 < tb_pf fs a n → fs (tb_pf fs a n) 0 ≤ a
  | 0, h => absurd h (Nat.not_lt_zero _)
  | k + 1, h => by
    unfold tb_pf at h ⊢
    split
    · rename_i h1
      rw [if_pos h1] at h
      exact tb_pf_lo fs a k h
    · rename_i h1
      exact Int32.not_lt.mp h1
/-- before and behind the page that a key belongs to -/
theorem tb_cut {sz : Nat → Nat} {fs : Nat → Nat → Int32} {u : Nat} {a : Int32} (hz : ∀ i, i ≤ u → 0 < sz i) (hup : rw_up (tb_rw sz fs 0 (u + 1))) :
    (∀ x ∈ tb_rw sz fs 0 (tb_pf fs a u), x.1 < a) ∧ ∀ x ∈ tb_rw sz fs (tb_pf fs a u + 1) (u - tb_pf fs a u), a < x.1 := by
  have hle := tb_pf_le fs a u
  have hlo := tb_pf_lo fs a u
  have hhi := tb_pf_hi fs a u
  generalize tb_pf fs a u = p at hle hlo hhi ⊢
  rw [tb_rw_cut sz fs (p := p) (by omega), show u + 1 - p - 1 = u - p by omega] at hup
  unfold rw_up at hup
  rw [List.pairwise_append, List.pairwise_append] at hup
  obtain ⟨h1, ⟨h2, h3, h4⟩, h5⟩ := hup
  have hf : pg_row (fs p) 0 ∈ pg_rows (fs p) (sz p) := pg_mem.mpr ⟨0, hz p hle, rfl⟩
  constructor
  · intro x hx
    by_cases hp : p = 0
    · subst hp
      rw [tb_rw] at hx
      cases hx
    · exact rw_i2 (h5 x hx _ (List.mem_append_left _ hf)) (hlo (by omega))
  · intro x hx
    by_cases hp : p = u
    · rw [hp, Nat.sub_self, tb_rw] at hx
      cases hx
    · have e9 : u - p = (u - p - 1) + 1 := by omega
      rw [e9, tb_rw] at hx h3
      have hg : pg_row (fs (p + 1)) 0 ∈ pg_rows (fs (p + 1)) (sz (p + 1)) := pg_mem.mpr ⟨0, hz (p + 1) (by omega), rfl⟩
      have h9 := hhi (p + 1) (by omega) (by omega)
      rcases List.mem_append.mp hx with h | h
      · obtain ⟨s, hs, rfl⟩ := pg_mem.mp h
        by_cases h0 : s = 0
        · subst h0
          exact h9
        · refine rw_i1 h9 ?_
          rw [List.pairwise_append] at h3
          have h7 := List.pairwise_iff_getElem.mp h3.1 0 s (by rw [pg_len]; omega) (by rw [pg_len]; omega) (by omega)
          simp only [pg_rows, List.getElem_map, List.getElem_range] at h7
          exact h7
      · rw [List.pairwise_append] at h3
        exact rw_i1 h9 (h3.2.2 _ hg x h)
