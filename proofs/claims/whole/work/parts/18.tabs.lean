/-! TABLES as lists of rows: put in, taken out, copied -/
/-- cells outside lo .. hi are as they were -/
def nq_fm (lo hi : Nat) (σ σ' : nq_S) : Prop := σ'.length = σ.length ∧ ∀ i, (i < lo ∨ hi ≤ i) → σ'[i]? = σ[i]?
theorem nq_fm.rf {lo hi : Nat} {σ : nq_S} : nq_fm lo hi σ σ := ⟨rfl, fun _ _ => rfl⟩
theorem nq_fm.tr {lo hi : Nat} {a b c : nq_S} (h : nq_fm lo hi a b) (h' : nq_fm lo hi b c) : nq_fm lo hi a c := ⟨h'.1.trans h.1, fun i hi => (h'.2 i hi).trans (h.2 i hi)⟩
theorem nq_fm.st {lo hi k : Nat} {σ σ' : nq_S} {e : nq_C} (h : nq_fm lo hi σ σ') (h1 : lo ≤ k) (h2 : k < hi) : nq_fm lo hi σ (σ'.set k e) := by
  refine ⟨by rw [List.length_set]; exact h.1, fun i hi => ?_⟩
  rw [List.getElem?_set, if_neg (by omega)]
  exact h.2 i hi
theorem nq_fm.wd {lo hi lo' hi' : Nat} {σ σ' : nq_S} (h : nq_fm lo hi σ σ') (h1 : lo' ≤ lo) (h2 : hi ≤ hi') : nq_fm lo' hi' σ σ' := ⟨h.1, fun i hi => h.2 i (by omega)⟩
theorem tb_P_sz {σ : nq_S} {ta p n' : Nat} {g : Nat → Option Nat} {pa qa sz : Nat → Nat} {fs : Nat → Nat → Int32} (h : tb_P σ ta g pa qa sz fs) (hd : ∀ i j, i < 20 → j < 20 → i ≠ j → pa i ≠ pa j ∧ qa i ≠ qa j) (hp : p < 20) (hn : n' ≤ 4) : tb_P (σ.set (pa p) (.inr (2, [.ref (qa p), .int (nI n')]))) ta g pa qa (va_up sz p n') fs := by
  obtain ⟨h1, h2⟩ := h
  obtain ⟨p1, p2, p3, p4⟩ := h2 p hp
  refine ⟨nq_gn (nq_ne2 h1 p2) h1, fun i hi => ?_⟩
  obtain ⟨e1, e2, e3, e4⟩ := h2 i hi
  unfold va_up
  by_cases h9 : i = p
  · subst h9
    rw [if_pos rfl]
    exact ⟨e1, nq_gs e2, nq_gn (nq_ne2 e3 p2) e3, hn⟩
  · rw [if_neg h9]
    exact ⟨e1, nq_gn (hd i p hi hp h9).1 e2, nq_gn (nq_ne2 e3 p2) e3, e4⟩
theorem tb_P_fs {σ : nq_S} {ta p : Nat} {f' : Nat → Int32} {g : Nat → Option Nat} {pa qa sz : Nat → Nat} {fs : Nat → Nat → Int32} (h : tb_P σ ta g pa qa sz fs) (hd : ∀ i j, i < 20 → j < 20 → i ≠ j → pa i ≠ pa j ∧ qa i ≠ qa j) (hp : p < 20) (ht : ta ≠ qa p) : tb_P (σ.set (qa p) (.inl (0, 12, .inl f'))) ta g pa qa sz (va_up fs p f') := by
  obtain ⟨h1, h2⟩ := h
  obtain ⟨p1, p2, p3, p4⟩ := h2 p hp
  refine ⟨nq_gn ht h1, fun i hi => ?_⟩
  obtain ⟨e1, e2, e3, e4⟩ := h2 i hi
  unfold va_up
  by_cases h9 : i = p
  · subst h9
    rw [if_pos rfl]
    exact ⟨e1, nq_gn (nq_ne1 e2 p3) e2, nq_gs e3, e4⟩
  · rw [if_neg h9]
    exact ⟨e1, nq_gn (nq_ne1 e2 p3) e2, nq_gn (hd i p hi hp h9).2 e3, e4⟩
theorem tb_rw_va {sz : Nat → Nat} {fs : Nat → Nat → Int32} {x n' p k : Nat} {f' : Nat → Int32} (h : ∀ i, i < k → p + i ≠ x) : tb_rw (va_up sz x n') (va_up fs x f') p k = tb_rw sz fs p k :=
  tb_rw_sh k p p (fun i hi => by unfold va_up; rw [if_neg (h i hi), if_neg (h i hi)])
theorem tb_rw_vf {sz : Nat → Nat} {fs : Nat → Nat → Int32} {x p k : Nat} {f' : Nat → Int32} (h : ∀ i, i < k → p + i ≠ x) : tb_rw sz (va_up fs x f') p k = tb_rw sz fs p k :=
  tb_rw_sh k p p (fun i hi => by unfold va_up; rw [if_neg (h i hi)])
/-- a table at t, its parts behind it -/
def tb_K (σ : nq_S) (t used n : Nat) (g : Nat → Option Nat) (pa qa sz : Nat → Nat) (fs : Nat → Nat → Int32) : Prop :=
  σ[t]? = some (.inr (5, [.ref (t + 1), .int (nI used), .int (nI n)])) ∧ tb_P σ (t + 1) g pa qa sz fs ∧ (∀ i, i < 20 → t + 2 ≤ pa i ∧ pa i < t + 42 ∧ t + 2 ≤ qa i ∧ qa i < t + 42) ∧ (∀ i j, i < 20 → j < 20 → i ≠ j → pa i ≠ pa j ∧ qa i ≠ qa j)
section TK
variable {σ : nq_S} {t used n p n' u' : Nat} {f' : Nat → Int32} {g : Nat → Option Nat} {pa qa sz : Nat → Nat} {fs : Nat → Nat → Int32}
theorem tb_K.pgs (h : tb_K σ t used n g pa qa sz fs) (hp : p < 20) (hn : n' ≤ 4) : tb_K (σ.set (pa p) (.inr (2, [.ref (qa p), .int (nI n')]))) t used n g pa qa (va_up sz p n') fs := by
  obtain ⟨h1, h2, h3, h4⟩ := h
  have h9 := h3 p hp
  exact ⟨nq_gn (by omega) h1, tb_P_sz h2 h4 hp hn, h3, h4⟩
theorem tb_K.pgf (h : tb_K σ t used n g pa qa sz fs) (hp : p < 20) : tb_K (σ.set (qa p) (.inl (0, 12, .inl f'))) t used n g pa qa sz (va_up fs p f') := by
  obtain ⟨h1, h2, h3, h4⟩ := h
  have h9 := h3 p hp
  exact ⟨nq_gn (by omega) h1, tb_P_fs h2 h4 hp (by omega), h3, h4⟩
theorem tb_K.tt (h : tb_K σ t used n g pa qa sz fs) : tb_K (σ.set t (.inr (5, [.ref (t + 1), .int (nI u'), .int (nI n')]))) t u' n' g pa qa sz fs := by
  obtain ⟨h1, h2, h3, h4⟩ := h
  refine ⟨nq_gs h1, ⟨nq_gn (by omega) h2.1, fun i hi => ?_⟩, h3, h4⟩
  have h9 := h3 i hi
  obtain ⟨e1, e2, e3, e4⟩ := h2.2 i hi
  exact ⟨e1, nq_gn (by omega) e2, nq_gn (by omega) e3, e4⟩
theorem tb_K.go {k : Nat → Nat} (h : tb_K σ t used n g pa qa sz fs) (hk : ∀ i, i < 20 → k i < 20) (hj : ∀ i j, i < 20 → j < 20 → i ≠ j → k i ≠ k j) : tb_K (σ.set (t + 1) (.inl (5, 20, .inr (.inr (fun i => g (k i)))))) t used n (fun i => g (k i)) (fun i => pa (k i)) (fun i => qa (k i)) (fun i => sz (k i)) (fun i => fs (k i)) := by
  obtain ⟨h1, h2, h3, h4⟩ := h
  refine ⟨nq_gn (by omega) h1, ⟨nq_gs h2.1, fun i hi => ?_⟩, fun i hi => h3 _ (hk i hi), fun i j hi hj' hn => h4 _ _ (hk i hi) (hk j hj') (hj i j hi hj' hn)⟩
  have h9 := h3 _ (hk i hi)
  obtain ⟨e1, e2, e3, e4⟩ := h2.2 _ (hk i hi)
  exact ⟨e1, nq_gn (show pa (k i) ≠ t + 1 by omega) e2, nq_gn (show qa (k i) ≠ t + 1 by omega) e3, e4⟩
end TK
def tb_oi (at9 used i : Nat) : Nat := if i = at9 then used else if at9 < i ∧ i ≤ used then i - 1 else i
theorem tb_op_oi {α : Type} (h : Nat → α) (at9 used : Nat) : tb_op h at9 used = fun i => h (tb_oi at9 used i) := by
  funext i
  unfold tb_op tb_oi
  split
  · rfl
  · split <;> rfl
def tb_ci (at9 used i : Nat) : Nat := if i = used then at9 else if at9 ≤ i ∧ i < used then i + 1 else i
theorem tb_cl_ci {α : Type} (h : Nat → α) (at9 used : Nat) : tb_cl h at9 used = fun i => h (tb_ci at9 used i) := by
  funext i
  unfold tb_cl tb_ci
  split
  · rfl
  · split <;> rfl
theorem tb_K.op {σ : nq_S} {t used n at9 : Nat} {g : Nat → Option Nat} {pa qa sz : Nat → Nat} {fs : Nat → Nat → Int32} (h : tb_K σ t used n g pa qa sz fs) (hu : used < 20) (ha : at9 ≤ used) : tb_K (σ.set (t + 1) (.inl (5, 20, .inr (.inr (tb_op g at9 used))))) t used n (tb_op g at9 used) (tb_op pa at9 used) (tb_op qa at9 used) (tb_op sz at9 used) (tb_op fs at9 used) := by
  simp only [tb_op_oi]
  refine h.go (fun i hi => ?_) (fun i j hi hj hn => ?_)
  · unfold tb_oi
    split
    · omega
    · split <;> omega
  · unfold tb_oi
    by_cases h1 : i = at9
    · rw [if_pos h1, if_neg (by omega)]
      by_cases h2 : at9 < j ∧ j ≤ used
      · rw [if_pos h2]; omega
      · rw [if_neg h2]; omega
    · rw [if_neg h1]
      by_cases h2 : j = at9
      · rw [if_pos h2]
        by_cases h3 : at9 < i ∧ i ≤ used
        · rw [if_pos h3]; omega
        · rw [if_neg h3]; omega
      · rw [if_neg h2]
        by_cases h3 : at9 < i ∧ i ≤ used
        · rw [if_pos h3]
          by_cases h4 : at9 < j ∧ j ≤ used
          · rw [if_pos h4]; omega
          · rw [if_neg h4]; omega
        · rw [if_neg h3]
          by_cases h4 : at9 < j ∧ j ≤ used
          · rw [if_pos h4]; omega
          · rw [if_neg h4]; omega
theorem tb_K.cl {σ : nq_S} {t used n at9 : Nat} {g : Nat → Option Nat} {pa qa sz : Nat → Nat} {fs : Nat → Nat → Int32} (h : tb_K σ t used n g pa qa sz fs) {u : Nat} (hu : u < 20) (ha : at9 ≤ u) : tb_K (σ.set (t + 1) (.inl (5, 20, .inr (.inr (tb_cl g at9 u))))) t used n (tb_cl g at9 u) (tb_cl pa at9 u) (tb_cl qa at9 u) (tb_cl sz at9 u) (tb_cl fs at9 u) := by
  simp only [tb_cl_ci]
  refine h.go (fun i hi => ?_) (fun i j hi hj hn => ?_)
  · unfold tb_ci
    split
    · omega
    · split <;> omega
  · unfold tb_ci
    by_cases h1 : i = u
    · rw [if_pos h1, if_neg (by omega)]
      by_cases h2 : at9 ≤ j ∧ j < u
      · rw [if_pos h2]; omega
      · rw [if_neg h2]; omega
    · rw [if_neg h1]
      by_cases h2 : j = u
      · rw [if_pos h2]
        by_cases h3 : at9 ≤ i ∧ i < u
        · rw [if_pos h3]; omega
        · rw [if_neg h3]; omega
      · rw [if_neg h2]
        by_cases h3 : at9 ≤ i ∧ i < u
        · rw [if_pos h3]
          by_cases h4 : at9 ≤ j ∧ j < u
          · rw [if_pos h4]; omega
          · rw [if_neg h4]; omega
        · rw [if_neg h3]
          by_cases h4 : at9 ≤ j ∧ j < u
          · rw [if_pos h4]; omega
          · rw [if_neg h4]; omega
/-- A TABLE at t with these rows -/
def tb_T (σ : nq_S) (t : Nat) (rows : List nq_Rw) : Prop := ∃ used g pa qa sz fs, tb_K σ t used rows.length g pa qa sz fs ∧ used ≤ 20 ∧ (∀ i, i < used → 0 < sz i) ∧ (∀ i, used ≤ i → i < 20 → sz i = 0) ∧ rows = tb_rw sz fs 0 used ∧ rw_up rows ∧ rows.length ≤ 20
theorem tb_K.kept {σ σ' : nq_S} {t used n : Nat} {g : Nat → Option Nat} {pa qa sz : Nat → Nat} {fs : Nat → Nat → Int32} (h : tb_K σ t used n g pa qa sz fs) (hk : ∀ i, t ≤ i → i < t + 42 → σ'[i]? = σ[i]?) : tb_K σ' t used n g pa qa sz fs := by
  obtain ⟨h1, h2, h3, h4⟩ := h
  refine ⟨by rw [hk t (by omega) (by omega)]; exact h1, ⟨by rw [hk (t + 1) (by omega) (by omega)]; exact h2.1, fun i hi => ?_⟩, h3, h4⟩
  have h9 := h3 i hi
  obtain ⟨e1, e2, e3, e4⟩ := h2.2 i hi
  exact ⟨e1, by rw [hk _ (by omega) (by omega)]; exact e2, by rw [hk _ (by omega) (by omega)]; exact e3, e4⟩
theorem tb_T.kept {σ σ' : nq_S} {t : Nat} {rows : List nq_Rw} (h : tb_T σ t rows) (hk : ∀ i, t ≤ i → i < t + 42 → σ'[i]? = σ[i]?) : tb_T σ' t rows := by
  obtain ⟨used, g, pa, qa, sz, fs, h1, h2⟩ := h
  exact ⟨used, g, pa, qa, sz, fs, h1.kept hk, h2⟩
theorem tb_T.cell {σ : nq_S} {t : Nat} {rows : List nq_Rw} (h : tb_T σ t rows) : ∃ used, σ[t]? = some (.inr (5, [.ref (t + 1), .int (nI used), .int (nI rows.length)])) := by
  obtain ⟨used, g, pa, qa, sz, fs, h1, h2⟩ := h
  exact ⟨used, h1.1⟩
section TT
variable {G : nq_G} {d : Nat} {σ ρ : nq_S} {t used n p u : Nat} {g : Nat → Option Nat} {pa qa sz : Nat → Nat} {fs : Nat → Nat → Int32} {a b c : Int32} {Q : nq_Q} {rows : List nq_Rw}
theorem tb_ins_tail (hK : tb_K ρ t (u + 1) n g pa qa sz fs) (hp : p < 20) (h4 : sz p < 4) (hQ : Q (.inl none) (((ρ.set (qa p) (.inl (0, 12, .inl (pg_ins (fs p) (sz p) a b c)))).set (pa p) (.inr (2, [.ref (qa p), .int (nI (sz p + 1))]))).set t (.inr (5, [.ref (t + 1), .int (nI (u + 1)), .int (nI (n + 1))])))) :
    nq_J G (d + 2) 0 0 m_Table_insert 66 [some (.ref t), some (.int a), some (.int b), some (.int c), some (.int (nI p))] [] ρ Q := by
  have ht := hK.1
  have ha := hK.2.1.1
  have hr := hK.2.2.1 p hp
  obtain ⟨e1, e2, e3, e4⟩ := hK.2.1.2 p hp
  refine nq_aload_n (pc' := 67) d_Table_insert_66 rfl rfl rfl ?_
  refine nq_getf (pc' := 70) d_Table_insert_67 rfl fl_Table_11 (by first | assumption | exact nq_gs (by first | assumption | exact nq_gs (by first | assumption | exact nq_gs (by assumption) | exact nq_gn (by first | assumption | decide | omega | exact nq_ne1 (by assumption) (by assumption) | exact nq_ne2 (by assumption) (by assumption)) (by assumption)) | exact nq_gn (by first | assumption | decide | omega | exact nq_ne1 (by assumption) (by assumption) | exact nq_ne2 (by assumption) (by assumption)) (by first | assumption | exact nq_gs (by assumption) | exact nq_gn (by first | assumption | decide | omega | exact nq_ne1 (by assumption) (by assumption) | exact nq_ne2 (by assumption) (by assumption)) (by assumption))) | exact nq_gn (by first | assumption | decide | omega | exact nq_ne1 (by assumption) (by assumption) | exact nq_ne2 (by assumption) (by assumption)) (by first | assumption | exact nq_gs (by first | assumption | exact nq_gs (by assumption) | exact nq_gn (by first | assumption | decide | omega | exact nq_ne1 (by assumption) (by assumption) | exact nq_ne2 (by assumption) (by assumption)) (by assumption)) | exact nq_gn (by first | assumption | decide | omega | exact nq_ne1 (by assumption) (by assumption) | exact nq_ne2 (by assumption) (by assumption)) (by first | assumption | exact nq_gs (by assumption) | exact nq_gn (by first | assumption | decide | omega | exact nq_ne1 (by assumption) (by assumption) | exact nq_ne2 (by assumption) (by assumption)) (by assumption)))) rfl ?_
  refine nq_iload (pc' := 72) d_Table_insert_70 rfl rfl ?_
  refine nq_aaldR (pc' := 73) d_Table_insert_72 rfl (by first | assumption | exact nq_gs (by first | assumption | exact nq_gs (by first | assumption | exact nq_gs (by assumption) | exact nq_gn (by first | assumption | decide | omega | exact nq_ne1 (by assumption) (by assumption) | exact nq_ne2 (by assumption) (by assumption)) (by assumption)) | exact nq_gn (by first | assumption | decide | omega | exact nq_ne1 (by assumption) (by assumption) | exact nq_ne2 (by assumption) (by assumption)) (by first | assumption | exact nq_gs (by assumption) | exact nq_gn (by first | assumption | decide | omega | exact nq_ne1 (by assumption) (by assumption) | exact nq_ne2 (by assumption) (by assumption)) (by assumption))) | exact nq_gn (by first | assumption | decide | omega | exact nq_ne1 (by assumption) (by assumption) | exact nq_ne2 (by assumption) (by assumption)) (by first | assumption | exact nq_gs (by first | assumption | exact nq_gs (by assumption) | exact nq_gn (by first | assumption | decide | omega | exact nq_ne1 (by assumption) (by assumption) | exact nq_ne2 (by assumption) (by assumption)) (by assumption)) | exact nq_gn (by first | assumption | decide | omega | exact nq_ne1 (by assumption) (by assumption) | exact nq_ne2 (by assumption) (by assumption)) (by first | assumption | exact nq_gs (by assumption) | exact nq_gn (by first | assumption | decide | omega | exact nq_ne1 (by assumption) (by assumption) | exact nq_ne2 (by assumption) (by assumption)) (by assumption)))) rfl (j := p) rfl hp e1 (by decide) ?_
  refine nq_iload_n (pc' := 74) d_Table_insert_73 rfl rfl rfl ?_
  refine nq_iload_n (pc' := 75) d_Table_insert_74 rfl rfl rfl ?_
  refine nq_iload_n (pc' := 76) d_Table_insert_75 rfl rfl rfl ?_
  refine nq_callVR (pc' := 79) d_Table_insert_76 rfl cl_Table_60 rfl (by first | assumption | exact nq_gs (by first | assumption | exact nq_gs (by first | assumption | exact nq_gs (by assumption) | exact nq_gn (by first | assumption | decide | omega | exact nq_ne1 (by assumption) (by assumption) | exact nq_ne2 (by assumption) (by assumption)) (by assumption)) | exact nq_gn (by first | assumption | decide | omega | exact nq_ne1 (by assumption) (by assumption) | exact nq_ne2 (by assumption) (by assumption)) (by first | assumption | exact nq_gs (by assumption) | exact nq_gn (by first | assumption | decide | omega | exact nq_ne1 (by assumption) (by assumption) | exact nq_ne2 (by assumption) (by assumption)) (by assumption))) | exact nq_gn (by first | assumption | decide | omega | exact nq_ne1 (by assumption) (by assumption) | exact nq_ne2 (by assumption) (by assumption)) (by first | assumption | exact nq_gs (by first | assumption | exact nq_gs (by assumption) | exact nq_gn (by first | assumption | decide | omega | exact nq_ne1 (by assumption) (by assumption) | exact nq_ne2 (by assumption) (by assumption)) (by assumption)) | exact nq_gn (by first | assumption | decide | omega | exact nq_ne1 (by assumption) (by assumption) | exact nq_ne2 (by assumption) (by assumption)) (by first | assumption | exact nq_gs (by assumption) | exact nq_gn (by first | assumption | decide | omega | exact nq_ne1 (by assumption) (by assumption) | exact nq_ne2 (by assumption) (by assumption)) (by assumption)))) rfl rfl (kc := 0) (ks := 0) (mc' := 0) (ms' := 0) (As := [.int a, .int b, .int c]) (rest := []) rfl rfl (by decide) (k_Page_insert e2 e3 h4) ?_
  have ht' : ((ρ.set (qa p) (.inl (0, 12, .inl (pg_ins (fs p) (sz p) a b c)))).set (pa p) (.inr (2, [.ref (qa p), .int (nI (sz p + 1))])))[t]? = some (.inr (5, [.ref (t + 1), .int (nI (u + 1)), .int (nI n)])) := nq_gn (by omega) (nq_gn (by omega) ht)
  refine nq_aload_n (pc' := 80) d_Table_insert_79 rfl rfl rfl ?_
  refine nq_dup (pc' := 81) d_Table_insert_80 rfl rfl ?_
  refine nq_getf (pc' := 84) d_Table_insert_81 rfl fl_Table_18 (by first | assumption | exact nq_gs (by first | assumption | exact nq_gs (by first | assumption | exact nq_gs (by assumption) | exact nq_gn (by first | assumption | decide | omega | exact nq_ne1 (by assumption) (by assumption) | exact nq_ne2 (by assumption) (by assumption)) (by assumption)) | exact nq_gn (by first | assumption | decide | omega | exact nq_ne1 (by assumption) (by assumption) | exact nq_ne2 (by assumption) (by assumption)) (by first | assumption | exact nq_gs (by assumption) | exact nq_gn (by first | assumption | decide | omega | exact nq_ne1 (by assumption) (by assumption) | exact nq_ne2 (by assumption) (by assumption)) (by assumption))) | exact nq_gn (by first | assumption | decide | omega | exact nq_ne1 (by assumption) (by assumption) | exact nq_ne2 (by assumption) (by assumption)) (by first | assumption | exact nq_gs (by first | assumption | exact nq_gs (by assumption) | exact nq_gn (by first | assumption | decide | omega | exact nq_ne1 (by assumption) (by assumption) | exact nq_ne2 (by assumption) (by assumption)) (by assumption)) | exact nq_gn (by first | assumption | decide | omega | exact nq_ne1 (by assumption) (by assumption) | exact nq_ne2 (by assumption) (by assumption)) (by first | assumption | exact nq_gs (by assumption) | exact nq_gn (by first | assumption | decide | omega | exact nq_ne1 (by assumption) (by assumption) | exact nq_ne2 (by assumption) (by assumption)) (by assumption)))) rfl ?_
  refine nq_iconst (v := 1) (pc' := 85) d_Table_insert_84 rfl (by decide) ?_
  refine nq_iadd (pc' := 86) d_Table_insert_85 rfl ?_
  refine nq_putf (pc' := 89) d_Table_insert_86 rfl fl_Table_18 (by first | assumption | exact nq_gs (by first | assumption | exact nq_gs (by first | assumption | exact nq_gs (by assumption) | exact nq_gn (by first | assumption | decide | omega | exact nq_ne1 (by assumption) (by assumption) | exact nq_ne2 (by assumption) (by assumption)) (by assumption)) | exact nq_gn (by first | assumption | decide | omega | exact nq_ne1 (by assumption) (by assumption) | exact nq_ne2 (by assumption) (by assumption)) (by first | assumption | exact nq_gs (by assumption) | exact nq_gn (by first | assumption | decide | omega | exact nq_ne1 (by assumption) (by assumption) | exact nq_ne2 (by assumption) (by assumption)) (by assumption))) | exact nq_gn (by first | assumption | decide | omega | exact nq_ne1 (by assumption) (by assumption) | exact nq_ne2 (by assumption) (by assumption)) (by first | assumption | exact nq_gs (by first | assumption | exact nq_gs (by assumption) | exact nq_gn (by first | assumption | decide | omega | exact nq_ne1 (by assumption) (by assumption) | exact nq_ne2 (by assumption) (by assumption)) (by assumption)) | exact nq_gn (by first | assumption | decide | omega | exact nq_ne1 (by assumption) (by assumption) | exact nq_ne2 (by assumption) (by assumption)) (by first | assumption | exact nq_gs (by assumption) | exact nq_gn (by first | assumption | decide | omega | exact nq_ne1 (by assumption) (by assumption) | exact nq_ne2 (by assumption) (by assumption)) (by assumption)))) (Nat.le_of_ble_eq_true rfl) rfl rfl ?_
  refine nq_vret d_Table_insert_89 rfl (by rw [nI_1]; exact hQ)
theorem tb_ins_fin (hK : tb_K ρ t (u + 1) n g pa qa sz fs) (hpu : p ≤ u) (hu : u < 20) (h4 : sz p < 4) (hz : ∀ i, i ≤ u → i ≠ p → 0 < sz i) (hz0 : ∀ i, u < i → i < 20 → sz i = 0) (hup : rw_up (tb_rw sz fs 0 (u + 1))) (hno : ∀ x ∈ tb_rw sz fs 0 (u + 1), x.1 ≠ a) (hA : ∀ x ∈ tb_rw sz fs 0 p, x.1 < a) (hB : ∀ x ∈ tb_rw sz fs (p + 1) (u - p), a < x.1) (hn : n = (tb_rw sz fs 0 (u + 1)).length) (hn20 : n < 20) :
    tb_T (((ρ.set (qa p) (.inl (0, 12, .inl (pg_ins (fs p) (sz p) a b c)))).set (pa p) (.inr (2, [.ref (qa p), .int (nI (sz p + 1))]))).set t (.inr (5, [.ref (t + 1), .int (nI (u + 1)), .int (nI (n + 1))]))) t (rw_ins (a, b, c) (tb_rw sz fs 0 (u + 1))) := by
  have hcut := tb_rw_cut sz fs (p := p) (n := u + 1) (by omega)
  rw [show u + 1 - p - 1 = u - p by omega] at hcut
  have hle := pg_pos_le (fs p) a (sz p)
  have hlo := pg_pos_lo (fs p) a (sz p)
  have hhi := pg_pos_hi (fs p) a (sz p)
  have hrows := pg_ins_rows (fs p) (sz p) a b c
  have hP : rw_up (pg_rows (fs p) (sz p)) := by
    rw [hcut] at hup
    unfold rw_up at hup ⊢
    rw [List.pairwise_append, List.pairwise_append] at hup
    exact hup.2.1.1
  generalize hs : pg_pos (fs p) a (sz p) = s at hle hlo hhi hrows
  have h1 : ∀ x ∈ (pg_rows (fs p) (sz p)).take s, x.1 < a := by
    intro x hx
    obtain ⟨i, hi, rfl⟩ := List.mem_iff_getElem.mp hx
    rw [List.length_take, pg_len] at hi
    have hm : (pg_rows (fs p) (sz p))[i]'(by rw [pg_len]; omega) ∈ tb_rw sz fs 0 (u + 1) := by
      rw [hcut]
      exact List.mem_append_right _ (List.mem_append_left _ (List.getElem_mem _))
    have h8 := hno _ hm
    rw [List.getElem_take]
    refine Int32.lt_of_le_of_ne ?_ h8
    have h7 := hlo (by omega)
    by_cases h6 : i = s - 1
    · simp only [pg_rows, List.getElem_map, List.getElem_range, pg_row, h6]
      exact h7
    · have h5 := List.pairwise_iff_getElem.mp hP i (s - 1) (by rw [pg_len]; omega) (by rw [pg_len]; omega) (by omega)
      simp only [pg_rows, List.getElem_map, List.getElem_range, pg_row] at h5 ⊢
      exact Int32.le_of_lt (rw_i2 h5 h7)
  have h2 : ∀ x ∈ (pg_rows (fs p) (sz p)).drop s, a < x.1 := by
    intro x hx
    obtain ⟨i, hi, rfl⟩ := List.mem_iff_getElem.mp hx
    rw [List.length_drop, pg_len] at hi
    simp only [List.getElem_drop, pg_rows, List.getElem_map, List.getElem_range, pg_row]
    exact hhi (s + i) (by omega) (by omega)
  have hlr : tb_rw sz fs 0 (u + 1) = (tb_rw sz fs 0 p ++ (pg_rows (fs p) (sz p)).take s) ++ ((pg_rows (fs p) (sz p)).drop s ++ tb_rw sz fs (p + 1) (u - p)) := by
    rw [hcut, List.append_assoc, ← List.append_assoc (List.take _ _), List.take_append_drop]
  have hA' : ∀ x ∈ tb_rw sz fs 0 p ++ (pg_rows (fs p) (sz p)).take s, x.1 < a := fun x hx => (List.mem_append.mp hx).elim (hA x) (h1 x)
  have hB' : ∀ x ∈ (pg_rows (fs p) (sz p)).drop s ++ tb_rw sz fs (p + 1) (u - p), a < x.1 := fun x hx => (List.mem_append.mp hx).elim (h2 x) (hB x)
  have hins : rw_ins (a, b, c) (tb_rw sz fs 0 (u + 1)) = (tb_rw sz fs 0 p ++ (pg_rows (fs p) (sz p)).take s) ++ (a, b, c) :: ((pg_rows (fs p) (sz p)).drop s ++ tb_rw sz fs (p + 1) (u - p)) := by
    rw [hlr]
    exact rw_ins_at (fun x hx => Int32.not_lt.mpr (Int32.le_of_lt (hB' x hx))) _ hA'
  have hl := rw_ins_len (a, b, c) (tb_rw sz fs 0 (u + 1))
  have hK' := ((hK.pgf (p := p) (f' := pg_ins (fs p) (sz p) a b c) (by omega)).pgs (p := p) (n' := sz p + 1) (by omega) (by omega)).tt (u' := u + 1) (n' := n + 1)
  refine ⟨u + 1, g, pa, qa, va_up sz p (sz p + 1), va_up fs p (pg_ins (fs p) (sz p) a b c), by rw [hl, ← hn]; exact hK', by omega, fun i hi => ?_, fun i h5 h6 => ?_, ?_, ?_, by omega⟩
  · unfold va_up
    by_cases h9 : i = p
    · rw [if_pos h9]; omega
    · rw [if_neg h9]; exact hz i (by omega) h9
  · unfold va_up
    rw [if_neg (by omega)]
    exact hz0 i (by omega) h6
  · rw [hins, tb_rw_cut _ _ (p := p) (n := u + 1) (by omega), show u + 1 - p - 1 = u - p by omega]
    rw [tb_rw_va (p := 0) (k := p) (fun i hi => by omega), tb_rw_va (p := p + 1) (k := u - p) (fun i hi => by omega)]
    rw [show va_up fs p (pg_ins (fs p) (sz p) a b c) p = pg_ins (fs p) (sz p) a b c by unfold va_up; rw [if_pos rfl], show va_up sz p (sz p + 1) p = sz p + 1 by unfold va_up; rw [if_pos rfl], hrows]
    simp only [List.append_assoc, List.cons_append]
  · rw [hins]
    rw [hlr] at hup
    exact rw_up_ins hup hA' hB'
end TT
