/-! TABLES: the contracts by lists of rows -/
theorem nq_JM.mono {G : nq_G} {d mc ms : Nat} {y : nq_M} {av : List Value} {σ : nq_S} {Q Q' : nq_Q} (hM : nq_JM G d mc ms y av σ Q') (h : ∀ o σ', Q' o σ' → Q o σ') : nq_JM G d mc ms y av σ Q := by
  intro l hl ad sz p e ha hc hk s m args below h1 h2 h3 h4
  obtain ⟨t, o, a1, a2, a3, a4⟩ := hM l hl ad sz p e ha hc hk s m args below h1 h2 h3 h4
  refine ⟨t, o, a1, a2, a3, ?_⟩
  obtain ⟨σ', ad', L, e1, e2, e3⟩ := a4
  refine ⟨σ', ad', L, e1, e2, ?_⟩
  rcases e3 with ⟨v, f1, f2, f3⟩ | ⟨E, q, ce, f1, f2, f3⟩
  · exact Or.inl ⟨v, f1, h _ _ f2, f3⟩
  · exact Or.inr ⟨E, q, ce, f1, h _ _ f2, f3⟩
section TI
variable {G : nq_G} {d : Nat} {σ : nq_S} {t i c : Nat} {rows : List nq_Rw} {x y z : Int32}
theorem nI_inj {a b : Nat} (ha : a < 2 ^ 31) (hb : b < 2 ^ 31) (h : nI a = nI b) : a = b := by
  have h1 := (nI_leI ha hb).mp (by rw [h]; exact Int32.le_refl _)
  have h2 := (nI_leI hb ha).mp (by rw [h]; exact Int32.le_refl _)
  omega
theorem t_Table_size (h : tb_T σ t rows) : nq_JM G d 0 0 m_Table_size [.ref t] σ (nq_R (some (.int (nI rows.length))) σ) := by
  obtain ⟨used, hc⟩ := h.cell
  exact k_Table_size hc
theorem t_Table_isFull (h : tb_T σ t rows) : nq_JM G d 0 0 m_Table_isFull [.ref t] σ (nq_R (some (.int (if rows.length = 20 then 1 else 0))) σ) := by
  obtain ⟨used, g, pa, qa, sz, fs, h1, h2, h3, h4, h5, h6, h7⟩ := h
  have hk := k_Table_isFull (G := G) (d := d) h1.1
  by_cases h9 : rows.length = 20
  · rw [if_pos h9]
    rw [if_pos (by rw [h9]; rfl)] at hk
    exact hk
  · rw [if_neg h9]
    rw [if_neg (show ¬ nI rows.length = 20 from fun e => h9 (nI_inj (by omega) (by decide) (show nI rows.length = nI 20 from e)))] at hk
    exact hk
/-- where the row i lies -/
theorem tb_T.spot (h : tb_T σ t rows) (hi : i < rows.length) : ∃ u g pa qa sz fs p s, tb_K σ t (u + 1) rows.length g pa qa sz fs ∧ u < 20 ∧ (∀ i, i < u + 1 → 0 < sz i) ∧ (∀ i, u + 1 ≤ i → i < 20 → sz i = 0) ∧ rows = tb_rw sz fs 0 (u + 1) ∧ rw_up rows ∧ rows.length ≤ 20 ∧ tb_sp sz u 0 i = (p, s) ∧ p ≤ u ∧ s < sz p ∧ sz p ≤ 4 ∧ i = (tb_rw sz fs 0 p).length + s ∧ rows[i]? = some (pg_row (fs p) s) := by
  obtain ⟨used, g, pa, qa, sz, fs, h1, h2, h3, h4, h5, h6, h7⟩ := h
  cases used with
  | zero =>
    rw [h5, tb_rw] at hi
    cases hi
  | succ u =>
    obtain ⟨p, s, e1, e2, e3, e4, e5⟩ := tb_sp_at (sz := sz) (fs := fs) u 0 i (by rw [← h5]; exact hi)
    rw [Nat.zero_add] at e3
    rw [Nat.sub_zero] at e5
    refine ⟨u, g, pa, qa, sz, fs, p, s, h1, by omega, h3, h4, h5, h6, h7, e1, e3, e4, (h1.2.1.2 p (by omega)).2.2.2, e5, ?_⟩
    rw [h5, tb_rw_cut sz fs (p := p) (n := u + 1) (by omega), List.getElem?_append_right (by omega), List.getElem?_append_left (by rw [pg_len]; omega), show i - (tb_rw sz fs 0 p).length = s by omega, pg_at e4]
theorem t_Table_get {r : nq_Rw} (h : tb_T σ t rows) (hr : rows[i]? = some r) (hc : c < 3) : nq_JM G (d + 2) 0 0 m_Table_get [.ref t, .int (nI i), .int (nI c)] σ (nq_R (some (.int (rw_c r c))) σ) := by
  obtain ⟨u, g, pa, qa, sz, fs, p, s, h1, h2, h3, h4, h5, h6, h7, h8, h9, h10, h11, h12, h13⟩ := h.spot (List.getElem?_eq_some_iff.mp hr).1
  have hi := (List.getElem?_eq_some_iff.mp hr).1
  rw [h13] at hr
  cases hr
  rw [pg_row_c hc]
  exact k_Table_get h1.1 h1.2.1 h2 (by omega) h8 (by omega) (by omega) hc
theorem t_Table_copyRow {r : nq_Rw} {a m b : Nat} {f : Nat → Int32} (h : tb_T σ t rows) (hr : rows[i]? = some r) (hA : σ[a]? = some (.inl (0, m, .inl f))) (hb : b + 3 ≤ m) (hm : m < 100000) :
    nq_JM G (d + 2) 0 0 m_Table_copyRow [.ref t, .int (nI i), .ref a, .int (nI b)] σ (nq_R none (σ.set a (.inl (0, m, .inl (upd (upd (upd f b r.1) (b + 1) r.2.1) (b + 2) r.2.2))))) := by
  obtain ⟨u, g, pa, qa, sz, fs, p, s, h1, h2, h3, h4, h5, h6, h7, h8, h9, h10, h11, h12, h13⟩ := h.spot (List.getElem?_eq_some_iff.mp hr).1
  have hi := (List.getElem?_eq_some_iff.mp hr).1
  rw [h13] at hr
  cases hr
  have hk := k_Table_copyRow (G := G) (d := d) h1.1 h1.2.1 h2 (show i < 1000 by omega) h8 (by omega) (by omega) hA hb hm
  have e : va_cpy (fs p) f (s * 3) b 3 = upd (upd (upd f b (pg_row (fs p) s).1) (b + 1) (pg_row (fs p) s).2.1) (b + 2) (pg_row (fs p) s).2.2 := by
    funext k
    unfold va_cpy upd pg_row
    by_cases q1 : k = b + 2
    · rw [if_pos (by omega), if_pos q1, q1]
      congr 1
      omega
    rw [if_neg q1]
    by_cases q2 : k = b + 1
    · rw [if_pos (by omega), if_pos q2, q2]
      congr 1
      omega
    rw [if_neg q2]
    by_cases q3 : k = b
    · rw [if_pos (by omega), if_pos q3, q3]
      congr 1
      omega
    rw [if_neg q3, if_neg (by omega)]
  rw [e] at hk
  exact hk
theorem rw_up_set {rs : List nq_Rw} {r r' : nq_Rw} {j : Nat} (h : rw_up rs) (hr : rs[j]? = some r) (hk : r'.1 = r.1) : rw_up (rs.set j r') := by
  unfold rw_up at h ⊢
  rw [List.pairwise_iff_getElem] at h ⊢
  intro a b ha hb hab
  rw [List.length_set] at ha hb
  have h9 := h a b ha hb hab
  obtain ⟨hj, hr⟩ := List.getElem?_eq_some_iff.mp hr
  rw [List.getElem_set, List.getElem_set]
  by_cases q1 : j = a
  · subst q1
    rw [if_pos rfl, if_neg (by omega), hk, ← hr]
    exact h9
  · rw [if_neg q1]
    by_cases q2 : j = b
    · subst q2
      rw [if_pos rfl, hk, ← hr]
      exact h9
    · rw [if_neg q2]
      exact h9
theorem rw_s_key {r : nq_Rw} {x : Int32} (h : 0 < c) : (rw_s r c x).1 = r.1 := by
  match c, h with
  | 1, _ => rfl
  | c + 2, _ => rfl
theorem t_Table_put {r : nq_Rw} (h : tb_T σ t rows) (hr : rows[i]? = some r) (hc : c < 3) (hc0 : 0 < c) : nq_JM G (d + 2) 0 0 m_Table_put [.ref t, .int (nI i), .int (nI c), .int x] σ (fun o σ' => o = .inl none ∧ tb_T σ' t (rows.set i (rw_s r c x)) ∧ nq_fm t (t + 42) σ σ') := by
  obtain ⟨u, g, pa, qa, sz, fs, p, s, h1, h2, h3, h4, h5, h6, h7, h8, h9, h10, h11, h12, h13⟩ := h.spot (List.getElem?_eq_some_iff.mp hr).1
  have hi := (List.getElem?_eq_some_iff.mp hr).1
  have hr0 := hr
  rw [h13] at hr
  cases hr
  have hk := k_Table_put (G := G) (d := d) (x := x) h1.1 h1.2.1 h2 (show i < 1000 by omega) h8 (by omega) (by omega) hc
  have hw := h1.2.2.1 p (by omega)
  refine hk.mono fun o σ' hq => ?_
  obtain ⟨rfl, rfl⟩ := hq
  refine ⟨rfl, ⟨u + 1, g, pa, qa, sz, va_up fs p (upd (fs p) (s * 3 + c) x), by rw [List.length_set]; exact h1.pgf (by omega), by omega, h3, h4, ?_, rw_up_set h6 hr0 (rw_s_key hc0), by rw [List.length_set]; exact h7⟩, nq_fm.rf.st (by omega) (by omega)⟩
  rw [tb_rw_cut sz (va_up fs p _) (p := p) (n := u + 1) (by omega), tb_rw_vf (p := 0) (k := p) (fun i hi => by omega), tb_rw_vf (p := p + 1) (k := u + 1 - p - 1) (fun i hi => by omega), show va_up fs p (upd (fs p) (s * 3 + c) x) p = upd (fs p) (s * 3 + c) x by unfold va_up; rw [if_pos rfl], pg_put_rows h10 hc, h5, tb_rw_cut sz fs (p := p) (n := u + 1) (by omega), h12, List.set_append_right _ _ (by omega), List.set_append_left _ _ (by rw [pg_len]; omega), show (tb_rw sz fs 0 p).length + s - (tb_rw sz fs 0 p).length = s by omega]
theorem t_Table_holds {key : Int32} (h : tb_T σ t rows) : nq_JM G (d + 2) 0 0 m_Table_holds [.ref t, .int key] σ (fun o σ' => σ' = σ ∧ (((∃ r ∈ rows, r.1 = key) ∧ o = .inl (some (.int 1))) ∨ ((∀ r ∈ rows, r.1 ≠ key) ∧ o = .inl (some (.int 0))))) := by
  obtain ⟨used, g, pa, qa, sz, fs, h1, h2, h3, h4, h5, h6, h7⟩ := h
  cases used with
  | zero =>
    refine (k_Table_holds0 (G := G) (d := d + 2) (key := key) h1.1).mono fun o σ' hq => ?_
    obtain ⟨rfl, rfl⟩ := hq
    refine ⟨rfl, Or.inr ⟨fun r hr => ?_, rfl⟩⟩
    rw [h5, tb_rw] at hr
    cases hr
  | succ u =>
    have hle := tb_pf_le fs key u
    rw [h5] at h6
    obtain ⟨c1, c2⟩ := tb_cut (a := key) (fun i hi => h3 i (by omega)) h6
    refine (k_Table_holds (G := G) (d := d) (key := key) h1.1 h1.2.1 (by omega)).mono fun o σ' hq => ?_
    obtain ⟨rfl, hq⟩ := hq
    have hcut := tb_rw_cut sz fs (p := tb_pf fs key u) (n := u + 1) (by omega)
    rw [show u + 1 - tb_pf fs key u - 1 = u - tb_pf fs key u by omega] at hcut
    refine ⟨rfl, hq.imp (fun q => ⟨?_, q.2⟩) (fun q => ⟨fun r hr e => ?_, q.2⟩)⟩
    · obtain ⟨⟨s, hs, e⟩, -⟩ := q
      refine ⟨pg_row (fs (tb_pf fs key u)) s, ?_, e⟩
      rw [h5, hcut]
      exact List.mem_append_right _ (List.mem_append_left _ (pg_mem.mpr ⟨s, hs, rfl⟩))
    · rw [h5, hcut] at hr
      rcases List.mem_append.mp hr with hr | hr
      · have h9 := c1 r hr
        rw [e] at h9
        exact Int32.lt_irrefl h9
      rcases List.mem_append.mp hr with hr | hr
      · obtain ⟨s, hs, rfl⟩ := pg_mem.mp hr
        exact q.1 ⟨s, hs, e⟩
      · have h9 := c2 r hr
        rw [e] at h9
        exact Int32.lt_irrefl h9
theorem t_Table_insert (h : tb_T σ t rows) (hno : ∀ r ∈ rows, r.1 ≠ x) (h20 : rows.length < 20) :
    nq_JM G (d + 2) 0 0 m_Table_insert [.ref t, .int x, .int y, .int z] σ (fun o σ' => o = .inl none ∧ tb_T σ' t (rw_ins (x, y, z) rows) ∧ nq_fm t (t + 42) σ σ') := by
  obtain ⟨used, g, pa, qa, sz, fs, h1, h2, h3, h4, h5, h6, h7⟩ := h
  have ht := h1.1
  have ha := h1.2.1.1
  cases used with
  | zero =>
    have hr0 : rows = [] := h5
    subst hr0
    have hK := (h1.op (at9 := 0) (by decide) (Nat.le_refl _)).tt (u' := 1) (n' := 0)
    have hw : tb_op pa 0 0 = pa ∧ tb_op qa 0 0 = qa ∧ tb_op sz 0 0 = sz ∧ tb_op fs 0 0 = fs := by
      have hw0 : ∀ {α : Type} (f : Nat → α), tb_op f 0 0 = f := fun f => by
        funext i
        unfold tb_op
        by_cases e : i = 0
        · rw [if_pos e, e]
        · rw [if_neg e, if_neg (by omega)]
      exact ⟨hw0 _, hw0 _, hw0 _, hw0 _⟩
    rw [hw.1, hw.2.1, hw.2.2.1, hw.2.2.2] at hK
    have s0 := h4 0 (by omega) (by omega)
    have hx := h1.2.2.1 0 (by omega)
    refine nq_mk' (lv := [some (.ref t), some (.int x), some (.int y), some (.int z), none]) (by decide +kernel) rfl (Nat.le_of_ble_eq_true rfl) rfl ?_
    refine nq_aload_n (pc' := 1) d_Table_insert_0 rfl rfl rfl ?_
    refine nq_getf (pc' := 4) d_Table_insert_1 rfl fl_Table_22 (by first | assumption | exact nq_gs (by first | assumption | exact nq_gs (by first | assumption | exact nq_gs (by assumption) | exact nq_gn (by first | assumption | decide | omega | exact nq_ne1 (by assumption) (by assumption) | exact nq_ne2 (by assumption) (by assumption)) (by assumption)) | exact nq_gn (by first | assumption | decide | omega | exact nq_ne1 (by assumption) (by assumption) | exact nq_ne2 (by assumption) (by assumption)) (by first | assumption | exact nq_gs (by assumption) | exact nq_gn (by first | assumption | decide | omega | exact nq_ne1 (by assumption) (by assumption) | exact nq_ne2 (by assumption) (by assumption)) (by assumption))) | exact nq_gn (by first | assumption | decide | omega | exact nq_ne1 (by assumption) (by assumption) | exact nq_ne2 (by assumption) (by assumption)) (by first | assumption | exact nq_gs (by first | assumption | exact nq_gs (by assumption) | exact nq_gn (by first | assumption | decide | omega | exact nq_ne1 (by assumption) (by assumption) | exact nq_ne2 (by assumption) (by assumption)) (by assumption)) | exact nq_gn (by first | assumption | decide | omega | exact nq_ne1 (by assumption) (by assumption) | exact nq_ne2 (by assumption) (by assumption)) (by first | assumption | exact nq_gs (by assumption) | exact nq_gn (by first | assumption | decide | omega | exact nq_ne1 (by assumption) (by assumption) | exact nq_ne2 (by assumption) (by assumption)) (by assumption)))) rfl ?_
    refine nq_if_ne (pc' := 7) (tgt := 12) d_Table_insert_4 rfl (by decide) (fun h => absurd rfl h) (fun h => ?_)
    refine nq_aload_n (pc' := 8) d_Table_insert_7 rfl rfl rfl ?_
    refine nq_iconst (v := 0) (pc' := 9) d_Table_insert_8 rfl (by decide) ?_
    refine nq_callVR (pc' := 12) d_Table_insert_9 rfl cl_Table_48 rfl (by first | assumption | exact nq_gs (by first | assumption | exact nq_gs (by first | assumption | exact nq_gs (by assumption) | exact nq_gn (by first | assumption | decide | omega | exact nq_ne1 (by assumption) (by assumption) | exact nq_ne2 (by assumption) (by assumption)) (by assumption)) | exact nq_gn (by first | assumption | decide | omega | exact nq_ne1 (by assumption) (by assumption) | exact nq_ne2 (by assumption) (by assumption)) (by first | assumption | exact nq_gs (by assumption) | exact nq_gn (by first | assumption | decide | omega | exact nq_ne1 (by assumption) (by assumption) | exact nq_ne2 (by assumption) (by assumption)) (by assumption))) | exact nq_gn (by first | assumption | decide | omega | exact nq_ne1 (by assumption) (by assumption) | exact nq_ne2 (by assumption) (by assumption)) (by first | assumption | exact nq_gs (by first | assumption | exact nq_gs (by assumption) | exact nq_gn (by first | assumption | decide | omega | exact nq_ne1 (by assumption) (by assumption) | exact nq_ne2 (by assumption) (by assumption)) (by assumption)) | exact nq_gn (by first | assumption | decide | omega | exact nq_ne1 (by assumption) (by assumption) | exact nq_ne2 (by assumption) (by assumption)) (by first | assumption | exact nq_gs (by assumption) | exact nq_gn (by first | assumption | decide | omega | exact nq_ne1 (by assumption) (by assumption) | exact nq_ne2 (by assumption) (by assumption)) (by assumption)))) rfl rfl (kc := 0) (ks := 0) (mc' := 0) (ms' := 0) (As := [.int 0]) (rest := []) rfl rfl (by decide) (k_Table_openPage (at9 := 0) (used := 0) ht h1.2.1 (by decide) (by decide)) ?_
    have ht1 := hK.1
    have ha1 := hK.2.1.1
    generalize hρ : ((σ.set (t + 1) (.inl (5, 20, .inr (.inr (tb_op g 0 0))))).set t (.inr (5, [.ref (t + 1), .int (nI (0 + 1)), .int (nI ([] : List nq_Rw).length)]))) = ρ
    have hf : nq_fm t (t + 42) σ ρ := by
      rw [← hρ]
      exact (nq_fm.rf.st (by omega) (by omega)).st (by omega) (by omega)
    have hK1 : tb_K ρ t 1 0 (tb_op g 0 0) pa qa sz fs := by
      rw [← hρ]
      exact hK
    clear hK ht1 ha1
    have ht1 := hK1.1
    have ha1 := hK1.2.1.1
    obtain ⟨e1, e2, e3, e4⟩ := hK1.2.1.2 0 (by decide)
    refine nq_aload_n (pc' := 13) d_Table_insert_12 rfl rfl rfl ?_
    refine nq_iload_n (pc' := 14) d_Table_insert_13 rfl rfl rfl ?_
    refine nq_callVR (pc' := 17) d_Table_insert_14 rfl cl_Table_25 rfl (by first | assumption | exact nq_gs (by first | assumption | exact nq_gs (by first | assumption | exact nq_gs (by assumption) | exact nq_gn (by first | assumption | decide | omega | exact nq_ne1 (by assumption) (by assumption) | exact nq_ne2 (by assumption) (by assumption)) (by assumption)) | exact nq_gn (by first | assumption | decide | omega | exact nq_ne1 (by assumption) (by assumption) | exact nq_ne2 (by assumption) (by assumption)) (by first | assumption | exact nq_gs (by assumption) | exact nq_gn (by first | assumption | decide | omega | exact nq_ne1 (by assumption) (by assumption) | exact nq_ne2 (by assumption) (by assumption)) (by assumption))) | exact nq_gn (by first | assumption | decide | omega | exact nq_ne1 (by assumption) (by assumption) | exact nq_ne2 (by assumption) (by assumption)) (by first | assumption | exact nq_gs (by first | assumption | exact nq_gs (by assumption) | exact nq_gn (by first | assumption | decide | omega | exact nq_ne1 (by assumption) (by assumption) | exact nq_ne2 (by assumption) (by assumption)) (by assumption)) | exact nq_gn (by first | assumption | decide | omega | exact nq_ne1 (by assumption) (by assumption) | exact nq_ne2 (by assumption) (by assumption)) (by first | assumption | exact nq_gs (by assumption) | exact nq_gn (by first | assumption | decide | omega | exact nq_ne1 (by assumption) (by assumption) | exact nq_ne2 (by assumption) (by assumption)) (by assumption)))) rfl rfl (kc := 0) (ks := 0) (mc' := 0) (ms' := 0) (As := [.int x]) (rest := []) rfl rfl (by decide) (k_Table_pageFor (used := 0) ht1 hK1.2.1 (by decide)) ?_
    refine nq_istore (pc' := 19) d_Table_insert_17 rfl (by decide) rfl ?_
    refine nq_aload_n (pc' := 20) d_Table_insert_19 rfl rfl rfl ?_
    refine nq_getf (pc' := 23) d_Table_insert_20 rfl fl_Table_11 (by first | assumption | exact nq_gs (by first | assumption | exact nq_gs (by first | assumption | exact nq_gs (by assumption) | exact nq_gn (by first | assumption | decide | omega | exact nq_ne1 (by assumption) (by assumption) | exact nq_ne2 (by assumption) (by assumption)) (by assumption)) | exact nq_gn (by first | assumption | decide | omega | exact nq_ne1 (by assumption) (by assumption) | exact nq_ne2 (by assumption) (by assumption)) (by first | assumption | exact nq_gs (by assumption) | exact nq_gn (by first | assumption | decide | omega | exact nq_ne1 (by assumption) (by assumption) | exact nq_ne2 (by assumption) (by assumption)) (by assumption))) | exact nq_gn (by first | assumption | decide | omega | exact nq_ne1 (by assumption) (by assumption) | exact nq_ne2 (by assumption) (by assumption)) (by first | assumption | exact nq_gs (by first | assumption | exact nq_gs (by assumption) | exact nq_gn (by first | assumption | decide | omega | exact nq_ne1 (by assumption) (by assumption) | exact nq_ne2 (by assumption) (by assumption)) (by assumption)) | exact nq_gn (by first | assumption | decide | omega | exact nq_ne1 (by assumption) (by assumption) | exact nq_ne2 (by assumption) (by assumption)) (by first | assumption | exact nq_gs (by assumption) | exact nq_gn (by first | assumption | decide | omega | exact nq_ne1 (by assumption) (by assumption) | exact nq_ne2 (by assumption) (by assumption)) (by assumption)))) rfl ?_
    refine nq_iload (pc' := 25) d_Table_insert_23 rfl rfl ?_
    refine nq_aaldR (pc' := 26) d_Table_insert_25 rfl (by first | assumption | exact nq_gs (by first | assumption | exact nq_gs (by first | assumption | exact nq_gs (by assumption) | exact nq_gn (by first | assumption | decide | omega | exact nq_ne1 (by assumption) (by assumption) | exact nq_ne2 (by assumption) (by assumption)) (by assumption)) | exact nq_gn (by first | assumption | decide | omega | exact nq_ne1 (by assumption) (by assumption) | exact nq_ne2 (by assumption) (by assumption)) (by first | assumption | exact nq_gs (by assumption) | exact nq_gn (by first | assumption | decide | omega | exact nq_ne1 (by assumption) (by assumption) | exact nq_ne2 (by assumption) (by assumption)) (by assumption))) | exact nq_gn (by first | assumption | decide | omega | exact nq_ne1 (by assumption) (by assumption) | exact nq_ne2 (by assumption) (by assumption)) (by first | assumption | exact nq_gs (by first | assumption | exact nq_gs (by assumption) | exact nq_gn (by first | assumption | decide | omega | exact nq_ne1 (by assumption) (by assumption) | exact nq_ne2 (by assumption) (by assumption)) (by assumption)) | exact nq_gn (by first | assumption | decide | omega | exact nq_ne1 (by assumption) (by assumption) | exact nq_ne2 (by assumption) (by assumption)) (by first | assumption | exact nq_gs (by assumption) | exact nq_gn (by first | assumption | decide | omega | exact nq_ne1 (by assumption) (by assumption) | exact nq_ne2 (by assumption) (by assumption)) (by assumption)))) rfl (j := 0) rfl (by decide) e1 (by decide) ?_
    refine nq_callVR (pc' := 29) d_Table_insert_26 rfl cl_Table_52 rfl (by first | assumption | exact nq_gs (by first | assumption | exact nq_gs (by first | assumption | exact nq_gs (by assumption) | exact nq_gn (by first | assumption | decide | omega | exact nq_ne1 (by assumption) (by assumption) | exact nq_ne2 (by assumption) (by assumption)) (by assumption)) | exact nq_gn (by first | assumption | decide | omega | exact nq_ne1 (by assumption) (by assumption) | exact nq_ne2 (by assumption) (by assumption)) (by first | assumption | exact nq_gs (by assumption) | exact nq_gn (by first | assumption | decide | omega | exact nq_ne1 (by assumption) (by assumption) | exact nq_ne2 (by assumption) (by assumption)) (by assumption))) | exact nq_gn (by first | assumption | decide | omega | exact nq_ne1 (by assumption) (by assumption) | exact nq_ne2 (by assumption) (by assumption)) (by first | assumption | exact nq_gs (by first | assumption | exact nq_gs (by assumption) | exact nq_gn (by first | assumption | decide | omega | exact nq_ne1 (by assumption) (by assumption) | exact nq_ne2 (by assumption) (by assumption)) (by assumption)) | exact nq_gn (by first | assumption | decide | omega | exact nq_ne1 (by assumption) (by assumption) | exact nq_ne2 (by assumption) (by assumption)) (by first | assumption | exact nq_gs (by assumption) | exact nq_gn (by first | assumption | decide | omega | exact nq_ne1 (by assumption) (by assumption) | exact nq_ne2 (by assumption) (by assumption)) (by assumption)))) rfl rfl (kc := 0) (ks := 0) (mc' := 0) (ms' := 0) (As := []) (rest := []) rfl rfl (by decide) (k_Page_isFull e2) ?_
    rw [if_neg (show ¬ nI (sz 0) = 4 by rw [s0]; decide)]
    refine nq_if_eq (pc' := 32) (tgt := 66) d_Table_insert_29 rfl (by decide) (fun h => ?_) (fun h => absurd rfl h)
    refine tb_ins_tail (u := 0) (n := 0) (p := 0) hK1 (by decide) (by omega) ?_
    have hfin := tb_ins_fin (u := 0) (n := 0) (p := 0) (a := x) (b := y) (c := z) hK1 (Nat.le_refl _) (by decide) (by omega) (fun i q1 q2 => absurd (by omega) q2) (fun i q1 q2 => h4 i (by omega) q2) (by rw [tb_rw, tb_rw, s0]; exact List.Pairwise.nil) (by rw [tb_rw, tb_rw, s0]; exact fun x hx => by cases hx) (by rw [tb_rw]; exact fun x hx => by cases hx) (by rw [tb_rw]; exact fun x hx => by cases hx) (by rw [tb_rw, tb_rw, s0]; rfl) (by decide)
    rw [show tb_rw sz fs 0 (0 + 1) = [] by rw [tb_rw, tb_rw, s0]; rfl] at hfin
    exact ⟨rfl, hfin, ((hf.st (by omega) (by omega)).st (by omega) (by omega)).st (by omega) (by omega)⟩
  | succ u =>
    have hle := tb_pf_le fs x u
    have hlen := tb_rw_len (sz := sz) (fs := fs) (u + 1) 0 (fun i _ hi => h3 i (by omega))
    rw [← h5] at hlen
    have hx := h1.2.2.1
    obtain ⟨c1, c2⟩ := tb_cut (a := x) (sz := sz) (fs := fs) (u := u) (fun i hi => h3 i (by omega)) (by rw [← h5]; exact h6)
    obtain ⟨e1, e2, e3, e4⟩ := h1.2.1.2 (tb_pf fs x u) (by omega)
    refine nq_mk' (lv := [some (.ref t), some (.int x), some (.int y), some (.int z), none]) (by decide +kernel) rfl (Nat.le_of_ble_eq_true rfl) rfl ?_
    refine nq_aload_n (pc' := 1) d_Table_insert_0 rfl rfl rfl ?_
    refine nq_getf (pc' := 4) d_Table_insert_1 rfl fl_Table_22 (by first | assumption | exact nq_gs (by first | assumption | exact nq_gs (by first | assumption | exact nq_gs (by assumption) | exact nq_gn (by first | assumption | decide | omega | exact nq_ne1 (by assumption) (by assumption) | exact nq_ne2 (by assumption) (by assumption)) (by assumption)) | exact nq_gn (by first | assumption | decide | omega | exact nq_ne1 (by assumption) (by assumption) | exact nq_ne2 (by assumption) (by assumption)) (by first | assumption | exact nq_gs (by assumption) | exact nq_gn (by first | assumption | decide | omega | exact nq_ne1 (by assumption) (by assumption) | exact nq_ne2 (by assumption) (by assumption)) (by assumption))) | exact nq_gn (by first | assumption | decide | omega | exact nq_ne1 (by assumption) (by assumption) | exact nq_ne2 (by assumption) (by assumption)) (by first | assumption | exact nq_gs (by first | assumption | exact nq_gs (by assumption) | exact nq_gn (by first | assumption | decide | omega | exact nq_ne1 (by assumption) (by assumption) | exact nq_ne2 (by assumption) (by assumption)) (by assumption)) | exact nq_gn (by first | assumption | decide | omega | exact nq_ne1 (by assumption) (by assumption) | exact nq_ne2 (by assumption) (by assumption)) (by first | assumption | exact nq_gs (by assumption) | exact nq_gn (by first | assumption | decide | omega | exact nq_ne1 (by assumption) (by assumption) | exact nq_ne2 (by assumption) (by assumption)) (by assumption)))) rfl ?_
    refine nq_if_ne (pc' := 7) (tgt := 12) d_Table_insert_4 rfl (by decide) (fun h => ?_) (fun h => absurd h (nI_ne0 (by omega) (by omega)))
    refine nq_aload_n (pc' := 13) d_Table_insert_12 rfl rfl rfl ?_
    refine nq_iload_n (pc' := 14) d_Table_insert_13 rfl rfl rfl ?_
    refine nq_callVR (pc' := 17) d_Table_insert_14 rfl cl_Table_25 rfl (by first | assumption | exact nq_gs (by first | assumption | exact nq_gs (by first | assumption | exact nq_gs (by assumption) | exact nq_gn (by first | assumption | decide | omega | exact nq_ne1 (by assumption) (by assumption) | exact nq_ne2 (by assumption) (by assumption)) (by assumption)) | exact nq_gn (by first | assumption | decide | omega | exact nq_ne1 (by assumption) (by assumption) | exact nq_ne2 (by assumption) (by assumption)) (by first | assumption | exact nq_gs (by assumption) | exact nq_gn (by first | assumption | decide | omega | exact nq_ne1 (by assumption) (by assumption) | exact nq_ne2 (by assumption) (by assumption)) (by assumption))) | exact nq_gn (by first | assumption | decide | omega | exact nq_ne1 (by assumption) (by assumption) | exact nq_ne2 (by assumption) (by assumption)) (by first | assumption | exact nq_gs (by first | assumption | exact nq_gs (by assumption) | exact nq_gn (by first | assumption | decide | omega | exact nq_ne1 (by assumption) (by assumption) | exact nq_ne2 (by assumption) (by assumption)) (by assumption)) | exact nq_gn (by first | assumption | decide | omega | exact nq_ne1 (by assumption) (by assumption) | exact nq_ne2 (by assumption) (by assumption)) (by first | assumption | exact nq_gs (by assumption) | exact nq_gn (by first | assumption | decide | omega | exact nq_ne1 (by assumption) (by assumption) | exact nq_ne2 (by assumption) (by assumption)) (by assumption)))) rfl rfl (kc := 0) (ks := 0) (mc' := 0) (ms' := 0) (As := [.int x]) (rest := []) rfl rfl (by decide) (k_Table_pageFor ht h1.2.1 (by omega)) ?_
    refine nq_istore (pc' := 19) d_Table_insert_17 rfl (by decide) rfl ?_
    refine nq_aload_n (pc' := 20) d_Table_insert_19 rfl rfl rfl ?_
    refine nq_getf (pc' := 23) d_Table_insert_20 rfl fl_Table_11 (by first | assumption | exact nq_gs (by first | assumption | exact nq_gs (by first | assumption | exact nq_gs (by assumption) | exact nq_gn (by first | assumption | decide | omega | exact nq_ne1 (by assumption) (by assumption) | exact nq_ne2 (by assumption) (by assumption)) (by assumption)) | exact nq_gn (by first | assumption | decide | omega | exact nq_ne1 (by assumption) (by assumption) | exact nq_ne2 (by assumption) (by assumption)) (by first | assumption | exact nq_gs (by assumption) | exact nq_gn (by first | assumption | decide | omega | exact nq_ne1 (by assumption) (by assumption) | exact nq_ne2 (by assumption) (by assumption)) (by assumption))) | exact nq_gn (by first | assumption | decide | omega | exact nq_ne1 (by assumption) (by assumption) | exact nq_ne2 (by assumption) (by assumption)) (by first | assumption | exact nq_gs (by first | assumption | exact nq_gs (by assumption) | exact nq_gn (by first | assumption | decide | omega | exact nq_ne1 (by assumption) (by assumption) | exact nq_ne2 (by assumption) (by assumption)) (by assumption)) | exact nq_gn (by first | assumption | decide | omega | exact nq_ne1 (by assumption) (by assumption) | exact nq_ne2 (by assumption) (by assumption)) (by first | assumption | exact nq_gs (by assumption) | exact nq_gn (by first | assumption | decide | omega | exact nq_ne1 (by assumption) (by assumption) | exact nq_ne2 (by assumption) (by assumption)) (by assumption)))) rfl ?_
    refine nq_iload (pc' := 25) d_Table_insert_23 rfl rfl ?_
    refine nq_aaldR (pc' := 26) d_Table_insert_25 rfl (by first | assumption | exact nq_gs (by first | assumption | exact nq_gs (by first | assumption | exact nq_gs (by assumption) | exact nq_gn (by first | assumption | decide | omega | exact nq_ne1 (by assumption) (by assumption) | exact nq_ne2 (by assumption) (by assumption)) (by assumption)) | exact nq_gn (by first | assumption | decide | omega | exact nq_ne1 (by assumption) (by assumption) | exact nq_ne2 (by assumption) (by assumption)) (by first | assumption | exact nq_gs (by assumption) | exact nq_gn (by first | assumption | decide | omega | exact nq_ne1 (by assumption) (by assumption) | exact nq_ne2 (by assumption) (by assumption)) (by assumption))) | exact nq_gn (by first | assumption | decide | omega | exact nq_ne1 (by assumption) (by assumption) | exact nq_ne2 (by assumption) (by assumption)) (by first | assumption | exact nq_gs (by first | assumption | exact nq_gs (by assumption) | exact nq_gn (by first | assumption | decide | omega | exact nq_ne1 (by assumption) (by assumption) | exact nq_ne2 (by assumption) (by assumption)) (by assumption)) | exact nq_gn (by first | assumption | decide | omega | exact nq_ne1 (by assumption) (by assumption) | exact nq_ne2 (by assumption) (by assumption)) (by first | assumption | exact nq_gs (by assumption) | exact nq_gn (by first | assumption | decide | omega | exact nq_ne1 (by assumption) (by assumption) | exact nq_ne2 (by assumption) (by assumption)) (by assumption)))) rfl (j := tb_pf fs x u) rfl (by omega) e1 (by decide) ?_
    refine nq_callVR (pc' := 29) d_Table_insert_26 rfl cl_Table_52 rfl (by first | assumption | exact nq_gs (by first | assumption | exact nq_gs (by first | assumption | exact nq_gs (by assumption) | exact nq_gn (by first | assumption | decide | omega | exact nq_ne1 (by assumption) (by assumption) | exact nq_ne2 (by assumption) (by assumption)) (by assumption)) | exact nq_gn (by first | assumption | decide | omega | exact nq_ne1 (by assumption) (by assumption) | exact nq_ne2 (by assumption) (by assumption)) (by first | assumption | exact nq_gs (by assumption) | exact nq_gn (by first | assumption | decide | omega | exact nq_ne1 (by assumption) (by assumption) | exact nq_ne2 (by assumption) (by assumption)) (by assumption))) | exact nq_gn (by first | assumption | decide | omega | exact nq_ne1 (by assumption) (by assumption) | exact nq_ne2 (by assumption) (by assumption)) (by first | assumption | exact nq_gs (by first | assumption | exact nq_gs (by assumption) | exact nq_gn (by first | assumption | decide | omega | exact nq_ne1 (by assumption) (by assumption) | exact nq_ne2 (by assumption) (by assumption)) (by assumption)) | exact nq_gn (by first | assumption | decide | omega | exact nq_ne1 (by assumption) (by assumption) | exact nq_ne2 (by assumption) (by assumption)) (by first | assumption | exact nq_gs (by assumption) | exact nq_gn (by first | assumption | decide | omega | exact nq_ne1 (by assumption) (by assumption) | exact nq_ne2 (by assumption) (by assumption)) (by assumption)))) rfl rfl (kc := 0) (ks := 0) (mc' := 0) (ms' := 0) (As := []) (rest := []) rfl rfl (by decide) (k_Page_isFull e2) ?_
    by_cases hfull : sz (tb_pf fs x u) = 4
    · rw [if_pos (show nI (sz (tb_pf fs x u)) = 4 by rw [hfull]; rfl)]
      refine nq_if_eq (pc' := 32) (tgt := 66) d_Table_insert_29 rfl (by decide) (fun h => absurd h (by decide)) (fun h => ?_)
      have hroom : u + 1 + 3 ≤ rows.length := by
        rw [h5, tb_rw_cut sz fs (p := tb_pf fs x u) (n := u + 1) (by omega), List.length_append, List.length_append, pg_len, hfull]
        have q1 := tb_rw_len (sz := sz) (fs := fs) (tb_pf fs x u) 0 (fun i _ hi => h3 i (by omega))
        have q2 := tb_rw_len (sz := sz) (fs := fs) (u + 1 - tb_pf fs x u - 1) (tb_pf fs x u + 1) (fun i q hi => h3 i (by omega))
        omega
      have hlo := tb_pf_lo fs x u
      have hhi := tb_pf_hi fs x u
      refine nq_aload_n (pc' := 33) d_Table_insert_32 rfl rfl rfl ?_
      refine nq_iload (pc' := 35) d_Table_insert_33 rfl rfl ?_
      refine nq_iconst (v := 1) (pc' := 36) d_Table_insert_35 rfl (by decide) ?_
      refine nq_iadd (pc' := 37) d_Table_insert_36 rfl ?_
      rw [nI_1]
      refine nq_callVR (pc' := 40) d_Table_insert_37 rfl cl_Table_48 rfl (by first | assumption | exact nq_gs (by first | assumption | exact nq_gs (by first | assumption | exact nq_gs (by assumption) | exact nq_gn (by first | assumption | decide | omega | exact nq_ne1 (by assumption) (by assumption) | exact nq_ne2 (by assumption) (by assumption)) (by assumption)) | exact nq_gn (by first | assumption | decide | omega | exact nq_ne1 (by assumption) (by assumption) | exact nq_ne2 (by assumption) (by assumption)) (by first | assumption | exact nq_gs (by assumption) | exact nq_gn (by first | assumption | decide | omega | exact nq_ne1 (by assumption) (by assumption) | exact nq_ne2 (by assumption) (by assumption)) (by assumption))) | exact nq_gn (by first | assumption | decide | omega | exact nq_ne1 (by assumption) (by assumption) | exact nq_ne2 (by assumption) (by assumption)) (by first | assumption | exact nq_gs (by first | assumption | exact nq_gs (by assumption) | exact nq_gn (by first | assumption | decide | omega | exact nq_ne1 (by assumption) (by assumption) | exact nq_ne2 (by assumption) (by assumption)) (by assumption)) | exact nq_gn (by first | assumption | decide | omega | exact nq_ne1 (by assumption) (by assumption) | exact nq_ne2 (by assumption) (by assumption)) (by first | assumption | exact nq_gs (by assumption) | exact nq_gn (by first | assumption | decide | omega | exact nq_ne1 (by assumption) (by assumption) | exact nq_ne2 (by assumption) (by assumption)) (by assumption)))) rfl rfl (kc := 0) (ks := 0) (mc' := 0) (ms' := 0) (As := [.int (nI (tb_pf fs x u + 1))]) (rest := []) rfl rfl (by decide) (k_Table_openPage (at9 := tb_pf fs x u + 1) (used := u + 1) ht h1.2.1 (by omega) (by omega)) ?_
      generalize tb_pf fs x u = p at hle hlo hhi c1 c2 e1 e2 e3 e4 hfull
      have hK := (h1.op (at9 := p + 1) (show u + 1 < 20 by omega) (by omega)).tt (u' := u + 2) (n' := rows.length)
      generalize hρ : ((σ.set (t + 1) (.inl (5, 20, .inr (.inr (tb_op g (p + 1) (u + 1)))))).set t (.inr (5, [.ref (t + 1), .int (nI (u + 1 + 1)), .int (nI rows.length)]))) = ρ
      have hf : nq_fm t (t + 42) σ ρ := by
        rw [← hρ]
        exact (nq_fm.rf.st (by omega) (by omega)).st (by omega) (by omega)
      have hK1 : tb_K ρ t (u + 2) rows.length (tb_op g (p + 1) (u + 1)) (tb_op pa (p + 1) (u + 1)) (tb_op qa (p + 1) (u + 1)) (tb_op sz (p + 1) (u + 1)) (tb_op fs (p + 1) (u + 1)) := by
        rw [← hρ]
        exact hK
      clear hK
      have o1 : ∀ {α : Type} (f : Nat → α) (i : Nat), i < p + 1 → tb_op f (p + 1) (u + 1) i = f i := fun f i hi => by
        unfold tb_op
        rw [if_neg (by omega), if_neg (by omega)]
      have o2 : ∀ {α : Type} (f : Nat → α), tb_op f (p + 1) (u + 1) (p + 1) = f (u + 1) := fun f => by
        unfold tb_op
        rw [if_pos rfl]
      have o3 : ∀ {α : Type} (f : Nat → α) (i : Nat), p + 1 < i → i ≤ u + 1 → tb_op f (p + 1) (u + 1) i = f (i - 1) := fun f i hi hj => by
        unfold tb_op
        rw [if_neg (by omega), if_pos (by omega)]
      have o4 : ∀ {α : Type} (f : Nat → α) (i : Nat), u + 1 < i → tb_op f (p + 1) (u + 1) i = f i := fun f i hi => by
        unfold tb_op
        rw [if_neg (by omega), if_neg (by omega)]
      have hs0 : tb_op sz (p + 1) (u + 1) p = 4 := by rw [o1 _ _ (by omega), hfull]
      have hfp : tb_op fs (p + 1) (u + 1) p = fs p := o1 _ _ (by omega)
      generalize hg' : tb_op g (p + 1) (u + 1) = g' at hK1
      generalize hpa' : tb_op pa (p + 1) (u + 1) = pa' at hK1
      generalize hqa' : tb_op qa (p + 1) (u + 1) = qa' at hK1
      have hpo1 : ∀ i, i < p + 1 → tb_op sz (p + 1) (u + 1) i = sz i ∧ tb_op fs (p + 1) (u + 1) i = fs i := fun i hi => ⟨o1 _ _ hi, o1 _ _ hi⟩
      have hpo3 : ∀ i, p + 1 < i → i ≤ u + 1 → tb_op sz (p + 1) (u + 1) i = sz (i - 1) ∧ tb_op fs (p + 1) (u + 1) i = fs (i - 1) := fun i hi hj => ⟨o3 _ _ hi hj, o3 _ _ hi hj⟩
      have hpo4 : ∀ i, u + 1 < i → tb_op sz (p + 1) (u + 1) i = sz i := fun i hi => o4 _ _ hi
      generalize hsz' : tb_op sz (p + 1) (u + 1) = sz' at hK1 hs0 hpo1 hpo3 hpo4
      generalize hfs' : tb_op fs (p + 1) (u + 1) = fs' at hK1 hfp hpo1 hpo3
      have ht1 := hK1.1
      have ha1 := hK1.2.1.1
      have hx1 := hK1.2.2.1
      obtain ⟨f1, f2, f3, f4⟩ := hK1.2.1.2 p (by omega)
      obtain ⟨g1, g2, g3, g4⟩ := hK1.2.1.2 (p + 1) (by omega)
      have hop : pa' (p + 1) ≠ pa' p := (hK1.2.2.2 (p + 1) p (by omega) (by omega) (by omega)).1
      refine nq_aload_n (pc' := 41) d_Table_insert_40 rfl rfl rfl ?_
      refine nq_getf (pc' := 44) d_Table_insert_41 rfl fl_Table_11 (by first | assumption | exact nq_gs (by first | assumption | exact nq_gs (by first | assumption | exact nq_gs (by assumption) | exact nq_gn (by first | assumption | decide | omega | exact nq_ne1 (by assumption) (by assumption) | exact nq_ne2 (by assumption) (by assumption)) (by assumption)) | exact nq_gn (by first | assumption | decide | omega | exact nq_ne1 (by assumption) (by assumption) | exact nq_ne2 (by assumption) (by assumption)) (by first | assumption | exact nq_gs (by assumption) | exact nq_gn (by first | assumption | decide | omega | exact nq_ne1 (by assumption) (by assumption) | exact nq_ne2 (by assumption) (by assumption)) (by assumption))) | exact nq_gn (by first | assumption | decide | omega | exact nq_ne1 (by assumption) (by assumption) | exact nq_ne2 (by assumption) (by assumption)) (by first | assumption | exact nq_gs (by first | assumption | exact nq_gs (by assumption) | exact nq_gn (by first | assumption | decide | omega | exact nq_ne1 (by assumption) (by assumption) | exact nq_ne2 (by assumption) (by assumption)) (by assumption)) | exact nq_gn (by first | assumption | decide | omega | exact nq_ne1 (by assumption) (by assumption) | exact nq_ne2 (by assumption) (by assumption)) (by first | assumption | exact nq_gs (by assumption) | exact nq_gn (by first | assumption | decide | omega | exact nq_ne1 (by assumption) (by assumption) | exact nq_ne2 (by assumption) (by assumption)) (by assumption)))) rfl ?_
      refine nq_iload (pc' := 46) d_Table_insert_44 rfl rfl ?_
      refine nq_aaldR (pc' := 47) d_Table_insert_46 rfl (by first | assumption | exact nq_gs (by first | assumption | exact nq_gs (by first | assumption | exact nq_gs (by assumption) | exact nq_gn (by first | assumption | decide | omega | exact nq_ne1 (by assumption) (by assumption) | exact nq_ne2 (by assumption) (by assumption)) (by assumption)) | exact nq_gn (by first | assumption | decide | omega | exact nq_ne1 (by assumption) (by assumption) | exact nq_ne2 (by assumption) (by assumption)) (by first | assumption | exact nq_gs (by assumption) | exact nq_gn (by first | assumption | decide | omega | exact nq_ne1 (by assumption) (by assumption) | exact nq_ne2 (by assumption) (by assumption)) (by assumption))) | exact nq_gn (by first | assumption | decide | omega | exact nq_ne1 (by assumption) (by assumption) | exact nq_ne2 (by assumption) (by assumption)) (by first | assumption | exact nq_gs (by first | assumption | exact nq_gs (by assumption) | exact nq_gn (by first | assumption | decide | omega | exact nq_ne1 (by assumption) (by assumption) | exact nq_ne2 (by assumption) (by assumption)) (by assumption)) | exact nq_gn (by first | assumption | decide | omega | exact nq_ne1 (by assumption) (by assumption) | exact nq_ne2 (by assumption) (by assumption)) (by first | assumption | exact nq_gs (by assumption) | exact nq_gn (by first | assumption | decide | omega | exact nq_ne1 (by assumption) (by assumption) | exact nq_ne2 (by assumption) (by assumption)) (by assumption)))) rfl (j := p) rfl (by omega) f1 (by decide) ?_
      refine nq_aload_n (pc' := 48) d_Table_insert_47 rfl rfl rfl ?_
      refine nq_getf (pc' := 51) d_Table_insert_48 rfl fl_Table_11 (by first | assumption | exact nq_gs (by first | assumption | exact nq_gs (by first | assumption | exact nq_gs (by assumption) | exact nq_gn (by first | assumption | decide | omega | exact nq_ne1 (by assumption) (by assumption) | exact nq_ne2 (by assumption) (by assumption)) (by assumption)) | exact nq_gn (by first | assumption | decide | omega | exact nq_ne1 (by assumption) (by assumption) | exact nq_ne2 (by assumption) (by assumption)) (by first | assumption | exact nq_gs (by assumption) | exact nq_gn (by first | assumption | decide | omega | exact nq_ne1 (by assumption) (by assumption) | exact nq_ne2 (by assumption) (by assumption)) (by assumption))) | exact nq_gn (by first | assumption | decide | omega | exact nq_ne1 (by assumption) (by assumption) | exact nq_ne2 (by assumption) (by assumption)) (by first | assumption | exact nq_gs (by first | assumption | exact nq_gs (by assumption) | exact nq_gn (by first | assumption | decide | omega | exact nq_ne1 (by assumption) (by assumption) | exact nq_ne2 (by assumption) (by assumption)) (by assumption)) | exact nq_gn (by first | assumption | decide | omega | exact nq_ne1 (by assumption) (by assumption) | exact nq_ne2 (by assumption) (by assumption)) (by first | assumption | exact nq_gs (by assumption) | exact nq_gn (by first | assumption | decide | omega | exact nq_ne1 (by assumption) (by assumption) | exact nq_ne2 (by assumption) (by assumption)) (by assumption)))) rfl ?_
      refine nq_iload (pc' := 53) d_Table_insert_51 rfl rfl ?_
      refine nq_iconst (v := 1) (pc' := 54) d_Table_insert_53 rfl (by decide) ?_
      refine nq_iadd (pc' := 55) d_Table_insert_54 rfl ?_
      rw [nI_1]
      refine nq_aaldR (pc' := 56) d_Table_insert_55 rfl (by first | assumption | exact nq_gs (by first | assumption | exact nq_gs (by first | assumption | exact nq_gs (by assumption) | exact nq_gn (by first | assumption | decide | omega | exact nq_ne1 (by assumption) (by assumption) | exact nq_ne2 (by assumption) (by assumption)) (by assumption)) | exact nq_gn (by first | assumption | decide | omega | exact nq_ne1 (by assumption) (by assumption) | exact nq_ne2 (by assumption) (by assumption)) (by first | assumption | exact nq_gs (by assumption) | exact nq_gn (by first | assumption | decide | omega | exact nq_ne1 (by assumption) (by assumption) | exact nq_ne2 (by assumption) (by assumption)) (by assumption))) | exact nq_gn (by first | assumption | decide | omega | exact nq_ne1 (by assumption) (by assumption) | exact nq_ne2 (by assumption) (by assumption)) (by first | assumption | exact nq_gs (by first | assumption | exact nq_gs (by assumption) | exact nq_gn (by first | assumption | decide | omega | exact nq_ne1 (by assumption) (by assumption) | exact nq_ne2 (by assumption) (by assumption)) (by assumption)) | exact nq_gn (by first | assumption | decide | omega | exact nq_ne1 (by assumption) (by assumption) | exact nq_ne2 (by assumption) (by assumption)) (by first | assumption | exact nq_gs (by assumption) | exact nq_gn (by first | assumption | decide | omega | exact nq_ne1 (by assumption) (by assumption) | exact nq_ne2 (by assumption) (by assumption)) (by assumption)))) rfl (j := p + 1) rfl (by omega) g1 (by decide) ?_
      rw [hs0] at f2
      refine nq_callVR (pc' := 59) d_Table_insert_56 rfl cl_Table_56 rfl (by first | assumption | exact nq_gs (by first | assumption | exact nq_gs (by first | assumption | exact nq_gs (by assumption) | exact nq_gn (by first | assumption | decide | omega | exact nq_ne1 (by assumption) (by assumption) | exact nq_ne2 (by assumption) (by assumption)) (by assumption)) | exact nq_gn (by first | assumption | decide | omega | exact nq_ne1 (by assumption) (by assumption) | exact nq_ne2 (by assumption) (by assumption)) (by first | assumption | exact nq_gs (by assumption) | exact nq_gn (by first | assumption | decide | omega | exact nq_ne1 (by assumption) (by assumption) | exact nq_ne2 (by assumption) (by assumption)) (by assumption))) | exact nq_gn (by first | assumption | decide | omega | exact nq_ne1 (by assumption) (by assumption) | exact nq_ne2 (by assumption) (by assumption)) (by first | assumption | exact nq_gs (by first | assumption | exact nq_gs (by assumption) | exact nq_gn (by first | assumption | decide | omega | exact nq_ne1 (by assumption) (by assumption) | exact nq_ne2 (by assumption) (by assumption)) (by assumption)) | exact nq_gn (by first | assumption | decide | omega | exact nq_ne1 (by assumption) (by assumption) | exact nq_ne2 (by assumption) (by assumption)) (by first | assumption | exact nq_gs (by assumption) | exact nq_gn (by first | assumption | decide | omega | exact nq_ne1 (by assumption) (by assumption) | exact nq_ne2 (by assumption) (by assumption)) (by assumption)))) rfl rfl (kc := 0) (ks := 0) (mc' := 0) (ms' := 0) (As := [.ref (pa' (p + 1))]) (rest := []) rfl rfl (by decide) (k_Page_giveUpperHalf (n := 4) f2 f3 g2 g3 (by decide) hop) ?_
      have hK2 := ((hK1.pgs (p := p + 1) (n' := 4 - 4 / 2) (by omega) (by decide)).pgf (p := p + 1) (f' := va_cpy (fs' p) (fs' (p + 1)) (4 / 2 * 3) 0 ((4 - 4 / 2) * 3)) (by omega)).pgs (p := p) (n' := 4 / 2) (by omega) (by decide)
      generalize hρ2 : (((ρ.set (pa' (p + 1)) (.inr (2, [.ref (qa' (p + 1)), .int (nI (4 - 4 / 2))]))).set (qa' (p + 1)) (.inl (0, 12, .inl (va_cpy (fs' p) (fs' (p + 1)) (4 / 2 * 3) 0 ((4 - 4 / 2) * 3))))).set (pa' p) (.inr (2, [.ref (qa' p), .int (nI (4 / 2))]))) = ρ2 at hK2
      have hxp := hx1 p (by omega)
      have hxq := hx1 (p + 1) (by omega)
      have hf2 : nq_fm t (t + 42) σ ρ2 := by
        rw [← hρ2]
        exact ((hf.st (by omega) (by omega)).st (by omega) (by omega)).st (by omega) (by omega)
      have s1 : ∀ i, va_up (va_up sz' (p + 1) (4 - 4 / 2)) p (4 / 2) i = if i = p then 2 else if i = p + 1 then 2 else sz' i := fun i => rfl
      have s2 : ∀ i, va_up fs' (p + 1) (va_cpy (fs' p) (fs' (p + 1)) (4 / 2 * 3) 0 ((4 - 4 / 2) * 3)) i = if i = p + 1 then va_cpy (fs' p) (fs' (p + 1)) (4 / 2 * 3) 0 ((4 - 4 / 2) * 3) else fs' i := fun i => rfl
      generalize hsz2 : va_up (va_up sz' (p + 1) (4 - 4 / 2)) p (4 / 2) = sz2 at hK2 s1
      generalize hfs2 : va_up fs' (p + 1) (va_cpy (fs' p) (fs' (p + 1)) (4 / 2 * 3) 0 ((4 - 4 / 2) * 3)) = fs2 at hK2 s2
      have hrw : tb_rw sz2 fs2 0 (u + 2) = rows := by
        rw [h5, tb_rw_cut sz2 fs2 (p := p) (n := u + 2) (by omega), tb_rw_cut sz fs (p := p) (n := u + 1) (by omega), show u + 2 - p - 1 = (u + 1 - p - 1) + 1 by omega, tb_rw]
        rw [tb_rw_sh (sz := sz) (fs := fs) (sz' := sz2) (fs' := fs2) p 0 0 (fun i hi => by rw [s1, s2, if_neg (by omega), if_neg (by omega), if_neg (by omega), (hpo1 _ (by omega)).1, (hpo1 _ (by omega)).2])]
        rw [tb_rw_sh (sz := sz) (fs := fs) (sz' := sz2) (fs' := fs2) (u + 1 - p - 1) (p + 1 + 1) (p + 1) (fun i hi => by rw [s1, s2, if_neg (by omega), if_neg (by omega), if_neg (by omega), (hpo3 _ (by omega) (by omega)).1, (hpo3 _ (by omega) (by omega)).2, show p + 1 + 1 + i - 1 = p + 1 + i by omega])]
        have v1 : sz2 p = 2 := by rw [s1, if_pos rfl]
        have v2 : sz2 (p + 1) = 2 := by rw [s1, if_neg (Nat.succ_ne_self p), if_pos rfl]
        have v3 : fs2 p = fs p := by rw [s2, if_neg (Nat.succ_ne_self p).symm, hfp]
        have v4 : fs2 (p + 1) = va_cpy (fs p) (fs' (p + 1)) (4 / 2 * 3) 0 ((4 - 4 / 2) * 3) := by rw [s2, if_pos rfl, hfp]
        rw [← List.append_assoc (pg_rows (fs2 p) (sz2 p)), v1, v2, v3, v4, hfull]
        rw [pg_low (f := fs p) (n := 4) (m := 2) (by decide), show pg_rows (va_cpy (fs p) (fs' (p + 1)) (4 / 2 * 3) 0 ((4 - 4 / 2) * 3)) 2 = (pg_rows (fs p) 4).drop 2 from pg_high (f := fs p) (n := 4) (m := 2) (by decide), List.take_append_drop]
      have hz2 : ∀ i, i ≤ u + 1 → 0 < sz2 i := fun i hi => by
        rw [s1]
        by_cases q1 : i = p
        · rw [if_pos q1]; decide
        rw [if_neg q1]
        by_cases q2 : i = p + 1
        · rw [if_pos q2]; decide
        rw [if_neg q2]
        by_cases q3 : i < p + 1
        · rw [(hpo1 i q3).1]; exact h3 i (by omega)
        · rw [(hpo3 i (by omega) hi).1]; exact h3 _ (by omega)
      have hle2 := tb_pf_le fs2 x (u + 1)
      have hup2 : rw_up (tb_rw sz2 fs2 0 (u + 1 + 1)) := by
        rw [show u + 1 + 1 = u + 2 from rfl, hrw]
        exact h6
      obtain ⟨k1, k2⟩ := tb_cut (a := x) (sz := sz2) (fs := fs2) (u := u + 1) hz2 hup2
      have hlo2 := tb_pf_lo fs2 x (u + 1)
      have hhi2 := tb_pf_hi fs2 x (u + 1)
      have ht2 := hK2.1
      have ha2 := hK2.2.1.1
      refine nq_aload_n (pc' := 60) d_Table_insert_59 rfl rfl rfl ?_
      refine nq_iload_n (pc' := 61) d_Table_insert_60 rfl rfl rfl ?_
      refine nq_callVR (pc' := 64) d_Table_insert_61 rfl cl_Table_25 rfl (by first | assumption | exact nq_gs (by first | assumption | exact nq_gs (by first | assumption | exact nq_gs (by assumption) | exact nq_gn (by first | assumption | decide | omega | exact nq_ne1 (by assumption) (by assumption) | exact nq_ne2 (by assumption) (by assumption)) (by assumption)) | exact nq_gn (by first | assumption | decide | omega | exact nq_ne1 (by assumption) (by assumption) | exact nq_ne2 (by assumption) (by assumption)) (by first | assumption | exact nq_gs (by assumption) | exact nq_gn (by first | assumption | decide | omega | exact nq_ne1 (by assumption) (by assumption) | exact nq_ne2 (by assumption) (by assumption)) (by assumption))) | exact nq_gn (by first | assumption | decide | omega | exact nq_ne1 (by assumption) (by assumption) | exact nq_ne2 (by assumption) (by assumption)) (by first | assumption | exact nq_gs (by first | assumption | exact nq_gs (by assumption) | exact nq_gn (by first | assumption | decide | omega | exact nq_ne1 (by assumption) (by assumption) | exact nq_ne2 (by assumption) (by assumption)) (by assumption)) | exact nq_gn (by first | assumption | decide | omega | exact nq_ne1 (by assumption) (by assumption) | exact nq_ne2 (by assumption) (by assumption)) (by first | assumption | exact nq_gs (by assumption) | exact nq_gn (by first | assumption | decide | omega | exact nq_ne1 (by assumption) (by assumption) | exact nq_ne2 (by assumption) (by assumption)) (by assumption)))) rfl rfl (kc := 0) (ks := 0) (mc' := 0) (ms' := 0) (As := [.int x]) (rest := []) rfl rfl (by decide) (k_Table_pageFor (used := u + 1) ht2 hK2.2.1 (by omega)) ?_
      generalize tb_pf fs2 x (u + 1) = p2 at hle2 k1 k2 hlo2 hhi2
      have hp2 : p2 = p ∨ p2 = p + 1 := by
        rcases Nat.lt_trichotomy p2 p with q | q | q
        · have q1 := hhi2 p q (by omega)
          rw [s2, if_neg (by omega), hfp] at q1
          exact absurd q1 (Int32.not_lt.mpr (hlo (by omega)))
        · exact Or.inl q
        · rcases Nat.lt_or_eq_of_le (Nat.succ_le_of_lt q) with q5 | q5
          · have q1 := hlo2 (by omega)
            rw [s2, if_neg (by omega), (hpo3 p2 (by omega) (by omega)).2] at q1
            exact absurd (hhi (p2 - 1) (by omega) (by omega)) (Int32.not_lt.mpr q1)
          · exact Or.inr q5.symm
      have hs2 : sz2 p2 = 2 := by
        rw [s1]
        rcases hp2 with q | q
        · rw [if_pos q]
        · rw [if_neg (by omega), if_pos q]
      refine nq_istore (pc' := 66) d_Table_insert_64 rfl (by decide) rfl ?_
      refine tb_ins_tail (u := u + 1) (p := p2) hK2 (by omega) (by omega) ?_
      have hfin := tb_ins_fin (u := u + 1) (p := p2) (a := x) (b := y) (c := z) hK2 hle2 (by omega) (by omega) (fun i q1 q2 => hz2 i q1) (fun i q1 q2 => by rw [s1, if_neg (by omega), if_neg (by omega), hpo4 i q1]; exact h4 i (by omega) q2) hup2 (by rw [show u + 1 + 1 = u + 2 from rfl, hrw]; exact hno) k1 k2 (by rw [show u + 1 + 1 = u + 2 from rfl, hrw]) (by omega)
      rw [show u + 1 + 1 = u + 2 from rfl, hrw] at hfin
      have hxx := hK2.2.2.1 p2 (by omega)
      exact ⟨rfl, hfin, ((hf2.st (by omega) (by omega)).st (by omega) (by omega)).st (by omega) (by omega)⟩
    · rw [if_neg (show ¬ nI (sz (tb_pf fs x u)) = 4 from fun e => hfull (nI_inj (by omega) (by decide) (show nI (sz (tb_pf fs x u)) = nI 4 from e)))]
      refine nq_if_eq (pc' := 32) (tgt := 66) d_Table_insert_29 rfl (by decide) (fun h => ?_) (fun h => absurd rfl h)
      refine tb_ins_tail (p := tb_pf fs x u) h1 (by omega) (by omega) ?_
      have hfin := tb_ins_fin (a := x) (b := y) (c := z) h1 hle (by omega) (by omega) (fun i q1 q2 => h3 i (by omega)) (fun i q1 q2 => h4 i (by omega) q2) (by rw [← h5]; exact h6) (by rw [← h5]; exact hno) c1 c2 (by rw [← h5]) h20
      rw [← h5] at hfin
      have hxx := hx (tb_pf fs x u) (by omega)
      exact ⟨rfl, hfin, ((nq_fm.rf.st (by omega) (by omega)).st (by omega) (by omega)).st (by omega) (by omega)⟩
end TI
