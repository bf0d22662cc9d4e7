/-! THE STORE: keep, value, row -/
section QG
variable {G : nq_G} {d : Nat} {σ : nq_S} {sp : Nat} {tb old : sx_T} {R ch nn : Nat → Int32} {es : List nq_Er} {size width : Int32} {kp : Nat → Option sp_St}
theorem qs_X.spare {sp' : Nat} {bg nt st fi : Int32} (h : qs_X σ sp bg nt st fi tb R ch nn es size width) : qs_X (σ.set 0 (qs_F sp' bg nt st fi)) sp' bg nt st fi tb R ch nn es size width := by
  obtain ⟨h1, ⟨g, h2, h2'⟩, ⟨h3, h3'⟩, h4, h5, h6, h7, h8⟩ := h
  exact ⟨nq_gs h1, ⟨g, nq_gn (by decide) h2, h2'⟩, ⟨h3, fun t ht => (h3' t ht).kept (fun i a b => List.getElem?_set_ne (by omega))⟩, nq_gn (by decide) h4, nq_gn (by decide) h5, h6.kept (List.getElem?_set_ne (by decide)) (List.getElem?_set_ne (by decide)) (List.getElem?_set_ne (by decide)) (List.getElem?_set_ne (by decide)), nq_gn (by decide) h7, nq_gn (by decide) h8⟩
/-- the spare code goes into the place k, sp' is spare then -/
theorem qs_P.keep {k sp' : Nat} {s : sp_St} {σ' : nq_S} {g : Nat → Option Nat} {Ls : List nq_In} {Hs : List Value} (hk : k < 4) (p2 : ∀ k, k < 4 → (kp k = none → g k = none) ∧ ∀ s, kp k = some s → ∃ c, g k = some c ∧ qs_C σ c s) (p6 : ∀ k c, k < 4 → g k = some c → c + 4 ≤ sp ∨ sp + 4 ≤ c) (p7 : ∀ k k' c c', k < 4 → k' < 4 → k ≠ k' → g k = some c → g k' = some c' → c + 4 ≤ c' ∨ c' + 4 ≤ c) (hC : qs_C σ sp s) (e : ∀ i, ((14 ≤ i ∧ i < 18) ∨ (288 ≤ i ∧ i < σ.length)) → σ'[i]? = σ[i]?) (h11 : σ'[11]? = some (.inl (6, 4, .inr (.inr (va_up g k (some sp)))))) (q3 : cd_C σ' sp' (sp' + 1) (sp' + 2) (sp' + 3) Ls Hs) (q4 : Hs.length = 9) (q5 : sp' = 14 ∨ 288 ≤ sp') (q6 : sp' + 4 ≤ sp ∨ sp + 4 ≤ sp') (q7 : ∀ k' c, k' < 4 → k' ≠ k → g k' = some c → c + 4 ≤ sp' ∨ sp' + 4 ≤ c) : qs_P σ' sp' (fun i => if i = k then some s else kp i) := by
  have up : ∀ i, va_up g k (some sp) i = if i = k then some sp else g i := fun i => rfl
  refine ⟨_, h11, fun i hi => ?_, ⟨Ls, Hs, q3, q4, q5⟩, fun i c hi hc => ?_, fun i i' c c' hi hi' hn hc hc' => ?_⟩
  · rw [up]
    simp only
    by_cases h : i = k
    · rw [if_pos h, if_pos h]
      refine ⟨fun h => (by cases h), fun s' hs => ?_⟩
      cases hs
      have := hC.1.lt
      have := hC.2.2
      exact ⟨sp, rfl, hC.of (fun j a b => e j (by omega))⟩
    · rw [if_neg h, if_neg h]
      refine ⟨(p2 i hi).1, fun s' hs => ?_⟩
      obtain ⟨c, c1, c2⟩ := (p2 i hi).2 s' hs
      have := c2.1.lt
      have := c2.2.2
      exact ⟨c, c1, c2.of (fun j a b => e j (by omega))⟩
  · rw [up] at hc
    by_cases h : i = k
    · rw [if_pos h] at hc
      cases hc
      omega
    · rw [if_neg h] at hc
      exact q7 i c hi h hc
  · rw [up] at hc hc'
    by_cases h : i = k
    · rw [if_pos h] at hc
      rw [if_neg (by omega)] at hc'
      cases hc
      have := p6 i' c' hi' hc'
      omega
    · rw [if_neg h] at hc
      by_cases h' : i' = k
      · rw [if_pos h'] at hc'
        cases hc'
        exact p6 i c hi hc
      · rw [if_neg h'] at hc'
        exact p7 i i' c c' hi hi' hn hc hc'
theorem k_QS_keep {k : Int32} {S : sx_S} (hR : qs_R σ S) (hD : 24 ≤ d) (hl9 : σ.length < 890000) : nq_JM G d 5 163 m_QS_keep [.ref 0, .int k] σ (ca_Q σ (sx_keep k S)) := by
  obtain ⟨d, rfl⟩ : ∃ d', d = d' + 1 := ⟨d - 1, by omega⟩
  obtain ⟨T, pl, kp, tb, old, bg, nt, dn, fl, res, w⟩ := S
  have hR' := hR
  obtain ⟨h0, hw, sp, R, ch, nn, es, width, hX, hr, hB, ⟨e0, a0, cv, cols, f, t1, t2, t3, t4⟩, hP⟩ := hR
  obtain ⟨g, p1, p2, ⟨Ls, Hs, p3, p4, p5⟩, p6, p7⟩ := id hP
  have h1 := hX.1
  unfold sx_keep
  simp only
  refine nq_mk' (lv := [some (.ref 0), some (.int k), none]) (by decide +kernel) rfl (Nat.le_of_ble_eq_true rfl) rfl ?_
  refine nq_iload_n (pc' := 1) d_QS_keep_0 rfl rfl rfl ?_
  refine nq_callS (pc' := 4) d_QS_keep_1 rfl cl_QS_63 st_QS_63 rfl (kc := 5) (ks := 163) (mc' := 0) (ms' := 0) (As := [.int k]) (rest := []) rfl rfl (by decide) k_QS_refuseBadNumber (fun E σ1 hq => ?_) (fun x σ1 hq => ?_)
  · obtain ⟨rfl, hq⟩ := hq
    by_cases hk : k < 0 ∨ 4 ≤ k
    · rw [if_pos hk] at hq ⊢
      exact ⟨hq, hR', ca_fr.rf⟩
    · rw [if_neg hk] at hq
      cases hq
  obtain ⟨rfl, hq⟩ := hq
  by_cases hk : k < 0 ∨ 4 ≤ k
  · rw [if_pos hk] at hq
    cases hq
  rw [if_neg hk] at hq ⊢
  cases hq
  obtain ⟨j, hj, rfl⟩ := qs_i4 (fun h => hk (.inl h)) (fun h => hk (.inr h))
  rw [nI_clamp (by omega)]
  refine nq_aload_n (pc' := 5) d_QS_keep_4 rfl rfl rfl ?_
  refine nq_getf (pc' := 8) d_QS_keep_5 rfl fl_QS_21 (by first | assumption | exact nq_ga (by assumption) | exact nq_gs (by first | assumption | exact nq_ga (by assumption) | exact nq_gs (by first | assumption | exact nq_gs (by assumption) | exact nq_gn (by first | assumption | decide | omega | exact nq_ne1 (by assumption) (by assumption) | exact nq_ne2 (by assumption) (by assumption)) (by assumption) | exact nq_ga (by assumption)) | exact nq_gn (by first | assumption | decide | omega | exact nq_ne1 (by assumption) (by assumption) | exact nq_ne2 (by assumption) (by assumption)) (by first | assumption | exact nq_gs (by assumption) | exact nq_gn (by first | assumption | decide | omega | exact nq_ne1 (by assumption) (by assumption) | exact nq_ne2 (by assumption) (by assumption)) (by assumption) | exact nq_ga (by assumption))) | exact nq_gn (by first | assumption | decide | omega | exact nq_ne1 (by assumption) (by assumption) | exact nq_ne2 (by assumption) (by assumption)) (by first | assumption | exact nq_ga (by assumption) | exact nq_gs (by first | assumption | exact nq_gs (by assumption) | exact nq_gn (by first | assumption | decide | omega | exact nq_ne1 (by assumption) (by assumption) | exact nq_ne2 (by assumption) (by assumption)) (by assumption) | exact nq_ga (by assumption)) | exact nq_gn (by first | assumption | decide | omega | exact nq_ne1 (by assumption) (by assumption) | exact nq_ne2 (by assumption) (by assumption)) (by first | assumption | exact nq_gs (by assumption) | exact nq_gn (by first | assumption | decide | omega | exact nq_ne1 (by assumption) (by assumption) | exact nq_ne2 (by assumption) (by assumption)) (by assumption) | exact nq_ga (by assumption)))) rfl ?_
  refine nq_aload_n (pc' := 9) d_QS_keep_8 rfl rfl rfl ?_
  refine nq_getf (pc' := 12) d_QS_keep_9 rfl fl_QS_54 (by first | assumption | exact nq_ga (by assumption) | exact nq_gs (by first | assumption | exact nq_ga (by assumption) | exact nq_gs (by first | assumption | exact nq_gs (by assumption) | exact nq_gn (by first | assumption | decide | omega | exact nq_ne1 (by assumption) (by assumption) | exact nq_ne2 (by assumption) (by assumption)) (by assumption) | exact nq_ga (by assumption)) | exact nq_gn (by first | assumption | decide | omega | exact nq_ne1 (by assumption) (by assumption) | exact nq_ne2 (by assumption) (by assumption)) (by first | assumption | exact nq_gs (by assumption) | exact nq_gn (by first | assumption | decide | omega | exact nq_ne1 (by assumption) (by assumption) | exact nq_ne2 (by assumption) (by assumption)) (by assumption) | exact nq_ga (by assumption))) | exact nq_gn (by first | assumption | decide | omega | exact nq_ne1 (by assumption) (by assumption) | exact nq_ne2 (by assumption) (by assumption)) (by first | assumption | exact nq_ga (by assumption) | exact nq_gs (by first | assumption | exact nq_gs (by assumption) | exact nq_gn (by first | assumption | decide | omega | exact nq_ne1 (by assumption) (by assumption) | exact nq_ne2 (by assumption) (by assumption)) (by assumption) | exact nq_ga (by assumption)) | exact nq_gn (by first | assumption | decide | omega | exact nq_ne1 (by assumption) (by assumption) | exact nq_ne2 (by assumption) (by assumption)) (by first | assumption | exact nq_gs (by assumption) | exact nq_gn (by first | assumption | decide | omega | exact nq_ne1 (by assumption) (by assumption) | exact nq_ne2 (by assumption) (by assumption)) (by assumption) | exact nq_ga (by assumption)))) rfl ?_
  refine nq_callV (pc' := 15) d_QS_keep_12 rfl cl_QS_67 rfl (by first | assumption | exact nq_ga (by assumption) | exact nq_gs (by first | assumption | exact nq_ga (by assumption) | exact nq_gs (by first | assumption | exact nq_gs (by assumption) | exact nq_gn (by first | assumption | decide | omega | exact nq_ne1 (by assumption) (by assumption) | exact nq_ne2 (by assumption) (by assumption)) (by assumption) | exact nq_ga (by assumption)) | exact nq_gn (by first | assumption | decide | omega | exact nq_ne1 (by assumption) (by assumption) | exact nq_ne2 (by assumption) (by assumption)) (by first | assumption | exact nq_gs (by assumption) | exact nq_gn (by first | assumption | decide | omega | exact nq_ne1 (by assumption) (by assumption) | exact nq_ne2 (by assumption) (by assumption)) (by assumption) | exact nq_ga (by assumption))) | exact nq_gn (by first | assumption | decide | omega | exact nq_ne1 (by assumption) (by assumption) | exact nq_ne2 (by assumption) (by assumption)) (by first | assumption | exact nq_ga (by assumption) | exact nq_gs (by first | assumption | exact nq_gs (by assumption) | exact nq_gn (by first | assumption | decide | omega | exact nq_ne1 (by assumption) (by assumption) | exact nq_ne2 (by assumption) (by assumption)) (by assumption) | exact nq_ga (by assumption)) | exact nq_gn (by first | assumption | decide | omega | exact nq_ne1 (by assumption) (by assumption) | exact nq_ne2 (by assumption) (by assumption)) (by first | assumption | exact nq_gs (by assumption) | exact nq_gn (by first | assumption | decide | omega | exact nq_ne1 (by assumption) (by assumption) | exact nq_ne2 (by assumption) (by assumption)) (by assumption) | exact nq_ga (by assumption)))) rfl rfl (kc := 5) (ks := 163) (mc' := 0) (ms' := 0) (As := [.ref sp]) (rest := []) rfl rfl (by decide) (k_Reader_read (by omega) t4.L t1 t3 p3 p4 t2) (fun E σ1 hq => ?_) (fun x σ2 hq => ?_)
  · cases hx : sp_stmt (sx_L T) T.length with
    | inl q =>
      rw [hx] at hq
      obtain ⟨q1, fr, Lc, h, q', cols', hh, hc, hW⟩ := hq
      obtain ⟨x1, x2, x3, x4, x5⟩ := qs_rd hX hB hP fr hW hh hc
      exact ⟨q1, ⟨by rw [fr.1]; exact h0, hw, sp, R, ch, nn, es, width, x1, hr, x2, x3, x4⟩, x5⟩
    | inr s =>
      rw [hx] at hq
      cases hq.1
  cases hx : sp_stmt (sx_L T) T.length with
  | inl q =>
    rw [hx] at hq
    cases hq.1
  | inr s =>
  rw [hx] at hq
  obtain ⟨q1, fr, at9, cols', hc, hW⟩ := hq
  cases q1
  have hs := sp_stmt_ok t4.L.1 t4.L.lt hx
  obtain ⟨x1, x2, x3, ⟨g', r1, r2, ⟨Ls', Hs', r3, r4, r5⟩, r6, r7⟩, x5⟩ := qs_rd hX hB hP fr hW rfl hc
  have hC : qs_C σ2 sp s := ⟨hW.2.2, hs, p5⟩
  have y1 := x1.1
  have hl1 : 288 ≤ σ2.length := by rw [fr.1]; exact h0
  have hl2 : σ2.length = σ1.length := fr.1
  have hspl := hC.1.lt
  simp only
  obtain ⟨g1, g2⟩ := r2 j hj
  refine nq_aload_n (pc' := 16) d_QS_keep_15 rfl rfl rfl ?_
  refine nq_getf (pc' := 19) d_QS_keep_16 rfl fl_QS_54 (by first | assumption | exact nq_ga (by assumption) | exact nq_gs (by first | assumption | exact nq_ga (by assumption) | exact nq_gs (by first | assumption | exact nq_gs (by assumption) | exact nq_gn (by first | assumption | decide | omega | exact nq_ne1 (by assumption) (by assumption) | exact nq_ne2 (by assumption) (by assumption)) (by assumption) | exact nq_ga (by assumption)) | exact nq_gn (by first | assumption | decide | omega | exact nq_ne1 (by assumption) (by assumption) | exact nq_ne2 (by assumption) (by assumption)) (by first | assumption | exact nq_gs (by assumption) | exact nq_gn (by first | assumption | decide | omega | exact nq_ne1 (by assumption) (by assumption) | exact nq_ne2 (by assumption) (by assumption)) (by assumption) | exact nq_ga (by assumption))) | exact nq_gn (by first | assumption | decide | omega | exact nq_ne1 (by assumption) (by assumption) | exact nq_ne2 (by assumption) (by assumption)) (by first | assumption | exact nq_ga (by assumption) | exact nq_gs (by first | assumption | exact nq_gs (by assumption) | exact nq_gn (by first | assumption | decide | omega | exact nq_ne1 (by assumption) (by assumption) | exact nq_ne2 (by assumption) (by assumption)) (by assumption) | exact nq_ga (by assumption)) | exact nq_gn (by first | assumption | decide | omega | exact nq_ne1 (by assumption) (by assumption) | exact nq_ne2 (by assumption) (by assumption)) (by first | assumption | exact nq_gs (by assumption) | exact nq_gn (by first | assumption | decide | omega | exact nq_ne1 (by assumption) (by assumption) | exact nq_ne2 (by assumption) (by assumption)) (by assumption) | exact nq_ga (by assumption)))) rfl ?_
  refine nq_astore_n (pc' := 20) d_QS_keep_19 rfl rfl (by decide) rfl ?_
  refine nq_aload_n (pc' := 21) d_QS_keep_20 rfl rfl rfl ?_
  refine nq_aload_n (pc' := 22) d_QS_keep_21 rfl rfl rfl ?_
  refine nq_getf (pc' := 25) d_QS_keep_22 rfl fl_QS_41 (by first | assumption | exact nq_ga (by assumption) | exact nq_gs (by first | assumption | exact nq_ga (by assumption) | exact nq_gs (by first | assumption | exact nq_gs (by assumption) | exact nq_gn (by first | assumption | decide | omega | exact nq_ne1 (by assumption) (by assumption) | exact nq_ne2 (by assumption) (by assumption)) (by assumption) | exact nq_ga (by assumption)) | exact nq_gn (by first | assumption | decide | omega | exact nq_ne1 (by assumption) (by assumption) | exact nq_ne2 (by assumption) (by assumption)) (by first | assumption | exact nq_gs (by assumption) | exact nq_gn (by first | assumption | decide | omega | exact nq_ne1 (by assumption) (by assumption) | exact nq_ne2 (by assumption) (by assumption)) (by assumption) | exact nq_ga (by assumption))) | exact nq_gn (by first | assumption | decide | omega | exact nq_ne1 (by assumption) (by assumption) | exact nq_ne2 (by assumption) (by assumption)) (by first | assumption | exact nq_ga (by assumption) | exact nq_gs (by first | assumption | exact nq_gs (by assumption) | exact nq_gn (by first | assumption | decide | omega | exact nq_ne1 (by assumption) (by assumption) | exact nq_ne2 (by assumption) (by assumption)) (by assumption) | exact nq_ga (by assumption)) | exact nq_gn (by first | assumption | decide | omega | exact nq_ne1 (by assumption) (by assumption) | exact nq_ne2 (by assumption) (by assumption)) (by first | assumption | exact nq_gs (by assumption) | exact nq_gn (by first | assumption | decide | omega | exact nq_ne1 (by assumption) (by assumption) | exact nq_ne2 (by assumption) (by assumption)) (by assumption) | exact nq_ga (by assumption)))) rfl ?_
  refine nq_iload_n (pc' := 26) d_QS_keep_25 rfl rfl rfl ?_
  have fin : ∀ (σ3 : nq_S) (sp' : Nat) (Ls3 : List nq_In) (Hs3 : List Value) (kc ks : Nat), σ3[0]? = some (qs_F sp (qs_bg bg) nt (dn + fl) dn) → (∀ i, i < σ2.length → σ3[i]? = σ2[i]?) → σ2.length ≤ σ3.length → σ3.length ≤ σ2.length + 4 → cd_C σ3 sp' (sp' + 1) (sp' + 2) (sp' + 3) Ls3 Hs3 → Hs3.length = 9 → (sp' = 14 ∨ 288 ≤ sp') → (sp' + 4 ≤ sp ∨ sp + 4 ≤ sp') → (∀ k' c, k' < 4 → k' ≠ j → g' k' = some c → c + 4 ≤ sp' ∨ sp' + 4 ≤ c) → nq_J G (d + 1) kc ks m_QS_keep 46 [some (.ref 0), some (.int (nI j)), some (.ref sp)] [.ref sp', .ref 0] σ3 (ca_Q σ1 (.inl (some (nI (cl_q s))), ([], pl, (fun i => if i = j then some s else kp i), tb, old, bg, nt, dn, fl, res, w))) := by
    intro σ3 sp' Ls3 Hs3 kc ks z1 ze zl zl4 zC zH z14 zd zn
    have zx := x1.of (σ' := σ3) (fun i hi => ze i (by omega))
    have zB := x2.of (σ' := σ3) (fun i hi => ze i (by omega))
    have zT := x3.of (σ' := σ3) (ze 3 (by omega)) (ze 4 (by omega))
    have z11 : σ3[11]? = some (.inl (6, 4, .inr (.inr g'))) := (ze 11 (by omega)).trans r1
    have zc : qs_C σ3 sp s := hC.of (fun i a b => ze i (by omega))
    obtain ⟨n', hcc⟩ := zc.cell
    have hsp0 : sp ≠ 0 := by omega
    have hsp11 : sp ≠ 11 := by omega
    have h110 : (11 : Nat) ≠ 0 := by decide
    refine nq_putf (pc' := 49) d_QS_keep_46 rfl fl_QS_54 (by first | assumption | exact nq_ga (by assumption) | exact nq_gs (by first | assumption | exact nq_ga (by assumption) | exact nq_gs (by first | assumption | exact nq_gs (by assumption) | exact nq_gn (by first | assumption | decide | omega | exact nq_ne1 (by assumption) (by assumption) | exact nq_ne2 (by assumption) (by assumption)) (by assumption) | exact nq_ga (by assumption)) | exact nq_gn (by first | assumption | decide | omega | exact nq_ne1 (by assumption) (by assumption) | exact nq_ne2 (by assumption) (by assumption)) (by first | assumption | exact nq_gs (by assumption) | exact nq_gn (by first | assumption | decide | omega | exact nq_ne1 (by assumption) (by assumption) | exact nq_ne2 (by assumption) (by assumption)) (by assumption) | exact nq_ga (by assumption))) | exact nq_gn (by first | assumption | decide | omega | exact nq_ne1 (by assumption) (by assumption) | exact nq_ne2 (by assumption) (by assumption)) (by first | assumption | exact nq_ga (by assumption) | exact nq_gs (by first | assumption | exact nq_gs (by assumption) | exact nq_gn (by first | assumption | decide | omega | exact nq_ne1 (by assumption) (by assumption) | exact nq_ne2 (by assumption) (by assumption)) (by assumption) | exact nq_ga (by assumption)) | exact nq_gn (by first | assumption | decide | omega | exact nq_ne1 (by assumption) (by assumption) | exact nq_ne2 (by assumption) (by assumption)) (by first | assumption | exact nq_gs (by assumption) | exact nq_gn (by first | assumption | decide | omega | exact nq_ne1 (by assumption) (by assumption) | exact nq_ne2 (by assumption) (by assumption)) (by assumption) | exact nq_ga (by assumption)))) (Nat.le_of_ble_eq_true rfl) rfl rfl ?_
    refine nq_aload_n (pc' := 50) d_QS_keep_49 rfl rfl rfl ?_
    refine nq_getf (pc' := 53) d_QS_keep_50 rfl fl_QS_41 (by first | assumption | exact nq_ga (by assumption) | exact nq_gs (by first | assumption | exact nq_ga (by assumption) | exact nq_gs (by first | assumption | exact nq_gs (by assumption) | exact nq_gn (by first | assumption | decide | omega | exact nq_ne1 (by assumption) (by assumption) | exact nq_ne2 (by assumption) (by assumption)) (by assumption) | exact nq_ga (by assumption)) | exact nq_gn (by first | assumption | decide | omega | exact nq_ne1 (by assumption) (by assumption) | exact nq_ne2 (by assumption) (by assumption)) (by first | assumption | exact nq_gs (by assumption) | exact nq_gn (by first | assumption | decide | omega | exact nq_ne1 (by assumption) (by assumption) | exact nq_ne2 (by assumption) (by assumption)) (by assumption) | exact nq_ga (by assumption))) | exact nq_gn (by first | assumption | decide | omega | exact nq_ne1 (by assumption) (by assumption) | exact nq_ne2 (by assumption) (by assumption)) (by first | assumption | exact nq_ga (by assumption) | exact nq_gs (by first | assumption | exact nq_gs (by assumption) | exact nq_gn (by first | assumption | decide | omega | exact nq_ne1 (by assumption) (by assumption) | exact nq_ne2 (by assumption) (by assumption)) (by assumption) | exact nq_ga (by assumption)) | exact nq_gn (by first | assumption | decide | omega | exact nq_ne1 (by assumption) (by assumption) | exact nq_ne2 (by assumption) (by assumption)) (by first | assumption | exact nq_gs (by assumption) | exact nq_gn (by first | assumption | decide | omega | exact nq_ne1 (by assumption) (by assumption) | exact nq_ne2 (by assumption) (by assumption)) (by assumption) | exact nq_ga (by assumption)))) rfl ?_
    refine nq_iload_n (pc' := 54) d_QS_keep_53 rfl rfl rfl ?_
    refine nq_aload_n (pc' := 55) d_QS_keep_54 rfl rfl rfl ?_
    refine nq_aast (pc' := 56) d_QS_keep_55 rfl (by first | assumption | exact nq_ga (by assumption) | exact nq_gs (by first | assumption | exact nq_ga (by assumption) | exact nq_gs (by first | assumption | exact nq_gs (by assumption) | exact nq_gn (by first | assumption | decide | omega | exact nq_ne1 (by assumption) (by assumption) | exact nq_ne2 (by assumption) (by assumption)) (by assumption) | exact nq_ga (by assumption)) | exact nq_gn (by first | assumption | decide | omega | exact nq_ne1 (by assumption) (by assumption) | exact nq_ne2 (by assumption) (by assumption)) (by first | assumption | exact nq_gs (by assumption) | exact nq_gn (by first | assumption | decide | omega | exact nq_ne1 (by assumption) (by assumption) | exact nq_ne2 (by assumption) (by assumption)) (by assumption) | exact nq_ga (by assumption))) | exact nq_gn (by first | assumption | decide | omega | exact nq_ne1 (by assumption) (by assumption) | exact nq_ne2 (by assumption) (by assumption)) (by first | assumption | exact nq_ga (by assumption) | exact nq_gs (by first | assumption | exact nq_gs (by assumption) | exact nq_gn (by first | assumption | decide | omega | exact nq_ne1 (by assumption) (by assumption) | exact nq_ne2 (by assumption) (by assumption)) (by assumption) | exact nq_ga (by assumption)) | exact nq_gn (by first | assumption | decide | omega | exact nq_ne1 (by assumption) (by assumption) | exact nq_ne2 (by assumption) (by assumption)) (by first | assumption | exact nq_gs (by assumption) | exact nq_gn (by first | assumption | decide | omega | exact nq_ne1 (by assumption) (by assumption) | exact nq_ne2 (by assumption) (by assumption)) (by assumption) | exact nq_ga (by assumption)))) rfl rfl (by first | assumption | exact nq_ga (by assumption) | exact nq_gs (by first | assumption | exact nq_ga (by assumption) | exact nq_gs (by first | assumption | exact nq_gs (by assumption) | exact nq_gn (by first | assumption | decide | omega | exact nq_ne1 (by assumption) (by assumption) | exact nq_ne2 (by assumption) (by assumption)) (by assumption) | exact nq_ga (by assumption)) | exact nq_gn (by first | assumption | decide | omega | exact nq_ne1 (by assumption) (by assumption) | exact nq_ne2 (by assumption) (by assumption)) (by first | assumption | exact nq_gs (by assumption) | exact nq_gn (by first | assumption | decide | omega | exact nq_ne1 (by assumption) (by assumption) | exact nq_ne2 (by assumption) (by assumption)) (by assumption) | exact nq_ga (by assumption))) | exact nq_gn (by first | assumption | decide | omega | exact nq_ne1 (by assumption) (by assumption) | exact nq_ne2 (by assumption) (by assumption)) (by first | assumption | exact nq_ga (by assumption) | exact nq_gs (by first | assumption | exact nq_gs (by assumption) | exact nq_gn (by first | assumption | decide | omega | exact nq_ne1 (by assumption) (by assumption) | exact nq_ne2 (by assumption) (by assumption)) (by assumption) | exact nq_ga (by assumption)) | exact nq_gn (by first | assumption | decide | omega | exact nq_ne1 (by assumption) (by assumption) | exact nq_ne2 (by assumption) (by assumption)) (by first | assumption | exact nq_gs (by assumption) | exact nq_gn (by first | assumption | decide | omega | exact nq_ne1 (by assumption) (by assumption) | exact nq_ne2 (by assumption) (by assumption)) (by assumption) | exact nq_ga (by assumption)))) (j := j) rfl hj (by decide) ?_
    refine nq_aload_n (pc' := 57) d_QS_keep_56 rfl rfl rfl ?_
    refine nq_getf (pc' := 60) d_QS_keep_57 rfl fl_QS_71 (by first | assumption | exact nq_ga (by assumption) | exact nq_gs (by first | assumption | exact nq_ga (by assumption) | exact nq_gs (by first | assumption | exact nq_gs (by assumption) | exact nq_gn (by first | assumption | decide | omega | exact nq_ne1 (by assumption) (by assumption) | exact nq_ne2 (by assumption) (by assumption)) (by assumption) | exact nq_ga (by assumption)) | exact nq_gn (by first | assumption | decide | omega | exact nq_ne1 (by assumption) (by assumption) | exact nq_ne2 (by assumption) (by assumption)) (by first | assumption | exact nq_gs (by assumption) | exact nq_gn (by first | assumption | decide | omega | exact nq_ne1 (by assumption) (by assumption) | exact nq_ne2 (by assumption) (by assumption)) (by assumption) | exact nq_ga (by assumption))) | exact nq_gn (by first | assumption | decide | omega | exact nq_ne1 (by assumption) (by assumption) | exact nq_ne2 (by assumption) (by assumption)) (by first | assumption | exact nq_ga (by assumption) | exact nq_gs (by first | assumption | exact nq_gs (by assumption) | exact nq_gn (by first | assumption | decide | omega | exact nq_ne1 (by assumption) (by assumption) | exact nq_ne2 (by assumption) (by assumption)) (by assumption) | exact nq_ga (by assumption)) | exact nq_gn (by first | assumption | decide | omega | exact nq_ne1 (by assumption) (by assumption) | exact nq_ne2 (by assumption) (by assumption)) (by first | assumption | exact nq_gs (by assumption) | exact nq_gn (by first | assumption | decide | omega | exact nq_ne1 (by assumption) (by assumption) | exact nq_ne2 (by assumption) (by assumption)) (by assumption) | exact nq_ga (by assumption)))) rfl ?_
    refine nq_iret d_QS_keep_60 rfl rfl ?_
    have eW : ∀ i, i ≠ 0 → i ≠ 11 → ((σ3.set 0 (qs_F sp' (qs_bg bg) nt (dn + fl) dn)).set 11 (.inl (6, 4, .inr (.inr (va_up g' j (some sp))))))[i]? = σ3[i]? := fun i a b => by
      rw [List.getElem?_set_ne (Ne.symm b), List.getElem?_set_ne (Ne.symm a)]
    have hzz := zC.lt
    refine ⟨rfl, ⟨by simp only [List.length_set]; omega, hw, sp', R, ch, nn, es, width, (zx.spare (sp' := sp')).of (fun i hi => List.getElem?_set_ne (by omega)), hr, zB.of (fun i hi => eW i (by omega) (by omega)), zT.of (eW 3 (by decide) (by decide)) (eW 4 (by decide) (by decide)), ?_⟩, fun i a b => ?_, by simp only [List.length_set]; omega, by simp only [List.length_set]; omega⟩
    · refine qs_P.keep (σ := σ2) (g := g') (Ls := Ls3) (Hs := Hs3) hj r2 r6 r7 hC (fun i hi => (eW i (by omega) (by omega)).trans (ze i (by omega))) (nq_gs (nq_gn (by decide) z11)) (zC.of (eW _ (by omega) (by omega)) (eW _ (by omega) (by omega)) (eW _ (by omega) (by omega)) (eW _ (by omega) (by omega))) zH z14 zd zn
    · exact ((eW i (by omega) (by omega)).trans (ze i (by omega))).trans (x5.1 i a b)
  cases hkp : kp j with
  | none =>
    have hg := g1 hkp
    refine nq_aald (pc' := 27) d_QS_keep_26 rfl (by first | assumption | exact nq_ga (by assumption) | exact nq_gs (by first | assumption | exact nq_ga (by assumption) | exact nq_gs (by first | assumption | exact nq_gs (by assumption) | exact nq_gn (by first | assumption | decide | omega | exact nq_ne1 (by assumption) (by assumption) | exact nq_ne2 (by assumption) (by assumption)) (by assumption) | exact nq_ga (by assumption)) | exact nq_gn (by first | assumption | decide | omega | exact nq_ne1 (by assumption) (by assumption) | exact nq_ne2 (by assumption) (by assumption)) (by first | assumption | exact nq_gs (by assumption) | exact nq_gn (by first | assumption | decide | omega | exact nq_ne1 (by assumption) (by assumption) | exact nq_ne2 (by assumption) (by assumption)) (by assumption) | exact nq_ga (by assumption))) | exact nq_gn (by first | assumption | decide | omega | exact nq_ne1 (by assumption) (by assumption) | exact nq_ne2 (by assumption) (by assumption)) (by first | assumption | exact nq_ga (by assumption) | exact nq_gs (by first | assumption | exact nq_gs (by assumption) | exact nq_gn (by first | assumption | decide | omega | exact nq_ne1 (by assumption) (by assumption) | exact nq_ne2 (by assumption) (by assumption)) (by assumption) | exact nq_ga (by assumption)) | exact nq_gn (by first | assumption | decide | omega | exact nq_ne1 (by assumption) (by assumption) | exact nq_ne2 (by assumption) (by assumption)) (by first | assumption | exact nq_gs (by assumption) | exact nq_gn (by first | assumption | decide | omega | exact nq_ne1 (by assumption) (by assumption) | exact nq_ne2 (by assumption) (by assumption)) (by assumption) | exact nq_ga (by assumption)))) rfl (j := j) rfl hj (by decide) ?_
    rw [hg]
    refine nq_ifnonnullN (pc' := 30) d_QS_keep_27 rfl ?_
    refine nq_new (pc' := 33) d_QS_keep_30 rfl nl_QS_39 (kc := 4) (ks := 150) (by omega) ?_
    refine nq_dup (pc' := 34) d_QS_keep_33 rfl rfl ?_
    have hnew : (σ2 ++ [.inr (0, [.null, .null, .null, .int 0, .int 0, .int 0, .int 0, .int 0, .int 0, .int 0, .int 0, .int 0, .int 0])])[σ2.length]? = some (.inr (0, [.null, .null, .null, .int 0, .int 0, .int 0, .int 0, .int 0, .int 0, .int 0, .int 0, .int 0, .int 0])) := nq_gl
    refine nq_callI (pc' := 37) d_QS_keep_34 rfl cl_QS_53 (kc := 0) (ks := 0) (mc' := 3) (ms' := 144) (As := []) (rest := [.ref σ2.length, .ref 0]) rfl rfl (Nat.le_of_ble_eq_true rfl) (k_Code_init hnew (by rw [List.length_append]; simp only [List.length_cons, List.length_nil]; omega)) (fun E σ1 h => by cases h.1) (fun v σ3 hq => ?_)
    obtain ⟨e1, C3, l3, f3⟩ := hq
    cases e1
    have hl3 : (σ2 ++ [.inr (0, [.null, .null, .null, .int 0, .int 0, .int 0, .int 0, .int 0, .int 0, .int 0, .int 0, .int 0, .int 0])] : nq_S).length = σ2.length + 1 := by rw [List.length_append]; rfl
    rw [hl3] at C3 l3 f3
    have hlow : ∀ i, i < σ2.length → σ3[i]? = σ2[i]? := fun i hi => by
      rw [f3 i (by omega) (by omega), List.getElem?_append_left hi]
    refine nq_goto (tgt := 46) d_QS_keep_37 (by decide) ?_
    refine fin σ3 σ2.length _ _ _ _ ((hlow 0 (by omega)).trans y1) hlow (by omega) (by omega) C3 rfl (.inr hl1) (by omega) (fun k' c hk' hn hc' => ?_)
    cases hkp' : kp k' with
    | none =>
      have := (r2 k' hk').1 hkp'
      rw [this] at hc'
      cases hc'
    | some s' =>
      obtain ⟨c', c1, c2⟩ := (r2 k' hk').2 s' hkp'
      rw [c1] at hc'
      cases hc'
      have := c2.1.lt
      omega
  | some s0 =>
    obtain ⟨c, hg, hC0⟩ := g2 s0 hkp
    refine nq_aaldR (pc' := 27) d_QS_keep_26 rfl (by first | assumption | exact nq_ga (by assumption) | exact nq_gs (by first | assumption | exact nq_ga (by assumption) | exact nq_gs (by first | assumption | exact nq_gs (by assumption) | exact nq_gn (by first | assumption | decide | omega | exact nq_ne1 (by assumption) (by assumption) | exact nq_ne2 (by assumption) (by assumption)) (by assumption) | exact nq_ga (by assumption)) | exact nq_gn (by first | assumption | decide | omega | exact nq_ne1 (by assumption) (by assumption) | exact nq_ne2 (by assumption) (by assumption)) (by first | assumption | exact nq_gs (by assumption) | exact nq_gn (by first | assumption | decide | omega | exact nq_ne1 (by assumption) (by assumption) | exact nq_ne2 (by assumption) (by assumption)) (by assumption) | exact nq_ga (by assumption))) | exact nq_gn (by first | assumption | decide | omega | exact nq_ne1 (by assumption) (by assumption) | exact nq_ne2 (by assumption) (by assumption)) (by first | assumption | exact nq_ga (by assumption) | exact nq_gs (by first | assumption | exact nq_gs (by assumption) | exact nq_gn (by first | assumption | decide | omega | exact nq_ne1 (by assumption) (by assumption) | exact nq_ne2 (by assumption) (by assumption)) (by assumption) | exact nq_ga (by assumption)) | exact nq_gn (by first | assumption | decide | omega | exact nq_ne1 (by assumption) (by assumption) | exact nq_ne2 (by assumption) (by assumption)) (by first | assumption | exact nq_gs (by assumption) | exact nq_gn (by first | assumption | decide | omega | exact nq_ne1 (by assumption) (by assumption) | exact nq_ne2 (by assumption) (by assumption)) (by assumption) | exact nq_ga (by assumption)))) rfl (j := j) rfl hj hg (by decide) ?_
    refine nq_ifnonnull (tgt := 40) d_QS_keep_27 (by decide) ?_
    refine nq_aload_n (pc' := 41) d_QS_keep_40 rfl rfl rfl ?_
    refine nq_getf (pc' := 44) d_QS_keep_41 rfl fl_QS_41 (by first | assumption | exact nq_ga (by assumption) | exact nq_gs (by first | assumption | exact nq_ga (by assumption) | exact nq_gs (by first | assumption | exact nq_gs (by assumption) | exact nq_gn (by first | assumption | decide | omega | exact nq_ne1 (by assumption) (by assumption) | exact nq_ne2 (by assumption) (by assumption)) (by assumption) | exact nq_ga (by assumption)) | exact nq_gn (by first | assumption | decide | omega | exact nq_ne1 (by assumption) (by assumption) | exact nq_ne2 (by assumption) (by assumption)) (by first | assumption | exact nq_gs (by assumption) | exact nq_gn (by first | assumption | decide | omega | exact nq_ne1 (by assumption) (by assumption) | exact nq_ne2 (by assumption) (by assumption)) (by assumption) | exact nq_ga (by assumption))) | exact nq_gn (by first | assumption | decide | omega | exact nq_ne1 (by assumption) (by assumption) | exact nq_ne2 (by assumption) (by assumption)) (by first | assumption | exact nq_ga (by assumption) | exact nq_gs (by first | assumption | exact nq_gs (by assumption) | exact nq_gn (by first | assumption | decide | omega | exact nq_ne1 (by assumption) (by assumption) | exact nq_ne2 (by assumption) (by assumption)) (by assumption) | exact nq_ga (by assumption)) | exact nq_gn (by first | assumption | decide | omega | exact nq_ne1 (by assumption) (by assumption) | exact nq_ne2 (by assumption) (by assumption)) (by first | assumption | exact nq_gs (by assumption) | exact nq_gn (by first | assumption | decide | omega | exact nq_ne1 (by assumption) (by assumption) | exact nq_ne2 (by assumption) (by assumption)) (by assumption) | exact nq_ga (by assumption)))) rfl ?_
    refine nq_iload_n (pc' := 45) d_QS_keep_44 rfl rfl rfl ?_
    refine nq_aaldR (pc' := 46) d_QS_keep_45 rfl (by first | assumption | exact nq_ga (by assumption) | exact nq_gs (by first | assumption | exact nq_ga (by assumption) | exact nq_gs (by first | assumption | exact nq_gs (by assumption) | exact nq_gn (by first | assumption | decide | omega | exact nq_ne1 (by assumption) (by assumption) | exact nq_ne2 (by assumption) (by assumption)) (by assumption) | exact nq_ga (by assumption)) | exact nq_gn (by first | assumption | decide | omega | exact nq_ne1 (by assumption) (by assumption) | exact nq_ne2 (by assumption) (by assumption)) (by first | assumption | exact nq_gs (by assumption) | exact nq_gn (by first | assumption | decide | omega | exact nq_ne1 (by assumption) (by assumption) | exact nq_ne2 (by assumption) (by assumption)) (by assumption) | exact nq_ga (by assumption))) | exact nq_gn (by first | assumption | decide | omega | exact nq_ne1 (by assumption) (by assumption) | exact nq_ne2 (by assumption) (by assumption)) (by first | assumption | exact nq_ga (by assumption) | exact nq_gs (by first | assumption | exact nq_gs (by assumption) | exact nq_gn (by first | assumption | decide | omega | exact nq_ne1 (by assumption) (by assumption) | exact nq_ne2 (by assumption) (by assumption)) (by assumption) | exact nq_ga (by assumption)) | exact nq_gn (by first | assumption | decide | omega | exact nq_ne1 (by assumption) (by assumption) | exact nq_ne2 (by assumption) (by assumption)) (by first | assumption | exact nq_gs (by assumption) | exact nq_gn (by first | assumption | decide | omega | exact nq_ne1 (by assumption) (by assumption) | exact nq_ne2 (by assumption) (by assumption)) (by assumption) | exact nq_ga (by assumption)))) rfl (j := j) rfl hj hg (by decide) ?_
    refine fin σ2 c _ _ _ _ y1 (fun i _ => rfl) (Nat.le_refl _) (by omega) hC0.1 rfl hC0.2.2 (r6 j c hj hg) (fun k' c' hk' hn hc' => r7 k' j c' c hk' hj hn hc' hg)
theorem qs_w0 {res : List sx_E} {w : Nat} (hr : res ≠ [] → sx_rel w es res ∧ width = nI w) (hl : res.length ≤ 40) : (if nI res.length = 0 then 0 else width) = nI (if res = [] then 0 else w) := by
  by_cases h : res = []
  · rw [if_pos h, h]
    rfl
  · have hp : 0 < res.length := List.length_pos_iff.mpr h
    rw [if_neg h, if_neg (nI_ne0 hp (by omega)), (hr h).2]
theorem k_QS_value {i j : Int32} {S : sx_S} (hR : qs_R σ S) (hD : 2 ≤ d) : nq_JM G d 0 0 m_QS_value [.ref 0, .int i, .int j] σ (ca_Q σ (sx_value i j S)) := by
  obtain ⟨d, rfl⟩ : ∃ d', d = d' + 1 := ⟨d - 1, by omega⟩
  obtain ⟨T, pl, kp, tb, old, bg, nt, dn, fl, res, w⟩ := S
  have hR' := hR
  obtain ⟨h0, hw, sp, R, ch, nn, es, width, hX, hr, hB, hT, hP⟩ := hR
  have h1 := hX.1
  have hs := hX.2.2.2.2.2.1
  have hsc := hs.cell
  have h40 := hw.2.2.1
  have hw3 := hw.2.1
  have e0 := qs_w0 hr h40
  unfold sx_value
  have no : (i < 0 ∨ nI res.length ≤ i ∨ j < 0 ∨ nI (if res = [] then 0 else w) ≤ j) → nq_J G (d + 1) 0 0 m_QS_value 30 [some (.ref 0), some (.int i), some (.int j)] [] σ (ca_Q σ (if i < 0 ∨ nI res.length ≤ i ∨ j < 0 ∨ nI (if res = [] then 0 else w) ≤ j then .inr nq_NE else .inl (some ((res.getD i.toNatClampNeg (0, [])).2.getD j.toNatClampNeg 0)), (T, pl, kp, tb, old, bg, nt, dn, fl, res, w))) := by
    intro h
    rw [if_pos h]
    refine nq_throw tl_QS_75_77 rfl (by decide) d_QS_value_30 d_QS_value_33 d_QS_value_34 d_QS_value_37 ⟨rfl, hR', ca_fr.rf⟩
  simp only
  refine nq_mk' (lv := [some (.ref 0), some (.int i), some (.int j)]) (by decide +kernel) rfl (Nat.le_of_ble_eq_true rfl) rfl ?_
  refine nq_iload_n (pc' := 1) d_QS_value_0 rfl rfl rfl ?_
  by_cases b1 : i < 0
  · refine nq_if_lt (pc' := 4) (tgt := 30) d_QS_value_1 rfl (by decide) (fun _ => no (.inl b1)) (fun h => absurd b1 h)
  refine nq_if_lt (pc' := 4) (tgt := 30) d_QS_value_1 rfl (by decide) (fun h => absurd h b1) (fun _ => ?_)
  refine nq_iload_n (pc' := 5) d_QS_value_4 rfl rfl rfl ?_
  refine nq_aload_n (pc' := 6) d_QS_value_5 rfl rfl rfl ?_
  refine nq_getf (pc' := 9) d_QS_value_6 rfl fl_QS_35 (by first | assumption | exact nq_ga (by assumption) | exact nq_gs (by first | assumption | exact nq_ga (by assumption) | exact nq_gs (by first | assumption | exact nq_gs (by assumption) | exact nq_gn (by first | assumption | decide | omega | exact nq_ne1 (by assumption) (by assumption) | exact nq_ne2 (by assumption) (by assumption)) (by assumption) | exact nq_ga (by assumption)) | exact nq_gn (by first | assumption | decide | omega | exact nq_ne1 (by assumption) (by assumption) | exact nq_ne2 (by assumption) (by assumption)) (by first | assumption | exact nq_gs (by assumption) | exact nq_gn (by first | assumption | decide | omega | exact nq_ne1 (by assumption) (by assumption) | exact nq_ne2 (by assumption) (by assumption)) (by assumption) | exact nq_ga (by assumption))) | exact nq_gn (by first | assumption | decide | omega | exact nq_ne1 (by assumption) (by assumption) | exact nq_ne2 (by assumption) (by assumption)) (by first | assumption | exact nq_ga (by assumption) | exact nq_gs (by first | assumption | exact nq_gs (by assumption) | exact nq_gn (by first | assumption | decide | omega | exact nq_ne1 (by assumption) (by assumption) | exact nq_ne2 (by assumption) (by assumption)) (by assumption) | exact nq_ga (by assumption)) | exact nq_gn (by first | assumption | decide | omega | exact nq_ne1 (by assumption) (by assumption) | exact nq_ne2 (by assumption) (by assumption)) (by first | assumption | exact nq_gs (by assumption) | exact nq_gn (by first | assumption | decide | omega | exact nq_ne1 (by assumption) (by assumption) | exact nq_ne2 (by assumption) (by assumption)) (by assumption) | exact nq_ga (by assumption)))) rfl ?_
  refine nq_callVR (pc' := 12) d_QS_value_9 rfl cl_QS_82 rfl (by first | assumption | exact nq_ga (by assumption) | exact nq_gs (by first | assumption | exact nq_ga (by assumption) | exact nq_gs (by first | assumption | exact nq_gs (by assumption) | exact nq_gn (by first | assumption | decide | omega | exact nq_ne1 (by assumption) (by assumption) | exact nq_ne2 (by assumption) (by assumption)) (by assumption) | exact nq_ga (by assumption)) | exact nq_gn (by first | assumption | decide | omega | exact nq_ne1 (by assumption) (by assumption) | exact nq_ne2 (by assumption) (by assumption)) (by first | assumption | exact nq_gs (by assumption) | exact nq_gn (by first | assumption | decide | omega | exact nq_ne1 (by assumption) (by assumption) | exact nq_ne2 (by assumption) (by assumption)) (by assumption) | exact nq_ga (by assumption))) | exact nq_gn (by first | assumption | decide | omega | exact nq_ne1 (by assumption) (by assumption) | exact nq_ne2 (by assumption) (by assumption)) (by first | assumption | exact nq_ga (by assumption) | exact nq_gs (by first | assumption | exact nq_gs (by assumption) | exact nq_gn (by first | assumption | decide | omega | exact nq_ne1 (by assumption) (by assumption) | exact nq_ne2 (by assumption) (by assumption)) (by assumption) | exact nq_ga (by assumption)) | exact nq_gn (by first | assumption | decide | omega | exact nq_ne1 (by assumption) (by assumption) | exact nq_ne2 (by assumption) (by assumption)) (by first | assumption | exact nq_gs (by assumption) | exact nq_gn (by first | assumption | decide | omega | exact nq_ne1 (by assumption) (by assumption) | exact nq_ne2 (by assumption) (by assumption)) (by assumption) | exact nq_ga (by assumption)))) rfl rfl (kc := 0) (ks := 0) (mc' := 0) (ms' := 0) (As := []) (rest := [.int i]) rfl rfl (Nat.le_of_ble_eq_true rfl) (k_Result_size hs) ?_
  by_cases b2 : nI res.length ≤ i
  · refine nq_icmp_ge (pc' := 15) (tgt := 30) d_QS_value_12 rfl (by decide) (fun _ => no (.inr (.inl b2))) (fun h => absurd b2 h)
  refine nq_icmp_ge (pc' := 15) (tgt := 30) d_QS_value_12 rfl (by decide) (fun h => absurd h b2) (fun _ => ?_)
  refine nq_iload_n (pc' := 16) d_QS_value_15 rfl rfl rfl ?_
  by_cases b3 : j < 0
  · refine nq_if_lt (pc' := 19) (tgt := 30) d_QS_value_16 rfl (by decide) (fun _ => no (.inr (.inr (.inl b3)))) (fun h => absurd b3 h)
  refine nq_if_lt (pc' := 19) (tgt := 30) d_QS_value_16 rfl (by decide) (fun h => absurd h b3) (fun _ => ?_)
  refine nq_iload_n (pc' := 20) d_QS_value_19 rfl rfl rfl ?_
  refine nq_aload_n (pc' := 21) d_QS_value_20 rfl rfl rfl ?_
  refine nq_getf (pc' := 24) d_QS_value_21 rfl fl_QS_35 (by first | assumption | exact nq_ga (by assumption) | exact nq_gs (by first | assumption | exact nq_ga (by assumption) | exact nq_gs (by first | assumption | exact nq_gs (by assumption) | exact nq_gn (by first | assumption | decide | omega | exact nq_ne1 (by assumption) (by assumption) | exact nq_ne2 (by assumption) (by assumption)) (by assumption) | exact nq_ga (by assumption)) | exact nq_gn (by first | assumption | decide | omega | exact nq_ne1 (by assumption) (by assumption) | exact nq_ne2 (by assumption) (by assumption)) (by first | assumption | exact nq_gs (by assumption) | exact nq_gn (by first | assumption | decide | omega | exact nq_ne1 (by assumption) (by assumption) | exact nq_ne2 (by assumption) (by assumption)) (by assumption) | exact nq_ga (by assumption))) | exact nq_gn (by first | assumption | decide | omega | exact nq_ne1 (by assumption) (by assumption) | exact nq_ne2 (by assumption) (by assumption)) (by first | assumption | exact nq_ga (by assumption) | exact nq_gs (by first | assumption | exact nq_gs (by assumption) | exact nq_gn (by first | assumption | decide | omega | exact nq_ne1 (by assumption) (by assumption) | exact nq_ne2 (by assumption) (by assumption)) (by assumption) | exact nq_ga (by assumption)) | exact nq_gn (by first | assumption | decide | omega | exact nq_ne1 (by assumption) (by assumption) | exact nq_ne2 (by assumption) (by assumption)) (by first | assumption | exact nq_gs (by assumption) | exact nq_gn (by first | assumption | decide | omega | exact nq_ne1 (by assumption) (by assumption) | exact nq_ne2 (by assumption) (by assumption)) (by assumption) | exact nq_ga (by assumption)))) rfl ?_
  refine nq_callVR (pc' := 27) d_QS_value_24 rfl cl_QS_86 rfl (by first | assumption | exact nq_ga (by assumption) | exact nq_gs (by first | assumption | exact nq_ga (by assumption) | exact nq_gs (by first | assumption | exact nq_gs (by assumption) | exact nq_gn (by first | assumption | decide | omega | exact nq_ne1 (by assumption) (by assumption) | exact nq_ne2 (by assumption) (by assumption)) (by assumption) | exact nq_ga (by assumption)) | exact nq_gn (by first | assumption | decide | omega | exact nq_ne1 (by assumption) (by assumption) | exact nq_ne2 (by assumption) (by assumption)) (by first | assumption | exact nq_gs (by assumption) | exact nq_gn (by first | assumption | decide | omega | exact nq_ne1 (by assumption) (by assumption) | exact nq_ne2 (by assumption) (by assumption)) (by assumption) | exact nq_ga (by assumption))) | exact nq_gn (by first | assumption | decide | omega | exact nq_ne1 (by assumption) (by assumption) | exact nq_ne2 (by assumption) (by assumption)) (by first | assumption | exact nq_ga (by assumption) | exact nq_gs (by first | assumption | exact nq_gs (by assumption) | exact nq_gn (by first | assumption | decide | omega | exact nq_ne1 (by assumption) (by assumption) | exact nq_ne2 (by assumption) (by assumption)) (by assumption) | exact nq_ga (by assumption)) | exact nq_gn (by first | assumption | decide | omega | exact nq_ne1 (by assumption) (by assumption) | exact nq_ne2 (by assumption) (by assumption)) (by first | assumption | exact nq_gs (by assumption) | exact nq_gn (by first | assumption | decide | omega | exact nq_ne1 (by assumption) (by assumption) | exact nq_ne2 (by assumption) (by assumption)) (by assumption) | exact nq_ga (by assumption)))) rfl rfl (kc := 0) (ks := 0) (mc' := 0) (ms' := 0) (As := []) (rest := [.int j]) rfl rfl (Nat.le_of_ble_eq_true rfl) (k_Result_width hs) ?_
  rw [e0]
  by_cases b4 : nI (if res = [] then 0 else w) ≤ j
  · refine nq_icmp_lt (pc' := 30) (tgt := 38) d_QS_value_27 rfl (by decide) (fun h => absurd h (Int32.not_lt.mpr b4)) (fun _ => no (.inr (.inr (.inr b4))))
  refine nq_icmp_lt (pc' := 30) (tgt := 38) d_QS_value_27 rfl (by decide) (fun _ => ?_) (fun h => absurd (Int32.not_le.mp b4) h)
  rw [if_neg (fun h => by rcases h with h | h | h | h; exact b1 h; exact b2 h; exact b3 h; exact b4 h)]
  obtain ⟨i', hi', rfl⟩ := nI_of b1
  obtain ⟨j', hj', rfl⟩ := nI_of b3
  rw [nI_clamp hi', nI_clamp hj']
  have c2 : i' < res.length := Nat.lt_of_not_le fun h => b2 ((nI_leI (by omega) hi').mpr h)
  have hne : res ≠ [] := fun h => by rw [h] at c2; simp at c2
  rw [if_neg hne] at b4
  have c4 : j' < w := Nat.lt_of_not_le fun h => b4 ((nI_leI (by omega) hj').mpr h)
  obtain ⟨⟨l1, rel⟩, _⟩ := hr hne
  have hx := List.getElem?_eq_getElem c2
  have he := List.getElem?_eq_getElem (show i' < es.length by omega)
  obtain ⟨_, r2⟩ := rel i' _ _ he hx
  have hxl := hw.2.2.2 _ (List.getElem_mem c2)
  have hv := r2 j' _ c4 (List.getElem?_eq_getElem (show j' < res[i'].2.length by omega))
  refine nq_aload_n (pc' := 39) d_QS_value_38 rfl rfl rfl ?_
  refine nq_getf (pc' := 42) d_QS_value_39 rfl fl_QS_35 (by first | assumption | exact nq_ga (by assumption) | exact nq_gs (by first | assumption | exact nq_ga (by assumption) | exact nq_gs (by first | assumption | exact nq_gs (by assumption) | exact nq_gn (by first | assumption | decide | omega | exact nq_ne1 (by assumption) (by assumption) | exact nq_ne2 (by assumption) (by assumption)) (by assumption) | exact nq_ga (by assumption)) | exact nq_gn (by first | assumption | decide | omega | exact nq_ne1 (by assumption) (by assumption) | exact nq_ne2 (by assumption) (by assumption)) (by first | assumption | exact nq_gs (by assumption) | exact nq_gn (by first | assumption | decide | omega | exact nq_ne1 (by assumption) (by assumption) | exact nq_ne2 (by assumption) (by assumption)) (by assumption) | exact nq_ga (by assumption))) | exact nq_gn (by first | assumption | decide | omega | exact nq_ne1 (by assumption) (by assumption) | exact nq_ne2 (by assumption) (by assumption)) (by first | assumption | exact nq_ga (by assumption) | exact nq_gs (by first | assumption | exact nq_gs (by assumption) | exact nq_gn (by first | assumption | decide | omega | exact nq_ne1 (by assumption) (by assumption) | exact nq_ne2 (by assumption) (by assumption)) (by assumption) | exact nq_ga (by assumption)) | exact nq_gn (by first | assumption | decide | omega | exact nq_ne1 (by assumption) (by assumption) | exact nq_ne2 (by assumption) (by assumption)) (by first | assumption | exact nq_gs (by assumption) | exact nq_gn (by first | assumption | decide | omega | exact nq_ne1 (by assumption) (by assumption) | exact nq_ne2 (by assumption) (by assumption)) (by assumption) | exact nq_ga (by assumption)))) rfl ?_
  refine nq_iload_n (pc' := 43) d_QS_value_42 rfl rfl rfl ?_
  refine nq_iload_n (pc' := 44) d_QS_value_43 rfl rfl rfl ?_
  refine nq_callVR (pc' := 47) d_QS_value_44 rfl cl_QS_89 rfl (by first | assumption | exact nq_ga (by assumption) | exact nq_gs (by first | assumption | exact nq_ga (by assumption) | exact nq_gs (by first | assumption | exact nq_gs (by assumption) | exact nq_gn (by first | assumption | decide | omega | exact nq_ne1 (by assumption) (by assumption) | exact nq_ne2 (by assumption) (by assumption)) (by assumption) | exact nq_ga (by assumption)) | exact nq_gn (by first | assumption | decide | omega | exact nq_ne1 (by assumption) (by assumption) | exact nq_ne2 (by assumption) (by assumption)) (by first | assumption | exact nq_gs (by assumption) | exact nq_gn (by first | assumption | decide | omega | exact nq_ne1 (by assumption) (by assumption) | exact nq_ne2 (by assumption) (by assumption)) (by assumption) | exact nq_ga (by assumption))) | exact nq_gn (by first | assumption | decide | omega | exact nq_ne1 (by assumption) (by assumption) | exact nq_ne2 (by assumption) (by assumption)) (by first | assumption | exact nq_ga (by assumption) | exact nq_gs (by first | assumption | exact nq_gs (by assumption) | exact nq_gn (by first | assumption | decide | omega | exact nq_ne1 (by assumption) (by assumption) | exact nq_ne2 (by assumption) (by assumption)) (by assumption) | exact nq_ga (by assumption)) | exact nq_gn (by first | assumption | decide | omega | exact nq_ne1 (by assumption) (by assumption) | exact nq_ne2 (by assumption) (by assumption)) (by first | assumption | exact nq_gs (by assumption) | exact nq_gn (by first | assumption | decide | omega | exact nq_ne1 (by assumption) (by assumption) | exact nq_ne2 (by assumption) (by assumption)) (by assumption) | exact nq_ga (by assumption)))) rfl rfl (kc := 0) (ks := 0) (mc' := 0) (ms' := 0) (As := [.int (nI i'), .int (nI j')]) (rest := []) rfl rfl (by decide) (k_Result_get hs he (by omega)) ?_
  rw [hv]
  have ev : (res.getD i' (0, [])).2.getD j' 0 = res[i'].2[j'] := by
    have e1 : res.getD i' (0, []) = res[i'] := by rw [List.getD_eq_getElem?_getD, hx]; rfl
    rw [e1, List.getD_eq_getElem?_getD, List.getElem?_eq_getElem (show j' < res[i'].2.length by omega)]
    rfl
  rw [ev]
  refine nq_iret d_QS_value_47 rfl rfl ⟨rfl, hR', ca_fr.rf⟩
end QG
