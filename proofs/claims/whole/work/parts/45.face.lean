/-! THE STORE: type, keep, run, ask -/
theorem rd_T.L {f : Nat → Int32} {T : List Nat} (h : rd_T f T) : rd_L f (sx_L T) T.length := by
  refine ⟨h.1, fun i hi => ?_, fun i hi => ?_⟩
  · obtain ⟨a1, a2, a3⟩ := h.2 i T[i] (List.getElem?_eq_getElem hi)
    have e : sx_L T i = T[i] := by unfold sx_L; rw [List.getD_eq_getElem?_getD, List.getElem?_eq_getElem hi]; rfl
    rw [e]
    exact ⟨a1, by omega, by omega⟩
  · unfold sx_L
    rw [List.getD_eq_getElem?_getD, List.getElem?_eq_none hi]
    rfl
theorem qs_i4 {k : Int32} (h0 : ¬ k < 0) (h4 : ¬ 4 ≤ k) : ∃ j, j < 4 ∧ k = nI j := by
  obtain ⟨j, hj, rfl⟩ := nI_of h0
  refine ⟨j, Nat.lt_of_not_le fun h => h4 ?_, rfl⟩
  exact (nI_leI (a := 4) (by omega) hj).mpr h
section QF
variable {G : nq_G} {d : Nat} {σ : nq_S} {sp : Nat} {bg nt st fi : Int32} {tb old : sx_T} {R ch nn : Nat → Int32} {es : List nq_Er} {size width : Int32} {kp : Nat → Option sp_St}
theorem k_QS_type {v : Int64} {S : sx_S} (hR : qs_R σ S) (hD : 4 ≤ d) : nq_JM G d 0 0 m_QS_type [.ref 0, .long v] σ (ca_Q σ (sx_type v S)) := by
  obtain ⟨d, rfl⟩ := Nat.exists_eq_add_of_le' hD
  obtain ⟨T, pl, kp, tb, old, bg, nt, dn, fl, res, w⟩ := S
  have hR' := hR
  obtain ⟨h0, hw, sp, R, ch, nn, es, width, hX, hr, hB, ⟨e0, a0, cv, cols, f, t1, t2, t3, t4⟩, hP⟩ := hR
  have h1 := hX.1
  unfold sx_type
  simp only
  refine nq_mk' (lv := [some (.ref 0), some (.long v), none]) (by decide +kernel) rfl (Nat.le_of_ble_eq_true rfl) rfl ?_
  refine nq_aload_n (pc' := 1) d_QS_type_0 rfl rfl rfl ?_
  refine nq_getf (pc' := 4) d_QS_type_1 rfl fl_QS_21 (by first | assumption | exact nq_ga (by assumption) | exact nq_gs (by first | assumption | exact nq_ga (by assumption) | exact nq_gs (by first | assumption | exact nq_gs (by assumption) | exact nq_gn (by first | assumption | decide | omega | exact nq_ne1 (by assumption) (by assumption) | exact nq_ne2 (by assumption) (by assumption)) (by assumption) | exact nq_ga (by assumption)) | exact nq_gn (by first | assumption | decide | omega | exact nq_ne1 (by assumption) (by assumption) | exact nq_ne2 (by assumption) (by assumption)) (by first | assumption | exact nq_gs (by assumption) | exact nq_gn (by first | assumption | decide | omega | exact nq_ne1 (by assumption) (by assumption) | exact nq_ne2 (by assumption) (by assumption)) (by assumption) | exact nq_ga (by assumption))) | exact nq_gn (by first | assumption | decide | omega | exact nq_ne1 (by assumption) (by assumption) | exact nq_ne2 (by assumption) (by assumption)) (by first | assumption | exact nq_ga (by assumption) | exact nq_gs (by first | assumption | exact nq_gs (by assumption) | exact nq_gn (by first | assumption | decide | omega | exact nq_ne1 (by assumption) (by assumption) | exact nq_ne2 (by assumption) (by assumption)) (by assumption) | exact nq_ga (by assumption)) | exact nq_gn (by first | assumption | decide | omega | exact nq_ne1 (by assumption) (by assumption) | exact nq_ne2 (by assumption) (by assumption)) (by first | assumption | exact nq_gs (by assumption) | exact nq_gn (by first | assumption | decide | omega | exact nq_ne1 (by assumption) (by assumption) | exact nq_ne2 (by assumption) (by assumption)) (by assumption) | exact nq_ga (by assumption)))) rfl ?_
  refine nq_lload_n (pc' := 5) d_QS_type_4 rfl rfl rfl ?_
  refine nq_callV (pc' := 8) d_QS_type_5 rfl cl_QS_59 rfl (by first | assumption | exact nq_ga (by assumption) | exact nq_gs (by first | assumption | exact nq_ga (by assumption) | exact nq_gs (by first | assumption | exact nq_gs (by assumption) | exact nq_gn (by first | assumption | decide | omega | exact nq_ne1 (by assumption) (by assumption) | exact nq_ne2 (by assumption) (by assumption)) (by assumption) | exact nq_ga (by assumption)) | exact nq_gn (by first | assumption | decide | omega | exact nq_ne1 (by assumption) (by assumption) | exact nq_ne2 (by assumption) (by assumption)) (by first | assumption | exact nq_gs (by assumption) | exact nq_gn (by first | assumption | decide | omega | exact nq_ne1 (by assumption) (by assumption) | exact nq_ne2 (by assumption) (by assumption)) (by assumption) | exact nq_ga (by assumption))) | exact nq_gn (by first | assumption | decide | omega | exact nq_ne1 (by assumption) (by assumption) | exact nq_ne2 (by assumption) (by assumption)) (by first | assumption | exact nq_ga (by assumption) | exact nq_gs (by first | assumption | exact nq_gs (by assumption) | exact nq_gn (by first | assumption | decide | omega | exact nq_ne1 (by assumption) (by assumption) | exact nq_ne2 (by assumption) (by assumption)) (by assumption) | exact nq_ga (by assumption)) | exact nq_gn (by first | assumption | decide | omega | exact nq_ne1 (by assumption) (by assumption) | exact nq_ne2 (by assumption) (by assumption)) (by first | assumption | exact nq_gs (by assumption) | exact nq_gn (by first | assumption | decide | omega | exact nq_ne1 (by assumption) (by assumption) | exact nq_ne2 (by assumption) (by assumption)) (by assumption) | exact nq_ga (by assumption)))) rfl rfl (kc := 0) (ks := 0) (mc' := 0) (ms' := 0) (As := [.long v]) (rest := []) rfl rfl (by decide) (k_Reader_add t4 t1 t3) (fun E σ1 hq => ?_) (fun x σ1 hq => ?_)
  · cases hx : sx_ty v T.length with
    | inl e =>
      rw [hx] at hq
      obtain ⟨q1, rfl⟩ := hq
      exact ⟨q1, hR', ca_fr.rf⟩
    | inr n =>
      rw [hx] at hq
      cases hq.1
  · cases hx : sx_ty v T.length with
    | inl e =>
      rw [hx] at hq
      cases hq.1
    | inr n =>
      rw [hx] at hq
      obtain ⟨q1, f', q2, rfl⟩ := hq
      cases q1
      have hn : n = (sx_cs v 8).length := by
        unfold sx_ty at hx
        split at hx
        · cases hx
        · rename_i m hm
          split at hx
          · cases hx
          · cases hx
            exact (sx_cn_cs v hm).1
      have e : ∀ i, i ≠ 3 → i ≠ 4 → ((σ.set 3 (.inr (3, [.ref 4, .int (nI (T.length + n)), .int e0, .int a0, .int pl, cv, .ref (1000000 + cols)]))).set 4 (.inl (2, 48, .inl f')))[i]? = σ[i]? := fun i a b => by
        rw [List.getElem?_set_ne (Ne.symm b), List.getElem?_set_ne (Ne.symm a)]
      refine nq_iret d_QS_type_8 rfl rfl ?_
      refine ⟨rfl, ⟨by rw [List.length_set, List.length_set]; exact h0, hw, sp, R, ch, nn, es, width, hX.of (fun i hi => e i (by omega) (by omega)), hr, hB.of (fun i hi => e i (by omega) (by omega)), ⟨e0, a0, cv, cols, f', ?_, t2, nq_gs (nq_gn (by decide) t3), q2⟩, hP.of (fun i hi => e i (by omega) (by omega))⟩, fun i a b => e i (by omega) (by omega), by rw [List.length_set, List.length_set]; exact Nat.le_refl _, by rw [List.length_set, List.length_set]; omega⟩
      rw [List.length_append, ← hn]
      exact nq_gn (by decide) (nq_gs t1)
theorem k_QS_refuseBadNumber {k : Int32} : nq_JM G d 0 0 m_QS_refuseBadNumber [.int k] σ (fun o σ' => σ' = σ ∧ o = if k < 0 ∨ 4 ≤ k then .inr nq_IA else .inl none) := by
  refine nq_mk' (lv := [some (.int k)]) (by decide +kernel) rfl (Nat.le_of_ble_eq_true rfl) rfl ?_
  refine nq_iload_n (pc' := 1) d_QS_refuseBadNumber_0 rfl rfl rfl ?_
  refine nq_if_lt (pc' := 4) (tgt := 9) d_QS_refuseBadNumber_1 rfl (by decide) (fun h => ?_) (fun h => ?_)
  · refine nq_throw tl_QS_93_95 rfl (by decide) d_QS_refuseBadNumber_9 d_QS_refuseBadNumber_12 d_QS_refuseBadNumber_13 d_QS_refuseBadNumber_16 ⟨rfl, by rw [if_pos (.inl h)]⟩
  · refine nq_iload_n (pc' := 5) d_QS_refuseBadNumber_4 rfl rfl rfl ?_
    refine nq_iconst (v := 4) (pc' := 6) d_QS_refuseBadNumber_5 rfl (by decide) ?_
    refine nq_icmp_lt (pc' := 9) (tgt := 17) d_QS_refuseBadNumber_6 rfl (by decide) (fun h4 => ?_) (fun h4 => ?_)
    · refine nq_vret d_QS_refuseBadNumber_17 rfl ⟨rfl, by rw [if_neg (fun hh => hh.elim h (fun h5 => absurd h4 (Int32.not_lt.mpr h5)))]⟩
    · refine nq_throw tl_QS_93_95 rfl (by decide) d_QS_refuseBadNumber_9 d_QS_refuseBadNumber_12 d_QS_refuseBadNumber_13 d_QS_refuseBadNumber_16 ⟨rfl, by rw [if_pos (.inr (Int32.not_lt.mp h4))]⟩
/-- the text was read into the spare code -/
theorem qs_rd {σ' : nq_S} {N at9 cols q : Nat} {f : Nat → Int32} {pl' : Int32} {Lc : List nq_In} {h : List Value} (hX : qs_X σ sp bg nt st fi tb R ch nn es size width) (hB : qs_B σ old) (hP : qs_P σ sp kp) (fr : rd_fr 3 sp (sp + 1) (sp + 2) (sp + 3) σ σ') (hW : rd_W σ' 3 4 sp (sp + 1) (sp + 2) (sp + 3) f 0 N at9 pl' cols Lc h q) (hh : h.length = 8) (hc : cols < 22) : qs_X σ' sp bg nt st fi tb R ch nn es size width ∧ qs_B σ' old ∧ qs_T σ' [] pl' ∧ qs_P σ' sp kp ∧ ca_fr σ σ' := by
  obtain ⟨g, p1, p2, ⟨Ls, Hs, p3, p4, p5⟩, p6, p7⟩ := hP
  have e : ∀ i, i ≠ 3 → (i < sp ∨ sp + 4 ≤ i) → σ'[i]? = σ[i]? := fun i a b => fr.2 i a (by omega) (by omega) (by omega) (by omega)
  refine ⟨hX.of (fun i hi => e i (by omega) (by omega)), hB.of (fun i hi => e i (by omega) (by omega)), ⟨nI N, nI at9, .ref sp, cols, f, hW.1, hc, hW.2.1, by simp, fun i x hx => by simp at hx⟩, ⟨g, (e 11 (by omega) (by omega)).trans p1, fun k hk => ⟨(p2 k hk).1, fun s hs => ?_⟩, ⟨Lc, h ++ [.int (nI q)], hW.2.2, by rw [List.length_append, hh]; rfl, p5⟩, p6, p7⟩, fun i a b => e i (by omega) (by omega), by rw [fr.1]; exact Nat.le_refl _, by rw [fr.1]; omega⟩
  obtain ⟨c, c1, c2⟩ := (p2 k hk).2 s hs
  have := p6 k c hk c1
  have := c2.2.2
  exact ⟨c, c1, c2.of (fun i a b => e i (by omega) (by omega))⟩
theorem qs_bg0 {b : Bool} : (qs_bg b ≠ 0) = (b = true) := by cases b <;> simp [qs_bg]
theorem xq_chk {k : Nat} : (xq_ch k = true) = (k = 73 ∨ k = 68 ∨ k = 85) := by simp [xq_ch, or_assoc]
/-- a statement was run -/
theorem qs_ran {σ2 : nq_S} {T : List Nat} {pl dn fl : Int32} {bg : Bool} {res : List sx_E} {w : Nat} {s : sp_St} {p : Int32} {o : Option Value ⊕ String} (h0 : 288 ≤ σ.length) (hw : qs_W (T, pl, kp, tb, old, bg, nt, dn, fl, res, w)) (hB : qs_B σ old) (hT : qs_T σ T pl) (hP : qs_P σ sp kp) (hs : sp_ok s) (hq : xe_Q σ sp (qs_bg bg) nt (dn + fl) dn tb width s.1 (sx_exec tb s p) o σ2) : ca_Q σ (sx_run s p (T, pl, kp, tb, old, bg, nt, dn, fl, res, w)) o σ2 := by
  obtain ⟨F, hq⟩ := hq
  have hB2 := hB.of (σ' := σ2) (fun i hi => F.2 i (by unfold qs_k; omega))
  have hT2 := hT.of (σ' := σ2) (F.2 3 (by unfold qs_k; omega)) (F.2 4 (by unfold qs_k; omega))
  have hP2 := hP.of (σ' := σ2) (fun i hi => F.2 i (by unfold qs_k; omega))
  have hl : 288 ≤ σ2.length := by rw [F.1]; exact h0
  unfold sx_run
  simp only
  cases hx : sx_exec tb s p with
  | inl e =>
    rw [hx] at hq
    obtain ⟨q1, R', ch', nn', es', X2⟩ := hq
    refine ⟨q1, ⟨hl, ⟨hw.1, by omega, by simp, fun x hx => (by cases hx)⟩, sp, R', ch', nn', es', width, ?_, fun h => absurd rfl h, hB2, hT2, hP2⟩, ca_fr.qs F⟩
    rw [← Int32.add_assoc]
    exact X2
  | inr v =>
    obtain ⟨n, tb', res', w'⟩ := v
    rw [hx] at hq
    obtain ⟨q1, R', ch', nn', es', width', X2, hr⟩ := hq
    obtain ⟨a1, a2, a3, a4⟩ := sx_exec_ok hs hx
    simp only [qs_bg0, xq_chk] at X2
    refine ⟨q1, ⟨hl, ⟨fun hb => ?_, a1, a2, a3⟩, sp, R', ch', nn', es', width', ?_, hr, hB2, hT2, hP2⟩, ca_fr.qs F⟩
    · rw [if_neg (fun h => by rw [hb] at h; exact absurd h.1 (by decide))]
      exact hw.1 hb
    · rw [show dn + 1 + fl = dn + fl + 1 from by rw [Int32.add_assoc, Int32.add_comm 1 fl, ← Int32.add_assoc]]
      exact X2
theorem k_QS_ask {p : Int32} {S : sx_S} (hR : qs_R σ S) (hD : 24 ≤ d) : nq_JM G d 0 0 m_QS_ask [.ref 0, .int p] σ (ca_Q σ (sx_ask p S)) := by
  obtain ⟨d, rfl⟩ : ∃ d', d = d' + 1 := ⟨d - 1, by omega⟩
  obtain ⟨T, pl, kp, tb, old, bg, nt, dn, fl, res, w⟩ := S
  obtain ⟨h0, hw, sp, R, ch, nn, es, width, hX, hr, hB, ⟨e0, a0, cv, cols, f, t1, t2, t3, t4⟩, hP⟩ := hR
  obtain ⟨g, p1, p2, ⟨Ls, Hs, p3, p4, p5⟩, p6, p7⟩ := id hP
  have h1 := hX.1
  unfold sx_ask
  simp only
  refine nq_mk' (lv := [some (.ref 0), some (.int p)]) (by decide +kernel) rfl (Nat.le_of_ble_eq_true rfl) rfl ?_
  refine nq_aload_n (pc' := 1) d_QS_ask_0 rfl rfl rfl ?_
  refine nq_getf (pc' := 4) d_QS_ask_1 rfl fl_QS_21 (by first | assumption | exact nq_ga (by assumption) | exact nq_gs (by first | assumption | exact nq_ga (by assumption) | exact nq_gs (by first | assumption | exact nq_gs (by assumption) | exact nq_gn (by first | assumption | decide | omega | exact nq_ne1 (by assumption) (by assumption) | exact nq_ne2 (by assumption) (by assumption)) (by assumption) | exact nq_ga (by assumption)) | exact nq_gn (by first | assumption | decide | omega | exact nq_ne1 (by assumption) (by assumption) | exact nq_ne2 (by assumption) (by assumption)) (by first | assumption | exact nq_gs (by assumption) | exact nq_gn (by first | assumption | decide | omega | exact nq_ne1 (by assumption) (by assumption) | exact nq_ne2 (by assumption) (by assumption)) (by assumption) | exact nq_ga (by assumption))) | exact nq_gn (by first | assumption | decide | omega | exact nq_ne1 (by assumption) (by assumption) | exact nq_ne2 (by assumption) (by assumption)) (by first | assumption | exact nq_ga (by assumption) | exact nq_gs (by first | assumption | exact nq_gs (by assumption) | exact nq_gn (by first | assumption | decide | omega | exact nq_ne1 (by assumption) (by assumption) | exact nq_ne2 (by assumption) (by assumption)) (by assumption) | exact nq_ga (by assumption)) | exact nq_gn (by first | assumption | decide | omega | exact nq_ne1 (by assumption) (by assumption) | exact nq_ne2 (by assumption) (by assumption)) (by first | assumption | exact nq_gs (by assumption) | exact nq_gn (by first | assumption | decide | omega | exact nq_ne1 (by assumption) (by assumption) | exact nq_ne2 (by assumption) (by assumption)) (by assumption) | exact nq_ga (by assumption)))) rfl ?_
  refine nq_aload_n (pc' := 5) d_QS_ask_4 rfl rfl rfl ?_
  refine nq_getf (pc' := 8) d_QS_ask_5 rfl fl_QS_54 (by first | assumption | exact nq_ga (by assumption) | exact nq_gs (by first | assumption | exact nq_ga (by assumption) | exact nq_gs (by first | assumption | exact nq_gs (by assumption) | exact nq_gn (by first | assumption | decide | omega | exact nq_ne1 (by assumption) (by assumption) | exact nq_ne2 (by assumption) (by assumption)) (by assumption) | exact nq_ga (by assumption)) | exact nq_gn (by first | assumption | decide | omega | exact nq_ne1 (by assumption) (by assumption) | exact nq_ne2 (by assumption) (by assumption)) (by first | assumption | exact nq_gs (by assumption) | exact nq_gn (by first | assumption | decide | omega | exact nq_ne1 (by assumption) (by assumption) | exact nq_ne2 (by assumption) (by assumption)) (by assumption) | exact nq_ga (by assumption))) | exact nq_gn (by first | assumption | decide | omega | exact nq_ne1 (by assumption) (by assumption) | exact nq_ne2 (by assumption) (by assumption)) (by first | assumption | exact nq_ga (by assumption) | exact nq_gs (by first | assumption | exact nq_gs (by assumption) | exact nq_gn (by first | assumption | decide | omega | exact nq_ne1 (by assumption) (by assumption) | exact nq_ne2 (by assumption) (by assumption)) (by assumption) | exact nq_ga (by assumption)) | exact nq_gn (by first | assumption | decide | omega | exact nq_ne1 (by assumption) (by assumption) | exact nq_ne2 (by assumption) (by assumption)) (by first | assumption | exact nq_gs (by assumption) | exact nq_gn (by first | assumption | decide | omega | exact nq_ne1 (by assumption) (by assumption) | exact nq_ne2 (by assumption) (by assumption)) (by assumption) | exact nq_ga (by assumption)))) rfl ?_
  refine nq_callV (pc' := 11) d_QS_ask_8 rfl cl_QS_67 rfl (by first | assumption | exact nq_ga (by assumption) | exact nq_gs (by first | assumption | exact nq_ga (by assumption) | exact nq_gs (by first | assumption | exact nq_gs (by assumption) | exact nq_gn (by first | assumption | decide | omega | exact nq_ne1 (by assumption) (by assumption) | exact nq_ne2 (by assumption) (by assumption)) (by assumption) | exact nq_ga (by assumption)) | exact nq_gn (by first | assumption | decide | omega | exact nq_ne1 (by assumption) (by assumption) | exact nq_ne2 (by assumption) (by assumption)) (by first | assumption | exact nq_gs (by assumption) | exact nq_gn (by first | assumption | decide | omega | exact nq_ne1 (by assumption) (by assumption) | exact nq_ne2 (by assumption) (by assumption)) (by assumption) | exact nq_ga (by assumption))) | exact nq_gn (by first | assumption | decide | omega | exact nq_ne1 (by assumption) (by assumption) | exact nq_ne2 (by assumption) (by assumption)) (by first | assumption | exact nq_ga (by assumption) | exact nq_gs (by first | assumption | exact nq_gs (by assumption) | exact nq_gn (by first | assumption | decide | omega | exact nq_ne1 (by assumption) (by assumption) | exact nq_ne2 (by assumption) (by assumption)) (by assumption) | exact nq_ga (by assumption)) | exact nq_gn (by first | assumption | decide | omega | exact nq_ne1 (by assumption) (by assumption) | exact nq_ne2 (by assumption) (by assumption)) (by first | assumption | exact nq_gs (by assumption) | exact nq_gn (by first | assumption | decide | omega | exact nq_ne1 (by assumption) (by assumption) | exact nq_ne2 (by assumption) (by assumption)) (by assumption) | exact nq_ga (by assumption)))) rfl rfl (kc := 0) (ks := 0) (mc' := 0) (ms' := 0) (As := [.ref sp]) (rest := []) rfl rfl (by decide) (k_Reader_read (by omega) t4.L t1 t3 p3 p4 t2) (fun E σ1 hq => ?_) (fun x σ1 hq => ?_)
  · cases hx : sp_stmt (sx_L T) T.length with
    | inl q =>
      rw [hx] at hq
      obtain ⟨q1, fr, Lc, h, q', cols', hh, hc, hW⟩ := hq
      obtain ⟨x1, x2, x3, x4, x5⟩ := qs_rd hX hB hP fr hW hh hc
      exact ⟨q1, ⟨by rw [fr.1]; exact h0, hw, sp, R, ch, nn, es, width, x1, hr, x2, x3, x4⟩, x5⟩
    | inr s =>
      rw [hx] at hq
      cases hq.1
  · cases hx : sp_stmt (sx_L T) T.length with
    | inl q =>
      rw [hx] at hq
      cases hq.1
    | inr s =>
      rw [hx] at hq
      obtain ⟨q1, fr, at9, cols', hc, hW⟩ := hq
      cases q1
      have hs := sp_stmt_ok t4.L.1 t4.L.lt hx
      obtain ⟨x1, x2, x3, x4, x5⟩ := qs_rd hX hB hP fr hW rfl hc
      have hC : qs_C σ1 sp s := ⟨hW.2.2, hs, p5⟩
      have y1 := x1.1
      have hl1 : 288 ≤ σ1.length := by rw [fr.1]; exact h0
      have tr : ∀ o σ2, ca_Q σ1 (sx_run s p ([], pl, kp, tb, old, bg, nt, dn, fl, res, w)) o σ2 → ca_Q σ (sx_run s p ([], pl, kp, tb, old, bg, nt, dn, fl, res, w)) o σ2 := fun o σ2 h => ⟨h.1, h.2.1, fun i a b => (h.2.2.1 i a b).trans (x5.1 i a b), by have := h.2.2.2.1; rw [fr.1] at this; exact this, by have := h.2.2.2.2; rw [fr.1] at this; exact this⟩
      simp only
      refine nq_aload_n (pc' := 12) d_QS_ask_11 rfl rfl rfl ?_
      refine nq_aload_n (pc' := 13) d_QS_ask_12 rfl rfl rfl ?_
      refine nq_getf (pc' := 16) d_QS_ask_13 rfl fl_QS_54 (by first | assumption | exact nq_ga (by assumption) | exact nq_gs (by first | assumption | exact nq_ga (by assumption) | exact nq_gs (by first | assumption | exact nq_gs (by assumption) | exact nq_gn (by first | assumption | decide | omega | exact nq_ne1 (by assumption) (by assumption) | exact nq_ne2 (by assumption) (by assumption)) (by assumption) | exact nq_ga (by assumption)) | exact nq_gn (by first | assumption | decide | omega | exact nq_ne1 (by assumption) (by assumption) | exact nq_ne2 (by assumption) (by assumption)) (by first | assumption | exact nq_gs (by assumption) | exact nq_gn (by first | assumption | decide | omega | exact nq_ne1 (by assumption) (by assumption) | exact nq_ne2 (by assumption) (by assumption)) (by assumption) | exact nq_ga (by assumption))) | exact nq_gn (by first | assumption | decide | omega | exact nq_ne1 (by assumption) (by assumption) | exact nq_ne2 (by assumption) (by assumption)) (by first | assumption | exact nq_ga (by assumption) | exact nq_gs (by first | assumption | exact nq_gs (by assumption) | exact nq_gn (by first | assumption | decide | omega | exact nq_ne1 (by assumption) (by assumption) | exact nq_ne2 (by assumption) (by assumption)) (by assumption) | exact nq_ga (by assumption)) | exact nq_gn (by first | assumption | decide | omega | exact nq_ne1 (by assumption) (by assumption) | exact nq_ne2 (by assumption) (by assumption)) (by first | assumption | exact nq_gs (by assumption) | exact nq_gn (by first | assumption | decide | omega | exact nq_ne1 (by assumption) (by assumption) | exact nq_ne2 (by assumption) (by assumption)) (by assumption) | exact nq_ga (by assumption)))) rfl ?_
      refine nq_iload_n (pc' := 17) d_QS_ask_16 rfl rfl rfl ?_
      refine nq_callV (pc' := 20) d_QS_ask_17 rfl cl_QS_78 rfl (by first | assumption | exact nq_ga (by assumption) | exact nq_gs (by first | assumption | exact nq_ga (by assumption) | exact nq_gs (by first | assumption | exact nq_gs (by assumption) | exact nq_gn (by first | assumption | decide | omega | exact nq_ne1 (by assumption) (by assumption) | exact nq_ne2 (by assumption) (by assumption)) (by assumption) | exact nq_ga (by assumption)) | exact nq_gn (by first | assumption | decide | omega | exact nq_ne1 (by assumption) (by assumption) | exact nq_ne2 (by assumption) (by assumption)) (by first | assumption | exact nq_gs (by assumption) | exact nq_gn (by first | assumption | decide | omega | exact nq_ne1 (by assumption) (by assumption) | exact nq_ne2 (by assumption) (by assumption)) (by assumption) | exact nq_ga (by assumption))) | exact nq_gn (by first | assumption | decide | omega | exact nq_ne1 (by assumption) (by assumption) | exact nq_ne2 (by assumption) (by assumption)) (by first | assumption | exact nq_ga (by assumption) | exact nq_gs (by first | assumption | exact nq_gs (by assumption) | exact nq_gn (by first | assumption | decide | omega | exact nq_ne1 (by assumption) (by assumption) | exact nq_ne2 (by assumption) (by assumption)) (by assumption) | exact nq_ga (by assumption)) | exact nq_gn (by first | assumption | decide | omega | exact nq_ne1 (by assumption) (by assumption) | exact nq_ne2 (by assumption) (by assumption)) (by first | assumption | exact nq_gs (by assumption) | exact nq_gn (by first | assumption | decide | omega | exact nq_ne1 (by assumption) (by assumption) | exact nq_ne2 (by assumption) (by assumption)) (by assumption) | exact nq_ga (by assumption)))) rfl rfl (kc := 0) (ks := 0) (mc' := 0) (ms' := 0) (As := [.ref sp, .int p]) (rest := []) rfl rfl (by decide) (k_QS_execute x1 hC (by omega)) (fun E σ2 hq => tr _ _ (qs_ran hl1 hw x2 x3 x4 hs hq)) (fun v σ2 hq => ?_)
      have hq2 := tr _ _ (qs_ran hl1 hw x2 x3 x4 hs hq)
      have hv : ∃ n, v = some (.int n) := by
        obtain ⟨_, hq⟩ := hq
        cases hy : sx_exec tb s p with
        | inl e => rw [hy] at hq; cases hq.1
        | inr z => rw [hy] at hq; obtain ⟨q1, _⟩ := hq; cases q1; exact ⟨_, rfl⟩
      obtain ⟨n, rfl⟩ := hv
      refine nq_iret d_QS_ask_20 rfl rfl hq2
theorem k_QS_run {k p : Int32} {S : sx_S} (hR : qs_R σ S) (hD : 8 ≤ d) : nq_JM G d 0 0 m_QS_run [.ref 0, .int k, .int p] σ (ca_Q σ (sx_runk k p S)) := by
  obtain ⟨d, rfl⟩ : ∃ d', d = d' + 1 := ⟨d - 1, by omega⟩
  obtain ⟨T, pl, kp, tb, old, bg, nt, dn, fl, res, w⟩ := S
  have hR' := hR
  obtain ⟨h0, hw, sp, R, ch, nn, es, width, hX, hr, hB, hT, hP⟩ := hR
  obtain ⟨g, p1, p2, ⟨Ls, Hs, p3, p4, p5⟩, p6, p7⟩ := id hP
  have h1 := hX.1
  unfold sx_runk
  refine nq_mk' (lv := [some (.ref 0), some (.int k), some (.int p)]) (by decide +kernel) rfl (Nat.le_of_ble_eq_true rfl) rfl ?_
  refine nq_iload_n (pc' := 1) d_QS_run_0 rfl rfl rfl ?_
  refine nq_callS (pc' := 4) d_QS_run_1 rfl cl_QS_63 st_QS_63 rfl (kc := 0) (ks := 0) (mc' := 0) (ms' := 0) (As := [.int k]) (rest := []) rfl rfl (by decide) k_QS_refuseBadNumber (fun E σ1 hq => ?_) (fun x σ1 hq => ?_)
  · obtain ⟨rfl, hq⟩ := hq
    by_cases hk : k < 0 ∨ 4 ≤ k
    · rw [if_pos hk] at hq ⊢
      exact ⟨hq, hR', ca_fr.rf⟩
    · rw [if_neg hk] at hq
      cases hq
  obtain ⟨rfl, hq⟩ := hq
  by_cases hk : k < 0 ∨ 4 ≤ k
  · rw [if_pos hk] at hq
    cases hq
  rw [if_neg hk] at hq ⊢
  cases hq
  obtain ⟨j, hj, rfl⟩ := qs_i4 (fun h => hk (.inl h)) (fun h => hk (.inr h))
  rw [nI_clamp (by omega)]
  obtain ⟨g1, g2⟩ := p2 j hj
  refine nq_aload_n (pc' := 5) d_QS_run_4 rfl rfl rfl ?_
  refine nq_getf (pc' := 8) d_QS_run_5 rfl fl_QS_41 (by first | assumption | exact nq_ga (by assumption) | exact nq_gs (by first | assumption | exact nq_ga (by assumption) | exact nq_gs (by first | assumption | exact nq_gs (by assumption) | exact nq_gn (by first | assumption | decide | omega | exact nq_ne1 (by assumption) (by assumption) | exact nq_ne2 (by assumption) (by assumption)) (by assumption) | exact nq_ga (by assumption)) | exact nq_gn (by first | assumption | decide | omega | exact nq_ne1 (by assumption) (by assumption) | exact nq_ne2 (by assumption) (by assumption)) (by first | assumption | exact nq_gs (by assumption) | exact nq_gn (by first | assumption | decide | omega | exact nq_ne1 (by assumption) (by assumption) | exact nq_ne2 (by assumption) (by assumption)) (by assumption) | exact nq_ga (by assumption))) | exact nq_gn (by first | assumption | decide | omega | exact nq_ne1 (by assumption) (by assumption) | exact nq_ne2 (by assumption) (by assumption)) (by first | assumption | exact nq_ga (by assumption) | exact nq_gs (by first | assumption | exact nq_gs (by assumption) | exact nq_gn (by first | assumption | decide | omega | exact nq_ne1 (by assumption) (by assumption) | exact nq_ne2 (by assumption) (by assumption)) (by assumption) | exact nq_ga (by assumption)) | exact nq_gn (by first | assumption | decide | omega | exact nq_ne1 (by assumption) (by assumption) | exact nq_ne2 (by assumption) (by assumption)) (by first | assumption | exact nq_gs (by assumption) | exact nq_gn (by first | assumption | decide | omega | exact nq_ne1 (by assumption) (by assumption) | exact nq_ne2 (by assumption) (by assumption)) (by assumption) | exact nq_ga (by assumption)))) rfl ?_
  refine nq_iload_n (pc' := 9) d_QS_run_8 rfl rfl rfl ?_
  simp only
  cases hkp : kp j with
  | none =>
    have hg := g1 hkp
    refine nq_aald (pc' := 10) d_QS_run_9 rfl (by first | assumption | exact nq_ga (by assumption) | exact nq_gs (by first | assumption | exact nq_ga (by assumption) | exact nq_gs (by first | assumption | exact nq_gs (by assumption) | exact nq_gn (by first | assumption | decide | omega | exact nq_ne1 (by assumption) (by assumption) | exact nq_ne2 (by assumption) (by assumption)) (by assumption) | exact nq_ga (by assumption)) | exact nq_gn (by first | assumption | decide | omega | exact nq_ne1 (by assumption) (by assumption) | exact nq_ne2 (by assumption) (by assumption)) (by first | assumption | exact nq_gs (by assumption) | exact nq_gn (by first | assumption | decide | omega | exact nq_ne1 (by assumption) (by assumption) | exact nq_ne2 (by assumption) (by assumption)) (by assumption) | exact nq_ga (by assumption))) | exact nq_gn (by first | assumption | decide | omega | exact nq_ne1 (by assumption) (by assumption) | exact nq_ne2 (by assumption) (by assumption)) (by first | assumption | exact nq_ga (by assumption) | exact nq_gs (by first | assumption | exact nq_gs (by assumption) | exact nq_gn (by first | assumption | decide | omega | exact nq_ne1 (by assumption) (by assumption) | exact nq_ne2 (by assumption) (by assumption)) (by assumption) | exact nq_ga (by assumption)) | exact nq_gn (by first | assumption | decide | omega | exact nq_ne1 (by assumption) (by assumption) | exact nq_ne2 (by assumption) (by assumption)) (by first | assumption | exact nq_gs (by assumption) | exact nq_gn (by first | assumption | decide | omega | exact nq_ne1 (by assumption) (by assumption) | exact nq_ne2 (by assumption) (by assumption)) (by assumption) | exact nq_ga (by assumption)))) rfl (j := j) rfl hj (by decide) ?_
    rw [hg]
    refine nq_ifnonnullN (pc' := 13) d_QS_run_10 rfl ?_
    refine nq_throw tl_QS_75_77 rfl (by decide) d_QS_run_13 d_QS_run_16 d_QS_run_17 d_QS_run_20 ⟨rfl, hR', ca_fr.rf⟩
  | some s =>
    obtain ⟨c, hg, hC⟩ := g2 s hkp
    obtain ⟨n', hcc⟩ := hC.cell
    refine nq_aaldR (pc' := 10) d_QS_run_9 rfl (by first | assumption | exact nq_ga (by assumption) | exact nq_gs (by first | assumption | exact nq_ga (by assumption) | exact nq_gs (by first | assumption | exact nq_gs (by assumption) | exact nq_gn (by first | assumption | decide | omega | exact nq_ne1 (by assumption) (by assumption) | exact nq_ne2 (by assumption) (by assumption)) (by assumption) | exact nq_ga (by assumption)) | exact nq_gn (by first | assumption | decide | omega | exact nq_ne1 (by assumption) (by assumption) | exact nq_ne2 (by assumption) (by assumption)) (by first | assumption | exact nq_gs (by assumption) | exact nq_gn (by first | assumption | decide | omega | exact nq_ne1 (by assumption) (by assumption) | exact nq_ne2 (by assumption) (by assumption)) (by assumption) | exact nq_ga (by assumption))) | exact nq_gn (by first | assumption | decide | omega | exact nq_ne1 (by assumption) (by assumption) | exact nq_ne2 (by assumption) (by assumption)) (by first | assumption | exact nq_ga (by assumption) | exact nq_gs (by first | assumption | exact nq_gs (by assumption) | exact nq_gn (by first | assumption | decide | omega | exact nq_ne1 (by assumption) (by assumption) | exact nq_ne2 (by assumption) (by assumption)) (by assumption) | exact nq_ga (by assumption)) | exact nq_gn (by first | assumption | decide | omega | exact nq_ne1 (by assumption) (by assumption) | exact nq_ne2 (by assumption) (by assumption)) (by first | assumption | exact nq_gs (by assumption) | exact nq_gn (by first | assumption | decide | omega | exact nq_ne1 (by assumption) (by assumption) | exact nq_ne2 (by assumption) (by assumption)) (by assumption) | exact nq_ga (by assumption)))) rfl (j := j) rfl hj hg (by decide) ?_
    refine nq_ifnonnull (tgt := 21) d_QS_run_10 (by decide) ?_
    refine nq_aload_n (pc' := 22) d_QS_run_21 rfl rfl rfl ?_
    refine nq_aload_n (pc' := 23) d_QS_run_22 rfl rfl rfl ?_
    refine nq_getf (pc' := 26) d_QS_run_23 rfl fl_QS_41 (by first | assumption | exact nq_ga (by assumption) | exact nq_gs (by first | assumption | exact nq_ga (by assumption) | exact nq_gs (by first | assumption | exact nq_gs (by assumption) | exact nq_gn (by first | assumption | decide | omega | exact nq_ne1 (by assumption) (by assumption) | exact nq_ne2 (by assumption) (by assumption)) (by assumption) | exact nq_ga (by assumption)) | exact nq_gn (by first | assumption | decide | omega | exact nq_ne1 (by assumption) (by assumption) | exact nq_ne2 (by assumption) (by assumption)) (by first | assumption | exact nq_gs (by assumption) | exact nq_gn (by first | assumption | decide | omega | exact nq_ne1 (by assumption) (by assumption) | exact nq_ne2 (by assumption) (by assumption)) (by assumption) | exact nq_ga (by assumption))) | exact nq_gn (by first | assumption | decide | omega | exact nq_ne1 (by assumption) (by assumption) | exact nq_ne2 (by assumption) (by assumption)) (by first | assumption | exact nq_ga (by assumption) | exact nq_gs (by first | assumption | exact nq_gs (by assumption) | exact nq_gn (by first | assumption | decide | omega | exact nq_ne1 (by assumption) (by assumption) | exact nq_ne2 (by assumption) (by assumption)) (by assumption) | exact nq_ga (by assumption)) | exact nq_gn (by first | assumption | decide | omega | exact nq_ne1 (by assumption) (by assumption) | exact nq_ne2 (by assumption) (by assumption)) (by first | assumption | exact nq_gs (by assumption) | exact nq_gn (by first | assumption | decide | omega | exact nq_ne1 (by assumption) (by assumption) | exact nq_ne2 (by assumption) (by assumption)) (by assumption) | exact nq_ga (by assumption)))) rfl ?_
    refine nq_iload_n (pc' := 27) d_QS_run_26 rfl rfl rfl ?_
    refine nq_aaldR (pc' := 28) d_QS_run_27 rfl (by first | assumption | exact nq_ga (by assumption) | exact nq_gs (by first | assumption | exact nq_ga (by assumption) | exact nq_gs (by first | assumption | exact nq_gs (by assumption) | exact nq_gn (by first | assumption | decide | omega | exact nq_ne1 (by assumption) (by assumption) | exact nq_ne2 (by assumption) (by assumption)) (by assumption) | exact nq_ga (by assumption)) | exact nq_gn (by first | assumption | decide | omega | exact nq_ne1 (by assumption) (by assumption) | exact nq_ne2 (by assumption) (by assumption)) (by first | assumption | exact nq_gs (by assumption) | exact nq_gn (by first | assumption | decide | omega | exact nq_ne1 (by assumption) (by assumption) | exact nq_ne2 (by assumption) (by assumption)) (by assumption) | exact nq_ga (by assumption))) | exact nq_gn (by first | assumption | decide | omega | exact nq_ne1 (by assumption) (by assumption) | exact nq_ne2 (by assumption) (by assumption)) (by first | assumption | exact nq_ga (by assumption) | exact nq_gs (by first | assumption | exact nq_gs (by assumption) | exact nq_gn (by first | assumption | decide | omega | exact nq_ne1 (by assumption) (by assumption) | exact nq_ne2 (by assumption) (by assumption)) (by assumption) | exact nq_ga (by assumption)) | exact nq_gn (by first | assumption | decide | omega | exact nq_ne1 (by assumption) (by assumption) | exact nq_ne2 (by assumption) (by assumption)) (by first | assumption | exact nq_gs (by assumption) | exact nq_gn (by first | assumption | decide | omega | exact nq_ne1 (by assumption) (by assumption) | exact nq_ne2 (by assumption) (by assumption)) (by assumption) | exact nq_ga (by assumption)))) rfl (j := j) rfl hj hg (by decide) ?_
    refine nq_iload_n (pc' := 29) d_QS_run_28 rfl rfl rfl ?_
    refine nq_callV (pc' := 32) d_QS_run_29 rfl cl_QS_78 rfl (by first | assumption | exact nq_ga (by assumption) | exact nq_gs (by first | assumption | exact nq_ga (by assumption) | exact nq_gs (by first | assumption | exact nq_gs (by assumption) | exact nq_gn (by first | assumption | decide | omega | exact nq_ne1 (by assumption) (by assumption) | exact nq_ne2 (by assumption) (by assumption)) (by assumption) | exact nq_ga (by assumption)) | exact nq_gn (by first | assumption | decide | omega | exact nq_ne1 (by assumption) (by assumption) | exact nq_ne2 (by assumption) (by assumption)) (by first | assumption | exact nq_gs (by assumption) | exact nq_gn (by first | assumption | decide | omega | exact nq_ne1 (by assumption) (by assumption) | exact nq_ne2 (by assumption) (by assumption)) (by assumption) | exact nq_ga (by assumption))) | exact nq_gn (by first | assumption | decide | omega | exact nq_ne1 (by assumption) (by assumption) | exact nq_ne2 (by assumption) (by assumption)) (by first | assumption | exact nq_ga (by assumption) | exact nq_gs (by first | assumption | exact nq_gs (by assumption) | exact nq_gn (by first | assumption | decide | omega | exact nq_ne1 (by assumption) (by assumption) | exact nq_ne2 (by assumption) (by assumption)) (by assumption) | exact nq_ga (by assumption)) | exact nq_gn (by first | assumption | decide | omega | exact nq_ne1 (by assumption) (by assumption) | exact nq_ne2 (by assumption) (by assumption)) (by first | assumption | exact nq_gs (by assumption) | exact nq_gn (by first | assumption | decide | omega | exact nq_ne1 (by assumption) (by assumption) | exact nq_ne2 (by assumption) (by assumption)) (by assumption) | exact nq_ga (by assumption)))) rfl rfl (kc := 0) (ks := 0) (mc' := 0) (ms' := 0) (As := [.ref c, .int p]) (rest := []) rfl rfl (by decide) (k_QS_execute hX hC (by omega)) (fun E σ2 hq => qs_ran h0 hw hB hT hP hC.2.1 hq) (fun v σ2 hq => ?_)
    have hq2 := qs_ran h0 hw hB hT hP hC.2.1 hq
    have hv : ∃ n, v = some (.int n) := by
      obtain ⟨_, hq⟩ := hq
      cases hy : sx_exec tb s p with
      | inl e => rw [hy] at hq; cases hq.1
      | inr z => rw [hy] at hq; obtain ⟨q1, _⟩ := hq; cases q1; exact ⟨_, rfl⟩
    obtain ⟨n, rfl⟩ := hv
    refine nq_iret d_QS_run_32 rfl rfl hq2
end QF
