/-! THE STORE: a new one -/
theorem nq_gen {P : nq_S → Prop} {E : nq_S} (k : ∀ w, w = E → P w) : P E := k E rfl
def qs_N (σ : nq_S) : Prop := ∃ R ch nn es width, qs_X σ 14 0 0 0 0 [[], [], []] R ch nn es 0 width ∧ qs_B σ [[], [], []] ∧ qs_T σ [] (-1) ∧ qs_P σ 14 (fun _ => none)
section QI
variable {G : nq_G} {d : Nat} {σ : nq_S}
theorem k_QS_init (hD : 3 ≤ d) (hl : σ.length = 1) (h0 : σ[0]? = some (.inr (6, [.null, .null, .null, .null, .null, .null, .null, .null, .null, .int 0, .int 0, .int 0, .int 0]))) : nq_JM G d 399 3087 m_QS_init [.ref 0] σ (fun o σ' => o = .inl none ∧ σ'.length = 270 ∧ qs_N σ') := by
  obtain ⟨d, rfl⟩ : ∃ d', d = d' + 1 := ⟨d - 1, by omega⟩
  obtain ⟨d2, rfl⟩ : ∃ d2, d = d2 + 1 := ⟨d - 1, by omega⟩
  have hn : ∀ {n : Nat}, n < 1000 → n < 1000000 := fun h => by omega
  refine nq_mk' (lv := [some (.ref 0), none]) (by decide +kernel) rfl (Nat.le_of_ble_eq_true rfl) rfl ?_
  refine nq_aload_n (pc' := 1) d_QS_init_0 rfl rfl rfl ?_
  refine nq_obj (pc' := 4) d_QS_init_1 rfl oi_QS oi_1 oi_2 (by decide) ?_
  refine nq_aload_n (pc' := 5) d_QS_init_4 rfl rfl rfl ?_
  refine nq_iconst (v := 3) (pc' := 6) d_QS_init_5 rfl (by decide) ?_
  have c0 := h0
  have c0x := c0
  refine nq_newq (t := 4) (pc' := 9) d_QS_init_6 rfl al_QS_9 (by decide) rfl rfl (by decide) (kc := 398) (ks := 3084) (by omega) ?_
  refine nq_putF (pc' := 12) d_QS_init_9 rfl flO_QS_11 rfl (by first | assumption | exact nq_ga (by assumption) | exact nq_gs (by first | assumption | exact nq_ga (by assumption) | exact nq_gs (by first | assumption | exact nq_gs (by assumption) | exact nq_gn (by first | assumption | decide | omega | exact nq_ne1 (by assumption) (by assumption) | exact nq_ne2 (by assumption) (by assumption)) (by assumption) | exact nq_ga (by assumption)) | exact nq_gn (by first | assumption | decide | omega | exact nq_ne1 (by assumption) (by assumption) | exact nq_ne2 (by assumption) (by assumption)) (by first | assumption | exact nq_gs (by assumption) | exact nq_gn (by first | assumption | decide | omega | exact nq_ne1 (by assumption) (by assumption) | exact nq_ne2 (by assumption) (by assumption)) (by assumption) | exact nq_ga (by assumption))) | exact nq_gn (by first | assumption | decide | omega | exact nq_ne1 (by assumption) (by assumption) | exact nq_ne2 (by assumption) (by assumption)) (by first | assumption | exact nq_ga (by assumption) | exact nq_gs (by first | assumption | exact nq_gs (by assumption) | exact nq_gn (by first | assumption | decide | omega | exact nq_ne1 (by assumption) (by assumption) | exact nq_ne2 (by assumption) (by assumption)) (by assumption) | exact nq_ga (by assumption)) | exact nq_gn (by first | assumption | decide | omega | exact nq_ne1 (by assumption) (by assumption) | exact nq_ne2 (by assumption) (by assumption)) (by first | assumption | exact nq_gs (by assumption) | exact nq_gn (by first | assumption | decide | omega | exact nq_ne1 (by assumption) (by assumption) | exact nq_ne2 (by assumption) (by assumption)) (by assumption) | exact nq_ga (by assumption)))) (Nat.le_of_ble_eq_true rfl) rfl rfl ?_
  rw [hl]
  refine nq_gen (P := fun w => nq_J _ _ _ _ _ _ _ _ w _) (fun W1 hW1 => ?_)
  have fr1 : ∀ i, i < 1 → i ≠ 0 → W1[i]? = σ[i]? := by
    intro i hi hi0
    rw [hW1]
    rw [List.getElem?_set_ne (Ne.symm hi0), List.getElem?_append_left (by omega)]
  have l1 : W1.length = 2 := by rw [hW1]; rw [List.length_set, List.length_append, hl]; rfl
  have c0 : W1[0]? = some (.inr (6, [.ref 1, .null, .null, .null, .null, .null, .null, .null, .null, .int 0, .int 0, .int 0, .int 0])) := by rw [hW1]; exact nq_gs (nq_ga c0x)
  have c1 : W1[1]? = some (.inl (4, 3, .inr (.inr (fun _ => none)))) := by
    rw [hW1, List.getElem?_set_ne (by decide), ← hl]
    exact nq_gl
  refine nq_aload_n (pc' := 13) d_QS_init_12 rfl rfl rfl ?_
  refine nq_iconst (v := 3) (pc' := 14) d_QS_init_13 rfl (by decide) ?_
  have c0x := c0
  refine nq_newq (t := 4) (pc' := 17) d_QS_init_14 rfl al_QS_9 (by decide) rfl rfl (by decide) (kc := 397) (ks := 3081) (by omega) ?_
  refine nq_putF (pc' := 20) d_QS_init_17 rfl flO_QS_15 rfl (by first | assumption | exact nq_ga (by assumption) | exact nq_gs (by first | assumption | exact nq_ga (by assumption) | exact nq_gs (by first | assumption | exact nq_gs (by assumption) | exact nq_gn (by first | assumption | decide | omega | exact nq_ne1 (by assumption) (by assumption) | exact nq_ne2 (by assumption) (by assumption)) (by assumption) | exact nq_ga (by assumption)) | exact nq_gn (by first | assumption | decide | omega | exact nq_ne1 (by assumption) (by assumption) | exact nq_ne2 (by assumption) (by assumption)) (by first | assumption | exact nq_gs (by assumption) | exact nq_gn (by first | assumption | decide | omega | exact nq_ne1 (by assumption) (by assumption) | exact nq_ne2 (by assumption) (by assumption)) (by assumption) | exact nq_ga (by assumption))) | exact nq_gn (by first | assumption | decide | omega | exact nq_ne1 (by assumption) (by assumption) | exact nq_ne2 (by assumption) (by assumption)) (by first | assumption | exact nq_ga (by assumption) | exact nq_gs (by first | assumption | exact nq_gs (by assumption) | exact nq_gn (by first | assumption | decide | omega | exact nq_ne1 (by assumption) (by assumption) | exact nq_ne2 (by assumption) (by assumption)) (by assumption) | exact nq_ga (by assumption)) | exact nq_gn (by first | assumption | decide | omega | exact nq_ne1 (by assumption) (by assumption) | exact nq_ne2 (by assumption) (by assumption)) (by first | assumption | exact nq_gs (by assumption) | exact nq_gn (by first | assumption | decide | omega | exact nq_ne1 (by assumption) (by assumption) | exact nq_ne2 (by assumption) (by assumption)) (by assumption) | exact nq_ga (by assumption)))) (Nat.le_of_ble_eq_true rfl) rfl rfl ?_
  rw [l1]
  refine nq_gen (P := fun w => nq_J _ _ _ _ _ _ _ _ w _) (fun W2 hW2 => ?_)
  have fr2 : ∀ i, i < 2 → i ≠ 0 → W2[i]? = W1[i]? := by
    intro i hi hi0
    rw [hW2]
    rw [List.getElem?_set_ne (Ne.symm hi0), List.getElem?_append_left (by omega)]
  replace c1 : W2[1]? = some (.inl (4, 3, .inr (.inr (fun _ => none)))) := (fr2 1 (by decide) (by decide)).trans c1
  have l2 : W2.length = 3 := by rw [hW2]; rw [List.length_set, List.length_append, l1]; rfl
  have c0 : W2[0]? = some (.inr (6, [.ref 1, .ref 2, .null, .null, .null, .null, .null, .null, .null, .int 0, .int 0, .int 0, .int 0])) := by rw [hW2]; exact nq_gs (nq_ga c0x)
  have c2 : W2[2]? = some (.inl (4, 3, .inr (.inr (fun _ => none)))) := by
    rw [hW2, List.getElem?_set_ne (by decide), ← l1]
    exact nq_gl
  refine nq_aload_n (pc' := 21) d_QS_init_20 rfl rfl rfl ?_
  refine nq_new (pc' := 24) d_QS_init_21 rfl nl_QS_18 (kc := 396) (ks := 3074) (by omega) ?_
  refine nq_dup (pc' := 25) d_QS_init_24 rfl rfl ?_
  refine nq_gen (P := fun w => nq_J _ _ _ _ _ _ _ _ w _) (fun W3 hW3 => ?_)
  have fr3 : ∀ i, i < 3 → W3[i]? = W2[i]? := by
    intro i hi
    rw [hW3]
    rw [List.getElem?_append_left (by omega)]
  replace c1 : W3[1]? = some (.inl (4, 3, .inr (.inr (fun _ => none)))) := (fr3 1 (by decide)).trans c1
  replace c0 : W3[0]? = some (.inr (6, [.ref 1, .ref 2, .null, .null, .null, .null, .null, .null, .null, .int 0, .int 0, .int 0, .int 0])) := (fr3 0 (by decide)).trans c0
  replace c2 : W3[2]? = some (.inl (4, 3, .inr (.inr (fun _ => none)))) := (fr3 2 (by decide)).trans c2
  rw [l2]
  have x3 : W3[3]? = some (.inr (3, [.null, .int 0, .int 0, .int 0, .int 0, .null, .null])) := by
    rw [hW3, ← l2]
    exact nq_gl
  have l3 : W3.length = 4 := by rw [hW3]; rw [List.length_append, l2]; rfl
  refine nq_callI (pc' := 28) d_QS_init_25 rfl cl_QS_20 (kc := 394) (ks := 3020) (mc' := 1) (ms' := 48) (As := []) (rest := [.ref 3, .ref 0]) rfl rfl (by decide) (k_Reader_init x3 (by omega)) (fun E σ1 h => by cases h.1) (fun v V3 hq => ?_)
  obtain ⟨e1, c3, c4, lv3, f3⟩ := hq
  cases e1
  rw [l3] at c3 c4 lv3 f3
  have c0x := (f3 0 (by omega) (by decide)).trans c0
  refine nq_putF (pc' := 31) d_QS_init_28 rfl flO_QS_21 rfl (by first | assumption | exact nq_ga (by assumption) | exact nq_gs (by first | assumption | exact nq_ga (by assumption) | exact nq_gs (by first | assumption | exact nq_gs (by assumption) | exact nq_gn (by first | assumption | decide | omega | exact nq_ne1 (by assumption) (by assumption) | exact nq_ne2 (by assumption) (by assumption)) (by assumption) | exact nq_ga (by assumption)) | exact nq_gn (by first | assumption | decide | omega | exact nq_ne1 (by assumption) (by assumption) | exact nq_ne2 (by assumption) (by assumption)) (by first | assumption | exact nq_gs (by assumption) | exact nq_gn (by first | assumption | decide | omega | exact nq_ne1 (by assumption) (by assumption) | exact nq_ne2 (by assumption) (by assumption)) (by assumption) | exact nq_ga (by assumption))) | exact nq_gn (by first | assumption | decide | omega | exact nq_ne1 (by assumption) (by assumption) | exact nq_ne2 (by assumption) (by assumption)) (by first | assumption | exact nq_ga (by assumption) | exact nq_gs (by first | assumption | exact nq_gs (by assumption) | exact nq_gn (by first | assumption | decide | omega | exact nq_ne1 (by assumption) (by assumption) | exact nq_ne2 (by assumption) (by assumption)) (by assumption) | exact nq_ga (by assumption)) | exact nq_gn (by first | assumption | decide | omega | exact nq_ne1 (by assumption) (by assumption) | exact nq_ne2 (by assumption) (by assumption)) (by first | assumption | exact nq_gs (by assumption) | exact nq_gn (by first | assumption | decide | omega | exact nq_ne1 (by assumption) (by assumption) | exact nq_ne2 (by assumption) (by assumption)) (by assumption) | exact nq_ga (by assumption)))) (Nat.le_of_ble_eq_true rfl) rfl rfl ?_
  have c1 := (f3 1 (by omega) (by decide)).trans c1
  have c2 := (f3 2 (by omega) (by decide)).trans c2
  refine nq_gen (P := fun w => nq_J _ _ _ _ _ _ _ _ w _) (fun W4 hW4 => ?_)
  have fr4 : ∀ i, i < 5 → i ≠ 0 → W4[i]? = V3[i]? := by
    intro i hi hi0
    rw [hW4]
    rw [List.getElem?_set_ne (Ne.symm hi0)]
  replace c1 : W4[1]? = some (.inl (4, 3, .inr (.inr (fun _ => none)))) := (fr4 1 (by decide) (by decide)).trans c1
  replace c2 : W4[2]? = some (.inl (4, 3, .inr (.inr (fun _ => none)))) := (fr4 2 (by decide) (by decide)).trans c2
  replace c3 : W4[3]? = some (.inr (3, [.ref 4, .int 0, .int 0, .int 0, .int (-1), .null, .ref 1000000])) := (fr4 3 (by decide) (by decide)).trans c3
  replace c4 : W4[4]? = some (.inl (2, 48, .inl (fun _ => 0))) := (fr4 4 (by decide) (by decide)).trans c4
  have l4 : W4.length = 5 := by rw [hW4]; rw [List.length_set]; exact lv3
  have c0 : W4[0]? = some (.inr (6, [.ref 1, .ref 2, .ref 3, .null, .null, .null, .null, .null, .null, .int 0, .int 0, .int 0, .int 0])) := by rw [hW4]; exact nq_gs c0x
  refine nq_aload_n (pc' := 32) d_QS_init_31 rfl rfl rfl ?_
  refine nq_new (pc' := 35) d_QS_init_32 rfl nl_QS_25 (kc := 393) (ks := 3019) (by omega) ?_
  refine nq_dup (pc' := 36) d_QS_init_35 rfl rfl ?_
  refine nq_gen (P := fun w => nq_J _ _ _ _ _ _ _ _ w _) (fun W5 hW5 => ?_)
  have fr5 : ∀ i, i < 5 → W5[i]? = W4[i]? := by
    intro i hi
    rw [hW5]
    rw [List.getElem?_append_left (by omega)]
  replace c1 : W5[1]? = some (.inl (4, 3, .inr (.inr (fun _ => none)))) := (fr5 1 (by decide)).trans c1
  replace c2 : W5[2]? = some (.inl (4, 3, .inr (.inr (fun _ => none)))) := (fr5 2 (by decide)).trans c2
  replace c3 : W5[3]? = some (.inr (3, [.ref 4, .int 0, .int 0, .int 0, .int (-1), .null, .ref 1000000])) := (fr5 3 (by decide)).trans c3
  replace c4 : W5[4]? = some (.inl (2, 48, .inl (fun _ => 0))) := (fr5 4 (by decide)).trans c4
  replace c0 : W5[0]? = some (.inr (6, [.ref 1, .ref 2, .ref 3, .null, .null, .null, .null, .null, .null, .int 0, .int 0, .int 0, .int 0])) := (fr5 0 (by decide)).trans c0
  rw [l4]
  have x5 : W5[5]? = some (.inr (1, [.null])) := by
    rw [hW5, ← l4]
    exact nq_gl
  have l5 : W5.length = 6 := by rw [hW5]; rw [List.length_append, l4]; rfl
  refine nq_callI (pc' := 39) d_QS_init_36 rfl cl_QS_27 (kc := 391) (ks := 2993) (mc' := 1) (ms' := 20) (As := []) (rest := [.ref 5, .ref 0]) rfl rfl (by decide) (k_Machine_init x5 (by omega)) (fun E σ1 h => by cases h.1) (fun v V5 hq => ?_)
  obtain ⟨e1, c5, c6, lv5, f5⟩ := hq
  cases e1
  rw [l5] at c5 c6 lv5 f5
  have c0x := (f5 0 (by omega) (by decide)).trans c0
  refine nq_putF (pc' := 42) d_QS_init_39 rfl flO_QS_28 rfl (by first | assumption | exact nq_ga (by assumption) | exact nq_gs (by first | assumption | exact nq_ga (by assumption) | exact nq_gs (by first | assumption | exact nq_gs (by assumption) | exact nq_gn (by first | assumption | decide | omega | exact nq_ne1 (by assumption) (by assumption) | exact nq_ne2 (by assumption) (by assumption)) (by assumption) | exact nq_ga (by assumption)) | exact nq_gn (by first | assumption | decide | omega | exact nq_ne1 (by assumption) (by assumption) | exact nq_ne2 (by assumption) (by assumption)) (by first | assumption | exact nq_gs (by assumption) | exact nq_gn (by first | assumption | decide | omega | exact nq_ne1 (by assumption) (by assumption) | exact nq_ne2 (by assumption) (by assumption)) (by assumption) | exact nq_ga (by assumption))) | exact nq_gn (by first | assumption | decide | omega | exact nq_ne1 (by assumption) (by assumption) | exact nq_ne2 (by assumption) (by assumption)) (by first | assumption | exact nq_ga (by assumption) | exact nq_gs (by first | assumption | exact nq_gs (by assumption) | exact nq_gn (by first | assumption | decide | omega | exact nq_ne1 (by assumption) (by assumption) | exact nq_ne2 (by assumption) (by assumption)) (by assumption) | exact nq_ga (by assumption)) | exact nq_gn (by first | assumption | decide | omega | exact nq_ne1 (by assumption) (by assumption) | exact nq_ne2 (by assumption) (by assumption)) (by first | assumption | exact nq_gs (by assumption) | exact nq_gn (by first | assumption | decide | omega | exact nq_ne1 (by assumption) (by assumption) | exact nq_ne2 (by assumption) (by assumption)) (by assumption) | exact nq_ga (by assumption)))) (Nat.le_of_ble_eq_true rfl) rfl rfl ?_
  have c1 := (f5 1 (by omega) (by decide)).trans c1
  have c2 := (f5 2 (by omega) (by decide)).trans c2
  have c3 := (f5 3 (by omega) (by decide)).trans c3
  have c4 := (f5 4 (by omega) (by decide)).trans c4
  refine nq_gen (P := fun w => nq_J _ _ _ _ _ _ _ _ w _) (fun W6 hW6 => ?_)
  have fr6 : ∀ i, i < 7 → i ≠ 0 → W6[i]? = V5[i]? := by
    intro i hi hi0
    rw [hW6]
    rw [List.getElem?_set_ne (Ne.symm hi0)]
  replace c1 : W6[1]? = some (.inl (4, 3, .inr (.inr (fun _ => none)))) := (fr6 1 (by decide) (by decide)).trans c1
  replace c2 : W6[2]? = some (.inl (4, 3, .inr (.inr (fun _ => none)))) := (fr6 2 (by decide) (by decide)).trans c2
  replace c3 : W6[3]? = some (.inr (3, [.ref 4, .int 0, .int 0, .int 0, .int (-1), .null, .ref 1000000])) := (fr6 3 (by decide) (by decide)).trans c3
  replace c4 : W6[4]? = some (.inl (2, 48, .inl (fun _ => 0))) := (fr6 4 (by decide) (by decide)).trans c4
  replace c5 : W6[5]? = some (.inr (1, [.ref 6])) := (fr6 5 (by decide) (by decide)).trans c5
  replace c6 : W6[6]? = some (.inl (0, 20, .inl (fun _ => 0))) := (fr6 6 (by decide) (by decide)).trans c6
  have l6 : W6.length = 7 := by rw [hW6]; rw [List.length_set]; exact lv5
  have c0 : W6[0]? = some (.inr (6, [.ref 1, .ref 2, .ref 3, .ref 5, .null, .null, .null, .null, .null, .int 0, .int 0, .int 0, .int 0])) := by rw [hW6]; exact nq_gs c0x
  refine nq_aload_n (pc' := 43) d_QS_init_42 rfl rfl rfl ?_
  refine nq_new (pc' := 46) d_QS_init_43 rfl nl_QS_32 (kc := 390) (ks := 2987) (by omega) ?_
  refine nq_dup (pc' := 47) d_QS_init_46 rfl rfl ?_
  refine nq_gen (P := fun w => nq_J _ _ _ _ _ _ _ _ w _) (fun W7 hW7 => ?_)
  have fr7 : ∀ i, i < 7 → W7[i]? = W6[i]? := by
    intro i hi
    rw [hW7]
    rw [List.getElem?_append_left (by omega)]
  replace c1 : W7[1]? = some (.inl (4, 3, .inr (.inr (fun _ => none)))) := (fr7 1 (by decide)).trans c1
  replace c2 : W7[2]? = some (.inl (4, 3, .inr (.inr (fun _ => none)))) := (fr7 2 (by decide)).trans c2
  replace c3 : W7[3]? = some (.inr (3, [.ref 4, .int 0, .int 0, .int 0, .int (-1), .null, .ref 1000000])) := (fr7 3 (by decide)).trans c3
  replace c4 : W7[4]? = some (.inl (2, 48, .inl (fun _ => 0))) := (fr7 4 (by decide)).trans c4
  replace c5 : W7[5]? = some (.inr (1, [.ref 6])) := (fr7 5 (by decide)).trans c5
  replace c6 : W7[6]? = some (.inl (0, 20, .inl (fun _ => 0))) := (fr7 6 (by decide)).trans c6
  replace c0 : W7[0]? = some (.inr (6, [.ref 1, .ref 2, .ref 3, .ref 5, .null, .null, .null, .null, .null, .int 0, .int 0, .int 0, .int 0])) := (fr7 0 (by decide)).trans c0
  rw [l6]
  have x7 : W7[7]? = some (.inr (4, [.null, .null, .null, .int 0, .int 0, .int 0])) := by
    rw [hW7, ← l6]
    exact nq_gl
  have l7 : W7.length = 8 := by rw [hW7]; rw [List.length_append, l6]; rfl
  refine nq_callI (pc' := 50) d_QS_init_47 rfl cl_QS_34 (kc := 386) (ks := 2781) (mc' := 3) (ms' := 200) (As := []) (rest := [.ref 7, .ref 0]) rfl rfl (by decide) (k_Result_init x7 (by omega)) (fun E σ1 h => by cases h.1) (fun v V7 hq => ?_)
  obtain ⟨e1, rs, lv7, f7⟩ := hq
  cases e1
  rw [l7] at rs lv7 f7
  have c0x := (f7 0 (by omega) (by decide)).trans c0
  refine nq_putF (pc' := 53) d_QS_init_50 rfl flO_QS_35 rfl (by first | assumption | exact nq_ga (by assumption) | exact nq_gs (by first | assumption | exact nq_ga (by assumption) | exact nq_gs (by first | assumption | exact nq_gs (by assumption) | exact nq_gn (by first | assumption | decide | omega | exact nq_ne1 (by assumption) (by assumption) | exact nq_ne2 (by assumption) (by assumption)) (by assumption) | exact nq_ga (by assumption)) | exact nq_gn (by first | assumption | decide | omega | exact nq_ne1 (by assumption) (by assumption) | exact nq_ne2 (by assumption) (by assumption)) (by first | assumption | exact nq_gs (by assumption) | exact nq_gn (by first | assumption | decide | omega | exact nq_ne1 (by assumption) (by assumption) | exact nq_ne2 (by assumption) (by assumption)) (by assumption) | exact nq_ga (by assumption))) | exact nq_gn (by first | assumption | decide | omega | exact nq_ne1 (by assumption) (by assumption) | exact nq_ne2 (by assumption) (by assumption)) (by first | assumption | exact nq_ga (by assumption) | exact nq_gs (by first | assumption | exact nq_gs (by assumption) | exact nq_gn (by first | assumption | decide | omega | exact nq_ne1 (by assumption) (by assumption) | exact nq_ne2 (by assumption) (by assumption)) (by assumption) | exact nq_ga (by assumption)) | exact nq_gn (by first | assumption | decide | omega | exact nq_ne1 (by assumption) (by assumption) | exact nq_ne2 (by assumption) (by assumption)) (by first | assumption | exact nq_gs (by assumption) | exact nq_gn (by first | assumption | decide | omega | exact nq_ne1 (by assumption) (by assumption) | exact nq_ne2 (by assumption) (by assumption)) (by assumption) | exact nq_ga (by assumption)))) (Nat.le_of_ble_eq_true rfl) rfl rfl ?_
  have c1 := (f7 1 (by omega) (by decide)).trans c1
  have c2 := (f7 2 (by omega) (by decide)).trans c2
  have c3 := (f7 3 (by omega) (by decide)).trans c3
  have c4 := (f7 4 (by omega) (by decide)).trans c4
  have c5 := (f7 5 (by omega) (by decide)).trans c5
  have c6 := (f7 6 (by omega) (by decide)).trans c6
  refine nq_gen (P := fun w => nq_J _ _ _ _ _ _ _ _ w _) (fun W8 hW8 => ?_)
  have fr8 : ∀ i, i < 11 → i ≠ 0 → W8[i]? = V7[i]? := by
    intro i hi hi0
    rw [hW8]
    rw [List.getElem?_set_ne (Ne.symm hi0)]
  replace c1 : W8[1]? = some (.inl (4, 3, .inr (.inr (fun _ => none)))) := (fr8 1 (by decide) (by decide)).trans c1
  replace c2 : W8[2]? = some (.inl (4, 3, .inr (.inr (fun _ => none)))) := (fr8 2 (by decide) (by decide)).trans c2
  replace c3 : W8[3]? = some (.inr (3, [.ref 4, .int 0, .int 0, .int 0, .int (-1), .null, .ref 1000000])) := (fr8 3 (by decide) (by decide)).trans c3
  replace c4 : W8[4]? = some (.inl (2, 48, .inl (fun _ => 0))) := (fr8 4 (by decide) (by decide)).trans c4
  replace c5 : W8[5]? = some (.inr (1, [.ref 6])) := (fr8 5 (by decide) (by decide)).trans c5
  replace c6 : W8[6]? = some (.inl (0, 20, .inl (fun _ => 0))) := (fr8 6 (by decide) (by decide)).trans c6
  replace rs := rs.kept (σ' := W8) (fr8 7 (by decide) (by decide)) (fr8 8 (by decide) (by decide)) (fr8 9 (by decide) (by decide)) (fr8 10 (by decide) (by decide))
  have l8 : W8.length = 11 := by rw [hW8]; rw [List.length_set]; exact lv7
  have c0 : W8[0]? = some (.inr (6, [.ref 1, .ref 2, .ref 3, .ref 5, .ref 7, .null, .null, .null, .null, .int 0, .int 0, .int 0, .int 0])) := by rw [hW8]; exact nq_gs c0x
  refine nq_aload_n (pc' := 54) d_QS_init_53 rfl rfl rfl ?_
  refine nq_iconst (v := 4) (pc' := 55) d_QS_init_54 rfl (by decide) ?_
  have c0x := c0
  refine nq_newq (t := 6) (pc' := 58) d_QS_init_55 rfl al_QS_39 (by decide) rfl rfl (by decide) (kc := 385) (ks := 2777) (by omega) ?_
  refine nq_putF (pc' := 61) d_QS_init_58 rfl flO_QS_41 rfl (by first | assumption | exact nq_ga (by assumption) | exact nq_gs (by first | assumption | exact nq_ga (by assumption) | exact nq_gs (by first | assumption | exact nq_gs (by assumption) | exact nq_gn (by first | assumption | decide | omega | exact nq_ne1 (by assumption) (by assumption) | exact nq_ne2 (by assumption) (by assumption)) (by assumption) | exact nq_ga (by assumption)) | exact nq_gn (by first | assumption | decide | omega | exact nq_ne1 (by assumption) (by assumption) | exact nq_ne2 (by assumption) (by assumption)) (by first | assumption | exact nq_gs (by assumption) | exact nq_gn (by first | assumption | decide | omega | exact nq_ne1 (by assumption) (by assumption) | exact nq_ne2 (by assumption) (by assumption)) (by assumption) | exact nq_ga (by assumption))) | exact nq_gn (by first | assumption | decide | omega | exact nq_ne1 (by assumption) (by assumption) | exact nq_ne2 (by assumption) (by assumption)) (by first | assumption | exact nq_ga (by assumption) | exact nq_gs (by first | assumption | exact nq_gs (by assumption) | exact nq_gn (by first | assumption | decide | omega | exact nq_ne1 (by assumption) (by assumption) | exact nq_ne2 (by assumption) (by assumption)) (by assumption) | exact nq_ga (by assumption)) | exact nq_gn (by first | assumption | decide | omega | exact nq_ne1 (by assumption) (by assumption) | exact nq_ne2 (by assumption) (by assumption)) (by first | assumption | exact nq_gs (by assumption) | exact nq_gn (by first | assumption | decide | omega | exact nq_ne1 (by assumption) (by assumption) | exact nq_ne2 (by assumption) (by assumption)) (by assumption) | exact nq_ga (by assumption)))) (Nat.le_of_ble_eq_true rfl) rfl rfl ?_
  rw [l8]
  refine nq_gen (P := fun w => nq_J _ _ _ _ _ _ _ _ w _) (fun W9 hW9 => ?_)
  have fr9 : ∀ i, i < 11 → i ≠ 0 → W9[i]? = W8[i]? := by
    intro i hi hi0
    rw [hW9]
    rw [List.getElem?_set_ne (Ne.symm hi0), List.getElem?_append_left (by omega)]
  replace c1 : W9[1]? = some (.inl (4, 3, .inr (.inr (fun _ => none)))) := (fr9 1 (by decide) (by decide)).trans c1
  replace c2 : W9[2]? = some (.inl (4, 3, .inr (.inr (fun _ => none)))) := (fr9 2 (by decide) (by decide)).trans c2
  replace c3 : W9[3]? = some (.inr (3, [.ref 4, .int 0, .int 0, .int 0, .int (-1), .null, .ref 1000000])) := (fr9 3 (by decide) (by decide)).trans c3
  replace c4 : W9[4]? = some (.inl (2, 48, .inl (fun _ => 0))) := (fr9 4 (by decide) (by decide)).trans c4
  replace c5 : W9[5]? = some (.inr (1, [.ref 6])) := (fr9 5 (by decide) (by decide)).trans c5
  replace c6 : W9[6]? = some (.inl (0, 20, .inl (fun _ => 0))) := (fr9 6 (by decide) (by decide)).trans c6
  replace rs := rs.kept (σ' := W9) (fr9 7 (by decide) (by decide)) (fr9 8 (by decide) (by decide)) (fr9 9 (by decide) (by decide)) (fr9 10 (by decide) (by decide))
  have l9 : W9.length = 12 := by rw [hW9]; rw [List.length_set, List.length_append, l8]; rfl
  have c0 : W9[0]? = some (.inr (6, [.ref 1, .ref 2, .ref 3, .ref 5, .ref 7, .ref 11, .null, .null, .null, .int 0, .int 0, .int 0, .int 0])) := by rw [hW9]; exact nq_gs (nq_ga c0x)
  have c11 : W9[11]? = some (.inl (6, 4, .inr (.inr (fun _ => none)))) := by
    rw [hW9, List.getElem?_set_ne (by decide), ← l8]
    exact nq_gl
  refine nq_aload_n (pc' := 62) d_QS_init_61 rfl rfl rfl ?_
  refine nq_bipush (v := 20) (pc' := 64) d_QS_init_62 rfl (by decide) ?_
  have c0x := c0
  refine nq_newa_bool (t := 1) (pc' := 66) d_QS_init_64 rfl rfl ac_boolean rfl rfl (by decide) (kc := 384) (ks := 2757) (by omega) ?_
  refine nq_putF (pc' := 69) d_QS_init_66 rfl flO_QS_45 rfl (by first | assumption | exact nq_ga (by assumption) | exact nq_gs (by first | assumption | exact nq_ga (by assumption) | exact nq_gs (by first | assumption | exact nq_gs (by assumption) | exact nq_gn (by first | assumption | decide | omega | exact nq_ne1 (by assumption) (by assumption) | exact nq_ne2 (by assumption) (by assumption)) (by assumption) | exact nq_ga (by assumption)) | exact nq_gn (by first | assumption | decide | omega | exact nq_ne1 (by assumption) (by assumption) | exact nq_ne2 (by assumption) (by assumption)) (by first | assumption | exact nq_gs (by assumption) | exact nq_gn (by first | assumption | decide | omega | exact nq_ne1 (by assumption) (by assumption) | exact nq_ne2 (by assumption) (by assumption)) (by assumption) | exact nq_ga (by assumption))) | exact nq_gn (by first | assumption | decide | omega | exact nq_ne1 (by assumption) (by assumption) | exact nq_ne2 (by assumption) (by assumption)) (by first | assumption | exact nq_ga (by assumption) | exact nq_gs (by first | assumption | exact nq_gs (by assumption) | exact nq_gn (by first | assumption | decide | omega | exact nq_ne1 (by assumption) (by assumption) | exact nq_ne2 (by assumption) (by assumption)) (by assumption) | exact nq_ga (by assumption)) | exact nq_gn (by first | assumption | decide | omega | exact nq_ne1 (by assumption) (by assumption) | exact nq_ne2 (by assumption) (by assumption)) (by first | assumption | exact nq_gs (by assumption) | exact nq_gn (by first | assumption | decide | omega | exact nq_ne1 (by assumption) (by assumption) | exact nq_ne2 (by assumption) (by assumption)) (by assumption) | exact nq_ga (by assumption)))) (Nat.le_of_ble_eq_true rfl) rfl rfl ?_
  rw [l9]
  refine nq_gen (P := fun w => nq_J _ _ _ _ _ _ _ _ w _) (fun W10 hW10 => ?_)
  have fr10 : ∀ i, i < 12 → i ≠ 0 → W10[i]? = W9[i]? := by
    intro i hi hi0
    rw [hW10]
    rw [List.getElem?_set_ne (Ne.symm hi0), List.getElem?_append_left (by omega)]
  replace c1 : W10[1]? = some (.inl (4, 3, .inr (.inr (fun _ => none)))) := (fr10 1 (by decide) (by decide)).trans c1
  replace c2 : W10[2]? = some (.inl (4, 3, .inr (.inr (fun _ => none)))) := (fr10 2 (by decide) (by decide)).trans c2
  replace c3 : W10[3]? = some (.inr (3, [.ref 4, .int 0, .int 0, .int 0, .int (-1), .null, .ref 1000000])) := (fr10 3 (by decide) (by decide)).trans c3
  replace c4 : W10[4]? = some (.inl (2, 48, .inl (fun _ => 0))) := (fr10 4 (by decide) (by decide)).trans c4
  replace c5 : W10[5]? = some (.inr (1, [.ref 6])) := (fr10 5 (by decide) (by decide)).trans c5
  replace c6 : W10[6]? = some (.inl (0, 20, .inl (fun _ => 0))) := (fr10 6 (by decide) (by decide)).trans c6
  replace rs := rs.kept (σ' := W10) (fr10 7 (by decide) (by decide)) (fr10 8 (by decide) (by decide)) (fr10 9 (by decide) (by decide)) (fr10 10 (by decide) (by decide))
  replace c11 : W10[11]? = some (.inl (6, 4, .inr (.inr (fun _ => none)))) := (fr10 11 (by decide) (by decide)).trans c11
  have l10 : W10.length = 13 := by rw [hW10]; rw [List.length_set, List.length_append, l9]; rfl
  have c0 : W10[0]? = some (.inr (6, [.ref 1, .ref 2, .ref 3, .ref 5, .ref 7, .ref 11, .ref 12, .null, .null, .int 0, .int 0, .int 0, .int 0])) := by rw [hW10]; exact nq_gs (nq_ga c0x)
  have c12 : W10[12]? = some (.inl (1, 20, .inl (fun _ => 0))) := by
    rw [hW10, List.getElem?_set_ne (by decide), ← l9]
    exact nq_gl
  refine nq_aload_n (pc' := 70) d_QS_init_69 rfl rfl rfl ?_
  refine nq_bipush (v := 20) (pc' := 72) d_QS_init_70 rfl (by decide) ?_
  have c0x := c0
  refine nq_newa_int (t := 0) (pc' := 74) d_QS_init_72 rfl rfl ac_int rfl rfl (by decide) (kc := 383) (ks := 2737) (by omega) ?_
  refine nq_putF (pc' := 77) d_QS_init_74 rfl flO_QS_49 rfl (by first | assumption | exact nq_ga (by assumption) | exact nq_gs (by first | assumption | exact nq_ga (by assumption) | exact nq_gs (by first | assumption | exact nq_gs (by assumption) | exact nq_gn (by first | assumption | decide | omega | exact nq_ne1 (by assumption) (by assumption) | exact nq_ne2 (by assumption) (by assumption)) (by assumption) | exact nq_ga (by assumption)) | exact nq_gn (by first | assumption | decide | omega | exact nq_ne1 (by assumption) (by assumption) | exact nq_ne2 (by assumption) (by assumption)) (by first | assumption | exact nq_gs (by assumption) | exact nq_gn (by first | assumption | decide | omega | exact nq_ne1 (by assumption) (by assumption) | exact nq_ne2 (by assumption) (by assumption)) (by assumption) | exact nq_ga (by assumption))) | exact nq_gn (by first | assumption | decide | omega | exact nq_ne1 (by assumption) (by assumption) | exact nq_ne2 (by assumption) (by assumption)) (by first | assumption | exact nq_ga (by assumption) | exact nq_gs (by first | assumption | exact nq_gs (by assumption) | exact nq_gn (by first | assumption | decide | omega | exact nq_ne1 (by assumption) (by assumption) | exact nq_ne2 (by assumption) (by assumption)) (by assumption) | exact nq_ga (by assumption)) | exact nq_gn (by first | assumption | decide | omega | exact nq_ne1 (by assumption) (by assumption) | exact nq_ne2 (by assumption) (by assumption)) (by first | assumption | exact nq_gs (by assumption) | exact nq_gn (by first | assumption | decide | omega | exact nq_ne1 (by assumption) (by assumption) | exact nq_ne2 (by assumption) (by assumption)) (by assumption) | exact nq_ga (by assumption)))) (Nat.le_of_ble_eq_true rfl) rfl rfl ?_
  rw [l10]
  refine nq_gen (P := fun w => nq_J _ _ _ _ _ _ _ _ w _) (fun W11 hW11 => ?_)
  have fr11 : ∀ i, i < 13 → i ≠ 0 → W11[i]? = W10[i]? := by
    intro i hi hi0
    rw [hW11]
    rw [List.getElem?_set_ne (Ne.symm hi0), List.getElem?_append_left (by omega)]
  replace c1 : W11[1]? = some (.inl (4, 3, .inr (.inr (fun _ => none)))) := (fr11 1 (by decide) (by decide)).trans c1
  replace c2 : W11[2]? = some (.inl (4, 3, .inr (.inr (fun _ => none)))) := (fr11 2 (by decide) (by decide)).trans c2
  replace c3 : W11[3]? = some (.inr (3, [.ref 4, .int 0, .int 0, .int 0, .int (-1), .null, .ref 1000000])) := (fr11 3 (by decide) (by decide)).trans c3
  replace c4 : W11[4]? = some (.inl (2, 48, .inl (fun _ => 0))) := (fr11 4 (by decide) (by decide)).trans c4
  replace c5 : W11[5]? = some (.inr (1, [.ref 6])) := (fr11 5 (by decide) (by decide)).trans c5
  replace c6 : W11[6]? = some (.inl (0, 20, .inl (fun _ => 0))) := (fr11 6 (by decide) (by decide)).trans c6
  replace rs := rs.kept (σ' := W11) (fr11 7 (by decide) (by decide)) (fr11 8 (by decide) (by decide)) (fr11 9 (by decide) (by decide)) (fr11 10 (by decide) (by decide))
  replace c11 : W11[11]? = some (.inl (6, 4, .inr (.inr (fun _ => none)))) := (fr11 11 (by decide) (by decide)).trans c11
  replace c12 : W11[12]? = some (.inl (1, 20, .inl (fun _ => 0))) := (fr11 12 (by decide) (by decide)).trans c12
  have l11 : W11.length = 14 := by rw [hW11]; rw [List.length_set, List.length_append, l10]; rfl
  have c0 : W11[0]? = some (.inr (6, [.ref 1, .ref 2, .ref 3, .ref 5, .ref 7, .ref 11, .ref 12, .ref 13, .null, .int 0, .int 0, .int 0, .int 0])) := by rw [hW11]; exact nq_gs (nq_ga c0x)
  have c13 : W11[13]? = some (.inl (0, 20, .inl (fun _ => 0))) := by
    rw [hW11, List.getElem?_set_ne (by decide), ← l10]
    exact nq_gl
  refine nq_aload_n (pc' := 78) d_QS_init_77 rfl rfl rfl ?_
  refine nq_new (pc' := 81) d_QS_init_78 rfl nl_QS_39 (kc := 382) (ks := 2724) (by omega) ?_
  refine nq_dup (pc' := 82) d_QS_init_81 rfl rfl ?_
  refine nq_gen (P := fun w => nq_J _ _ _ _ _ _ _ _ w _) (fun W12 hW12 => ?_)
  have fr12 : ∀ i, i < 14 → W12[i]? = W11[i]? := by
    intro i hi
    rw [hW12]
    rw [List.getElem?_append_left (by omega)]
  replace c1 : W12[1]? = some (.inl (4, 3, .inr (.inr (fun _ => none)))) := (fr12 1 (by decide)).trans c1
  replace c2 : W12[2]? = some (.inl (4, 3, .inr (.inr (fun _ => none)))) := (fr12 2 (by decide)).trans c2
  replace c3 : W12[3]? = some (.inr (3, [.ref 4, .int 0, .int 0, .int 0, .int (-1), .null, .ref 1000000])) := (fr12 3 (by decide)).trans c3
  replace c4 : W12[4]? = some (.inl (2, 48, .inl (fun _ => 0))) := (fr12 4 (by decide)).trans c4
  replace c5 : W12[5]? = some (.inr (1, [.ref 6])) := (fr12 5 (by decide)).trans c5
  replace c6 : W12[6]? = some (.inl (0, 20, .inl (fun _ => 0))) := (fr12 6 (by decide)).trans c6
  replace rs := rs.kept (σ' := W12) (fr12 7 (by decide)) (fr12 8 (by decide)) (fr12 9 (by decide)) (fr12 10 (by decide))
  replace c11 : W12[11]? = some (.inl (6, 4, .inr (.inr (fun _ => none)))) := (fr12 11 (by decide)).trans c11
  replace c12 : W12[12]? = some (.inl (1, 20, .inl (fun _ => 0))) := (fr12 12 (by decide)).trans c12
  replace c0 : W12[0]? = some (.inr (6, [.ref 1, .ref 2, .ref 3, .ref 5, .ref 7, .ref 11, .ref 12, .ref 13, .null, .int 0, .int 0, .int 0, .int 0])) := (fr12 0 (by decide)).trans c0
  replace c13 : W12[13]? = some (.inl (0, 20, .inl (fun _ => 0))) := (fr12 13 (by decide)).trans c13
  rw [l11]
  have x14 : W12[14]? = some (.inr (0, [.null, .null, .null, .int 0, .int 0, .int 0, .int 0, .int 0, .int 0, .int 0, .int 0, .int 0, .int 0])) := by
    rw [hW12, ← l11]
    exact nq_gl
  have l12 : W12.length = 15 := by rw [hW12]; rw [List.length_append, l11]; rfl
  refine nq_callI (pc' := 85) d_QS_init_82 rfl cl_QS_53 (kc := 378) (ks := 2574) (mc' := 3) (ms' := 144) (As := []) (rest := [.ref 14, .ref 0]) rfl rfl (by decide) (k_Code_init x14 (by omega)) (fun E σ1 h => by cases h.1) (fun v V14 hq => ?_)
  obtain ⟨e1, cd, lv14, f14⟩ := hq
  cases e1
  rw [l12] at cd lv14 f14
  have c0x := (f14 0 (by omega) (by decide)).trans c0
  refine nq_putf (pc' := 88) d_QS_init_85 rfl fl_QS_54 (by first | assumption | exact nq_ga (by assumption) | exact nq_gs (by first | assumption | exact nq_ga (by assumption) | exact nq_gs (by first | assumption | exact nq_gs (by assumption) | exact nq_gn (by first | assumption | decide | omega | exact nq_ne1 (by assumption) (by assumption) | exact nq_ne2 (by assumption) (by assumption)) (by assumption) | exact nq_ga (by assumption)) | exact nq_gn (by first | assumption | decide | omega | exact nq_ne1 (by assumption) (by assumption) | exact nq_ne2 (by assumption) (by assumption)) (by first | assumption | exact nq_gs (by assumption) | exact nq_gn (by first | assumption | decide | omega | exact nq_ne1 (by assumption) (by assumption) | exact nq_ne2 (by assumption) (by assumption)) (by assumption) | exact nq_ga (by assumption))) | exact nq_gn (by first | assumption | decide | omega | exact nq_ne1 (by assumption) (by assumption) | exact nq_ne2 (by assumption) (by assumption)) (by first | assumption | exact nq_ga (by assumption) | exact nq_gs (by first | assumption | exact nq_gs (by assumption) | exact nq_gn (by first | assumption | decide | omega | exact nq_ne1 (by assumption) (by assumption) | exact nq_ne2 (by assumption) (by assumption)) (by assumption) | exact nq_ga (by assumption)) | exact nq_gn (by first | assumption | decide | omega | exact nq_ne1 (by assumption) (by assumption) | exact nq_ne2 (by assumption) (by assumption)) (by first | assumption | exact nq_gs (by assumption) | exact nq_gn (by first | assumption | decide | omega | exact nq_ne1 (by assumption) (by assumption) | exact nq_ne2 (by assumption) (by assumption)) (by assumption) | exact nq_ga (by assumption)))) (Nat.le_of_ble_eq_true rfl) rfl rfl ?_
  have c1 := (f14 1 (by omega) (by decide)).trans c1
  have c2 := (f14 2 (by omega) (by decide)).trans c2
  have c3 := (f14 3 (by omega) (by decide)).trans c3
  have c4 := (f14 4 (by omega) (by decide)).trans c4
  have c5 := (f14 5 (by omega) (by decide)).trans c5
  have c6 := (f14 6 (by omega) (by decide)).trans c6
  have rs := rs.kept (σ' := V14) (f14 7 (by omega) (by decide)) (f14 8 (by omega) (by decide)) (f14 9 (by omega) (by decide)) (f14 10 (by omega) (by decide))
  have c11 := (f14 11 (by omega) (by decide)).trans c11
  have c12 := (f14 12 (by omega) (by decide)).trans c12
  have c13 := (f14 13 (by omega) (by decide)).trans c13
  refine nq_gen (P := fun w => nq_J _ _ _ _ _ _ _ _ w _) (fun W13 hW13 => ?_)
  have fr13 : ∀ i, i < 18 → i ≠ 0 → W13[i]? = V14[i]? := by
    intro i hi hi0
    rw [hW13]
    rw [List.getElem?_set_ne (Ne.symm hi0)]
  replace c1 : W13[1]? = some (.inl (4, 3, .inr (.inr (fun _ => none)))) := (fr13 1 (by decide) (by decide)).trans c1
  replace c2 : W13[2]? = some (.inl (4, 3, .inr (.inr (fun _ => none)))) := (fr13 2 (by decide) (by decide)).trans c2
  replace c3 : W13[3]? = some (.inr (3, [.ref 4, .int 0, .int 0, .int 0, .int (-1), .null, .ref 1000000])) := (fr13 3 (by decide) (by decide)).trans c3
  replace c4 : W13[4]? = some (.inl (2, 48, .inl (fun _ => 0))) := (fr13 4 (by decide) (by decide)).trans c4
  replace c5 : W13[5]? = some (.inr (1, [.ref 6])) := (fr13 5 (by decide) (by decide)).trans c5
  replace c6 : W13[6]? = some (.inl (0, 20, .inl (fun _ => 0))) := (fr13 6 (by decide) (by decide)).trans c6
  replace rs := rs.kept (σ' := W13) (fr13 7 (by decide) (by decide)) (fr13 8 (by decide) (by decide)) (fr13 9 (by decide) (by decide)) (fr13 10 (by decide) (by decide))
  replace c11 : W13[11]? = some (.inl (6, 4, .inr (.inr (fun _ => none)))) := (fr13 11 (by decide) (by decide)).trans c11
  replace c12 : W13[12]? = some (.inl (1, 20, .inl (fun _ => 0))) := (fr13 12 (by decide) (by decide)).trans c12
  replace c13 : W13[13]? = some (.inl (0, 20, .inl (fun _ => 0))) := (fr13 13 (by decide) (by decide)).trans c13
  replace cd := cd.of (σ' := W13) (fr13 14 (by decide) (by decide)) (fr13 15 (by decide) (by decide)) (fr13 16 (by decide) (by decide)) (fr13 17 (by decide) (by decide))
  have l13 : W13.length = 18 := by rw [hW13]; rw [List.length_set]; exact lv14
  have c0 : W13[0]? = some (.inr (6, [.ref 1, .ref 2, .ref 3, .ref 5, .ref 7, .ref 11, .ref 12, .ref 13, .ref 14, .int 0, .int 0, .int 0, .int 0])) := by rw [hW13]; exact nq_gs c0x
  refine nq_iconst (v := 0) (pc' := 89) d_QS_init_88 rfl (by decide) ?_
  refine nq_istore_n (pc' := 90) d_QS_init_89 rfl rfl (by decide) rfl ?_
  refine nq_iload_n (pc' := 91) d_QS_init_90 rfl rfl rfl ?_
  refine nq_iconst (v := 3) (pc' := 92) d_QS_init_91 rfl (by decide) ?_
  refine nq_icmp_ge (pc' := 95) (tgt := 127) d_QS_init_92 rfl (by decide) (fun h => absurd h (by decide)) (fun _ => ?_)
  refine nq_aload_n (pc' := 96) d_QS_init_95 rfl rfl rfl ?_
  refine nq_getf (pc' := 99) d_QS_init_96 rfl fl_QS_11 (by first | assumption | exact nq_ga (by assumption) | exact nq_gs (by first | assumption | exact nq_ga (by assumption) | exact nq_gs (by first | assumption | exact nq_gs (by assumption) | exact nq_gn (by first | assumption | decide | omega | exact nq_ne1 (by assumption) (by assumption) | exact nq_ne2 (by assumption) (by assumption)) (by assumption) | exact nq_ga (by assumption)) | exact nq_gn (by first | assumption | decide | omega | exact nq_ne1 (by assumption) (by assumption) | exact nq_ne2 (by assumption) (by assumption)) (by first | assumption | exact nq_gs (by assumption) | exact nq_gn (by first | assumption | decide | omega | exact nq_ne1 (by assumption) (by assumption) | exact nq_ne2 (by assumption) (by assumption)) (by assumption) | exact nq_ga (by assumption))) | exact nq_gn (by first | assumption | decide | omega | exact nq_ne1 (by assumption) (by assumption) | exact nq_ne2 (by assumption) (by assumption)) (by first | assumption | exact nq_ga (by assumption) | exact nq_gs (by first | assumption | exact nq_gs (by assumption) | exact nq_gn (by first | assumption | decide | omega | exact nq_ne1 (by assumption) (by assumption) | exact nq_ne2 (by assumption) (by assumption)) (by assumption) | exact nq_ga (by assumption)) | exact nq_gn (by first | assumption | decide | omega | exact nq_ne1 (by assumption) (by assumption) | exact nq_ne2 (by assumption) (by assumption)) (by first | assumption | exact nq_gs (by assumption) | exact nq_gn (by first | assumption | decide | omega | exact nq_ne1 (by assumption) (by assumption) | exact nq_ne2 (by assumption) (by assumption)) (by assumption) | exact nq_ga (by assumption)))) rfl ?_
  refine nq_iload_n (pc' := 100) d_QS_init_99 rfl rfl rfl ?_
  refine nq_new (pc' := 103) d_QS_init_100 rfl nl_QS_9 (kc := 377) (ks := 2571) (by omega) ?_
  refine nq_dup (pc' := 104) d_QS_init_103 rfl rfl ?_
  refine nq_gen (P := fun w => nq_J _ _ _ _ _ _ _ _ w _) (fun W14 hW14 => ?_)
  have fr14 : ∀ i, i < 18 → W14[i]? = W13[i]? := by
    intro i hi
    rw [hW14]
    rw [List.getElem?_append_left (by omega)]
  replace c1 : W14[1]? = some (.inl (4, 3, .inr (.inr (fun _ => none)))) := (fr14 1 (by decide)).trans c1
  replace c2 : W14[2]? = some (.inl (4, 3, .inr (.inr (fun _ => none)))) := (fr14 2 (by decide)).trans c2
  replace c3 : W14[3]? = some (.inr (3, [.ref 4, .int 0, .int 0, .int 0, .int (-1), .null, .ref 1000000])) := (fr14 3 (by decide)).trans c3
  replace c4 : W14[4]? = some (.inl (2, 48, .inl (fun _ => 0))) := (fr14 4 (by decide)).trans c4
  replace c5 : W14[5]? = some (.inr (1, [.ref 6])) := (fr14 5 (by decide)).trans c5
  replace c6 : W14[6]? = some (.inl (0, 20, .inl (fun _ => 0))) := (fr14 6 (by decide)).trans c6
  replace rs := rs.kept (σ' := W14) (fr14 7 (by decide)) (fr14 8 (by decide)) (fr14 9 (by decide)) (fr14 10 (by decide))
  replace c11 : W14[11]? = some (.inl (6, 4, .inr (.inr (fun _ => none)))) := (fr14 11 (by decide)).trans c11
  replace c12 : W14[12]? = some (.inl (1, 20, .inl (fun _ => 0))) := (fr14 12 (by decide)).trans c12
  replace c13 : W14[13]? = some (.inl (0, 20, .inl (fun _ => 0))) := (fr14 13 (by decide)).trans c13
  replace cd := cd.of (σ' := W14) (fr14 14 (by decide)) (fr14 15 (by decide)) (fr14 16 (by decide)) (fr14 17 (by decide))
  replace c0 : W14[0]? = some (.inr (6, [.ref 1, .ref 2, .ref 3, .ref 5, .ref 7, .ref 11, .ref 12, .ref 13, .ref 14, .int 0, .int 0, .int 0, .int 0])) := (fr14 0 (by decide)).trans c0
  rw [l13]
  have x18 : W14[18]? = some (.inr (5, [.null, .int 0, .int 0])) := by
    rw [hW14, ← l13]
    exact nq_gl
  have l14 : W14.length = 19 := by rw [hW14]; rw [List.length_append, l13]; rfl
  refine nq_callI (pc' := 107) d_QS_init_104 rfl cl_QS_58 (kc := 315) (ks := 2145) (mc' := 61) (ms' := 420) (As := []) (rest := [.ref 18, .int (nI 0), .ref 1]) rfl rfl (by decide) (t_Table_init x18 l14 (by decide)) (fun E σ1 h => by cases h.1) (fun v V18 hq => ?_)
  obtain ⟨e1, tb18, lv18, f18⟩ := hq
  cases e1
  have c1 := (f18 1 (by decide)).trans c1
  have c2 := (f18 2 (by decide)).trans c2
  have c3 := (f18 3 (by decide)).trans c3
  have c4 := (f18 4 (by decide)).trans c4
  have c5 := (f18 5 (by decide)).trans c5
  have c6 := (f18 6 (by decide)).trans c6
  have rs := rs.kept (σ' := V18) (f18 7 (by decide)) (f18 8 (by decide)) (f18 9 (by decide)) (f18 10 (by decide))
  have c11 := (f18 11 (by decide)).trans c11
  have c12 := (f18 12 (by decide)).trans c12
  have c13 := (f18 13 (by decide)).trans c13
  have cd := cd.of (σ' := V18) (f18 14 (by decide)) (f18 15 (by decide)) (f18 16 (by decide)) (f18 17 (by decide))
  have c0 := (f18 0 (by decide)).trans c0
  obtain ⟨u18, tc18⟩ := tb18.cell
  refine nq_aast (pc' := 108) d_QS_init_107 rfl (by first | assumption | exact nq_ga (by assumption) | exact nq_gs (by first | assumption | exact nq_ga (by assumption) | exact nq_gs (by first | assumption | exact nq_gs (by assumption) | exact nq_gn (by first | assumption | decide | omega | exact nq_ne1 (by assumption) (by assumption) | exact nq_ne2 (by assumption) (by assumption)) (by assumption) | exact nq_ga (by assumption)) | exact nq_gn (by first | assumption | decide | omega | exact nq_ne1 (by assumption) (by assumption) | exact nq_ne2 (by assumption) (by assumption)) (by first | assumption | exact nq_gs (by assumption) | exact nq_gn (by first | assumption | decide | omega | exact nq_ne1 (by assumption) (by assumption) | exact nq_ne2 (by assumption) (by assumption)) (by assumption) | exact nq_ga (by assumption))) | exact nq_gn (by first | assumption | decide | omega | exact nq_ne1 (by assumption) (by assumption) | exact nq_ne2 (by assumption) (by assumption)) (by first | assumption | exact nq_ga (by assumption) | exact nq_gs (by first | assumption | exact nq_gs (by assumption) | exact nq_gn (by first | assumption | decide | omega | exact nq_ne1 (by assumption) (by assumption) | exact nq_ne2 (by assumption) (by assumption)) (by assumption) | exact nq_ga (by assumption)) | exact nq_gn (by first | assumption | decide | omega | exact nq_ne1 (by assumption) (by assumption) | exact nq_ne2 (by assumption) (by assumption)) (by first | assumption | exact nq_gs (by assumption) | exact nq_gn (by first | assumption | decide | omega | exact nq_ne1 (by assumption) (by assumption) | exact nq_ne2 (by assumption) (by assumption)) (by assumption) | exact nq_ga (by assumption)))) rfl rfl (by first | assumption | exact nq_ga (by assumption) | exact nq_gs (by first | assumption | exact nq_ga (by assumption) | exact nq_gs (by first | assumption | exact nq_gs (by assumption) | exact nq_gn (by first | assumption | decide | omega | exact nq_ne1 (by assumption) (by assumption) | exact nq_ne2 (by assumption) (by assumption)) (by assumption) | exact nq_ga (by assumption)) | exact nq_gn (by first | assumption | decide | omega | exact nq_ne1 (by assumption) (by assumption) | exact nq_ne2 (by assumption) (by assumption)) (by first | assumption | exact nq_gs (by assumption) | exact nq_gn (by first | assumption | decide | omega | exact nq_ne1 (by assumption) (by assumption) | exact nq_ne2 (by assumption) (by assumption)) (by assumption) | exact nq_ga (by assumption))) | exact nq_gn (by first | assumption | decide | omega | exact nq_ne1 (by assumption) (by assumption) | exact nq_ne2 (by assumption) (by assumption)) (by first | assumption | exact nq_ga (by assumption) | exact nq_gs (by first | assumption | exact nq_gs (by assumption) | exact nq_gn (by first | assumption | decide | omega | exact nq_ne1 (by assumption) (by assumption) | exact nq_ne2 (by assumption) (by assumption)) (by assumption) | exact nq_ga (by assumption)) | exact nq_gn (by first | assumption | decide | omega | exact nq_ne1 (by assumption) (by assumption) | exact nq_ne2 (by assumption) (by assumption)) (by first | assumption | exact nq_gs (by assumption) | exact nq_gn (by first | assumption | decide | omega | exact nq_ne1 (by assumption) (by assumption) | exact nq_ne2 (by assumption) (by assumption)) (by assumption) | exact nq_ga (by assumption)))) (j := 0) rfl (by decide) (by decide) ?_
  have cx := c1
  refine nq_gen (P := fun w => nq_J _ _ _ _ _ _ _ _ w _) (fun W15 hW15 => ?_)
  have fr15 : ∀ i, i < 60 → i ≠ 1 → W15[i]? = V18[i]? := by
    intro i hi hi1
    rw [hW15]
    rw [List.getElem?_set_ne (Ne.symm hi1)]
  replace c2 : W15[2]? = some (.inl (4, 3, .inr (.inr (fun _ => none)))) := (fr15 2 (by decide) (by decide)).trans c2
  replace c3 : W15[3]? = some (.inr (3, [.ref 4, .int 0, .int 0, .int 0, .int (-1), .null, .ref 1000000])) := (fr15 3 (by decide) (by decide)).trans c3
  replace c4 : W15[4]? = some (.inl (2, 48, .inl (fun _ => 0))) := (fr15 4 (by decide) (by decide)).trans c4
  replace c5 : W15[5]? = some (.inr (1, [.ref 6])) := (fr15 5 (by decide) (by decide)).trans c5
  replace c6 : W15[6]? = some (.inl (0, 20, .inl (fun _ => 0))) := (fr15 6 (by decide) (by decide)).trans c6
  replace rs := rs.kept (σ' := W15) (fr15 7 (by decide) (by decide)) (fr15 8 (by decide) (by decide)) (fr15 9 (by decide) (by decide)) (fr15 10 (by decide) (by decide))
  replace c11 : W15[11]? = some (.inl (6, 4, .inr (.inr (fun _ => none)))) := (fr15 11 (by decide) (by decide)).trans c11
  replace c12 : W15[12]? = some (.inl (1, 20, .inl (fun _ => 0))) := (fr15 12 (by decide) (by decide)).trans c12
  replace c13 : W15[13]? = some (.inl (0, 20, .inl (fun _ => 0))) := (fr15 13 (by decide) (by decide)).trans c13
  replace cd := cd.of (σ' := W15) (fr15 14 (by decide) (by decide)) (fr15 15 (by decide) (by decide)) (fr15 16 (by decide) (by decide)) (fr15 17 (by decide) (by decide))
  replace c0 : W15[0]? = some (.inr (6, [.ref 1, .ref 2, .ref 3, .ref 5, .ref 7, .ref 11, .ref 12, .ref 13, .ref 14, .int 0, .int 0, .int 0, .int 0])) := (fr15 0 (by decide) (by decide)).trans c0
  replace tb18 := tb18.kept (σ' := W15) (fun i a b => fr15 i (by omega) (by omega))
  have l15 : W15.length = 60 := by rw [hW15]; rw [List.length_set]; exact lv18
  have c1 : W15[1]? = some (.inl (4, 3, .inr (.inr (va_up (fun _ => none) 0 (some 18))))) := by rw [hW15]; exact nq_gs cx
  refine nq_aload_n (pc' := 109) d_QS_init_108 rfl rfl rfl ?_
  refine nq_getf (pc' := 112) d_QS_init_109 rfl fl_QS_15 (by first | assumption | exact nq_ga (by assumption) | exact nq_gs (by first | assumption | exact nq_ga (by assumption) | exact nq_gs (by first | assumption | exact nq_gs (by assumption) | exact nq_gn (by first | assumption | decide | omega | exact nq_ne1 (by assumption) (by assumption) | exact nq_ne2 (by assumption) (by assumption)) (by assumption) | exact nq_ga (by assumption)) | exact nq_gn (by first | assumption | decide | omega | exact nq_ne1 (by assumption) (by assumption) | exact nq_ne2 (by assumption) (by assumption)) (by first | assumption | exact nq_gs (by assumption) | exact nq_gn (by first | assumption | decide | omega | exact nq_ne1 (by assumption) (by assumption) | exact nq_ne2 (by assumption) (by assumption)) (by assumption) | exact nq_ga (by assumption))) | exact nq_gn (by first | assumption | decide | omega | exact nq_ne1 (by assumption) (by assumption) | exact nq_ne2 (by assumption) (by assumption)) (by first | assumption | exact nq_ga (by assumption) | exact nq_gs (by first | assumption | exact nq_gs (by assumption) | exact nq_gn (by first | assumption | decide | omega | exact nq_ne1 (by assumption) (by assumption) | exact nq_ne2 (by assumption) (by assumption)) (by assumption) | exact nq_ga (by assumption)) | exact nq_gn (by first | assumption | decide | omega | exact nq_ne1 (by assumption) (by assumption) | exact nq_ne2 (by assumption) (by assumption)) (by first | assumption | exact nq_gs (by assumption) | exact nq_gn (by first | assumption | decide | omega | exact nq_ne1 (by assumption) (by assumption) | exact nq_ne2 (by assumption) (by assumption)) (by assumption) | exact nq_ga (by assumption)))) rfl ?_
  refine nq_iload_n (pc' := 113) d_QS_init_112 rfl rfl rfl ?_
  refine nq_new (pc' := 116) d_QS_init_113 rfl nl_QS_9 (kc := 314) (ks := 2142) (by omega) ?_
  refine nq_dup (pc' := 117) d_QS_init_116 rfl rfl ?_
  refine nq_gen (P := fun w => nq_J _ _ _ _ _ _ _ _ w _) (fun W16 hW16 => ?_)
  have fr16 : ∀ i, i < 60 → W16[i]? = W15[i]? := by
    intro i hi
    rw [hW16]
    rw [List.getElem?_append_left (by omega)]
  replace c2 : W16[2]? = some (.inl (4, 3, .inr (.inr (fun _ => none)))) := (fr16 2 (by decide)).trans c2
  replace c3 : W16[3]? = some (.inr (3, [.ref 4, .int 0, .int 0, .int 0, .int (-1), .null, .ref 1000000])) := (fr16 3 (by decide)).trans c3
  replace c4 : W16[4]? = some (.inl (2, 48, .inl (fun _ => 0))) := (fr16 4 (by decide)).trans c4
  replace c5 : W16[5]? = some (.inr (1, [.ref 6])) := (fr16 5 (by decide)).trans c5
  replace c6 : W16[6]? = some (.inl (0, 20, .inl (fun _ => 0))) := (fr16 6 (by decide)).trans c6
  replace rs := rs.kept (σ' := W16) (fr16 7 (by decide)) (fr16 8 (by decide)) (fr16 9 (by decide)) (fr16 10 (by decide))
  replace c11 : W16[11]? = some (.inl (6, 4, .inr (.inr (fun _ => none)))) := (fr16 11 (by decide)).trans c11
  replace c12 : W16[12]? = some (.inl (1, 20, .inl (fun _ => 0))) := (fr16 12 (by decide)).trans c12
  replace c13 : W16[13]? = some (.inl (0, 20, .inl (fun _ => 0))) := (fr16 13 (by decide)).trans c13
  replace cd := cd.of (σ' := W16) (fr16 14 (by decide)) (fr16 15 (by decide)) (fr16 16 (by decide)) (fr16 17 (by decide))
  replace c0 : W16[0]? = some (.inr (6, [.ref 1, .ref 2, .ref 3, .ref 5, .ref 7, .ref 11, .ref 12, .ref 13, .ref 14, .int 0, .int 0, .int 0, .int 0])) := (fr16 0 (by decide)).trans c0
  replace tb18 := tb18.kept (σ' := W16) (fun i a b => fr16 i (by omega))
  replace c1 : W16[1]? = some (.inl (4, 3, .inr (.inr (va_up (fun _ => none) 0 (some 18))))) := (fr16 1 (by decide)).trans c1
  rw [l15]
  have x60 : W16[60]? = some (.inr (5, [.null, .int 0, .int 0])) := by
    rw [hW16, ← l15]
    exact nq_gl
  have l16 : W16.length = 61 := by rw [hW16]; rw [List.length_append, l15]; rfl
  refine nq_callI (pc' := 120) d_QS_init_117 rfl cl_QS_58 (kc := 252) (ks := 1716) (mc' := 61) (ms' := 420) (As := []) (rest := [.ref 60, .int (nI 0), .ref 2]) rfl rfl (by decide) (t_Table_init x60 l16 (by decide)) (fun E σ1 h => by cases h.1) (fun v V60 hq => ?_)
  obtain ⟨e1, tb60, lv60, f60⟩ := hq
  cases e1
  have c2 := (f60 2 (by decide)).trans c2
  have c3 := (f60 3 (by decide)).trans c3
  have c4 := (f60 4 (by decide)).trans c4
  have c5 := (f60 5 (by decide)).trans c5
  have c6 := (f60 6 (by decide)).trans c6
  have rs := rs.kept (σ' := V60) (f60 7 (by decide)) (f60 8 (by decide)) (f60 9 (by decide)) (f60 10 (by decide))
  have c11 := (f60 11 (by decide)).trans c11
  have c12 := (f60 12 (by decide)).trans c12
  have c13 := (f60 13 (by decide)).trans c13
  have cd := cd.of (σ' := V60) (f60 14 (by decide)) (f60 15 (by decide)) (f60 16 (by decide)) (f60 17 (by decide))
  have c0 := (f60 0 (by decide)).trans c0
  have tb18 := tb18.kept (σ' := V60) (fun i x y => f60 i (by omega))
  have c1 := (f60 1 (by decide)).trans c1
  obtain ⟨u60, tc60⟩ := tb60.cell
  refine nq_aast (pc' := 121) d_QS_init_120 rfl (by first | assumption | exact nq_ga (by assumption) | exact nq_gs (by first | assumption | exact nq_ga (by assumption) | exact nq_gs (by first | assumption | exact nq_gs (by assumption) | exact nq_gn (by first | assumption | decide | omega | exact nq_ne1 (by assumption) (by assumption) | exact nq_ne2 (by assumption) (by assumption)) (by assumption) | exact nq_ga (by assumption)) | exact nq_gn (by first | assumption | decide | omega | exact nq_ne1 (by assumption) (by assumption) | exact nq_ne2 (by assumption) (by assumption)) (by first | assumption | exact nq_gs (by assumption) | exact nq_gn (by first | assumption | decide | omega | exact nq_ne1 (by assumption) (by assumption) | exact nq_ne2 (by assumption) (by assumption)) (by assumption) | exact nq_ga (by assumption))) | exact nq_gn (by first | assumption | decide | omega | exact nq_ne1 (by assumption) (by assumption) | exact nq_ne2 (by assumption) (by assumption)) (by first | assumption | exact nq_ga (by assumption) | exact nq_gs (by first | assumption | exact nq_gs (by assumption) | exact nq_gn (by first | assumption | decide | omega | exact nq_ne1 (by assumption) (by assumption) | exact nq_ne2 (by assumption) (by assumption)) (by assumption) | exact nq_ga (by assumption)) | exact nq_gn (by first | assumption | decide | omega | exact nq_ne1 (by assumption) (by assumption) | exact nq_ne2 (by assumption) (by assumption)) (by first | assumption | exact nq_gs (by assumption) | exact nq_gn (by first | assumption | decide | omega | exact nq_ne1 (by assumption) (by assumption) | exact nq_ne2 (by assumption) (by assumption)) (by assumption) | exact nq_ga (by assumption)))) rfl rfl (by first | assumption | exact nq_ga (by assumption) | exact nq_gs (by first | assumption | exact nq_ga (by assumption) | exact nq_gs (by first | assumption | exact nq_gs (by assumption) | exact nq_gn (by first | assumption | decide | omega | exact nq_ne1 (by assumption) (by assumption) | exact nq_ne2 (by assumption) (by assumption)) (by assumption) | exact nq_ga (by assumption)) | exact nq_gn (by first | assumption | decide | omega | exact nq_ne1 (by assumption) (by assumption) | exact nq_ne2 (by assumption) (by assumption)) (by first | assumption | exact nq_gs (by assumption) | exact nq_gn (by first | assumption | decide | omega | exact nq_ne1 (by assumption) (by assumption) | exact nq_ne2 (by assumption) (by assumption)) (by assumption) | exact nq_ga (by assumption))) | exact nq_gn (by first | assumption | decide | omega | exact nq_ne1 (by assumption) (by assumption) | exact nq_ne2 (by assumption) (by assumption)) (by first | assumption | exact nq_ga (by assumption) | exact nq_gs (by first | assumption | exact nq_gs (by assumption) | exact nq_gn (by first | assumption | decide | omega | exact nq_ne1 (by assumption) (by assumption) | exact nq_ne2 (by assumption) (by assumption)) (by assumption) | exact nq_ga (by assumption)) | exact nq_gn (by first | assumption | decide | omega | exact nq_ne1 (by assumption) (by assumption) | exact nq_ne2 (by assumption) (by assumption)) (by first | assumption | exact nq_gs (by assumption) | exact nq_gn (by first | assumption | decide | omega | exact nq_ne1 (by assumption) (by assumption) | exact nq_ne2 (by assumption) (by assumption)) (by assumption) | exact nq_ga (by assumption)))) (j := 0) rfl (by decide) (by decide) ?_
  have cx := c2
  refine nq_gen (P := fun w => nq_J _ _ _ _ _ _ _ _ w _) (fun W17 hW17 => ?_)
  have fr17 : ∀ i, i < 102 → i ≠ 2 → W17[i]? = V60[i]? := by
    intro i hi hi2
    rw [hW17]
    rw [List.getElem?_set_ne (Ne.symm hi2)]
  replace c3 : W17[3]? = some (.inr (3, [.ref 4, .int 0, .int 0, .int 0, .int (-1), .null, .ref 1000000])) := (fr17 3 (by decide) (by decide)).trans c3
  replace c4 : W17[4]? = some (.inl (2, 48, .inl (fun _ => 0))) := (fr17 4 (by decide) (by decide)).trans c4
  replace c5 : W17[5]? = some (.inr (1, [.ref 6])) := (fr17 5 (by decide) (by decide)).trans c5
  replace c6 : W17[6]? = some (.inl (0, 20, .inl (fun _ => 0))) := (fr17 6 (by decide) (by decide)).trans c6
  replace rs := rs.kept (σ' := W17) (fr17 7 (by decide) (by decide)) (fr17 8 (by decide) (by decide)) (fr17 9 (by decide) (by decide)) (fr17 10 (by decide) (by decide))
  replace c11 : W17[11]? = some (.inl (6, 4, .inr (.inr (fun _ => none)))) := (fr17 11 (by decide) (by decide)).trans c11
  replace c12 : W17[12]? = some (.inl (1, 20, .inl (fun _ => 0))) := (fr17 12 (by decide) (by decide)).trans c12
  replace c13 : W17[13]? = some (.inl (0, 20, .inl (fun _ => 0))) := (fr17 13 (by decide) (by decide)).trans c13
  replace cd := cd.of (σ' := W17) (fr17 14 (by decide) (by decide)) (fr17 15 (by decide) (by decide)) (fr17 16 (by decide) (by decide)) (fr17 17 (by decide) (by decide))
  replace c0 : W17[0]? = some (.inr (6, [.ref 1, .ref 2, .ref 3, .ref 5, .ref 7, .ref 11, .ref 12, .ref 13, .ref 14, .int 0, .int 0, .int 0, .int 0])) := (fr17 0 (by decide) (by decide)).trans c0
  replace tb18 := tb18.kept (σ' := W17) (fun i a b => fr17 i (by omega) (by omega))
  replace c1 : W17[1]? = some (.inl (4, 3, .inr (.inr (va_up (fun _ => none) 0 (some 18))))) := (fr17 1 (by decide) (by decide)).trans c1
  replace tb60 := tb60.kept (σ' := W17) (fun i a b => fr17 i (by omega) (by omega))
  have l17 : W17.length = 102 := by rw [hW17]; rw [List.length_set]; exact lv60
  have c2 : W17[2]? = some (.inl (4, 3, .inr (.inr (va_up (fun _ => none) 0 (some 60))))) := by rw [hW17]; exact nq_gs cx
  refine nq_iinc (pc' := 124) d_QS_init_121 rfl rfl (v := nI 1) (by decide) (by decide) rfl ?_
  refine nq_goto (tgt := 90) d_QS_init_124 (by decide) ?_
  refine nq_iload_n (pc' := 91) d_QS_init_90 rfl rfl rfl ?_
  refine nq_iconst (v := 3) (pc' := 92) d_QS_init_91 rfl (by decide) ?_
  refine nq_icmp_ge (pc' := 95) (tgt := 127) d_QS_init_92 rfl (by decide) (fun h => absurd h (by decide)) (fun _ => ?_)
  refine nq_aload_n (pc' := 96) d_QS_init_95 rfl rfl rfl ?_
  refine nq_getf (pc' := 99) d_QS_init_96 rfl fl_QS_11 (by first | assumption | exact nq_ga (by assumption) | exact nq_gs (by first | assumption | exact nq_ga (by assumption) | exact nq_gs (by first | assumption | exact nq_gs (by assumption) | exact nq_gn (by first | assumption | decide | omega | exact nq_ne1 (by assumption) (by assumption) | exact nq_ne2 (by assumption) (by assumption)) (by assumption) | exact nq_ga (by assumption)) | exact nq_gn (by first | assumption | decide | omega | exact nq_ne1 (by assumption) (by assumption) | exact nq_ne2 (by assumption) (by assumption)) (by first | assumption | exact nq_gs (by assumption) | exact nq_gn (by first | assumption | decide | omega | exact nq_ne1 (by assumption) (by assumption) | exact nq_ne2 (by assumption) (by assumption)) (by assumption) | exact nq_ga (by assumption))) | exact nq_gn (by first | assumption | decide | omega | exact nq_ne1 (by assumption) (by assumption) | exact nq_ne2 (by assumption) (by assumption)) (by first | assumption | exact nq_ga (by assumption) | exact nq_gs (by first | assumption | exact nq_gs (by assumption) | exact nq_gn (by first | assumption | decide | omega | exact nq_ne1 (by assumption) (by assumption) | exact nq_ne2 (by assumption) (by assumption)) (by assumption) | exact nq_ga (by assumption)) | exact nq_gn (by first | assumption | decide | omega | exact nq_ne1 (by assumption) (by assumption) | exact nq_ne2 (by assumption) (by assumption)) (by first | assumption | exact nq_gs (by assumption) | exact nq_gn (by first | assumption | decide | omega | exact nq_ne1 (by assumption) (by assumption) | exact nq_ne2 (by assumption) (by assumption)) (by assumption) | exact nq_ga (by assumption)))) rfl ?_
  refine nq_iload_n (pc' := 100) d_QS_init_99 rfl rfl rfl ?_
  refine nq_new (pc' := 103) d_QS_init_100 rfl nl_QS_9 (kc := 251) (ks := 1713) (by omega) ?_
  refine nq_dup (pc' := 104) d_QS_init_103 rfl rfl ?_
  refine nq_gen (P := fun w => nq_J _ _ _ _ _ _ _ _ w _) (fun W18 hW18 => ?_)
  have fr18 : ∀ i, i < 102 → W18[i]? = W17[i]? := by
    intro i hi
    rw [hW18]
    rw [List.getElem?_append_left (by omega)]
  replace c3 : W18[3]? = some (.inr (3, [.ref 4, .int 0, .int 0, .int 0, .int (-1), .null, .ref 1000000])) := (fr18 3 (by decide)).trans c3
  replace c4 : W18[4]? = some (.inl (2, 48, .inl (fun _ => 0))) := (fr18 4 (by decide)).trans c4
  replace c5 : W18[5]? = some (.inr (1, [.ref 6])) := (fr18 5 (by decide)).trans c5
  replace c6 : W18[6]? = some (.inl (0, 20, .inl (fun _ => 0))) := (fr18 6 (by decide)).trans c6
  replace rs := rs.kept (σ' := W18) (fr18 7 (by decide)) (fr18 8 (by decide)) (fr18 9 (by decide)) (fr18 10 (by decide))
  replace c11 : W18[11]? = some (.inl (6, 4, .inr (.inr (fun _ => none)))) := (fr18 11 (by decide)).trans c11
  replace c12 : W18[12]? = some (.inl (1, 20, .inl (fun _ => 0))) := (fr18 12 (by decide)).trans c12
  replace c13 : W18[13]? = some (.inl (0, 20, .inl (fun _ => 0))) := (fr18 13 (by decide)).trans c13
  replace cd := cd.of (σ' := W18) (fr18 14 (by decide)) (fr18 15 (by decide)) (fr18 16 (by decide)) (fr18 17 (by decide))
  replace c0 : W18[0]? = some (.inr (6, [.ref 1, .ref 2, .ref 3, .ref 5, .ref 7, .ref 11, .ref 12, .ref 13, .ref 14, .int 0, .int 0, .int 0, .int 0])) := (fr18 0 (by decide)).trans c0
  replace tb18 := tb18.kept (σ' := W18) (fun i a b => fr18 i (by omega))
  replace c1 : W18[1]? = some (.inl (4, 3, .inr (.inr (va_up (fun _ => none) 0 (some 18))))) := (fr18 1 (by decide)).trans c1
  replace tb60 := tb60.kept (σ' := W18) (fun i a b => fr18 i (by omega))
  replace c2 : W18[2]? = some (.inl (4, 3, .inr (.inr (va_up (fun _ => none) 0 (some 60))))) := (fr18 2 (by decide)).trans c2
  rw [l17]
  have x102 : W18[102]? = some (.inr (5, [.null, .int 0, .int 0])) := by
    rw [hW18, ← l17]
    exact nq_gl
  have l18 : W18.length = 103 := by rw [hW18]; rw [List.length_append, l17]; rfl
  refine nq_callI (pc' := 107) d_QS_init_104 rfl cl_QS_58 (kc := 189) (ks := 1287) (mc' := 61) (ms' := 420) (As := []) (rest := [.ref 102, .int (nI 1), .ref 1]) rfl rfl (by decide) (t_Table_init x102 l18 (by decide)) (fun E σ1 h => by cases h.1) (fun v V102 hq => ?_)
  obtain ⟨e1, tb102, lv102, f102⟩ := hq
  cases e1
  have c3 := (f102 3 (by decide)).trans c3
  have c4 := (f102 4 (by decide)).trans c4
  have c5 := (f102 5 (by decide)).trans c5
  have c6 := (f102 6 (by decide)).trans c6
  have rs := rs.kept (σ' := V102) (f102 7 (by decide)) (f102 8 (by decide)) (f102 9 (by decide)) (f102 10 (by decide))
  have c11 := (f102 11 (by decide)).trans c11
  have c12 := (f102 12 (by decide)).trans c12
  have c13 := (f102 13 (by decide)).trans c13
  have cd := cd.of (σ' := V102) (f102 14 (by decide)) (f102 15 (by decide)) (f102 16 (by decide)) (f102 17 (by decide))
  have c0 := (f102 0 (by decide)).trans c0
  have tb18 := tb18.kept (σ' := V102) (fun i x y => f102 i (by omega))
  have c1 := (f102 1 (by decide)).trans c1
  have tb60 := tb60.kept (σ' := V102) (fun i x y => f102 i (by omega))
  have c2 := (f102 2 (by decide)).trans c2
  obtain ⟨u102, tc102⟩ := tb102.cell
  refine nq_aast (pc' := 108) d_QS_init_107 rfl (by first | assumption | exact nq_ga (by assumption) | exact nq_gs (by first | assumption | exact nq_ga (by assumption) | exact nq_gs (by first | assumption | exact nq_gs (by assumption) | exact nq_gn (by first | assumption | decide | omega | exact nq_ne1 (by assumption) (by assumption) | exact nq_ne2 (by assumption) (by assumption)) (by assumption) | exact nq_ga (by assumption)) | exact nq_gn (by first | assumption | decide | omega | exact nq_ne1 (by assumption) (by assumption) | exact nq_ne2 (by assumption) (by assumption)) (by first | assumption | exact nq_gs (by assumption) | exact nq_gn (by first | assumption | decide | omega | exact nq_ne1 (by assumption) (by assumption) | exact nq_ne2 (by assumption) (by assumption)) (by assumption) | exact nq_ga (by assumption))) | exact nq_gn (by first | assumption | decide | omega | exact nq_ne1 (by assumption) (by assumption) | exact nq_ne2 (by assumption) (by assumption)) (by first | assumption | exact nq_ga (by assumption) | exact nq_gs (by first | assumption | exact nq_gs (by assumption) | exact nq_gn (by first | assumption | decide | omega | exact nq_ne1 (by assumption) (by assumption) | exact nq_ne2 (by assumption) (by assumption)) (by assumption) | exact nq_ga (by assumption)) | exact nq_gn (by first | assumption | decide | omega | exact nq_ne1 (by assumption) (by assumption) | exact nq_ne2 (by assumption) (by assumption)) (by first | assumption | exact nq_gs (by assumption) | exact nq_gn (by first | assumption | decide | omega | exact nq_ne1 (by assumption) (by assumption) | exact nq_ne2 (by assumption) (by assumption)) (by assumption) | exact nq_ga (by assumption)))) rfl rfl (by first | assumption | exact nq_ga (by assumption) | exact nq_gs (by first | assumption | exact nq_ga (by assumption) | exact nq_gs (by first | assumption | exact nq_gs (by assumption) | exact nq_gn (by first | assumption | decide | omega | exact nq_ne1 (by assumption) (by assumption) | exact nq_ne2 (by assumption) (by assumption)) (by assumption) | exact nq_ga (by assumption)) | exact nq_gn (by first | assumption | decide | omega | exact nq_ne1 (by assumption) (by assumption) | exact nq_ne2 (by assumption) (by assumption)) (by first | assumption | exact nq_gs (by assumption) | exact nq_gn (by first | assumption | decide | omega | exact nq_ne1 (by assumption) (by assumption) | exact nq_ne2 (by assumption) (by assumption)) (by assumption) | exact nq_ga (by assumption))) | exact nq_gn (by first | assumption | decide | omega | exact nq_ne1 (by assumption) (by assumption) | exact nq_ne2 (by assumption) (by assumption)) (by first | assumption | exact nq_ga (by assumption) | exact nq_gs (by first | assumption | exact nq_gs (by assumption) | exact nq_gn (by first | assumption | decide | omega | exact nq_ne1 (by assumption) (by assumption) | exact nq_ne2 (by assumption) (by assumption)) (by assumption) | exact nq_ga (by assumption)) | exact nq_gn (by first | assumption | decide | omega | exact nq_ne1 (by assumption) (by assumption) | exact nq_ne2 (by assumption) (by assumption)) (by first | assumption | exact nq_gs (by assumption) | exact nq_gn (by first | assumption | decide | omega | exact nq_ne1 (by assumption) (by assumption) | exact nq_ne2 (by assumption) (by assumption)) (by assumption) | exact nq_ga (by assumption)))) (j := 1) rfl (by decide) (by decide) ?_
  have cx := c1
  refine nq_gen (P := fun w => nq_J _ _ _ _ _ _ _ _ w _) (fun W19 hW19 => ?_)
  have fr19 : ∀ i, i < 144 → i ≠ 1 → W19[i]? = V102[i]? := by
    intro i hi hi1
    rw [hW19]
    rw [List.getElem?_set_ne (Ne.symm hi1)]
  replace c3 : W19[3]? = some (.inr (3, [.ref 4, .int 0, .int 0, .int 0, .int (-1), .null, .ref 1000000])) := (fr19 3 (by decide) (by decide)).trans c3
  replace c4 : W19[4]? = some (.inl (2, 48, .inl (fun _ => 0))) := (fr19 4 (by decide) (by decide)).trans c4
  replace c5 : W19[5]? = some (.inr (1, [.ref 6])) := (fr19 5 (by decide) (by decide)).trans c5
  replace c6 : W19[6]? = some (.inl (0, 20, .inl (fun _ => 0))) := (fr19 6 (by decide) (by decide)).trans c6
  replace rs := rs.kept (σ' := W19) (fr19 7 (by decide) (by decide)) (fr19 8 (by decide) (by decide)) (fr19 9 (by decide) (by decide)) (fr19 10 (by decide) (by decide))
  replace c11 : W19[11]? = some (.inl (6, 4, .inr (.inr (fun _ => none)))) := (fr19 11 (by decide) (by decide)).trans c11
  replace c12 : W19[12]? = some (.inl (1, 20, .inl (fun _ => 0))) := (fr19 12 (by decide) (by decide)).trans c12
  replace c13 : W19[13]? = some (.inl (0, 20, .inl (fun _ => 0))) := (fr19 13 (by decide) (by decide)).trans c13
  replace cd := cd.of (σ' := W19) (fr19 14 (by decide) (by decide)) (fr19 15 (by decide) (by decide)) (fr19 16 (by decide) (by decide)) (fr19 17 (by decide) (by decide))
  replace c0 : W19[0]? = some (.inr (6, [.ref 1, .ref 2, .ref 3, .ref 5, .ref 7, .ref 11, .ref 12, .ref 13, .ref 14, .int 0, .int 0, .int 0, .int 0])) := (fr19 0 (by decide) (by decide)).trans c0
  replace tb18 := tb18.kept (σ' := W19) (fun i a b => fr19 i (by omega) (by omega))
  replace tb60 := tb60.kept (σ' := W19) (fun i a b => fr19 i (by omega) (by omega))
  replace c2 : W19[2]? = some (.inl (4, 3, .inr (.inr (va_up (fun _ => none) 0 (some 60))))) := (fr19 2 (by decide) (by decide)).trans c2
  replace tb102 := tb102.kept (σ' := W19) (fun i a b => fr19 i (by omega) (by omega))
  have l19 : W19.length = 144 := by rw [hW19]; rw [List.length_set]; exact lv102
  have c1 : W19[1]? = some (.inl (4, 3, .inr (.inr (va_up (va_up (fun _ => none) 0 (some 18)) 1 (some 102))))) := by rw [hW19]; exact nq_gs cx
  refine nq_aload_n (pc' := 109) d_QS_init_108 rfl rfl rfl ?_
  refine nq_getf (pc' := 112) d_QS_init_109 rfl fl_QS_15 (by first | assumption | exact nq_ga (by assumption) | exact nq_gs (by first | assumption | exact nq_ga (by assumption) | exact nq_gs (by first | assumption | exact nq_gs (by assumption) | exact nq_gn (by first | assumption | decide | omega | exact nq_ne1 (by assumption) (by assumption) | exact nq_ne2 (by assumption) (by assumption)) (by assumption) | exact nq_ga (by assumption)) | exact nq_gn (by first | assumption | decide | omega | exact nq_ne1 (by assumption) (by assumption) | exact nq_ne2 (by assumption) (by assumption)) (by first | assumption | exact nq_gs (by assumption) | exact nq_gn (by first | assumption | decide | omega | exact nq_ne1 (by assumption) (by assumption) | exact nq_ne2 (by assumption) (by assumption)) (by assumption) | exact nq_ga (by assumption))) | exact nq_gn (by first | assumption | decide | omega | exact nq_ne1 (by assumption) (by assumption) | exact nq_ne2 (by assumption) (by assumption)) (by first | assumption | exact nq_ga (by assumption) | exact nq_gs (by first | assumption | exact nq_gs (by assumption) | exact nq_gn (by first | assumption | decide | omega | exact nq_ne1 (by assumption) (by assumption) | exact nq_ne2 (by assumption) (by assumption)) (by assumption) | exact nq_ga (by assumption)) | exact nq_gn (by first | assumption | decide | omega | exact nq_ne1 (by assumption) (by assumption) | exact nq_ne2 (by assumption) (by assumption)) (by first | assumption | exact nq_gs (by assumption) | exact nq_gn (by first | assumption | decide | omega | exact nq_ne1 (by assumption) (by assumption) | exact nq_ne2 (by assumption) (by assumption)) (by assumption) | exact nq_ga (by assumption)))) rfl ?_
  refine nq_iload_n (pc' := 113) d_QS_init_112 rfl rfl rfl ?_
  refine nq_new (pc' := 116) d_QS_init_113 rfl nl_QS_9 (kc := 188) (ks := 1284) (by omega) ?_
  refine nq_dup (pc' := 117) d_QS_init_116 rfl rfl ?_
  refine nq_gen (P := fun w => nq_J _ _ _ _ _ _ _ _ w _) (fun W20 hW20 => ?_)
  have fr20 : ∀ i, i < 144 → W20[i]? = W19[i]? := by
    intro i hi
    rw [hW20]
    rw [List.getElem?_append_left (by omega)]
  replace c3 : W20[3]? = some (.inr (3, [.ref 4, .int 0, .int 0, .int 0, .int (-1), .null, .ref 1000000])) := (fr20 3 (by decide)).trans c3
  replace c4 : W20[4]? = some (.inl (2, 48, .inl (fun _ => 0))) := (fr20 4 (by decide)).trans c4
  replace c5 : W20[5]? = some (.inr (1, [.ref 6])) := (fr20 5 (by decide)).trans c5
  replace c6 : W20[6]? = some (.inl (0, 20, .inl (fun _ => 0))) := (fr20 6 (by decide)).trans c6
  replace rs := rs.kept (σ' := W20) (fr20 7 (by decide)) (fr20 8 (by decide)) (fr20 9 (by decide)) (fr20 10 (by decide))
  replace c11 : W20[11]? = some (.inl (6, 4, .inr (.inr (fun _ => none)))) := (fr20 11 (by decide)).trans c11
  replace c12 : W20[12]? = some (.inl (1, 20, .inl (fun _ => 0))) := (fr20 12 (by decide)).trans c12
  replace c13 : W20[13]? = some (.inl (0, 20, .inl (fun _ => 0))) := (fr20 13 (by decide)).trans c13
  replace cd := cd.of (σ' := W20) (fr20 14 (by decide)) (fr20 15 (by decide)) (fr20 16 (by decide)) (fr20 17 (by decide))
  replace c0 : W20[0]? = some (.inr (6, [.ref 1, .ref 2, .ref 3, .ref 5, .ref 7, .ref 11, .ref 12, .ref 13, .ref 14, .int 0, .int 0, .int 0, .int 0])) := (fr20 0 (by decide)).trans c0
  replace tb18 := tb18.kept (σ' := W20) (fun i a b => fr20 i (by omega))
  replace tb60 := tb60.kept (σ' := W20) (fun i a b => fr20 i (by omega))
  replace c2 : W20[2]? = some (.inl (4, 3, .inr (.inr (va_up (fun _ => none) 0 (some 60))))) := (fr20 2 (by decide)).trans c2
  replace tb102 := tb102.kept (σ' := W20) (fun i a b => fr20 i (by omega))
  replace c1 : W20[1]? = some (.inl (4, 3, .inr (.inr (va_up (va_up (fun _ => none) 0 (some 18)) 1 (some 102))))) := (fr20 1 (by decide)).trans c1
  rw [l19]
  have x144 : W20[144]? = some (.inr (5, [.null, .int 0, .int 0])) := by
    rw [hW20, ← l19]
    exact nq_gl
  have l20 : W20.length = 145 := by rw [hW20]; rw [List.length_append, l19]; rfl
  refine nq_callI (pc' := 120) d_QS_init_117 rfl cl_QS_58 (kc := 126) (ks := 858) (mc' := 61) (ms' := 420) (As := []) (rest := [.ref 144, .int (nI 1), .ref 2]) rfl rfl (by decide) (t_Table_init x144 l20 (by decide)) (fun E σ1 h => by cases h.1) (fun v V144 hq => ?_)
  obtain ⟨e1, tb144, lv144, f144⟩ := hq
  cases e1
  have c3 := (f144 3 (by decide)).trans c3
  have c4 := (f144 4 (by decide)).trans c4
  have c5 := (f144 5 (by decide)).trans c5
  have c6 := (f144 6 (by decide)).trans c6
  have rs := rs.kept (σ' := V144) (f144 7 (by decide)) (f144 8 (by decide)) (f144 9 (by decide)) (f144 10 (by decide))
  have c11 := (f144 11 (by decide)).trans c11
  have c12 := (f144 12 (by decide)).trans c12
  have c13 := (f144 13 (by decide)).trans c13
  have cd := cd.of (σ' := V144) (f144 14 (by decide)) (f144 15 (by decide)) (f144 16 (by decide)) (f144 17 (by decide))
  have c0 := (f144 0 (by decide)).trans c0
  have tb18 := tb18.kept (σ' := V144) (fun i x y => f144 i (by omega))
  have tb60 := tb60.kept (σ' := V144) (fun i x y => f144 i (by omega))
  have c2 := (f144 2 (by decide)).trans c2
  have tb102 := tb102.kept (σ' := V144) (fun i x y => f144 i (by omega))
  have c1 := (f144 1 (by decide)).trans c1
  obtain ⟨u144, tc144⟩ := tb144.cell
  refine nq_aast (pc' := 121) d_QS_init_120 rfl (by first | assumption | exact nq_ga (by assumption) | exact nq_gs (by first | assumption | exact nq_ga (by assumption) | exact nq_gs (by first | assumption | exact nq_gs (by assumption) | exact nq_gn (by first | assumption | decide | omega | exact nq_ne1 (by assumption) (by assumption) | exact nq_ne2 (by assumption) (by assumption)) (by assumption) | exact nq_ga (by assumption)) | exact nq_gn (by first | assumption | decide | omega | exact nq_ne1 (by assumption) (by assumption) | exact nq_ne2 (by assumption) (by assumption)) (by first | assumption | exact nq_gs (by assumption) | exact nq_gn (by first | assumption | decide | omega | exact nq_ne1 (by assumption) (by assumption) | exact nq_ne2 (by assumption) (by assumption)) (by assumption) | exact nq_ga (by assumption))) | exact nq_gn (by first | assumption | decide | omega | exact nq_ne1 (by assumption) (by assumption) | exact nq_ne2 (by assumption) (by assumption)) (by first | assumption | exact nq_ga (by assumption) | exact nq_gs (by first | assumption | exact nq_gs (by assumption) | exact nq_gn (by first | assumption | decide | omega | exact nq_ne1 (by assumption) (by assumption) | exact nq_ne2 (by assumption) (by assumption)) (by assumption) | exact nq_ga (by assumption)) | exact nq_gn (by first | assumption | decide | omega | exact nq_ne1 (by assumption) (by assumption) | exact nq_ne2 (by assumption) (by assumption)) (by first | assumption | exact nq_gs (by assumption) | exact nq_gn (by first | assumption | decide | omega | exact nq_ne1 (by assumption) (by assumption) | exact nq_ne2 (by assumption) (by assumption)) (by assumption) | exact nq_ga (by assumption)))) rfl rfl (by first | assumption | exact nq_ga (by assumption) | exact nq_gs (by first | assumption | exact nq_ga (by assumption) | exact nq_gs (by first | assumption | exact nq_gs (by assumption) | exact nq_gn (by first | assumption | decide | omega | exact nq_ne1 (by assumption) (by assumption) | exact nq_ne2 (by assumption) (by assumption)) (by assumption) | exact nq_ga (by assumption)) | exact nq_gn (by first | assumption | decide | omega | exact nq_ne1 (by assumption) (by assumption) | exact nq_ne2 (by assumption) (by assumption)) (by first | assumption | exact nq_gs (by assumption) | exact nq_gn (by first | assumption | decide | omega | exact nq_ne1 (by assumption) (by assumption) | exact nq_ne2 (by assumption) (by assumption)) (by assumption) | exact nq_ga (by assumption))) | exact nq_gn (by first | assumption | decide | omega | exact nq_ne1 (by assumption) (by assumption) | exact nq_ne2 (by assumption) (by assumption)) (by first | assumption | exact nq_ga (by assumption) | exact nq_gs (by first | assumption | exact nq_gs (by assumption) | exact nq_gn (by first | assumption | decide | omega | exact nq_ne1 (by assumption) (by assumption) | exact nq_ne2 (by assumption) (by assumption)) (by assumption) | exact nq_ga (by assumption)) | exact nq_gn (by first | assumption | decide | omega | exact nq_ne1 (by assumption) (by assumption) | exact nq_ne2 (by assumption) (by assumption)) (by first | assumption | exact nq_gs (by assumption) | exact nq_gn (by first | assumption | decide | omega | exact nq_ne1 (by assumption) (by assumption) | exact nq_ne2 (by assumption) (by assumption)) (by assumption) | exact nq_ga (by assumption)))) (j := 1) rfl (by decide) (by decide) ?_
  have cx := c2
  refine nq_gen (P := fun w => nq_J _ _ _ _ _ _ _ _ w _) (fun W21 hW21 => ?_)
  have fr21 : ∀ i, i < 186 → i ≠ 2 → W21[i]? = V144[i]? := by
    intro i hi hi2
    rw [hW21]
    rw [List.getElem?_set_ne (Ne.symm hi2)]
  replace c3 : W21[3]? = some (.inr (3, [.ref 4, .int 0, .int 0, .int 0, .int (-1), .null, .ref 1000000])) := (fr21 3 (by decide) (by decide)).trans c3
  replace c4 : W21[4]? = some (.inl (2, 48, .inl (fun _ => 0))) := (fr21 4 (by decide) (by decide)).trans c4
  replace c5 : W21[5]? = some (.inr (1, [.ref 6])) := (fr21 5 (by decide) (by decide)).trans c5
  replace c6 : W21[6]? = some (.inl (0, 20, .inl (fun _ => 0))) := (fr21 6 (by decide) (by decide)).trans c6
  replace rs := rs.kept (σ' := W21) (fr21 7 (by decide) (by decide)) (fr21 8 (by decide) (by decide)) (fr21 9 (by decide) (by decide)) (fr21 10 (by decide) (by decide))
  replace c11 : W21[11]? = some (.inl (6, 4, .inr (.inr (fun _ => none)))) := (fr21 11 (by decide) (by decide)).trans c11
  replace c12 : W21[12]? = some (.inl (1, 20, .inl (fun _ => 0))) := (fr21 12 (by decide) (by decide)).trans c12
  replace c13 : W21[13]? = some (.inl (0, 20, .inl (fun _ => 0))) := (fr21 13 (by decide) (by decide)).trans c13
  replace cd := cd.of (σ' := W21) (fr21 14 (by decide) (by decide)) (fr21 15 (by decide) (by decide)) (fr21 16 (by decide) (by decide)) (fr21 17 (by decide) (by decide))
  replace c0 : W21[0]? = some (.inr (6, [.ref 1, .ref 2, .ref 3, .ref 5, .ref 7, .ref 11, .ref 12, .ref 13, .ref 14, .int 0, .int 0, .int 0, .int 0])) := (fr21 0 (by decide) (by decide)).trans c0
  replace tb18 := tb18.kept (σ' := W21) (fun i a b => fr21 i (by omega) (by omega))
  replace tb60 := tb60.kept (σ' := W21) (fun i a b => fr21 i (by omega) (by omega))
  replace tb102 := tb102.kept (σ' := W21) (fun i a b => fr21 i (by omega) (by omega))
  replace c1 : W21[1]? = some (.inl (4, 3, .inr (.inr (va_up (va_up (fun _ => none) 0 (some 18)) 1 (some 102))))) := (fr21 1 (by decide) (by decide)).trans c1
  replace tb144 := tb144.kept (σ' := W21) (fun i a b => fr21 i (by omega) (by omega))
  have l21 : W21.length = 186 := by rw [hW21]; rw [List.length_set]; exact lv144
  have c2 : W21[2]? = some (.inl (4, 3, .inr (.inr (va_up (va_up (fun _ => none) 0 (some 60)) 1 (some 144))))) := by rw [hW21]; exact nq_gs cx
  refine nq_iinc (pc' := 124) d_QS_init_121 rfl rfl (v := nI 2) (by decide) (by decide) rfl ?_
  refine nq_goto (tgt := 90) d_QS_init_124 (by decide) ?_
  refine nq_iload_n (pc' := 91) d_QS_init_90 rfl rfl rfl ?_
  refine nq_iconst (v := 3) (pc' := 92) d_QS_init_91 rfl (by decide) ?_
  refine nq_icmp_ge (pc' := 95) (tgt := 127) d_QS_init_92 rfl (by decide) (fun h => absurd h (by decide)) (fun _ => ?_)
  refine nq_aload_n (pc' := 96) d_QS_init_95 rfl rfl rfl ?_
  refine nq_getf (pc' := 99) d_QS_init_96 rfl fl_QS_11 (by first | assumption | exact nq_ga (by assumption) | exact nq_gs (by first | assumption | exact nq_ga (by assumption) | exact nq_gs (by first | assumption | exact nq_gs (by assumption) | exact nq_gn (by first | assumption | decide | omega | exact nq_ne1 (by assumption) (by assumption) | exact nq_ne2 (by assumption) (by assumption)) (by assumption) | exact nq_ga (by assumption)) | exact nq_gn (by first | assumption | decide | omega | exact nq_ne1 (by assumption) (by assumption) | exact nq_ne2 (by assumption) (by assumption)) (by first | assumption | exact nq_gs (by assumption) | exact nq_gn (by first | assumption | decide | omega | exact nq_ne1 (by assumption) (by assumption) | exact nq_ne2 (by assumption) (by assumption)) (by assumption) | exact nq_ga (by assumption))) | exact nq_gn (by first | assumption | decide | omega | exact nq_ne1 (by assumption) (by assumption) | exact nq_ne2 (by assumption) (by assumption)) (by first | assumption | exact nq_ga (by assumption) | exact nq_gs (by first | assumption | exact nq_gs (by assumption) | exact nq_gn (by first | assumption | decide | omega | exact nq_ne1 (by assumption) (by assumption) | exact nq_ne2 (by assumption) (by assumption)) (by assumption) | exact nq_ga (by assumption)) | exact nq_gn (by first | assumption | decide | omega | exact nq_ne1 (by assumption) (by assumption) | exact nq_ne2 (by assumption) (by assumption)) (by first | assumption | exact nq_gs (by assumption) | exact nq_gn (by first | assumption | decide | omega | exact nq_ne1 (by assumption) (by assumption) | exact nq_ne2 (by assumption) (by assumption)) (by assumption) | exact nq_ga (by assumption)))) rfl ?_
  refine nq_iload_n (pc' := 100) d_QS_init_99 rfl rfl rfl ?_
  refine nq_new (pc' := 103) d_QS_init_100 rfl nl_QS_9 (kc := 125) (ks := 855) (by omega) ?_
  refine nq_dup (pc' := 104) d_QS_init_103 rfl rfl ?_
  refine nq_gen (P := fun w => nq_J _ _ _ _ _ _ _ _ w _) (fun W22 hW22 => ?_)
  have fr22 : ∀ i, i < 186 → W22[i]? = W21[i]? := by
    intro i hi
    rw [hW22]
    rw [List.getElem?_append_left (by omega)]
  replace c3 : W22[3]? = some (.inr (3, [.ref 4, .int 0, .int 0, .int 0, .int (-1), .null, .ref 1000000])) := (fr22 3 (by decide)).trans c3
  replace c4 : W22[4]? = some (.inl (2, 48, .inl (fun _ => 0))) := (fr22 4 (by decide)).trans c4
  replace c5 : W22[5]? = some (.inr (1, [.ref 6])) := (fr22 5 (by decide)).trans c5
  replace c6 : W22[6]? = some (.inl (0, 20, .inl (fun _ => 0))) := (fr22 6 (by decide)).trans c6
  replace rs := rs.kept (σ' := W22) (fr22 7 (by decide)) (fr22 8 (by decide)) (fr22 9 (by decide)) (fr22 10 (by decide))
  replace c11 : W22[11]? = some (.inl (6, 4, .inr (.inr (fun _ => none)))) := (fr22 11 (by decide)).trans c11
  replace c12 : W22[12]? = some (.inl (1, 20, .inl (fun _ => 0))) := (fr22 12 (by decide)).trans c12
  replace c13 : W22[13]? = some (.inl (0, 20, .inl (fun _ => 0))) := (fr22 13 (by decide)).trans c13
  replace cd := cd.of (σ' := W22) (fr22 14 (by decide)) (fr22 15 (by decide)) (fr22 16 (by decide)) (fr22 17 (by decide))
  replace c0 : W22[0]? = some (.inr (6, [.ref 1, .ref 2, .ref 3, .ref 5, .ref 7, .ref 11, .ref 12, .ref 13, .ref 14, .int 0, .int 0, .int 0, .int 0])) := (fr22 0 (by decide)).trans c0
  replace tb18 := tb18.kept (σ' := W22) (fun i a b => fr22 i (by omega))
  replace tb60 := tb60.kept (σ' := W22) (fun i a b => fr22 i (by omega))
  replace tb102 := tb102.kept (σ' := W22) (fun i a b => fr22 i (by omega))
  replace c1 : W22[1]? = some (.inl (4, 3, .inr (.inr (va_up (va_up (fun _ => none) 0 (some 18)) 1 (some 102))))) := (fr22 1 (by decide)).trans c1
  replace tb144 := tb144.kept (σ' := W22) (fun i a b => fr22 i (by omega))
  replace c2 : W22[2]? = some (.inl (4, 3, .inr (.inr (va_up (va_up (fun _ => none) 0 (some 60)) 1 (some 144))))) := (fr22 2 (by decide)).trans c2
  rw [l21]
  have x186 : W22[186]? = some (.inr (5, [.null, .int 0, .int 0])) := by
    rw [hW22, ← l21]
    exact nq_gl
  have l22 : W22.length = 187 := by rw [hW22]; rw [List.length_append, l21]; rfl
  refine nq_callI (pc' := 107) d_QS_init_104 rfl cl_QS_58 (kc := 63) (ks := 429) (mc' := 61) (ms' := 420) (As := []) (rest := [.ref 186, .int (nI 2), .ref 1]) rfl rfl (by decide) (t_Table_init x186 l22 (by decide)) (fun E σ1 h => by cases h.1) (fun v V186 hq => ?_)
  obtain ⟨e1, tb186, lv186, f186⟩ := hq
  cases e1
  have c3 := (f186 3 (by decide)).trans c3
  have c4 := (f186 4 (by decide)).trans c4
  have c5 := (f186 5 (by decide)).trans c5
  have c6 := (f186 6 (by decide)).trans c6
  have rs := rs.kept (σ' := V186) (f186 7 (by decide)) (f186 8 (by decide)) (f186 9 (by decide)) (f186 10 (by decide))
  have c11 := (f186 11 (by decide)).trans c11
  have c12 := (f186 12 (by decide)).trans c12
  have c13 := (f186 13 (by decide)).trans c13
  have cd := cd.of (σ' := V186) (f186 14 (by decide)) (f186 15 (by decide)) (f186 16 (by decide)) (f186 17 (by decide))
  have c0 := (f186 0 (by decide)).trans c0
  have tb18 := tb18.kept (σ' := V186) (fun i x y => f186 i (by omega))
  have tb60 := tb60.kept (σ' := V186) (fun i x y => f186 i (by omega))
  have tb102 := tb102.kept (σ' := V186) (fun i x y => f186 i (by omega))
  have c1 := (f186 1 (by decide)).trans c1
  have tb144 := tb144.kept (σ' := V186) (fun i x y => f186 i (by omega))
  have c2 := (f186 2 (by decide)).trans c2
  obtain ⟨u186, tc186⟩ := tb186.cell
  refine nq_aast (pc' := 108) d_QS_init_107 rfl (by first | assumption | exact nq_ga (by assumption) | exact nq_gs (by first | assumption | exact nq_ga (by assumption) | exact nq_gs (by first | assumption | exact nq_gs (by assumption) | exact nq_gn (by first | assumption | decide | omega | exact nq_ne1 (by assumption) (by assumption) | exact nq_ne2 (by assumption) (by assumption)) (by assumption) | exact nq_ga (by assumption)) | exact nq_gn (by first | assumption | decide | omega | exact nq_ne1 (by assumption) (by assumption) | exact nq_ne2 (by assumption) (by assumption)) (by first | assumption | exact nq_gs (by assumption) | exact nq_gn (by first | assumption | decide | omega | exact nq_ne1 (by assumption) (by assumption) | exact nq_ne2 (by assumption) (by assumption)) (by assumption) | exact nq_ga (by assumption))) | exact nq_gn (by first | assumption | decide | omega | exact nq_ne1 (by assumption) (by assumption) | exact nq_ne2 (by assumption) (by assumption)) (by first | assumption | exact nq_ga (by assumption) | exact nq_gs (by first | assumption | exact nq_gs (by assumption) | exact nq_gn (by first | assumption | decide | omega | exact nq_ne1 (by assumption) (by assumption) | exact nq_ne2 (by assumption) (by assumption)) (by assumption) | exact nq_ga (by assumption)) | exact nq_gn (by first | assumption | decide | omega | exact nq_ne1 (by assumption) (by assumption) | exact nq_ne2 (by assumption) (by assumption)) (by first | assumption | exact nq_gs (by assumption) | exact nq_gn (by first | assumption | decide | omega | exact nq_ne1 (by assumption) (by assumption) | exact nq_ne2 (by assumption) (by assumption)) (by assumption) | exact nq_ga (by assumption)))) rfl rfl (by first | assumption | exact nq_ga (by assumption) | exact nq_gs (by first | assumption | exact nq_ga (by assumption) | exact nq_gs (by first | assumption | exact nq_gs (by assumption) | exact nq_gn (by first | assumption | decide | omega | exact nq_ne1 (by assumption) (by assumption) | exact nq_ne2 (by assumption) (by assumption)) (by assumption) | exact nq_ga (by assumption)) | exact nq_gn (by first | assumption | decide | omega | exact nq_ne1 (by assumption) (by assumption) | exact nq_ne2 (by assumption) (by assumption)) (by first | assumption | exact nq_gs (by assumption) | exact nq_gn (by first | assumption | decide | omega | exact nq_ne1 (by assumption) (by assumption) | exact nq_ne2 (by assumption) (by assumption)) (by assumption) | exact nq_ga (by assumption))) | exact nq_gn (by first | assumption | decide | omega | exact nq_ne1 (by assumption) (by assumption) | exact nq_ne2 (by assumption) (by assumption)) (by first | assumption | exact nq_ga (by assumption) | exact nq_gs (by first | assumption | exact nq_gs (by assumption) | exact nq_gn (by first | assumption | decide | omega | exact nq_ne1 (by assumption) (by assumption) | exact nq_ne2 (by assumption) (by assumption)) (by assumption) | exact nq_ga (by assumption)) | exact nq_gn (by first | assumption | decide | omega | exact nq_ne1 (by assumption) (by assumption) | exact nq_ne2 (by assumption) (by assumption)) (by first | assumption | exact nq_gs (by assumption) | exact nq_gn (by first | assumption | decide | omega | exact nq_ne1 (by assumption) (by assumption) | exact nq_ne2 (by assumption) (by assumption)) (by assumption) | exact nq_ga (by assumption)))) (j := 2) rfl (by decide) (by decide) ?_
  have cx := c1
  refine nq_gen (P := fun w => nq_J _ _ _ _ _ _ _ _ w _) (fun W23 hW23 => ?_)
  have fr23 : ∀ i, i < 228 → i ≠ 1 → W23[i]? = V186[i]? := by
    intro i hi hi1
    rw [hW23]
    rw [List.getElem?_set_ne (Ne.symm hi1)]
  replace c3 : W23[3]? = some (.inr (3, [.ref 4, .int 0, .int 0, .int 0, .int (-1), .null, .ref 1000000])) := (fr23 3 (by decide) (by decide)).trans c3
  replace c4 : W23[4]? = some (.inl (2, 48, .inl (fun _ => 0))) := (fr23 4 (by decide) (by decide)).trans c4
  replace c5 : W23[5]? = some (.inr (1, [.ref 6])) := (fr23 5 (by decide) (by decide)).trans c5
  replace c6 : W23[6]? = some (.inl (0, 20, .inl (fun _ => 0))) := (fr23 6 (by decide) (by decide)).trans c6
  replace rs := rs.kept (σ' := W23) (fr23 7 (by decide) (by decide)) (fr23 8 (by decide) (by decide)) (fr23 9 (by decide) (by decide)) (fr23 10 (by decide) (by decide))
  replace c11 : W23[11]? = some (.inl (6, 4, .inr (.inr (fun _ => none)))) := (fr23 11 (by decide) (by decide)).trans c11
  replace c12 : W23[12]? = some (.inl (1, 20, .inl (fun _ => 0))) := (fr23 12 (by decide) (by decide)).trans c12
  replace c13 : W23[13]? = some (.inl (0, 20, .inl (fun _ => 0))) := (fr23 13 (by decide) (by decide)).trans c13
  replace cd := cd.of (σ' := W23) (fr23 14 (by decide) (by decide)) (fr23 15 (by decide) (by decide)) (fr23 16 (by decide) (by decide)) (fr23 17 (by decide) (by decide))
  replace c0 : W23[0]? = some (.inr (6, [.ref 1, .ref 2, .ref 3, .ref 5, .ref 7, .ref 11, .ref 12, .ref 13, .ref 14, .int 0, .int 0, .int 0, .int 0])) := (fr23 0 (by decide) (by decide)).trans c0
  replace tb18 := tb18.kept (σ' := W23) (fun i a b => fr23 i (by omega) (by omega))
  replace tb60 := tb60.kept (σ' := W23) (fun i a b => fr23 i (by omega) (by omega))
  replace tb102 := tb102.kept (σ' := W23) (fun i a b => fr23 i (by omega) (by omega))
  replace tb144 := tb144.kept (σ' := W23) (fun i a b => fr23 i (by omega) (by omega))
  replace c2 : W23[2]? = some (.inl (4, 3, .inr (.inr (va_up (va_up (fun _ => none) 0 (some 60)) 1 (some 144))))) := (fr23 2 (by decide) (by decide)).trans c2
  replace tb186 := tb186.kept (σ' := W23) (fun i a b => fr23 i (by omega) (by omega))
  have l23 : W23.length = 228 := by rw [hW23]; rw [List.length_set]; exact lv186
  have c1 : W23[1]? = some (.inl (4, 3, .inr (.inr (va_up (va_up (va_up (fun _ => none) 0 (some 18)) 1 (some 102)) 2 (some 186))))) := by rw [hW23]; exact nq_gs cx
  refine nq_aload_n (pc' := 109) d_QS_init_108 rfl rfl rfl ?_
  refine nq_getf (pc' := 112) d_QS_init_109 rfl fl_QS_15 (by first | assumption | exact nq_ga (by assumption) | exact nq_gs (by first | assumption | exact nq_ga (by assumption) | exact nq_gs (by first | assumption | exact nq_gs (by assumption) | exact nq_gn (by first | assumption | decide | omega | exact nq_ne1 (by assumption) (by assumption) | exact nq_ne2 (by assumption) (by assumption)) (by assumption) | exact nq_ga (by assumption)) | exact nq_gn (by first | assumption | decide | omega | exact nq_ne1 (by assumption) (by assumption) | exact nq_ne2 (by assumption) (by assumption)) (by first | assumption | exact nq_gs (by assumption) | exact nq_gn (by first | assumption | decide | omega | exact nq_ne1 (by assumption) (by assumption) | exact nq_ne2 (by assumption) (by assumption)) (by assumption) | exact nq_ga (by assumption))) | exact nq_gn (by first | assumption | decide | omega | exact nq_ne1 (by assumption) (by assumption) | exact nq_ne2 (by assumption) (by assumption)) (by first | assumption | exact nq_ga (by assumption) | exact nq_gs (by first | assumption | exact nq_gs (by assumption) | exact nq_gn (by first | assumption | decide | omega | exact nq_ne1 (by assumption) (by assumption) | exact nq_ne2 (by assumption) (by assumption)) (by assumption) | exact nq_ga (by assumption)) | exact nq_gn (by first | assumption | decide | omega | exact nq_ne1 (by assumption) (by assumption) | exact nq_ne2 (by assumption) (by assumption)) (by first | assumption | exact nq_gs (by assumption) | exact nq_gn (by first | assumption | decide | omega | exact nq_ne1 (by assumption) (by assumption) | exact nq_ne2 (by assumption) (by assumption)) (by assumption) | exact nq_ga (by assumption)))) rfl ?_
  refine nq_iload_n (pc' := 113) d_QS_init_112 rfl rfl rfl ?_
  refine nq_new (pc' := 116) d_QS_init_113 rfl nl_QS_9 (kc := 62) (ks := 426) (by omega) ?_
  refine nq_dup (pc' := 117) d_QS_init_116 rfl rfl ?_
  refine nq_gen (P := fun w => nq_J _ _ _ _ _ _ _ _ w _) (fun W24 hW24 => ?_)
  have fr24 : ∀ i, i < 228 → W24[i]? = W23[i]? := by
    intro i hi
    rw [hW24]
    rw [List.getElem?_append_left (by omega)]
  replace c3 : W24[3]? = some (.inr (3, [.ref 4, .int 0, .int 0, .int 0, .int (-1), .null, .ref 1000000])) := (fr24 3 (by decide)).trans c3
  replace c4 : W24[4]? = some (.inl (2, 48, .inl (fun _ => 0))) := (fr24 4 (by decide)).trans c4
  replace c5 : W24[5]? = some (.inr (1, [.ref 6])) := (fr24 5 (by decide)).trans c5
  replace c6 : W24[6]? = some (.inl (0, 20, .inl (fun _ => 0))) := (fr24 6 (by decide)).trans c6
  replace rs := rs.kept (σ' := W24) (fr24 7 (by decide)) (fr24 8 (by decide)) (fr24 9 (by decide)) (fr24 10 (by decide))
  replace c11 : W24[11]? = some (.inl (6, 4, .inr (.inr (fun _ => none)))) := (fr24 11 (by decide)).trans c11
  replace c12 : W24[12]? = some (.inl (1, 20, .inl (fun _ => 0))) := (fr24 12 (by decide)).trans c12
  replace c13 : W24[13]? = some (.inl (0, 20, .inl (fun _ => 0))) := (fr24 13 (by decide)).trans c13
  replace cd := cd.of (σ' := W24) (fr24 14 (by decide)) (fr24 15 (by decide)) (fr24 16 (by decide)) (fr24 17 (by decide))
  replace c0 : W24[0]? = some (.inr (6, [.ref 1, .ref 2, .ref 3, .ref 5, .ref 7, .ref 11, .ref 12, .ref 13, .ref 14, .int 0, .int 0, .int 0, .int 0])) := (fr24 0 (by decide)).trans c0
  replace tb18 := tb18.kept (σ' := W24) (fun i a b => fr24 i (by omega))
  replace tb60 := tb60.kept (σ' := W24) (fun i a b => fr24 i (by omega))
  replace tb102 := tb102.kept (σ' := W24) (fun i a b => fr24 i (by omega))
  replace tb144 := tb144.kept (σ' := W24) (fun i a b => fr24 i (by omega))
  replace c2 : W24[2]? = some (.inl (4, 3, .inr (.inr (va_up (va_up (fun _ => none) 0 (some 60)) 1 (some 144))))) := (fr24 2 (by decide)).trans c2
  replace tb186 := tb186.kept (σ' := W24) (fun i a b => fr24 i (by omega))
  replace c1 : W24[1]? = some (.inl (4, 3, .inr (.inr (va_up (va_up (va_up (fun _ => none) 0 (some 18)) 1 (some 102)) 2 (some 186))))) := (fr24 1 (by decide)).trans c1
  rw [l23]
  have x228 : W24[228]? = some (.inr (5, [.null, .int 0, .int 0])) := by
    rw [hW24, ← l23]
    exact nq_gl
  have l24 : W24.length = 229 := by rw [hW24]; rw [List.length_append, l23]; rfl
  refine nq_callI (pc' := 120) d_QS_init_117 rfl cl_QS_58 (kc := 0) (ks := 0) (mc' := 61) (ms' := 420) (As := []) (rest := [.ref 228, .int (nI 2), .ref 2]) rfl rfl (by decide) (t_Table_init x228 l24 (by decide)) (fun E σ1 h => by cases h.1) (fun v V228 hq => ?_)
  obtain ⟨e1, tb228, lv228, f228⟩ := hq
  cases e1
  have c3 := (f228 3 (by decide)).trans c3
  have c4 := (f228 4 (by decide)).trans c4
  have c5 := (f228 5 (by decide)).trans c5
  have c6 := (f228 6 (by decide)).trans c6
  have rs := rs.kept (σ' := V228) (f228 7 (by decide)) (f228 8 (by decide)) (f228 9 (by decide)) (f228 10 (by decide))
  have c11 := (f228 11 (by decide)).trans c11
  have c12 := (f228 12 (by decide)).trans c12
  have c13 := (f228 13 (by decide)).trans c13
  have cd := cd.of (σ' := V228) (f228 14 (by decide)) (f228 15 (by decide)) (f228 16 (by decide)) (f228 17 (by decide))
  have c0 := (f228 0 (by decide)).trans c0
  have tb18 := tb18.kept (σ' := V228) (fun i x y => f228 i (by omega))
  have tb60 := tb60.kept (σ' := V228) (fun i x y => f228 i (by omega))
  have tb102 := tb102.kept (σ' := V228) (fun i x y => f228 i (by omega))
  have tb144 := tb144.kept (σ' := V228) (fun i x y => f228 i (by omega))
  have c2 := (f228 2 (by decide)).trans c2
  have tb186 := tb186.kept (σ' := V228) (fun i x y => f228 i (by omega))
  have c1 := (f228 1 (by decide)).trans c1
  obtain ⟨u228, tc228⟩ := tb228.cell
  refine nq_aast (pc' := 121) d_QS_init_120 rfl (by first | assumption | exact nq_ga (by assumption) | exact nq_gs (by first | assumption | exact nq_ga (by assumption) | exact nq_gs (by first | assumption | exact nq_gs (by assumption) | exact nq_gn (by first | assumption | decide | omega | exact nq_ne1 (by assumption) (by assumption) | exact nq_ne2 (by assumption) (by assumption)) (by assumption) | exact nq_ga (by assumption)) | exact nq_gn (by first | assumption | decide | omega | exact nq_ne1 (by assumption) (by assumption) | exact nq_ne2 (by assumption) (by assumption)) (by first | assumption | exact nq_gs (by assumption) | exact nq_gn (by first | assumption | decide | omega | exact nq_ne1 (by assumption) (by assumption) | exact nq_ne2 (by assumption) (by assumption)) (by assumption) | exact nq_ga (by assumption))) | exact nq_gn (by first | assumption | decide | omega | exact nq_ne1 (by assumption) (by assumption) | exact nq_ne2 (by assumption) (by assumption)) (by first | assumption | exact nq_ga (by assumption) | exact nq_gs (by first | assumption | exact nq_gs (by assumption) | exact nq_gn (by first | assumption | decide | omega | exact nq_ne1 (by assumption) (by assumption) | exact nq_ne2 (by assumption) (by assumption)) (by assumption) | exact nq_ga (by assumption)) | exact nq_gn (by first | assumption | decide | omega | exact nq_ne1 (by assumption) (by assumption) | exact nq_ne2 (by assumption) (by assumption)) (by first | assumption | exact nq_gs (by assumption) | exact nq_gn (by first | assumption | decide | omega | exact nq_ne1 (by assumption) (by assumption) | exact nq_ne2 (by assumption) (by assumption)) (by assumption) | exact nq_ga (by assumption)))) rfl rfl (by first | assumption | exact nq_ga (by assumption) | exact nq_gs (by first | assumption | exact nq_ga (by assumption) | exact nq_gs (by first | assumption | exact nq_gs (by assumption) | exact nq_gn (by first | assumption | decide | omega | exact nq_ne1 (by assumption) (by assumption) | exact nq_ne2 (by assumption) (by assumption)) (by assumption) | exact nq_ga (by assumption)) | exact nq_gn (by first | assumption | decide | omega | exact nq_ne1 (by assumption) (by assumption) | exact nq_ne2 (by assumption) (by assumption)) (by first | assumption | exact nq_gs (by assumption) | exact nq_gn (by first | assumption | decide | omega | exact nq_ne1 (by assumption) (by assumption) | exact nq_ne2 (by assumption) (by assumption)) (by assumption) | exact nq_ga (by assumption))) | exact nq_gn (by first | assumption | decide | omega | exact nq_ne1 (by assumption) (by assumption) | exact nq_ne2 (by assumption) (by assumption)) (by first | assumption | exact nq_ga (by assumption) | exact nq_gs (by first | assumption | exact nq_gs (by assumption) | exact nq_gn (by first | assumption | decide | omega | exact nq_ne1 (by assumption) (by assumption) | exact nq_ne2 (by assumption) (by assumption)) (by assumption) | exact nq_ga (by assumption)) | exact nq_gn (by first | assumption | decide | omega | exact nq_ne1 (by assumption) (by assumption) | exact nq_ne2 (by assumption) (by assumption)) (by first | assumption | exact nq_gs (by assumption) | exact nq_gn (by first | assumption | decide | omega | exact nq_ne1 (by assumption) (by assumption) | exact nq_ne2 (by assumption) (by assumption)) (by assumption) | exact nq_ga (by assumption)))) (j := 2) rfl (by decide) (by decide) ?_
  have cx := c2
  refine nq_gen (P := fun w => nq_J _ _ _ _ _ _ _ _ w _) (fun W25 hW25 => ?_)
  have fr25 : ∀ i, i < 270 → i ≠ 2 → W25[i]? = V228[i]? := by
    intro i hi hi2
    rw [hW25]
    rw [List.getElem?_set_ne (Ne.symm hi2)]
  replace c3 : W25[3]? = some (.inr (3, [.ref 4, .int 0, .int 0, .int 0, .int (-1), .null, .ref 1000000])) := (fr25 3 (by decide) (by decide)).trans c3
  replace c4 : W25[4]? = some (.inl (2, 48, .inl (fun _ => 0))) := (fr25 4 (by decide) (by decide)).trans c4
  replace c5 : W25[5]? = some (.inr (1, [.ref 6])) := (fr25 5 (by decide) (by decide)).trans c5
  replace c6 : W25[6]? = some (.inl (0, 20, .inl (fun _ => 0))) := (fr25 6 (by decide) (by decide)).trans c6
  replace rs := rs.kept (σ' := W25) (fr25 7 (by decide) (by decide)) (fr25 8 (by decide) (by decide)) (fr25 9 (by decide) (by decide)) (fr25 10 (by decide) (by decide))
  replace c11 : W25[11]? = some (.inl (6, 4, .inr (.inr (fun _ => none)))) := (fr25 11 (by decide) (by decide)).trans c11
  replace c12 : W25[12]? = some (.inl (1, 20, .inl (fun _ => 0))) := (fr25 12 (by decide) (by decide)).trans c12
  replace c13 : W25[13]? = some (.inl (0, 20, .inl (fun _ => 0))) := (fr25 13 (by decide) (by decide)).trans c13
  replace cd := cd.of (σ' := W25) (fr25 14 (by decide) (by decide)) (fr25 15 (by decide) (by decide)) (fr25 16 (by decide) (by decide)) (fr25 17 (by decide) (by decide))
  replace c0 : W25[0]? = some (.inr (6, [.ref 1, .ref 2, .ref 3, .ref 5, .ref 7, .ref 11, .ref 12, .ref 13, .ref 14, .int 0, .int 0, .int 0, .int 0])) := (fr25 0 (by decide) (by decide)).trans c0
  replace tb18 := tb18.kept (σ' := W25) (fun i a b => fr25 i (by omega) (by omega))
  replace tb60 := tb60.kept (σ' := W25) (fun i a b => fr25 i (by omega) (by omega))
  replace tb102 := tb102.kept (σ' := W25) (fun i a b => fr25 i (by omega) (by omega))
  replace tb144 := tb144.kept (σ' := W25) (fun i a b => fr25 i (by omega) (by omega))
  replace tb186 := tb186.kept (σ' := W25) (fun i a b => fr25 i (by omega) (by omega))
  replace c1 : W25[1]? = some (.inl (4, 3, .inr (.inr (va_up (va_up (va_up (fun _ => none) 0 (some 18)) 1 (some 102)) 2 (some 186))))) := (fr25 1 (by decide) (by decide)).trans c1
  replace tb228 := tb228.kept (σ' := W25) (fun i a b => fr25 i (by omega) (by omega))
  have l25 : W25.length = 270 := by rw [hW25]; rw [List.length_set]; exact lv228
  have c2 : W25[2]? = some (.inl (4, 3, .inr (.inr (va_up (va_up (va_up (fun _ => none) 0 (some 60)) 1 (some 144)) 2 (some 228))))) := by rw [hW25]; exact nq_gs cx
  refine nq_iinc (pc' := 124) d_QS_init_121 rfl rfl (v := nI 3) (by decide) (by decide) rfl ?_
  refine nq_goto (tgt := 90) d_QS_init_124 (by decide) ?_
  refine nq_iload_n (pc' := 91) d_QS_init_90 rfl rfl rfl ?_
  refine nq_iconst (v := 3) (pc' := 92) d_QS_init_91 rfl (by decide) ?_
  refine nq_icmp_ge (pc' := 95) (tgt := 127) d_QS_init_92 rfl (by decide) (fun _ => ?_) (fun h => absurd (by decide) h)
  refine nq_vret d_QS_init_127 rfl ?_
  have t3 : ∀ t, t < 3 → t = 0 ∨ t = 1 ∨ t = 2 := by omega
  refine ⟨rfl, l25, fun _ => 0, fun _ => 0, fun _ => 0, [], 0, ⟨c0, ⟨_, c1, fun t ht => ?_⟩, ⟨rfl, fun t ht => ?_⟩, c5, c6, rs, c12, c13⟩, ⟨⟨_, c2, fun t ht => ?_⟩, rfl, fun t ht => ?_⟩, ⟨0, 0, .null, 0, fun _ => 0, c3, by decide, c4, by decide, fun i x hx => by simp at hx⟩, ⟨_, c11, fun k hk => ⟨fun _ => rfl, fun s hs => by cases hs⟩, ⟨_, _, cd, rfl, .inl rfl⟩, fun k c hk hc => (by cases hc), fun k k' c c' _ _ _ hc _ => (by cases hc)⟩⟩
  · rcases t3 t ht with rfl | rfl | rfl <;> rfl
  · rcases t3 t ht with rfl | rfl | rfl
    · exact tb18
    · exact tb102
    · exact tb186
  · rcases t3 t ht with rfl | rfl | rfl <;> rfl
  · rcases t3 t ht with rfl | rfl | rfl
    · exact tb60
    · exact tb144
    · exact tb228
end QI
