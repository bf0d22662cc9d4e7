/-! THE LAW FROM ITS START -/
section LB
variable {G : nq_G} {d : Nat}
def la_0 : sx_S := ([], -1, fun _ => none, [[], [], []], [[], [], []], false, 0, 0, 0, [], 0)
theorem la_new {σ σ' : nq_S} (hl : σ.length = 270) (hl' : σ'.length = 288) (h : qs_N σ) (e : ∀ i, i < 270 → σ'[i]? = σ[i]?) : qs_R σ' la_0 := by
  obtain ⟨R, ch, nn, es, width, hX, hB, hT, hP⟩ := h
  exact ⟨by omega, ⟨fun _ => rfl, by decide, by decide, fun x hx => (by cases hx)⟩, 14, R, ch, nn, es, width, hX.of (fun i hi => e i (by omega)), fun h => absurd rfl h, hB.of (fun i hi => e i (by omega)), hT.of (e 3 (by omega)) (e 4 (by omega)), hP.of (fun i hi => e i (by omega))⟩
theorem mo_new : mo_P mo_v0 (fun _ _ => 0) la_0 := by
  have tb0 : mo_tb (fun _ => 0) (fun _ => 0) [[], [], []] := ⟨rfl, fun t ht => by
    have : t = 0 ∨ t = 1 ∨ t = 2 := by omega
    rcases this with rfl | rfl | rfl <;> exact ⟨by decide, rfl, fun i r h => (by cases h)⟩⟩
  exact ⟨⟨rfl, ⟨by decide, fun i x h => (by cases h)⟩, rfl⟩, fun k hk => ⟨fun _ => rfl, fun s h => (by cases h)⟩, ⟨tb0, tb0⟩, ⟨rfl, rfl, rfl, rfl⟩, rfl, fun h => absurd rfl h, fun i x h => (by cases h)⟩
theorem law_all (hN : G.2.2.1 ≤ 2048) (hD : 26 ≤ d) : nq_J G d 3492 92491 m_Law_law 0 [some (.ref 3000000), none, none, none, none, none, none] [] [] (fun o _ => o = .inl (some (.int 1))) := by
  obtain ⟨d, rfl⟩ : ∃ d', d = d' + 1 := ⟨d - 1, by omega⟩
  refine nq_new (pc' := 3) d_Law_law_0 rfl nl_Law_8 (kc := 3491) (ks := 92478) (by decide) ?_
  refine nq_dup (pc' := 4) d_Law_law_3 rfl rfl ?_
  refine nq_gen (P := fun w => nq_J _ _ _ _ _ _ _ _ w _) (fun W1 hW1 => ?_)
  have l1 : W1.length = 1 := by rw [hW1]; rfl
  have c1 : W1[0]? = some (.inr (6, [.null, .null, .null, .null, .null, .null, .null, .null, .null, .int 0, .int 0, .int 0, .int 0])) := by rw [hW1]; rfl
  refine nq_callI (pc' := 7) d_Law_law_4 rfl cl_Law_51 (kc := 3091) (ks := 89385) (mc' := 399) (ms' := 3087) (As := []) (rest := [.ref 0]) rfl rfl (by decide) (k_QS_init (by omega) l1 c1) (fun E σ1 h => by cases h.1) (fun v W2 hq => ?_)
  obtain ⟨e2, l2, N2⟩ := hq
  cases e2
  refine nq_astore_n (pc' := 8) d_Law_law_7 rfl rfl (by decide) rfl ?_
  refine nq_new (pc' := 11) d_Law_law_8 rfl nl_Law_52 (kc := 3090) (ks := 89352) (by omega) ?_
  refine nq_dup (pc' := 12) d_Law_law_11 rfl rfl ?_
  rw [l2]
  refine nq_gen (P := fun w => nq_J _ _ _ _ _ _ _ _ w _) (fun W3 hW3 => ?_)
  have l3 : W3.length = 271 := by rw [hW3, List.length_append, l2]; rfl
  have c3 : W3[270]? = some (.inr (7, [.null, .null, .null, .null, .null, .null, .null, .int 0, .int 0, .int 0, .int 0, .int 0, .int 0, .int 0, .int 0, .int 0, .int 0, .int 0, .int 0, .int 0, .null, .null, .null, .null, .null, .null, .null, .null, .null, .int 0, .int 0, .int 0, .int 0])) := by
    rw [hW3, ← l2]
    exact nq_gl
  have f3 : ∀ i, i < 270 → W3[i]? = W2[i]? := fun i hi => by rw [hW3]; exact List.getElem?_append_left (by omega)
  refine nq_callI (pc' := 15) d_Law_law_12 rfl cl_Law_54 (kc := 3073) (ks := 86529) (mc' := 16) (ms' := 2817) (As := []) (rest := [.ref 270]) rfl rfl (by decide) (k_Mod_init l3 c3) (fun E σ1 h => by cases h.1) (fun v W4 hq => ?_)
  obtain ⟨e4, l4, M4, f4⟩ := hq
  cases e4
  refine nq_astore_n (pc' := 16) d_Law_law_15 rfl rfl (by decide) rfl ?_
  refine nq_iconst (v := 1) (pc' := 17) d_Law_law_16 rfl (by decide) ?_
  refine nq_newa_long (t := 3) (pc' := 19) d_Law_law_17 rfl rfl ac_long rfl rfl (by decide) (kc := 3072) (ks := 86528) (by omega) ?_
  refine nq_astore_n (pc' := 20) d_Law_law_19 rfl rfl (by decide) rfl ?_
  refine nq_iconst (v := 0) (pc' := 21) d_Law_law_20 rfl (by decide) ?_
  refine nq_istore (pc' := 23) d_Law_law_21 rfl (by decide) rfl ?_
  rw [l4]
  refine nq_gen (P := fun w => nq_J _ _ _ _ _ _ _ _ w _) (fun W5 hW5 => ?_)
  have l5 : W5.length = 288 := by rw [hW5, List.length_append, l4]; rfl
  have c5 : la_O W5 (fun _ => 0) := by
    unfold la_O
    rw [hW5, ← l4]
    exact nq_gl
  have f5 : ∀ i, i < 287 → W5[i]? = W4[i]? := fun i hi => by rw [hW5]; exact List.getElem?_append_left (by omega)
  exact law_loop hN (by omega) 512 0 W5 la_0 none none (by omega) (by omega) ⟨la_new l2 l5 N2 (fun i hi => (f5 i (by omega)).trans ((f4 i hi).trans (f3 i hi))), ⟨_, _, M4.of (fun i a b => f5 i b), mo_new⟩, _, c5⟩ (by omega)
end LB
