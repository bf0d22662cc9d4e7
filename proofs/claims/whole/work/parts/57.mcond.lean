/-! THE OTHER STORE: condition -/
def mv_k (hd : Nat → Int32) (out : List Int32) (k : Nat) (x : sp_K) : Prop := ∃ o1 o2, hd (12 + 4 * k) = nI (1670 + o1) ∧ mv_at out o1 x.1 ∧ hd (13 + 4 * k) = nI (1670 + o2) ∧ mv_at out o2 x.2.2.1 ∧ hd (14 + 4 * k) = nI (60 + x.2.1) ∧ hd (15 + 4 * k) = (if x.2.2.2 then 1 else 0)
def mv_cs (hd : Nat → Int32) (out : List Int32) (cs : List sp_K) : Prop := hd 8 = nI cs.length ∧ ∀ k x, cs[k]? = some x → mv_k hd out k x
theorem mv_k.of {hd hd' : Nat → Int32} {out t : List Int32} {k : Nat} {x : sp_K} (h : mv_k hd out k x) (e : ∀ j, 12 + 4 * k ≤ j → j < 16 + 4 * k → hd' j = hd j) : mv_k hd' (out ++ t) k x := by
  obtain ⟨o1, o2, a1, a2, a3, a4, a5, a6⟩ := h
  exact ⟨o1, o2, (e _ (by omega) (by omega)).trans a1, a2.app, (e _ (by omega) (by omega)).trans a3, a4.app, (e _ (by omega) (by omega)).trans a5, (e _ (by omega) (by omega)).trans a6⟩
def mc_Q (σ : nq_S) (v : Nat → Int32) (ar : mo_Ar) (L : Nat → Nat) (N nc q : Nat) (out : List Int32) (res : Nat ⊕ (List sp_K × Nat)) : nq_Q := fun o σ' => mo_fr σ σ' ∧ ∃ v' ar', mo_kh v ar v' ar' ∧ (∀ j, j < 12 → j ≠ 8 → mo_hd ar' j = mo_hd ar j) ∧ match res with
  | .inl p => o = .inl (some (.int 0)) ∧ mf_S σ' v' ar' p
  | .inr (cs, j) => o = .inl (some (.int 1)) ∧ ∃ t, mt_S σ' v' ar' L N nc j (out ++ t) (q + sp_cq cs) ∧ mv_cs (mo_hd ar') (out ++ t) cs
theorem tx_sg {c : Nat} (h : c ∈ tx 17) : c = 60 + (tx 17).idxOf c ∧ (c = 60 ∨ c = 61 ∨ c = 62) := by
  have : ∀ c ∈ tx 17, c = 60 + (tx 17).idxOf c ∧ (c = 60 ∨ c = 61 ∨ c = 62) := by decide
  exact this c h
theorem tx_sg' {c : Nat} (h : c = 60 ∨ c = 61 ∨ c = 62) : c ∈ tx 17 := by rcases h with rfl | rfl | rfl <;> decide
section MC2
variable {G : nq_G} {d : Nat} {σ : nq_S} {v : Nat → Int32} {ar : mo_Ar} {L : Nat → Nat} {N cols i q : Nat} {out : List Int32}
def mc_P (G : nq_G) (d : Nat) (σ : nq_S) (v : Nat → Int32) (ar : mo_Ar) (L : Nat → Nat) (N cols q : Nat) (out : List Int32) (F : Nat) : Prop := ∀ (i : Nat) (acc : List sp_K) (t : List Int32) (σ1 : nq_S) (v1 : Nat → Int32) (ar1 : mo_Ar), 49 ≤ F + i → 4 * acc.length + 1 ≤ i → mt_S σ1 v1 ar1 L N (sp_nc cols) i (out ++ t) (q + sp_cq acc) → mv_cs (mo_hd ar1) (out ++ t) acc → mo_fr σ σ1 → mo_kh v ar v1 ar1 → (∀ j, j < 12 → j ≠ 8 → mo_hd ar1 j = mo_hd ar j) → nq_J G (d + 1) 0 0 m_Mod_condition 11 [some (.ref 270), some (.int (nI 1600)), none, none] [] σ1 (mc_Q σ v ar L N (sp_nc cols) q out (sp_conds L cols F acc i))
theorem mc_step {F : Nat} (hc : cols = 0 ∨ cols = 3 ∨ cols = 4) (hD : 5 ≤ d) (ih : ∀ F', F = F' + 1 → mc_P G d σ v ar L N cols q out F') : mc_P G d σ v ar L N cols q out F := by
  intro i acc t σ1 v1 ar1 hF h4 S1 V1 F1 K1 H1
  obtain ⟨⟨ops, hp⟩, l1, l2, l3⟩ := id S1
  have hN := hp.2.1.1
  have hl7 := hp.2.1.l7
  have hLt := hp.2.1.lt
  have w := hp.1.1
  have a1 := hp.1.2.2.1
  obtain ⟨F, rfl⟩ : ∃ F', F = F' + 1 := ⟨F - 1, by omega⟩
  have hd8 : ar1 1 1608 = nI acc.length := V1.1
  have es : nI 1600 + nI 12 + nI acc.length * nI 4 = nI (1612 + 4 * acc.length) := by
    rw [pk_mul, nI_add, nI_add]
    congr 1
    omega
  have kk : ∀ (x y : Nat), x < 128 → y < 128 → x ≠ y → ¬ nI x = nI y := fun x y hx hy hn h => hn (nI_inj (by omega) (by omega) h)
  unfold sp_conds
  refine nq_iload_n (pc' := 12) d_Mod_condition_11 rfl rfl rfl ?_
  refine nq_bipush (v := 12) (pc' := 14) d_Mod_condition_12 rfl (by decide) ?_
  refine nq_iadd (pc' := 15) d_Mod_condition_14 rfl ?_
  refine nq_aload_n (pc' := 16) d_Mod_condition_15 rfl rfl rfl ?_
  refine nq_getf (pc' := 19) d_Mod_condition_16 rfl fl_Mod_13 (by first | assumption | exact nq_ga (by assumption) | exact nq_gs (by first | assumption | exact nq_ga (by assumption) | exact nq_gs (by first | assumption | exact nq_gs (by assumption) | exact nq_gn (by first | assumption | decide | omega | exact nq_ne1 (by assumption) (by assumption) | exact nq_ne2 (by assumption) (by assumption)) (by assumption) | exact nq_ga (by assumption)) | exact nq_gn (by first | assumption | decide | omega | exact nq_ne1 (by assumption) (by assumption) | exact nq_ne2 (by assumption) (by assumption)) (by first | assumption | exact nq_gs (by assumption) | exact nq_gn (by first | assumption | decide | omega | exact nq_ne1 (by assumption) (by assumption) | exact nq_ne2 (by assumption) (by assumption)) (by assumption) | exact nq_ga (by assumption))) | exact nq_gn (by first | assumption | decide | omega | exact nq_ne1 (by assumption) (by assumption) | exact nq_ne2 (by assumption) (by assumption)) (by first | assumption | exact nq_ga (by assumption) | exact nq_gs (by first | assumption | exact nq_gs (by assumption) | exact nq_gn (by first | assumption | decide | omega | exact nq_ne1 (by assumption) (by assumption) | exact nq_ne2 (by assumption) (by assumption)) (by assumption) | exact nq_ga (by assumption)) | exact nq_gn (by first | assumption | decide | omega | exact nq_ne1 (by assumption) (by assumption) | exact nq_ne2 (by assumption) (by assumption)) (by first | assumption | exact nq_gs (by assumption) | exact nq_gn (by first | assumption | decide | omega | exact nq_ne1 (by assumption) (by assumption) | exact nq_ne2 (by assumption) (by assumption)) (by assumption) | exact nq_ga (by assumption)))) rfl ?_
  refine nq_iload_n (pc' := 20) d_Mod_condition_19 rfl rfl rfl ?_
  refine nq_bipush (v := 8) (pc' := 22) d_Mod_condition_20 rfl (by decide) ?_
  refine nq_iadd (pc' := 23) d_Mod_condition_22 rfl ?_
  refine nq_iald (pc' := 24) d_Mod_condition_23 rfl (by first | assumption | exact nq_ga (by assumption) | exact nq_gs (by first | assumption | exact nq_ga (by assumption) | exact nq_gs (by first | assumption | exact nq_gs (by assumption) | exact nq_gn (by first | assumption | decide | omega | exact nq_ne1 (by assumption) (by assumption) | exact nq_ne2 (by assumption) (by assumption)) (by assumption) | exact nq_ga (by assumption)) | exact nq_gn (by first | assumption | decide | omega | exact nq_ne1 (by assumption) (by assumption) | exact nq_ne2 (by assumption) (by assumption)) (by first | assumption | exact nq_gs (by assumption) | exact nq_gn (by first | assumption | decide | omega | exact nq_ne1 (by assumption) (by assumption) | exact nq_ne2 (by assumption) (by assumption)) (by assumption) | exact nq_ga (by assumption))) | exact nq_gn (by first | assumption | decide | omega | exact nq_ne1 (by assumption) (by assumption) | exact nq_ne2 (by assumption) (by assumption)) (by first | assumption | exact nq_ga (by assumption) | exact nq_gs (by first | assumption | exact nq_gs (by assumption) | exact nq_gn (by first | assumption | decide | omega | exact nq_ne1 (by assumption) (by assumption) | exact nq_ne2 (by assumption) (by assumption)) (by assumption) | exact nq_ga (by assumption)) | exact nq_gn (by first | assumption | decide | omega | exact nq_ne1 (by assumption) (by assumption) | exact nq_ne2 (by assumption) (by assumption)) (by first | assumption | exact nq_gs (by assumption) | exact nq_gn (by first | assumption | decide | omega | exact nq_ne1 (by assumption) (by assumption) | exact nq_ne2 (by assumption) (by assumption)) (by assumption) | exact nq_ga (by assumption)))) rfl (j := 1608) (by decide) (by decide) (by decide) ?_
  rw [hd8]
  refine nq_iconst (v := 4) (pc' := 25) d_Mod_condition_24 rfl (by decide) ?_
  refine nq_imul (pc' := 26) d_Mod_condition_25 rfl ?_
  refine nq_iadd (pc' := 27) d_Mod_condition_26 rfl ?_
  refine (congrArg (fun x => nq_J G (d + 1) 0 0 m_Mod_condition 27 _ [Value.int x] _ _) es).mpr ?_
  refine nq_istore_n (pc' := 28) d_Mod_condition_27 rfl rfl (by decide) rfl ?_
  refine nq_aload_n (pc' := 29) d_Mod_condition_28 rfl rfl rfl ?_
  refine nq_iload_n (pc' := 30) d_Mod_condition_29 rfl rfl rfl ?_
  refine nq_callV (pc' := 33) d_Mod_condition_30 rfl cl_Mod_128 rfl (by first | assumption | exact nq_ga (by assumption) | exact nq_gs (by first | assumption | exact nq_ga (by assumption) | exact nq_gs (by first | assumption | exact nq_gs (by assumption) | exact nq_gn (by first | assumption | decide | omega | exact nq_ne1 (by assumption) (by assumption) | exact nq_ne2 (by assumption) (by assumption)) (by assumption) | exact nq_ga (by assumption)) | exact nq_gn (by first | assumption | decide | omega | exact nq_ne1 (by assumption) (by assumption) | exact nq_ne2 (by assumption) (by assumption)) (by first | assumption | exact nq_gs (by assumption) | exact nq_gn (by first | assumption | decide | omega | exact nq_ne1 (by assumption) (by assumption) | exact nq_ne2 (by assumption) (by assumption)) (by assumption) | exact nq_ga (by assumption))) | exact nq_gn (by first | assumption | decide | omega | exact nq_ne1 (by assumption) (by assumption) | exact nq_ne2 (by assumption) (by assumption)) (by first | assumption | exact nq_ga (by assumption) | exact nq_gs (by first | assumption | exact nq_gs (by assumption) | exact nq_gn (by first | assumption | decide | omega | exact nq_ne1 (by assumption) (by assumption) | exact nq_ne2 (by assumption) (by assumption)) (by assumption) | exact nq_ga (by assumption)) | exact nq_gn (by first | assumption | decide | omega | exact nq_ne1 (by assumption) (by assumption) | exact nq_ne2 (by assumption) (by assumption)) (by first | assumption | exact nq_gs (by assumption) | exact nq_gn (by first | assumption | decide | omega | exact nq_ne1 (by assumption) (by assumption) | exact nq_ne2 (by assumption) (by assumption)) (by assumption) | exact nq_ga (by assumption)))) rfl rfl (kc := 0) (ks := 0) (mc' := 0) (ms' := 0) (As := [.int (nI (1612 + 4 * acc.length))]) (rest := []) rfl rfl (by decide) (k_Mod_ex (r := 7) S1 hc hD (by omega) (by omega)) (fun E σ2 hq => ?_) (fun z σ2 hq => ?_)
  · obtain ⟨_, _, _, _, hq⟩ := hq
    cases hx : sp_expr L cols 7 i with
    | inl p => rw [hx] at hq; cases hq.1
    | inr w => rw [hx] at hq; cases hq.1
  obtain ⟨f2, v2, ar2, k2, hq⟩ := hq
  have hk2 : ∀ j, j < 70 → j ≠ 12 + 4 * acc.length → mo_hd ar2 j = mo_hd ar1 j := fun j hj hn => k2.2.2 (1600 + j) (by omega) (by omega)
  cases hx1 : sp_expr L cols 7 i with
  | inl p =>
    rw [hx1] at hq
    obtain ⟨e1, hf⟩ := hq
    cases e1
    refine nq_if_ne (pc' := 36) (tgt := 38) d_Mod_condition_33 rfl (by decide) (fun h => absurd rfl h) (fun _ => ?_)
    refine nq_iconst (v := 0) (pc' := 37) d_Mod_condition_36 rfl (by decide) ?_
    refine nq_iret d_Mod_condition_37 rfl rfl ⟨F1.tr f2, v2, ar2, K1.tr (k2.h (by omega)), fun j hj hn => by rw [hk2 j (by omega) (by omega)]; exact H1 j hj hn, rfl, hf⟩
  | inr w2 =>
  obtain ⟨c1, j⟩ := w2
  rw [hx1] at hq
  obtain ⟨e1, e2, S2⟩ := hq
  cases e1
  simp only
  obtain ⟨s1, s2, s3, _, _⟩ := sp_expr_b hLt hc (by omega) hx1
  obtain ⟨⟨ops2, hp2⟩, m1, m2, m3⟩ := id S2
  have w2 := hp2.1.1
  have s5 := hp2.2.2.2.2.1
  have F2 := F1.tr f2
  have K2 := K1.tr (k2.h (by omega))
  have H2 : ∀ j, j < 12 → j ≠ 8 → mo_hd ar2 j = mo_hd ar j := fun j hj hn => by rw [hk2 j (by omega) (by omega)]; exact H1 j hj hn
  refine nq_if_ne (pc' := 36) (tgt := 38) d_Mod_condition_33 rfl (by decide) (fun _ => ?_) (fun h => absurd h (by decide))
  refine nq_aload_n (pc' := 39) d_Mod_condition_38 rfl rfl rfl ?_
  refine nq_callVR (pc' := 42) d_Mod_condition_39 rfl cl_Mod_84 rfl (by first | assumption | exact nq_ga (by assumption) | exact nq_gs (by first | assumption | exact nq_ga (by assumption) | exact nq_gs (by first | assumption | exact nq_gs (by assumption) | exact nq_gn (by first | assumption | decide | omega | exact nq_ne1 (by assumption) (by assumption) | exact nq_ne2 (by assumption) (by assumption)) (by assumption) | exact nq_ga (by assumption)) | exact nq_gn (by first | assumption | decide | omega | exact nq_ne1 (by assumption) (by assumption) | exact nq_ne2 (by assumption) (by assumption)) (by first | assumption | exact nq_gs (by assumption) | exact nq_gn (by first | assumption | decide | omega | exact nq_ne1 (by assumption) (by assumption) | exact nq_ne2 (by assumption) (by assumption)) (by assumption) | exact nq_ga (by assumption))) | exact nq_gn (by first | assumption | decide | omega | exact nq_ne1 (by assumption) (by assumption) | exact nq_ne2 (by assumption) (by assumption)) (by first | assumption | exact nq_ga (by assumption) | exact nq_gs (by first | assumption | exact nq_gs (by assumption) | exact nq_gn (by first | assumption | decide | omega | exact nq_ne1 (by assumption) (by assumption) | exact nq_ne2 (by assumption) (by assumption)) (by assumption) | exact nq_ga (by assumption)) | exact nq_gn (by first | assumption | decide | omega | exact nq_ne1 (by assumption) (by assumption) | exact nq_ne2 (by assumption) (by assumption)) (by first | assumption | exact nq_gs (by assumption) | exact nq_gn (by first | assumption | decide | omega | exact nq_ne1 (by assumption) (by assumption) | exact nq_ne2 (by assumption) (by assumption)) (by assumption) | exact nq_ga (by assumption)))) rfl rfl (kc := 0) (ks := 0) (mc' := 0) (ms' := 0) (As := []) (rest := []) rfl rfl (by decide) (k_Mod_look hp2 (by omega)) ?_
  refine nq_istore_n (pc' := 43) d_Mod_condition_42 rfl rfl (by decide) rfl ?_
  refine nq_iload_n (pc' := 44) d_Mod_condition_43 rfl rfl rfl ?_
  refine nq_bipush (v := 60) (pc' := 46) d_Mod_condition_44 rfl (by decide) ?_
  have yes : L j ∈ tx 17 → nq_J G (d + 1) 0 0 m_Mod_condition 63 [some (.ref 270), some (.int (nI 1600)), some (.int (nI (1612 + 4 * acc.length))), some (.int (nI (L j)))] [] σ2 (mc_Q σ v ar L N (sp_nc cols) q out (if L j ∈ tx 17 then (match sp_expr L cols 8 (j + 1) with
        | .inl p => .inl p
        | .inr (c2, j2) => if L j2 ∈ tx 19 then sp_conds L cols F (acc ++ [(c1, (tx 17).idxOf (L j), c2, decide (L j2 ≠ 38))]) (j2 + 1)
          else if L j2 = 93 then .inr (acc ++ [(c1, (tx 17).idxOf (L j), c2, true)], j2 + 1)
          else .inl j2)
      else .inl j)) := by
    intro hm
    rw [if_pos hm]
    have hj' := hLt j (tx_n0 hm)
    obtain ⟨sg, _⟩ := tx_sg hm
    have S3 := S2.pos (i' := j + 1) (by omega) (by omega)
    refine nq_aload_n (pc' := 64) d_Mod_condition_63 rfl rfl rfl ?_
    refine nq_dup (pc' := 65) d_Mod_condition_64 rfl rfl ?_
    refine nq_getf (pc' := 68) d_Mod_condition_65 rfl fl_Mod_81 (by first | assumption | exact nq_ga (by assumption) | exact nq_gs (by first | assumption | exact nq_ga (by assumption) | exact nq_gs (by first | assumption | exact nq_gs (by assumption) | exact nq_gn (by first | assumption | decide | omega | exact nq_ne1 (by assumption) (by assumption) | exact nq_ne2 (by assumption) (by assumption)) (by assumption) | exact nq_ga (by assumption)) | exact nq_gn (by first | assumption | decide | omega | exact nq_ne1 (by assumption) (by assumption) | exact nq_ne2 (by assumption) (by assumption)) (by first | assumption | exact nq_gs (by assumption) | exact nq_gn (by first | assumption | decide | omega | exact nq_ne1 (by assumption) (by assumption) | exact nq_ne2 (by assumption) (by assumption)) (by assumption) | exact nq_ga (by assumption))) | exact nq_gn (by first | assumption | decide | omega | exact nq_ne1 (by assumption) (by assumption) | exact nq_ne2 (by assumption) (by assumption)) (by first | assumption | exact nq_ga (by assumption) | exact nq_gs (by first | assumption | exact nq_gs (by assumption) | exact nq_gn (by first | assumption | decide | omega | exact nq_ne1 (by assumption) (by assumption) | exact nq_ne2 (by assumption) (by assumption)) (by assumption) | exact nq_ga (by assumption)) | exact nq_gn (by first | assumption | decide | omega | exact nq_ne1 (by assumption) (by assumption) | exact nq_ne2 (by assumption) (by assumption)) (by first | assumption | exact nq_gs (by assumption) | exact nq_gn (by first | assumption | decide | omega | exact nq_ne1 (by assumption) (by assumption) | exact nq_ne2 (by assumption) (by assumption)) (by assumption) | exact nq_ga (by assumption)))) rfl ?_
    refine nq_iconst (v := 1) (pc' := 69) d_Mod_condition_68 rfl (by decide) ?_
    refine nq_iadd (pc' := 70) d_Mod_condition_69 rfl ?_
    refine nq_putf (pc' := 73) d_Mod_condition_70 rfl fl_Mod_81 (by first | assumption | exact nq_ga (by assumption) | exact nq_gs (by first | assumption | exact nq_ga (by assumption) | exact nq_gs (by first | assumption | exact nq_gs (by assumption) | exact nq_gn (by first | assumption | decide | omega | exact nq_ne1 (by assumption) (by assumption) | exact nq_ne2 (by assumption) (by assumption)) (by assumption) | exact nq_ga (by assumption)) | exact nq_gn (by first | assumption | decide | omega | exact nq_ne1 (by assumption) (by assumption) | exact nq_ne2 (by assumption) (by assumption)) (by first | assumption | exact nq_gs (by assumption) | exact nq_gn (by first | assumption | decide | omega | exact nq_ne1 (by assumption) (by assumption) | exact nq_ne2 (by assumption) (by assumption)) (by assumption) | exact nq_ga (by assumption))) | exact nq_gn (by first | assumption | decide | omega | exact nq_ne1 (by assumption) (by assumption) | exact nq_ne2 (by assumption) (by assumption)) (by first | assumption | exact nq_ga (by assumption) | exact nq_gs (by first | assumption | exact nq_gs (by assumption) | exact nq_gn (by first | assumption | decide | omega | exact nq_ne1 (by assumption) (by assumption) | exact nq_ne2 (by assumption) (by assumption)) (by assumption) | exact nq_ga (by assumption)) | exact nq_gn (by first | assumption | decide | omega | exact nq_ne1 (by assumption) (by assumption) | exact nq_ne2 (by assumption) (by assumption)) (by first | assumption | exact nq_gs (by assumption) | exact nq_gn (by first | assumption | decide | omega | exact nq_ne1 (by assumption) (by assumption) | exact nq_ne2 (by assumption) (by assumption)) (by assumption) | exact nq_ga (by assumption)))) (Nat.le_of_ble_eq_true rfl) rfl rfl ?_
    rw [s5, nI_1]
    refine nq_gen (P := fun w => nq_J _ _ _ _ _ _ _ _ w _) (fun σ3 hσ3 => ?_)
    replace S3 : mt_S σ3 (upd v2 2 (nI (j + 1))) ar2 L N (sp_nc cols) (j + 1) (out ++ t ++ md c1 ++ [0]) (q + sp_cq acc + sp_q c1) := by rw [hσ3]; exact S3
    have F3 : mo_fr σ σ3 := F2.tr (by rw [hσ3]; exact mo_fr.st (by decide))
    have K3 : mo_kh v ar (upd v2 2 (nI (j + 1))) ar2 := K2.tr (mo_kh.u (by decide))
    have w3 := S3.1.w.1.1
    refine nq_aload_n (pc' := 74) d_Mod_condition_73 rfl rfl rfl ?_
    refine nq_iload_n (pc' := 75) d_Mod_condition_74 rfl rfl rfl ?_
    refine nq_iconst (v := 1) (pc' := 76) d_Mod_condition_75 rfl (by decide) ?_
    refine nq_iadd (pc' := 77) d_Mod_condition_76 rfl ?_
    rw [nI_1]
    refine nq_callV (pc' := 80) d_Mod_condition_77 rfl cl_Mod_128 rfl (by first | assumption | exact nq_ga (by assumption) | exact nq_gs (by first | assumption | exact nq_ga (by assumption) | exact nq_gs (by first | assumption | exact nq_gs (by assumption) | exact nq_gn (by first | assumption | decide | omega | exact nq_ne1 (by assumption) (by assumption) | exact nq_ne2 (by assumption) (by assumption)) (by assumption) | exact nq_ga (by assumption)) | exact nq_gn (by first | assumption | decide | omega | exact nq_ne1 (by assumption) (by assumption) | exact nq_ne2 (by assumption) (by assumption)) (by first | assumption | exact nq_gs (by assumption) | exact nq_gn (by first | assumption | decide | omega | exact nq_ne1 (by assumption) (by assumption) | exact nq_ne2 (by assumption) (by assumption)) (by assumption) | exact nq_ga (by assumption))) | exact nq_gn (by first | assumption | decide | omega | exact nq_ne1 (by assumption) (by assumption) | exact nq_ne2 (by assumption) (by assumption)) (by first | assumption | exact nq_ga (by assumption) | exact nq_gs (by first | assumption | exact nq_gs (by assumption) | exact nq_gn (by first | assumption | decide | omega | exact nq_ne1 (by assumption) (by assumption) | exact nq_ne2 (by assumption) (by assumption)) (by assumption) | exact nq_ga (by assumption)) | exact nq_gn (by first | assumption | decide | omega | exact nq_ne1 (by assumption) (by assumption) | exact nq_ne2 (by assumption) (by assumption)) (by first | assumption | exact nq_gs (by assumption) | exact nq_gn (by first | assumption | decide | omega | exact nq_ne1 (by assumption) (by assumption) | exact nq_ne2 (by assumption) (by assumption)) (by assumption) | exact nq_ga (by assumption)))) rfl rfl (kc := 0) (ks := 0) (mc' := 0) (ms' := 0) (As := [.int (nI (1612 + 4 * acc.length + 1))]) (rest := []) rfl rfl (by decide) (k_Mod_ex (r := 8) S3 hc hD (by omega) (by omega)) (fun E σ2 hq => ?_) (fun z σ4 hq => ?_)
    · obtain ⟨_, _, _, _, hq⟩ := hq
      cases hx : sp_expr L cols 8 (j + 1) with
      | inl p => rw [hx] at hq; cases hq.1
      | inr w => rw [hx] at hq; cases hq.1
    obtain ⟨f4, v4, ar4, k4, hq⟩ := hq
    have hk4 : ∀ j, j < 70 → j ≠ 13 + 4 * acc.length → mo_hd ar4 j = mo_hd ar2 j := fun j hj hn => k4.2.2 (1600 + j) (by omega) (by omega)
    cases hx2 : sp_expr L cols 8 (j + 1) with
    | inl p =>
      rw [hx2] at hq
      obtain ⟨e1, hf⟩ := hq
      cases e1
      refine nq_if_ne (pc' := 83) (tgt := 85) d_Mod_condition_80 rfl (by decide) (fun h => absurd rfl h) (fun _ => ?_)
      refine nq_iconst (v := 0) (pc' := 84) d_Mod_condition_83 rfl (by decide) ?_
      refine nq_iret d_Mod_condition_84 rfl rfl ⟨F3.tr f4, v4, ar4, K3.tr (k4.h (by omega)), fun j hj hn => by rw [hk4 j (by omega) (by omega)]; exact H2 j hj hn, rfl, hf⟩
    | inr w2 =>
    obtain ⟨c2, j2⟩ := w2
    rw [hx2] at hq
    obtain ⟨e1, e4, S4⟩ := hq
    cases e1
    simp only
    obtain ⟨r1, r2, r3, _, _⟩ := sp_expr_b hLt hc (by omega) hx2
    obtain ⟨⟨ops4, hp4⟩, n1, n2, n3'⟩ := id S4
    have w4 := hp4.1.1
    have b1 := hp4.1.2.2.1
    have F4 := F3.tr f4
    have K4 := K3.tr (k4.h (by omega))
    have H4 : ∀ j, j < 12 → j ≠ 8 → mo_hd ar4 j = mo_hd ar j := fun j hj hn => by rw [hk4 j (by omega) (by omega)]; exact H2 j hj hn
    have hd8' : ar4 1 1608 = nI acc.length := ((hk4 8 (by decide) (by omega)).trans (hk2 8 (by decide) (by omega))).trans hd8
    have ix2 : nI (1612 + 4 * acc.length) + 2 = nI (1614 + 4 * acc.length) := by
      rw [show (2 : Int32) = nI 2 from rfl, nI_add]
      congr 1
      omega
    have ix3 : nI (1612 + 4 * acc.length) + 3 = nI (1615 + 4 * acc.length) := by
      rw [show (3 : Int32) = nI 3 from rfl, nI_add]
      congr 1
      omega
    refine nq_if_ne (pc' := 83) (tgt := 85) d_Mod_condition_80 rfl (by decide) (fun _ => ?_) (fun h => absurd h (by decide))
    refine nq_aload_n (pc' := 86) d_Mod_condition_85 rfl rfl rfl ?_
    refine nq_getf (pc' := 89) d_Mod_condition_86 rfl fl_Mod_13 (by first | assumption | exact nq_ga (by assumption) | exact nq_gs (by first | assumption | exact nq_ga (by assumption) | exact nq_gs (by first | assumption | exact nq_gs (by assumption) | exact nq_gn (by first | assumption | decide | omega | exact nq_ne1 (by assumption) (by assumption) | exact nq_ne2 (by assumption) (by assumption)) (by assumption) | exact nq_ga (by assumption)) | exact nq_gn (by first | assumption | decide | omega | exact nq_ne1 (by assumption) (by assumption) | exact nq_ne2 (by assumption) (by assumption)) (by first | assumption | exact nq_gs (by assumption) | exact nq_gn (by first | assumption | decide | omega | exact nq_ne1 (by assumption) (by assumption) | exact nq_ne2 (by assumption) (by assumption)) (by assumption) | exact nq_ga (by assumption))) | exact nq_gn (by first | assumption | decide | omega | exact nq_ne1 (by assumption) (by assumption) | exact nq_ne2 (by assumption) (by assumption)) (by first | assumption | exact nq_ga (by assumption) | exact nq_gs (by first | assumption | exact nq_gs (by assumption) | exact nq_gn (by first | assumption | decide | omega | exact nq_ne1 (by assumption) (by assumption) | exact nq_ne2 (by assumption) (by assumption)) (by assumption) | exact nq_ga (by assumption)) | exact nq_gn (by first | assumption | decide | omega | exact nq_ne1 (by assumption) (by assumption) | exact nq_ne2 (by assumption) (by assumption)) (by first | assumption | exact nq_gs (by assumption) | exact nq_gn (by first | assumption | decide | omega | exact nq_ne1 (by assumption) (by assumption) | exact nq_ne2 (by assumption) (by assumption)) (by assumption) | exact nq_ga (by assumption)))) rfl ?_
    refine nq_iload_n (pc' := 90) d_Mod_condition_89 rfl rfl rfl ?_
    refine nq_iconst (v := 2) (pc' := 91) d_Mod_condition_90 rfl (by decide) ?_
    refine nq_iadd (pc' := 92) d_Mod_condition_91 rfl ?_
    refine nq_iload_n (pc' := 93) d_Mod_condition_92 rfl rfl rfl ?_
    refine nq_iast (pc' := 94) d_Mod_condition_93 rfl (by first | assumption | exact nq_ga (by assumption) | exact nq_gs (by first | assumption | exact nq_ga (by assumption) | exact nq_gs (by first | assumption | exact nq_gs (by assumption) | exact nq_gn (by first | assumption | decide | omega | exact nq_ne1 (by assumption) (by assumption) | exact nq_ne2 (by assumption) (by assumption)) (by assumption) | exact nq_ga (by assumption)) | exact nq_gn (by first | assumption | decide | omega | exact nq_ne1 (by assumption) (by assumption) | exact nq_ne2 (by assumption) (by assumption)) (by first | assumption | exact nq_gs (by assumption) | exact nq_gn (by first | assumption | decide | omega | exact nq_ne1 (by assumption) (by assumption) | exact nq_ne2 (by assumption) (by assumption)) (by assumption) | exact nq_ga (by assumption))) | exact nq_gn (by first | assumption | decide | omega | exact nq_ne1 (by assumption) (by assumption) | exact nq_ne2 (by assumption) (by assumption)) (by first | assumption | exact nq_ga (by assumption) | exact nq_gs (by first | assumption | exact nq_gs (by assumption) | exact nq_gn (by first | assumption | decide | omega | exact nq_ne1 (by assumption) (by assumption) | exact nq_ne2 (by assumption) (by assumption)) (by assumption) | exact nq_ga (by assumption)) | exact nq_gn (by first | assumption | decide | omega | exact nq_ne1 (by assumption) (by assumption) | exact nq_ne2 (by assumption) (by assumption)) (by first | assumption | exact nq_gs (by assumption) | exact nq_gn (by first | assumption | decide | omega | exact nq_ne1 (by assumption) (by assumption) | exact nq_ne2 (by assumption) (by assumption)) (by assumption) | exact nq_ga (by assumption)))) rfl (j := 1614 + 4 * acc.length) ix2 (by omega) (by decide) ?_
    refine nq_gen (P := fun w => nq_J _ _ _ _ _ _ _ _ w _) (fun σ5 hσ5 => ?_)
    have S5 := S4.hd (f := upd (ar4 1) (1614 + 4 * acc.length) (nI (L j))) (fun j hj => upd_ne (by omega))
    rw [← hσ5] at S5
    have F5 : mo_fr σ σ5 := F4.tr (by rw [hσ5]; exact mo_fr.st (by decide))
    obtain ⟨⟨ops5, hp5⟩, _⟩ := id S5
    have w5 := hp5.1.1
    have b5 := hp5.1.2.2.1
    rw [ua_at] at b5
    refine nq_aload_n (pc' := 95) d_Mod_condition_94 rfl rfl rfl ?_
    refine nq_getf (pc' := 98) d_Mod_condition_95 rfl fl_Mod_13 (by first | assumption | exact nq_ga (by assumption) | exact nq_gs (by first | assumption | exact nq_ga (by assumption) | exact nq_gs (by first | assumption | exact nq_gs (by assumption) | exact nq_gn (by first | assumption | decide | omega | exact nq_ne1 (by assumption) (by assumption) | exact nq_ne2 (by assumption) (by assumption)) (by assumption) | exact nq_ga (by assumption)) | exact nq_gn (by first | assumption | decide | omega | exact nq_ne1 (by assumption) (by assumption) | exact nq_ne2 (by assumption) (by assumption)) (by first | assumption | exact nq_gs (by assumption) | exact nq_gn (by first | assumption | decide | omega | exact nq_ne1 (by assumption) (by assumption) | exact nq_ne2 (by assumption) (by assumption)) (by assumption) | exact nq_ga (by assumption))) | exact nq_gn (by first | assumption | decide | omega | exact nq_ne1 (by assumption) (by assumption) | exact nq_ne2 (by assumption) (by assumption)) (by first | assumption | exact nq_ga (by assumption) | exact nq_gs (by first | assumption | exact nq_gs (by assumption) | exact nq_gn (by first | assumption | decide | omega | exact nq_ne1 (by assumption) (by assumption) | exact nq_ne2 (by assumption) (by assumption)) (by assumption) | exact nq_ga (by assumption)) | exact nq_gn (by first | assumption | decide | omega | exact nq_ne1 (by assumption) (by assumption) | exact nq_ne2 (by assumption) (by assumption)) (by first | assumption | exact nq_gs (by assumption) | exact nq_gn (by first | assumption | decide | omega | exact nq_ne1 (by assumption) (by assumption) | exact nq_ne2 (by assumption) (by assumption)) (by assumption) | exact nq_ga (by assumption)))) rfl ?_
    refine nq_iload_n (pc' := 99) d_Mod_condition_98 rfl rfl rfl ?_
    refine nq_iconst (v := 3) (pc' := 100) d_Mod_condition_99 rfl (by decide) ?_
    refine nq_iadd (pc' := 101) d_Mod_condition_100 rfl ?_
    refine nq_aload_n (pc' := 102) d_Mod_condition_101 rfl rfl rfl ?_
    refine nq_callVR (pc' := 105) d_Mod_condition_102 rfl cl_Mod_84 rfl (by first | assumption | exact nq_ga (by assumption) | exact nq_gs (by first | assumption | exact nq_ga (by assumption) | exact nq_gs (by first | assumption | exact nq_gs (by assumption) | exact nq_gn (by first | assumption | decide | omega | exact nq_ne1 (by assumption) (by assumption) | exact nq_ne2 (by assumption) (by assumption)) (by assumption) | exact nq_ga (by assumption)) | exact nq_gn (by first | assumption | decide | omega | exact nq_ne1 (by assumption) (by assumption) | exact nq_ne2 (by assumption) (by assumption)) (by first | assumption | exact nq_gs (by assumption) | exact nq_gn (by first | assumption | decide | omega | exact nq_ne1 (by assumption) (by assumption) | exact nq_ne2 (by assumption) (by assumption)) (by assumption) | exact nq_ga (by assumption))) | exact nq_gn (by first | assumption | decide | omega | exact nq_ne1 (by assumption) (by assumption) | exact nq_ne2 (by assumption) (by assumption)) (by first | assumption | exact nq_ga (by assumption) | exact nq_gs (by first | assumption | exact nq_gs (by assumption) | exact nq_gn (by first | assumption | decide | omega | exact nq_ne1 (by assumption) (by assumption) | exact nq_ne2 (by assumption) (by assumption)) (by assumption) | exact nq_ga (by assumption)) | exact nq_gn (by first | assumption | decide | omega | exact nq_ne1 (by assumption) (by assumption) | exact nq_ne2 (by assumption) (by assumption)) (by first | assumption | exact nq_gs (by assumption) | exact nq_gn (by first | assumption | decide | omega | exact nq_ne1 (by assumption) (by assumption) | exact nq_ne2 (by assumption) (by assumption)) (by assumption) | exact nq_ga (by assumption)))) rfl rfl (kc := 0) (ks := 0) (mc' := 0) (ms' := 0) (As := []) (rest := [.int (nI (1612 + 4 * acc.length) + 3), .ref 272]) rfl rfl (Nat.le_of_ble_eq_true rfl) (k_Mod_look hp5 (by omega)) ?_
    refine nq_bipush (v := 38) (pc' := 107) d_Mod_condition_105 rfl (by decide) ?_
    have fin : ∀ (en : Bool), en = decide (L j2 ≠ 38) → nq_J G (d + 1) 0 0 m_Mod_condition 115 [some (.ref 270), some (.int (nI 1600)), some (.int (nI (1612 + 4 * acc.length))), some (.int (nI (L j)))] [.int (if en then 1 else 0), .int (nI (1612 + 4 * acc.length) + 3), .ref 272] σ5 (mc_Q σ v ar L N (sp_nc cols) q out (if L j2 ∈ tx 19 then sp_conds L cols F (acc ++ [(c1, (tx 17).idxOf (L j), c2, decide (L j2 ≠ 38))]) (j2 + 1)
          else if L j2 = 93 then .inr (acc ++ [(c1, (tx 17).idxOf (L j), c2, true)], j2 + 1)
          else .inl j2)) := by
      intro en hen
      refine nq_iast (pc' := 116) d_Mod_condition_115 rfl (by first | assumption | exact nq_ga (by assumption) | exact nq_gs (by first | assumption | exact nq_ga (by assumption) | exact nq_gs (by first | assumption | exact nq_gs (by assumption) | exact nq_gn (by first | assumption | decide | omega | exact nq_ne1 (by assumption) (by assumption) | exact nq_ne2 (by assumption) (by assumption)) (by assumption) | exact nq_ga (by assumption)) | exact nq_gn (by first | assumption | decide | omega | exact nq_ne1 (by assumption) (by assumption) | exact nq_ne2 (by assumption) (by assumption)) (by first | assumption | exact nq_gs (by assumption) | exact nq_gn (by first | assumption | decide | omega | exact nq_ne1 (by assumption) (by assumption) | exact nq_ne2 (by assumption) (by assumption)) (by assumption) | exact nq_ga (by assumption))) | exact nq_gn (by first | assumption | decide | omega | exact nq_ne1 (by assumption) (by assumption) | exact nq_ne2 (by assumption) (by assumption)) (by first | assumption | exact nq_ga (by assumption) | exact nq_gs (by first | assumption | exact nq_gs (by assumption) | exact nq_gn (by first | assumption | decide | omega | exact nq_ne1 (by assumption) (by assumption) | exact nq_ne2 (by assumption) (by assumption)) (by assumption) | exact nq_ga (by assumption)) | exact nq_gn (by first | assumption | decide | omega | exact nq_ne1 (by assumption) (by assumption) | exact nq_ne2 (by assumption) (by assumption)) (by first | assumption | exact nq_gs (by assumption) | exact nq_gn (by first | assumption | decide | omega | exact nq_ne1 (by assumption) (by assumption) | exact nq_ne2 (by assumption) (by assumption)) (by assumption) | exact nq_ga (by assumption)))) rfl (j := 1615 + 4 * acc.length) ix3 (by omega) (by decide) ?_
      refine nq_aload_n (pc' := 117) d_Mod_condition_116 rfl rfl rfl ?_
      refine nq_getf (pc' := 120) d_Mod_condition_117 rfl fl_Mod_13 (by first | assumption | exact nq_ga (by assumption) | exact nq_gs (by first | assumption | exact nq_ga (by assumption) | exact nq_gs (by first | assumption | exact nq_gs (by assumption) | exact nq_gn (by first | assumption | decide | omega | exact nq_ne1 (by assumption) (by assumption) | exact nq_ne2 (by assumption) (by assumption)) (by assumption) | exact nq_ga (by assumption)) | exact nq_gn (by first | assumption | decide | omega | exact nq_ne1 (by assumption) (by assumption) | exact nq_ne2 (by assumption) (by assumption)) (by first | assumption | exact nq_gs (by assumption) | exact nq_gn (by first | assumption | decide | omega | exact nq_ne1 (by assumption) (by assumption) | exact nq_ne2 (by assumption) (by assumption)) (by assumption) | exact nq_ga (by assumption))) | exact nq_gn (by first | assumption | decide | omega | exact nq_ne1 (by assumption) (by assumption) | exact nq_ne2 (by assumption) (by assumption)) (by first | assumption | exact nq_ga (by assumption) | exact nq_gs (by first | assumption | exact nq_gs (by assumption) | exact nq_gn (by first | assumption | decide | omega | exact nq_ne1 (by assumption) (by assumption) | exact nq_ne2 (by assumption) (by assumption)) (by assumption) | exact nq_ga (by assumption)) | exact nq_gn (by first | assumption | decide | omega | exact nq_ne1 (by assumption) (by assumption) | exact nq_ne2 (by assumption) (by assumption)) (by first | assumption | exact nq_gs (by assumption) | exact nq_gn (by first | assumption | decide | omega | exact nq_ne1 (by assumption) (by assumption) | exact nq_ne2 (by assumption) (by assumption)) (by assumption) | exact nq_ga (by assumption)))) rfl ?_
      refine nq_iload_n (pc' := 121) d_Mod_condition_120 rfl rfl rfl ?_
      refine nq_bipush (v := 8) (pc' := 123) d_Mod_condition_121 rfl (by decide) ?_
      refine nq_iadd (pc' := 124) d_Mod_condition_123 rfl ?_
      refine nq_dup2 (pc' := 125) d_Mod_condition_124 rfl rfl rfl ?_
      refine nq_iald (pc' := 126) d_Mod_condition_125 rfl (by first | assumption | exact nq_ga (by assumption) | exact nq_gs (by first | assumption | exact nq_ga (by assumption) | exact nq_gs (by first | assumption | exact nq_gs (by assumption) | exact nq_gn (by first | assumption | decide | omega | exact nq_ne1 (by assumption) (by assumption) | exact nq_ne2 (by assumption) (by assumption)) (by assumption) | exact nq_ga (by assumption)) | exact nq_gn (by first | assumption | decide | omega | exact nq_ne1 (by assumption) (by assumption) | exact nq_ne2 (by assumption) (by assumption)) (by first | assumption | exact nq_gs (by assumption) | exact nq_gn (by first | assumption | decide | omega | exact nq_ne1 (by assumption) (by assumption) | exact nq_ne2 (by assumption) (by assumption)) (by assumption) | exact nq_ga (by assumption))) | exact nq_gn (by first | assumption | decide | omega | exact nq_ne1 (by assumption) (by assumption) | exact nq_ne2 (by assumption) (by assumption)) (by first | assumption | exact nq_ga (by assumption) | exact nq_gs (by first | assumption | exact nq_gs (by assumption) | exact nq_gn (by first | assumption | decide | omega | exact nq_ne1 (by assumption) (by assumption) | exact nq_ne2 (by assumption) (by assumption)) (by assumption) | exact nq_ga (by assumption)) | exact nq_gn (by first | assumption | decide | omega | exact nq_ne1 (by assumption) (by assumption) | exact nq_ne2 (by assumption) (by assumption)) (by first | assumption | exact nq_gs (by assumption) | exact nq_gn (by first | assumption | decide | omega | exact nq_ne1 (by assumption) (by assumption) | exact nq_ne2 (by assumption) (by assumption)) (by assumption) | exact nq_ga (by assumption)))) rfl (j := 1608) (by decide) (by decide) (by decide) ?_
      rw [upd_ne (by omega), upd_ne (by omega), hd8']
      refine nq_iconst (v := 1) (pc' := 127) d_Mod_condition_126 rfl (by decide) ?_
      refine nq_iadd (pc' := 128) d_Mod_condition_127 rfl ?_
      refine nq_iast (pc' := 129) d_Mod_condition_128 rfl (by first | assumption | exact nq_ga (by assumption) | exact nq_gs (by first | assumption | exact nq_ga (by assumption) | exact nq_gs (by first | assumption | exact nq_gs (by assumption) | exact nq_gn (by first | assumption | decide | omega | exact nq_ne1 (by assumption) (by assumption) | exact nq_ne2 (by assumption) (by assumption)) (by assumption) | exact nq_ga (by assumption)) | exact nq_gn (by first | assumption | decide | omega | exact nq_ne1 (by assumption) (by assumption) | exact nq_ne2 (by assumption) (by assumption)) (by first | assumption | exact nq_gs (by assumption) | exact nq_gn (by first | assumption | decide | omega | exact nq_ne1 (by assumption) (by assumption) | exact nq_ne2 (by assumption) (by assumption)) (by assumption) | exact nq_ga (by assumption))) | exact nq_gn (by first | assumption | decide | omega | exact nq_ne1 (by assumption) (by assumption) | exact nq_ne2 (by assumption) (by assumption)) (by first | assumption | exact nq_ga (by assumption) | exact nq_gs (by first | assumption | exact nq_gs (by assumption) | exact nq_gn (by first | assumption | decide | omega | exact nq_ne1 (by assumption) (by assumption) | exact nq_ne2 (by assumption) (by assumption)) (by assumption) | exact nq_ga (by assumption)) | exact nq_gn (by first | assumption | decide | omega | exact nq_ne1 (by assumption) (by assumption) | exact nq_ne2 (by assumption) (by assumption)) (by first | assumption | exact nq_gs (by assumption) | exact nq_gn (by first | assumption | decide | omega | exact nq_ne1 (by assumption) (by assumption) | exact nq_ne2 (by assumption) (by assumption)) (by assumption) | exact nq_ga (by assumption)))) rfl (j := 1608) (by decide) (by decide) (by decide) ?_
      rw [nI_1, nq_ss]
      have S6 := S4.hd (f := upd (upd (upd (ar4 1) (1614 + 4 * acc.length) (nI (L j))) (1615 + 4 * acc.length) (if en then 1 else 0)) 1608 (nI (acc.length + 1))) (fun j hj => by rw [upd_ne (by omega), upd_ne (by omega), upd_ne (by omega)])
      have e56 : σ5.set 272 (.inl (0, 2000, .inl (upd (upd (upd (ar4 1) (1614 + 4 * acc.length) (nI (L j))) (1615 + 4 * acc.length) (if en then 1 else 0)) 1608 (nI (acc.length + 1))))) = σ4.set 272 (.inl (0, 2000, .inl (upd (upd (upd (ar4 1) (1614 + 4 * acc.length) (nI (L j))) (1615 + 4 * acc.length) (if en then 1 else 0)) 1608 (nI (acc.length + 1))))) := by rw [hσ5, nq_ss]
      rw [e56]
      generalize hff : upd (upd (upd (ar4 1) (1614 + 4 * acc.length) (nI (L j))) (1615 + 4 * acc.length) (if en then 1 else 0)) 1608 (nI (acc.length + 1)) = ff at S6 ⊢
      refine nq_gen (P := fun w => nq_J _ _ _ _ _ _ _ _ w _) (fun σ6 hσ6 => ?_)
      rw [← hσ6] at S6
      have F6 : mo_fr σ σ6 := F4.tr (by rw [hσ6]; exact mo_fr.st (by decide))
      have K6 : mo_kh v ar v4 (ua ar4 1 ff) := K4.tr (mo_kh.c (fun j hj => by rw [← hff, upd_ne (by omega), upd_ne (by omega), upd_ne (by omega)]))
      have hk6 : ∀ j, j < 70 → j ≠ 8 → j ≠ 14 + 4 * acc.length → j ≠ 15 + 4 * acc.length → mo_hd (ua ar4 1 ff) j = mo_hd ar4 j := fun j hj a b c => by
        unfold mo_hd
        rw [ua_at, ← hff, upd_ne (by omega), upd_ne (by omega), upd_ne (by omega)]
      have H6 : ∀ j, j < 12 → j ≠ 8 → mo_hd (ua ar4 1 ff) j = mo_hd ar j := fun j hj hn => by
        rw [hk6 j (by omega) hn (by omega) (by omega)]
        exact H4 j hj hn
      have e0 : out ++ t ++ md c1 ++ [0] ++ md c2 ++ [0] = out ++ (t ++ md c1 ++ [0] ++ md c2 ++ [0]) := by simp only [List.append_assoc]
      have V6 : mv_cs (mo_hd (ua ar4 1 ff)) (out ++ (t ++ md c1 ++ [0] ++ md c2 ++ [0])) (acc ++ [(c1, (tx 17).idxOf (L j), c2, en)]) := by
        refine ⟨?_, fun k x hk => ?_⟩
        · unfold mo_hd
          rw [ua_at, ← hff, upd_at, List.length_append]
          rfl
        · by_cases hkk : k = acc.length
          · subst hkk
            rw [List.getElem?_append_right (Nat.le_refl _), Nat.sub_self] at hk
            cases hk
            refine ⟨(out ++ t).length, (out ++ t ++ md c1 ++ [0]).length, ?_, ?_, ?_, ?_, ?_, ?_⟩
            · rw [hk6 _ (by omega) (by omega) (by omega) (by omega), hk4 _ (by omega) (by omega)]
              unfold mo_hd
              rw [show 1600 + (12 + 4 * acc.length) = 1612 + 4 * acc.length from by omega]
              exact e2
            · rw [← e0, List.append_assoc (out ++ t ++ md c1 ++ [0])]
              exact mv_at.new.app
            · rw [hk6 _ (by omega) (by omega) (by omega) (by omega)]
              unfold mo_hd
              rw [show 1600 + (13 + 4 * acc.length) = 1612 + 4 * acc.length + 1 from by omega]
              exact e4
            · rw [← e0]
              exact mv_at.new
            · unfold mo_hd
              rw [ua_at, ← hff, upd_ne (by omega), upd_ne (by omega), show 1600 + (14 + 4 * acc.length) = 1614 + 4 * acc.length from by omega, upd_at]
              exact congrArg nI sg
            · unfold mo_hd
              rw [ua_at, ← hff, upd_ne (by omega), show 1600 + (15 + 4 * acc.length) = 1615 + 4 * acc.length from by omega, upd_at]
          · have hl := (List.getElem?_eq_some_iff.mp hk).1
            simp only [List.length_append, List.length_cons, List.length_nil] at hl
            rw [List.getElem?_append_left (by omega)] at hk
            have := V1.2 k x hk
            rw [← e0, List.append_assoc (out ++ t ++ md c1), List.append_assoc (out ++ t ++ md c1), List.append_assoc (out ++ t)]
            exact this.of (fun j a b => by rw [hk6 _ (by omega) (by omega) (by omega) (by omega), hk4 _ (by omega) (by omega), hk2 _ (by omega) (by omega)])
      rw [e0] at S6
      have eq2 : q + sp_cq acc + sp_q c1 + sp_q c2 = q + sp_cq (acc ++ [(c1, (tx 17).idxOf (L j), c2, en)]) := by
        rw [sp_cq_app]
        simp only [Nat.add_assoc]
      rw [eq2] at S6
      obtain ⟨⟨ops6, hp6⟩, _⟩ := id S6
      have w6 := hp6.1.1
      refine nq_aload_n (pc' := 130) d_Mod_condition_129 rfl rfl rfl ?_
      refine nq_bipush (v := 93) (pc' := 132) d_Mod_condition_130 rfl (by decide) ?_
      refine nq_callVR (pc' := 135) d_Mod_condition_132 rfl cl_Mod_124 rfl (by first | assumption | exact nq_ga (by assumption) | exact nq_gs (by first | assumption | exact nq_ga (by assumption) | exact nq_gs (by first | assumption | exact nq_gs (by assumption) | exact nq_gn (by first | assumption | decide | omega | exact nq_ne1 (by assumption) (by assumption) | exact nq_ne2 (by assumption) (by assumption)) (by assumption) | exact nq_ga (by assumption)) | exact nq_gn (by first | assumption | decide | omega | exact nq_ne1 (by assumption) (by assumption) | exact nq_ne2 (by assumption) (by assumption)) (by first | assumption | exact nq_gs (by assumption) | exact nq_gn (by first | assumption | decide | omega | exact nq_ne1 (by assumption) (by assumption) | exact nq_ne2 (by assumption) (by assumption)) (by assumption) | exact nq_ga (by assumption))) | exact nq_gn (by first | assumption | decide | omega | exact nq_ne1 (by assumption) (by assumption) | exact nq_ne2 (by assumption) (by assumption)) (by first | assumption | exact nq_ga (by assumption) | exact nq_gs (by first | assumption | exact nq_gs (by assumption) | exact nq_gn (by first | assumption | decide | omega | exact nq_ne1 (by assumption) (by assumption) | exact nq_ne2 (by assumption) (by assumption)) (by assumption) | exact nq_ga (by assumption)) | exact nq_gn (by first | assumption | decide | omega | exact nq_ne1 (by assumption) (by assumption) | exact nq_ne2 (by assumption) (by assumption)) (by first | assumption | exact nq_gs (by assumption) | exact nq_gn (by first | assumption | decide | omega | exact nq_ne1 (by assumption) (by assumption) | exact nq_ne2 (by assumption) (by assumption)) (by assumption) | exact nq_ga (by assumption)))) rfl rfl (kc := 0) (ks := 0) (mc' := 0) (ms' := 0) (As := [.int (nI 93)]) (rest := []) rfl rfl (by decide) (k_Mod_passes (c := 93) hp6 (by omega) (by decide) (by omega)) ?_
      by_cases e93 : L j2 = 93
      · have n19 : L j2 ∉ tx 19 := by rw [e93]; decide
        have hj2' := hLt j2 (by omega)
        have en1 : en = true := by rw [hen, e93]; rfl
        rw [if_pos e93, if_pos e93, if_neg n19, if_pos e93]
        refine nq_if_eq (pc' := 138) (tgt := 140) d_Mod_condition_135 rfl (by decide) (fun h => absurd h (by decide)) (fun _ => ?_)
        refine nq_iconst (v := 1) (pc' := 139) d_Mod_condition_138 rfl (by decide) ?_
        rw [en1] at S6 V6
        refine nq_iret d_Mod_condition_139 rfl rfl ⟨F6.tr (mo_fr.st (by decide)), upd v4 2 (nI (j2 + 1)), _, K6.tr (mo_kh.u (by decide)), H6, rfl, _, S6.pos (by omega) (by omega), V6⟩
      · rw [if_neg e93, if_neg e93, if_neg e93]
        refine nq_if_eq (pc' := 138) (tgt := 140) d_Mod_condition_135 rfl (by decide) (fun _ => ?_) (fun h => absurd rfl h)
        refine nq_aload_n (pc' := 141) d_Mod_condition_140 rfl rfl rfl ?_
        refine nq_bipush (v := 38) (pc' := 143) d_Mod_condition_141 rfl (by decide) ?_
        refine nq_callVR (pc' := 146) d_Mod_condition_143 rfl cl_Mod_124 rfl (by first | assumption | exact nq_ga (by assumption) | exact nq_gs (by first | assumption | exact nq_ga (by assumption) | exact nq_gs (by first | assumption | exact nq_gs (by assumption) | exact nq_gn (by first | assumption | decide | omega | exact nq_ne1 (by assumption) (by assumption) | exact nq_ne2 (by assumption) (by assumption)) (by assumption) | exact nq_ga (by assumption)) | exact nq_gn (by first | assumption | decide | omega | exact nq_ne1 (by assumption) (by assumption) | exact nq_ne2 (by assumption) (by assumption)) (by first | assumption | exact nq_gs (by assumption) | exact nq_gn (by first | assumption | decide | omega | exact nq_ne1 (by assumption) (by assumption) | exact nq_ne2 (by assumption) (by assumption)) (by assumption) | exact nq_ga (by assumption))) | exact nq_gn (by first | assumption | decide | omega | exact nq_ne1 (by assumption) (by assumption) | exact nq_ne2 (by assumption) (by assumption)) (by first | assumption | exact nq_ga (by assumption) | exact nq_gs (by first | assumption | exact nq_gs (by assumption) | exact nq_gn (by first | assumption | decide | omega | exact nq_ne1 (by assumption) (by assumption) | exact nq_ne2 (by assumption) (by assumption)) (by assumption) | exact nq_ga (by assumption)) | exact nq_gn (by first | assumption | decide | omega | exact nq_ne1 (by assumption) (by assumption) | exact nq_ne2 (by assumption) (by assumption)) (by first | assumption | exact nq_gs (by assumption) | exact nq_gn (by first | assumption | decide | omega | exact nq_ne1 (by assumption) (by assumption) | exact nq_ne2 (by assumption) (by assumption)) (by assumption) | exact nq_ga (by assumption)))) rfl rfl (kc := 0) (ks := 0) (mc' := 0) (ms' := 0) (As := [.int (nI 38)]) (rest := []) rfl rfl (by decide) (k_Mod_passes (c := 38) hp6 (by omega) (by decide) (by omega)) ?_
        have again : L j2 ∈ tx 19 → nq_J G (d + 1) 0 0 m_Mod_condition 160 [some (.ref 270), some (.int (nI 1600)), some (.int (nI (1612 + 4 * acc.length))), some (.int (nI (L j)))] [] (σ6.set 270 (mo_F (upd v4 2 (nI (j2 + 1))))) (mc_Q σ v ar L N (sp_nc cols) q out (if L j2 ∈ tx 19 then sp_conds L cols F (acc ++ [(c1, (tx 17).idxOf (L j), c2, decide (L j2 ≠ 38))]) (j2 + 1) else .inl j2)) := by
          intro h19
          have hj2' := hLt j2 (tx_n0 h19)
          rw [if_pos h19]
          refine nq_goto (tgt := 11) d_Mod_condition_160 (by decide) ?_
          refine nq_J.fo 2 (nq_J.fo 3 ?_)
          rw [← hen]
          exact ih F rfl (j2 + 1) _ (t ++ md c1 ++ [0] ++ md c2 ++ [0]) _ _ _ (by omega) (by rw [List.length_append]; simp only [List.length_cons, List.length_nil]; omega) (S6.pos (by omega) (by omega)) V6 (F6.tr (mo_fr.st (by decide))) (K6.tr (mo_kh.u (by decide))) H6
        by_cases e38 : L j2 = 38
        · rw [if_pos e38, if_pos e38]
          refine nq_if_ne (pc' := 149) (tgt := 160) d_Mod_condition_146 rfl (by decide) (fun _ => again (by rw [e38]; decide)) (fun h => absurd h (by decide))
        · rw [if_neg e38, if_neg e38]
          refine nq_if_ne (pc' := 149) (tgt := 160) d_Mod_condition_146 rfl (by decide) (fun h => absurd rfl h) (fun _ => ?_)
          refine nq_aload_n (pc' := 150) d_Mod_condition_149 rfl rfl rfl ?_
          refine nq_bipush (v := 124) (pc' := 152) d_Mod_condition_150 rfl (by decide) ?_
          refine nq_callVR (pc' := 155) d_Mod_condition_152 rfl cl_Mod_124 rfl (by first | assumption | exact nq_ga (by assumption) | exact nq_gs (by first | assumption | exact nq_ga (by assumption) | exact nq_gs (by first | assumption | exact nq_gs (by assumption) | exact nq_gn (by first | assumption | decide | omega | exact nq_ne1 (by assumption) (by assumption) | exact nq_ne2 (by assumption) (by assumption)) (by assumption) | exact nq_ga (by assumption)) | exact nq_gn (by first | assumption | decide | omega | exact nq_ne1 (by assumption) (by assumption) | exact nq_ne2 (by assumption) (by assumption)) (by first | assumption | exact nq_gs (by assumption) | exact nq_gn (by first | assumption | decide | omega | exact nq_ne1 (by assumption) (by assumption) | exact nq_ne2 (by assumption) (by assumption)) (by assumption) | exact nq_ga (by assumption))) | exact nq_gn (by first | assumption | decide | omega | exact nq_ne1 (by assumption) (by assumption) | exact nq_ne2 (by assumption) (by assumption)) (by first | assumption | exact nq_ga (by assumption) | exact nq_gs (by first | assumption | exact nq_gs (by assumption) | exact nq_gn (by first | assumption | decide | omega | exact nq_ne1 (by assumption) (by assumption) | exact nq_ne2 (by assumption) (by assumption)) (by assumption) | exact nq_ga (by assumption)) | exact nq_gn (by first | assumption | decide | omega | exact nq_ne1 (by assumption) (by assumption) | exact nq_ne2 (by assumption) (by assumption)) (by first | assumption | exact nq_gs (by assumption) | exact nq_gn (by first | assumption | decide | omega | exact nq_ne1 (by assumption) (by assumption) | exact nq_ne2 (by assumption) (by assumption)) (by assumption) | exact nq_ga (by assumption)))) rfl rfl (kc := 0) (ks := 0) (mc' := 0) (ms' := 0) (As := [.int (nI 124)]) (rest := []) rfl rfl (by decide) (k_Mod_passes (c := 124) hp6 (by omega) (by decide) (by omega)) ?_
          by_cases e124 : L j2 = 124
          · rw [if_pos e124, if_pos e124]
            refine nq_if_ne (pc' := 158) (tgt := 160) d_Mod_condition_155 rfl (by decide) (fun _ => again (by rw [e124]; decide)) (fun h => absurd h (by decide))
          · have n19 : L j2 ∉ tx 19 := fun h => by
              have : ∀ c ∈ tx 19, c = 38 ∨ c = 124 := by decide
              have := this _ h
              omega
            rw [if_neg e124, if_neg e124, if_neg n19]
            refine nq_if_ne (pc' := 158) (tgt := 160) d_Mod_condition_155 rfl (by decide) (fun h => absurd rfl h) (fun _ => ?_)
            refine nq_iconst (v := 0) (pc' := 159) d_Mod_condition_158 rfl (by decide) ?_
            refine nq_iret d_Mod_condition_159 rfl rfl ⟨F6, v4, _, K6, H6, rfl, hp6.1, hp6.2.2.2.2.1⟩
    by_cases e38 : L j2 = 38
    · refine nq_icmp_ne (pc' := 110) (tgt := 114) d_Mod_condition_107 rfl (by decide) (fun h => absurd (by rw [e38]; rfl) h) (fun _ => ?_)
      refine nq_iconst (v := 0) (pc' := 111) d_Mod_condition_110 rfl (by decide) ?_
      refine nq_goto (tgt := 115) d_Mod_condition_111 (by decide) ?_
      exact fin false (by rw [e38]; rfl)
    · refine nq_icmp_ne (pc' := 110) (tgt := 114) d_Mod_condition_107 rfl (by decide) (fun _ => ?_) (fun h => absurd h (kk _ 38 (hl7 j2) (by decide) e38))
      refine nq_iconst (v := 1) (pc' := 115) d_Mod_condition_114 rfl (by decide) ?_
      exact fin true (decide_eq_true e38).symm
  by_cases o1 : L j = 60
  · refine nq_icmp_eq (pc' := 49) (tgt := 63) d_Mod_condition_46 rfl (by decide) (fun _ => yes (tx_sg' (.inl o1))) (fun h => absurd (by rw [o1]; rfl) h)
  refine nq_icmp_eq (pc' := 49) (tgt := 63) d_Mod_condition_46 rfl (by decide) (fun h => absurd h (kk _ 60 (hl7 j) (by decide) o1)) (fun _ => ?_)
  refine nq_iload_n (pc' := 50) d_Mod_condition_49 rfl rfl rfl ?_
  refine nq_bipush (v := 61) (pc' := 52) d_Mod_condition_50 rfl (by decide) ?_
  by_cases o2 : L j = 61
  · refine nq_icmp_eq (pc' := 55) (tgt := 63) d_Mod_condition_52 rfl (by decide) (fun _ => yes (tx_sg' (.inr (.inl o2)))) (fun h => absurd (by rw [o2]; rfl) h)
  refine nq_icmp_eq (pc' := 55) (tgt := 63) d_Mod_condition_52 rfl (by decide) (fun h => absurd h (kk _ 61 (hl7 j) (by decide) o2)) (fun _ => ?_)
  refine nq_iload_n (pc' := 56) d_Mod_condition_55 rfl rfl rfl ?_
  refine nq_bipush (v := 62) (pc' := 58) d_Mod_condition_56 rfl (by decide) ?_
  by_cases o3 : L j = 62
  · refine nq_icmp_eq (pc' := 61) (tgt := 63) d_Mod_condition_58 rfl (by decide) (fun _ => yes (tx_sg' (.inr (.inr o3)))) (fun h => absurd (by rw [o3]; rfl) h)
  refine nq_icmp_eq (pc' := 61) (tgt := 63) d_Mod_condition_58 rfl (by decide) (fun h => absurd h (kk _ 62 (hl7 j) (by decide) o3)) (fun _ => ?_)
  rw [if_neg (fun h => by have := (tx_sg h).2; omega)]
  refine nq_iconst (v := 0) (pc' := 62) d_Mod_condition_61 rfl (by decide) ?_
  refine nq_iret d_Mod_condition_62 rfl rfl ⟨F2, v2, ar2, K2, H2, rfl, hp2.1, s5⟩
theorem mc_all (hc : cols = 0 ∨ cols = 3 ∨ cols = 4) (hD : 5 ≤ d) : ∀ F, mc_P G d σ v ar L N cols q out F := by
  intro F
  induction F with
  | zero => exact mc_step hc hD (fun F' h => absurd h (by omega))
  | succ F ih => exact mc_step hc hD (fun F' h => by cases h; exact ih)
theorem k_Mod_condition {k : Nat} (hk : k ≠ 73) (h : mt_S σ v ar L N (sp_nc cols) i out q) (h0 : mo_hd ar 8 = nI 0) (hi : 1 ≤ i) (hc : cols = 0 ∨ cols = 3 ∨ cols = 4) (hD : 6 ≤ d) : nq_JM G d 0 0 m_Mod_condition [.ref 270, .int (nI 1600)] σ (mc_Q σ v ar L N (sp_nc cols) q out (sp_cond L k cols i)) := by
  obtain ⟨d, rfl⟩ : ∃ d', d = d' + 1 := ⟨d - 1, by omega⟩
  obtain ⟨⟨ops, hp⟩, l1, l2, l3⟩ := id h
  have hN := hp.2.1.1
  have w := hp.1.1
  unfold sp_cond
  refine nq_mk' (lv := [some (.ref 270), some (.int (nI 1600)), none, none]) (by decide +kernel) rfl (Nat.le_of_ble_eq_true rfl) rfl ?_
  refine nq_aload_n (pc' := 1) d_Mod_condition_0 rfl rfl rfl ?_
  refine nq_bipush (v := 91) (pc' := 3) d_Mod_condition_1 rfl (by decide) ?_
  refine nq_callVR (pc' := 6) d_Mod_condition_3 rfl cl_Mod_124 rfl (by first | assumption | exact nq_ga (by assumption) | exact nq_gs (by first | assumption | exact nq_ga (by assumption) | exact nq_gs (by first | assumption | exact nq_gs (by assumption) | exact nq_gn (by first | assumption | decide | omega | exact nq_ne1 (by assumption) (by assumption) | exact nq_ne2 (by assumption) (by assumption)) (by assumption) | exact nq_ga (by assumption)) | exact nq_gn (by first | assumption | decide | omega | exact nq_ne1 (by assumption) (by assumption) | exact nq_ne2 (by assumption) (by assumption)) (by first | assumption | exact nq_gs (by assumption) | exact nq_gn (by first | assumption | decide | omega | exact nq_ne1 (by assumption) (by assumption) | exact nq_ne2 (by assumption) (by assumption)) (by assumption) | exact nq_ga (by assumption))) | exact nq_gn (by first | assumption | decide | omega | exact nq_ne1 (by assumption) (by assumption) | exact nq_ne2 (by assumption) (by assumption)) (by first | assumption | exact nq_ga (by assumption) | exact nq_gs (by first | assumption | exact nq_gs (by assumption) | exact nq_gn (by first | assumption | decide | omega | exact nq_ne1 (by assumption) (by assumption) | exact nq_ne2 (by assumption) (by assumption)) (by assumption) | exact nq_ga (by assumption)) | exact nq_gn (by first | assumption | decide | omega | exact nq_ne1 (by assumption) (by assumption) | exact nq_ne2 (by assumption) (by assumption)) (by first | assumption | exact nq_gs (by assumption) | exact nq_gn (by first | assumption | decide | omega | exact nq_ne1 (by assumption) (by assumption) | exact nq_ne2 (by assumption) (by assumption)) (by assumption) | exact nq_ga (by assumption)))) rfl rfl (kc := 0) (ks := 0) (mc' := 0) (ms' := 0) (As := [.int (nI 91)]) (rest := []) rfl rfl (by decide) (k_Mod_passes (c := 91) hp (by omega) (by decide) (by omega)) ?_
  by_cases e91 : L i = 91
  · have hi' := hp.2.1.lt i (by omega)
    rw [if_pos e91, if_pos e91, if_pos ⟨hk, e91⟩]
    refine nq_if_ne (pc' := 9) (tgt := 11) d_Mod_condition_6 rfl (by decide) (fun _ => ?_) (fun h => absurd h (by decide))
    exact mc_all hc (by omega) 48 (i + 1) [] [] _ _ _ (by omega) (by simp) (by rw [List.append_nil]; exact h.pos (by omega) (by omega)) ⟨h0, fun k c hk => by simp at hk⟩ (mo_fr.st (by decide)) (mo_kh.u (by decide)) (fun _ _ _ => rfl)
  · rw [if_neg e91, if_neg e91, if_neg (fun h => e91 h.2)]
    refine nq_if_ne (pc' := 9) (tgt := 11) d_Mod_condition_6 rfl (by decide) (fun h => absurd rfl h) (fun _ => ?_)
    refine nq_iconst (v := 1) (pc' := 10) d_Mod_condition_9 rfl (by decide) ?_
    refine nq_iret d_Mod_condition_10 rfl rfl ⟨mo_fr.rf, v, ar, mo_kh.rf, fun _ _ _ => rfl, rfl, [], by rw [List.append_nil]; exact h, h0, fun k c hk => by simp at hk⟩
end MC2
