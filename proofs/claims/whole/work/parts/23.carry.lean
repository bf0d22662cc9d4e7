/-! THE MACHINE carries out code -/
theorem nq_fg2 (a b c d e : Value) (x y : Option Value) : ∀ (i : Nat) (v : Value), ([some a, some b, some c, some d, some e, none, none] : List (Option Value))[i]? = some (some v) → ([some a, some b, some c, some d, some e, x, y] : List (Option Value))[i]? = some (some v) := by
  intro i v h
  match i, h with
  | 0, h => exact h
  | 1, h => exact h
  | 2, h => exact h
  | 3, h => exact h
  | 4, h => exact h
  | 5, h => cases h
  | 6, h => cases h
  | k + 7, h => cases h
section MY
variable {G : nq_G} {d : Nat} {σ : nq_S} {m ma c o1 o2 o3 : Nat} {R : Nat → Int32} {L : List nq_In} {H : List Value}
theorem k_Machine_carryOut {fr0 : Nat} (hm : σ[m]? = some (.inr (1, [.ref ma]))) (hr : σ[ma]? = some (.inl (0, 20, .inl R))) (hc : cd_C σ c o1 o2 o3 L H) (hL : ∀ x ∈ L, mc_ok x) (n1 : o1 ≠ ma) (n2 : o2 ≠ ma) (n3 : o3 ≠ ma) (hf : fr0 < 10000) :
    nq_JM G (d + 2) 0 0 m_Machine_carryOut [.ref m, .ref c, .int (nI fr0)] σ (fun o σ' => σ' = σ.set ma (.inl (0, 20, .inl (mc_run L 48 fr0 R).2)) ∧ o = nq_ob (mc_run L 48 fr0 R).1) := by
  obtain ⟨fo, fr, fa, ⟨h1, h2, h3, h4, h5, h6, h7⟩, h8, h9⟩ := hc
  have g1 : m ≠ ma := nq_ne1 hm hr
  have g2 : c ≠ ma := nq_ne1 h1 hr
  refine nq_mk' (lv := [some (.ref m), some (.ref c), some (.int (nI fr0)), none, none, none, none]) (by decide +kernel) rfl (Nat.le_of_ble_eq_true rfl) rfl ?_
  refine nq_iload_n (pc' := 1) d_Machine_carryOut_0 rfl rfl rfl ?_
  refine nq_istore_n (pc' := 2) d_Machine_carryOut_1 rfl rfl (by decide) rfl ?_
  refine nq_iconst (v := 0) (pc' := 3) d_Machine_carryOut_2 rfl (by decide) ?_
  refine nq_istore (pc' := 5) d_Machine_carryOut_3 rfl (by decide) rfl ?_
  have loop : ∀ k s, s + k = 48 → ∀ (a : Nat) (R' : Nat → Int32), a < 10001 → mc_run L k a R' = mc_run L 48 fr0 R → nq_J G (d + 2) 0 0 m_Machine_carryOut 5 [some (.ref m), some (.ref c), some (.int (nI fr0)), some (.int (nI a)), some (.int (nI s)), none, none] [] (σ.set ma (.inl (0, 20, .inl R'))) (fun o σ' => σ' = σ.set ma (.inl (0, 20, .inl (mc_run L 48 fr0 R).2)) ∧ o = nq_ob (mc_run L 48 fr0 R).1) := by
    intro k
    induction k with
    | zero =>
      intro s hs a R' ha he
      refine nq_iload (pc' := 7) d_Machine_carryOut_5 rfl rfl ?_
      refine nq_bipush (v := 48) (pc' := 9) d_Machine_carryOut_7 rfl (by decide) ?_
      refine nq_icmp_ge (pc' := 12) (tgt := 127) d_Machine_carryOut_9 rfl (by decide) (fun h => ?_) (fun h => absurd (by rw [show s = 48 by omega]; exact Int32.le_refl _) h)
      refine nq_iconst (v := 0) (pc' := 128) d_Machine_carryOut_127 rfl (by decide) ?_
      refine nq_iret d_Machine_carryOut_128 rfl rfl ⟨by rw [← he]; rfl, by rw [← he]; rfl⟩
    | succ k ih =>
      intro s hs a R' ha he
      have q1 : (σ.set ma (.inl (0, 20, .inl R')))[m]? = some (.inr (1, [.ref ma])) := nq_gn g1 hm
      have q2 : (σ.set ma (.inl (0, 20, .inl R')))[ma]? = some (.inl (0, 20, .inl R')) := nq_gs hr
      have w1 : (σ.set ma (.inl (0, 20, .inl R')))[c]? = _ := nq_gn g2 h1
      have w2 : (σ.set ma (.inl (0, 20, .inl R')))[o1]? = _ := nq_gn n1 h2
      have w3 : (σ.set ma (.inl (0, 20, .inl R')))[o2]? = _ := nq_gn n2 h3
      have w4 : (σ.set ma (.inl (0, 20, .inl R')))[o3]? = _ := nq_gn n3 h4
      generalize hρ : σ.set ma (.inl (0, 20, .inl R')) = ρ at q1 q2 w1 w2 w3 w4
      refine nq_iload (pc' := 7) d_Machine_carryOut_5 rfl rfl ?_
      refine nq_bipush (v := 48) (pc' := 9) d_Machine_carryOut_7 rfl (by decide) ?_
      refine nq_icmp_ge (pc' := 12) (tgt := 127) d_Machine_carryOut_9 rfl (by decide) (fun h => ?_) (fun h => ?_)
      · exact absurd ((nI_leI (a := 48) (by omega) (by omega)).mp h) (by omega)
      refine nq_iload_n (pc' := 13) d_Machine_carryOut_12 rfl rfl rfl ?_
      refine nq_aload_n (pc' := 14) d_Machine_carryOut_13 rfl rfl rfl ?_
      refine nq_getf (pc' := 17) d_Machine_carryOut_14 rfl fl_Machine_31 (by first | assumption | exact nq_ga (by assumption) | exact nq_gs (by first | assumption | exact nq_ga (by assumption) | exact nq_gs (by first | assumption | exact nq_gs (by assumption) | exact nq_gn (by first | assumption | decide | omega | exact nq_ne1 (by assumption) (by assumption) | exact nq_ne2 (by assumption) (by assumption)) (by assumption) | exact nq_ga (by assumption)) | exact nq_gn (by first | assumption | decide | omega | exact nq_ne1 (by assumption) (by assumption) | exact nq_ne2 (by assumption) (by assumption)) (by first | assumption | exact nq_gs (by assumption) | exact nq_gn (by first | assumption | decide | omega | exact nq_ne1 (by assumption) (by assumption) | exact nq_ne2 (by assumption) (by assumption)) (by assumption) | exact nq_ga (by assumption))) | exact nq_gn (by first | assumption | decide | omega | exact nq_ne1 (by assumption) (by assumption) | exact nq_ne2 (by assumption) (by assumption)) (by first | assumption | exact nq_ga (by assumption) | exact nq_gs (by first | assumption | exact nq_gs (by assumption) | exact nq_gn (by first | assumption | decide | omega | exact nq_ne1 (by assumption) (by assumption) | exact nq_ne2 (by assumption) (by assumption)) (by assumption) | exact nq_ga (by assumption)) | exact nq_gn (by first | assumption | decide | omega | exact nq_ne1 (by assumption) (by assumption) | exact nq_ne2 (by assumption) (by assumption)) (by first | assumption | exact nq_gs (by assumption) | exact nq_gn (by first | assumption | decide | omega | exact nq_ne1 (by assumption) (by assumption) | exact nq_ne2 (by assumption) (by assumption)) (by assumption) | exact nq_ga (by assumption)))) rfl ?_
      by_cases hal : L.length ≤ a
      · refine nq_icmp_ge (pc' := 20) (tgt := 127) d_Machine_carryOut_17 rfl (by decide) (fun h => ?_) (fun h => absurd (nI_le hal (by omega)) h)
        refine nq_iconst (v := 0) (pc' := 128) d_Machine_carryOut_127 rfl (by decide) ?_
        rw [mc_run, List.getElem?_eq_none hal] at he
        refine nq_iret d_Machine_carryOut_128 rfl rfl ⟨by rw [← he]; exact hρ.symm, by rw [← he]; rfl⟩
      refine nq_icmp_ge (pc' := 20) (tgt := 127) d_Machine_carryOut_17 rfl (by decide) (fun h => absurd ((nI_leI (by omega) (by omega)).mp h) hal) (fun h => ?_)
      have hx := List.getElem?_eq_some_iff.mpr ⟨show a < L.length by omega, rfl⟩
      have hy := h8 a _ hx
      have hok := hL L[a] (List.getElem_mem _)
      rw [mc_run, hx] at he
      generalize L[a] = x at hx hy hok he
      simp only at he
      obtain ⟨k1, k2, k22, k3, k4⟩ := hok
      refine nq_aload_n (pc' := 21) d_Machine_carryOut_20 rfl rfl rfl ?_
      refine nq_getf (pc' := 24) d_Machine_carryOut_21 rfl fl_Machine_34 (by first | assumption | exact nq_ga (by assumption) | exact nq_gs (by first | assumption | exact nq_ga (by assumption) | exact nq_gs (by first | assumption | exact nq_gs (by assumption) | exact nq_gn (by first | assumption | decide | omega | exact nq_ne1 (by assumption) (by assumption) | exact nq_ne2 (by assumption) (by assumption)) (by assumption) | exact nq_ga (by assumption)) | exact nq_gn (by first | assumption | decide | omega | exact nq_ne1 (by assumption) (by assumption) | exact nq_ne2 (by assumption) (by assumption)) (by first | assumption | exact nq_gs (by assumption) | exact nq_gn (by first | assumption | decide | omega | exact nq_ne1 (by assumption) (by assumption) | exact nq_ne2 (by assumption) (by assumption)) (by assumption) | exact nq_ga (by assumption))) | exact nq_gn (by first | assumption | decide | omega | exact nq_ne1 (by assumption) (by assumption) | exact nq_ne2 (by assumption) (by assumption)) (by first | assumption | exact nq_ga (by assumption) | exact nq_gs (by first | assumption | exact nq_gs (by assumption) | exact nq_gn (by first | assumption | decide | omega | exact nq_ne1 (by assumption) (by assumption) | exact nq_ne2 (by assumption) (by assumption)) (by assumption) | exact nq_ga (by assumption)) | exact nq_gn (by first | assumption | decide | omega | exact nq_ne1 (by assumption) (by assumption) | exact nq_ne2 (by assumption) (by assumption)) (by first | assumption | exact nq_gs (by assumption) | exact nq_gn (by first | assumption | decide | omega | exact nq_ne1 (by assumption) (by assumption) | exact nq_ne2 (by assumption) (by assumption)) (by assumption) | exact nq_ga (by assumption)))) rfl ?_
      refine nq_iload_n (pc' := 25) d_Machine_carryOut_24 rfl rfl rfl ?_
      refine nq_iald (pc' := 26) d_Machine_carryOut_25 rfl (by first | assumption | exact nq_ga (by assumption) | exact nq_gs (by first | assumption | exact nq_ga (by assumption) | exact nq_gs (by first | assumption | exact nq_gs (by assumption) | exact nq_gn (by first | assumption | decide | omega | exact nq_ne1 (by assumption) (by assumption) | exact nq_ne2 (by assumption) (by assumption)) (by assumption) | exact nq_ga (by assumption)) | exact nq_gn (by first | assumption | decide | omega | exact nq_ne1 (by assumption) (by assumption) | exact nq_ne2 (by assumption) (by assumption)) (by first | assumption | exact nq_gs (by assumption) | exact nq_gn (by first | assumption | decide | omega | exact nq_ne1 (by assumption) (by assumption) | exact nq_ne2 (by assumption) (by assumption)) (by assumption) | exact nq_ga (by assumption))) | exact nq_gn (by first | assumption | decide | omega | exact nq_ne1 (by assumption) (by assumption) | exact nq_ne2 (by assumption) (by assumption)) (by first | assumption | exact nq_ga (by assumption) | exact nq_gs (by first | assumption | exact nq_gs (by assumption) | exact nq_gn (by first | assumption | decide | omega | exact nq_ne1 (by assumption) (by assumption) | exact nq_ne2 (by assumption) (by assumption)) (by assumption) | exact nq_ga (by assumption)) | exact nq_gn (by first | assumption | decide | omega | exact nq_ne1 (by assumption) (by assumption) | exact nq_ne2 (by assumption) (by assumption)) (by first | assumption | exact nq_gs (by assumption) | exact nq_gn (by first | assumption | decide | omega | exact nq_ne1 (by assumption) (by assumption) | exact nq_ne2 (by assumption) (by assumption)) (by assumption) | exact nq_ga (by assumption)))) rfl (j := a) rfl (by omega) (by decide) ?_
      rw [hy.1]
      refine nq_istore (pc' := 28) d_Machine_carryOut_26 rfl (by decide) rfl ?_
      refine nq_aload_n (pc' := 29) d_Machine_carryOut_28 rfl rfl rfl ?_
      refine nq_getf (pc' := 32) d_Machine_carryOut_29 rfl fl_Machine_37 (by first | assumption | exact nq_ga (by assumption) | exact nq_gs (by first | assumption | exact nq_ga (by assumption) | exact nq_gs (by first | assumption | exact nq_gs (by assumption) | exact nq_gn (by first | assumption | decide | omega | exact nq_ne1 (by assumption) (by assumption) | exact nq_ne2 (by assumption) (by assumption)) (by assumption) | exact nq_ga (by assumption)) | exact nq_gn (by first | assumption | decide | omega | exact nq_ne1 (by assumption) (by assumption) | exact nq_ne2 (by assumption) (by assumption)) (by first | assumption | exact nq_gs (by assumption) | exact nq_gn (by first | assumption | decide | omega | exact nq_ne1 (by assumption) (by assumption) | exact nq_ne2 (by assumption) (by assumption)) (by assumption) | exact nq_ga (by assumption))) | exact nq_gn (by first | assumption | decide | omega | exact nq_ne1 (by assumption) (by assumption) | exact nq_ne2 (by assumption) (by assumption)) (by first | assumption | exact nq_ga (by assumption) | exact nq_gs (by first | assumption | exact nq_gs (by assumption) | exact nq_gn (by first | assumption | decide | omega | exact nq_ne1 (by assumption) (by assumption) | exact nq_ne2 (by assumption) (by assumption)) (by assumption) | exact nq_ga (by assumption)) | exact nq_gn (by first | assumption | decide | omega | exact nq_ne1 (by assumption) (by assumption) | exact nq_ne2 (by assumption) (by assumption)) (by first | assumption | exact nq_gs (by assumption) | exact nq_gn (by first | assumption | decide | omega | exact nq_ne1 (by assumption) (by assumption) | exact nq_ne2 (by assumption) (by assumption)) (by assumption) | exact nq_ga (by assumption)))) rfl ?_
      refine nq_iload_n (pc' := 33) d_Machine_carryOut_32 rfl rfl rfl ?_
      refine nq_iald (pc' := 34) d_Machine_carryOut_33 rfl (by first | assumption | exact nq_ga (by assumption) | exact nq_gs (by first | assumption | exact nq_ga (by assumption) | exact nq_gs (by first | assumption | exact nq_gs (by assumption) | exact nq_gn (by first | assumption | decide | omega | exact nq_ne1 (by assumption) (by assumption) | exact nq_ne2 (by assumption) (by assumption)) (by assumption) | exact nq_ga (by assumption)) | exact nq_gn (by first | assumption | decide | omega | exact nq_ne1 (by assumption) (by assumption) | exact nq_ne2 (by assumption) (by assumption)) (by first | assumption | exact nq_gs (by assumption) | exact nq_gn (by first | assumption | decide | omega | exact nq_ne1 (by assumption) (by assumption) | exact nq_ne2 (by assumption) (by assumption)) (by assumption) | exact nq_ga (by assumption))) | exact nq_gn (by first | assumption | decide | omega | exact nq_ne1 (by assumption) (by assumption) | exact nq_ne2 (by assumption) (by assumption)) (by first | assumption | exact nq_ga (by assumption) | exact nq_gs (by first | assumption | exact nq_gs (by assumption) | exact nq_gn (by first | assumption | decide | omega | exact nq_ne1 (by assumption) (by assumption) | exact nq_ne2 (by assumption) (by assumption)) (by assumption) | exact nq_ga (by assumption)) | exact nq_gn (by first | assumption | decide | omega | exact nq_ne1 (by assumption) (by assumption) | exact nq_ne2 (by assumption) (by assumption)) (by first | assumption | exact nq_gs (by assumption) | exact nq_gn (by first | assumption | decide | omega | exact nq_ne1 (by assumption) (by assumption) | exact nq_ne2 (by assumption) (by assumption)) (by assumption) | exact nq_ga (by assumption)))) rfl (j := a) rfl (by omega) (by decide) ?_
      rw [hy.2.1]
      refine nq_istore (pc' := 36) d_Machine_carryOut_34 rfl (by decide) rfl ?_
      refine nq_iload (pc' := 38) d_Machine_carryOut_36 rfl rfl ?_
      refine nq_bipush (v := 11) (pc' := 40) d_Machine_carryOut_38 rfl (by decide) ?_
      refine nq_icmp_eq (pc' := 43) (tgt := 50) d_Machine_carryOut_40 rfl (by decide) (fun h => ?_) (fun h => ?_)
      · have e11 : x.1 = 11 := nI_inj (by omega) (by decide) (show nI x.1 = nI 11 from h)
        rw [if_pos e11] at he
        refine nq_iload (pc' := 52) d_Machine_carryOut_50 rfl rfl ?_
        refine nq_bipush (v := 11) (pc' := 54) d_Machine_carryOut_52 rfl (by decide) ?_
        refine nq_icmp_ne (pc' := 57) (tgt := 61) d_Machine_carryOut_54 rfl (by decide) (fun h' => absurd h h') (fun h => ?_)
        refine nq_iconst (v := 1) (pc' := 58) d_Machine_carryOut_57 rfl (by decide) ?_
        refine nq_goto (tgt := 62) d_Machine_carryOut_58 (by decide) ?_
        refine nq_iret d_Machine_carryOut_62 rfl rfl ⟨by rw [← he]; exact hρ.symm, by rw [← he]; rfl⟩
      have e11 : ¬ x.1 = 11 := fun e => h (by rw [e]; rfl)
      rw [if_neg e11] at he
      refine nq_iload (pc' := 45) d_Machine_carryOut_43 rfl rfl ?_
      refine nq_bipush (v := 12) (pc' := 47) d_Machine_carryOut_45 rfl (by decide) ?_
      by_cases e12 : x.1 = 12
      · rw [if_pos e12] at he
        refine nq_icmp_ne (pc' := 50) (tgt := 63) d_Machine_carryOut_47 rfl (by decide) (fun h' => absurd (by rw [e12]; rfl) h') (fun _ => ?_)
        refine nq_iload (pc' := 52) d_Machine_carryOut_50 rfl rfl ?_
        refine nq_bipush (v := 11) (pc' := 54) d_Machine_carryOut_52 rfl (by decide) ?_
        refine nq_icmp_ne (pc' := 57) (tgt := 61) d_Machine_carryOut_54 rfl (by decide) (fun _ => ?_) (fun h' => absurd h' h)
        refine nq_iconst (v := 0) (pc' := 62) d_Machine_carryOut_61 rfl (by decide) ?_
        refine nq_iret d_Machine_carryOut_62 rfl rfl ⟨by rw [← he]; exact hρ.symm, by rw [← he]; rfl⟩
      rw [if_neg e12] at he
      refine nq_icmp_ne (pc' := 50) (tgt := 63) d_Machine_carryOut_47 rfl (by decide) (fun _ => ?_) (fun h' => absurd (nI_inj (by omega) (by decide) (show nI x.1 = nI 12 from h')) e12)
      refine nq_iload (pc' := 65) d_Machine_carryOut_63 rfl rfl ?_
      refine nq_bipush (v := 8) (pc' := 67) d_Machine_carryOut_65 rfl (by decide) ?_
      by_cases e8 : x.1 < 8
      · rw [if_pos e8] at he
        refine nq_icmp_ge (pc' := 70) (tgt := 97) d_Machine_carryOut_67 rfl (by decide) (fun h' => absurd ((nI_leI (a := 8) (by omega) (by omega)).mp h') (by omega)) (fun _ => ?_)
        refine nq_aload_n (pc' := 71) d_Machine_carryOut_70 rfl rfl rfl ?_
        refine nq_getf (pc' := 74) d_Machine_carryOut_71 rfl fl_Machine_9 (by first | assumption | exact nq_ga (by assumption) | exact nq_gs (by first | assumption | exact nq_ga (by assumption) | exact nq_gs (by first | assumption | exact nq_gs (by assumption) | exact nq_gn (by first | assumption | decide | omega | exact nq_ne1 (by assumption) (by assumption) | exact nq_ne2 (by assumption) (by assumption)) (by assumption) | exact nq_ga (by assumption)) | exact nq_gn (by first | assumption | decide | omega | exact nq_ne1 (by assumption) (by assumption) | exact nq_ne2 (by assumption) (by assumption)) (by first | assumption | exact nq_gs (by assumption) | exact nq_gn (by first | assumption | decide | omega | exact nq_ne1 (by assumption) (by assumption) | exact nq_ne2 (by assumption) (by assumption)) (by assumption) | exact nq_ga (by assumption))) | exact nq_gn (by first | assumption | decide | omega | exact nq_ne1 (by assumption) (by assumption) | exact nq_ne2 (by assumption) (by assumption)) (by first | assumption | exact nq_ga (by assumption) | exact nq_gs (by first | assumption | exact nq_gs (by assumption) | exact nq_gn (by first | assumption | decide | omega | exact nq_ne1 (by assumption) (by assumption) | exact nq_ne2 (by assumption) (by assumption)) (by assumption) | exact nq_ga (by assumption)) | exact nq_gn (by first | assumption | decide | omega | exact nq_ne1 (by assumption) (by assumption) | exact nq_ne2 (by assumption) (by assumption)) (by first | assumption | exact nq_gs (by assumption) | exact nq_gn (by first | assumption | decide | omega | exact nq_ne1 (by assumption) (by assumption) | exact nq_ne2 (by assumption) (by assumption)) (by assumption) | exact nq_ga (by assumption)))) rfl ?_
        refine nq_iload (pc' := 76) d_Machine_carryOut_74 rfl rfl ?_
        refine nq_aload_n (pc' := 77) d_Machine_carryOut_76 rfl rfl rfl ?_
        refine nq_iload (pc' := 79) d_Machine_carryOut_77 rfl rfl ?_
        refine nq_iload (pc' := 81) d_Machine_carryOut_79 rfl rfl ?_
        refine nq_aload_n (pc' := 82) d_Machine_carryOut_81 rfl rfl rfl ?_
        refine nq_getf (pc' := 85) d_Machine_carryOut_82 rfl fl_Machine_38 (by first | assumption | exact nq_ga (by assumption) | exact nq_gs (by first | assumption | exact nq_ga (by assumption) | exact nq_gs (by first | assumption | exact nq_gs (by assumption) | exact nq_gn (by first | assumption | decide | omega | exact nq_ne1 (by assumption) (by assumption) | exact nq_ne2 (by assumption) (by assumption)) (by assumption) | exact nq_ga (by assumption)) | exact nq_gn (by first | assumption | decide | omega | exact nq_ne1 (by assumption) (by assumption) | exact nq_ne2 (by assumption) (by assumption)) (by first | assumption | exact nq_gs (by assumption) | exact nq_gn (by first | assumption | decide | omega | exact nq_ne1 (by assumption) (by assumption) | exact nq_ne2 (by assumption) (by assumption)) (by assumption) | exact nq_ga (by assumption))) | exact nq_gn (by first | assumption | decide | omega | exact nq_ne1 (by assumption) (by assumption) | exact nq_ne2 (by assumption) (by assumption)) (by first | assumption | exact nq_ga (by assumption) | exact nq_gs (by first | assumption | exact nq_gs (by assumption) | exact nq_gn (by first | assumption | decide | omega | exact nq_ne1 (by assumption) (by assumption) | exact nq_ne2 (by assumption) (by assumption)) (by assumption) | exact nq_ga (by assumption)) | exact nq_gn (by first | assumption | decide | omega | exact nq_ne1 (by assumption) (by assumption) | exact nq_ne2 (by assumption) (by assumption)) (by first | assumption | exact nq_gs (by assumption) | exact nq_gn (by first | assumption | decide | omega | exact nq_ne1 (by assumption) (by assumption) | exact nq_ne2 (by assumption) (by assumption)) (by assumption) | exact nq_ga (by assumption)))) rfl ?_
        refine nq_iload_n (pc' := 86) d_Machine_carryOut_85 rfl rfl rfl ?_
        refine nq_iald (pc' := 87) d_Machine_carryOut_86 rfl (by first | assumption | exact nq_ga (by assumption) | exact nq_gs (by first | assumption | exact nq_ga (by assumption) | exact nq_gs (by first | assumption | exact nq_gs (by assumption) | exact nq_gn (by first | assumption | decide | omega | exact nq_ne1 (by assumption) (by assumption) | exact nq_ne2 (by assumption) (by assumption)) (by assumption) | exact nq_ga (by assumption)) | exact nq_gn (by first | assumption | decide | omega | exact nq_ne1 (by assumption) (by assumption) | exact nq_ne2 (by assumption) (by assumption)) (by first | assumption | exact nq_gs (by assumption) | exact nq_gn (by first | assumption | decide | omega | exact nq_ne1 (by assumption) (by assumption) | exact nq_ne2 (by assumption) (by assumption)) (by assumption) | exact nq_ga (by assumption))) | exact nq_gn (by first | assumption | decide | omega | exact nq_ne1 (by assumption) (by assumption) | exact nq_ne2 (by assumption) (by assumption)) (by first | assumption | exact nq_ga (by assumption) | exact nq_gs (by first | assumption | exact nq_gs (by assumption) | exact nq_gn (by first | assumption | decide | omega | exact nq_ne1 (by assumption) (by assumption) | exact nq_ne2 (by assumption) (by assumption)) (by assumption) | exact nq_ga (by assumption)) | exact nq_gn (by first | assumption | decide | omega | exact nq_ne1 (by assumption) (by assumption) | exact nq_ne2 (by assumption) (by assumption)) (by first | assumption | exact nq_gs (by assumption) | exact nq_gn (by first | assumption | decide | omega | exact nq_ne1 (by assumption) (by assumption) | exact nq_ne2 (by assumption) (by assumption)) (by assumption) | exact nq_ga (by assumption)))) rfl (j := a) rfl (by omega) (by decide) ?_
        rw [hy.2.2]
        refine nq_callV (pc' := 90) d_Machine_carryOut_87 rfl cl_Machine_41 rfl (by first | assumption | exact nq_ga (by assumption) | exact nq_gs (by first | assumption | exact nq_ga (by assumption) | exact nq_gs (by first | assumption | exact nq_gs (by assumption) | exact nq_gn (by first | assumption | decide | omega | exact nq_ne1 (by assumption) (by assumption) | exact nq_ne2 (by assumption) (by assumption)) (by assumption) | exact nq_ga (by assumption)) | exact nq_gn (by first | assumption | decide | omega | exact nq_ne1 (by assumption) (by assumption) | exact nq_ne2 (by assumption) (by assumption)) (by first | assumption | exact nq_gs (by assumption) | exact nq_gn (by first | assumption | decide | omega | exact nq_ne1 (by assumption) (by assumption) | exact nq_ne2 (by assumption) (by assumption)) (by assumption) | exact nq_ga (by assumption))) | exact nq_gn (by first | assumption | decide | omega | exact nq_ne1 (by assumption) (by assumption) | exact nq_ne2 (by assumption) (by assumption)) (by first | assumption | exact nq_ga (by assumption) | exact nq_gs (by first | assumption | exact nq_gs (by assumption) | exact nq_gn (by first | assumption | decide | omega | exact nq_ne1 (by assumption) (by assumption) | exact nq_ne2 (by assumption) (by assumption)) (by assumption) | exact nq_ga (by assumption)) | exact nq_gn (by first | assumption | decide | omega | exact nq_ne1 (by assumption) (by assumption) | exact nq_ne2 (by assumption) (by assumption)) (by first | assumption | exact nq_gs (by assumption) | exact nq_gn (by first | assumption | decide | omega | exact nq_ne1 (by assumption) (by assumption) | exact nq_ne2 (by assumption) (by assumption)) (by assumption) | exact nq_ga (by assumption)))) rfl rfl (kc := 0) (ks := 0) (mc' := 0) (ms' := 0) (As := [.int (nI x.1), .int (nI x.2.1), .int (nI x.2.2)]) (rest := [.int (nI x.2.1), .ref ma]) rfl rfl (Nat.le_of_ble_eq_true rfl) (k_Machine_outcome q1 q2 ⟨k1, k2, k22, k3, k4⟩ e8) (fun E σ1 hq => ?_) (fun v σ1 hq => ?_)
        · obtain ⟨rfl, hq⟩ := hq
          cases hv : mc_val x R' with
          | some v => rw [hv] at hq; cases hq
          | none =>
            rw [hv] at he hq
            simp only at he
            exact ⟨by rw [← he]; exact hρ.symm, by rw [← he]; exact hq⟩
        · obtain ⟨rfl, hq⟩ := hq
          cases hv : mc_val x R' with
          | none => rw [hv] at hq; cases hq
          | some w =>
            rw [hv] at he hq
            simp only at he
            cases hq
            refine nq_iast (pc' := 91) d_Machine_carryOut_90 rfl (by first | assumption | exact nq_ga (by assumption) | exact nq_gs (by first | assumption | exact nq_ga (by assumption) | exact nq_gs (by first | assumption | exact nq_gs (by assumption) | exact nq_gn (by first | assumption | decide | omega | exact nq_ne1 (by assumption) (by assumption) | exact nq_ne2 (by assumption) (by assumption)) (by assumption) | exact nq_ga (by assumption)) | exact nq_gn (by first | assumption | decide | omega | exact nq_ne1 (by assumption) (by assumption) | exact nq_ne2 (by assumption) (by assumption)) (by first | assumption | exact nq_gs (by assumption) | exact nq_gn (by first | assumption | decide | omega | exact nq_ne1 (by assumption) (by assumption) | exact nq_ne2 (by assumption) (by assumption)) (by assumption) | exact nq_ga (by assumption))) | exact nq_gn (by first | assumption | decide | omega | exact nq_ne1 (by assumption) (by assumption) | exact nq_ne2 (by assumption) (by assumption)) (by first | assumption | exact nq_ga (by assumption) | exact nq_gs (by first | assumption | exact nq_gs (by assumption) | exact nq_gn (by first | assumption | decide | omega | exact nq_ne1 (by assumption) (by assumption) | exact nq_ne2 (by assumption) (by assumption)) (by assumption) | exact nq_ga (by assumption)) | exact nq_gn (by first | assumption | decide | omega | exact nq_ne1 (by assumption) (by assumption) | exact nq_ne2 (by assumption) (by assumption)) (by first | assumption | exact nq_gs (by assumption) | exact nq_gn (by first | assumption | decide | omega | exact nq_ne1 (by assumption) (by assumption) | exact nq_ne2 (by assumption) (by assumption)) (by assumption) | exact nq_ga (by assumption)))) rfl (j := x.2.1) rfl (by omega) (by decide) ?_
            refine nq_iinc (pc' := 94) d_Machine_carryOut_91 rfl rfl (v := nI (a + 1)) (nI_1 a) (by decide) rfl ?_
            refine nq_goto (tgt := 121) d_Machine_carryOut_94 (by decide) ?_
            refine nq_iinc (pc' := 124) d_Machine_carryOut_121 rfl rfl (v := nI (s + 1)) (nI_1 s) (by decide) rfl ?_
            refine nq_goto (tgt := 5) d_Machine_carryOut_124 (by decide) ?_
            refine nq_J.lvs (lv' := [some (.ref m), some (.ref c), some (.int (nI fr0)), some (.int (nI (a + 1))), some (.int (nI (s + 1))), none, none]) rfl (nq_fg2 _ _ _ _ _ _ _) ?_
            rw [← hρ, List.set_set]
            exact ih (s + 1) (by omega) (a + 1) _ (by omega) he
      · rw [if_neg e8] at he
        refine nq_icmp_ge (pc' := 70) (tgt := 97) d_Machine_carryOut_67 rfl (by decide) (fun _ => ?_) (fun h' => absurd (nI_le (a := 8) (by omega) (by omega)) h')
        refine nq_aload_n (pc' := 98) d_Machine_carryOut_97 rfl rfl rfl ?_
        refine nq_iload (pc' := 100) d_Machine_carryOut_98 rfl rfl ?_
        refine nq_iload (pc' := 102) d_Machine_carryOut_100 rfl rfl ?_
        refine nq_callVR (pc' := 105) d_Machine_carryOut_102 rfl cl_Machine_45 rfl (by first | assumption | exact nq_ga (by assumption) | exact nq_gs (by first | assumption | exact nq_ga (by assumption) | exact nq_gs (by first | assumption | exact nq_gs (by assumption) | exact nq_gn (by first | assumption | decide | omega | exact nq_ne1 (by assumption) (by assumption) | exact nq_ne2 (by assumption) (by assumption)) (by assumption) | exact nq_ga (by assumption)) | exact nq_gn (by first | assumption | decide | omega | exact nq_ne1 (by assumption) (by assumption) | exact nq_ne2 (by assumption) (by assumption)) (by first | assumption | exact nq_gs (by assumption) | exact nq_gn (by first | assumption | decide | omega | exact nq_ne1 (by assumption) (by assumption) | exact nq_ne2 (by assumption) (by assumption)) (by assumption) | exact nq_ga (by assumption))) | exact nq_gn (by first | assumption | decide | omega | exact nq_ne1 (by assumption) (by assumption) | exact nq_ne2 (by assumption) (by assumption)) (by first | assumption | exact nq_ga (by assumption) | exact nq_gs (by first | assumption | exact nq_gs (by assumption) | exact nq_gn (by first | assumption | decide | omega | exact nq_ne1 (by assumption) (by assumption) | exact nq_ne2 (by assumption) (by assumption)) (by assumption) | exact nq_ga (by assumption)) | exact nq_gn (by first | assumption | decide | omega | exact nq_ne1 (by assumption) (by assumption) | exact nq_ne2 (by assumption) (by assumption)) (by first | assumption | exact nq_gs (by assumption) | exact nq_gn (by first | assumption | decide | omega | exact nq_ne1 (by assumption) (by assumption) | exact nq_ne2 (by assumption) (by assumption)) (by assumption) | exact nq_ga (by assumption)))) rfl rfl (kc := 0) (ks := 0) (mc' := 0) (ms' := 0) (As := [.int (nI x.1), .int (nI x.2.1)]) (rest := []) rfl rfl (by decide) (k_Machine_compares q1 q2 ⟨by omega, by omega⟩ (k22 (by omega))) ?_
        by_cases hcm : mc_cmp x.1 (R' x.2.1) (R' (x.2.1 + 1)) = true
        · rw [if_pos hcm] at he ⊢
          refine nq_if_eq (pc' := 108) (tgt := 114) d_Machine_carryOut_105 rfl (by decide) (fun h' => absurd h' (by decide)) (fun _ => ?_)
          refine nq_iload_n (pc' := 109) d_Machine_carryOut_108 rfl rfl rfl ?_
          refine nq_iconst (v := 1) (pc' := 110) d_Machine_carryOut_109 rfl (by decide) ?_
          refine nq_iadd (pc' := 111) d_Machine_carryOut_110 rfl ?_
          refine nq_goto (tgt := 120) d_Machine_carryOut_111 (by decide) ?_
          refine nq_istore_n (pc' := 121) d_Machine_carryOut_120 rfl rfl (by decide) rfl ?_
          rw [nI_1]
          refine nq_iinc (pc' := 124) d_Machine_carryOut_121 rfl rfl (v := nI (s + 1)) (nI_1 s) (by decide) rfl ?_
          refine nq_goto (tgt := 5) d_Machine_carryOut_124 (by decide) ?_
          refine nq_J.lvs (lv' := [some (.ref m), some (.ref c), some (.int (nI fr0)), some (.int (nI (a + 1))), some (.int (nI (s + 1))), none, none]) rfl (nq_fg2 _ _ _ _ _ _ _) ?_
          rw [← hρ]
          exact ih (s + 1) (by omega) (a + 1) _ (by omega) he
        · rw [if_neg hcm] at he ⊢
          refine nq_if_eq (pc' := 108) (tgt := 114) d_Machine_carryOut_105 rfl (by decide) (fun _ => ?_) (fun h' => absurd rfl h')
          refine nq_aload_n (pc' := 115) d_Machine_carryOut_114 rfl rfl rfl ?_
          refine nq_getf (pc' := 118) d_Machine_carryOut_115 rfl fl_Machine_38 (by first | assumption | exact nq_ga (by assumption) | exact nq_gs (by first | assumption | exact nq_ga (by assumption) | exact nq_gs (by first | assumption | exact nq_gs (by assumption) | exact nq_gn (by first | assumption | decide | omega | exact nq_ne1 (by assumption) (by assumption) | exact nq_ne2 (by assumption) (by assumption)) (by assumption) | exact nq_ga (by assumption)) | exact nq_gn (by first | assumption | decide | omega | exact nq_ne1 (by assumption) (by assumption) | exact nq_ne2 (by assumption) (by assumption)) (by first | assumption | exact nq_gs (by assumption) | exact nq_gn (by first | assumption | decide | omega | exact nq_ne1 (by assumption) (by assumption) | exact nq_ne2 (by assumption) (by assumption)) (by assumption) | exact nq_ga (by assumption))) | exact nq_gn (by first | assumption | decide | omega | exact nq_ne1 (by assumption) (by assumption) | exact nq_ne2 (by assumption) (by assumption)) (by first | assumption | exact nq_ga (by assumption) | exact nq_gs (by first | assumption | exact nq_gs (by assumption) | exact nq_gn (by first | assumption | decide | omega | exact nq_ne1 (by assumption) (by assumption) | exact nq_ne2 (by assumption) (by assumption)) (by assumption) | exact nq_ga (by assumption)) | exact nq_gn (by first | assumption | decide | omega | exact nq_ne1 (by assumption) (by assumption) | exact nq_ne2 (by assumption) (by assumption)) (by first | assumption | exact nq_gs (by assumption) | exact nq_gn (by first | assumption | decide | omega | exact nq_ne1 (by assumption) (by assumption) | exact nq_ne2 (by assumption) (by assumption)) (by assumption) | exact nq_ga (by assumption)))) rfl ?_
          refine nq_iload_n (pc' := 119) d_Machine_carryOut_118 rfl rfl rfl ?_
          refine nq_iald (pc' := 120) d_Machine_carryOut_119 rfl (by first | assumption | exact nq_ga (by assumption) | exact nq_gs (by first | assumption | exact nq_ga (by assumption) | exact nq_gs (by first | assumption | exact nq_gs (by assumption) | exact nq_gn (by first | assumption | decide | omega | exact nq_ne1 (by assumption) (by assumption) | exact nq_ne2 (by assumption) (by assumption)) (by assumption) | exact nq_ga (by assumption)) | exact nq_gn (by first | assumption | decide | omega | exact nq_ne1 (by assumption) (by assumption) | exact nq_ne2 (by assumption) (by assumption)) (by first | assumption | exact nq_gs (by assumption) | exact nq_gn (by first | assumption | decide | omega | exact nq_ne1 (by assumption) (by assumption) | exact nq_ne2 (by assumption) (by assumption)) (by assumption) | exact nq_ga (by assumption))) | exact nq_gn (by first | assumption | decide | omega | exact nq_ne1 (by assumption) (by assumption) | exact nq_ne2 (by assumption) (by assumption)) (by first | assumption | exact nq_ga (by assumption) | exact nq_gs (by first | assumption | exact nq_gs (by assumption) | exact nq_gn (by first | assumption | decide | omega | exact nq_ne1 (by assumption) (by assumption) | exact nq_ne2 (by assumption) (by assumption)) (by assumption) | exact nq_ga (by assumption)) | exact nq_gn (by first | assumption | decide | omega | exact nq_ne1 (by assumption) (by assumption) | exact nq_ne2 (by assumption) (by assumption)) (by first | assumption | exact nq_gs (by assumption) | exact nq_gn (by first | assumption | decide | omega | exact nq_ne1 (by assumption) (by assumption) | exact nq_ne2 (by assumption) (by assumption)) (by assumption) | exact nq_ga (by assumption)))) rfl (j := a) rfl (by omega) (by decide) ?_
          rw [hy.2.2]
          refine nq_istore_n (pc' := 121) d_Machine_carryOut_120 rfl rfl (by decide) rfl ?_
          refine nq_iinc (pc' := 124) d_Machine_carryOut_121 rfl rfl (v := nI (s + 1)) (nI_1 s) (by decide) rfl ?_
          refine nq_goto (tgt := 5) d_Machine_carryOut_124 (by decide) ?_
          refine nq_J.lvs (lv' := [some (.ref m), some (.ref c), some (.int (nI fr0)), some (.int (nI x.2.2)), some (.int (nI (s + 1))), none, none]) rfl (nq_fg2 _ _ _ _ _ _ _) ?_
          rw [← hρ]
          exact ih (s + 1) (by omega) x.2.2 _ (by omega) he
  have h0 := loop 48 0 rfl fr0 R (by omega) rfl
  rw [nq_set_self hr] at h0
  exact h0
theorem k_Machine_workOut (hm : σ[m]? = some (.inr (1, [.ref ma]))) (hr : σ[ma]? = some (.inl (0, 20, .inl R))) (hc : cd_C σ c o1 o2 o3 L H) (hL : ∀ x ∈ L, mc_ok x) (n1 : o1 ≠ ma) (n2 : o2 ≠ ma) (n3 : o3 ≠ ma) :
    nq_JM G (d + 3) 0 0 m_Machine_workOut [.ref m, .ref c] σ (fun o σ' => σ' = σ.set ma (.inl (0, 20, .inl (mc_run L 48 0 R).2)) ∧ o = (match (mc_run L 48 0 R).1 with
      | some _ => .inl none
      | none => .inr nq_AE)) := by
  refine nq_mk' (lv := [some (.ref m), some (.ref c)]) (by decide +kernel) rfl (Nat.le_of_ble_eq_true rfl) rfl ?_
  refine nq_aload_n (pc' := 1) d_Machine_workOut_0 rfl rfl rfl ?_
  refine nq_aload_n (pc' := 2) d_Machine_workOut_1 rfl rfl rfl ?_
  refine nq_iconst (v := 0) (pc' := 3) d_Machine_workOut_2 rfl (by decide) ?_
  refine nq_callV (pc' := 6) d_Machine_workOut_3 rfl cl_Machine_27 rfl (by first | assumption | exact nq_ga (by assumption) | exact nq_gs (by first | assumption | exact nq_ga (by assumption) | exact nq_gs (by first | assumption | exact nq_gs (by assumption) | exact nq_gn (by first | assumption | decide | omega | exact nq_ne1 (by assumption) (by assumption) | exact nq_ne2 (by assumption) (by assumption)) (by assumption) | exact nq_ga (by assumption)) | exact nq_gn (by first | assumption | decide | omega | exact nq_ne1 (by assumption) (by assumption) | exact nq_ne2 (by assumption) (by assumption)) (by first | assumption | exact nq_gs (by assumption) | exact nq_gn (by first | assumption | decide | omega | exact nq_ne1 (by assumption) (by assumption) | exact nq_ne2 (by assumption) (by assumption)) (by assumption) | exact nq_ga (by assumption))) | exact nq_gn (by first | assumption | decide | omega | exact nq_ne1 (by assumption) (by assumption) | exact nq_ne2 (by assumption) (by assumption)) (by first | assumption | exact nq_ga (by assumption) | exact nq_gs (by first | assumption | exact nq_gs (by assumption) | exact nq_gn (by first | assumption | decide | omega | exact nq_ne1 (by assumption) (by assumption) | exact nq_ne2 (by assumption) (by assumption)) (by assumption) | exact nq_ga (by assumption)) | exact nq_gn (by first | assumption | decide | omega | exact nq_ne1 (by assumption) (by assumption) | exact nq_ne2 (by assumption) (by assumption)) (by first | assumption | exact nq_gs (by assumption) | exact nq_gn (by first | assumption | decide | omega | exact nq_ne1 (by assumption) (by assumption) | exact nq_ne2 (by assumption) (by assumption)) (by assumption) | exact nq_ga (by assumption)))) rfl rfl (kc := 0) (ks := 0) (mc' := 0) (ms' := 0) (As := [.ref c, .int 0]) (rest := []) rfl rfl (by decide) (k_Machine_carryOut (fr0 := 0) hm hr hc hL n1 n2 n3 (by decide)) (fun E σ1 h => ?_) (fun v σ1 h => ?_)
  · obtain ⟨h1, h2⟩ := h
    refine ⟨h1, ?_⟩
    cases hb : (mc_run L 48 0 R).1 with
    | some b => rw [hb] at h2; cases h2
    | none => rw [hb] at h2; exact h2
  · obtain ⟨h1, h2⟩ := h
    cases hb : (mc_run L 48 0 R).1 with
    | none => rw [hb] at h2; cases h2
    | some b =>
      rw [hb] at h2
      cases h2
      refine nq_pop (pc' := 7) d_Machine_workOut_6 rfl rfl ?_
      refine nq_vret d_Machine_workOut_7 rfl ⟨h1, rfl⟩
theorem k_Machine_meetsTest {H0 : List Value} {t : Int32} (hm : σ[m]? = some (.inr (1, [.ref ma]))) (hr : σ[ma]? = some (.inl (0, 20, .inl R))) {k1 k2 k3 k4 k5 k6 k7 k8 : Value} (hH : H = [k1, k2, k3, k4, k5, k6, k7, .int t, k8]) (hc : cd_C σ c o1 o2 o3 L H) (hL : ∀ x ∈ L, mc_ok x) (n1 : o1 ≠ ma) (n2 : o2 ≠ ma) (n3 : o3 ≠ ma) {tn : Nat} (ht : t = -1 ∨ (t = nI tn ∧ tn < 10000)) :
    nq_JM G (d + 3) 0 0 m_Machine_meetsTest [.ref m, .ref c] σ (fun o σ' => (t = -1 ∧ σ' = σ ∧ o = .inl (some (.int 1))) ∨ (t = nI tn ∧ tn < 10000 ∧ σ' = σ.set ma (.inl (0, 20, .inl (mc_run L 48 tn R).2)) ∧ o = nq_ob (mc_run L 48 tn R).1)) := by
  have hcc : σ[c]? = some (.inr (0, [.ref o1, .ref o2, .ref o3, .int (nI L.length), k1, k2, k3, k4, k5, k6, k7, .int t, k8])) := by
    obtain ⟨fo, fr, fa, hw, -⟩ := hc
    rw [hH] at hw
    exact hw.1
  refine nq_mk' (lv := [some (.ref m), some (.ref c)]) (by decide +kernel) rfl (Nat.le_of_ble_eq_true rfl) rfl ?_
  refine nq_aload_n (pc' := 1) d_Machine_meetsTest_0 rfl rfl rfl ?_
  refine nq_getf (pc' := 4) d_Machine_meetsTest_1 rfl fl_Machine_21 (by first | assumption | exact nq_ga (by assumption) | exact nq_gs (by first | assumption | exact nq_ga (by assumption) | exact nq_gs (by first | assumption | exact nq_gs (by assumption) | exact nq_gn (by first | assumption | decide | omega | exact nq_ne1 (by assumption) (by assumption) | exact nq_ne2 (by assumption) (by assumption)) (by assumption) | exact nq_ga (by assumption)) | exact nq_gn (by first | assumption | decide | omega | exact nq_ne1 (by assumption) (by assumption) | exact nq_ne2 (by assumption) (by assumption)) (by first | assumption | exact nq_gs (by assumption) | exact nq_gn (by first | assumption | decide | omega | exact nq_ne1 (by assumption) (by assumption) | exact nq_ne2 (by assumption) (by assumption)) (by assumption) | exact nq_ga (by assumption))) | exact nq_gn (by first | assumption | decide | omega | exact nq_ne1 (by assumption) (by assumption) | exact nq_ne2 (by assumption) (by assumption)) (by first | assumption | exact nq_ga (by assumption) | exact nq_gs (by first | assumption | exact nq_gs (by assumption) | exact nq_gn (by first | assumption | decide | omega | exact nq_ne1 (by assumption) (by assumption) | exact nq_ne2 (by assumption) (by assumption)) (by assumption) | exact nq_ga (by assumption)) | exact nq_gn (by first | assumption | decide | omega | exact nq_ne1 (by assumption) (by assumption) | exact nq_ne2 (by assumption) (by assumption)) (by first | assumption | exact nq_gs (by assumption) | exact nq_gn (by first | assumption | decide | omega | exact nq_ne1 (by assumption) (by assumption) | exact nq_ne2 (by assumption) (by assumption)) (by assumption) | exact nq_ga (by assumption)))) rfl ?_
  refine nq_iconst (v := (-1)) (pc' := 5) d_Machine_meetsTest_4 rfl (by decide) ?_
  refine nq_icmp_eq (pc' := 8) (tgt := 20) d_Machine_meetsTest_5 rfl (by decide) (fun h => ?_) (fun h => ?_)
  · refine nq_iconst (v := 1) (pc' := 21) d_Machine_meetsTest_20 rfl (by decide) ?_
    refine nq_goto (tgt := 25) d_Machine_meetsTest_21 (by decide) ?_
    refine nq_iret d_Machine_meetsTest_25 rfl rfl (Or.inl ⟨h, rfl, rfl⟩)
  refine nq_aload_n (pc' := 9) d_Machine_meetsTest_8 rfl rfl rfl ?_
  refine nq_aload_n (pc' := 10) d_Machine_meetsTest_9 rfl rfl rfl ?_
  refine nq_aload_n (pc' := 11) d_Machine_meetsTest_10 rfl rfl rfl ?_
  refine nq_getf (pc' := 14) d_Machine_meetsTest_11 rfl fl_Machine_21 (by first | assumption | exact nq_ga (by assumption) | exact nq_gs (by first | assumption | exact nq_ga (by assumption) | exact nq_gs (by first | assumption | exact nq_gs (by assumption) | exact nq_gn (by first | assumption | decide | omega | exact nq_ne1 (by assumption) (by assumption) | exact nq_ne2 (by assumption) (by assumption)) (by assumption) | exact nq_ga (by assumption)) | exact nq_gn (by first | assumption | decide | omega | exact nq_ne1 (by assumption) (by assumption) | exact nq_ne2 (by assumption) (by assumption)) (by first | assumption | exact nq_gs (by assumption) | exact nq_gn (by first | assumption | decide | omega | exact nq_ne1 (by assumption) (by assumption) | exact nq_ne2 (by assumption) (by assumption)) (by assumption) | exact nq_ga (by assumption))) | exact nq_gn (by first | assumption | decide | omega | exact nq_ne1 (by assumption) (by assumption) | exact nq_ne2 (by assumption) (by assumption)) (by first | assumption | exact nq_ga (by assumption) | exact nq_gs (by first | assumption | exact nq_gs (by assumption) | exact nq_gn (by first | assumption | decide | omega | exact nq_ne1 (by assumption) (by assumption) | exact nq_ne2 (by assumption) (by assumption)) (by assumption) | exact nq_ga (by assumption)) | exact nq_gn (by first | assumption | decide | omega | exact nq_ne1 (by assumption) (by assumption) | exact nq_ne2 (by assumption) (by assumption)) (by first | assumption | exact nq_gs (by assumption) | exact nq_gn (by first | assumption | decide | omega | exact nq_ne1 (by assumption) (by assumption) | exact nq_ne2 (by assumption) (by assumption)) (by assumption) | exact nq_ga (by assumption)))) rfl ?_
  rcases ht with ht | ⟨rfl, ht⟩
  · exact absurd ht h
  refine nq_callV (pc' := 17) d_Machine_meetsTest_14 rfl cl_Machine_27 rfl (by first | assumption | exact nq_ga (by assumption) | exact nq_gs (by first | assumption | exact nq_ga (by assumption) | exact nq_gs (by first | assumption | exact nq_gs (by assumption) | exact nq_gn (by first | assumption | decide | omega | exact nq_ne1 (by assumption) (by assumption) | exact nq_ne2 (by assumption) (by assumption)) (by assumption) | exact nq_ga (by assumption)) | exact nq_gn (by first | assumption | decide | omega | exact nq_ne1 (by assumption) (by assumption) | exact nq_ne2 (by assumption) (by assumption)) (by first | assumption | exact nq_gs (by assumption) | exact nq_gn (by first | assumption | decide | omega | exact nq_ne1 (by assumption) (by assumption) | exact nq_ne2 (by assumption) (by assumption)) (by assumption) | exact nq_ga (by assumption))) | exact nq_gn (by first | assumption | decide | omega | exact nq_ne1 (by assumption) (by assumption) | exact nq_ne2 (by assumption) (by assumption)) (by first | assumption | exact nq_ga (by assumption) | exact nq_gs (by first | assumption | exact nq_gs (by assumption) | exact nq_gn (by first | assumption | decide | omega | exact nq_ne1 (by assumption) (by assumption) | exact nq_ne2 (by assumption) (by assumption)) (by assumption) | exact nq_ga (by assumption)) | exact nq_gn (by first | assumption | decide | omega | exact nq_ne1 (by assumption) (by assumption) | exact nq_ne2 (by assumption) (by assumption)) (by first | assumption | exact nq_gs (by assumption) | exact nq_gn (by first | assumption | decide | omega | exact nq_ne1 (by assumption) (by assumption) | exact nq_ne2 (by assumption) (by assumption)) (by assumption) | exact nq_ga (by assumption)))) rfl rfl (kc := 0) (ks := 0) (mc' := 0) (ms' := 0) (As := [.ref c, .int (nI tn)]) (rest := []) rfl rfl (by decide) (k_Machine_carryOut (fr0 := tn) hm hr hc hL n1 n2 n3 ht) (fun E σ1 h => Or.inr ⟨rfl, ht, h.1, h.2⟩) (fun v σ1 h => ?_)
  obtain ⟨h1, h2⟩ := h
  cases hb : (mc_run L 48 tn R).1 with
  | none => rw [hb] at h2; cases h2
  | some b =>
    rw [hb] at h2
    cases h2
    cases b with
    | true =>
      refine nq_if_eq (pc' := 20) (tgt := 24) d_Machine_meetsTest_17 rfl (by decide) (fun h' => absurd h' (by decide)) (fun _ => ?_)
      refine nq_iconst (v := 1) (pc' := 21) d_Machine_meetsTest_20 rfl (by decide) ?_
      refine nq_goto (tgt := 25) d_Machine_meetsTest_21 (by decide) ?_
      refine nq_iret d_Machine_meetsTest_25 rfl rfl (Or.inr ⟨rfl, ht, h1, rfl⟩)
    | false =>
      refine nq_if_eq (pc' := 20) (tgt := 24) d_Machine_meetsTest_17 rfl (by decide) (fun _ => ?_) (fun h' => absurd rfl h')
      refine nq_iconst (v := 0) (pc' := 25) d_Machine_meetsTest_24 rfl (by decide) ?_
      refine nq_iret d_Machine_meetsTest_25 rfl rfl (Or.inr ⟨rfl, ht, h1, rfl⟩)
end MY
