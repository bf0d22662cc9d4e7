/-! THE OTHER STORE: read -/
theorem nI_all (x : Int32) : nI x.toBitVec.toNat = x := by
  apply Int32.toBitVec_inj.mp
  apply BitVec.eq_of_toNat_eq
  show (BitVec.ofNat 32 x.toBitVec.toNat).toNat = _
  rw [BitVec.toNat_ofNat, Nat.mod_eq_of_lt x.toBitVec.isLt]
/-- whatever lies there, it is some pile of operators -/
theorem mo_pile (n : Nat) (f g : Nat → Int32) : ∃ ops : List (Nat × Nat), ops.length = n ∧ ∀ j x, ops.reverse[j]? = some x → f j = nI x.1 ∧ g j = nI x.2 := by
  refine ⟨((List.range n).map (fun j => ((f j).toBitVec.toNat, (g j).toBitVec.toNat))).reverse, by simp, fun j x hx => ?_⟩
  rw [List.reverse_reverse, List.getElem?_map] at hx
  have hj : (List.range n)[j]? = some j := by
    cases h : (List.range n)[j]? with
    | none => rw [h] at hx; cases hx
    | some y =>
      have := (List.getElem?_eq_some_iff.mp h)
      obtain ⟨h1, h2⟩ := this
      rw [List.getElem_range] at h2
      rw [h2]
  rw [hj] at hx
  cases hx
  exact ⟨(nI_all _).symm, (nI_all _).symm⟩
section MR3
variable {G : nq_G} {d : Nat} {σ : nq_S} {v : Nat → Int32} {ar : mo_Ar} {L : Nat → Nat} {N nc0 : Nat}
def mr_z (f : Nat → Int32) (k : Nat) : Nat → Int32 := fun j => if 1600 ≤ j ∧ j < 1600 + k then 0 else f j
theorem mr_z_st (f : Nat → Int32) (k : Nat) : upd (mr_z f k) (1600 + k) 0 = mr_z f (k + 1) := by
  funext j
  unfold upd mr_z
  by_cases h : j = 1600 + k
  · rw [if_pos h, if_pos (by omega)]
  · rw [if_neg h]
    by_cases h2 : 1600 ≤ j ∧ j < 1600 + k
    · rw [if_pos h2, if_pos (by omega)]
    · rw [if_neg h2, if_neg (by omega)]
theorem k_Mod_read (hW : mo_W σ v ar) (hL : rd_L (ar 0) L N) (hv0 : v 0 = nI N) (hD : 10 ≤ d) : nq_JM G d 0 0 m_Mod_read [.ref 270, .int (nI 4)] σ (mr_Q σ v ar (sp_stmt L N)) := by
  obtain ⟨d, rfl⟩ : ∃ d', d = d' + 1 := ⟨d - 1, by omega⟩
  have hN := hL.1
  have w := hW.1
  have a1 := hW.2.2.1
  have rest : ∀ (σ1 : nq_S), σ1 = σ.set 272 (.inl (0, 2000, .inl (mr_z (ar 1) 70))) → nq_J G (d + 1) 0 0 m_Mod_read 29 [some (.ref 270), some (.int (nI 4)), some (.int (nI 1600)), none] [] σ1 (mr_Q σ v ar (sp_stmt L N)) := by
    intro σ1 hσ1
    have W1 : mo_W σ1 v (ua ar 1 (mr_z (ar 1) 70)) := by rw [hσ1]; exact hW.a1
    have F1 : mo_fr σ σ1 := by rw [hσ1]; exact mo_fr.st (by decide)
    have w1 := W1.1
    have b1 := W1.2.2.1
    rw [ua_at] at b1
    refine nq_aload_n (pc' := 30) d_Mod_read_29 rfl rfl rfl ?_
    refine nq_getf (pc' := 33) d_Mod_read_30 rfl fl_Mod_13 (by first | assumption | exact nq_ga (by assumption) | exact nq_gs (by first | assumption | exact nq_ga (by assumption) | exact nq_gs (by first | assumption | exact nq_gs (by assumption) | exact nq_gn (by first | assumption | decide | omega | exact nq_ne1 (by assumption) (by assumption) | exact nq_ne2 (by assumption) (by assumption)) (by assumption) | exact nq_ga (by assumption)) | exact nq_gn (by first | assumption | decide | omega | exact nq_ne1 (by assumption) (by assumption) | exact nq_ne2 (by assumption) (by assumption)) (by first | assumption | exact nq_gs (by assumption) | exact nq_gn (by first | assumption | decide | omega | exact nq_ne1 (by assumption) (by assumption) | exact nq_ne2 (by assumption) (by assumption)) (by assumption) | exact nq_ga (by assumption))) | exact nq_gn (by first | assumption | decide | omega | exact nq_ne1 (by assumption) (by assumption) | exact nq_ne2 (by assumption) (by assumption)) (by first | assumption | exact nq_ga (by assumption) | exact nq_gs (by first | assumption | exact nq_gs (by assumption) | exact nq_gn (by first | assumption | decide | omega | exact nq_ne1 (by assumption) (by assumption) | exact nq_ne2 (by assumption) (by assumption)) (by assumption) | exact nq_ga (by assumption)) | exact nq_gn (by first | assumption | decide | omega | exact nq_ne1 (by assumption) (by assumption) | exact nq_ne2 (by assumption) (by assumption)) (by first | assumption | exact nq_gs (by assumption) | exact nq_gn (by first | assumption | decide | omega | exact nq_ne1 (by assumption) (by assumption) | exact nq_ne2 (by assumption) (by assumption)) (by assumption) | exact nq_ga (by assumption)))) rfl ?_
    refine nq_iload_n (pc' := 34) d_Mod_read_33 rfl rfl rfl ?_
    refine nq_bipush (v := 10) (pc' := 36) d_Mod_read_34 rfl (by decide) ?_
    refine nq_iadd (pc' := 37) d_Mod_read_36 rfl ?_
    refine nq_iconst (v := (-1)) (pc' := 38) d_Mod_read_37 rfl (by decide) ?_
    refine nq_iast (pc' := 39) d_Mod_read_38 rfl (by first | assumption | exact nq_ga (by assumption) | exact nq_gs (by first | assumption | exact nq_ga (by assumption) | exact nq_gs (by first | assumption | exact nq_gs (by assumption) | exact nq_gn (by first | assumption | decide | omega | exact nq_ne1 (by assumption) (by assumption) | exact nq_ne2 (by assumption) (by assumption)) (by assumption) | exact nq_ga (by assumption)) | exact nq_gn (by first | assumption | decide | omega | exact nq_ne1 (by assumption) (by assumption) | exact nq_ne2 (by assumption) (by assumption)) (by first | assumption | exact nq_gs (by assumption) | exact nq_gn (by first | assumption | decide | omega | exact nq_ne1 (by assumption) (by assumption) | exact nq_ne2 (by assumption) (by assumption)) (by assumption) | exact nq_ga (by assumption))) | exact nq_gn (by first | assumption | decide | omega | exact nq_ne1 (by assumption) (by assumption) | exact nq_ne2 (by assumption) (by assumption)) (by first | assumption | exact nq_ga (by assumption) | exact nq_gs (by first | assumption | exact nq_gs (by assumption) | exact nq_gn (by first | assumption | decide | omega | exact nq_ne1 (by assumption) (by assumption) | exact nq_ne2 (by assumption) (by assumption)) (by assumption) | exact nq_ga (by assumption)) | exact nq_gn (by first | assumption | decide | omega | exact nq_ne1 (by assumption) (by assumption) | exact nq_ne2 (by assumption) (by assumption)) (by first | assumption | exact nq_gs (by assumption) | exact nq_gn (by first | assumption | decide | omega | exact nq_ne1 (by assumption) (by assumption) | exact nq_ne2 (by assumption) (by assumption)) (by assumption) | exact nq_ga (by assumption)))) rfl (j := 1610) (by decide) (by decide) (by decide) ?_
    refine nq_aload_n (pc' := 40) d_Mod_read_39 rfl rfl rfl ?_
    refine nq_iload_n (pc' := 41) d_Mod_read_40 rfl rfl rfl ?_
    refine nq_bipush (v := 70) (pc' := 43) d_Mod_read_41 rfl (by decide) ?_
    refine nq_iadd (pc' := 44) d_Mod_read_43 rfl ?_
    refine nq_putf (pc' := 47) d_Mod_read_44 rfl fl_Mod_88 (by first | assumption | exact nq_ga (by assumption) | exact nq_gs (by first | assumption | exact nq_ga (by assumption) | exact nq_gs (by first | assumption | exact nq_gs (by assumption) | exact nq_gn (by first | assumption | decide | omega | exact nq_ne1 (by assumption) (by assumption) | exact nq_ne2 (by assumption) (by assumption)) (by assumption) | exact nq_ga (by assumption)) | exact nq_gn (by first | assumption | decide | omega | exact nq_ne1 (by assumption) (by assumption) | exact nq_ne2 (by assumption) (by assumption)) (by first | assumption | exact nq_gs (by assumption) | exact nq_gn (by first | assumption | decide | omega | exact nq_ne1 (by assumption) (by assumption) | exact nq_ne2 (by assumption) (by assumption)) (by assumption) | exact nq_ga (by assumption))) | exact nq_gn (by first | assumption | decide | omega | exact nq_ne1 (by assumption) (by assumption) | exact nq_ne2 (by assumption) (by assumption)) (by first | assumption | exact nq_ga (by assumption) | exact nq_gs (by first | assumption | exact nq_gs (by assumption) | exact nq_gn (by first | assumption | decide | omega | exact nq_ne1 (by assumption) (by assumption) | exact nq_ne2 (by assumption) (by assumption)) (by assumption) | exact nq_ga (by assumption)) | exact nq_gn (by first | assumption | decide | omega | exact nq_ne1 (by assumption) (by assumption) | exact nq_ne2 (by assumption) (by assumption)) (by first | assumption | exact nq_gs (by assumption) | exact nq_gn (by first | assumption | decide | omega | exact nq_ne1 (by assumption) (by assumption) | exact nq_ne2 (by assumption) (by assumption)) (by assumption) | exact nq_ga (by assumption)))) (Nat.le_of_ble_eq_true rfl) rfl rfl ?_
    try rw [nq_ss]
    refine nq_aload_n (pc' := 48) d_Mod_read_47 rfl rfl rfl ?_
    refine nq_iconst (v := 0) (pc' := 49) d_Mod_read_48 rfl (by decide) ?_
    refine nq_putf (pc' := 52) d_Mod_read_49 rfl fl_Mod_81 (by first | assumption | exact nq_ga (by assumption) | exact nq_gs (by first | assumption | exact nq_ga (by assumption) | exact nq_gs (by first | assumption | exact nq_gs (by assumption) | exact nq_gn (by first | assumption | decide | omega | exact nq_ne1 (by assumption) (by assumption) | exact nq_ne2 (by assumption) (by assumption)) (by assumption) | exact nq_ga (by assumption)) | exact nq_gn (by first | assumption | decide | omega | exact nq_ne1 (by assumption) (by assumption) | exact nq_ne2 (by assumption) (by assumption)) (by first | assumption | exact nq_gs (by assumption) | exact nq_gn (by first | assumption | decide | omega | exact nq_ne1 (by assumption) (by assumption) | exact nq_ne2 (by assumption) (by assumption)) (by assumption) | exact nq_ga (by assumption))) | exact nq_gn (by first | assumption | decide | omega | exact nq_ne1 (by assumption) (by assumption) | exact nq_ne2 (by assumption) (by assumption)) (by first | assumption | exact nq_ga (by assumption) | exact nq_gs (by first | assumption | exact nq_gs (by assumption) | exact nq_gn (by first | assumption | decide | omega | exact nq_ne1 (by assumption) (by assumption) | exact nq_ne2 (by assumption) (by assumption)) (by assumption) | exact nq_ga (by assumption)) | exact nq_gn (by first | assumption | decide | omega | exact nq_ne1 (by assumption) (by assumption) | exact nq_ne2 (by assumption) (by assumption)) (by first | assumption | exact nq_gs (by assumption) | exact nq_gn (by first | assumption | decide | omega | exact nq_ne1 (by assumption) (by assumption) | exact nq_ne2 (by assumption) (by assumption)) (by assumption) | exact nq_ga (by assumption)))) (Nat.le_of_ble_eq_true rfl) rfl rfl ?_
    try rw [nq_ss]
    refine nq_aload_n (pc' := 53) d_Mod_read_52 rfl rfl rfl ?_
    refine nq_iconst (v := 0) (pc' := 54) d_Mod_read_53 rfl (by decide) ?_
    refine nq_putf (pc' := 57) d_Mod_read_54 rfl fl_Mod_102 (by first | assumption | exact nq_ga (by assumption) | exact nq_gs (by first | assumption | exact nq_ga (by assumption) | exact nq_gs (by first | assumption | exact nq_gs (by assumption) | exact nq_gn (by first | assumption | decide | omega | exact nq_ne1 (by assumption) (by assumption) | exact nq_ne2 (by assumption) (by assumption)) (by assumption) | exact nq_ga (by assumption)) | exact nq_gn (by first | assumption | decide | omega | exact nq_ne1 (by assumption) (by assumption) | exact nq_ne2 (by assumption) (by assumption)) (by first | assumption | exact nq_gs (by assumption) | exact nq_gn (by first | assumption | decide | omega | exact nq_ne1 (by assumption) (by assumption) | exact nq_ne2 (by assumption) (by assumption)) (by assumption) | exact nq_ga (by assumption))) | exact nq_gn (by first | assumption | decide | omega | exact nq_ne1 (by assumption) (by assumption) | exact nq_ne2 (by assumption) (by assumption)) (by first | assumption | exact nq_ga (by assumption) | exact nq_gs (by first | assumption | exact nq_gs (by assumption) | exact nq_gn (by first | assumption | decide | omega | exact nq_ne1 (by assumption) (by assumption) | exact nq_ne2 (by assumption) (by assumption)) (by assumption) | exact nq_ga (by assumption)) | exact nq_gn (by first | assumption | decide | omega | exact nq_ne1 (by assumption) (by assumption) | exact nq_ne2 (by assumption) (by assumption)) (by first | assumption | exact nq_gs (by assumption) | exact nq_gn (by first | assumption | decide | omega | exact nq_ne1 (by assumption) (by assumption) | exact nq_ne2 (by assumption) (by assumption)) (by assumption) | exact nq_ga (by assumption)))) (Nat.le_of_ble_eq_true rfl) rfl rfl ?_
    try rw [nq_ss]
    refine nq_gen (P := fun w => nq_J _ _ _ _ _ _ _ _ w _) (fun σ2 hσ2 => ?_)
    have W2 : mo_W σ2 (upd (upd (upd v 3 (nI 1670)) 2 0) 4 0) (ua (ua ar 1 (mr_z (ar 1) 70)) 1 (upd (mr_z (ar 1) 70) 1610 (-1))) := by
      rw [hσ2]
      exact mo_W.fi (v' := upd (upd (upd v 3 (nI 1670)) 2 0) 4 0) (mo_W.a1 (f := upd (mr_z (ar 1) 70) 1610 (-1)) W1)
    have F2 : mo_fr σ σ2 := F1.tr (by rw [hσ2]; exact (mo_fr.st (by decide)).tr (mo_fr.st (by decide)))
    have low : ∀ j, j < 1600 → ua (ua ar 1 (mr_z (ar 1) 70)) 1 (upd (mr_z (ar 1) 70) 1610 (-1)) 1 j = ar 1 j := fun j hj => by
      rw [ua_at, upd_ne (by omega)]
      unfold mr_z
      rw [if_neg (by omega)]
    have oth : ∀ k, k ≠ 1 → ua (ua ar 1 (mr_z (ar 1) 70)) 1 (upd (mr_z (ar 1) 70) 1610 (-1)) k = ar k := fun k hk => by rw [ua_ne hk, ua_ne hk]
    have hz : ∀ j, j < 70 → j ≠ 10 → mo_hd (ua (ua ar 1 (mr_z (ar 1) 70)) 1 (upd (mr_z (ar 1) 70) 1610 (-1))) j = nI 0 := fun j hj hn => by
      unfold mo_hd
      rw [ua_at, upd_ne (by omega)]
      unfold mr_z
      rw [if_pos (by omega)]
      rfl
    have h10 : mo_hd (ua (ua ar 1 (mr_z (ar 1) 70)) 1 (upd (mr_z (ar 1) 70) 1610 (-1))) 10 = -1 := by
      unfold mo_hd
      rw [ua_at, upd_at]
    have hL2 : rd_L (ua (ua ar 1 (mr_z (ar 1) 70)) 1 (upd (mr_z (ar 1) 70) 1610 (-1)) 0) L N := hL
    generalize ua (ua ar 1 (mr_z (ar 1) 70)) 1 (upd (mr_z (ar 1) 70) 1610 (-1)) = ar2 at W2 low oth hz h10 hL2
    have S2 : mt_S σ2 (upd (upd (upd v 3 (nI 1670)) 2 0) 4 0) ar2 L N (v 5).toBitVec.toNat 0 [] 0 := by
      obtain ⟨ops, o1, o2⟩ := mo_pile (v 6).toBitVec.toNat (ar2 7) (ar2 8)
      exact ⟨⟨ops, W2, hL2, hv0, (nI_all _).symm, rfl, rfl, fun j x hx => by simp at hx, by rw [o1]; exact (nI_all _).symm, o2, rfl⟩, by simp, by omega, by omega⟩
    have w2 := W2.1
    refine nq_aload_n (pc' := 58) d_Mod_read_57 rfl rfl rfl ?_
    refine nq_iload_n (pc' := 59) d_Mod_read_58 rfl rfl rfl ?_
    refine nq_callV (pc' := 62) d_Mod_read_59 rfl cl_Mod_141 rfl (by first | assumption | exact nq_ga (by assumption) | exact nq_gs (by first | assumption | exact nq_ga (by assumption) | exact nq_gs (by first | assumption | exact nq_gs (by assumption) | exact nq_gn (by first | assumption | decide | omega | exact nq_ne1 (by assumption) (by assumption) | exact nq_ne2 (by assumption) (by assumption)) (by assumption) | exact nq_ga (by assumption)) | exact nq_gn (by first | assumption | decide | omega | exact nq_ne1 (by assumption) (by assumption) | exact nq_ne2 (by assumption) (by assumption)) (by first | assumption | exact nq_gs (by assumption) | exact nq_gn (by first | assumption | decide | omega | exact nq_ne1 (by assumption) (by assumption) | exact nq_ne2 (by assumption) (by assumption)) (by assumption) | exact nq_ga (by assumption))) | exact nq_gn (by first | assumption | decide | omega | exact nq_ne1 (by assumption) (by assumption) | exact nq_ne2 (by assumption) (by assumption)) (by first | assumption | exact nq_ga (by assumption) | exact nq_gs (by first | assumption | exact nq_gs (by assumption) | exact nq_gn (by first | assumption | decide | omega | exact nq_ne1 (by assumption) (by assumption) | exact nq_ne2 (by assumption) (by assumption)) (by assumption) | exact nq_ga (by assumption)) | exact nq_gn (by first | assumption | decide | omega | exact nq_ne1 (by assumption) (by assumption) | exact nq_ne2 (by assumption) (by assumption)) (by first | assumption | exact nq_gs (by assumption) | exact nq_gn (by first | assumption | decide | omega | exact nq_ne1 (by assumption) (by assumption) | exact nq_ne2 (by assumption) (by assumption)) (by assumption) | exact nq_ga (by assumption)))) rfl rfl (kc := 0) (ks := 0) (mc' := 0) (ms' := 0) (As := [.int (nI 1600)]) (rest := []) rfl rfl (by decide) (k_Mod_statement S2 hz h10 (by omega)) (fun E σ3 hq => ?_) (fun z σ3 hq => ?_)
    · obtain ⟨_, _, _, _, hq⟩ := hq
      cases hx : sp_sto L with
      | inl p => rw [hx] at hq; cases hq.1
      | inr w => rw [hx] at hq; cases hq.1
    obtain ⟨f3, v3, ar3, k3, hq⟩ := hq
    have F3 := F2.tr f3
    have kv : ∀ k, k < 2 ∨ 6 < k → v3 k = v k := fun k hk => by rw [k3.1 k hk, upd_ne (by omega), upd_ne (by omega), upd_ne (by omega)]
    have ka : ∀ k, k ≠ 1 → k ≠ 7 → k ≠ 8 → k ≠ 9 → ar3 k = ar k := fun k a b c e => by rw [k3.2.1 k a b c e, oth k a]
    have kl : ∀ j, j < 1600 → ar3 1 j = ar 1 j := fun j hj => by rw [k3.2.2 j hj, low j hj]
    have no : ∀ (p : Nat), mo_W σ3 v3 ar3 → v3 2 = nI p → sp_stmt L N = .inl p → nq_J G (d + 1) 0 0 m_Mod_read 80 [some (.ref 270), some (.int (nI 4)), some (.int (nI 1600)), none] [] σ3 (mr_Q σ v ar (sp_stmt L N)) := by
      intro p W3 hp2 hs
      rw [hs]
      have w3 := W3.1
      refine nq_iconst (v := 0) (pc' := 81) d_Mod_read_80 rfl (by decide) ?_
      refine nq_istore_n (pc' := 82) d_Mod_read_81 rfl rfl (by decide) rfl ?_
      refine nq_iload_n (pc' := 83) d_Mod_read_82 rfl rfl rfl ?_
      refine nq_if_ne (pc' := 86) (tgt := 94) d_Mod_read_83 rfl (by decide) (fun h => absurd rfl h) (fun _ => ?_)
      refine nq_aload_n (pc' := 87) d_Mod_read_86 rfl rfl rfl ?_
      refine nq_aload_n (pc' := 88) d_Mod_read_87 rfl rfl rfl ?_
      refine nq_getf (pc' := 91) d_Mod_read_88 rfl fl_Mod_81 (by first | assumption | exact nq_ga (by assumption) | exact nq_gs (by first | assumption | exact nq_ga (by assumption) | exact nq_gs (by first | assumption | exact nq_gs (by assumption) | exact nq_gn (by first | assumption | decide | omega | exact nq_ne1 (by assumption) (by assumption) | exact nq_ne2 (by assumption) (by assumption)) (by assumption) | exact nq_ga (by assumption)) | exact nq_gn (by first | assumption | decide | omega | exact nq_ne1 (by assumption) (by assumption) | exact nq_ne2 (by assumption) (by assumption)) (by first | assumption | exact nq_gs (by assumption) | exact nq_gn (by first | assumption | decide | omega | exact nq_ne1 (by assumption) (by assumption) | exact nq_ne2 (by assumption) (by assumption)) (by assumption) | exact nq_ga (by assumption))) | exact nq_gn (by first | assumption | decide | omega | exact nq_ne1 (by assumption) (by assumption) | exact nq_ne2 (by assumption) (by assumption)) (by first | assumption | exact nq_ga (by assumption) | exact nq_gs (by first | assumption | exact nq_gs (by assumption) | exact nq_gn (by first | assumption | decide | omega | exact nq_ne1 (by assumption) (by assumption) | exact nq_ne2 (by assumption) (by assumption)) (by assumption) | exact nq_ga (by assumption)) | exact nq_gn (by first | assumption | decide | omega | exact nq_ne1 (by assumption) (by assumption) | exact nq_ne2 (by assumption) (by assumption)) (by first | assumption | exact nq_gs (by assumption) | exact nq_gn (by first | assumption | decide | omega | exact nq_ne1 (by assumption) (by assumption) | exact nq_ne2 (by assumption) (by assumption)) (by assumption) | exact nq_ga (by assumption)))) rfl ?_
      refine nq_putf (pc' := 94) d_Mod_read_91 rfl fl_Mod_32 (by first | assumption | exact nq_ga (by assumption) | exact nq_gs (by first | assumption | exact nq_ga (by assumption) | exact nq_gs (by first | assumption | exact nq_gs (by assumption) | exact nq_gn (by first | assumption | decide | omega | exact nq_ne1 (by assumption) (by assumption) | exact nq_ne2 (by assumption) (by assumption)) (by assumption) | exact nq_ga (by assumption)) | exact nq_gn (by first | assumption | decide | omega | exact nq_ne1 (by assumption) (by assumption) | exact nq_ne2 (by assumption) (by assumption)) (by first | assumption | exact nq_gs (by assumption) | exact nq_gn (by first | assumption | decide | omega | exact nq_ne1 (by assumption) (by assumption) | exact nq_ne2 (by assumption) (by assumption)) (by assumption) | exact nq_ga (by assumption))) | exact nq_gn (by first | assumption | decide | omega | exact nq_ne1 (by assumption) (by assumption) | exact nq_ne2 (by assumption) (by assumption)) (by first | assumption | exact nq_ga (by assumption) | exact nq_gs (by first | assumption | exact nq_gs (by assumption) | exact nq_gn (by first | assumption | decide | omega | exact nq_ne1 (by assumption) (by assumption) | exact nq_ne2 (by assumption) (by assumption)) (by assumption) | exact nq_ga (by assumption)) | exact nq_gn (by first | assumption | decide | omega | exact nq_ne1 (by assumption) (by assumption) | exact nq_ne2 (by assumption) (by assumption)) (by first | assumption | exact nq_gs (by assumption) | exact nq_gn (by first | assumption | decide | omega | exact nq_ne1 (by assumption) (by assumption) | exact nq_ne2 (by assumption) (by assumption)) (by assumption) | exact nq_ga (by assumption)))) (Nat.le_of_ble_eq_true rfl) rfl rfl ?_
      try rw [nq_ss]
      refine nq_aload_n (pc' := 95) d_Mod_read_94 rfl rfl rfl ?_
      refine nq_iconst (v := 0) (pc' := 96) d_Mod_read_95 rfl (by decide) ?_
      refine nq_putf (pc' := 99) d_Mod_read_96 rfl fl_Mod_74 (by first | assumption | exact nq_ga (by assumption) | exact nq_gs (by first | assumption | exact nq_ga (by assumption) | exact nq_gs (by first | assumption | exact nq_gs (by assumption) | exact nq_gn (by first | assumption | decide | omega | exact nq_ne1 (by assumption) (by assumption) | exact nq_ne2 (by assumption) (by assumption)) (by assumption) | exact nq_ga (by assumption)) | exact nq_gn (by first | assumption | decide | omega | exact nq_ne1 (by assumption) (by assumption) | exact nq_ne2 (by assumption) (by assumption)) (by first | assumption | exact nq_gs (by assumption) | exact nq_gn (by first | assumption | decide | omega | exact nq_ne1 (by assumption) (by assumption) | exact nq_ne2 (by assumption) (by assumption)) (by assumption) | exact nq_ga (by assumption))) | exact nq_gn (by first | assumption | decide | omega | exact nq_ne1 (by assumption) (by assumption) | exact nq_ne2 (by assumption) (by assumption)) (by first | assumption | exact nq_ga (by assumption) | exact nq_gs (by first | assumption | exact nq_gs (by assumption) | exact nq_gn (by first | assumption | decide | omega | exact nq_ne1 (by assumption) (by assumption) | exact nq_ne2 (by assumption) (by assumption)) (by assumption) | exact nq_ga (by assumption)) | exact nq_gn (by first | assumption | decide | omega | exact nq_ne1 (by assumption) (by assumption) | exact nq_ne2 (by assumption) (by assumption)) (by first | assumption | exact nq_gs (by assumption) | exact nq_gn (by first | assumption | decide | omega | exact nq_ne1 (by assumption) (by assumption) | exact nq_ne2 (by assumption) (by assumption)) (by assumption) | exact nq_ga (by assumption)))) (Nat.le_of_ble_eq_true rfl) rfl rfl ?_
      try rw [nq_ss]
      refine nq_iload_n (pc' := 100) d_Mod_read_99 rfl rfl rfl ?_
      refine nq_iret d_Mod_read_100 rfl rfl ?_
      refine ⟨F3.tr (mo_fr.st (by decide)), upd (upd v3 1 (v3 2)) 0 0, ar3, mo_W.fi (v' := upd (upd v3 1 (v3 2)) 0 0) W3, ⟨fun k hk => ?_, ka, kl, rfl, _, (nI_all _).symm⟩, rfl, hp2⟩
      rw [upd_ne (by omega), upd_ne (by omega)]
      exact kv k (by omega)
    cases hx : sp_sto L with
    | inl p =>
      rw [hx] at hq
      obtain ⟨e1, hf⟩ := hq
      cases e1
      refine nq_if_eq (pc' := 65) (tgt := 80) d_Mod_read_62 rfl (by decide) (fun _ => ?_) (fun h => absurd rfl h)
      exact no p hf.1 hf.2 (by rw [sp_stmt_sto, hx])
    | inr w3 =>
      obtain ⟨s, j⟩ := w3
      rw [hx] at hq
      obtain ⟨e1, nc, out, S3, M3⟩ := hq
      cases e1
      obtain ⟨⟨ops3, hp3⟩, m1, m2, m3⟩ := id S3
      have W3 := hp3.1
      have w3 := W3.1
      have p2 := hp3.2.2.2.2.1
      have p0 : v3 0 = nI N := hp3.2.2.1
      have p4 := hp3.2.2.2.2.2.2.2.2.2
      refine nq_if_eq (pc' := 65) (tgt := 80) d_Mod_read_62 rfl (by decide) (fun h => absurd h (by decide)) (fun _ => ?_)
      refine nq_aload_n (pc' := 66) d_Mod_read_65 rfl rfl rfl ?_
      refine nq_getf (pc' := 69) d_Mod_read_66 rfl fl_Mod_81 (by first | assumption | exact nq_ga (by assumption) | exact nq_gs (by first | assumption | exact nq_ga (by assumption) | exact nq_gs (by first | assumption | exact nq_gs (by assumption) | exact nq_gn (by first | assumption | decide | omega | exact nq_ne1 (by assumption) (by assumption) | exact nq_ne2 (by assumption) (by assumption)) (by assumption) | exact nq_ga (by assumption)) | exact nq_gn (by first | assumption | decide | omega | exact nq_ne1 (by assumption) (by assumption) | exact nq_ne2 (by assumption) (by assumption)) (by first | assumption | exact nq_gs (by assumption) | exact nq_gn (by first | assumption | decide | omega | exact nq_ne1 (by assumption) (by assumption) | exact nq_ne2 (by assumption) (by assumption)) (by assumption) | exact nq_ga (by assumption))) | exact nq_gn (by first | assumption | decide | omega | exact nq_ne1 (by assumption) (by assumption) | exact nq_ne2 (by assumption) (by assumption)) (by first | assumption | exact nq_ga (by assumption) | exact nq_gs (by first | assumption | exact nq_gs (by assumption) | exact nq_gn (by first | assumption | decide | omega | exact nq_ne1 (by assumption) (by assumption) | exact nq_ne2 (by assumption) (by assumption)) (by assumption) | exact nq_ga (by assumption)) | exact nq_gn (by first | assumption | decide | omega | exact nq_ne1 (by assumption) (by assumption) | exact nq_ne2 (by assumption) (by assumption)) (by first | assumption | exact nq_gs (by assumption) | exact nq_gn (by first | assumption | decide | omega | exact nq_ne1 (by assumption) (by assumption) | exact nq_ne2 (by assumption) (by assumption)) (by assumption) | exact nq_ga (by assumption)))) rfl ?_
      refine nq_aload_n (pc' := 70) d_Mod_read_69 rfl rfl rfl ?_
      refine nq_getf (pc' := 73) d_Mod_read_70 rfl fl_Mod_74 (by first | assumption | exact nq_ga (by assumption) | exact nq_gs (by first | assumption | exact nq_ga (by assumption) | exact nq_gs (by first | assumption | exact nq_gs (by assumption) | exact nq_gn (by first | assumption | decide | omega | exact nq_ne1 (by assumption) (by assumption) | exact nq_ne2 (by assumption) (by assumption)) (by assumption) | exact nq_ga (by assumption)) | exact nq_gn (by first | assumption | decide | omega | exact nq_ne1 (by assumption) (by assumption) | exact nq_ne2 (by assumption) (by assumption)) (by first | assumption | exact nq_gs (by assumption) | exact nq_gn (by first | assumption | decide | omega | exact nq_ne1 (by assumption) (by assumption) | exact nq_ne2 (by assumption) (by assumption)) (by assumption) | exact nq_ga (by assumption))) | exact nq_gn (by first | assumption | decide | omega | exact nq_ne1 (by assumption) (by assumption) | exact nq_ne2 (by assumption) (by assumption)) (by first | assumption | exact nq_ga (by assumption) | exact nq_gs (by first | assumption | exact nq_gs (by assumption) | exact nq_gn (by first | assumption | decide | omega | exact nq_ne1 (by assumption) (by assumption) | exact nq_ne2 (by assumption) (by assumption)) (by assumption) | exact nq_ga (by assumption)) | exact nq_gn (by first | assumption | decide | omega | exact nq_ne1 (by assumption) (by assumption) | exact nq_ne2 (by assumption) (by assumption)) (by first | assumption | exact nq_gs (by assumption) | exact nq_gn (by first | assumption | decide | omega | exact nq_ne1 (by assumption) (by assumption) | exact nq_ne2 (by assumption) (by assumption)) (by assumption) | exact nq_ga (by assumption)))) rfl ?_
      rw [p2, p0]
      by_cases hjn : j = N
      · have hs : sp_stmt L N = .inr s := by rw [sp_stmt_sto, hx]; simp only; rw [if_neg (by omega)]
        have hok := sp_stmt_ok hN hL.lt hs
        rw [hs, hjn]
        refine nq_icmp_ne (pc' := 76) (tgt := 80) d_Mod_read_73 rfl (by decide) (fun h => absurd rfl h) (fun _ => ?_)
        refine nq_iconst (v := 1) (pc' := 77) d_Mod_read_76 rfl (by decide) ?_
        refine nq_goto (tgt := 81) d_Mod_read_77 (by decide) ?_
        refine nq_istore_n (pc' := 82) d_Mod_read_81 rfl rfl (by decide) rfl ?_
        refine nq_iload_n (pc' := 83) d_Mod_read_82 rfl rfl rfl ?_
        refine nq_if_ne (pc' := 86) (tgt := 94) d_Mod_read_83 rfl (by decide) (fun _ => ?_) (fun h => absurd h (by decide))
        refine nq_aload_n (pc' := 95) d_Mod_read_94 rfl rfl rfl ?_
        refine nq_iconst (v := 0) (pc' := 96) d_Mod_read_95 rfl (by decide) ?_
        refine nq_putf (pc' := 99) d_Mod_read_96 rfl fl_Mod_74 (by first | assumption | exact nq_ga (by assumption) | exact nq_gs (by first | assumption | exact nq_ga (by assumption) | exact nq_gs (by first | assumption | exact nq_gs (by assumption) | exact nq_gn (by first | assumption | decide | omega | exact nq_ne1 (by assumption) (by assumption) | exact nq_ne2 (by assumption) (by assumption)) (by assumption) | exact nq_ga (by assumption)) | exact nq_gn (by first | assumption | decide | omega | exact nq_ne1 (by assumption) (by assumption) | exact nq_ne2 (by assumption) (by assumption)) (by first | assumption | exact nq_gs (by assumption) | exact nq_gn (by first | assumption | decide | omega | exact nq_ne1 (by assumption) (by assumption) | exact nq_ne2 (by assumption) (by assumption)) (by assumption) | exact nq_ga (by assumption))) | exact nq_gn (by first | assumption | decide | omega | exact nq_ne1 (by assumption) (by assumption) | exact nq_ne2 (by assumption) (by assumption)) (by first | assumption | exact nq_ga (by assumption) | exact nq_gs (by first | assumption | exact nq_gs (by assumption) | exact nq_gn (by first | assumption | decide | omega | exact nq_ne1 (by assumption) (by assumption) | exact nq_ne2 (by assumption) (by assumption)) (by assumption) | exact nq_ga (by assumption)) | exact nq_gn (by first | assumption | decide | omega | exact nq_ne1 (by assumption) (by assumption) | exact nq_ne2 (by assumption) (by assumption)) (by first | assumption | exact nq_gs (by assumption) | exact nq_gn (by first | assumption | decide | omega | exact nq_ne1 (by assumption) (by assumption) | exact nq_ne2 (by assumption) (by assumption)) (by assumption) | exact nq_ga (by assumption)))) (Nat.le_of_ble_eq_true rfl) rfl rfl ?_
        refine nq_iload_n (pc' := 100) d_Mod_read_99 rfl rfl rfl ?_
        refine nq_iret d_Mod_read_100 rfl rfl ?_
        refine ⟨F3.tr (mo_fr.st (by decide)), upd v3 0 0, ar3, mo_W.fi (v' := upd v3 0 0) W3, ⟨fun k hk => ?_, ka, kl, rfl, _, (nI_all _).symm⟩, rfl, ?_, p4, hok, out, by omega, hp3.2.2.2.2.2.2.1, M3⟩
        · rw [upd_ne (by omega)]
          exact kv k (by omega)
        · rw [upd_ne (by decide)]
          exact kv 1 (by omega)
      · have hs : sp_stmt L N = .inl j := by rw [sp_stmt_sto, hx]; simp only; rw [if_pos (by omega)]
        refine nq_icmp_ne (pc' := 76) (tgt := 80) d_Mod_read_73 rfl (by decide) (fun _ => no j W3 p2 hs) (fun h => absurd (nI_inj (by omega) (by omega) h) hjn)
  have loop : ∀ (n k : Nat) (σ1 : nq_S), n + k = 70 → σ1 = σ.set 272 (.inl (0, 2000, .inl (mr_z (ar 1) k))) → nq_J G (d + 1) 0 0 m_Mod_read 8 [some (.ref 270), some (.int (nI 4)), some (.int (nI 1600)), some (.int (nI k))] [] σ1 (mr_Q σ v ar (sp_stmt L N)) := by
    intro n
    induction n with
    | zero =>
      intro k σ1 hn hσ1
      have hk : k = 70 := by omega
      subst hk
      refine nq_iload_n (pc' := 9) d_Mod_read_8 rfl rfl rfl ?_
      refine nq_bipush (v := 70) (pc' := 11) d_Mod_read_9 rfl (by decide) ?_
      refine nq_icmp_ge (pc' := 14) (tgt := 29) d_Mod_read_11 rfl (by decide) (fun _ => ?_) (fun h => absurd (Int32.le_refl _) h)
      exact nq_J.fo 3 (rest σ1 hσ1)
    | succ n ih =>
      intro k σ1 hn hσ1
      have w1 : σ1[270]? = some (mo_F v) := by rw [hσ1]; exact nq_gn (by decide) w
      have b1 : σ1[272]? = some (.inl (0, 2000, .inl (mr_z (ar 1) k))) := by rw [hσ1]; exact nq_gs a1
      refine nq_iload_n (pc' := 9) d_Mod_read_8 rfl rfl rfl ?_
      refine nq_bipush (v := 70) (pc' := 11) d_Mod_read_9 rfl (by decide) ?_
      refine nq_icmp_ge (pc' := 14) (tgt := 29) d_Mod_read_11 rfl (by decide) (fun h => absurd ((nI_leI (a := 70) (by omega) (by omega)).mp h) (by omega)) (fun _ => ?_)
      refine nq_aload_n (pc' := 15) d_Mod_read_14 rfl rfl rfl ?_
      refine nq_getf (pc' := 18) d_Mod_read_15 rfl fl_Mod_13 (by first | assumption | exact nq_ga (by assumption) | exact nq_gs (by first | assumption | exact nq_ga (by assumption) | exact nq_gs (by first | assumption | exact nq_gs (by assumption) | exact nq_gn (by first | assumption | decide | omega | exact nq_ne1 (by assumption) (by assumption) | exact nq_ne2 (by assumption) (by assumption)) (by assumption) | exact nq_ga (by assumption)) | exact nq_gn (by first | assumption | decide | omega | exact nq_ne1 (by assumption) (by assumption) | exact nq_ne2 (by assumption) (by assumption)) (by first | assumption | exact nq_gs (by assumption) | exact nq_gn (by first | assumption | decide | omega | exact nq_ne1 (by assumption) (by assumption) | exact nq_ne2 (by assumption) (by assumption)) (by assumption) | exact nq_ga (by assumption))) | exact nq_gn (by first | assumption | decide | omega | exact nq_ne1 (by assumption) (by assumption) | exact nq_ne2 (by assumption) (by assumption)) (by first | assumption | exact nq_ga (by assumption) | exact nq_gs (by first | assumption | exact nq_gs (by assumption) | exact nq_gn (by first | assumption | decide | omega | exact nq_ne1 (by assumption) (by assumption) | exact nq_ne2 (by assumption) (by assumption)) (by assumption) | exact nq_ga (by assumption)) | exact nq_gn (by first | assumption | decide | omega | exact nq_ne1 (by assumption) (by assumption) | exact nq_ne2 (by assumption) (by assumption)) (by first | assumption | exact nq_gs (by assumption) | exact nq_gn (by first | assumption | decide | omega | exact nq_ne1 (by assumption) (by assumption) | exact nq_ne2 (by assumption) (by assumption)) (by assumption) | exact nq_ga (by assumption)))) rfl ?_
      refine nq_iload_n (pc' := 19) d_Mod_read_18 rfl rfl rfl ?_
      refine nq_iload_n (pc' := 20) d_Mod_read_19 rfl rfl rfl ?_
      refine nq_iadd (pc' := 21) d_Mod_read_20 rfl ?_
      refine nq_iconst (v := 0) (pc' := 22) d_Mod_read_21 rfl (by decide) ?_
      refine nq_iast (pc' := 23) d_Mod_read_22 rfl (by first | assumption | exact nq_ga (by assumption) | exact nq_gs (by first | assumption | exact nq_ga (by assumption) | exact nq_gs (by first | assumption | exact nq_gs (by assumption) | exact nq_gn (by first | assumption | decide | omega | exact nq_ne1 (by assumption) (by assumption) | exact nq_ne2 (by assumption) (by assumption)) (by assumption) | exact nq_ga (by assumption)) | exact nq_gn (by first | assumption | decide | omega | exact nq_ne1 (by assumption) (by assumption) | exact nq_ne2 (by assumption) (by assumption)) (by first | assumption | exact nq_gs (by assumption) | exact nq_gn (by first | assumption | decide | omega | exact nq_ne1 (by assumption) (by assumption) | exact nq_ne2 (by assumption) (by assumption)) (by assumption) | exact nq_ga (by assumption))) | exact nq_gn (by first | assumption | decide | omega | exact nq_ne1 (by assumption) (by assumption) | exact nq_ne2 (by assumption) (by assumption)) (by first | assumption | exact nq_ga (by assumption) | exact nq_gs (by first | assumption | exact nq_gs (by assumption) | exact nq_gn (by first | assumption | decide | omega | exact nq_ne1 (by assumption) (by assumption) | exact nq_ne2 (by assumption) (by assumption)) (by assumption) | exact nq_ga (by assumption)) | exact nq_gn (by first | assumption | decide | omega | exact nq_ne1 (by assumption) (by assumption) | exact nq_ne2 (by assumption) (by assumption)) (by first | assumption | exact nq_gs (by assumption) | exact nq_gn (by first | assumption | decide | omega | exact nq_ne1 (by assumption) (by assumption) | exact nq_ne2 (by assumption) (by assumption)) (by assumption) | exact nq_ga (by assumption)))) rfl (j := 1600 + k) (nI_add _ _) (by omega) (by decide) ?_
      rw [mr_z_st]
      refine nq_iinc (pc' := 26) d_Mod_read_23 rfl rfl (v := nI (k + 1)) (nI_1 k) (by decide) rfl ?_
      refine nq_goto (tgt := 8) d_Mod_read_26 (by decide) ?_
      exact ih (k + 1) _ (by omega) (by rw [hσ1, nq_ss])
  refine nq_mk' (lv := [some (.ref 270), some (.int (nI 4)), none, none]) (by decide +kernel) rfl (Nat.le_of_ble_eq_true rfl) rfl ?_
  refine nq_iload_n (pc' := 1) d_Mod_read_0 rfl rfl rfl ?_
  refine nq_sipush (v := 400) (pc' := 4) d_Mod_read_1 rfl (by decide) ?_
  refine nq_imul (pc' := 5) d_Mod_read_4 rfl ?_
  refine nq_istore_n (pc' := 6) d_Mod_read_5 rfl rfl (by decide) rfl ?_
  refine nq_iconst (v := 0) (pc' := 7) d_Mod_read_6 rfl (by decide) ?_
  refine nq_istore_n (pc' := 8) d_Mod_read_7 rfl rfl (by decide) rfl ?_
  refine loop 70 0 σ rfl ?_
  have : mr_z (ar 1) 0 = ar 1 := by
    funext j
    unfold mr_z
    rw [if_neg (by omega)]
  rw [this, nq_set_self a1]
end MR3
