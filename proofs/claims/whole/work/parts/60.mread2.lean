/-! THE OTHER STORE: statement and read -/
def ms_H (hd : Nat → Int32) (out : List Int32) (s : sp_St) : Prop := hd 0 = nI s.1 ∧ hd 1 = nI s.2.1 ∧ (s.2.2.1 < 3 → hd 2 = nI s.2.2.1) ∧ mv_vs hd out s.2.2.2.1 ∧ hd 9 = nI s.2.2.2.2.1 ∧ mv_cs hd out s.2.2.2.2.2.1 ∧ hd 10 = rd_od s.2.2.2.2.2.2
/-- the statement s lies in the region at h -/
def md_R (cd : Nat → Int32) (h : Nat) (s : sp_St) : Prop := sp_ok s ∧ ∃ out : List Int32, out.length ≤ 200 ∧ (∀ j x, out[j]? = some x → cd (h + 70 + j) = x) ∧ ms_H (fun j => cd (h + j)) out s
def mr_k (v : Nat → Int32) (ar : mo_Ar) (v' : Nat → Int32) (ar' : mo_Ar) : Prop := (∀ k, 6 < k → v' k = v k) ∧ (∀ k, k ≠ 1 → k ≠ 7 → k ≠ 8 → k ≠ 9 → ar' k = ar k) ∧ (∀ j, j < 1600 → ar' 1 j = ar 1 j) ∧ v' 0 = 0 ∧ ∃ nc, v' 5 = nI nc
def mr_Q (σ : nq_S) (v : Nat → Int32) (ar : mo_Ar) (res : Nat ⊕ sp_St) : nq_Q := fun o σ' => mo_fr σ σ' ∧ ∃ v' ar', mo_W σ' v' ar' ∧ mr_k v ar v' ar' ∧ match res with
  | .inl p => o = .inl (some (.int 0)) ∧ v' 1 = nI p
  | .inr s => o = .inl (some (.int 1)) ∧ v' 1 = v 1 ∧ v' 4 = nI (cl_q s) ∧ md_R (ar' 1) 1600 s
section MR
variable {G : nq_G} {d : Nat} {σ : nq_S} {v : Nat → Int32} {ar : mo_Ar} {L : Nat → Nat} {N : Nat}
theorem mt_S.cols {nc nc' i q : Nat} {out : List Int32} (h : mt_S σ v ar L N nc i out q) : mt_S (σ.set 270 (mo_F (upd v 5 (nI nc')))) (upd v 5 (nI nc')) ar L N nc' i out q := by
  obtain ⟨⟨ops, h1, h2, h3, h4, h5, h6, h7, h8, h9, h10⟩, k⟩ := h
  exact ⟨⟨ops, h1.fi, h2, h3, rfl, h5, h6, h7, h8, h9, h10⟩, k⟩
theorem k_Mod_statement {nc0 : Nat} (S : mt_S σ v ar L N nc0 0 [] 0) (hz : ∀ j, j < 70 → j ≠ 10 → mo_hd ar j = nI 0) (h10 : mo_hd ar 10 = -1) (hD : 9 ≤ d) : nq_JM G d 0 0 m_Mod_statement [.ref 270, .int (nI 1600)] σ (mst_Q σ v ar L N (sp_sto L)) := by
  obtain ⟨d, rfl⟩ : ∃ d', d = d' + 1 := ⟨d - 1, by omega⟩
  obtain ⟨⟨ops, hp⟩, l1, l2, l3⟩ := id S
  have hN := hp.2.1.1
  have hLt := hp.2.1.lt
  have hl7 := hp.2.1.l7
  have w := hp.1.1
  have a1 := hp.1.2.2.1
  have s5 := hp.2.2.2.2.1
  unfold sp_sto
  have at49 : L 0 ∈ tx 1 → nq_J G (d + 1) 0 0 m_Mod_statement 49 [some (.ref 270), some (.int (nI 1600)), some (.int (nI (L 0))), none] [] σ (mst_Q σ v ar L N (match sp_head L with
      | .inl p => .inl p
      | .inr (k, t, u, i) => sp_bo L k t u (sp_cols k) i)) := by
    intro hm
    have h0' := hLt 0 (tx_n0 hm)
    have hk7 : L 0 = 73 ∨ L 0 = 68 ∨ L 0 = 85 ∨ L 0 = 83 ∨ L 0 = 80 ∨ L 0 = 65 ∨ L 0 = 66 := by
      have : ∀ k ∈ tx 1, k = 73 ∨ k = 68 ∨ k = 85 ∨ k = 83 ∨ k = 80 ∨ k = 65 ∨ k = 66 := by decide
      exact this _ hm
    have kk : ∀ x, x < 128 → L 0 ≠ x → ¬ nI (L 0) = nI x := fun x hx hn h => hn (nI_inj (by omega) (by omega) h)
    refine nq_aload_n (pc' := 50) d_Mod_statement_49 rfl rfl rfl ?_
    refine nq_dup (pc' := 51) d_Mod_statement_50 rfl rfl ?_
    refine nq_getf (pc' := 54) d_Mod_statement_51 rfl fl_Mod_81 (by first | assumption | exact nq_ga (by assumption) | exact nq_gs (by first | assumption | exact nq_ga (by assumption) | exact nq_gs (by first | assumption | exact nq_gs (by assumption) | exact nq_gn (by first | assumption | decide | omega | exact nq_ne1 (by assumption) (by assumption) | exact nq_ne2 (by assumption) (by assumption)) (by assumption) | exact nq_ga (by assumption)) | exact nq_gn (by first | assumption | decide | omega | exact nq_ne1 (by assumption) (by assumption) | exact nq_ne2 (by assumption) (by assumption)) (by first | assumption | exact nq_gs (by assumption) | exact nq_gn (by first | assumption | decide | omega | exact nq_ne1 (by assumption) (by assumption) | exact nq_ne2 (by assumption) (by assumption)) (by assumption) | exact nq_ga (by assumption))) | exact nq_gn (by first | assumption | decide | omega | exact nq_ne1 (by assumption) (by assumption) | exact nq_ne2 (by assumption) (by assumption)) (by first | assumption | exact nq_ga (by assumption) | exact nq_gs (by first | assumption | exact nq_gs (by assumption) | exact nq_gn (by first | assumption | decide | omega | exact nq_ne1 (by assumption) (by assumption) | exact nq_ne2 (by assumption) (by assumption)) (by assumption) | exact nq_ga (by assumption)) | exact nq_gn (by first | assumption | decide | omega | exact nq_ne1 (by assumption) (by assumption) | exact nq_ne2 (by assumption) (by assumption)) (by first | assumption | exact nq_gs (by assumption) | exact nq_gn (by first | assumption | decide | omega | exact nq_ne1 (by assumption) (by assumption) | exact nq_ne2 (by assumption) (by assumption)) (by assumption) | exact nq_ga (by assumption)))) rfl ?_
    refine nq_iconst (v := 1) (pc' := 55) d_Mod_statement_54 rfl (by decide) ?_
    refine nq_iadd (pc' := 56) d_Mod_statement_55 rfl ?_
    refine nq_putf (pc' := 59) d_Mod_statement_56 rfl fl_Mod_81 (by first | assumption | exact nq_ga (by assumption) | exact nq_gs (by first | assumption | exact nq_ga (by assumption) | exact nq_gs (by first | assumption | exact nq_gs (by assumption) | exact nq_gn (by first | assumption | decide | omega | exact nq_ne1 (by assumption) (by assumption) | exact nq_ne2 (by assumption) (by assumption)) (by assumption) | exact nq_ga (by assumption)) | exact nq_gn (by first | assumption | decide | omega | exact nq_ne1 (by assumption) (by assumption) | exact nq_ne2 (by assumption) (by assumption)) (by first | assumption | exact nq_gs (by assumption) | exact nq_gn (by first | assumption | decide | omega | exact nq_ne1 (by assumption) (by assumption) | exact nq_ne2 (by assumption) (by assumption)) (by assumption) | exact nq_ga (by assumption))) | exact nq_gn (by first | assumption | decide | omega | exact nq_ne1 (by assumption) (by assumption) | exact nq_ne2 (by assumption) (by assumption)) (by first | assumption | exact nq_ga (by assumption) | exact nq_gs (by first | assumption | exact nq_gs (by assumption) | exact nq_gn (by first | assumption | decide | omega | exact nq_ne1 (by assumption) (by assumption) | exact nq_ne2 (by assumption) (by assumption)) (by assumption) | exact nq_ga (by assumption)) | exact nq_gn (by first | assumption | decide | omega | exact nq_ne1 (by assumption) (by assumption) | exact nq_ne2 (by assumption) (by assumption)) (by first | assumption | exact nq_gs (by assumption) | exact nq_gn (by first | assumption | decide | omega | exact nq_ne1 (by assumption) (by assumption) | exact nq_ne2 (by assumption) (by assumption)) (by assumption) | exact nq_ga (by assumption)))) (Nat.le_of_ble_eq_true rfl) rfl rfl ?_
    refine nq_aload_n (pc' := 60) d_Mod_statement_59 rfl rfl rfl ?_
    refine nq_getf (pc' := 63) d_Mod_statement_60 rfl fl_Mod_13 (by first | assumption | exact nq_ga (by assumption) | exact nq_gs (by first | assumption | exact nq_ga (by assumption) | exact nq_gs (by first | assumption | exact nq_gs (by assumption) | exact nq_gn (by first | assumption | decide | omega | exact nq_ne1 (by assumption) (by assumption) | exact nq_ne2 (by assumption) (by assumption)) (by assumption) | exact nq_ga (by assumption)) | exact nq_gn (by first | assumption | decide | omega | exact nq_ne1 (by assumption) (by assumption) | exact nq_ne2 (by assumption) (by assumption)) (by first | assumption | exact nq_gs (by assumption) | exact nq_gn (by first | assumption | decide | omega | exact nq_ne1 (by assumption) (by assumption) | exact nq_ne2 (by assumption) (by assumption)) (by assumption) | exact nq_ga (by assumption))) | exact nq_gn (by first | assumption | decide | omega | exact nq_ne1 (by assumption) (by assumption) | exact nq_ne2 (by assumption) (by assumption)) (by first | assumption | exact nq_ga (by assumption) | exact nq_gs (by first | assumption | exact nq_gs (by assumption) | exact nq_gn (by first | assumption | decide | omega | exact nq_ne1 (by assumption) (by assumption) | exact nq_ne2 (by assumption) (by assumption)) (by assumption) | exact nq_ga (by assumption)) | exact nq_gn (by first | assumption | decide | omega | exact nq_ne1 (by assumption) (by assumption) | exact nq_ne2 (by assumption) (by assumption)) (by first | assumption | exact nq_gs (by assumption) | exact nq_gn (by first | assumption | decide | omega | exact nq_ne1 (by assumption) (by assumption) | exact nq_ne2 (by assumption) (by assumption)) (by assumption) | exact nq_ga (by assumption)))) rfl ?_
    refine nq_iload_n (pc' := 64) d_Mod_statement_63 rfl rfl rfl ?_
    refine nq_iload_n (pc' := 65) d_Mod_statement_64 rfl rfl rfl ?_
    rw [s5, nI_1]
    refine nq_iast (pc' := 66) d_Mod_statement_65 rfl (by first | assumption | exact nq_ga (by assumption) | exact nq_gs (by first | assumption | exact nq_ga (by assumption) | exact nq_gs (by first | assumption | exact nq_gs (by assumption) | exact nq_gn (by first | assumption | decide | omega | exact nq_ne1 (by assumption) (by assumption) | exact nq_ne2 (by assumption) (by assumption)) (by assumption) | exact nq_ga (by assumption)) | exact nq_gn (by first | assumption | decide | omega | exact nq_ne1 (by assumption) (by assumption) | exact nq_ne2 (by assumption) (by assumption)) (by first | assumption | exact nq_gs (by assumption) | exact nq_gn (by first | assumption | decide | omega | exact nq_ne1 (by assumption) (by assumption) | exact nq_ne2 (by assumption) (by assumption)) (by assumption) | exact nq_ga (by assumption))) | exact nq_gn (by first | assumption | decide | omega | exact nq_ne1 (by assumption) (by assumption) | exact nq_ne2 (by assumption) (by assumption)) (by first | assumption | exact nq_ga (by assumption) | exact nq_gs (by first | assumption | exact nq_gs (by assumption) | exact nq_gn (by first | assumption | decide | omega | exact nq_ne1 (by assumption) (by assumption) | exact nq_ne2 (by assumption) (by assumption)) (by assumption) | exact nq_ga (by assumption)) | exact nq_gn (by first | assumption | decide | omega | exact nq_ne1 (by assumption) (by assumption) | exact nq_ne2 (by assumption) (by assumption)) (by first | assumption | exact nq_gs (by assumption) | exact nq_gn (by first | assumption | decide | omega | exact nq_ne1 (by assumption) (by assumption) | exact nq_ne2 (by assumption) (by assumption)) (by assumption) | exact nq_ga (by assumption)))) rfl (j := 1600) rfl (by decide) (by decide) ?_
    have S1 := (S.pos (i' := 1) (by omega) (by omega)).hd (f := upd (ar 1) 1600 (nI (L 0))) (fun j hj => upd_ne (by omega))
    refine nq_gen (P := fun w => nq_J _ _ _ _ _ _ _ _ w _) (fun σ1 hσ1 => ?_)
    replace S1 : mt_S σ1 (upd v 2 (nI 1)) (ua ar 1 (upd (ar 1) 1600 (nI (L 0)))) L N nc0 1 [] 0 := by rw [hσ1]; exact S1
    have F1 : mo_fr σ σ1 := by rw [hσ1]; exact (mo_fr.st (by decide)).tr (mo_fr.st (by decide))
    have K1 : mo_kh v ar (upd v 2 (nI 1)) (ua ar 1 (upd (ar 1) 1600 (nI (L 0)))) := (mo_kh.u (k := 2) (by decide)).tr (mo_kh.c (fun j hj => upd_ne (by omega)))
    have H1 : ∀ j, j < 70 → j ≠ 0 → mo_hd (ua ar 1 (upd (ar 1) 1600 (nI (L 0)))) j = mo_hd ar j := fun j hj hn => by
      unfold mo_hd
      rw [ua_at, upd_ne (by omega)]
    have H10 : mo_hd (ua ar 1 (upd (ar 1) 1600 (nI (L 0)))) 0 = nI (L 0) := by
      unfold mo_hd
      rw [ua_at, Nat.add_zero, upd_at]
    generalize ua ar 1 (upd (ar 1) 1600 (nI (L 0))) = ar1 at S1 K1 H1 H10
    generalize upd v 2 (nI 1) = v1 at S1 K1
    have w1 := S1.1.w.1.1
    have rest : ∀ (tw : Int32), (tw = if L 0 = 80 ∨ L 0 = 66 then 1 else 0) → nq_J G (d + 1) 0 0 m_Mod_statement 108 [some (.ref 270), some (.int (nI 1600)), some (.int (nI (L 0))), some (.int tw)] [] (σ1.set 270 (mo_F (upd v1 5 (nI (sp_nc (sp_cols (L 0))))))) (mst_Q σ v ar L N (match sp_head L with
        | .inl p => .inl p
        | .inr (k, t, u, i) => sp_bo L k t u (sp_cols k) i)) := by
      intro tw htw
      have S2 := S1.cols (nc' := sp_nc (sp_cols (L 0)))
      have F2 : mo_fr σ (σ1.set 270 (mo_F (upd v1 5 (nI (sp_nc (sp_cols (L 0))))))) := F1.tr (mo_fr.st (by decide))
      have K2 : mo_kh v ar (upd v1 5 (nI (sp_nc (sp_cols (L 0))))) ar1 := K1.tr (mo_kh.u (by decide))
      generalize σ1.set 270 (mo_F (upd v1 5 (nI (sp_nc (sp_cols (L 0)))))) = σ2 at S2 F2 ⊢
      have w2 := S2.1.w.1.1
      unfold sp_head
      rw [if_pos hm]
      refine nq_aload_n (pc' := 109) d_Mod_statement_108 rfl rfl rfl ?_
      refine nq_iload_n (pc' := 110) d_Mod_statement_109 rfl rfl rfl ?_
      refine nq_iconst (v := 1) (pc' := 111) d_Mod_statement_110 rfl (by decide) ?_
      refine nq_iadd (pc' := 112) d_Mod_statement_111 rfl ?_
      rw [nI_1]
      refine nq_callV (pc' := 115) d_Mod_statement_112 rfl cl_Mod_131 rfl (by first | assumption | exact nq_ga (by assumption) | exact nq_gs (by first | assumption | exact nq_ga (by assumption) | exact nq_gs (by first | assumption | exact nq_gs (by assumption) | exact nq_gn (by first | assumption | decide | omega | exact nq_ne1 (by assumption) (by assumption) | exact nq_ne2 (by assumption) (by assumption)) (by assumption) | exact nq_ga (by assumption)) | exact nq_gn (by first | assumption | decide | omega | exact nq_ne1 (by assumption) (by assumption) | exact nq_ne2 (by assumption) (by assumption)) (by first | assumption | exact nq_gs (by assumption) | exact nq_gn (by first | assumption | decide | omega | exact nq_ne1 (by assumption) (by assumption) | exact nq_ne2 (by assumption) (by assumption)) (by assumption) | exact nq_ga (by assumption))) | exact nq_gn (by first | assumption | decide | omega | exact nq_ne1 (by assumption) (by assumption) | exact nq_ne2 (by assumption) (by assumption)) (by first | assumption | exact nq_ga (by assumption) | exact nq_gs (by first | assumption | exact nq_gs (by assumption) | exact nq_gn (by first | assumption | decide | omega | exact nq_ne1 (by assumption) (by assumption) | exact nq_ne2 (by assumption) (by assumption)) (by assumption) | exact nq_ga (by assumption)) | exact nq_gn (by first | assumption | decide | omega | exact nq_ne1 (by assumption) (by assumption) | exact nq_ne2 (by assumption) (by assumption)) (by first | assumption | exact nq_gs (by assumption) | exact nq_gn (by first | assumption | decide | omega | exact nq_ne1 (by assumption) (by assumption) | exact nq_ne2 (by assumption) (by assumption)) (by assumption) | exact nq_ga (by assumption)))) rfl rfl (kc := 0) (ks := 0) (mc' := 0) (ms' := 0) (As := [.int (nI (1600 + 1))]) (rest := []) rfl rfl (by decide) (k_Mod_table (k := 1) S2 (by decide) (by omega)) (fun E σ3 hq => ?_) (fun z σ3 hq => ?_)
      · obtain ⟨_, _, _, _, _, hq⟩ := hq
        split at hq <;> cases hq.1
      obtain ⟨f3, v3, ar3, k3, H3, hq⟩ := hq
      by_cases m1 : ¬ (L 1 ∈ tx 2)
      · rw [if_neg m1] at hq ⊢
        obtain ⟨e1, hf⟩ := hq
        cases e1
        refine nq_if_eq (pc' := 118) (tgt := 132) d_Mod_statement_115 rfl (by decide) (fun _ => ?_) (fun h => absurd rfl h)
        refine nq_iconst (v := 0) (pc' := 133) d_Mod_statement_132 rfl (by decide) ?_
        refine nq_iret d_Mod_statement_133 rfl rfl ⟨F2.tr f3, v3, ar3, K2.tr k3, rfl, hf⟩
      replace m1 := Classical.not_not.mp m1
      rw [if_pos m1] at hq ⊢
      obtain ⟨e1, g1, S3⟩ := hq
      cases e1
      have l1' := hLt 1 (tx_n0 m1)
      have w3 := S3.1.w.1.1
      have F3 := F2.tr f3
      have K3 := K2.tr k3
      have Z3 : ∀ j, j < 70 → j ≠ 0 → j ≠ 1 → j ≠ 10 → mo_hd ar3 j = nI 0 := fun j hj a b c => by rw [H3 j hj b, H1 j hj a]; exact hz j hj c
      refine nq_if_eq (pc' := 118) (tgt := 132) d_Mod_statement_115 rfl (by decide) (fun h => absurd h (by decide)) (fun _ => ?_)
      refine nq_iload_n (pc' := 119) d_Mod_statement_118 rfl rfl rfl ?_
      rw [htw]
      by_cases two : L 0 = 80 ∨ L 0 = 66
      · rw [if_pos two, if_pos two]
        refine nq_if_eq (pc' := 122) (tgt := 134) d_Mod_statement_119 rfl (by decide) (fun h => absurd h (by decide)) (fun _ => ?_)
        refine nq_aload_n (pc' := 123) d_Mod_statement_122 rfl rfl rfl ?_
        refine nq_iload_n (pc' := 124) d_Mod_statement_123 rfl rfl rfl ?_
        refine nq_iconst (v := 2) (pc' := 125) d_Mod_statement_124 rfl (by decide) ?_
        refine nq_iadd (pc' := 126) d_Mod_statement_125 rfl ?_
        refine nq_callV (pc' := 129) d_Mod_statement_126 rfl cl_Mod_131 rfl (by first | assumption | exact nq_ga (by assumption) | exact nq_gs (by first | assumption | exact nq_ga (by assumption) | exact nq_gs (by first | assumption | exact nq_gs (by assumption) | exact nq_gn (by first | assumption | decide | omega | exact nq_ne1 (by assumption) (by assumption) | exact nq_ne2 (by assumption) (by assumption)) (by assumption) | exact nq_ga (by assumption)) | exact nq_gn (by first | assumption | decide | omega | exact nq_ne1 (by assumption) (by assumption) | exact nq_ne2 (by assumption) (by assumption)) (by first | assumption | exact nq_gs (by assumption) | exact nq_gn (by first | assumption | decide | omega | exact nq_ne1 (by assumption) (by assumption) | exact nq_ne2 (by assumption) (by assumption)) (by assumption) | exact nq_ga (by assumption))) | exact nq_gn (by first | assumption | decide | omega | exact nq_ne1 (by assumption) (by assumption) | exact nq_ne2 (by assumption) (by assumption)) (by first | assumption | exact nq_ga (by assumption) | exact nq_gs (by first | assumption | exact nq_gs (by assumption) | exact nq_gn (by first | assumption | decide | omega | exact nq_ne1 (by assumption) (by assumption) | exact nq_ne2 (by assumption) (by assumption)) (by assumption) | exact nq_ga (by assumption)) | exact nq_gn (by first | assumption | decide | omega | exact nq_ne1 (by assumption) (by assumption) | exact nq_ne2 (by assumption) (by assumption)) (by first | assumption | exact nq_gs (by assumption) | exact nq_gn (by first | assumption | decide | omega | exact nq_ne1 (by assumption) (by assumption) | exact nq_ne2 (by assumption) (by assumption)) (by assumption) | exact nq_ga (by assumption)))) rfl rfl (kc := 0) (ks := 0) (mc' := 0) (ms' := 0) (As := [.int (nI (1600 + 2))]) (rest := []) rfl rfl (by decide) (k_Mod_table (k := 2) S3 (by decide) (by omega)) (fun E σ4 hq => ?_) (fun z σ4 hq => ?_)
        · obtain ⟨_, _, _, _, _, hq⟩ := hq
          split at hq <;> cases hq.1
        obtain ⟨f4, v4, ar4, k4, H4, hq⟩ := hq
        by_cases m2 : ¬ (L 2 ∈ tx 2)
        · rw [if_neg m2] at hq ⊢
          obtain ⟨e1, hf⟩ := hq
          cases e1
          refine nq_if_ne (pc' := 132) (tgt := 134) d_Mod_statement_129 rfl (by decide) (fun h => absurd rfl h) (fun _ => ?_)
          refine nq_iconst (v := 0) (pc' := 133) d_Mod_statement_132 rfl (by decide) ?_
          refine nq_iret d_Mod_statement_133 rfl rfl ⟨F3.tr f4, v4, ar4, K3.tr k4, rfl, hf⟩
        replace m2 := Classical.not_not.mp m2
        rw [if_pos m2] at hq ⊢
        obtain ⟨e1, g2, S4⟩ := hq
        cases e1
        refine nq_if_ne (pc' := 132) (tgt := 134) d_Mod_statement_129 rfl (by decide) (fun _ => ?_) (fun h => absurd h (by decide))
        exact ms_body (by omega) hm (by omega) S4 (by rw [H4 0 (by decide) (by decide), H3 0 (by decide) (by decide)]; exact H10) (by rw [H4 1 (by decide) (by decide)]; exact g1) (fun _ => g2) (by rw [H4 3 (by decide) (by decide)]; exact Z3 3 (by decide) (by decide) (by decide) (by decide)) (by rw [H4 8 (by decide) (by decide)]; exact Z3 8 (by decide) (by decide) (by decide) (by decide)) (by rw [H4 9 (by decide) (by decide)]; exact Z3 9 (by decide) (by decide) (by decide) (by decide)) (by rw [H4 10 (by decide) (by decide), H3 10 (by decide) (by decide), H1 10 (by decide) (by decide)]; exact h10) (F3.tr f4) (K3.tr k4)
      · rw [if_neg two, if_neg two]
        refine nq_if_eq (pc' := 122) (tgt := 134) d_Mod_statement_119 rfl (by decide) (fun _ => ?_) (fun h => absurd rfl h)
        exact ms_body (by omega) hm (by omega) S3 (by rw [H3 0 (by decide) (by decide)]; exact H10) g1 (fun h => absurd h (by omega)) (Z3 3 (by decide) (by decide) (by decide) (by decide)) (Z3 8 (by decide) (by decide) (by decide) (by decide)) (Z3 9 (by decide) (by decide) (by decide) (by decide)) (by rw [H3 10 (by decide) (by decide), H1 10 (by decide) (by decide)]; exact h10) F3 K3
    have at84 : ∀ (tw : Int32), (tw = if L 0 = 80 ∨ L 0 = 66 then 1 else 0) → nq_J G (d + 1) 0 0 m_Mod_statement 84 [some (.ref 270), some (.int (nI 1600)), some (.int (nI (L 0))), some (.int tw)] [] σ1 (mst_Q σ v ar L N (match sp_head L with
        | .inl p => .inl p
        | .inr (k, t, u, i) => sp_bo L k t u (sp_cols k) i)) := by
      intro tw htw
      have hr := rest tw htw
      refine nq_aload_n (pc' := 85) d_Mod_statement_84 rfl rfl rfl ?_
      refine nq_iload_n (pc' := 86) d_Mod_statement_85 rfl rfl rfl ?_
      refine nq_bipush (v := 73) (pc' := 88) d_Mod_statement_86 rfl (by decide) ?_
      by_cases k73 : L 0 = 73
      · rw [show sp_nc (sp_cols (L 0)) = 0 from by rw [k73]; rfl] at hr
        refine nq_icmp_ne (pc' := 91) (tgt := 95) d_Mod_statement_88 rfl (by decide) (fun h => absurd (by rw [k73]; rfl) h) (fun _ => ?_)
        refine nq_iconst (v := 0) (pc' := 92) d_Mod_statement_91 rfl (by decide) ?_
        refine nq_goto (tgt := 105) d_Mod_statement_92 (by decide) ?_
        refine nq_putf (pc' := 108) d_Mod_statement_105 rfl fl_Mod_105 (by first | assumption | exact nq_ga (by assumption) | exact nq_gs (by first | assumption | exact nq_ga (by assumption) | exact nq_gs (by first | assumption | exact nq_gs (by assumption) | exact nq_gn (by first | assumption | decide | omega | exact nq_ne1 (by assumption) (by assumption) | exact nq_ne2 (by assumption) (by assumption)) (by assumption) | exact nq_ga (by assumption)) | exact nq_gn (by first | assumption | decide | omega | exact nq_ne1 (by assumption) (by assumption) | exact nq_ne2 (by assumption) (by assumption)) (by first | assumption | exact nq_gs (by assumption) | exact nq_gn (by first | assumption | decide | omega | exact nq_ne1 (by assumption) (by assumption) | exact nq_ne2 (by assumption) (by assumption)) (by assumption) | exact nq_ga (by assumption))) | exact nq_gn (by first | assumption | decide | omega | exact nq_ne1 (by assumption) (by assumption) | exact nq_ne2 (by assumption) (by assumption)) (by first | assumption | exact nq_ga (by assumption) | exact nq_gs (by first | assumption | exact nq_gs (by assumption) | exact nq_gn (by first | assumption | decide | omega | exact nq_ne1 (by assumption) (by assumption) | exact nq_ne2 (by assumption) (by assumption)) (by assumption) | exact nq_ga (by assumption)) | exact nq_gn (by first | assumption | decide | omega | exact nq_ne1 (by assumption) (by assumption) | exact nq_ne2 (by assumption) (by assumption)) (by first | assumption | exact nq_gs (by assumption) | exact nq_gn (by first | assumption | decide | omega | exact nq_ne1 (by assumption) (by assumption) | exact nq_ne2 (by assumption) (by assumption)) (by assumption) | exact nq_ga (by assumption)))) (Nat.le_of_ble_eq_true rfl) rfl rfl ?_
        exact hr
      · refine nq_icmp_ne (pc' := 91) (tgt := 95) d_Mod_statement_88 rfl (by decide) (fun _ => ?_) (fun h => absurd h (kk 73 (by decide) k73))
        refine nq_iload_n (pc' := 96) d_Mod_statement_95 rfl rfl rfl ?_
        rw [htw]
        by_cases two : L 0 = 80 ∨ L 0 = 66
        · rw [show sp_nc (sp_cols (L 0)) = 6 from by unfold sp_cols; rw [if_neg k73, if_pos two]; rfl, htw, if_pos two] at hr
          rw [if_pos two]
          refine nq_if_eq (pc' := 99) (tgt := 104) d_Mod_statement_96 rfl (by decide) (fun h => absurd h (by decide)) (fun _ => ?_)
          refine nq_bipush (v := 6) (pc' := 101) d_Mod_statement_99 rfl (by decide) ?_
          refine nq_goto (tgt := 105) d_Mod_statement_101 (by decide) ?_
          refine nq_putf (pc' := 108) d_Mod_statement_105 rfl fl_Mod_105 (by first | assumption | exact nq_ga (by assumption) | exact nq_gs (by first | assumption | exact nq_ga (by assumption) | exact nq_gs (by first | assumption | exact nq_gs (by assumption) | exact nq_gn (by first | assumption | decide | omega | exact nq_ne1 (by assumption) (by assumption) | exact nq_ne2 (by assumption) (by assumption)) (by assumption) | exact nq_ga (by assumption)) | exact nq_gn (by first | assumption | decide | omega | exact nq_ne1 (by assumption) (by assumption) | exact nq_ne2 (by assumption) (by assumption)) (by first | assumption | exact nq_gs (by assumption) | exact nq_gn (by first | assumption | decide | omega | exact nq_ne1 (by assumption) (by assumption) | exact nq_ne2 (by assumption) (by assumption)) (by assumption) | exact nq_ga (by assumption))) | exact nq_gn (by first | assumption | decide | omega | exact nq_ne1 (by assumption) (by assumption) | exact nq_ne2 (by assumption) (by assumption)) (by first | assumption | exact nq_ga (by assumption) | exact nq_gs (by first | assumption | exact nq_gs (by assumption) | exact nq_gn (by first | assumption | decide | omega | exact nq_ne1 (by assumption) (by assumption) | exact nq_ne2 (by assumption) (by assumption)) (by assumption) | exact nq_ga (by assumption)) | exact nq_gn (by first | assumption | decide | omega | exact nq_ne1 (by assumption) (by assumption) | exact nq_ne2 (by assumption) (by assumption)) (by first | assumption | exact nq_gs (by assumption) | exact nq_gn (by first | assumption | decide | omega | exact nq_ne1 (by assumption) (by assumption) | exact nq_ne2 (by assumption) (by assumption)) (by assumption) | exact nq_ga (by assumption)))) (Nat.le_of_ble_eq_true rfl) rfl rfl ?_
          exact hr
        · rw [show sp_nc (sp_cols (L 0)) = 3 from by unfold sp_cols; rw [if_neg k73, if_neg two]; rfl, htw, if_neg two] at hr
          rw [if_neg two]
          refine nq_if_eq (pc' := 99) (tgt := 104) d_Mod_statement_96 rfl (by decide) (fun _ => ?_) (fun h => absurd rfl h)
          refine nq_iconst (v := 3) (pc' := 105) d_Mod_statement_104 rfl (by decide) ?_
          refine nq_putf (pc' := 108) d_Mod_statement_105 rfl fl_Mod_105 (by first | assumption | exact nq_ga (by assumption) | exact nq_gs (by first | assumption | exact nq_ga (by assumption) | exact nq_gs (by first | assumption | exact nq_gs (by assumption) | exact nq_gn (by first | assumption | decide | omega | exact nq_ne1 (by assumption) (by assumption) | exact nq_ne2 (by assumption) (by assumption)) (by assumption) | exact nq_ga (by assumption)) | exact nq_gn (by first | assumption | decide | omega | exact nq_ne1 (by assumption) (by assumption) | exact nq_ne2 (by assumption) (by assumption)) (by first | assumption | exact nq_gs (by assumption) | exact nq_gn (by first | assumption | decide | omega | exact nq_ne1 (by assumption) (by assumption) | exact nq_ne2 (by assumption) (by assumption)) (by assumption) | exact nq_ga (by assumption))) | exact nq_gn (by first | assumption | decide | omega | exact nq_ne1 (by assumption) (by assumption) | exact nq_ne2 (by assumption) (by assumption)) (by first | assumption | exact nq_ga (by assumption) | exact nq_gs (by first | assumption | exact nq_gs (by assumption) | exact nq_gn (by first | assumption | decide | omega | exact nq_ne1 (by assumption) (by assumption) | exact nq_ne2 (by assumption) (by assumption)) (by assumption) | exact nq_ga (by assumption)) | exact nq_gn (by first | assumption | decide | omega | exact nq_ne1 (by assumption) (by assumption) | exact nq_ne2 (by assumption) (by assumption)) (by first | assumption | exact nq_gs (by assumption) | exact nq_gn (by first | assumption | decide | omega | exact nq_ne1 (by assumption) (by assumption) | exact nq_ne2 (by assumption) (by assumption)) (by assumption) | exact nq_ga (by assumption)))) (Nat.le_of_ble_eq_true rfl) rfl rfl ?_
          exact hr
    refine nq_iload_n (pc' := 67) d_Mod_statement_66 rfl rfl rfl ?_
    refine nq_bipush (v := 80) (pc' := 69) d_Mod_statement_67 rfl (by decide) ?_
    by_cases k80 : L 0 = 80
    · refine nq_icmp_eq (pc' := 72) (tgt := 78) d_Mod_statement_69 rfl (by decide) (fun _ => ?_) (fun h => absurd (by rw [k80]; rfl) h)
      refine nq_iconst (v := 1) (pc' := 79) d_Mod_statement_78 rfl (by decide) ?_
      refine nq_goto (tgt := 83) d_Mod_statement_79 (by decide) ?_
      refine nq_istore_n (pc' := 84) d_Mod_statement_83 rfl rfl (by decide) rfl ?_
      exact at84 1 (by rw [if_pos (.inl k80)])
    refine nq_icmp_eq (pc' := 72) (tgt := 78) d_Mod_statement_69 rfl (by decide) (fun h => absurd h (kk 80 (by decide) k80)) (fun _ => ?_)
    refine nq_iload_n (pc' := 73) d_Mod_statement_72 rfl rfl rfl ?_
    refine nq_bipush (v := 66) (pc' := 75) d_Mod_statement_73 rfl (by decide) ?_
    by_cases k66 : L 0 = 66
    · refine nq_icmp_ne (pc' := 78) (tgt := 82) d_Mod_statement_75 rfl (by decide) (fun h => absurd (by rw [k66]; rfl) h) (fun _ => ?_)
      refine nq_iconst (v := 1) (pc' := 79) d_Mod_statement_78 rfl (by decide) ?_
      refine nq_goto (tgt := 83) d_Mod_statement_79 (by decide) ?_
      refine nq_istore_n (pc' := 84) d_Mod_statement_83 rfl rfl (by decide) rfl ?_
      exact at84 1 (by rw [if_pos (.inr k66)])
    refine nq_icmp_ne (pc' := 78) (tgt := 82) d_Mod_statement_75 rfl (by decide) (fun _ => ?_) (fun h => absurd h (kk 66 (by decide) k66))
    refine nq_iconst (v := 0) (pc' := 83) d_Mod_statement_82 rfl (by decide) ?_
    refine nq_istore_n (pc' := 84) d_Mod_statement_83 rfl rfl (by decide) rfl ?_
    exact at84 0 (by rw [if_neg (by omega)])
  have kk : ∀ x, x < 128 → L 0 ≠ x → ¬ nI (L 0) = nI x := fun x hx hn h => hn (nI_inj (by have := hl7 0; omega) (by omega) h)
  refine nq_mk' (lv := [some (.ref 270), some (.int (nI 1600)), none, none]) (by decide +kernel) rfl (Nat.le_of_ble_eq_true rfl) rfl ?_
  refine nq_aload_n (pc' := 1) d_Mod_statement_0 rfl rfl rfl ?_
  refine nq_callVR (pc' := 4) d_Mod_statement_1 rfl cl_Mod_84 rfl (by first | assumption | exact nq_ga (by assumption) | exact nq_gs (by first | assumption | exact nq_ga (by assumption) | exact nq_gs (by first | assumption | exact nq_gs (by assumption) | exact nq_gn (by first | assumption | decide | omega | exact nq_ne1 (by assumption) (by assumption) | exact nq_ne2 (by assumption) (by assumption)) (by assumption) | exact nq_ga (by assumption)) | exact nq_gn (by first | assumption | decide | omega | exact nq_ne1 (by assumption) (by assumption) | exact nq_ne2 (by assumption) (by assumption)) (by first | assumption | exact nq_gs (by assumption) | exact nq_gn (by first | assumption | decide | omega | exact nq_ne1 (by assumption) (by assumption) | exact nq_ne2 (by assumption) (by assumption)) (by assumption) | exact nq_ga (by assumption))) | exact nq_gn (by first | assumption | decide | omega | exact nq_ne1 (by assumption) (by assumption) | exact nq_ne2 (by assumption) (by assumption)) (by first | assumption | exact nq_ga (by assumption) | exact nq_gs (by first | assumption | exact nq_gs (by assumption) | exact nq_gn (by first | assumption | decide | omega | exact nq_ne1 (by assumption) (by assumption) | exact nq_ne2 (by assumption) (by assumption)) (by assumption) | exact nq_ga (by assumption)) | exact nq_gn (by first | assumption | decide | omega | exact nq_ne1 (by assumption) (by assumption) | exact nq_ne2 (by assumption) (by assumption)) (by first | assumption | exact nq_gs (by assumption) | exact nq_gn (by first | assumption | decide | omega | exact nq_ne1 (by assumption) (by assumption) | exact nq_ne2 (by assumption) (by assumption)) (by assumption) | exact nq_ga (by assumption)))) rfl rfl (kc := 0) (ks := 0) (mc' := 0) (ms' := 0) (As := []) (rest := []) rfl rfl (by decide) (k_Mod_look hp (by omega)) ?_
  refine nq_istore_n (pc' := 5) d_Mod_statement_4 rfl rfl (by decide) rfl ?_
  refine nq_iload_n (pc' := 6) d_Mod_statement_5 rfl rfl rfl ?_
  refine nq_bipush (v := 73) (pc' := 8) d_Mod_statement_6 rfl (by decide) ?_
  by_cases c73 : L 0 = 73
  · refine nq_icmp_eq (pc' := 11) (tgt := 49) d_Mod_statement_8 rfl (by decide) (fun _ => at49 (by rw [c73]; decide)) (fun h => absurd (by rw [c73]; rfl) h)
  refine nq_icmp_eq (pc' := 11) (tgt := 49) d_Mod_statement_8 rfl (by decide) (fun h => absurd h (kk 73 (by decide) c73)) (fun _ => ?_)
  refine nq_iload_n (pc' := 12) d_Mod_statement_11 rfl rfl rfl ?_
  refine nq_bipush (v := 68) (pc' := 14) d_Mod_statement_12 rfl (by decide) ?_
  by_cases c68 : L 0 = 68
  · refine nq_icmp_eq (pc' := 17) (tgt := 49) d_Mod_statement_14 rfl (by decide) (fun _ => at49 (by rw [c68]; decide)) (fun h => absurd (by rw [c68]; rfl) h)
  refine nq_icmp_eq (pc' := 17) (tgt := 49) d_Mod_statement_14 rfl (by decide) (fun h => absurd h (kk 68 (by decide) c68)) (fun _ => ?_)
  refine nq_iload_n (pc' := 18) d_Mod_statement_17 rfl rfl rfl ?_
  refine nq_bipush (v := 85) (pc' := 20) d_Mod_statement_18 rfl (by decide) ?_
  by_cases c85 : L 0 = 85
  · refine nq_icmp_eq (pc' := 23) (tgt := 49) d_Mod_statement_20 rfl (by decide) (fun _ => at49 (by rw [c85]; decide)) (fun h => absurd (by rw [c85]; rfl) h)
  refine nq_icmp_eq (pc' := 23) (tgt := 49) d_Mod_statement_20 rfl (by decide) (fun h => absurd h (kk 85 (by decide) c85)) (fun _ => ?_)
  refine nq_iload_n (pc' := 24) d_Mod_statement_23 rfl rfl rfl ?_
  refine nq_bipush (v := 83) (pc' := 26) d_Mod_statement_24 rfl (by decide) ?_
  by_cases c83 : L 0 = 83
  · refine nq_icmp_eq (pc' := 29) (tgt := 49) d_Mod_statement_26 rfl (by decide) (fun _ => at49 (by rw [c83]; decide)) (fun h => absurd (by rw [c83]; rfl) h)
  refine nq_icmp_eq (pc' := 29) (tgt := 49) d_Mod_statement_26 rfl (by decide) (fun h => absurd h (kk 83 (by decide) c83)) (fun _ => ?_)
  refine nq_iload_n (pc' := 30) d_Mod_statement_29 rfl rfl rfl ?_
  refine nq_bipush (v := 80) (pc' := 32) d_Mod_statement_30 rfl (by decide) ?_
  by_cases c80 : L 0 = 80
  · refine nq_icmp_eq (pc' := 35) (tgt := 49) d_Mod_statement_32 rfl (by decide) (fun _ => at49 (by rw [c80]; decide)) (fun h => absurd (by rw [c80]; rfl) h)
  refine nq_icmp_eq (pc' := 35) (tgt := 49) d_Mod_statement_32 rfl (by decide) (fun h => absurd h (kk 80 (by decide) c80)) (fun _ => ?_)
  refine nq_iload_n (pc' := 36) d_Mod_statement_35 rfl rfl rfl ?_
  refine nq_bipush (v := 65) (pc' := 38) d_Mod_statement_36 rfl (by decide) ?_
  by_cases c65 : L 0 = 65
  · refine nq_icmp_eq (pc' := 41) (tgt := 49) d_Mod_statement_38 rfl (by decide) (fun _ => at49 (by rw [c65]; decide)) (fun h => absurd (by rw [c65]; rfl) h)
  refine nq_icmp_eq (pc' := 41) (tgt := 49) d_Mod_statement_38 rfl (by decide) (fun h => absurd h (kk 65 (by decide) c65)) (fun _ => ?_)
  refine nq_iload_n (pc' := 42) d_Mod_statement_41 rfl rfl rfl ?_
  refine nq_bipush (v := 66) (pc' := 44) d_Mod_statement_42 rfl (by decide) ?_
  by_cases c66 : L 0 = 66
  · refine nq_icmp_eq (pc' := 47) (tgt := 49) d_Mod_statement_44 rfl (by decide) (fun _ => at49 (by rw [c66]; decide)) (fun h => absurd (by rw [c66]; rfl) h)
  refine nq_icmp_eq (pc' := 47) (tgt := 49) d_Mod_statement_44 rfl (by decide) (fun h => absurd h (kk 66 (by decide) c66)) (fun _ => ?_)
  have hno : L 0 ∉ tx 1 := fun h => by
    have : ∀ k ∈ tx 1, k = 73 ∨ k = 68 ∨ k = 85 ∨ k = 83 ∨ k = 80 ∨ k = 65 ∨ k = 66 := by decide
    have := this _ h
    omega
  unfold sp_head
  rw [if_neg hno]
  refine nq_iconst (v := 0) (pc' := 48) d_Mod_statement_47 rfl (by decide) ?_
  refine nq_iret d_Mod_statement_48 rfl rfl ⟨mo_fr.rf, v, ar, mo_kh.rf, rfl, hp.1, s5⟩
end MR
