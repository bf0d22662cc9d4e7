/-! THE OTHER STORE: statement, its middle and its head -/
section MB
variable {G : nq_G} {d : Nat} {σ : nq_S} {v : Nat → Int32} {ar : mo_Ar} {L : Nat → Nat} {N : Nat}
theorem ms_body {k t u i : Nat} {σ1 : nq_S} {v1 : Nat → Int32} {ar1 : mo_Ar} {tw : Int32} (hD : 8 ≤ d) (hk1 : k ∈ tx 1) (hi : 1 ≤ i) (S : mt_S σ1 v1 ar1 L N (sp_nc (sp_cols k)) i [] 0) (h0 : mo_hd ar1 0 = nI k) (h1 : mo_hd ar1 1 = nI t) (h2 : u < 3 → mo_hd ar1 2 = nI u) (h3 : mo_hd ar1 3 = nI 0) (h8 : mo_hd ar1 8 = nI 0) (h9 : mo_hd ar1 9 = nI 0) (h10 : mo_hd ar1 10 = -1) (F1 : mo_fr σ σ1) (K1 : mo_kh v ar v1 ar1) : nq_J G (d + 1) 0 0 m_Mod_statement 134 [some (.ref 270), some (.int (nI 1600)), some (.int (nI k)), some (.int tw)] [] σ1 (mst_Q σ v ar L N (sp_bo L k t u (sp_cols k) i)) := by
  have hc := sp_cols_ok k
  have hN := S.1.w.2.1.1
  have hLt := S.1.w.2.1.lt
  have hl7 := S.1.w.2.1.l7
  have w := S.1.w.1.1
  have a1 := S.1.w.1.2.2.1
  have hk7 : k = 73 ∨ k = 68 ∨ k = 85 ∨ k = 83 ∨ k = 80 ∨ k = 65 ∨ k = 66 := by
    have : ∀ k ∈ tx 1, k = 73 ∨ k = 68 ∨ k = 85 ∨ k = 83 ∨ k = 80 ∨ k = 65 ∨ k = 66 := by decide
    exact this k hk1
  have hk128 : k < 128 := by omega
  have kk : ∀ x, x < 128 → k ≠ x → ¬ nI k = nI x := fun x hx hn h => hn (nI_inj (by omega) (by omega) h)
  obtain ⟨⟨ops, hp⟩, l1, l2, l3⟩ := id S
  have s5 := hp.2.2.2.2.1
  unfold sp_bo
  refine nq_iload_n (pc' := 135) d_Mod_statement_134 rfl rfl rfl ?_
  refine nq_bipush (v := 73) (pc' := 137) d_Mod_statement_135 rfl (by decide) ?_
  by_cases k73 : k = 73
  · have hv : sp_vals L k (sp_cols k) i = (if L i = 40 then (match sp_list L (sp_cols k) 3 [] (i + 1) with
        | .inl p => .inl p
        | .inr (vs, j) => if vs.length = 3 ∧ L j = 41 then .inr (vs, 0, j + 1) else .inl j) else .inl i) := by
      unfold sp_vals
      rw [if_pos k73]
      try rfl
    have hcd : ∀ j, sp_cond L k (sp_cols k) j = .inr ([], j) := fun j => by unfold sp_cond; rw [if_neg (fun h => h.1 k73)]
    have hod : ∀ j, sp_ord L k (sp_cols k) j = .inr (0, j) := fun j => by unfold sp_ord; rw [if_neg (by omega)]
    rw [hv]
    simp only [hcd, hod]
    refine nq_icmp_ne (pc' := 140) (tgt := 185) d_Mod_statement_137 rfl (by decide) (fun h => absurd (by rw [k73]; rfl) h) (fun _ => ?_)
    refine nq_aload_n (pc' := 141) d_Mod_statement_140 rfl rfl rfl ?_
    refine nq_bipush (v := 40) (pc' := 143) d_Mod_statement_141 rfl (by decide) ?_
    refine nq_callVR (pc' := 146) d_Mod_statement_143 rfl cl_Mod_124 rfl (by first | assumption | exact nq_ga (by assumption) | exact nq_gs (by first | assumption | exact nq_ga (by assumption) | exact nq_gs (by first | assumption | exact nq_gs (by assumption) | exact nq_gn (by first | assumption | decide | omega | exact nq_ne1 (by assumption) (by assumption) | exact nq_ne2 (by assumption) (by assumption)) (by assumption) | exact nq_ga (by assumption)) | exact nq_gn (by first | assumption | decide | omega | exact nq_ne1 (by assumption) (by assumption) | exact nq_ne2 (by assumption) (by assumption)) (by first | assumption | exact nq_gs (by assumption) | exact nq_gn (by first | assumption | decide | omega | exact nq_ne1 (by assumption) (by assumption) | exact nq_ne2 (by assumption) (by assumption)) (by assumption) | exact nq_ga (by assumption))) | exact nq_gn (by first | assumption | decide | omega | exact nq_ne1 (by assumption) (by assumption) | exact nq_ne2 (by assumption) (by assumption)) (by first | assumption | exact nq_ga (by assumption) | exact nq_gs (by first | assumption | exact nq_gs (by assumption) | exact nq_gn (by first | assumption | decide | omega | exact nq_ne1 (by assumption) (by assumption) | exact nq_ne2 (by assumption) (by assumption)) (by assumption) | exact nq_ga (by assumption)) | exact nq_gn (by first | assumption | decide | omega | exact nq_ne1 (by assumption) (by assumption) | exact nq_ne2 (by assumption) (by assumption)) (by first | assumption | exact nq_gs (by assumption) | exact nq_gn (by first | assumption | decide | omega | exact nq_ne1 (by assumption) (by assumption) | exact nq_ne2 (by assumption) (by assumption)) (by assumption) | exact nq_ga (by assumption)))) rfl rfl (kc := 0) (ks := 0) (mc' := 0) (ms' := 0) (As := [.int (nI 40)]) (rest := []) rfl rfl (by decide) (k_Mod_passes (c := 40) hp (by omega) (by decide) (by omega)) ?_
    by_cases e40 : L i = 40
    · have hi' := hLt i (by omega)
      rw [if_pos e40, if_pos e40, if_pos e40]
      refine nq_if_eq (pc' := 149) (tgt := 183) d_Mod_statement_146 rfl (by decide) (fun h => absurd h (by decide)) (fun _ => ?_)
      refine nq_gen (P := fun w => nq_J _ _ _ _ _ _ _ _ w _) (fun σ2 hσ2 => ?_)
      have S2 : mt_S σ2 (upd v1 2 (nI (i + 1))) ar1 L N (sp_nc (sp_cols k)) (i + 1) [] 0 := by rw [hσ2]; exact S.pos (by omega) (by omega)
      have F2 : mo_fr σ σ2 := F1.tr (by rw [hσ2]; exact mo_fr.st (by decide))
      have K2 : mo_kh v ar (upd v1 2 (nI (i + 1))) ar1 := K1.tr (mo_kh.u (by decide))
      have w2 := S2.1.w.1.1
      refine nq_aload_n (pc' := 150) d_Mod_statement_149 rfl rfl rfl ?_
      refine nq_iload_n (pc' := 151) d_Mod_statement_150 rfl rfl rfl ?_
      refine nq_iconst (v := 3) (pc' := 152) d_Mod_statement_151 rfl (by decide) ?_
      refine nq_callV (pc' := 155) d_Mod_statement_152 rfl cl_Mod_134 rfl (by first | assumption | exact nq_ga (by assumption) | exact nq_gs (by first | assumption | exact nq_ga (by assumption) | exact nq_gs (by first | assumption | exact nq_gs (by assumption) | exact nq_gn (by first | assumption | decide | omega | exact nq_ne1 (by assumption) (by assumption) | exact nq_ne2 (by assumption) (by assumption)) (by assumption) | exact nq_ga (by assumption)) | exact nq_gn (by first | assumption | decide | omega | exact nq_ne1 (by assumption) (by assumption) | exact nq_ne2 (by assumption) (by assumption)) (by first | assumption | exact nq_gs (by assumption) | exact nq_gn (by first | assumption | decide | omega | exact nq_ne1 (by assumption) (by assumption) | exact nq_ne2 (by assumption) (by assumption)) (by assumption) | exact nq_ga (by assumption))) | exact nq_gn (by first | assumption | decide | omega | exact nq_ne1 (by assumption) (by assumption) | exact nq_ne2 (by assumption) (by assumption)) (by first | assumption | exact nq_ga (by assumption) | exact nq_gs (by first | assumption | exact nq_gs (by assumption) | exact nq_gn (by first | assumption | decide | omega | exact nq_ne1 (by assumption) (by assumption) | exact nq_ne2 (by assumption) (by assumption)) (by assumption) | exact nq_ga (by assumption)) | exact nq_gn (by first | assumption | decide | omega | exact nq_ne1 (by assumption) (by assumption) | exact nq_ne2 (by assumption) (by assumption)) (by first | assumption | exact nq_gs (by assumption) | exact nq_gn (by first | assumption | decide | omega | exact nq_ne1 (by assumption) (by assumption) | exact nq_ne2 (by assumption) (by assumption)) (by assumption) | exact nq_ga (by assumption)))) rfl rfl (kc := 0) (ks := 0) (mc' := 0) (ms' := 0) (As := [.int (nI 1600), .int (nI 3)]) (rest := []) rfl rfl (by decide) (k_Mod_list (.inr rfl) S2 h3 hc (by omega)) (fun E σ3 hq => ?_) (fun z σ3 hq => ?_)
      · obtain ⟨_, _, _, _, _, hq⟩ := hq
        cases hx : sp_list L (sp_cols k) 3 [] (i + 1) with
        | inl p => rw [hx] at hq; cases hq.1
        | inr w => rw [hx] at hq; cases hq.1
      obtain ⟨f3, v3, ar3, k3, H3, hq⟩ := hq
      have F3 := F2.tr f3
      have K3 := K2.tr k3
      cases hx : sp_list L (sp_cols k) 3 [] (i + 1) with
      | inl p =>
        rw [hx] at hq
        obtain ⟨e1, hf⟩ := hq
        cases e1
        refine nq_if_eq (pc' := 158) (tgt := 183) d_Mod_statement_155 rfl (by decide) (fun _ => ?_) (fun h => absurd rfl h)
        refine nq_iconst (v := 0) (pc' := 184) d_Mod_statement_183 rfl (by decide) ?_
        refine nq_iret d_Mod_statement_184 rfl rfl ⟨F3, v3, ar3, K3, rfl, hf⟩
      | inr w2 =>
      obtain ⟨vs, j⟩ := w2
      rw [hx] at hq
      obtain ⟨e1, t3, S3, V3⟩ := hq
      cases e1
      simp only
      rw [List.nil_append] at S3 V3
      obtain ⟨d1, d2, d3, d4, d5, d6, d7⟩ := sp_list_ok hLt hc (f := 2) (acc := []) (by simp) trivial (fun x hx => by cases hx) hx
      obtain ⟨⟨ops3, hp3⟩, m1, m2, m3⟩ := id S3
      have w3 := hp3.1.1
      have b1 := hp3.1.2.2.1
      have c3 : ar3 1 1603 = nI vs.length := V3.1
      have p5 := hp3.2.2.2.2.1
      simp only [List.length_nil] at d1 d2
      refine nq_if_eq (pc' := 158) (tgt := 183) d_Mod_statement_155 rfl (by decide) (fun h => absurd h (by decide)) (fun _ => ?_)
      refine nq_aload_n (pc' := 159) d_Mod_statement_158 rfl rfl rfl ?_
      refine nq_getf (pc' := 162) d_Mod_statement_159 rfl fl_Mod_13 (by first | assumption | exact nq_ga (by assumption) | exact nq_gs (by first | assumption | exact nq_ga (by assumption) | exact nq_gs (by first | assumption | exact nq_gs (by assumption) | exact nq_gn (by first | assumption | decide | omega | exact nq_ne1 (by assumption) (by assumption) | exact nq_ne2 (by assumption) (by assumption)) (by assumption) | exact nq_ga (by assumption)) | exact nq_gn (by first | assumption | decide | omega | exact nq_ne1 (by assumption) (by assumption) | exact nq_ne2 (by assumption) (by assumption)) (by first | assumption | exact nq_gs (by assumption) | exact nq_gn (by first | assumption | decide | omega | exact nq_ne1 (by assumption) (by assumption) | exact nq_ne2 (by assumption) (by assumption)) (by assumption) | exact nq_ga (by assumption))) | exact nq_gn (by first | assumption | decide | omega | exact nq_ne1 (by assumption) (by assumption) | exact nq_ne2 (by assumption) (by assumption)) (by first | assumption | exact nq_ga (by assumption) | exact nq_gs (by first | assumption | exact nq_gs (by assumption) | exact nq_gn (by first | assumption | decide | omega | exact nq_ne1 (by assumption) (by assumption) | exact nq_ne2 (by assumption) (by assumption)) (by assumption) | exact nq_ga (by assumption)) | exact nq_gn (by first | assumption | decide | omega | exact nq_ne1 (by assumption) (by assumption) | exact nq_ne2 (by assumption) (by assumption)) (by first | assumption | exact nq_gs (by assumption) | exact nq_gn (by first | assumption | decide | omega | exact nq_ne1 (by assumption) (by assumption) | exact nq_ne2 (by assumption) (by assumption)) (by assumption) | exact nq_ga (by assumption)))) rfl ?_
      refine nq_iload_n (pc' := 163) d_Mod_statement_162 rfl rfl rfl ?_
      refine nq_iconst (v := 3) (pc' := 164) d_Mod_statement_163 rfl (by decide) ?_
      refine nq_iadd (pc' := 165) d_Mod_statement_164 rfl ?_
      refine nq_iald (pc' := 166) d_Mod_statement_165 rfl (by first | assumption | exact nq_ga (by assumption) | exact nq_gs (by first | assumption | exact nq_ga (by assumption) | exact nq_gs (by first | assumption | exact nq_gs (by assumption) | exact nq_gn (by first | assumption | decide | omega | exact nq_ne1 (by assumption) (by assumption) | exact nq_ne2 (by assumption) (by assumption)) (by assumption) | exact nq_ga (by assumption)) | exact nq_gn (by first | assumption | decide | omega | exact nq_ne1 (by assumption) (by assumption) | exact nq_ne2 (by assumption) (by assumption)) (by first | assumption | exact nq_gs (by assumption) | exact nq_gn (by first | assumption | decide | omega | exact nq_ne1 (by assumption) (by assumption) | exact nq_ne2 (by assumption) (by assumption)) (by assumption) | exact nq_ga (by assumption))) | exact nq_gn (by first | assumption | decide | omega | exact nq_ne1 (by assumption) (by assumption) | exact nq_ne2 (by assumption) (by assumption)) (by first | assumption | exact nq_ga (by assumption) | exact nq_gs (by first | assumption | exact nq_gs (by assumption) | exact nq_gn (by first | assumption | decide | omega | exact nq_ne1 (by assumption) (by assumption) | exact nq_ne2 (by assumption) (by assumption)) (by assumption) | exact nq_ga (by assumption)) | exact nq_gn (by first | assumption | decide | omega | exact nq_ne1 (by assumption) (by assumption) | exact nq_ne2 (by assumption) (by assumption)) (by first | assumption | exact nq_gs (by assumption) | exact nq_gn (by first | assumption | decide | omega | exact nq_ne1 (by assumption) (by assumption) | exact nq_ne2 (by assumption) (by assumption)) (by assumption) | exact nq_ga (by assumption)))) rfl (j := 1603) (by decide) (by decide) (by decide) ?_
      rw [c3]
      refine nq_iconst (v := 3) (pc' := 167) d_Mod_statement_166 rfl (by decide) ?_
      have no : ¬ (vs.length = 3 ∧ L j = 41) → nq_J G (d + 1) 0 0 m_Mod_statement 183 [some (.ref 270), some (.int (nI 1600)), some (.int (nI k)), some (.int tw)] [] σ3 (mst_Q σ v ar L N (match (if vs.length = 3 ∧ L j = 41 then .inr (vs, 0, j + 1) else .inl j : Nat ⊕ (List (List nq_In) × Nat × Nat)) with
          | .inl p => .inl p
          | .inr (vs, fn, j) => .inr ((k, t, u, vs, fn, [], 0), j))) := by
        intro hn
        rw [if_neg hn]
        refine nq_iconst (v := 0) (pc' := 184) d_Mod_statement_183 rfl (by decide) ?_
        refine nq_iret d_Mod_statement_184 rfl rfl ⟨F3, v3, ar3, K3, rfl, hp3.1, p5⟩
      by_cases l3' : vs.length = 3
      · refine nq_icmp_ne (pc' := 170) (tgt := 183) d_Mod_statement_167 rfl (by decide) (fun h => absurd (by rw [l3']; rfl) h) (fun _ => ?_)
        refine nq_aload_n (pc' := 171) d_Mod_statement_170 rfl rfl rfl ?_
        refine nq_bipush (v := 41) (pc' := 173) d_Mod_statement_171 rfl (by decide) ?_
        refine nq_callVR (pc' := 176) d_Mod_statement_173 rfl cl_Mod_124 rfl (by first | assumption | exact nq_ga (by assumption) | exact nq_gs (by first | assumption | exact nq_ga (by assumption) | exact nq_gs (by first | assumption | exact nq_gs (by assumption) | exact nq_gn (by first | assumption | decide | omega | exact nq_ne1 (by assumption) (by assumption) | exact nq_ne2 (by assumption) (by assumption)) (by assumption) | exact nq_ga (by assumption)) | exact nq_gn (by first | assumption | decide | omega | exact nq_ne1 (by assumption) (by assumption) | exact nq_ne2 (by assumption) (by assumption)) (by first | assumption | exact nq_gs (by assumption) | exact nq_gn (by first | assumption | decide | omega | exact nq_ne1 (by assumption) (by assumption) | exact nq_ne2 (by assumption) (by assumption)) (by assumption) | exact nq_ga (by assumption))) | exact nq_gn (by first | assumption | decide | omega | exact nq_ne1 (by assumption) (by assumption) | exact nq_ne2 (by assumption) (by assumption)) (by first | assumption | exact nq_ga (by assumption) | exact nq_gs (by first | assumption | exact nq_gs (by assumption) | exact nq_gn (by first | assumption | decide | omega | exact nq_ne1 (by assumption) (by assumption) | exact nq_ne2 (by assumption) (by assumption)) (by assumption) | exact nq_ga (by assumption)) | exact nq_gn (by first | assumption | decide | omega | exact nq_ne1 (by assumption) (by assumption) | exact nq_ne2 (by assumption) (by assumption)) (by first | assumption | exact nq_gs (by assumption) | exact nq_gn (by first | assumption | decide | omega | exact nq_ne1 (by assumption) (by assumption) | exact nq_ne2 (by assumption) (by assumption)) (by assumption) | exact nq_ga (by assumption)))) rfl rfl (kc := 0) (ks := 0) (mc' := 0) (ms' := 0) (As := [.int (nI 41)]) (rest := []) rfl rfl (by decide) (k_Mod_passes (c := 41) hp3 (by omega) (by decide) (by omega)) ?_
        by_cases e41 : L j = 41
        · have hj' := hLt j (by omega)
          rw [if_pos e41, if_pos e41, if_pos ⟨l3', e41⟩]
          refine nq_if_eq (pc' := 179) (tgt := 183) d_Mod_statement_176 rfl (by decide) (fun h => absurd h (by decide)) (fun _ => ?_)
          refine nq_iconst (v := 1) (pc' := 180) d_Mod_statement_179 rfl (by decide) ?_
          refine nq_goto (tgt := 184) d_Mod_statement_180 (by decide) ?_
          refine nq_iret d_Mod_statement_184 rfl rfl ?_
          refine ⟨F3.tr (mo_fr.st (by decide)), upd v3 2 (nI (j + 1)), ar3, K3.tr (mo_kh.u (by decide)), rfl, sp_nc (sp_cols k), t3, ?_, ?_, ?_, ?_, V3, ?_, ⟨?_, fun k x hk => by simp at hk⟩, ?_⟩
          · unfold cl_q
            simp only [List.flatMap_nil, List.append_nil]
            rw [Nat.zero_add] at S3
            exact S3.pos (by omega) (by omega)
          · rw [H3 0 (by omega) (by omega)]
            exact h0
          · rw [H3 1 (by omega) (by omega)]
            exact h1
          · intro hu
            rw [H3 2 (by omega) (by omega)]
            exact h2 hu
          · rw [H3 9 (by omega) (by omega)]
            exact h9
          · rw [H3 8 (by omega) (by omega)]
            exact h8
          · rw [H3 10 (by omega) (by omega)]
            exact h10
        · rw [if_neg e41, if_neg e41]
          refine nq_if_eq (pc' := 179) (tgt := 183) d_Mod_statement_176 rfl (by decide) (fun _ => no (fun h => e41 h.2)) (fun h => absurd rfl h)
      · refine nq_icmp_ne (pc' := 170) (tgt := 183) d_Mod_statement_167 rfl (by decide) (fun _ => no (fun h => l3' h.1)) (fun h => absurd (nI_inj (by omega) (by omega) (show nI vs.length = nI 3 from h)) l3')
    · rw [if_neg e40, if_neg e40, if_neg e40]
      refine nq_if_eq (pc' := 149) (tgt := 183) d_Mod_statement_146 rfl (by decide) (fun _ => ?_) (fun h => absurd rfl h)
      refine nq_iconst (v := 0) (pc' := 184) d_Mod_statement_183 rfl (by decide) ?_
      refine nq_iret d_Mod_statement_184 rfl rfl ⟨F1, v1, ar1, K1, rfl, hp.1, s5⟩
  refine nq_icmp_ne (pc' := 140) (tgt := 185) d_Mod_statement_137 rfl (by decide) (fun _ => ?_) (fun h => absurd h (kk 73 (by decide) k73))
  refine nq_iload_n (pc' := 186) d_Mod_statement_185 rfl rfl rfl ?_
  refine nq_bipush (v := 85) (pc' := 188) d_Mod_statement_186 rfl (by decide) ?_
  /- the list of a statement, then the rest -/
  have lst : ∀ (most pc fn j : Nat) (σ2 : nq_S) (v2 : Nat → Int32) (ar2 : mo_Ar), (most = 1 ∨ most = 3) → 1 ≤ j → mt_S σ2 v2 ar2 L N (sp_nc (sp_cols k)) j [] 0 → (∀ x, x < 70 → x ≠ 9 → mo_hd ar2 x = mo_hd ar1 x) → mo_hd ar2 9 = nI fn → mo_fr σ σ2 → mo_kh v ar v2 ar2 → ∀ (z : Option Value) (σ3 : nq_S), ml_Q σ2 v2 ar2 L N (sp_nc (sp_cols k)) 0 [] (sp_list L (sp_cols k) most [] j) (.inl z) σ3 → (∃ p, sp_list L (sp_cols k) most [] j = .inl p ∧ z = some (.int 0) ∧ mo_fr σ σ3 ∧ ∃ v3 ar3, mo_kh v ar v3 ar3 ∧ mf_S σ3 v3 ar3 p) ∨ (∃ vs j3, sp_list L (sp_cols k) most [] j = .inr (vs, j3) ∧ z = some (.int 1) ∧ nq_J G (d + 1) 0 0 m_Mod_statement 352 [some (.ref 270), some (.int (nI 1600)), some (.int (nI k)), some (.int tw)] [] σ3 (mst_Q σ v ar L N (match sp_cond L k (sp_cols k) j3 with
      | .inl p => .inl p
      | .inr (cs, j2) => match sp_ord L k (sp_cols k) j2 with
        | .inl p => .inl p
        | .inr (od, j3) => .inr ((k, t, u, vs, fn, cs, od), j3)))) := by
    intro most pc fn j σ2 v2 ar2 hm hj S2 H2 h9' F2 K2 z σ3 hq
    obtain ⟨f3, v3, ar3, k3, H3, hq⟩ := hq
    cases hx : sp_list L (sp_cols k) most [] j with
    | inl p =>
      rw [hx] at hq
      obtain ⟨e1, hf⟩ := hq
      cases e1
      exact .inl ⟨p, rfl, rfl, F2.tr f3, v3, ar3, K2.tr k3, hf⟩
    | inr w2 =>
      obtain ⟨vs, j3⟩ := w2
      rw [hx] at hq
      obtain ⟨e1, t3, S3, V3⟩ := hq
      cases e1
      rw [List.nil_append] at S3 V3
      rw [Nat.zero_add] at S3
      obtain ⟨F, rfl⟩ : ∃ F, most = F + 1 := ⟨most - 1, by omega⟩
      obtain ⟨d1, d2, d3, d4, d5, d6, d7⟩ := sp_list_ok hLt hc (f := F) (acc := []) (by simp only [List.length_nil]; omega) trivial (fun x hx => by cases hx) hx
      simp only [List.length_nil] at d1 d2
      refine .inr ⟨vs, j3, rfl, rfl, ms_tail (by omega) hc hk128 k73 (by omega) (by omega) S3 V3 ?_ ?_ ?_ ?_ ?_ ?_ (F2.tr f3) (K2.tr k3)⟩
      · rw [H3 0 (by omega) (by omega), H2 0 (by omega) (by omega)]; exact h0
      · rw [H3 1 (by omega) (by omega), H2 1 (by omega) (by omega)]; exact h1
      · intro hu; rw [H3 2 (by omega) (by omega), H2 2 (by omega) (by omega)]; exact h2 hu
      · rw [H3 8 (by omega) (by omega), H2 8 (by omega) (by omega)]; exact h8
      · rw [H3 9 (by omega) (by omega)]; exact h9'
      · rw [H3 10 (by omega) (by omega), H2 10 (by omega) (by omega)]; exact h10
  have go329 : ¬ (k = 83 ∨ k = 80) → ∀ (σ2 : nq_S) (Q : nq_Q), nq_J G (d + 1) 0 0 m_Mod_statement 352 [some (.ref 270), some (.int (nI 1600)), some (.int (nI k)), some (.int tw)] [] σ2 Q → nq_J G (d + 1) 0 0 m_Mod_statement 329 [some (.ref 270), some (.int (nI 1600)), some (.int (nI k)), some (.int tw)] [] σ2 Q := by
    intro hn σ2 Q hJ
    refine nq_iload_n (pc' := 330) d_Mod_statement_329 rfl rfl rfl ?_
    refine nq_bipush (v := 83) (pc' := 332) d_Mod_statement_330 rfl (by decide) ?_
    refine nq_icmp_eq (pc' := 335) (tgt := 341) d_Mod_statement_332 rfl (by decide) (fun h => absurd h (kk 83 (by decide) (by omega))) (fun _ => ?_)
    refine nq_iload_n (pc' := 336) d_Mod_statement_335 rfl rfl rfl ?_
    refine nq_bipush (v := 80) (pc' := 338) d_Mod_statement_336 rfl (by decide) ?_
    refine nq_icmp_ne (pc' := 341) (tgt := 352) d_Mod_statement_338 rfl (by decide) (fun _ => hJ) (fun h => absurd h (kk 80 (by decide) (by omega)))
  have go257 : ¬ (k = 65 ∨ k = 66) → ∀ (σ2 : nq_S) (Q : nq_Q), nq_J G (d + 1) 0 0 m_Mod_statement 329 [some (.ref 270), some (.int (nI 1600)), some (.int (nI k)), some (.int tw)] [] σ2 Q → nq_J G (d + 1) 0 0 m_Mod_statement 257 [some (.ref 270), some (.int (nI 1600)), some (.int (nI k)), some (.int tw)] [] σ2 Q := by
    intro hn σ2 Q hJ
    refine nq_iload_n (pc' := 258) d_Mod_statement_257 rfl rfl rfl ?_
    refine nq_bipush (v := 65) (pc' := 260) d_Mod_statement_258 rfl (by decide) ?_
    refine nq_icmp_eq (pc' := 263) (tgt := 269) d_Mod_statement_260 rfl (by decide) (fun h => absurd h (kk 65 (by decide) (by omega))) (fun _ => ?_)
    refine nq_iload_n (pc' := 264) d_Mod_statement_263 rfl rfl rfl ?_
    refine nq_bipush (v := 66) (pc' := 266) d_Mod_statement_264 rfl (by decide) ?_
    refine nq_icmp_ne (pc' := 269) (tgt := 329) d_Mod_statement_266 rfl (by decide) (fun _ => hJ) (fun h => absurd h (kk 66 (by decide) (by omega)))
  by_cases k85 : k = 85
  · have hv : sp_vals L k (sp_cols k) i = (if L i ∈ tx 13 then (if L (i + 1) = 61 then (match sp_list L (sp_cols k) 1 [] (i + 2) with
        | .inl p => .inl p
        | .inr (vs, j) => .inr (vs, L i - 97, j)) else .inl (i + 1)) else .inl i) := by
      unfold sp_vals
      rw [if_neg k73, if_neg (by omega), if_pos k85]
      try rfl
    rw [hv]
    refine nq_icmp_ne (pc' := 191) (tgt := 257) d_Mod_statement_188 rfl (by decide) (fun h => absurd (by rw [k85]; rfl) h) (fun _ => ?_)
    refine nq_aload_n (pc' := 192) d_Mod_statement_191 rfl rfl rfl ?_
    refine nq_callVR (pc' := 195) d_Mod_statement_192 rfl cl_Mod_84 rfl (by first | assumption | exact nq_ga (by assumption) | exact nq_gs (by first | assumption | exact nq_ga (by assumption) | exact nq_gs (by first | assumption | exact nq_gs (by assumption) | exact nq_gn (by first | assumption | decide | omega | exact nq_ne1 (by assumption) (by assumption) | exact nq_ne2 (by assumption) (by assumption)) (by assumption) | exact nq_ga (by assumption)) | exact nq_gn (by first | assumption | decide | omega | exact nq_ne1 (by assumption) (by assumption) | exact nq_ne2 (by assumption) (by assumption)) (by first | assumption | exact nq_gs (by assumption) | exact nq_gn (by first | assumption | decide | omega | exact nq_ne1 (by assumption) (by assumption) | exact nq_ne2 (by assumption) (by assumption)) (by assumption) | exact nq_ga (by assumption))) | exact nq_gn (by first | assumption | decide | omega | exact nq_ne1 (by assumption) (by assumption) | exact nq_ne2 (by assumption) (by assumption)) (by first | assumption | exact nq_ga (by assumption) | exact nq_gs (by first | assumption | exact nq_gs (by assumption) | exact nq_gn (by first | assumption | decide | omega | exact nq_ne1 (by assumption) (by assumption) | exact nq_ne2 (by assumption) (by assumption)) (by assumption) | exact nq_ga (by assumption)) | exact nq_gn (by first | assumption | decide | omega | exact nq_ne1 (by assumption) (by assumption) | exact nq_ne2 (by assumption) (by assumption)) (by first | assumption | exact nq_gs (by assumption) | exact nq_gn (by first | assumption | decide | omega | exact nq_ne1 (by assumption) (by assumption) | exact nq_ne2 (by assumption) (by assumption)) (by assumption) | exact nq_ga (by assumption)))) rfl rfl (kc := 0) (ks := 0) (mc' := 0) (ms' := 0) (As := []) (rest := []) rfl rfl (by decide) (k_Mod_look hp (by omega)) ?_
    refine nq_bipush (v := 98) (pc' := 197) d_Mod_statement_195 rfl (by decide) ?_
    have yes : L i ∈ tx 13 → nq_J G (d + 1) 0 0 m_Mod_statement 211 [some (.ref 270), some (.int (nI 1600)), some (.int (nI k)), some (.int tw)] [] σ1 (mst_Q σ v ar L N (match (if L i ∈ tx 13 then (if L (i + 1) = 61 then (match sp_list L (sp_cols k) 1 [] (i + 2) with
        | .inl p => .inl p
        | .inr (vs, j) => .inr (vs, L i - 97, j)) else .inl (i + 1)) else .inl i : Nat ⊕ (List (List nq_In) × Nat × Nat)) with
      | .inl p => .inl p
      | .inr (vs, fn, j) => match sp_cond L k (sp_cols k) j with
        | .inl p => .inl p
        | .inr (cs, j2) => match sp_ord L k (sp_cols k) j2 with
          | .inl p => .inl p
          | .inr (od, j3) => .inr ((k, t, u, vs, fn, cs, od), j3))) := by
      intro hm
      rw [if_pos hm]
      have hi' := hLt i (tx_n0 hm)
      have h97 : 97 ≤ L i := by
        have : ∀ c ∈ tx 13, 97 ≤ c := by decide
        exact this _ hm
      refine nq_aload_n (pc' := 212) d_Mod_statement_211 rfl rfl rfl ?_
      refine nq_getf (pc' := 215) d_Mod_statement_212 rfl fl_Mod_13 (by first | assumption | exact nq_ga (by assumption) | exact nq_gs (by first | assumption | exact nq_ga (by assumption) | exact nq_gs (by first | assumption | exact nq_gs (by assumption) | exact nq_gn (by first | assumption | decide | omega | exact nq_ne1 (by assumption) (by assumption) | exact nq_ne2 (by assumption) (by assumption)) (by assumption) | exact nq_ga (by assumption)) | exact nq_gn (by first | assumption | decide | omega | exact nq_ne1 (by assumption) (by assumption) | exact nq_ne2 (by assumption) (by assumption)) (by first | assumption | exact nq_gs (by assumption) | exact nq_gn (by first | assumption | decide | omega | exact nq_ne1 (by assumption) (by assumption) | exact nq_ne2 (by assumption) (by assumption)) (by assumption) | exact nq_ga (by assumption))) | exact nq_gn (by first | assumption | decide | omega | exact nq_ne1 (by assumption) (by assumption) | exact nq_ne2 (by assumption) (by assumption)) (by first | assumption | exact nq_ga (by assumption) | exact nq_gs (by first | assumption | exact nq_gs (by assumption) | exact nq_gn (by first | assumption | decide | omega | exact nq_ne1 (by assumption) (by assumption) | exact nq_ne2 (by assumption) (by assumption)) (by assumption) | exact nq_ga (by assumption)) | exact nq_gn (by first | assumption | decide | omega | exact nq_ne1 (by assumption) (by assumption) | exact nq_ne2 (by assumption) (by assumption)) (by first | assumption | exact nq_gs (by assumption) | exact nq_gn (by first | assumption | decide | omega | exact nq_ne1 (by assumption) (by assumption) | exact nq_ne2 (by assumption) (by assumption)) (by assumption) | exact nq_ga (by assumption)))) rfl ?_
      refine nq_iload_n (pc' := 216) d_Mod_statement_215 rfl rfl rfl ?_
      refine nq_bipush (v := 9) (pc' := 218) d_Mod_statement_216 rfl (by decide) ?_
      refine nq_iadd (pc' := 219) d_Mod_statement_218 rfl ?_
      refine nq_aload_n (pc' := 220) d_Mod_statement_219 rfl rfl rfl ?_
      refine nq_callVR (pc' := 223) d_Mod_statement_220 rfl cl_Mod_84 rfl (by first | assumption | exact nq_ga (by assumption) | exact nq_gs (by first | assumption | exact nq_ga (by assumption) | exact nq_gs (by first | assumption | exact nq_gs (by assumption) | exact nq_gn (by first | assumption | decide | omega | exact nq_ne1 (by assumption) (by assumption) | exact nq_ne2 (by assumption) (by assumption)) (by assumption) | exact nq_ga (by assumption)) | exact nq_gn (by first | assumption | decide | omega | exact nq_ne1 (by assumption) (by assumption) | exact nq_ne2 (by assumption) (by assumption)) (by first | assumption | exact nq_gs (by assumption) | exact nq_gn (by first | assumption | decide | omega | exact nq_ne1 (by assumption) (by assumption) | exact nq_ne2 (by assumption) (by assumption)) (by assumption) | exact nq_ga (by assumption))) | exact nq_gn (by first | assumption | decide | omega | exact nq_ne1 (by assumption) (by assumption) | exact nq_ne2 (by assumption) (by assumption)) (by first | assumption | exact nq_ga (by assumption) | exact nq_gs (by first | assumption | exact nq_gs (by assumption) | exact nq_gn (by first | assumption | decide | omega | exact nq_ne1 (by assumption) (by assumption) | exact nq_ne2 (by assumption) (by assumption)) (by assumption) | exact nq_ga (by assumption)) | exact nq_gn (by first | assumption | decide | omega | exact nq_ne1 (by assumption) (by assumption) | exact nq_ne2 (by assumption) (by assumption)) (by first | assumption | exact nq_gs (by assumption) | exact nq_gn (by first | assumption | decide | omega | exact nq_ne1 (by assumption) (by assumption) | exact nq_ne2 (by assumption) (by assumption)) (by assumption) | exact nq_ga (by assumption)))) rfl rfl (kc := 0) (ks := 0) (mc' := 0) (ms' := 0) (As := []) (rest := [.int (nI 1600 + 9), .ref 272]) rfl rfl (Nat.le_of_ble_eq_true rfl) (k_Mod_look hp (by omega)) ?_
      refine nq_bipush (v := 97) (pc' := 225) d_Mod_statement_223 rfl (by decide) ?_
      refine nq_isub (pc' := 226) d_Mod_statement_225 rfl ?_
      refine (congrArg (fun x => nq_J G (d + 1) 0 0 m_Mod_statement 226 _ [Value.int x, .int (nI 1600 + 9), .ref 272] _ _) (show nI (L i) - nI 97 = nI (L i - 97) from rd_sb h97)).mpr ?_
      refine nq_iast (pc' := 227) d_Mod_statement_226 rfl (by first | assumption | exact nq_ga (by assumption) | exact nq_gs (by first | assumption | exact nq_ga (by assumption) | exact nq_gs (by first | assumption | exact nq_gs (by assumption) | exact nq_gn (by first | assumption | decide | omega | exact nq_ne1 (by assumption) (by assumption) | exact nq_ne2 (by assumption) (by assumption)) (by assumption) | exact nq_ga (by assumption)) | exact nq_gn (by first | assumption | decide | omega | exact nq_ne1 (by assumption) (by assumption) | exact nq_ne2 (by assumption) (by assumption)) (by first | assumption | exact nq_gs (by assumption) | exact nq_gn (by first | assumption | decide | omega | exact nq_ne1 (by assumption) (by assumption) | exact nq_ne2 (by assumption) (by assumption)) (by assumption) | exact nq_ga (by assumption))) | exact nq_gn (by first | assumption | decide | omega | exact nq_ne1 (by assumption) (by assumption) | exact nq_ne2 (by assumption) (by assumption)) (by first | assumption | exact nq_ga (by assumption) | exact nq_gs (by first | assumption | exact nq_gs (by assumption) | exact nq_gn (by first | assumption | decide | omega | exact nq_ne1 (by assumption) (by assumption) | exact nq_ne2 (by assumption) (by assumption)) (by assumption) | exact nq_ga (by assumption)) | exact nq_gn (by first | assumption | decide | omega | exact nq_ne1 (by assumption) (by assumption) | exact nq_ne2 (by assumption) (by assumption)) (by first | assumption | exact nq_gs (by assumption) | exact nq_gn (by first | assumption | decide | omega | exact nq_ne1 (by assumption) (by assumption) | exact nq_ne2 (by assumption) (by assumption)) (by assumption) | exact nq_ga (by assumption)))) rfl (j := 1609) (by decide) (by decide) (by decide) ?_
      have S2 := (S.hd (f := upd (ar1 1) 1609 (nI (L i - 97))) (fun j hj => upd_ne (by omega))).pos (i' := i + 1) (by omega) (by omega)
      refine nq_aload_n (pc' := 228) d_Mod_statement_227 rfl rfl rfl ?_
      refine nq_dup (pc' := 229) d_Mod_statement_228 rfl rfl ?_
      refine nq_getf (pc' := 232) d_Mod_statement_229 rfl fl_Mod_81 (by first | assumption | exact nq_ga (by assumption) | exact nq_gs (by first | assumption | exact nq_ga (by assumption) | exact nq_gs (by first | assumption | exact nq_gs (by assumption) | exact nq_gn (by first | assumption | decide | omega | exact nq_ne1 (by assumption) (by assumption) | exact nq_ne2 (by assumption) (by assumption)) (by assumption) | exact nq_ga (by assumption)) | exact nq_gn (by first | assumption | decide | omega | exact nq_ne1 (by assumption) (by assumption) | exact nq_ne2 (by assumption) (by assumption)) (by first | assumption | exact nq_gs (by assumption) | exact nq_gn (by first | assumption | decide | omega | exact nq_ne1 (by assumption) (by assumption) | exact nq_ne2 (by assumption) (by assumption)) (by assumption) | exact nq_ga (by assumption))) | exact nq_gn (by first | assumption | decide | omega | exact nq_ne1 (by assumption) (by assumption) | exact nq_ne2 (by assumption) (by assumption)) (by first | assumption | exact nq_ga (by assumption) | exact nq_gs (by first | assumption | exact nq_gs (by assumption) | exact nq_gn (by first | assumption | decide | omega | exact nq_ne1 (by assumption) (by assumption) | exact nq_ne2 (by assumption) (by assumption)) (by assumption) | exact nq_ga (by assumption)) | exact nq_gn (by first | assumption | decide | omega | exact nq_ne1 (by assumption) (by assumption) | exact nq_ne2 (by assumption) (by assumption)) (by first | assumption | exact nq_gs (by assumption) | exact nq_gn (by first | assumption | decide | omega | exact nq_ne1 (by assumption) (by assumption) | exact nq_ne2 (by assumption) (by assumption)) (by assumption) | exact nq_ga (by assumption)))) rfl ?_
      refine nq_iconst (v := 1) (pc' := 233) d_Mod_statement_232 rfl (by decide) ?_
      refine nq_iadd (pc' := 234) d_Mod_statement_233 rfl ?_
      refine nq_putf (pc' := 237) d_Mod_statement_234 rfl fl_Mod_81 (by first | assumption | exact nq_ga (by assumption) | exact nq_gs (by first | assumption | exact nq_ga (by assumption) | exact nq_gs (by first | assumption | exact nq_gs (by assumption) | exact nq_gn (by first | assumption | decide | omega | exact nq_ne1 (by assumption) (by assumption) | exact nq_ne2 (by assumption) (by assumption)) (by assumption) | exact nq_ga (by assumption)) | exact nq_gn (by first | assumption | decide | omega | exact nq_ne1 (by assumption) (by assumption) | exact nq_ne2 (by assumption) (by assumption)) (by first | assumption | exact nq_gs (by assumption) | exact nq_gn (by first | assumption | decide | omega | exact nq_ne1 (by assumption) (by assumption) | exact nq_ne2 (by assumption) (by assumption)) (by assumption) | exact nq_ga (by assumption))) | exact nq_gn (by first | assumption | decide | omega | exact nq_ne1 (by assumption) (by assumption) | exact nq_ne2 (by assumption) (by assumption)) (by first | assumption | exact nq_ga (by assumption) | exact nq_gs (by first | assumption | exact nq_gs (by assumption) | exact nq_gn (by first | assumption | decide | omega | exact nq_ne1 (by assumption) (by assumption) | exact nq_ne2 (by assumption) (by assumption)) (by assumption) | exact nq_ga (by assumption)) | exact nq_gn (by first | assumption | decide | omega | exact nq_ne1 (by assumption) (by assumption) | exact nq_ne2 (by assumption) (by assumption)) (by first | assumption | exact nq_gs (by assumption) | exact nq_gn (by first | assumption | decide | omega | exact nq_ne1 (by assumption) (by assumption) | exact nq_ne2 (by assumption) (by assumption)) (by assumption) | exact nq_ga (by assumption)))) (Nat.le_of_ble_eq_true rfl) rfl rfl ?_
      rw [s5, nI_1]
      refine nq_gen (P := fun w => nq_J _ _ _ _ _ _ _ _ w _) (fun σ2 hσ2 => ?_)
      replace S2 : mt_S σ2 (upd v1 2 (nI (i + 1))) (ua ar1 1 (upd (ar1 1) 1609 (nI (L i - 97)))) L N (sp_nc (sp_cols k)) (i + 1) [] 0 := by rw [hσ2]; exact S2
      have F2 : mo_fr σ σ2 := F1.tr (by rw [hσ2]; exact (mo_fr.st (by decide)).tr (mo_fr.st (by decide)))
      have K2 : mo_kh v ar (upd v1 2 (nI (i + 1))) (ua ar1 1 (upd (ar1 1) 1609 (nI (L i - 97)))) := (K1.tr (mo_kh.c (fun j hj => upd_ne (by omega)))).tr (mo_kh.u (by decide))
      have H2 : ∀ x, x < 70 → x ≠ 9 → mo_hd (ua ar1 1 (upd (ar1 1) 1609 (nI (L i - 97)))) x = mo_hd ar1 x := fun x hx hn => by
        unfold mo_hd
        rw [ua_at, upd_ne (by omega)]
      have H9 : mo_hd (ua ar1 1 (upd (ar1 1) 1609 (nI (L i - 97)))) 9 = nI (L i - 97) := by
        unfold mo_hd
        rw [ua_at, upd_at]
      obtain ⟨⟨ops2, hp2⟩, m1, m2, m3⟩ := id S2
      have w2 := hp2.1.1
      refine nq_aload_n (pc' := 238) d_Mod_statement_237 rfl rfl rfl ?_
      refine nq_bipush (v := 61) (pc' := 240) d_Mod_statement_238 rfl (by decide) ?_
      refine nq_callVR (pc' := 243) d_Mod_statement_240 rfl cl_Mod_124 rfl (by first | assumption | exact nq_ga (by assumption) | exact nq_gs (by first | assumption | exact nq_ga (by assumption) | exact nq_gs (by first | assumption | exact nq_gs (by assumption) | exact nq_gn (by first | assumption | decide | omega | exact nq_ne1 (by assumption) (by assumption) | exact nq_ne2 (by assumption) (by assumption)) (by assumption) | exact nq_ga (by assumption)) | exact nq_gn (by first | assumption | decide | omega | exact nq_ne1 (by assumption) (by assumption) | exact nq_ne2 (by assumption) (by assumption)) (by first | assumption | exact nq_gs (by assumption) | exact nq_gn (by first | assumption | decide | omega | exact nq_ne1 (by assumption) (by assumption) | exact nq_ne2 (by assumption) (by assumption)) (by assumption) | exact nq_ga (by assumption))) | exact nq_gn (by first | assumption | decide | omega | exact nq_ne1 (by assumption) (by assumption) | exact nq_ne2 (by assumption) (by assumption)) (by first | assumption | exact nq_ga (by assumption) | exact nq_gs (by first | assumption | exact nq_gs (by assumption) | exact nq_gn (by first | assumption | decide | omega | exact nq_ne1 (by assumption) (by assumption) | exact nq_ne2 (by assumption) (by assumption)) (by assumption) | exact nq_ga (by assumption)) | exact nq_gn (by first | assumption | decide | omega | exact nq_ne1 (by assumption) (by assumption) | exact nq_ne2 (by assumption) (by assumption)) (by first | assumption | exact nq_gs (by assumption) | exact nq_gn (by first | assumption | decide | omega | exact nq_ne1 (by assumption) (by assumption) | exact nq_ne2 (by assumption) (by assumption)) (by assumption) | exact nq_ga (by assumption)))) rfl rfl (kc := 0) (ks := 0) (mc' := 0) (ms' := 0) (As := [.int (nI 61)]) (rest := []) rfl rfl (by decide) (k_Mod_passes (c := 61) hp2 (by omega) (by decide) (by omega)) ?_
      by_cases e61 : L (i + 1) = 61
      · have hi2 := hLt (i + 1) (by omega)
        rw [if_pos e61, if_pos e61, if_pos e61]
        refine nq_if_eq (pc' := 246) (tgt := 255) d_Mod_statement_243 rfl (by decide) (fun h => absurd h (by decide)) (fun _ => ?_)
        refine nq_gen (P := fun w => nq_J _ _ _ _ _ _ _ _ w _) (fun σ3 hσ3 => ?_)
        have S3 : mt_S σ3 (upd (upd v1 2 (nI (i + 1))) 2 (nI (i + 2))) (ua ar1 1 (upd (ar1 1) 1609 (nI (L i - 97)))) L N (sp_nc (sp_cols k)) (i + 2) [] 0 := by rw [hσ3]; exact S2.pos (by omega) (by omega)
        have F3 : mo_fr σ σ3 := F2.tr (by rw [hσ3]; exact mo_fr.st (by decide))
        have K3 := K2.tr (mo_kh.u (k := 2) (x := nI (i + 2)) (by decide))
        have w3 := S3.1.w.1.1
        refine nq_aload_n (pc' := 247) d_Mod_statement_246 rfl rfl rfl ?_
        refine nq_iload_n (pc' := 248) d_Mod_statement_247 rfl rfl rfl ?_
        refine nq_iconst (v := 1) (pc' := 249) d_Mod_statement_248 rfl (by decide) ?_
        refine nq_callV (pc' := 252) d_Mod_statement_249 rfl cl_Mod_134 rfl (by first | assumption | exact nq_ga (by assumption) | exact nq_gs (by first | assumption | exact nq_ga (by assumption) | exact nq_gs (by first | assumption | exact nq_gs (by assumption) | exact nq_gn (by first | assumption | decide | omega | exact nq_ne1 (by assumption) (by assumption) | exact nq_ne2 (by assumption) (by assumption)) (by assumption) | exact nq_ga (by assumption)) | exact nq_gn (by first | assumption | decide | omega | exact nq_ne1 (by assumption) (by assumption) | exact nq_ne2 (by assumption) (by assumption)) (by first | assumption | exact nq_gs (by assumption) | exact nq_gn (by first | assumption | decide | omega | exact nq_ne1 (by assumption) (by assumption) | exact nq_ne2 (by assumption) (by assumption)) (by assumption) | exact nq_ga (by assumption))) | exact nq_gn (by first | assumption | decide | omega | exact nq_ne1 (by assumption) (by assumption) | exact nq_ne2 (by assumption) (by assumption)) (by first | assumption | exact nq_ga (by assumption) | exact nq_gs (by first | assumption | exact nq_gs (by assumption) | exact nq_gn (by first | assumption | decide | omega | exact nq_ne1 (by assumption) (by assumption) | exact nq_ne2 (by assumption) (by assumption)) (by assumption) | exact nq_ga (by assumption)) | exact nq_gn (by first | assumption | decide | omega | exact nq_ne1 (by assumption) (by assumption) | exact nq_ne2 (by assumption) (by assumption)) (by first | assumption | exact nq_gs (by assumption) | exact nq_gn (by first | assumption | decide | omega | exact nq_ne1 (by assumption) (by assumption) | exact nq_ne2 (by assumption) (by assumption)) (by assumption) | exact nq_ga (by assumption)))) rfl rfl (kc := 0) (ks := 0) (mc' := 0) (ms' := 0) (As := [.int (nI 1600), .int (nI 1)]) (rest := []) rfl rfl (by decide) (k_Mod_list (.inl rfl) S3 ((H2 3 (by decide) (by decide)).trans h3) hc (by omega)) (fun E σ4 hq => ?_) (fun z σ4 hq => ?_)
        · obtain ⟨_, _, _, _, _, hq⟩ := hq
          cases hx : sp_list L (sp_cols k) 1 [] (i + 2) with
          | inl p => rw [hx] at hq; cases hq.1
          | inr w => rw [hx] at hq; cases hq.1
        rcases lst 1 0 (L i - 97) (i + 2) σ3 _ _ (.inl rfl) (by omega) S3 H2 H9 F3 K3 z σ4 hq with ⟨p, hx, rfl, F4, v4, ar4, K4, hf⟩ | ⟨vs, j3, hx, rfl, hJ⟩
        · rw [hx]
          refine nq_if_ne (pc' := 255) (tgt := 257) d_Mod_statement_252 rfl (by decide) (fun h => absurd rfl h) (fun _ => ?_)
          refine nq_iconst (v := 0) (pc' := 256) d_Mod_statement_255 rfl (by decide) ?_
          refine nq_iret d_Mod_statement_256 rfl rfl ⟨F4, v4, ar4, K4, rfl, hf⟩
        · rw [hx]
          refine nq_if_ne (pc' := 255) (tgt := 257) d_Mod_statement_252 rfl (by decide) (fun _ => ?_) (fun h => absurd h (by decide))
          exact go257 (by omega) _ _ (go329 (by omega) _ _ hJ)
      · rw [if_neg e61, if_neg e61, if_neg e61]
        refine nq_if_eq (pc' := 246) (tgt := 255) d_Mod_statement_243 rfl (by decide) (fun _ => ?_) (fun h => absurd rfl h)
        refine nq_iconst (v := 0) (pc' := 256) d_Mod_statement_255 rfl (by decide) ?_
        refine nq_iret d_Mod_statement_256 rfl rfl ⟨F2, _, _, K2, rfl, hp2.1, hp2.2.2.2.2.1⟩
    by_cases b1 : L i = 98
    · refine nq_icmp_eq (pc' := 200) (tgt := 211) d_Mod_statement_197 rfl (by decide) (fun _ => yes (by rw [b1]; decide)) (fun h => absurd (by rw [b1]; rfl) h)
    refine nq_icmp_eq (pc' := 200) (tgt := 211) d_Mod_statement_197 rfl (by decide) (fun h => absurd (nI_inj (by have := hl7 i; omega) (by omega) (show nI (L i) = nI 98 from h)) b1) (fun _ => ?_)
    refine nq_aload_n (pc' := 201) d_Mod_statement_200 rfl rfl rfl ?_
    refine nq_callVR (pc' := 204) d_Mod_statement_201 rfl cl_Mod_84 rfl (by first | assumption | exact nq_ga (by assumption) | exact nq_gs (by first | assumption | exact nq_ga (by assumption) | exact nq_gs (by first | assumption | exact nq_gs (by assumption) | exact nq_gn (by first | assumption | decide | omega | exact nq_ne1 (by assumption) (by assumption) | exact nq_ne2 (by assumption) (by assumption)) (by assumption) | exact nq_ga (by assumption)) | exact nq_gn (by first | assumption | decide | omega | exact nq_ne1 (by assumption) (by assumption) | exact nq_ne2 (by assumption) (by assumption)) (by first | assumption | exact nq_gs (by assumption) | exact nq_gn (by first | assumption | decide | omega | exact nq_ne1 (by assumption) (by assumption) | exact nq_ne2 (by assumption) (by assumption)) (by assumption) | exact nq_ga (by assumption))) | exact nq_gn (by first | assumption | decide | omega | exact nq_ne1 (by assumption) (by assumption) | exact nq_ne2 (by assumption) (by assumption)) (by first | assumption | exact nq_ga (by assumption) | exact nq_gs (by first | assumption | exact nq_gs (by assumption) | exact nq_gn (by first | assumption | decide | omega | exact nq_ne1 (by assumption) (by assumption) | exact nq_ne2 (by assumption) (by assumption)) (by assumption) | exact nq_ga (by assumption)) | exact nq_gn (by first | assumption | decide | omega | exact nq_ne1 (by assumption) (by assumption) | exact nq_ne2 (by assumption) (by assumption)) (by first | assumption | exact nq_gs (by assumption) | exact nq_gn (by first | assumption | decide | omega | exact nq_ne1 (by assumption) (by assumption) | exact nq_ne2 (by assumption) (by assumption)) (by assumption) | exact nq_ga (by assumption)))) rfl rfl (kc := 0) (ks := 0) (mc' := 0) (ms' := 0) (As := []) (rest := []) rfl rfl (by decide) (k_Mod_look hp (by omega)) ?_
    refine nq_bipush (v := 99) (pc' := 206) d_Mod_statement_204 rfl (by decide) ?_
    by_cases b2 : L i = 99
    · refine nq_icmp_eq (pc' := 209) (tgt := 211) d_Mod_statement_206 rfl (by decide) (fun _ => yes (by rw [b2]; decide)) (fun h => absurd (by rw [b2]; rfl) h)
    refine nq_icmp_eq (pc' := 209) (tgt := 211) d_Mod_statement_206 rfl (by decide) (fun h => absurd (nI_inj (by have := hl7 i; omega) (by omega) (show nI (L i) = nI 99 from h)) b2) (fun _ => ?_)
    rw [if_neg (fun h => by
      have : ∀ c ∈ tx 13, c = 98 ∨ c = 99 := by decide
      have := this _ h
      omega)]
    refine nq_iconst (v := 0) (pc' := 210) d_Mod_statement_209 rfl (by decide) ?_
    refine nq_iret d_Mod_statement_210 rfl rfl ⟨F1, v1, ar1, K1, rfl, hp.1, s5⟩
  refine nq_icmp_ne (pc' := 191) (tgt := 257) d_Mod_statement_188 rfl (by decide) (fun _ => ?_) (fun h => absurd h (kk 85 (by decide) k85))
  by_cases k68 : k = 68
  · have hv : sp_vals L k (sp_cols k) i = .inr ([], 0, i) := by
      unfold sp_vals
      rw [if_neg k73, if_pos k68]
    rw [hv]
    exact go257 (by omega) _ _ (go329 (by omega) _ _ (ms_tail (by omega) hc hk128 k73 hi (by simp) S ⟨h3, fun k c hk => by simp at hk⟩ h0 h1 h2 h8 h9 h10 F1 K1))
  by_cases k6 : k = 65 ∨ k = 66
  · have hv : sp_vals L k (sp_cols k) i = (if L i ∈ tx 15 then (match sp_list L (sp_cols k) 1 [] (i + 1) with
        | .inl p => .inl p
        | .inr (vs, j) => .inr (vs, L i, j)) else .inl i) := by
      unfold sp_vals
      rw [if_neg k73, if_neg k68, if_neg k85, if_pos k6]
      try rfl
    rw [hv]
    have at269 : nq_J G (d + 1) 0 0 m_Mod_statement 269 [some (.ref 270), some (.int (nI 1600)), some (.int (nI k)), some (.int tw)] [] σ1 (mst_Q σ v ar L N (match (if L i ∈ tx 15 then (match sp_list L (sp_cols k) 1 [] (i + 1) with
        | .inl p => .inl p
        | .inr (vs, j) => .inr (vs, L i, j)) else .inl i : Nat ⊕ (List (List nq_In) × Nat × Nat)) with
      | .inl p => .inl p
      | .inr (vs, fn, j) => match sp_cond L k (sp_cols k) j with
        | .inl p => .inl p
        | .inr (cs, j2) => match sp_ord L k (sp_cols k) j2 with
          | .inl p => .inl p
          | .inr (od, j3) => .inr ((k, t, u, vs, fn, cs, od), j3))) := by
      refine nq_aload_n (pc' := 270) d_Mod_statement_269 rfl rfl rfl ?_
      refine nq_getf (pc' := 273) d_Mod_statement_270 rfl fl_Mod_13 (by first | assumption | exact nq_ga (by assumption) | exact nq_gs (by first | assumption | exact nq_ga (by assumption) | exact nq_gs (by first | assumption | exact nq_gs (by assumption) | exact nq_gn (by first | assumption | decide | omega | exact nq_ne1 (by assumption) (by assumption) | exact nq_ne2 (by assumption) (by assumption)) (by assumption) | exact nq_ga (by assumption)) | exact nq_gn (by first | assumption | decide | omega | exact nq_ne1 (by assumption) (by assumption) | exact nq_ne2 (by assumption) (by assumption)) (by first | assumption | exact nq_gs (by assumption) | exact nq_gn (by first | assumption | decide | omega | exact nq_ne1 (by assumption) (by assumption) | exact nq_ne2 (by assumption) (by assumption)) (by assumption) | exact nq_ga (by assumption))) | exact nq_gn (by first | assumption | decide | omega | exact nq_ne1 (by assumption) (by assumption) | exact nq_ne2 (by assumption) (by assumption)) (by first | assumption | exact nq_ga (by assumption) | exact nq_gs (by first | assumption | exact nq_gs (by assumption) | exact nq_gn (by first | assumption | decide | omega | exact nq_ne1 (by assumption) (by assumption) | exact nq_ne2 (by assumption) (by assumption)) (by assumption) | exact nq_ga (by assumption)) | exact nq_gn (by first | assumption | decide | omega | exact nq_ne1 (by assumption) (by assumption) | exact nq_ne2 (by assumption) (by assumption)) (by first | assumption | exact nq_gs (by assumption) | exact nq_gn (by first | assumption | decide | omega | exact nq_ne1 (by assumption) (by assumption) | exact nq_ne2 (by assumption) (by assumption)) (by assumption) | exact nq_ga (by assumption)))) rfl ?_
      refine nq_iload_n (pc' := 274) d_Mod_statement_273 rfl rfl rfl ?_
      refine nq_bipush (v := 9) (pc' := 276) d_Mod_statement_274 rfl (by decide) ?_
      refine nq_iadd (pc' := 277) d_Mod_statement_276 rfl ?_
      refine nq_aload_n (pc' := 278) d_Mod_statement_277 rfl rfl rfl ?_
      refine nq_callVR (pc' := 281) d_Mod_statement_278 rfl cl_Mod_84 rfl (by first | assumption | exact nq_ga (by assumption) | exact nq_gs (by first | assumption | exact nq_ga (by assumption) | exact nq_gs (by first | assumption | exact nq_gs (by assumption) | exact nq_gn (by first | assumption | decide | omega | exact nq_ne1 (by assumption) (by assumption) | exact nq_ne2 (by assumption) (by assumption)) (by assumption) | exact nq_ga (by assumption)) | exact nq_gn (by first | assumption | decide | omega | exact nq_ne1 (by assumption) (by assumption) | exact nq_ne2 (by assumption) (by assumption)) (by first | assumption | exact nq_gs (by assumption) | exact nq_gn (by first | assumption | decide | omega | exact nq_ne1 (by assumption) (by assumption) | exact nq_ne2 (by assumption) (by assumption)) (by assumption) | exact nq_ga (by assumption))) | exact nq_gn (by first | assumption | decide | omega | exact nq_ne1 (by assumption) (by assumption) | exact nq_ne2 (by assumption) (by assumption)) (by first | assumption | exact nq_ga (by assumption) | exact nq_gs (by first | assumption | exact nq_gs (by assumption) | exact nq_gn (by first | assumption | decide | omega | exact nq_ne1 (by assumption) (by assumption) | exact nq_ne2 (by assumption) (by assumption)) (by assumption) | exact nq_ga (by assumption)) | exact nq_gn (by first | assumption | decide | omega | exact nq_ne1 (by assumption) (by assumption) | exact nq_ne2 (by assumption) (by assumption)) (by first | assumption | exact nq_gs (by assumption) | exact nq_gn (by first | assumption | decide | omega | exact nq_ne1 (by assumption) (by assumption) | exact nq_ne2 (by assumption) (by assumption)) (by assumption) | exact nq_ga (by assumption)))) rfl rfl (kc := 0) (ks := 0) (mc' := 0) (ms' := 0) (As := []) (rest := [.int (nI 1600 + 9), .ref 272]) rfl rfl (Nat.le_of_ble_eq_true rfl) (k_Mod_look hp (by omega)) ?_
      refine nq_iast (pc' := 282) d_Mod_statement_281 rfl (by first | assumption | exact nq_ga (by assumption) | exact nq_gs (by first | assumption | exact nq_ga (by assumption) | exact nq_gs (by first | assumption | exact nq_gs (by assumption) | exact nq_gn (by first | assumption | decide | omega | exact nq_ne1 (by assumption) (by assumption) | exact nq_ne2 (by assumption) (by assumption)) (by assumption) | exact nq_ga (by assumption)) | exact nq_gn (by first | assumption | decide | omega | exact nq_ne1 (by assumption) (by assumption) | exact nq_ne2 (by assumption) (by assumption)) (by first | assumption | exact nq_gs (by assumption) | exact nq_gn (by first | assumption | decide | omega | exact nq_ne1 (by assumption) (by assumption) | exact nq_ne2 (by assumption) (by assumption)) (by assumption) | exact nq_ga (by assumption))) | exact nq_gn (by first | assumption | decide | omega | exact nq_ne1 (by assumption) (by assumption) | exact nq_ne2 (by assumption) (by assumption)) (by first | assumption | exact nq_ga (by assumption) | exact nq_gs (by first | assumption | exact nq_gs (by assumption) | exact nq_gn (by first | assumption | decide | omega | exact nq_ne1 (by assumption) (by assumption) | exact nq_ne2 (by assumption) (by assumption)) (by assumption) | exact nq_ga (by assumption)) | exact nq_gn (by first | assumption | decide | omega | exact nq_ne1 (by assumption) (by assumption) | exact nq_ne2 (by assumption) (by assumption)) (by first | assumption | exact nq_gs (by assumption) | exact nq_gn (by first | assumption | decide | omega | exact nq_ne1 (by assumption) (by assumption) | exact nq_ne2 (by assumption) (by assumption)) (by assumption) | exact nq_ga (by assumption)))) rfl (j := 1609) (by decide) (by decide) (by decide) ?_
      have S2 := S.hd (f := upd (ar1 1) 1609 (nI (L i))) (fun j hj => upd_ne (by omega))
      refine nq_gen (P := fun w => nq_J _ _ _ _ _ _ _ _ w _) (fun σ2 hσ2 => ?_)
      rw [← hσ2] at S2
      have F2 : mo_fr σ σ2 := F1.tr (by rw [hσ2]; exact mo_fr.st (by decide))
      have K2 : mo_kh v ar v1 (ua ar1 1 (upd (ar1 1) 1609 (nI (L i)))) := K1.tr (mo_kh.c (fun j hj => upd_ne (by omega)))
      have H2 : ∀ x, x < 70 → x ≠ 9 → mo_hd (ua ar1 1 (upd (ar1 1) 1609 (nI (L i)))) x = mo_hd ar1 x := fun x hx hn => by
        unfold mo_hd
        rw [ua_at, upd_ne (by omega)]
      have H9 : mo_hd (ua ar1 1 (upd (ar1 1) 1609 (nI (L i)))) 9 = nI (L i) := by
        unfold mo_hd
        rw [ua_at, upd_at]
      obtain ⟨⟨ops2, hp2⟩, m1, m2, m3⟩ := id S2
      have w2 := hp2.1.1
      have at318 : L i ∈ tx 15 → nq_J G (d + 1) 0 0 m_Mod_statement 318 [some (.ref 270), some (.int (nI 1600)), some (.int (nI k)), some (.int tw)] [] (σ2.set 270 (mo_F (upd v1 2 (nI (i + 1))))) (mst_Q σ v ar L N (match (if L i ∈ tx 15 then (match sp_list L (sp_cols k) 1 [] (i + 1) with
          | .inl p => .inl p
          | .inr (vs, j) => .inr (vs, L i, j)) else .inl i : Nat ⊕ (List (List nq_In) × Nat × Nat)) with
        | .inl p => .inl p
        | .inr (vs, fn, j) => match sp_cond L k (sp_cols k) j with
          | .inl p => .inl p
          | .inr (cs, j2) => match sp_ord L k (sp_cols k) j2 with
            | .inl p => .inl p
            | .inr (od, j3) => .inr ((k, t, u, vs, fn, cs, od), j3))) := by
        intro hm
        rw [if_pos hm]
        have hi' := hLt i (tx_n0 hm)
        have S3 := S2.pos (i' := i + 1) (by omega) (by omega)
        have F3 : mo_fr σ (σ2.set 270 (mo_F (upd v1 2 (nI (i + 1))))) := F2.tr (mo_fr.st (by decide))
        have K3 := K2.tr (mo_kh.u (k := 2) (x := nI (i + 1)) (by decide))
        generalize σ2.set 270 (mo_F (upd v1 2 (nI (i + 1)))) = σ3 at S3 F3 ⊢
        have w3 := S3.1.w.1.1
        refine nq_aload_n (pc' := 319) d_Mod_statement_318 rfl rfl rfl ?_
        refine nq_iload_n (pc' := 320) d_Mod_statement_319 rfl rfl rfl ?_
        refine nq_iconst (v := 1) (pc' := 321) d_Mod_statement_320 rfl (by decide) ?_
        refine nq_callV (pc' := 324) d_Mod_statement_321 rfl cl_Mod_134 rfl (by first | assumption | exact nq_ga (by assumption) | exact nq_gs (by first | assumption | exact nq_ga (by assumption) | exact nq_gs (by first | assumption | exact nq_gs (by assumption) | exact nq_gn (by first | assumption | decide | omega | exact nq_ne1 (by assumption) (by assumption) | exact nq_ne2 (by assumption) (by assumption)) (by assumption) | exact nq_ga (by assumption)) | exact nq_gn (by first | assumption | decide | omega | exact nq_ne1 (by assumption) (by assumption) | exact nq_ne2 (by assumption) (by assumption)) (by first | assumption | exact nq_gs (by assumption) | exact nq_gn (by first | assumption | decide | omega | exact nq_ne1 (by assumption) (by assumption) | exact nq_ne2 (by assumption) (by assumption)) (by assumption) | exact nq_ga (by assumption))) | exact nq_gn (by first | assumption | decide | omega | exact nq_ne1 (by assumption) (by assumption) | exact nq_ne2 (by assumption) (by assumption)) (by first | assumption | exact nq_ga (by assumption) | exact nq_gs (by first | assumption | exact nq_gs (by assumption) | exact nq_gn (by first | assumption | decide | omega | exact nq_ne1 (by assumption) (by assumption) | exact nq_ne2 (by assumption) (by assumption)) (by assumption) | exact nq_ga (by assumption)) | exact nq_gn (by first | assumption | decide | omega | exact nq_ne1 (by assumption) (by assumption) | exact nq_ne2 (by assumption) (by assumption)) (by first | assumption | exact nq_gs (by assumption) | exact nq_gn (by first | assumption | decide | omega | exact nq_ne1 (by assumption) (by assumption) | exact nq_ne2 (by assumption) (by assumption)) (by assumption) | exact nq_ga (by assumption)))) rfl rfl (kc := 0) (ks := 0) (mc' := 0) (ms' := 0) (As := [.int (nI 1600), .int (nI 1)]) (rest := []) rfl rfl (by decide) (k_Mod_list (.inl rfl) S3 ((H2 3 (by decide) (by decide)).trans h3) hc (by omega)) (fun E σ4 hq => ?_) (fun z σ4 hq => ?_)
        · obtain ⟨_, _, _, _, _, hq⟩ := hq
          cases hx : sp_list L (sp_cols k) 1 [] (i + 1) with
          | inl p => rw [hx] at hq; cases hq.1
          | inr w => rw [hx] at hq; cases hq.1
        rcases lst 1 0 (L i) (i + 1) σ3 _ _ (.inl rfl) (by omega) S3 H2 H9 F3 K3 z σ4 hq with ⟨p, hx, rfl, F4, v4, ar4, K4, hf⟩ | ⟨vs, j3, hx, rfl, hJ⟩
        · rw [hx]
          refine nq_if_ne (pc' := 327) (tgt := 329) d_Mod_statement_324 rfl (by decide) (fun h => absurd rfl h) (fun _ => ?_)
          refine nq_iconst (v := 0) (pc' := 328) d_Mod_statement_327 rfl (by decide) ?_
          refine nq_iret d_Mod_statement_328 rfl rfl ⟨F4, v4, ar4, K4, rfl, hf⟩
        · rw [hx]
          refine nq_if_ne (pc' := 327) (tgt := 329) d_Mod_statement_324 rfl (by decide) (fun _ => ?_) (fun h => absurd h (by decide))
          exact go329 (by omega) _ _ hJ
      refine nq_aload_n (pc' := 283) d_Mod_statement_282 rfl rfl rfl ?_
      refine nq_bipush (v := 43) (pc' := 285) d_Mod_statement_283 rfl (by decide) ?_
      refine nq_callVR (pc' := 288) d_Mod_statement_285 rfl cl_Mod_124 rfl (by first | assumption | exact nq_ga (by assumption) | exact nq_gs (by first | assumption | exact nq_ga (by assumption) | exact nq_gs (by first | assumption | exact nq_gs (by assumption) | exact nq_gn (by first | assumption | decide | omega | exact nq_ne1 (by assumption) (by assumption) | exact nq_ne2 (by assumption) (by assumption)) (by assumption) | exact nq_ga (by assumption)) | exact nq_gn (by first | assumption | decide | omega | exact nq_ne1 (by assumption) (by assumption) | exact nq_ne2 (by assumption) (by assumption)) (by first | assumption | exact nq_gs (by assumption) | exact nq_gn (by first | assumption | decide | omega | exact nq_ne1 (by assumption) (by assumption) | exact nq_ne2 (by assumption) (by assumption)) (by assumption) | exact nq_ga (by assumption))) | exact nq_gn (by first | assumption | decide | omega | exact nq_ne1 (by assumption) (by assumption) | exact nq_ne2 (by assumption) (by assumption)) (by first | assumption | exact nq_ga (by assumption) | exact nq_gs (by first | assumption | exact nq_gs (by assumption) | exact nq_gn (by first | assumption | decide | omega | exact nq_ne1 (by assumption) (by assumption) | exact nq_ne2 (by assumption) (by assumption)) (by assumption) | exact nq_ga (by assumption)) | exact nq_gn (by first | assumption | decide | omega | exact nq_ne1 (by assumption) (by assumption) | exact nq_ne2 (by assumption) (by assumption)) (by first | assumption | exact nq_gs (by assumption) | exact nq_gn (by first | assumption | decide | omega | exact nq_ne1 (by assumption) (by assumption) | exact nq_ne2 (by assumption) (by assumption)) (by assumption) | exact nq_ga (by assumption)))) rfl rfl (kc := 0) (ks := 0) (mc' := 0) (ms' := 0) (As := [.int (nI 43)]) (rest := []) rfl rfl (by decide) (k_Mod_passes (c := 43) hp2 (by omega) (by decide) (by omega)) ?_
      by_cases c1 : L i = 43
      · rw [if_pos c1, if_pos c1]
        refine nq_if_ne (pc' := 291) (tgt := 318) d_Mod_statement_288 rfl (by decide) (fun _ => at318 (by rw [c1]; decide)) (fun h => absurd h (by decide))
      rw [if_neg c1, if_neg c1]
      refine nq_if_ne (pc' := 291) (tgt := 318) d_Mod_statement_288 rfl (by decide) (fun h => absurd rfl h) (fun _ => ?_)
      refine nq_aload_n (pc' := 292) d_Mod_statement_291 rfl rfl rfl ?_
      refine nq_bipush (v := 35) (pc' := 294) d_Mod_statement_292 rfl (by decide) ?_
      refine nq_callVR (pc' := 297) d_Mod_statement_294 rfl cl_Mod_124 rfl (by first | assumption | exact nq_ga (by assumption) | exact nq_gs (by first | assumption | exact nq_ga (by assumption) | exact nq_gs (by first | assumption | exact nq_gs (by assumption) | exact nq_gn (by first | assumption | decide | omega | exact nq_ne1 (by assumption) (by assumption) | exact nq_ne2 (by assumption) (by assumption)) (by assumption) | exact nq_ga (by assumption)) | exact nq_gn (by first | assumption | decide | omega | exact nq_ne1 (by assumption) (by assumption) | exact nq_ne2 (by assumption) (by assumption)) (by first | assumption | exact nq_gs (by assumption) | exact nq_gn (by first | assumption | decide | omega | exact nq_ne1 (by assumption) (by assumption) | exact nq_ne2 (by assumption) (by assumption)) (by assumption) | exact nq_ga (by assumption))) | exact nq_gn (by first | assumption | decide | omega | exact nq_ne1 (by assumption) (by assumption) | exact nq_ne2 (by assumption) (by assumption)) (by first | assumption | exact nq_ga (by assumption) | exact nq_gs (by first | assumption | exact nq_gs (by assumption) | exact nq_gn (by first | assumption | decide | omega | exact nq_ne1 (by assumption) (by assumption) | exact nq_ne2 (by assumption) (by assumption)) (by assumption) | exact nq_ga (by assumption)) | exact nq_gn (by first | assumption | decide | omega | exact nq_ne1 (by assumption) (by assumption) | exact nq_ne2 (by assumption) (by assumption)) (by first | assumption | exact nq_gs (by assumption) | exact nq_gn (by first | assumption | decide | omega | exact nq_ne1 (by assumption) (by assumption) | exact nq_ne2 (by assumption) (by assumption)) (by assumption) | exact nq_ga (by assumption)))) rfl rfl (kc := 0) (ks := 0) (mc' := 0) (ms' := 0) (As := [.int (nI 35)]) (rest := []) rfl rfl (by decide) (k_Mod_passes (c := 35) hp2 (by omega) (by decide) (by omega)) ?_
      by_cases c2 : L i = 35
      · rw [if_pos c2, if_pos c2]
        refine nq_if_ne (pc' := 300) (tgt := 318) d_Mod_statement_297 rfl (by decide) (fun _ => at318 (by rw [c2]; decide)) (fun h => absurd h (by decide))
      rw [if_neg c2, if_neg c2]
      refine nq_if_ne (pc' := 300) (tgt := 318) d_Mod_statement_297 rfl (by decide) (fun h => absurd rfl h) (fun _ => ?_)
      refine nq_aload_n (pc' := 301) d_Mod_statement_300 rfl rfl rfl ?_
      refine nq_bipush (v := 62) (pc' := 303) d_Mod_statement_301 rfl (by decide) ?_
      refine nq_callVR (pc' := 306) d_Mod_statement_303 rfl cl_Mod_124 rfl (by first | assumption | exact nq_ga (by assumption) | exact nq_gs (by first | assumption | exact nq_ga (by assumption) | exact nq_gs (by first | assumption | exact nq_gs (by assumption) | exact nq_gn (by first | assumption | decide | omega | exact nq_ne1 (by assumption) (by assumption) | exact nq_ne2 (by assumption) (by assumption)) (by assumption) | exact nq_ga (by assumption)) | exact nq_gn (by first | assumption | decide | omega | exact nq_ne1 (by assumption) (by assumption) | exact nq_ne2 (by assumption) (by assumption)) (by first | assumption | exact nq_gs (by assumption) | exact nq_gn (by first | assumption | decide | omega | exact nq_ne1 (by assumption) (by assumption) | exact nq_ne2 (by assumption) (by assumption)) (by assumption) | exact nq_ga (by assumption))) | exact nq_gn (by first | assumption | decide | omega | exact nq_ne1 (by assumption) (by assumption) | exact nq_ne2 (by assumption) (by assumption)) (by first | assumption | exact nq_ga (by assumption) | exact nq_gs (by first | assumption | exact nq_gs (by assumption) | exact nq_gn (by first | assumption | decide | omega | exact nq_ne1 (by assumption) (by assumption) | exact nq_ne2 (by assumption) (by assumption)) (by assumption) | exact nq_ga (by assumption)) | exact nq_gn (by first | assumption | decide | omega | exact nq_ne1 (by assumption) (by assumption) | exact nq_ne2 (by assumption) (by assumption)) (by first | assumption | exact nq_gs (by assumption) | exact nq_gn (by first | assumption | decide | omega | exact nq_ne1 (by assumption) (by assumption) | exact nq_ne2 (by assumption) (by assumption)) (by assumption) | exact nq_ga (by assumption)))) rfl rfl (kc := 0) (ks := 0) (mc' := 0) (ms' := 0) (As := [.int (nI 62)]) (rest := []) rfl rfl (by decide) (k_Mod_passes (c := 62) hp2 (by omega) (by decide) (by omega)) ?_
      by_cases c3 : L i = 62
      · rw [if_pos c3, if_pos c3]
        refine nq_if_ne (pc' := 309) (tgt := 318) d_Mod_statement_306 rfl (by decide) (fun _ => at318 (by rw [c3]; decide)) (fun h => absurd h (by decide))
      rw [if_neg c3, if_neg c3]
      refine nq_if_ne (pc' := 309) (tgt := 318) d_Mod_statement_306 rfl (by decide) (fun h => absurd rfl h) (fun _ => ?_)
      refine nq_aload_n (pc' := 310) d_Mod_statement_309 rfl rfl rfl ?_
      refine nq_bipush (v := 60) (pc' := 312) d_Mod_statement_310 rfl (by decide) ?_
      refine nq_callVR (pc' := 315) d_Mod_statement_312 rfl cl_Mod_124 rfl (by first | assumption | exact nq_ga (by assumption) | exact nq_gs (by first | assumption | exact nq_ga (by assumption) | exact nq_gs (by first | assumption | exact nq_gs (by assumption) | exact nq_gn (by first | assumption | decide | omega | exact nq_ne1 (by assumption) (by assumption) | exact nq_ne2 (by assumption) (by assumption)) (by assumption) | exact nq_ga (by assumption)) | exact nq_gn (by first | assumption | decide | omega | exact nq_ne1 (by assumption) (by assumption) | exact nq_ne2 (by assumption) (by assumption)) (by first | assumption | exact nq_gs (by assumption) | exact nq_gn (by first | assumption | decide | omega | exact nq_ne1 (by assumption) (by assumption) | exact nq_ne2 (by assumption) (by assumption)) (by assumption) | exact nq_ga (by assumption))) | exact nq_gn (by first | assumption | decide | omega | exact nq_ne1 (by assumption) (by assumption) | exact nq_ne2 (by assumption) (by assumption)) (by first | assumption | exact nq_ga (by assumption) | exact nq_gs (by first | assumption | exact nq_gs (by assumption) | exact nq_gn (by first | assumption | decide | omega | exact nq_ne1 (by assumption) (by assumption) | exact nq_ne2 (by assumption) (by assumption)) (by assumption) | exact nq_ga (by assumption)) | exact nq_gn (by first | assumption | decide | omega | exact nq_ne1 (by assumption) (by assumption) | exact nq_ne2 (by assumption) (by assumption)) (by first | assumption | exact nq_gs (by assumption) | exact nq_gn (by first | assumption | decide | omega | exact nq_ne1 (by assumption) (by assumption) | exact nq_ne2 (by assumption) (by assumption)) (by assumption) | exact nq_ga (by assumption)))) rfl rfl (kc := 0) (ks := 0) (mc' := 0) (ms' := 0) (As := [.int (nI 60)]) (rest := []) rfl rfl (by decide) (k_Mod_passes (c := 60) hp2 (by omega) (by decide) (by omega)) ?_
      by_cases c4 : L i = 60
      · rw [if_pos c4, if_pos c4]
        refine nq_if_eq (pc' := 318) (tgt := 327) d_Mod_statement_315 rfl (by decide) (fun h => absurd h (by decide)) (fun _ => at318 (by rw [c4]; decide))
      rw [if_neg c4, if_neg c4]
      refine nq_if_eq (pc' := 318) (tgt := 327) d_Mod_statement_315 rfl (by decide) (fun _ => ?_) (fun h => absurd rfl h)
      rw [if_neg (fun h => by
        have : ∀ c ∈ tx 15, c = 43 ∨ c = 35 ∨ c = 62 ∨ c = 60 := by decide
        have := this _ h
        omega)]
      refine nq_iconst (v := 0) (pc' := 328) d_Mod_statement_327 rfl (by decide) ?_
      refine nq_iret d_Mod_statement_328 rfl rfl ⟨F2, v1, _, K2, rfl, hp2.1, s5⟩
    refine nq_iload_n (pc' := 258) d_Mod_statement_257 rfl rfl rfl ?_
    refine nq_bipush (v := 65) (pc' := 260) d_Mod_statement_258 rfl (by decide) ?_
    by_cases k65 : k = 65
    · refine nq_icmp_eq (pc' := 263) (tgt := 269) d_Mod_statement_260 rfl (by decide) (fun _ => at269) (fun h => absurd (by rw [k65]; rfl) h)
    refine nq_icmp_eq (pc' := 263) (tgt := 269) d_Mod_statement_260 rfl (by decide) (fun h => absurd h (kk 65 (by decide) k65)) (fun _ => ?_)
    refine nq_iload_n (pc' := 264) d_Mod_statement_263 rfl rfl rfl ?_
    refine nq_bipush (v := 66) (pc' := 266) d_Mod_statement_264 rfl (by decide) ?_
    have k66 : k = 66 := by omega
    refine nq_icmp_ne (pc' := 269) (tgt := 329) d_Mod_statement_266 rfl (by decide) (fun h => absurd (by rw [k66]; rfl) h) (fun _ => at269)
  have hv : sp_vals L k (sp_cols k) i = (match sp_list L (sp_cols k) 3 [] i with
      | .inl p => .inl p
      | .inr (vs, j) => .inr (vs, 0, j)) := by
    unfold sp_vals
    rw [if_neg k73, if_neg k68, if_neg k85, if_neg k6]
    try rfl
  rw [hv]
  refine go257 k6 _ _ ?_
  have at341 : nq_J G (d + 1) 0 0 m_Mod_statement 341 [some (.ref 270), some (.int (nI 1600)), some (.int (nI k)), some (.int tw)] [] σ1 (mst_Q σ v ar L N (match (match sp_list L (sp_cols k) 3 [] i with
        | .inl p => .inl p
        | .inr (vs, j) => .inr (vs, 0, j) : Nat ⊕ (List (List nq_In) × Nat × Nat)) with
      | .inl p => .inl p
      | .inr (vs, fn, j) => match sp_cond L k (sp_cols k) j with
        | .inl p => .inl p
        | .inr (cs, j2) => match sp_ord L k (sp_cols k) j2 with
          | .inl p => .inl p
          | .inr (od, j3) => .inr ((k, t, u, vs, fn, cs, od), j3))) := by
    refine nq_aload_n (pc' := 342) d_Mod_statement_341 rfl rfl rfl ?_
    refine nq_iload_n (pc' := 343) d_Mod_statement_342 rfl rfl rfl ?_
    refine nq_iconst (v := 3) (pc' := 344) d_Mod_statement_343 rfl (by decide) ?_
    refine nq_callV (pc' := 347) d_Mod_statement_344 rfl cl_Mod_134 rfl (by first | assumption | exact nq_ga (by assumption) | exact nq_gs (by first | assumption | exact nq_ga (by assumption) | exact nq_gs (by first | assumption | exact nq_gs (by assumption) | exact nq_gn (by first | assumption | decide | omega | exact nq_ne1 (by assumption) (by assumption) | exact nq_ne2 (by assumption) (by assumption)) (by assumption) | exact nq_ga (by assumption)) | exact nq_gn (by first | assumption | decide | omega | exact nq_ne1 (by assumption) (by assumption) | exact nq_ne2 (by assumption) (by assumption)) (by first | assumption | exact nq_gs (by assumption) | exact nq_gn (by first | assumption | decide | omega | exact nq_ne1 (by assumption) (by assumption) | exact nq_ne2 (by assumption) (by assumption)) (by assumption) | exact nq_ga (by assumption))) | exact nq_gn (by first | assumption | decide | omega | exact nq_ne1 (by assumption) (by assumption) | exact nq_ne2 (by assumption) (by assumption)) (by first | assumption | exact nq_ga (by assumption) | exact nq_gs (by first | assumption | exact nq_gs (by assumption) | exact nq_gn (by first | assumption | decide | omega | exact nq_ne1 (by assumption) (by assumption) | exact nq_ne2 (by assumption) (by assumption)) (by assumption) | exact nq_ga (by assumption)) | exact nq_gn (by first | assumption | decide | omega | exact nq_ne1 (by assumption) (by assumption) | exact nq_ne2 (by assumption) (by assumption)) (by first | assumption | exact nq_gs (by assumption) | exact nq_gn (by first | assumption | decide | omega | exact nq_ne1 (by assumption) (by assumption) | exact nq_ne2 (by assumption) (by assumption)) (by assumption) | exact nq_ga (by assumption)))) rfl rfl (kc := 0) (ks := 0) (mc' := 0) (ms' := 0) (As := [.int (nI 1600), .int (nI 3)]) (rest := []) rfl rfl (by decide) (k_Mod_list (.inr rfl) S h3 hc (by omega)) (fun E σ4 hq => ?_) (fun z σ4 hq => ?_)
    · obtain ⟨_, _, _, _, _, hq⟩ := hq
      cases hx : sp_list L (sp_cols k) 3 [] i with
      | inl p => rw [hx] at hq; cases hq.1
      | inr w => rw [hx] at hq; cases hq.1
    rcases lst 3 0 0 i σ1 v1 ar1 (.inr rfl) hi S (fun _ _ _ => rfl) h9 F1 K1 z σ4 hq with ⟨p, hx, rfl, F4, v4, ar4, K4, hf⟩ | ⟨vs, j3, hx, rfl, hJ⟩
    · rw [hx]
      refine nq_if_ne (pc' := 350) (tgt := 352) d_Mod_statement_347 rfl (by decide) (fun h => absurd rfl h) (fun _ => ?_)
      refine nq_iconst (v := 0) (pc' := 351) d_Mod_statement_350 rfl (by decide) ?_
      refine nq_iret d_Mod_statement_351 rfl rfl ⟨F4, v4, ar4, K4, rfl, hf⟩
    · rw [hx]
      refine nq_if_ne (pc' := 350) (tgt := 352) d_Mod_statement_347 rfl (by decide) (fun _ => ?_) (fun h => absurd h (by decide))
      exact hJ
  refine nq_iload_n (pc' := 330) d_Mod_statement_329 rfl rfl rfl ?_
  refine nq_bipush (v := 83) (pc' := 332) d_Mod_statement_330 rfl (by decide) ?_
  by_cases k83 : k = 83
  · refine nq_icmp_eq (pc' := 335) (tgt := 341) d_Mod_statement_332 rfl (by decide) (fun _ => at341) (fun h => absurd (by rw [k83]; rfl) h)
  refine nq_icmp_eq (pc' := 335) (tgt := 341) d_Mod_statement_332 rfl (by decide) (fun h => absurd h (kk 83 (by decide) k83)) (fun _ => ?_)
  refine nq_iload_n (pc' := 336) d_Mod_statement_335 rfl rfl rfl ?_
  refine nq_bipush (v := 80) (pc' := 338) d_Mod_statement_336 rfl (by decide) ?_
  have k80 : k = 80 := by omega
  refine nq_icmp_ne (pc' := 341) (tgt := 352) d_Mod_statement_338 rfl (by decide) (fun h => absurd (by rw [k80]; rfl) h) (fun _ => at341)
end MB
