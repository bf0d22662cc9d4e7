/-! THE OTHER STORE: statement -/
def sp_bo (L : Nat → Nat) (k t u cols i : Nat) : Nat ⊕ (sp_St × Nat) := match sp_vals L k cols i with
  | .inl p => .inl p
  | .inr (vs, fn, j) => match sp_cond L k cols j with
    | .inl p => .inl p
    | .inr (cs, j2) => match sp_ord L k cols j2 with
      | .inl p => .inl p
      | .inr (od, j3) => .inr ((k, t, u, vs, fn, cs, od), j3)
theorem sp_body_bo (L : Nat → Nat) (N k t u cols i : Nat) : sp_body L N k t u cols i = match sp_bo L k t u cols i with
    | .inl p => .inl p
    | .inr (s, j3) => if j3 < N then .inl j3 else .inr s := by
  unfold sp_body sp_bo
  cases sp_vals L k cols i with
  | inl p => rfl
  | inr w =>
    obtain ⟨vs, fn, j⟩ := w
    simp only
    cases sp_cond L k cols j with
    | inl p => rfl
    | inr w =>
      obtain ⟨cs, j2⟩ := w
      simp only
      cases sp_ord L k cols j2 with
      | inl p => rfl
      | inr w => rfl
def sp_sto (L : Nat → Nat) : Nat ⊕ (sp_St × Nat) := match sp_head L with
  | .inl p => .inl p
  | .inr (k, t, u, i) => sp_bo L k t u (sp_cols k) i
theorem sp_stmt_sto (L : Nat → Nat) (N : Nat) : sp_stmt L N = match sp_sto L with
    | .inl p => .inl p
    | .inr (s, j3) => if j3 < N then .inl j3 else .inr s := by
  rw [sp_stmt_head]
  unfold sp_sto
  cases sp_head L with
  | inl p => rfl
  | inr w =>
    obtain ⟨k, t, u, i⟩ := w
    exact sp_body_bo ..
theorem mv_vs.of {hd hd' : Nat → Int32} {out t : List Int32} {vs : List (List nq_In)} (h : mv_vs hd out vs) (hl : vs.length ≤ 3) (e : ∀ j, 3 ≤ j → j ≤ 6 → hd' j = hd j) : mv_vs hd' (out ++ t) vs := by
  refine ⟨(e 3 (by omega) (by omega)).trans h.1, fun k c hk => ?_⟩
  have := (List.getElem?_eq_some_iff.mp hk).1
  obtain ⟨off, o1, o2⟩ := h.2 k c hk
  exact ⟨off, (e _ (by omega) (by omega)).trans o1, o2.app⟩
def ms_S (ar : mo_Ar) (out : List Int32) (s : sp_St) : Prop := mo_hd ar 0 = nI s.1 ∧ mo_hd ar 1 = nI s.2.1 ∧ (s.2.2.1 < 3 → mo_hd ar 2 = nI s.2.2.1) ∧ mv_vs (mo_hd ar) out s.2.2.2.1 ∧ mo_hd ar 9 = nI s.2.2.2.2.1 ∧ mv_cs (mo_hd ar) out s.2.2.2.2.2.1 ∧ mo_hd ar 10 = rd_od s.2.2.2.2.2.2
def mst_Q (σ : nq_S) (v : Nat → Int32) (ar : mo_Ar) (L : Nat → Nat) (N : Nat) (res : Nat ⊕ (sp_St × Nat)) : nq_Q := fun o σ' => mo_fr σ σ' ∧ ∃ v' ar', mo_kh v ar v' ar' ∧ match res with
  | .inl p => o = .inl (some (.int 0)) ∧ mf_S σ' v' ar' p
  | .inr (s, j) => o = .inl (some (.int 1)) ∧ ∃ nc out, mt_S σ' v' ar' L N nc j out (cl_q s) ∧ ms_S ar' out s
section MT
variable {G : nq_G} {d : Nat} {σ : nq_S} {v : Nat → Int32} {ar : mo_Ar} {L : Nat → Nat} {N cols : Nat}
theorem ms_tail {k t u fn j : Nat} {vs : List (List nq_In)} {out : List Int32} {σ1 : nq_S} {v1 : Nat → Int32} {ar1 : mo_Ar} {tw : Int32} (hD : 7 ≤ d) (hc : cols = 0 ∨ cols = 3 ∨ cols = 4) (hk7 : k < 128) (hk : k ≠ 73) (hj : 1 ≤ j) (hvl : vs.length ≤ 3) (S : mt_S σ1 v1 ar1 L N (sp_nc cols) j out (sp_q vs.flatten)) (V : mv_vs (mo_hd ar1) out vs) (h0 : mo_hd ar1 0 = nI k) (h1 : mo_hd ar1 1 = nI t) (h2 : u < 3 → mo_hd ar1 2 = nI u) (h8 : mo_hd ar1 8 = nI 0) (h9 : mo_hd ar1 9 = nI fn) (h10 : mo_hd ar1 10 = -1) (F1 : mo_fr σ σ1) (K1 : mo_kh v ar v1 ar1) : nq_J G (d + 1) 0 0 m_Mod_statement 352 [some (.ref 270), some (.int (nI 1600)), some (.int (nI k)), some (.int tw)] [] σ1 (mst_Q σ v ar L N (match sp_cond L k cols j with
    | .inl p => .inl p
    | .inr (cs, j2) => match sp_ord L k cols j2 with
      | .inl p => .inl p
      | .inr (od, j3) => .inr ((k, t, u, vs, fn, cs, od), j3))) := by
  have w := S.1.w.1.1
  have hN := S.1.w.2.1.1
  have hLt := S.1.w.2.1.lt
  have hl7 := S.1.w.2.1.l7
  have kk : ∀ x, x < 128 → k ≠ x → ¬ nI k = nI x := fun x hx hn h => hn (nI_inj (by omega) (by omega) h)
  refine nq_aload_n (pc' := 353) d_Mod_statement_352 rfl rfl rfl ?_
  refine nq_iload_n (pc' := 354) d_Mod_statement_353 rfl rfl rfl ?_
  refine nq_callV (pc' := 357) d_Mod_statement_354 rfl cl_Mod_138 rfl (by first | assumption | exact nq_ga (by assumption) | exact nq_gs (by first | assumption | exact nq_ga (by assumption) | exact nq_gs (by first | assumption | exact nq_gs (by assumption) | exact nq_gn (by first | assumption | decide | omega | exact nq_ne1 (by assumption) (by assumption) | exact nq_ne2 (by assumption) (by assumption)) (by assumption) | exact nq_ga (by assumption)) | exact nq_gn (by first | assumption | decide | omega | exact nq_ne1 (by assumption) (by assumption) | exact nq_ne2 (by assumption) (by assumption)) (by first | assumption | exact nq_gs (by assumption) | exact nq_gn (by first | assumption | decide | omega | exact nq_ne1 (by assumption) (by assumption) | exact nq_ne2 (by assumption) (by assumption)) (by assumption) | exact nq_ga (by assumption))) | exact nq_gn (by first | assumption | decide | omega | exact nq_ne1 (by assumption) (by assumption) | exact nq_ne2 (by assumption) (by assumption)) (by first | assumption | exact nq_ga (by assumption) | exact nq_gs (by first | assumption | exact nq_gs (by assumption) | exact nq_gn (by first | assumption | decide | omega | exact nq_ne1 (by assumption) (by assumption) | exact nq_ne2 (by assumption) (by assumption)) (by assumption) | exact nq_ga (by assumption)) | exact nq_gn (by first | assumption | decide | omega | exact nq_ne1 (by assumption) (by assumption) | exact nq_ne2 (by assumption) (by assumption)) (by first | assumption | exact nq_gs (by assumption) | exact nq_gn (by first | assumption | decide | omega | exact nq_ne1 (by assumption) (by assumption) | exact nq_ne2 (by assumption) (by assumption)) (by assumption) | exact nq_ga (by assumption)))) rfl rfl (kc := 0) (ks := 0) (mc' := 0) (ms' := 0) (As := [.int (nI 1600)]) (rest := []) rfl rfl (by decide) (k_Mod_condition hk S h8 hj hc (by omega)) (fun E σ2 hq => ?_) (fun z σ2 hq => ?_)
  · obtain ⟨_, _, _, _, _, hq⟩ := hq
    cases hx : sp_cond L k cols j with
    | inl p => rw [hx] at hq; cases hq.1
    | inr w => rw [hx] at hq; cases hq.1
  obtain ⟨f2, v2, ar2, k2, H2, hq⟩ := hq
  cases hx : sp_cond L k cols j with
  | inl p =>
    rw [hx] at hq
    obtain ⟨e1, hf⟩ := hq
    cases e1
    refine nq_if_ne (pc' := 360) (tgt := 362) d_Mod_statement_357 rfl (by decide) (fun h => absurd rfl h) (fun _ => ?_)
    refine nq_iconst (v := 0) (pc' := 361) d_Mod_statement_360 rfl (by decide) ?_
    refine nq_iret d_Mod_statement_361 rfl rfl ⟨F1.tr f2, v2, ar2, K1.tr k2, rfl, hf⟩
  | inr w2 =>
  obtain ⟨cs, j2⟩ := w2
  rw [hx] at hq
  obtain ⟨e1, t2, S2, V2⟩ := hq
  cases e1
  simp only
  have eq : sp_q vs.flatten + sp_cq cs = sp_q (vs.flatten ++ cs.flatMap (fun k => k.1 ++ k.2.2.1)) := by
    rw [sp_q_app]
    rfl
  have base : ∀ (σ3 : nq_S) (v3 : Nat → Int32) (ar3 : mo_Ar) (od j3 : Nat), mt_S σ3 v3 ar3 L N (sp_nc cols) j3 (out ++ t2) (sp_q vs.flatten + sp_cq cs) → (∀ j, j < 70 → j ≠ 10 → mo_hd ar3 j = mo_hd ar2 j) → mo_hd ar3 10 = rd_od od → mo_fr σ σ3 → mo_kh v ar v3 ar3 → nq_J G (d + 1) 0 0 m_Mod_statement 432 [some (.ref 270), some (.int (nI 1600)), some (.int (nI k)), some (.int tw)] [] σ3 (mst_Q σ v ar L N (.inr ((k, t, u, vs, fn, cs, od), j3))) := by
    intro σ3 v3 ar3 od j3 S3 H3 e10 F3 K3
    refine nq_iconst (v := 1) (pc' := 433) d_Mod_statement_432 rfl (by decide) ?_
    refine nq_iret d_Mod_statement_433 rfl rfl ?_
    refine ⟨F3, v3, ar3, K3, rfl, sp_nc cols, out ++ t2, ?_, ?_⟩
    · unfold cl_q
      rw [← eq]
      exact S3
    · refine ⟨?_, ?_, fun hu => ?_, ?_, ?_, ?_, e10⟩
      · rw [H3 0 (by omega) (by omega), H2 0 (by omega) (by omega)]
        exact h0
      · rw [H3 1 (by omega) (by omega), H2 1 (by omega) (by omega)]
        exact h1
      · rw [H3 2 (by omega) (by omega), H2 2 (by omega) (by omega)]
        exact h2 hu
      · exact V.of hvl (fun j a b => by rw [H3 j (by omega) (by omega), H2 j (by omega) (by omega)])
      · rw [H3 9 (by omega) (by omega), H2 9 (by omega) (by omega)]
        exact h9
      · refine ⟨(H3 8 (by omega) (by omega)).trans V2.1, fun k x hk => ?_⟩
        have hl := (List.getElem?_eq_some_iff.mp hk).1
        simp only at hl
        have h4 : 4 * cs.length ≤ 48 := by
          unfold sp_cond at hx
          split at hx
          · rename_i hm
            have l0 := hLt j (by omega)
            obtain ⟨ds, d1, d2, d3, d4, d5, d6, d7⟩ := sp_conds_ok hN hLt hc (by omega) (by omega) hx
            rw [List.nil_append] at d1
            subst d1
            omega
          · cases hx
            simp
        have := (V2.2 k x hk).of (t := []) (hd' := mo_hd ar3) (fun i a b => H3 i (by omega) (by omega))
        rw [List.append_nil] at this
        exact this
  obtain ⟨⟨ops2, hp2⟩, l1, l2, l3⟩ := id S2
  have w2 := hp2.1.1
  have h5 := hp2.2.2.2.1
  have H10 : mo_hd ar2 10 = rd_od 0 := (H2 10 (by omega) (by omega)).trans h10
  have F2 := F1.tr f2
  have K2 := K1.tr k2
  have no : ¬ ((k = 83 ∨ k = 80) ∧ L j2 = 94) → nq_J G (d + 1) 0 0 m_Mod_statement 432 [some (.ref 270), some (.int (nI 1600)), some (.int (nI k)), some (.int tw)] [] σ2 (mst_Q σ v ar L N (match sp_ord L k cols j2 with
      | .inl p => .inl p
      | .inr (od, j3) => .inr ((k, t, u, vs, fn, cs, od), j3))) := by
    intro hn
    unfold sp_ord
    rw [if_neg hn]
    exact base σ2 v2 ar2 0 j2 S2 (fun _ _ _ => rfl) H10 F2 K2
  refine nq_if_ne (pc' := 360) (tgt := 362) d_Mod_statement_357 rfl (by decide) (fun _ => ?_) (fun h => absurd h (by decide))
  have yes : (k = 83 ∨ k = 80) → nq_J G (d + 1) 0 0 m_Mod_statement 374 [some (.ref 270), some (.int (nI 1600)), some (.int (nI k)), some (.int tw)] [] σ2 (mst_Q σ v ar L N (match sp_ord L k cols j2 with
      | .inl p => .inl p
      | .inr (od, j3) => .inr ((k, t, u, vs, fn, cs, od), j3))) := by
    intro hk2
    refine nq_aload_n (pc' := 375) d_Mod_statement_374 rfl rfl rfl ?_
    refine nq_bipush (v := 94) (pc' := 377) d_Mod_statement_375 rfl (by decide) ?_
    refine nq_callVR (pc' := 380) d_Mod_statement_377 rfl cl_Mod_124 rfl (by first | assumption | exact nq_ga (by assumption) | exact nq_gs (by first | assumption | exact nq_ga (by assumption) | exact nq_gs (by first | assumption | exact nq_gs (by assumption) | exact nq_gn (by first | assumption | decide | omega | exact nq_ne1 (by assumption) (by assumption) | exact nq_ne2 (by assumption) (by assumption)) (by assumption) | exact nq_ga (by assumption)) | exact nq_gn (by first | assumption | decide | omega | exact nq_ne1 (by assumption) (by assumption) | exact nq_ne2 (by assumption) (by assumption)) (by first | assumption | exact nq_gs (by assumption) | exact nq_gn (by first | assumption | decide | omega | exact nq_ne1 (by assumption) (by assumption) | exact nq_ne2 (by assumption) (by assumption)) (by assumption) | exact nq_ga (by assumption))) | exact nq_gn (by first | assumption | decide | omega | exact nq_ne1 (by assumption) (by assumption) | exact nq_ne2 (by assumption) (by assumption)) (by first | assumption | exact nq_ga (by assumption) | exact nq_gs (by first | assumption | exact nq_gs (by assumption) | exact nq_gn (by first | assumption | decide | omega | exact nq_ne1 (by assumption) (by assumption) | exact nq_ne2 (by assumption) (by assumption)) (by assumption) | exact nq_ga (by assumption)) | exact nq_gn (by first | assumption | decide | omega | exact nq_ne1 (by assumption) (by assumption) | exact nq_ne2 (by assumption) (by assumption)) (by first | assumption | exact nq_gs (by assumption) | exact nq_gn (by first | assumption | decide | omega | exact nq_ne1 (by assumption) (by assumption) | exact nq_ne2 (by assumption) (by assumption)) (by assumption) | exact nq_ga (by assumption)))) rfl rfl (kc := 0) (ks := 0) (mc' := 0) (ms' := 0) (As := [.int (nI 94)]) (rest := []) rfl rfl (by decide) (k_Mod_passes (c := 94) hp2 (by omega) (by decide) (by omega)) ?_
    by_cases e94 : L j2 = 94
    · have hj2 := hLt j2 (by omega)
      rw [if_pos e94, if_pos e94]
      refine nq_if_eq (pc' := 383) (tgt := 432) d_Mod_statement_380 rfl (by decide) (fun h => absurd h (by decide)) (fun _ => ?_)
      refine nq_gen (P := fun w => nq_J _ _ _ _ _ _ _ _ w _) (fun σ3 hσ3 => ?_)
      have S3 : mt_S σ3 (upd v2 2 (nI (j2 + 1))) ar2 L N (sp_nc cols) (j2 + 1) (out ++ t2) (sp_q vs.flatten + sp_cq cs) := by rw [hσ3]; exact S2.pos (by omega) (by omega)
      have F3 : mo_fr σ σ3 := F2.tr (by rw [hσ3]; exact mo_fr.st (by decide))
      have K3 : mo_kh v ar (upd v2 2 (nI (j2 + 1))) ar2 := K2.tr (mo_kh.u (by decide))
      obtain ⟨⟨ops3, hp3⟩, m1, m2, m3⟩ := id S3
      have w3 := hp3.1.1
      have b1 := hp3.1.2.2.1
      have s5 := hp3.2.2.2.2.1
      have c5 := hp3.2.2.2.1
      unfold sp_ord
      rw [if_pos ⟨hk2, e94⟩]
      refine nq_aload_n (pc' := 384) d_Mod_statement_383 rfl rfl rfl ?_
      refine nq_callVR (pc' := 387) d_Mod_statement_384 rfl cl_Mod_84 rfl (by first | assumption | exact nq_ga (by assumption) | exact nq_gs (by first | assumption | exact nq_ga (by assumption) | exact nq_gs (by first | assumption | exact nq_gs (by assumption) | exact nq_gn (by first | assumption | decide | omega | exact nq_ne1 (by assumption) (by assumption) | exact nq_ne2 (by assumption) (by assumption)) (by assumption) | exact nq_ga (by assumption)) | exact nq_gn (by first | assumption | decide | omega | exact nq_ne1 (by assumption) (by assumption) | exact nq_ne2 (by assumption) (by assumption)) (by first | assumption | exact nq_gs (by assumption) | exact nq_gn (by first | assumption | decide | omega | exact nq_ne1 (by assumption) (by assumption) | exact nq_ne2 (by assumption) (by assumption)) (by assumption) | exact nq_ga (by assumption))) | exact nq_gn (by first | assumption | decide | omega | exact nq_ne1 (by assumption) (by assumption) | exact nq_ne2 (by assumption) (by assumption)) (by first | assumption | exact nq_ga (by assumption) | exact nq_gs (by first | assumption | exact nq_gs (by assumption) | exact nq_gn (by first | assumption | decide | omega | exact nq_ne1 (by assumption) (by assumption) | exact nq_ne2 (by assumption) (by assumption)) (by assumption) | exact nq_ga (by assumption)) | exact nq_gn (by first | assumption | decide | omega | exact nq_ne1 (by assumption) (by assumption) | exact nq_ne2 (by assumption) (by assumption)) (by first | assumption | exact nq_gs (by assumption) | exact nq_gn (by first | assumption | decide | omega | exact nq_ne1 (by assumption) (by assumption) | exact nq_ne2 (by assumption) (by assumption)) (by assumption) | exact nq_ga (by assumption)))) rfl rfl (kc := 0) (ks := 0) (mc' := 0) (ms' := 0) (As := []) (rest := []) rfl rfl (by decide) (k_Mod_look hp3 (by omega)) ?_
      refine nq_bipush (v := 97) (pc' := 389) d_Mod_statement_387 rfl (by decide) ?_
      refine nq_bipush (v := 97) (pc' := 391) d_Mod_statement_389 rfl (by decide) ?_
      refine nq_aload_n (pc' := 392) d_Mod_statement_391 rfl rfl rfl ?_
      refine nq_getf (pc' := 395) d_Mod_statement_392 rfl fl_Mod_105 (by first | assumption | exact nq_ga (by assumption) | exact nq_gs (by first | assumption | exact nq_ga (by assumption) | exact nq_gs (by first | assumption | exact nq_gs (by assumption) | exact nq_gn (by first | assumption | decide | omega | exact nq_ne1 (by assumption) (by assumption) | exact nq_ne2 (by assumption) (by assumption)) (by assumption) | exact nq_ga (by assumption)) | exact nq_gn (by first | assumption | decide | omega | exact nq_ne1 (by assumption) (by assumption) | exact nq_ne2 (by assumption) (by assumption)) (by first | assumption | exact nq_gs (by assumption) | exact nq_gn (by first | assumption | decide | omega | exact nq_ne1 (by assumption) (by assumption) | exact nq_ne2 (by assumption) (by assumption)) (by assumption) | exact nq_ga (by assumption))) | exact nq_gn (by first | assumption | decide | omega | exact nq_ne1 (by assumption) (by assumption) | exact nq_ne2 (by assumption) (by assumption)) (by first | assumption | exact nq_ga (by assumption) | exact nq_gs (by first | assumption | exact nq_gs (by assumption) | exact nq_gn (by first | assumption | decide | omega | exact nq_ne1 (by assumption) (by assumption) | exact nq_ne2 (by assumption) (by assumption)) (by assumption) | exact nq_ga (by assumption)) | exact nq_gn (by first | assumption | decide | omega | exact nq_ne1 (by assumption) (by assumption) | exact nq_ne2 (by assumption) (by assumption)) (by first | assumption | exact nq_gs (by assumption) | exact nq_gn (by first | assumption | decide | omega | exact nq_ne1 (by assumption) (by assumption) | exact nq_ne2 (by assumption) (by assumption)) (by assumption) | exact nq_ga (by assumption)))) rfl ?_
      refine nq_iadd (pc' := 396) d_Mod_statement_395 rfl ?_
      refine nq_iconst (v := 1) (pc' := 397) d_Mod_statement_396 rfl (by decide) ?_
      refine nq_isub (pc' := 398) d_Mod_statement_397 rfl ?_
      rw [c5]
      refine nq_callSR (pc' := 401) d_Mod_statement_398 rfl cl_Mod_66 st_Mod_66 rfl (kc := 0) (ks := 0) (mc' := 0) (ms' := 0) (As := [.int (nI (L (j2 + 1))), .int 97, .int (97 + nI (sp_nc cols) - 1)]) (rest := []) rfl rfl (by decide) k_Mod_in ?_
      rw [mo_if (mo_col (hl7 (j2 + 1)) hc)]
      by_cases hm : L (j2 + 1) ∈ tx cols
      · rw [if_pos hm, if_pos hm]
        have hj3 := hLt (j2 + 1) (tx_n0 hm)
        have h97 := (tx_col hc hm).2.1
        refine nq_if_ne (pc' := 404) (tgt := 406) d_Mod_statement_401 rfl (by decide) (fun _ => ?_) (fun h => absurd h (by decide))
        refine nq_aload_n (pc' := 407) d_Mod_statement_406 rfl rfl rfl ?_
        refine nq_getf (pc' := 410) d_Mod_statement_407 rfl fl_Mod_13 (by first | assumption | exact nq_ga (by assumption) | exact nq_gs (by first | assumption | exact nq_ga (by assumption) | exact nq_gs (by first | assumption | exact nq_gs (by assumption) | exact nq_gn (by first | assumption | decide | omega | exact nq_ne1 (by assumption) (by assumption) | exact nq_ne2 (by assumption) (by assumption)) (by assumption) | exact nq_ga (by assumption)) | exact nq_gn (by first | assumption | decide | omega | exact nq_ne1 (by assumption) (by assumption) | exact nq_ne2 (by assumption) (by assumption)) (by first | assumption | exact nq_gs (by assumption) | exact nq_gn (by first | assumption | decide | omega | exact nq_ne1 (by assumption) (by assumption) | exact nq_ne2 (by assumption) (by assumption)) (by assumption) | exact nq_ga (by assumption))) | exact nq_gn (by first | assumption | decide | omega | exact nq_ne1 (by assumption) (by assumption) | exact nq_ne2 (by assumption) (by assumption)) (by first | assumption | exact nq_ga (by assumption) | exact nq_gs (by first | assumption | exact nq_gs (by assumption) | exact nq_gn (by first | assumption | decide | omega | exact nq_ne1 (by assumption) (by assumption) | exact nq_ne2 (by assumption) (by assumption)) (by assumption) | exact nq_ga (by assumption)) | exact nq_gn (by first | assumption | decide | omega | exact nq_ne1 (by assumption) (by assumption) | exact nq_ne2 (by assumption) (by assumption)) (by first | assumption | exact nq_gs (by assumption) | exact nq_gn (by first | assumption | decide | omega | exact nq_ne1 (by assumption) (by assumption) | exact nq_ne2 (by assumption) (by assumption)) (by assumption) | exact nq_ga (by assumption)))) rfl ?_
        refine nq_iload_n (pc' := 411) d_Mod_statement_410 rfl rfl rfl ?_
        refine nq_bipush (v := 10) (pc' := 413) d_Mod_statement_411 rfl (by decide) ?_
        refine nq_iadd (pc' := 414) d_Mod_statement_413 rfl ?_
        refine nq_aload_n (pc' := 415) d_Mod_statement_414 rfl rfl rfl ?_
        refine nq_callVR (pc' := 418) d_Mod_statement_415 rfl cl_Mod_84 rfl (by first | assumption | exact nq_ga (by assumption) | exact nq_gs (by first | assumption | exact nq_ga (by assumption) | exact nq_gs (by first | assumption | exact nq_gs (by assumption) | exact nq_gn (by first | assumption | decide | omega | exact nq_ne1 (by assumption) (by assumption) | exact nq_ne2 (by assumption) (by assumption)) (by assumption) | exact nq_ga (by assumption)) | exact nq_gn (by first | assumption | decide | omega | exact nq_ne1 (by assumption) (by assumption) | exact nq_ne2 (by assumption) (by assumption)) (by first | assumption | exact nq_gs (by assumption) | exact nq_gn (by first | assumption | decide | omega | exact nq_ne1 (by assumption) (by assumption) | exact nq_ne2 (by assumption) (by assumption)) (by assumption) | exact nq_ga (by assumption))) | exact nq_gn (by first | assumption | decide | omega | exact nq_ne1 (by assumption) (by assumption) | exact nq_ne2 (by assumption) (by assumption)) (by first | assumption | exact nq_ga (by assumption) | exact nq_gs (by first | assumption | exact nq_gs (by assumption) | exact nq_gn (by first | assumption | decide | omega | exact nq_ne1 (by assumption) (by assumption) | exact nq_ne2 (by assumption) (by assumption)) (by assumption) | exact nq_ga (by assumption)) | exact nq_gn (by first | assumption | decide | omega | exact nq_ne1 (by assumption) (by assumption) | exact nq_ne2 (by assumption) (by assumption)) (by first | assumption | exact nq_gs (by assumption) | exact nq_gn (by first | assumption | decide | omega | exact nq_ne1 (by assumption) (by assumption) | exact nq_ne2 (by assumption) (by assumption)) (by assumption) | exact nq_ga (by assumption)))) rfl rfl (kc := 0) (ks := 0) (mc' := 0) (ms' := 0) (As := []) (rest := [.int (nI 1600 + 10), .ref 272]) rfl rfl (Nat.le_of_ble_eq_true rfl) (k_Mod_look hp3 (by omega)) ?_
        refine nq_bipush (v := 97) (pc' := 420) d_Mod_statement_418 rfl (by decide) ?_
        refine nq_isub (pc' := 421) d_Mod_statement_420 rfl ?_
        refine (congrArg (fun x => nq_J G (d + 1) 0 0 m_Mod_statement 421 _ [Value.int x, .int (nI 1600 + 10), .ref 272] _ _) (show nI (L (j2 + 1)) - nI 97 = nI (L (j2 + 1) - 97) from rd_sb h97)).mpr ?_
        refine nq_iast (pc' := 422) d_Mod_statement_421 rfl (by first | assumption | exact nq_ga (by assumption) | exact nq_gs (by first | assumption | exact nq_ga (by assumption) | exact nq_gs (by first | assumption | exact nq_gs (by assumption) | exact nq_gn (by first | assumption | decide | omega | exact nq_ne1 (by assumption) (by assumption) | exact nq_ne2 (by assumption) (by assumption)) (by assumption) | exact nq_ga (by assumption)) | exact nq_gn (by first | assumption | decide | omega | exact nq_ne1 (by assumption) (by assumption) | exact nq_ne2 (by assumption) (by assumption)) (by first | assumption | exact nq_gs (by assumption) | exact nq_gn (by first | assumption | decide | omega | exact nq_ne1 (by assumption) (by assumption) | exact nq_ne2 (by assumption) (by assumption)) (by assumption) | exact nq_ga (by assumption))) | exact nq_gn (by first | assumption | decide | omega | exact nq_ne1 (by assumption) (by assumption) | exact nq_ne2 (by assumption) (by assumption)) (by first | assumption | exact nq_ga (by assumption) | exact nq_gs (by first | assumption | exact nq_gs (by assumption) | exact nq_gn (by first | assumption | decide | omega | exact nq_ne1 (by assumption) (by assumption) | exact nq_ne2 (by assumption) (by assumption)) (by assumption) | exact nq_ga (by assumption)) | exact nq_gn (by first | assumption | decide | omega | exact nq_ne1 (by assumption) (by assumption) | exact nq_ne2 (by assumption) (by assumption)) (by first | assumption | exact nq_gs (by assumption) | exact nq_gn (by first | assumption | decide | omega | exact nq_ne1 (by assumption) (by assumption) | exact nq_ne2 (by assumption) (by assumption)) (by assumption) | exact nq_ga (by assumption)))) rfl (j := 1610) (by decide) (by decide) (by decide) ?_
        have S4 := (S3.hd (f := upd (ar2 1) 1610 (nI (L (j2 + 1) - 97))) (fun j hj => upd_ne (by omega))).pos (i' := j2 + 2) (by omega) (by omega)
        refine nq_aload_n (pc' := 423) d_Mod_statement_422 rfl rfl rfl ?_
        refine nq_dup (pc' := 424) d_Mod_statement_423 rfl rfl ?_
        refine nq_getf (pc' := 427) d_Mod_statement_424 rfl fl_Mod_81 (by first | assumption | exact nq_ga (by assumption) | exact nq_gs (by first | assumption | exact nq_ga (by assumption) | exact nq_gs (by first | assumption | exact nq_gs (by assumption) | exact nq_gn (by first | assumption | decide | omega | exact nq_ne1 (by assumption) (by assumption) | exact nq_ne2 (by assumption) (by assumption)) (by assumption) | exact nq_ga (by assumption)) | exact nq_gn (by first | assumption | decide | omega | exact nq_ne1 (by assumption) (by assumption) | exact nq_ne2 (by assumption) (by assumption)) (by first | assumption | exact nq_gs (by assumption) | exact nq_gn (by first | assumption | decide | omega | exact nq_ne1 (by assumption) (by assumption) | exact nq_ne2 (by assumption) (by assumption)) (by assumption) | exact nq_ga (by assumption))) | exact nq_gn (by first | assumption | decide | omega | exact nq_ne1 (by assumption) (by assumption) | exact nq_ne2 (by assumption) (by assumption)) (by first | assumption | exact nq_ga (by assumption) | exact nq_gs (by first | assumption | exact nq_gs (by assumption) | exact nq_gn (by first | assumption | decide | omega | exact nq_ne1 (by assumption) (by assumption) | exact nq_ne2 (by assumption) (by assumption)) (by assumption) | exact nq_ga (by assumption)) | exact nq_gn (by first | assumption | decide | omega | exact nq_ne1 (by assumption) (by assumption) | exact nq_ne2 (by assumption) (by assumption)) (by first | assumption | exact nq_gs (by assumption) | exact nq_gn (by first | assumption | decide | omega | exact nq_ne1 (by assumption) (by assumption) | exact nq_ne2 (by assumption) (by assumption)) (by assumption) | exact nq_ga (by assumption)))) rfl ?_
        refine nq_iconst (v := 1) (pc' := 428) d_Mod_statement_427 rfl (by decide) ?_
        refine nq_iadd (pc' := 429) d_Mod_statement_428 rfl ?_
        refine nq_putf (pc' := 432) d_Mod_statement_429 rfl fl_Mod_81 (by first | assumption | exact nq_ga (by assumption) | exact nq_gs (by first | assumption | exact nq_ga (by assumption) | exact nq_gs (by first | assumption | exact nq_gs (by assumption) | exact nq_gn (by first | assumption | decide | omega | exact nq_ne1 (by assumption) (by assumption) | exact nq_ne2 (by assumption) (by assumption)) (by assumption) | exact nq_ga (by assumption)) | exact nq_gn (by first | assumption | decide | omega | exact nq_ne1 (by assumption) (by assumption) | exact nq_ne2 (by assumption) (by assumption)) (by first | assumption | exact nq_gs (by assumption) | exact nq_gn (by first | assumption | decide | omega | exact nq_ne1 (by assumption) (by assumption) | exact nq_ne2 (by assumption) (by assumption)) (by assumption) | exact nq_ga (by assumption))) | exact nq_gn (by first | assumption | decide | omega | exact nq_ne1 (by assumption) (by assumption) | exact nq_ne2 (by assumption) (by assumption)) (by first | assumption | exact nq_ga (by assumption) | exact nq_gs (by first | assumption | exact nq_gs (by assumption) | exact nq_gn (by first | assumption | decide | omega | exact nq_ne1 (by assumption) (by assumption) | exact nq_ne2 (by assumption) (by assumption)) (by assumption) | exact nq_ga (by assumption)) | exact nq_gn (by first | assumption | decide | omega | exact nq_ne1 (by assumption) (by assumption) | exact nq_ne2 (by assumption) (by assumption)) (by first | assumption | exact nq_gs (by assumption) | exact nq_gn (by first | assumption | decide | omega | exact nq_ne1 (by assumption) (by assumption) | exact nq_ne2 (by assumption) (by assumption)) (by assumption) | exact nq_ga (by assumption)))) (Nat.le_of_ble_eq_true rfl) rfl rfl ?_
        rw [s5, nI_1]
        refine base _ (upd (upd v2 2 (nI (j2 + 1))) 2 (nI (j2 + 2))) _ (L (j2 + 1) - 96) (j2 + 2) S4 (fun j hj hn => ?_) ?_ ((F3.tr (mo_fr.st (by decide))).tr (mo_fr.st (by decide))) ((K3.tr (mo_kh.c (fun j hj => upd_ne (by omega)))).tr (mo_kh.u (by decide)))
        · unfold mo_hd
          rw [ua_at, upd_ne (by omega)]
        · unfold mo_hd
          rw [ua_at, upd_at]
          unfold rd_od
          rw [if_neg (by omega)]
          congr 1
      · rw [if_neg hm, if_neg hm]
        refine nq_if_ne (pc' := 404) (tgt := 406) d_Mod_statement_401 rfl (by decide) (fun h => absurd rfl h) (fun _ => ?_)
        refine nq_iconst (v := 0) (pc' := 405) d_Mod_statement_404 rfl (by decide) ?_
        refine nq_iret d_Mod_statement_405 rfl rfl ⟨F3, _, ar2, K3, rfl, hp3.1, s5⟩
    · rw [if_neg e94, if_neg e94]
      refine nq_if_eq (pc' := 383) (tgt := 432) d_Mod_statement_380 rfl (by decide) (fun _ => no (fun h => e94 h.2)) (fun h => absurd rfl h)
  refine nq_iload_n (pc' := 363) d_Mod_statement_362 rfl rfl rfl ?_
  refine nq_bipush (v := 83) (pc' := 365) d_Mod_statement_363 rfl (by decide) ?_
  by_cases k1 : k = 83
  · refine nq_icmp_eq (pc' := 368) (tgt := 374) d_Mod_statement_365 rfl (by decide) (fun _ => yes (.inl k1)) (fun h => absurd (by rw [k1]; rfl) h)
  refine nq_icmp_eq (pc' := 368) (tgt := 374) d_Mod_statement_365 rfl (by decide) (fun h => absurd h (kk 83 (by decide) k1)) (fun _ => ?_)
  refine nq_iload_n (pc' := 369) d_Mod_statement_368 rfl rfl rfl ?_
  refine nq_bipush (v := 80) (pc' := 371) d_Mod_statement_369 rfl (by decide) ?_
  by_cases k2 : k = 80
  · refine nq_icmp_ne (pc' := 374) (tgt := 432) d_Mod_statement_371 rfl (by decide) (fun h => absurd (by rw [k2]; rfl) h) (fun _ => yes (.inr k2))
  refine nq_icmp_ne (pc' := 374) (tgt := 432) d_Mod_statement_371 rfl (by decide) (fun _ => no (fun h => by omega)) (fun h => absurd h (kk 80 (by decide) k2))
end MT
