/-! THE OTHER STORE: select -/
theorem nq_J.of_eq {G : nq_G} {d kc ks : Nat} {y : nq_M} {pc : Nat} {lv : List (Option Value)} {st : List Value} {σ σ' : nq_S} {Q : nq_Q} (e : σ = σ') (k : nq_J G d kc ks y pc lv st σ' Q) : nq_J G d kc ks y pc lv st σ Q := by
  rw [e]
  exact k
theorem sx_add_0 {es : List sx_E} {e : sx_E} (h : ∀ x ∈ es, x.1 = 0) (he : e.1 = 0) : sx_add es e = es ++ [e] := by
  have hp : rs_ps (sx_k es) e.1 es.length = es.length := by
    cases hn : es.length with
    | zero => rfl
    | succ n =>
      unfold rs_ps
      have : sx_k es n = 0 := by
        unfold sx_k
        rw [List.getElem?_eq_getElem (by omega)]
        exact h _ (List.getElem_mem _)
      rw [he, this, if_neg (by decide)]
  unfold sx_add
  rw [hp, List.take_length, List.drop_length]
theorem sx_all_0 : ∀ (cl a : List sx_E), (∀ x ∈ cl, x.1 = 0) → (∀ x ∈ a, x.1 = 0) → cl.foldl sx_add a = a ++ cl
  | [], a, _, _ => by simp
  | e :: cl, a, h, k => by
    have he := h e (List.mem_cons_self ..)
    rw [List.foldl_cons, sx_add_0 k he, sx_all_0 cl (a ++ [e]) (fun x hx => h x (List.mem_cons_of_mem _ hx)) (fun x hx => by
      rcases List.mem_append.1 hx with hx | hx
      · exact k x hx
      · cases List.mem_singleton.1 hx
        exact he)]
    simp
theorem sl_st_0 {vs : List (List nq_In)} {cs : List sp_K} {ρ : Nat → Int32} {cl cl' : List sx_E} (h : sl_st vs cs 0 ρ cl = .inr cl') (k : ∀ x ∈ cl, x.1 = 0) : ∀ x ∈ cl', x.1 = 0 := by
  unfold sl_st at h
  cases h1 : sx_m cs ρ with
  | none => rw [h1] at h; cases h
  | some b =>
    rw [h1] at h
    cases b with
    | false => cases h; exact k
    | true =>
      simp only at h
      cases h2 : sx_vs 7 ρ vs with
      | none => rw [h2] at h; cases h
      | some xs =>
        rw [h2] at h
        simp only at h
        split at h
        · cases h
        · cases h
          intro x hx
          rcases List.mem_append.1 hx with hx | hx
          · exact k x hx
          · cases List.mem_singleton.1 hx
            rfl
def sl_S2 (od : Nat) (v : Nat → Int32) (ar : mo_Ar) (cl : List sx_E) : Prop := sl_S od v ar cl ∧ (od = 0 → ∀ x ∈ cl, x.1 = 0)
theorem co_st_sz {vs : List (List nq_In)} {cs : List sp_K} {ρ : Nat → Int32} {cl cl' : List Int32} (h : co_st vs cs ρ cl = .inr cl') : cl'.length ≤ cl.length + 1 := by
  unfold co_st at h
  cases h1 : sx_m cs ρ with
  | none => rw [h1] at h; cases h
  | some b =>
    rw [h1] at h
    cases b with
    | false => cases h; omega
    | true =>
      simp only at h
      cases h2 : sx_vs 7 ρ vs with
      | none => rw [h2] at h; cases h
      | some xs =>
        rw [h2] at h
        cases h
        simp
theorem mz_k.x {v v' : Nat → Int32} {ar ar' : mo_Ar} (h : mz_k v ar v' ar') : mx_k v ar v' ar' := ⟨fun k a b c _ e => h.1 k a b c e, fun k hk => h.2 k (by omega) (by omega) (by omega) (by omega)⟩
section MZ2
variable {G : nq_G} {d : Nat} {σ : nq_S} {v : Nat → Int32} {ar : mo_Ar} {h : Nat} {s : sp_St} {tb : sx_T}
theorem k_Mod_select (hW : mo_W σ v ar) (hM : md_R (ar 1) h s) (hk : s.1 = 83 ∨ s.1 = 80 ∨ s.1 = 65 ∨ s.1 = 66) (hh : h ≤ 1600) (hT : mo_tb (ar 2) (ar 3) tb) (h7 : v 7 = 0) (h13 : v 13 = 0) (hD : 8 ≤ d) : nq_JM G d 0 0 m_Mod_select [.ref 270, .int (nI h)] σ (xm_Q σ v ar tb (sx_exec tb s (v 15))) := by
  obtain ⟨d, rfl⟩ : ∃ d', d = d' + 1 := ⟨d - 1, by omega⟩
  have hM0 := hM
  obtain ⟨hok, out, hol, ho, m0, m1, m2, m3, m4, m5, m6⟩ := hM
  have m0' : ar 1 h = nI s.1 := m0
  have m1' : ar 1 (h + 1) = nI s.2.1 := m1
  have m3' : ar 1 (h + 3) = nI s.2.2.2.1.length := m3.1
  have m4' : ar 1 (h + 9) = nI s.2.2.2.2.1 := m4
  have m6' : ar 1 (h + 10) = rd_od s.2.2.2.2.2.2 := m6
  have ht := hok.2.1
  have hod := hok.2.2.2.2.2.2.2.2.2.1
  have hod2 := hok.2.2.2.2.2.2.2.2.2.2.1
  have hvl : s.2.2.2.1.length ≤ 3 := hok.2.2.2.1.2.2.2.2.2
  have hn6 := sp_nc_le s.1
  have w := hW.1
  have a1 := hW.2.2.1
  have kk : ∀ x, x < 128 → s.1 ≠ x → ¬ nI s.1 = nI x := fun x hx hn h => hn (nI_inj (by omega) (by omega) h)
  generalize htwo : decide (s.1 = 80 ∨ s.1 = 66) = two
  have htw : two = true ↔ (s.1 = 80 ∨ s.1 = 66) := by rw [← htwo]; exact decide_eq_true_iff
  have huv : two = true → ar 1 (h + 2) = nI s.2.2.1 := fun h => m2 (by
    have := hok.2.2.1
    rw [if_pos (htw.mp h)] at this
    exact this)
  generalize hv58 : upd (upd v 16 0) 11 0 = v58
  have v58a : ∀ k, k ≠ 16 → k ≠ 11 → v58 k = v k := fun k a b => by rw [← hv58, upd_ne b, upd_ne a]
  have z58 : mx_k v ar v58 ar := by rw [← hv58]; exact (mx_k.u (by decide)).tr (mx_k.u (by decide))
  generalize hσ58 : σ.set 270 (mo_F v58) = σ58
  have F58 : mo_fr σ σ58 := by rw [← hσ58]; exact mo_fr.st (by decide)
  have W58 : mo_W σ58 v58 ar := by rw [← hσ58]; exact hW.fi
  have pro : ∀ Q : nq_Q, nq_J G (d + 1) 0 0 m_Mod_select 58 [some (.ref 270), some (.int (nI h)), some (.int (nI s.1)), some (.int (nI s.2.1)), some (.int (ar 1 (h + 2))), some (.int (if two then 1 else 0)), some (.int (nI 0)), none] [] σ58 Q → nq_JM G (d + 1) 0 0 m_Mod_select [.ref 270, .int (nI h)] σ Q := by
    intro Q hJ
    refine nq_mk' (lv := [some (.ref 270), some (.int (nI h)), none, none, none, none, none, none]) (by decide +kernel) rfl (Nat.le_of_ble_eq_true rfl) rfl ?_
    refine nq_aload_n (pc' := 1) d_Mod_select_0 rfl rfl rfl ?_
    refine nq_getf (pc' := 4) d_Mod_select_1 rfl fl_Mod_13 (by first | assumption | exact nq_ga (by assumption) | exact nq_gs (by first | assumption | exact nq_ga (by assumption) | exact nq_gs (by first | assumption | exact nq_gs (by assumption) | exact nq_gn (by first | assumption | decide | omega | exact nq_ne1 (by assumption) (by assumption) | exact nq_ne2 (by assumption) (by assumption)) (by assumption) | exact nq_ga (by assumption)) | exact nq_gn (by first | assumption | decide | omega | exact nq_ne1 (by assumption) (by assumption) | exact nq_ne2 (by assumption) (by assumption)) (by first | assumption | exact nq_gs (by assumption) | exact nq_gn (by first | assumption | decide | omega | exact nq_ne1 (by assumption) (by assumption) | exact nq_ne2 (by assumption) (by assumption)) (by assumption) | exact nq_ga (by assumption))) | exact nq_gn (by first | assumption | decide | omega | exact nq_ne1 (by assumption) (by assumption) | exact nq_ne2 (by assumption) (by assumption)) (by first | assumption | exact nq_ga (by assumption) | exact nq_gs (by first | assumption | exact nq_gs (by assumption) | exact nq_gn (by first | assumption | decide | omega | exact nq_ne1 (by assumption) (by assumption) | exact nq_ne2 (by assumption) (by assumption)) (by assumption) | exact nq_ga (by assumption)) | exact nq_gn (by first | assumption | decide | omega | exact nq_ne1 (by assumption) (by assumption) | exact nq_ne2 (by assumption) (by assumption)) (by first | assumption | exact nq_gs (by assumption) | exact nq_gn (by first | assumption | decide | omega | exact nq_ne1 (by assumption) (by assumption) | exact nq_ne2 (by assumption) (by assumption)) (by assumption) | exact nq_ga (by assumption)))) rfl ?_
    refine nq_iload_n (pc' := 5) d_Mod_select_4 rfl rfl rfl ?_
    refine nq_iald (pc' := 6) d_Mod_select_5 rfl (by first | assumption | exact nq_ga (by assumption) | exact nq_gs (by first | assumption | exact nq_ga (by assumption) | exact nq_gs (by first | assumption | exact nq_gs (by assumption) | exact nq_gn (by first | assumption | decide | omega | exact nq_ne1 (by assumption) (by assumption) | exact nq_ne2 (by assumption) (by assumption)) (by assumption) | exact nq_ga (by assumption)) | exact nq_gn (by first | assumption | decide | omega | exact nq_ne1 (by assumption) (by assumption) | exact nq_ne2 (by assumption) (by assumption)) (by first | assumption | exact nq_gs (by assumption) | exact nq_gn (by first | assumption | decide | omega | exact nq_ne1 (by assumption) (by assumption) | exact nq_ne2 (by assumption) (by assumption)) (by assumption) | exact nq_ga (by assumption))) | exact nq_gn (by first | assumption | decide | omega | exact nq_ne1 (by assumption) (by assumption) | exact nq_ne2 (by assumption) (by assumption)) (by first | assumption | exact nq_ga (by assumption) | exact nq_gs (by first | assumption | exact nq_gs (by assumption) | exact nq_gn (by first | assumption | decide | omega | exact nq_ne1 (by assumption) (by assumption) | exact nq_ne2 (by assumption) (by assumption)) (by assumption) | exact nq_ga (by assumption)) | exact nq_gn (by first | assumption | decide | omega | exact nq_ne1 (by assumption) (by assumption) | exact nq_ne2 (by assumption) (by assumption)) (by first | assumption | exact nq_gs (by assumption) | exact nq_gn (by first | assumption | decide | omega | exact nq_ne1 (by assumption) (by assumption) | exact nq_ne2 (by assumption) (by assumption)) (by assumption) | exact nq_ga (by assumption)))) rfl (j := h) rfl (by omega) (by decide) ?_
    rw [m0']
    refine nq_istore_n (pc' := 7) d_Mod_select_6 rfl rfl (by decide) rfl ?_
    refine nq_aload_n (pc' := 8) d_Mod_select_7 rfl rfl rfl ?_
    refine nq_getf (pc' := 11) d_Mod_select_8 rfl fl_Mod_13 (by first | assumption | exact nq_ga (by assumption) | exact nq_gs (by first | assumption | exact nq_ga (by assumption) | exact nq_gs (by first | assumption | exact nq_gs (by assumption) | exact nq_gn (by first | assumption | decide | omega | exact nq_ne1 (by assumption) (by assumption) | exact nq_ne2 (by assumption) (by assumption)) (by assumption) | exact nq_ga (by assumption)) | exact nq_gn (by first | assumption | decide | omega | exact nq_ne1 (by assumption) (by assumption) | exact nq_ne2 (by assumption) (by assumption)) (by first | assumption | exact nq_gs (by assumption) | exact nq_gn (by first | assumption | decide | omega | exact nq_ne1 (by assumption) (by assumption) | exact nq_ne2 (by assumption) (by assumption)) (by assumption) | exact nq_ga (by assumption))) | exact nq_gn (by first | assumption | decide | omega | exact nq_ne1 (by assumption) (by assumption) | exact nq_ne2 (by assumption) (by assumption)) (by first | assumption | exact nq_ga (by assumption) | exact nq_gs (by first | assumption | exact nq_gs (by assumption) | exact nq_gn (by first | assumption | decide | omega | exact nq_ne1 (by assumption) (by assumption) | exact nq_ne2 (by assumption) (by assumption)) (by assumption) | exact nq_ga (by assumption)) | exact nq_gn (by first | assumption | decide | omega | exact nq_ne1 (by assumption) (by assumption) | exact nq_ne2 (by assumption) (by assumption)) (by first | assumption | exact nq_gs (by assumption) | exact nq_gn (by first | assumption | decide | omega | exact nq_ne1 (by assumption) (by assumption) | exact nq_ne2 (by assumption) (by assumption)) (by assumption) | exact nq_ga (by assumption)))) rfl ?_
    refine nq_iload_n (pc' := 12) d_Mod_select_11 rfl rfl rfl ?_
    refine nq_iconst (v := 1) (pc' := 13) d_Mod_select_12 rfl (by decide) ?_
    refine nq_iadd (pc' := 14) d_Mod_select_13 rfl ?_
    refine nq_iald (pc' := 15) d_Mod_select_14 rfl (by first | assumption | exact nq_ga (by assumption) | exact nq_gs (by first | assumption | exact nq_ga (by assumption) | exact nq_gs (by first | assumption | exact nq_gs (by assumption) | exact nq_gn (by first | assumption | decide | omega | exact nq_ne1 (by assumption) (by assumption) | exact nq_ne2 (by assumption) (by assumption)) (by assumption) | exact nq_ga (by assumption)) | exact nq_gn (by first | assumption | decide | omega | exact nq_ne1 (by assumption) (by assumption) | exact nq_ne2 (by assumption) (by assumption)) (by first | assumption | exact nq_gs (by assumption) | exact nq_gn (by first | assumption | decide | omega | exact nq_ne1 (by assumption) (by assumption) | exact nq_ne2 (by assumption) (by assumption)) (by assumption) | exact nq_ga (by assumption))) | exact nq_gn (by first | assumption | decide | omega | exact nq_ne1 (by assumption) (by assumption) | exact nq_ne2 (by assumption) (by assumption)) (by first | assumption | exact nq_ga (by assumption) | exact nq_gs (by first | assumption | exact nq_gs (by assumption) | exact nq_gn (by first | assumption | decide | omega | exact nq_ne1 (by assumption) (by assumption) | exact nq_ne2 (by assumption) (by assumption)) (by assumption) | exact nq_ga (by assumption)) | exact nq_gn (by first | assumption | decide | omega | exact nq_ne1 (by assumption) (by assumption) | exact nq_ne2 (by assumption) (by assumption)) (by first | assumption | exact nq_gs (by assumption) | exact nq_gn (by first | assumption | decide | omega | exact nq_ne1 (by assumption) (by assumption) | exact nq_ne2 (by assumption) (by assumption)) (by assumption) | exact nq_ga (by assumption)))) rfl (j := h + 1) (nI_add h 1) (by omega) (by decide) ?_
    rw [m1']
    refine nq_istore_n (pc' := 16) d_Mod_select_15 rfl rfl (by decide) rfl ?_
    refine nq_aload_n (pc' := 17) d_Mod_select_16 rfl rfl rfl ?_
    refine nq_getf (pc' := 20) d_Mod_select_17 rfl fl_Mod_13 (by first | assumption | exact nq_ga (by assumption) | exact nq_gs (by first | assumption | exact nq_ga (by assumption) | exact nq_gs (by first | assumption | exact nq_gs (by assumption) | exact nq_gn (by first | assumption | decide | omega | exact nq_ne1 (by assumption) (by assumption) | exact nq_ne2 (by assumption) (by assumption)) (by assumption) | exact nq_ga (by assumption)) | exact nq_gn (by first | assumption | decide | omega | exact nq_ne1 (by assumption) (by assumption) | exact nq_ne2 (by assumption) (by assumption)) (by first | assumption | exact nq_gs (by assumption) | exact nq_gn (by first | assumption | decide | omega | exact nq_ne1 (by assumption) (by assumption) | exact nq_ne2 (by assumption) (by assumption)) (by assumption) | exact nq_ga (by assumption))) | exact nq_gn (by first | assumption | decide | omega | exact nq_ne1 (by assumption) (by assumption) | exact nq_ne2 (by assumption) (by assumption)) (by first | assumption | exact nq_ga (by assumption) | exact nq_gs (by first | assumption | exact nq_gs (by assumption) | exact nq_gn (by first | assumption | decide | omega | exact nq_ne1 (by assumption) (by assumption) | exact nq_ne2 (by assumption) (by assumption)) (by assumption) | exact nq_ga (by assumption)) | exact nq_gn (by first | assumption | decide | omega | exact nq_ne1 (by assumption) (by assumption) | exact nq_ne2 (by assumption) (by assumption)) (by first | assumption | exact nq_gs (by assumption) | exact nq_gn (by first | assumption | decide | omega | exact nq_ne1 (by assumption) (by assumption) | exact nq_ne2 (by assumption) (by assumption)) (by assumption) | exact nq_ga (by assumption)))) rfl ?_
    refine nq_iload_n (pc' := 21) d_Mod_select_20 rfl rfl rfl ?_
    refine nq_iconst (v := 2) (pc' := 22) d_Mod_select_21 rfl (by decide) ?_
    refine nq_iadd (pc' := 23) d_Mod_select_22 rfl ?_
    refine nq_iald (pc' := 24) d_Mod_select_23 rfl (by first | assumption | exact nq_ga (by assumption) | exact nq_gs (by first | assumption | exact nq_ga (by assumption) | exact nq_gs (by first | assumption | exact nq_gs (by assumption) | exact nq_gn (by first | assumption | decide | omega | exact nq_ne1 (by assumption) (by assumption) | exact nq_ne2 (by assumption) (by assumption)) (by assumption) | exact nq_ga (by assumption)) | exact nq_gn (by first | assumption | decide | omega | exact nq_ne1 (by assumption) (by assumption) | exact nq_ne2 (by assumption) (by assumption)) (by first | assumption | exact nq_gs (by assumption) | exact nq_gn (by first | assumption | decide | omega | exact nq_ne1 (by assumption) (by assumption) | exact nq_ne2 (by assumption) (by assumption)) (by assumption) | exact nq_ga (by assumption))) | exact nq_gn (by first | assumption | decide | omega | exact nq_ne1 (by assumption) (by assumption) | exact nq_ne2 (by assumption) (by assumption)) (by first | assumption | exact nq_ga (by assumption) | exact nq_gs (by first | assumption | exact nq_gs (by assumption) | exact nq_gn (by first | assumption | decide | omega | exact nq_ne1 (by assumption) (by assumption) | exact nq_ne2 (by assumption) (by assumption)) (by assumption) | exact nq_ga (by assumption)) | exact nq_gn (by first | assumption | decide | omega | exact nq_ne1 (by assumption) (by assumption) | exact nq_ne2 (by assumption) (by assumption)) (by first | assumption | exact nq_gs (by assumption) | exact nq_gn (by first | assumption | decide | omega | exact nq_ne1 (by assumption) (by assumption) | exact nq_ne2 (by assumption) (by assumption)) (by assumption) | exact nq_ga (by assumption)))) rfl (j := h + 2) (nI_add h 2) (by omega) (by decide) ?_
    refine nq_istore (pc' := 26) d_Mod_select_24 rfl (by decide) rfl ?_
    refine nq_iload_n (pc' := 27) d_Mod_select_26 rfl rfl rfl ?_
    refine nq_bipush (v := 80) (pc' := 29) d_Mod_select_27 rfl (by decide) ?_
    have hset : (σ.set 270 (mo_F (upd v 16 0))).set 270 (mo_F v58) = σ58 := by rw [← hσ58, List.set_set]
    have w1 : (σ.set 270 (mo_F (upd v 16 0)))[270]? = some (mo_F (upd v 16 0)) := hW.fi.1
    have tail : nq_J G (d + 1) 0 0 m_Mod_select 45 [some (.ref 270), some (.int (nI h)), some (.int (nI s.1)), some (.int (nI s.2.1)), some (.int (ar 1 (h + 2))), some (.int (if two then 1 else 0)), none, none] [] σ Q := by
      refine nq_aload_n (pc' := 46) d_Mod_select_45 rfl rfl rfl ?_
      refine nq_iconst (v := 0) (pc' := 47) d_Mod_select_46 rfl (by decide) ?_
      refine nq_putf (pc' := 50) d_Mod_select_47 rfl fl_Mod_161 (by first | assumption | exact nq_ga (by assumption) | exact nq_gs (by first | assumption | exact nq_ga (by assumption) | exact nq_gs (by first | assumption | exact nq_gs (by assumption) | exact nq_gn (by first | assumption | decide | omega | exact nq_ne1 (by assumption) (by assumption) | exact nq_ne2 (by assumption) (by assumption)) (by assumption) | exact nq_ga (by assumption)) | exact nq_gn (by first | assumption | decide | omega | exact nq_ne1 (by assumption) (by assumption) | exact nq_ne2 (by assumption) (by assumption)) (by first | assumption | exact nq_gs (by assumption) | exact nq_gn (by first | assumption | decide | omega | exact nq_ne1 (by assumption) (by assumption) | exact nq_ne2 (by assumption) (by assumption)) (by assumption) | exact nq_ga (by assumption))) | exact nq_gn (by first | assumption | decide | omega | exact nq_ne1 (by assumption) (by assumption) | exact nq_ne2 (by assumption) (by assumption)) (by first | assumption | exact nq_ga (by assumption) | exact nq_gs (by first | assumption | exact nq_gs (by assumption) | exact nq_gn (by first | assumption | decide | omega | exact nq_ne1 (by assumption) (by assumption) | exact nq_ne2 (by assumption) (by assumption)) (by assumption) | exact nq_ga (by assumption)) | exact nq_gn (by first | assumption | decide | omega | exact nq_ne1 (by assumption) (by assumption) | exact nq_ne2 (by assumption) (by assumption)) (by first | assumption | exact nq_gs (by assumption) | exact nq_gn (by first | assumption | decide | omega | exact nq_ne1 (by assumption) (by assumption) | exact nq_ne2 (by assumption) (by assumption)) (by assumption) | exact nq_ga (by assumption)))) (Nat.le_of_ble_eq_true rfl) rfl rfl ?_
      refine nq_J.of_eq (σ' := σ.set 270 (mo_F (upd v 16 0))) rfl ?_
      refine nq_aload_n (pc' := 51) d_Mod_select_50 rfl rfl rfl ?_
      refine nq_iconst (v := 0) (pc' := 52) d_Mod_select_51 rfl (by decide) ?_
      refine nq_putf (pc' := 55) d_Mod_select_52 rfl fl_Mod_164 (by first | assumption | exact nq_ga (by assumption) | exact nq_gs (by first | assumption | exact nq_ga (by assumption) | exact nq_gs (by first | assumption | exact nq_gs (by assumption) | exact nq_gn (by first | assumption | decide | omega | exact nq_ne1 (by assumption) (by assumption) | exact nq_ne2 (by assumption) (by assumption)) (by assumption) | exact nq_ga (by assumption)) | exact nq_gn (by first | assumption | decide | omega | exact nq_ne1 (by assumption) (by assumption) | exact nq_ne2 (by assumption) (by assumption)) (by first | assumption | exact nq_gs (by assumption) | exact nq_gn (by first | assumption | decide | omega | exact nq_ne1 (by assumption) (by assumption) | exact nq_ne2 (by assumption) (by assumption)) (by assumption) | exact nq_ga (by assumption))) | exact nq_gn (by first | assumption | decide | omega | exact nq_ne1 (by assumption) (by assumption) | exact nq_ne2 (by assumption) (by assumption)) (by first | assumption | exact nq_ga (by assumption) | exact nq_gs (by first | assumption | exact nq_gs (by assumption) | exact nq_gn (by first | assumption | decide | omega | exact nq_ne1 (by assumption) (by assumption) | exact nq_ne2 (by assumption) (by assumption)) (by assumption) | exact nq_ga (by assumption)) | exact nq_gn (by first | assumption | decide | omega | exact nq_ne1 (by assumption) (by assumption) | exact nq_ne2 (by assumption) (by assumption)) (by first | assumption | exact nq_gs (by assumption) | exact nq_gn (by first | assumption | decide | omega | exact nq_ne1 (by assumption) (by assumption) | exact nq_ne2 (by assumption) (by assumption)) (by assumption) | exact nq_ga (by assumption)))) (Nat.le_of_ble_eq_true rfl) rfl rfl ?_
      refine nq_J.of_eq (σ' := σ58) (by rw [← hset, ← hv58]; rfl) ?_
      refine nq_iconst (v := 0) (pc' := 56) d_Mod_select_55 rfl (by decide) ?_
      refine nq_istore (pc' := 58) d_Mod_select_56 rfl (by decide) rfl ?_
      exact hJ
    by_cases k80 : s.1 = 80
    · have e2 : two = true := htw.mpr (.inl k80)
      rw [e2] at tail
      refine nq_icmp_eq (pc' := 32) (tgt := 38) d_Mod_select_29 rfl (by decide) (fun _ => ?_) (fun h => absurd (by rw [k80]; rfl) h)
      refine nq_iconst (v := 1) (pc' := 39) d_Mod_select_38 rfl (by decide) ?_
      refine nq_goto (tgt := 43) d_Mod_select_39 (by decide) ?_
      refine nq_istore (pc' := 45) d_Mod_select_43 rfl (by decide) rfl ?_
      exact tail
    refine nq_icmp_eq (pc' := 32) (tgt := 38) d_Mod_select_29 rfl (by decide) (fun h => absurd h (kk 80 (by omega) k80)) (fun _ => ?_)
    refine nq_iload_n (pc' := 33) d_Mod_select_32 rfl rfl rfl ?_
    refine nq_bipush (v := 66) (pc' := 35) d_Mod_select_33 rfl (by decide) ?_
    by_cases k66 : s.1 = 66
    · have e2 : two = true := htw.mpr (.inr k66)
      rw [e2] at tail
      refine nq_icmp_ne (pc' := 38) (tgt := 42) d_Mod_select_35 rfl (by decide) (fun h => absurd (by rw [k66]; rfl) h) (fun _ => ?_)
      refine nq_iconst (v := 1) (pc' := 39) d_Mod_select_38 rfl (by decide) ?_
      refine nq_goto (tgt := 43) d_Mod_select_39 (by decide) ?_
      refine nq_istore (pc' := 45) d_Mod_select_43 rfl (by decide) rfl ?_
      exact tail
    have e2 : two = false := by
      cases h2 : two with
      | false => rfl
      | true =>
        have := htw.mp h2
        omega
    rw [e2] at tail
    refine nq_icmp_ne (pc' := 38) (tgt := 42) d_Mod_select_35 rfl (by decide) (fun _ => ?_) (fun h => absurd h (kk 66 (by omega) k66))
    refine nq_iconst (v := 0) (pc' := 43) d_Mod_select_42 rfl (by decide) ?_
    refine nq_istore (pc' := 45) d_Mod_select_43 rfl (by decide) rfl ?_
    exact tail
  refine pro _ ?_
  have hex : sx_exec tb s (v 15) = if s.1 = 65 ∨ s.1 = 66 then (match sx_col s.2.2.2.1 s.2.2.2.2.2.1 (sx_envs (tb.getD s.2.1 []) (sx_two tb s.2.2.1) (v 15)) [] with
    | .inl e => .inl e
    | .inr xs => match sx_agg s.2.2.2.2.1 xs with
      | none => .inl nq_NE
      | some v => .inr (1, tb, [(0, [v])], 1))
  else match sx_sel s.2.2.2.1 s.2.2.2.2.2.1 s.2.2.2.2.2.2 (sx_envs (tb.getD s.2.1 []) (sx_two tb s.2.2.1) (v 15)) [] with
    | .inl e => .inl e
    | .inr cl => .inr (nI cl.length, tb, cl.foldl sx_add [], s.2.2.2.1.length) := by
    unfold sx_exec
    rw [if_neg (by omega), if_neg (by omega), if_neg (by omega)]
    rfl
  rw [hex]
  have hthr : ∀ (e : String) (σ1 : nq_S) (v1 : Nat → Int32) (ar1 : mo_Ar), mo_fr σ58 σ1 → mo_W σ1 v1 ar1 → mz_k v58 ar v1 ar1 → v1 7 = mo_thr e → xm_Q σ v ar tb (.inl e) (.inl (some (.int 0))) σ1 := fun e σ1 v1 ar1 F W K h71 => ⟨(F58.tr F).g, v1, ar1, 0, W, z58.tr K.x, rfl, h71, by
    rw [K.2 2 (by decide) (by decide) (by decide) (by decide), K.2 3 (by decide) (by decide) (by decide) (by decide)]
    exact hT⟩
  have e15 : v58 15 = v 15 := v58a 15 (by decide) (by decide)
  have e7 : v58 7 = 0 := (v58a 7 (by decide) (by decide)).trans h7
  have e13 : v58 13 = 0 := (v58a 13 (by decide) (by decide)).trans h13
  have e11 : v58 11 = 0 := by rw [← hv58]; exact upd_at
  have e16 : v58 16 = 0 := by rw [← hv58, upd_ne (by decide)]; exact upd_at
  by_cases kag : s.1 = 65 ∨ s.1 = 66
  · rw [if_pos kag, sx_col_fold, ← e15]
    obtain ⟨hv1, hfn⟩ := hok.2.2.2.1.2.2.2.1 kag
    have hf4 : s.2.2.2.2.1 = 43 ∨ s.2.2.2.2.1 = 35 ∨ s.2.2.2.2.1 = 62 ∨ s.2.2.2.2.1 = 60 := by
      have : ∀ f ∈ tx 15, f = 43 ∨ f = 35 ∨ f = 62 ∨ f = 60 := by decide
      exact this _ hfn
    have kf : ∀ x, x < 128 → s.2.2.2.2.1 ≠ x → ¬ nI s.2.2.2.2.1 = nI x := fun x hx hn h => hn (nI_inj (by omega) (by omega) h)
    have hod0 : s.2.2.2.2.2.2 = 0 := by
      by_cases h0 : s.2.2.2.2.2.2 = 0
      · exact h0
      · have := hod2 h0
        omega
    refine mz_loops (α := List Int32) (ST := co_S s.2.2.2.2.1) (st := co_st s.2.2.2.1 s.2.2.2.2.2.1) (sz := List.length) (Q := fun r => xm_Q σ v ar tb (match r with
      | .inl e => .inl e
      | .inr xs => match sx_agg s.2.2.2.2.1 xs with
        | none => .inl nq_NE
        | some v => .inr (1, tb, [(0, [v])], 1))) htw (by omega) hok hh hT huv e7 (by omega) ?_ rfl (fun v ar a f h => h) (fun ρ a a' h => co_st_sz h) ?_ ?_ hthr W58
    · exact ⟨e11, Nat.zero_le _, fun _ => e16, fun _ x r h => (by cases h), fun _ x r h => (by cases h)⟩
    · intro σ1 v1 ar1 ρ a W1 K1 h71 E1 S1 z1
      exact k_Mod_collectA W1 (by rw [K1.2 1 (by decide) (by decide) (by decide) (by decide)]; exact hM0) kag hh h71 E1 S1 z1 (by omega)
    · intro σ1 v1 ar1 xs l6 l7 F1 W1 K1 h71 S1
      obtain ⟨y1, y2, y3, y4, y5⟩ := S1
      have w1 := W1.1
      have A1 : ar1 1 = ar 1 := K1.2 1 (by decide) (by decide) (by decide) (by decide)
      have c1 : σ1[272]? = some (.inl (0, 2000, .inl (ar 1))) := by rw [← A1]; exact W1.2.2.1
      have T1 : mo_tb (ar1 2) (ar1 3) tb := by
        rw [K1.2 2 (by decide) (by decide) (by decide) (by decide), K1.2 3 (by decide) (by decide) (by decide) (by decide)]
        exact hT
      simp only
      refine nq_aload_n (pc' := 147) d_Mod_select_146 rfl rfl rfl ?_
      refine nq_getf (pc' := 150) d_Mod_select_147 rfl fl_Mod_63 (by first | assumption | exact nq_ga (by assumption) | exact nq_gs (by first | assumption | exact nq_ga (by assumption) | exact nq_gs (by first | assumption | exact nq_gs (by assumption) | exact nq_gn (by first | assumption | decide | omega | exact nq_ne1 (by assumption) (by assumption) | exact nq_ne2 (by assumption) (by assumption)) (by assumption) | exact nq_ga (by assumption)) | exact nq_gn (by first | assumption | decide | omega | exact nq_ne1 (by assumption) (by assumption) | exact nq_ne2 (by assumption) (by assumption)) (by first | assumption | exact nq_gs (by assumption) | exact nq_gn (by first | assumption | decide | omega | exact nq_ne1 (by assumption) (by assumption) | exact nq_ne2 (by assumption) (by assumption)) (by assumption) | exact nq_ga (by assumption))) | exact nq_gn (by first | assumption | decide | omega | exact nq_ne1 (by assumption) (by assumption) | exact nq_ne2 (by assumption) (by assumption)) (by first | assumption | exact nq_ga (by assumption) | exact nq_gs (by first | assumption | exact nq_gs (by assumption) | exact nq_gn (by first | assumption | decide | omega | exact nq_ne1 (by assumption) (by assumption) | exact nq_ne2 (by assumption) (by assumption)) (by assumption) | exact nq_ga (by assumption)) | exact nq_gn (by first | assumption | decide | omega | exact nq_ne1 (by assumption) (by assumption) | exact nq_ne2 (by assumption) (by assumption)) (by first | assumption | exact nq_gs (by assumption) | exact nq_gn (by first | assumption | decide | omega | exact nq_ne1 (by assumption) (by assumption) | exact nq_ne2 (by assumption) (by assumption)) (by assumption) | exact nq_ga (by assumption)))) rfl ?_
      rw [h71]
      refine nq_if_le (pc' := 153) (tgt := 155) d_Mod_select_150 rfl (by decide) (fun _ => ?_) (fun h => absurd (show (0 : Int32) ≤ 0 by decide) h)
      refine nq_aload_n (pc' := 156) d_Mod_select_155 rfl rfl rfl ?_
      refine nq_aload_n (pc' := 157) d_Mod_select_156 rfl rfl rfl ?_
      refine nq_getf (pc' := 160) d_Mod_select_157 rfl fl_Mod_13 (by first | assumption | exact nq_ga (by assumption) | exact nq_gs (by first | assumption | exact nq_ga (by assumption) | exact nq_gs (by first | assumption | exact nq_gs (by assumption) | exact nq_gn (by first | assumption | decide | omega | exact nq_ne1 (by assumption) (by assumption) | exact nq_ne2 (by assumption) (by assumption)) (by assumption) | exact nq_ga (by assumption)) | exact nq_gn (by first | assumption | decide | omega | exact nq_ne1 (by assumption) (by assumption) | exact nq_ne2 (by assumption) (by assumption)) (by first | assumption | exact nq_gs (by assumption) | exact nq_gn (by first | assumption | decide | omega | exact nq_ne1 (by assumption) (by assumption) | exact nq_ne2 (by assumption) (by assumption)) (by assumption) | exact nq_ga (by assumption))) | exact nq_gn (by first | assumption | decide | omega | exact nq_ne1 (by assumption) (by assumption) | exact nq_ne2 (by assumption) (by assumption)) (by first | assumption | exact nq_ga (by assumption) | exact nq_gs (by first | assumption | exact nq_gs (by assumption) | exact nq_gn (by first | assumption | decide | omega | exact nq_ne1 (by assumption) (by assumption) | exact nq_ne2 (by assumption) (by assumption)) (by assumption) | exact nq_ga (by assumption)) | exact nq_gn (by first | assumption | decide | omega | exact nq_ne1 (by assumption) (by assumption) | exact nq_ne2 (by assumption) (by assumption)) (by first | assumption | exact nq_gs (by assumption) | exact nq_gn (by first | assumption | decide | omega | exact nq_ne1 (by assumption) (by assumption) | exact nq_ne2 (by assumption) (by assumption)) (by assumption) | exact nq_ga (by assumption)))) rfl ?_
      refine nq_iload_n (pc' := 161) d_Mod_select_160 rfl rfl rfl ?_
      refine nq_iconst (v := 3) (pc' := 162) d_Mod_select_161 rfl (by decide) ?_
      refine nq_iadd (pc' := 163) d_Mod_select_162 rfl ?_
      refine nq_iald (pc' := 164) d_Mod_select_163 rfl (by first | assumption | exact nq_ga (by assumption) | exact nq_gs (by first | assumption | exact nq_ga (by assumption) | exact nq_gs (by first | assumption | exact nq_gs (by assumption) | exact nq_gn (by first | assumption | decide | omega | exact nq_ne1 (by assumption) (by assumption) | exact nq_ne2 (by assumption) (by assumption)) (by assumption) | exact nq_ga (by assumption)) | exact nq_gn (by first | assumption | decide | omega | exact nq_ne1 (by assumption) (by assumption) | exact nq_ne2 (by assumption) (by assumption)) (by first | assumption | exact nq_gs (by assumption) | exact nq_gn (by first | assumption | decide | omega | exact nq_ne1 (by assumption) (by assumption) | exact nq_ne2 (by assumption) (by assumption)) (by assumption) | exact nq_ga (by assumption))) | exact nq_gn (by first | assumption | decide | omega | exact nq_ne1 (by assumption) (by assumption) | exact nq_ne2 (by assumption) (by assumption)) (by first | assumption | exact nq_ga (by assumption) | exact nq_gs (by first | assumption | exact nq_gs (by assumption) | exact nq_gn (by first | assumption | decide | omega | exact nq_ne1 (by assumption) (by assumption) | exact nq_ne2 (by assumption) (by assumption)) (by assumption) | exact nq_ga (by assumption)) | exact nq_gn (by first | assumption | decide | omega | exact nq_ne1 (by assumption) (by assumption) | exact nq_ne2 (by assumption) (by assumption)) (by first | assumption | exact nq_gs (by assumption) | exact nq_gn (by first | assumption | decide | omega | exact nq_ne1 (by assumption) (by assumption) | exact nq_ne2 (by assumption) (by assumption)) (by assumption) | exact nq_ga (by assumption)))) rfl (j := h + 3) (nI_add h 3) (by omega) (by decide) ?_
      rw [m3', hv1]
      refine nq_putf (pc' := 167) d_Mod_select_164 rfl fl_Mod_177 (by first | assumption | exact nq_ga (by assumption) | exact nq_gs (by first | assumption | exact nq_ga (by assumption) | exact nq_gs (by first | assumption | exact nq_gs (by assumption) | exact nq_gn (by first | assumption | decide | omega | exact nq_ne1 (by assumption) (by assumption) | exact nq_ne2 (by assumption) (by assumption)) (by assumption) | exact nq_ga (by assumption)) | exact nq_gn (by first | assumption | decide | omega | exact nq_ne1 (by assumption) (by assumption) | exact nq_ne2 (by assumption) (by assumption)) (by first | assumption | exact nq_gs (by assumption) | exact nq_gn (by first | assumption | decide | omega | exact nq_ne1 (by assumption) (by assumption) | exact nq_ne2 (by assumption) (by assumption)) (by assumption) | exact nq_ga (by assumption))) | exact nq_gn (by first | assumption | decide | omega | exact nq_ne1 (by assumption) (by assumption) | exact nq_ne2 (by assumption) (by assumption)) (by first | assumption | exact nq_ga (by assumption) | exact nq_gs (by first | assumption | exact nq_gs (by assumption) | exact nq_gn (by first | assumption | decide | omega | exact nq_ne1 (by assumption) (by assumption) | exact nq_ne2 (by assumption) (by assumption)) (by assumption) | exact nq_ga (by assumption)) | exact nq_gn (by first | assumption | decide | omega | exact nq_ne1 (by assumption) (by assumption) | exact nq_ne2 (by assumption) (by assumption)) (by first | assumption | exact nq_gs (by assumption) | exact nq_gn (by first | assumption | decide | omega | exact nq_ne1 (by assumption) (by assumption) | exact nq_ne2 (by assumption) (by assumption)) (by assumption) | exact nq_ga (by assumption)))) (Nat.le_of_ble_eq_true rfl) rfl rfl ?_
      have W2 : mo_W (σ1.set 270 (mo_F (upd v1 14 (nI 1)))) (upd v1 14 (nI 1)) ar1 := W1.fi
      refine nq_J.of_eq (σ' := σ1.set 270 (mo_F (upd v1 14 (nI 1)))) rfl ?_
      generalize hv2 : upd v1 14 (nI 1) = v2 at W2 ⊢
      have F2 : mo_fr σ58 (σ1.set 270 (mo_F v2)) := F1.tr (mo_fr.st (by decide))
      generalize σ1.set 270 (mo_F v2) = σ2 at W2 F2 ⊢
      have K2 : mx_k v ar v2 ar1 := z58.tr (K1.x.tr (by rw [← hv2]; exact mx_k.u (by decide)))
      have q : ∀ k, k ≠ 14 → v2 k = v1 k := fun k hk => by rw [← hv2]; exact upd_ne hk
      have q14 : v2 14 = nI 1 := by rw [← hv2]; exact upd_at
      have w2 := W2.1
      have c2 : σ2[272]? = some (.inl (0, 2000, .inl (ar 1))) := by rw [← A1]; exact W2.2.2.1
      have x11 : v2 11 = nI xs.length := (q 11 (by decide)).trans y1
      have x16 : v2 16 = v1 16 := q 16 (by decide)
      refine nq_aload_n (pc' := 168) d_Mod_select_167 rfl rfl rfl ?_
      refine nq_getf (pc' := 171) d_Mod_select_168 rfl fl_Mod_13 (by first | assumption | exact nq_ga (by assumption) | exact nq_gs (by first | assumption | exact nq_ga (by assumption) | exact nq_gs (by first | assumption | exact nq_gs (by assumption) | exact nq_gn (by first | assumption | decide | omega | exact nq_ne1 (by assumption) (by assumption) | exact nq_ne2 (by assumption) (by assumption)) (by assumption) | exact nq_ga (by assumption)) | exact nq_gn (by first | assumption | decide | omega | exact nq_ne1 (by assumption) (by assumption) | exact nq_ne2 (by assumption) (by assumption)) (by first | assumption | exact nq_gs (by assumption) | exact nq_gn (by first | assumption | decide | omega | exact nq_ne1 (by assumption) (by assumption) | exact nq_ne2 (by assumption) (by assumption)) (by assumption) | exact nq_ga (by assumption))) | exact nq_gn (by first | assumption | decide | omega | exact nq_ne1 (by assumption) (by assumption) | exact nq_ne2 (by assumption) (by assumption)) (by first | assumption | exact nq_ga (by assumption) | exact nq_gs (by first | assumption | exact nq_gs (by assumption) | exact nq_gn (by first | assumption | decide | omega | exact nq_ne1 (by assumption) (by assumption) | exact nq_ne2 (by assumption) (by assumption)) (by assumption) | exact nq_ga (by assumption)) | exact nq_gn (by first | assumption | decide | omega | exact nq_ne1 (by assumption) (by assumption) | exact nq_ne2 (by assumption) (by assumption)) (by first | assumption | exact nq_gs (by assumption) | exact nq_gn (by first | assumption | decide | omega | exact nq_ne1 (by assumption) (by assumption) | exact nq_ne2 (by assumption) (by assumption)) (by assumption) | exact nq_ga (by assumption)))) rfl ?_
      refine nq_iload_n (pc' := 172) d_Mod_select_171 rfl rfl rfl ?_
      refine nq_bipush (v := 10) (pc' := 174) d_Mod_select_172 rfl (by decide) ?_
      refine nq_iadd (pc' := 175) d_Mod_select_174 rfl ?_
      refine nq_iald (pc' := 176) d_Mod_select_175 rfl (by first | assumption | exact nq_ga (by assumption) | exact nq_gs (by first | assumption | exact nq_ga (by assumption) | exact nq_gs (by first | assumption | exact nq_gs (by assumption) | exact nq_gn (by first | assumption | decide | omega | exact nq_ne1 (by assumption) (by assumption) | exact nq_ne2 (by assumption) (by assumption)) (by assumption) | exact nq_ga (by assumption)) | exact nq_gn (by first | assumption | decide | omega | exact nq_ne1 (by assumption) (by assumption) | exact nq_ne2 (by assumption) (by assumption)) (by first | assumption | exact nq_gs (by assumption) | exact nq_gn (by first | assumption | decide | omega | exact nq_ne1 (by assumption) (by assumption) | exact nq_ne2 (by assumption) (by assumption)) (by assumption) | exact nq_ga (by assumption))) | exact nq_gn (by first | assumption | decide | omega | exact nq_ne1 (by assumption) (by assumption) | exact nq_ne2 (by assumption) (by assumption)) (by first | assumption | exact nq_ga (by assumption) | exact nq_gs (by first | assumption | exact nq_gs (by assumption) | exact nq_gn (by first | assumption | decide | omega | exact nq_ne1 (by assumption) (by assumption) | exact nq_ne2 (by assumption) (by assumption)) (by assumption) | exact nq_ga (by assumption)) | exact nq_gn (by first | assumption | decide | omega | exact nq_ne1 (by assumption) (by assumption) | exact nq_ne2 (by assumption) (by assumption)) (by first | assumption | exact nq_gs (by assumption) | exact nq_gn (by first | assumption | decide | omega | exact nq_ne1 (by assumption) (by assumption) | exact nq_ne2 (by assumption) (by assumption)) (by assumption) | exact nq_ga (by assumption)))) rfl (j := h + 10) (nI_add h 10) (by omega) (by decide) ?_
      rw [m6', hod0]
      refine nq_if_lt (pc' := 179) (tgt := 183) d_Mod_select_176 rfl (by decide) (fun _ => ?_) (fun h => absurd (show rd_od 0 < 0 by decide) h)
      refine nq_iload_n (pc' := 184) d_Mod_select_183 rfl rfl rfl ?_
      refine nq_bipush (v := 83) (pc' := 186) d_Mod_select_184 rfl (by decide) ?_
      refine nq_icmp_eq (pc' := 189) (tgt := 195) d_Mod_select_186 rfl (by decide) (fun h => absurd h (kk 83 (by omega) (by omega))) (fun _ => ?_)
      refine nq_iload_n (pc' := 190) d_Mod_select_189 rfl rfl rfl ?_
      refine nq_bipush (v := 80) (pc' := 192) d_Mod_select_190 rfl (by decide) ?_
      refine nq_icmp_ne (pc' := 195) (tgt := 200) d_Mod_select_192 rfl (by decide) (fun _ => ?_) (fun h => absurd h (kk 80 (by omega) (by omega)))
      refine nq_aload_n (pc' := 201) d_Mod_select_200 rfl rfl rfl ?_
      refine nq_getf (pc' := 204) d_Mod_select_201 rfl fl_Mod_13 (by first | assumption | exact nq_ga (by assumption) | exact nq_gs (by first | assumption | exact nq_ga (by assumption) | exact nq_gs (by first | assumption | exact nq_gs (by assumption) | exact nq_gn (by first | assumption | decide | omega | exact nq_ne1 (by assumption) (by assumption) | exact nq_ne2 (by assumption) (by assumption)) (by assumption) | exact nq_ga (by assumption)) | exact nq_gn (by first | assumption | decide | omega | exact nq_ne1 (by assumption) (by assumption) | exact nq_ne2 (by assumption) (by assumption)) (by first | assumption | exact nq_gs (by assumption) | exact nq_gn (by first | assumption | decide | omega | exact nq_ne1 (by assumption) (by assumption) | exact nq_ne2 (by assumption) (by assumption)) (by assumption) | exact nq_ga (by assumption))) | exact nq_gn (by first | assumption | decide | omega | exact nq_ne1 (by assumption) (by assumption) | exact nq_ne2 (by assumption) (by assumption)) (by first | assumption | exact nq_ga (by assumption) | exact nq_gs (by first | assumption | exact nq_gs (by assumption) | exact nq_gn (by first | assumption | decide | omega | exact nq_ne1 (by assumption) (by assumption) | exact nq_ne2 (by assumption) (by assumption)) (by assumption) | exact nq_ga (by assumption)) | exact nq_gn (by first | assumption | decide | omega | exact nq_ne1 (by assumption) (by assumption) | exact nq_ne2 (by assumption) (by assumption)) (by first | assumption | exact nq_gs (by assumption) | exact nq_gn (by first | assumption | decide | omega | exact nq_ne1 (by assumption) (by assumption) | exact nq_ne2 (by assumption) (by assumption)) (by assumption) | exact nq_ga (by assumption)))) rfl ?_
      refine nq_iload_n (pc' := 205) d_Mod_select_204 rfl rfl rfl ?_
      refine nq_bipush (v := 9) (pc' := 207) d_Mod_select_205 rfl (by decide) ?_
      refine nq_iadd (pc' := 208) d_Mod_select_207 rfl ?_
      refine nq_iald (pc' := 209) d_Mod_select_208 rfl (by first | assumption | exact nq_ga (by assumption) | exact nq_gs (by first | assumption | exact nq_ga (by assumption) | exact nq_gs (by first | assumption | exact nq_gs (by assumption) | exact nq_gn (by first | assumption | decide | omega | exact nq_ne1 (by assumption) (by assumption) | exact nq_ne2 (by assumption) (by assumption)) (by assumption) | exact nq_ga (by assumption)) | exact nq_gn (by first | assumption | decide | omega | exact nq_ne1 (by assumption) (by assumption) | exact nq_ne2 (by assumption) (by assumption)) (by first | assumption | exact nq_gs (by assumption) | exact nq_gn (by first | assumption | decide | omega | exact nq_ne1 (by assumption) (by assumption) | exact nq_ne2 (by assumption) (by assumption)) (by assumption) | exact nq_ga (by assumption))) | exact nq_gn (by first | assumption | decide | omega | exact nq_ne1 (by assumption) (by assumption) | exact nq_ne2 (by assumption) (by assumption)) (by first | assumption | exact nq_ga (by assumption) | exact nq_gs (by first | assumption | exact nq_gs (by assumption) | exact nq_gn (by first | assumption | decide | omega | exact nq_ne1 (by assumption) (by assumption) | exact nq_ne2 (by assumption) (by assumption)) (by assumption) | exact nq_ga (by assumption)) | exact nq_gn (by first | assumption | decide | omega | exact nq_ne1 (by assumption) (by assumption) | exact nq_ne2 (by assumption) (by assumption)) (by first | assumption | exact nq_gs (by assumption) | exact nq_gn (by first | assumption | decide | omega | exact nq_ne1 (by assumption) (by assumption) | exact nq_ne2 (by assumption) (by assumption)) (by assumption) | exact nq_ga (by assumption)))) rfl (j := h + 9) (nI_add h 9) (by omega) (by decide) ?_
      rw [m4']
      refine nq_istore (pc' := 211) d_Mod_select_209 rfl (by decide) rfl ?_
      refine nq_iload (pc' := 213) d_Mod_select_211 rfl rfl ?_
      refine nq_bipush (v := 62) (pc' := 215) d_Mod_select_213 rfl (by decide) ?_
      have lv : ∀ x, (∀ y : Int32, sx_agg s.2.2.2.2.1 xs = some y → x = y) → sx_agg s.2.2.2.2.1 xs ≠ none → nq_J G (d + 1) 0 0 m_Mod_select 261 [some (.ref 270), some (.int (nI h)), some (.int (nI s.1)), some (.int (nI s.2.1)), some (.int (ar 1 (h + 2))), some (.int (if two then 1 else 0)), some (.int (nI s.2.2.2.2.1)), l7] [.int x, .int 0, .ref 283] σ2 (xm_Q σ v ar tb (match sx_agg s.2.2.2.2.1 xs with
          | none => .inl nq_NE
          | some v => .inr (1, tb, [(0, [v])], 1))) := by
        intro x hx hn
        have c12 := W2.2.2.2.2.2.2.2.2.2.2.2.2.2.1
        refine nq_iast (pc' := 262) d_Mod_select_261 rfl (by first | assumption | exact nq_ga (by assumption) | exact nq_gs (by first | assumption | exact nq_ga (by assumption) | exact nq_gs (by first | assumption | exact nq_gs (by assumption) | exact nq_gn (by first | assumption | decide | omega | exact nq_ne1 (by assumption) (by assumption) | exact nq_ne2 (by assumption) (by assumption)) (by assumption) | exact nq_ga (by assumption)) | exact nq_gn (by first | assumption | decide | omega | exact nq_ne1 (by assumption) (by assumption) | exact nq_ne2 (by assumption) (by assumption)) (by first | assumption | exact nq_gs (by assumption) | exact nq_gn (by first | assumption | decide | omega | exact nq_ne1 (by assumption) (by assumption) | exact nq_ne2 (by assumption) (by assumption)) (by assumption) | exact nq_ga (by assumption))) | exact nq_gn (by first | assumption | decide | omega | exact nq_ne1 (by assumption) (by assumption) | exact nq_ne2 (by assumption) (by assumption)) (by first | assumption | exact nq_ga (by assumption) | exact nq_gs (by first | assumption | exact nq_gs (by assumption) | exact nq_gn (by first | assumption | decide | omega | exact nq_ne1 (by assumption) (by assumption) | exact nq_ne2 (by assumption) (by assumption)) (by assumption) | exact nq_ga (by assumption)) | exact nq_gn (by first | assumption | decide | omega | exact nq_ne1 (by assumption) (by assumption) | exact nq_ne2 (by assumption) (by assumption)) (by first | assumption | exact nq_gs (by assumption) | exact nq_gn (by first | assumption | decide | omega | exact nq_ne1 (by assumption) (by assumption) | exact nq_ne2 (by assumption) (by assumption)) (by assumption) | exact nq_ga (by assumption)))) rfl (j := 0) rfl (by omega) (by decide) ?_
        have W3 := W2.a12 (f := upd (ar1 12) 0 x)
        have w3 := W3.1
        refine nq_aload_n (pc' := 263) d_Mod_select_262 rfl rfl rfl ?_
        refine nq_iconst (v := 1) (pc' := 264) d_Mod_select_263 rfl (by decide) ?_
        refine nq_putf (pc' := 267) d_Mod_select_264 rfl fl_Mod_167 (by first | assumption | exact nq_ga (by assumption) | exact nq_gs (by first | assumption | exact nq_ga (by assumption) | exact nq_gs (by first | assumption | exact nq_gs (by assumption) | exact nq_gn (by first | assumption | decide | omega | exact nq_ne1 (by assumption) (by assumption) | exact nq_ne2 (by assumption) (by assumption)) (by assumption) | exact nq_ga (by assumption)) | exact nq_gn (by first | assumption | decide | omega | exact nq_ne1 (by assumption) (by assumption) | exact nq_ne2 (by assumption) (by assumption)) (by first | assumption | exact nq_gs (by assumption) | exact nq_gn (by first | assumption | decide | omega | exact nq_ne1 (by assumption) (by assumption) | exact nq_ne2 (by assumption) (by assumption)) (by assumption) | exact nq_ga (by assumption))) | exact nq_gn (by first | assumption | decide | omega | exact nq_ne1 (by assumption) (by assumption) | exact nq_ne2 (by assumption) (by assumption)) (by first | assumption | exact nq_ga (by assumption) | exact nq_gs (by first | assumption | exact nq_gs (by assumption) | exact nq_gn (by first | assumption | decide | omega | exact nq_ne1 (by assumption) (by assumption) | exact nq_ne2 (by assumption) (by assumption)) (by assumption) | exact nq_ga (by assumption)) | exact nq_gn (by first | assumption | decide | omega | exact nq_ne1 (by assumption) (by assumption) | exact nq_ne2 (by assumption) (by assumption)) (by first | assumption | exact nq_gs (by assumption) | exact nq_gn (by first | assumption | decide | omega | exact nq_ne1 (by assumption) (by assumption) | exact nq_ne2 (by assumption) (by assumption)) (by assumption) | exact nq_ga (by assumption)))) (Nat.le_of_ble_eq_true rfl) rfl rfl ?_
        refine nq_iconst (v := 1) (pc' := 268) d_Mod_select_267 rfl (by decide) ?_
        refine nq_iret d_Mod_select_268 rfl rfl ?_
        cases hg : sx_agg s.2.2.2.2.1 xs with
        | none => exact absurd hg hn
        | some y =>
          have W4 := W3.fi (v' := upd v2 13 1)
          refine ⟨((F58.tr F2).tr ((mo_fr.st (by decide)).tr (mo_fr.st (by decide)))).g, upd v2 13 1, _, 1, W4, K2.tr ((mx_k.a (by decide)).tr (mx_k.u (by decide))), rfl, rfl, ?_, ?_, upd_at, ?_, ?_⟩
          · rw [upd_ne (by decide), q 7 (by decide)]
            exact h71
          · exact T1
          · rw [upd_ne (by decide)]
            exact q14
          · rw [ua_at]
            intro i e he j z hz
            cases i with
            | succ i => cases he
            | zero =>
              cases he
              cases j with
              | succ j => cases hz
              | zero =>
                cases hz
                rw [upd_at]
                exact hx y hg
      have at238 : sx_agg s.2.2.2.2.1 xs ≠ none → nq_J G (d + 1) 0 0 m_Mod_select 238 [some (.ref 270), some (.int (nI h)), some (.int (nI s.1)), some (.int (nI s.2.1)), some (.int (ar 1 (h + 2))), some (.int (if two then 1 else 0)), some (.int (nI s.2.2.2.2.1)), l7] [] σ2 (xm_Q σ v ar tb (match sx_agg s.2.2.2.2.1 xs with
          | none => .inl nq_NE
          | some v => .inr (1, tb, [(0, [v])], 1))) := by
        intro hn
        refine nq_aload_n (pc' := 239) d_Mod_select_238 rfl rfl rfl ?_
        refine nq_getf (pc' := 242) d_Mod_select_239 rfl fl_Mod_51 (by first | assumption | exact nq_ga (by assumption) | exact nq_gs (by first | assumption | exact nq_ga (by assumption) | exact nq_gs (by first | assumption | exact nq_gs (by assumption) | exact nq_gn (by first | assumption | decide | omega | exact nq_ne1 (by assumption) (by assumption) | exact nq_ne2 (by assumption) (by assumption)) (by assumption) | exact nq_ga (by assumption)) | exact nq_gn (by first | assumption | decide | omega | exact nq_ne1 (by assumption) (by assumption) | exact nq_ne2 (by assumption) (by assumption)) (by first | assumption | exact nq_gs (by assumption) | exact nq_gn (by first | assumption | decide | omega | exact nq_ne1 (by assumption) (by assumption) | exact nq_ne2 (by assumption) (by assumption)) (by assumption) | exact nq_ga (by assumption))) | exact nq_gn (by first | assumption | decide | omega | exact nq_ne1 (by assumption) (by assumption) | exact nq_ne2 (by assumption) (by assumption)) (by first | assumption | exact nq_ga (by assumption) | exact nq_gs (by first | assumption | exact nq_gs (by assumption) | exact nq_gn (by first | assumption | decide | omega | exact nq_ne1 (by assumption) (by assumption) | exact nq_ne2 (by assumption) (by assumption)) (by assumption) | exact nq_ga (by assumption)) | exact nq_gn (by first | assumption | decide | omega | exact nq_ne1 (by assumption) (by assumption) | exact nq_ne2 (by assumption) (by assumption)) (by first | assumption | exact nq_gs (by assumption) | exact nq_gn (by first | assumption | decide | omega | exact nq_ne1 (by assumption) (by assumption) | exact nq_ne2 (by assumption) (by assumption)) (by assumption) | exact nq_ga (by assumption)))) rfl ?_
        refine nq_iconst (v := 0) (pc' := 243) d_Mod_select_242 rfl (by decide) ?_
        refine nq_iload (pc' := 245) d_Mod_select_243 rfl rfl ?_
        refine nq_bipush (v := 35) (pc' := 247) d_Mod_select_245 rfl (by decide) ?_
        by_cases k35 : s.2.2.2.2.1 = 35
        · refine nq_icmp_ne (pc' := 250) (tgt := 257) d_Mod_select_247 rfl (by decide) (fun h => absurd (by rw [k35]; rfl) h) (fun _ => ?_)
          refine nq_aload_n (pc' := 251) d_Mod_select_250 rfl rfl rfl ?_
          refine nq_getf (pc' := 254) d_Mod_select_251 rfl fl_Mod_164 (by first | assumption | exact nq_ga (by assumption) | exact nq_gs (by first | assumption | exact nq_ga (by assumption) | exact nq_gs (by first | assumption | exact nq_gs (by assumption) | exact nq_gn (by first | assumption | decide | omega | exact nq_ne1 (by assumption) (by assumption) | exact nq_ne2 (by assumption) (by assumption)) (by assumption) | exact nq_ga (by assumption)) | exact nq_gn (by first | assumption | decide | omega | exact nq_ne1 (by assumption) (by assumption) | exact nq_ne2 (by assumption) (by assumption)) (by first | assumption | exact nq_gs (by assumption) | exact nq_gn (by first | assumption | decide | omega | exact nq_ne1 (by assumption) (by assumption) | exact nq_ne2 (by assumption) (by assumption)) (by assumption) | exact nq_ga (by assumption))) | exact nq_gn (by first | assumption | decide | omega | exact nq_ne1 (by assumption) (by assumption) | exact nq_ne2 (by assumption) (by assumption)) (by first | assumption | exact nq_ga (by assumption) | exact nq_gs (by first | assumption | exact nq_gs (by assumption) | exact nq_gn (by first | assumption | decide | omega | exact nq_ne1 (by assumption) (by assumption) | exact nq_ne2 (by assumption) (by assumption)) (by assumption) | exact nq_ga (by assumption)) | exact nq_gn (by first | assumption | decide | omega | exact nq_ne1 (by assumption) (by assumption) | exact nq_ne2 (by assumption) (by assumption)) (by first | assumption | exact nq_gs (by assumption) | exact nq_gn (by first | assumption | decide | omega | exact nq_ne1 (by assumption) (by assumption) | exact nq_ne2 (by assumption) (by assumption)) (by assumption) | exact nq_ga (by assumption)))) rfl ?_
          refine nq_goto (tgt := 261) d_Mod_select_254 (by decide) ?_
          rw [x11]
          refine lv _ (fun y hy => ?_) hn
          unfold sx_agg at hy
          rw [if_neg (by omega), if_pos k35] at hy
          cases hy
          rfl
        refine nq_icmp_ne (pc' := 250) (tgt := 257) d_Mod_select_247 rfl (by decide) (fun _ => ?_) (fun h => absurd h (kf 35 (by omega) k35))
        refine nq_aload_n (pc' := 258) d_Mod_select_257 rfl rfl rfl ?_
        refine nq_getf (pc' := 261) d_Mod_select_258 rfl fl_Mod_161 (by first | assumption | exact nq_ga (by assumption) | exact nq_gs (by first | assumption | exact nq_ga (by assumption) | exact nq_gs (by first | assumption | exact nq_gs (by assumption) | exact nq_gn (by first | assumption | decide | omega | exact nq_ne1 (by assumption) (by assumption) | exact nq_ne2 (by assumption) (by assumption)) (by assumption) | exact nq_ga (by assumption)) | exact nq_gn (by first | assumption | decide | omega | exact nq_ne1 (by assumption) (by assumption) | exact nq_ne2 (by assumption) (by assumption)) (by first | assumption | exact nq_gs (by assumption) | exact nq_gn (by first | assumption | decide | omega | exact nq_ne1 (by assumption) (by assumption) | exact nq_ne2 (by assumption) (by assumption)) (by assumption) | exact nq_ga (by assumption))) | exact nq_gn (by first | assumption | decide | omega | exact nq_ne1 (by assumption) (by assumption) | exact nq_ne2 (by assumption) (by assumption)) (by first | assumption | exact nq_ga (by assumption) | exact nq_gs (by first | assumption | exact nq_gs (by assumption) | exact nq_gn (by first | assumption | decide | omega | exact nq_ne1 (by assumption) (by assumption) | exact nq_ne2 (by assumption) (by assumption)) (by assumption) | exact nq_ga (by assumption)) | exact nq_gn (by first | assumption | decide | omega | exact nq_ne1 (by assumption) (by assumption) | exact nq_ne2 (by assumption) (by assumption)) (by first | assumption | exact nq_gs (by assumption) | exact nq_gn (by first | assumption | decide | omega | exact nq_ne1 (by assumption) (by assumption) | exact nq_ne2 (by assumption) (by assumption)) (by assumption) | exact nq_ga (by assumption)))) rfl ?_
        rw [x16]
        refine lv _ (fun y hy => ?_) hn
        unfold sx_agg at hy
        by_cases k43 : s.2.2.2.2.1 = 43
        · rw [if_pos k43] at hy
          cases hy
          exact y3 k43
        rw [if_neg k43, if_neg k35] at hy
        cases hxs : xs with
        | nil => rw [hxs] at hy; cases hy
        | cons x r =>
          rw [hxs] at hy
          by_cases k62 : s.2.2.2.2.1 = 62
          · simp only [if_pos k62] at hy
            cases hy
            exact y4 k62 x r hxs
          · simp only [if_neg k62] at hy
            cases hy
            exact y5 (by omega) x r hxs
      have at225 : s.2.2.2.2.1 = 62 ∨ s.2.2.2.2.1 = 60 → nq_J G (d + 1) 0 0 m_Mod_select 225 [some (.ref 270), some (.int (nI h)), some (.int (nI s.1)), some (.int (nI s.2.1)), some (.int (ar 1 (h + 2))), some (.int (if two then 1 else 0)), some (.int (nI s.2.2.2.2.1)), l7] [] σ2 (xm_Q σ v ar tb (match sx_agg s.2.2.2.2.1 xs with
          | none => .inl nq_NE
          | some v => .inr (1, tb, [(0, [v])], 1))) := by
        intro h6
        refine nq_aload_n (pc' := 226) d_Mod_select_225 rfl rfl rfl ?_
        refine nq_getf (pc' := 229) d_Mod_select_226 rfl fl_Mod_164 (by first | assumption | exact nq_ga (by assumption) | exact nq_gs (by first | assumption | exact nq_ga (by assumption) | exact nq_gs (by first | assumption | exact nq_gs (by assumption) | exact nq_gn (by first | assumption | decide | omega | exact nq_ne1 (by assumption) (by assumption) | exact nq_ne2 (by assumption) (by assumption)) (by assumption) | exact nq_ga (by assumption)) | exact nq_gn (by first | assumption | decide | omega | exact nq_ne1 (by assumption) (by assumption) | exact nq_ne2 (by assumption) (by assumption)) (by first | assumption | exact nq_gs (by assumption) | exact nq_gn (by first | assumption | decide | omega | exact nq_ne1 (by assumption) (by assumption) | exact nq_ne2 (by assumption) (by assumption)) (by assumption) | exact nq_ga (by assumption))) | exact nq_gn (by first | assumption | decide | omega | exact nq_ne1 (by assumption) (by assumption) | exact nq_ne2 (by assumption) (by assumption)) (by first | assumption | exact nq_ga (by assumption) | exact nq_gs (by first | assumption | exact nq_gs (by assumption) | exact nq_gn (by first | assumption | decide | omega | exact nq_ne1 (by assumption) (by assumption) | exact nq_ne2 (by assumption) (by assumption)) (by assumption) | exact nq_ga (by assumption)) | exact nq_gn (by first | assumption | decide | omega | exact nq_ne1 (by assumption) (by assumption) | exact nq_ne2 (by assumption) (by assumption)) (by first | assumption | exact nq_gs (by assumption) | exact nq_gn (by first | assumption | decide | omega | exact nq_ne1 (by assumption) (by assumption) | exact nq_ne2 (by assumption) (by assumption)) (by assumption) | exact nq_ga (by assumption)))) rfl ?_
        rw [x11]
        cases hxs : xs with
        | nil =>
          have hg : sx_agg s.2.2.2.2.1 [] = none := by
            unfold sx_agg
            rw [if_neg (by omega), if_neg (by omega)]
          refine nq_if_ne (pc' := 232) (tgt := 238) d_Mod_select_229 rfl (by decide) (fun h => absurd rfl h) (fun _ => ?_)
          refine nq_aload_n (pc' := 233) d_Mod_select_232 rfl rfl rfl ?_
          refine nq_iconst (v := 2) (pc' := 234) d_Mod_select_233 rfl (by decide) ?_
          refine nq_callVR (pc' := 237) d_Mod_select_234 rfl cl_Mod_77 rfl (by first | assumption | exact nq_ga (by assumption) | exact nq_gs (by first | assumption | exact nq_ga (by assumption) | exact nq_gs (by first | assumption | exact nq_gs (by assumption) | exact nq_gn (by first | assumption | decide | omega | exact nq_ne1 (by assumption) (by assumption) | exact nq_ne2 (by assumption) (by assumption)) (by assumption) | exact nq_ga (by assumption)) | exact nq_gn (by first | assumption | decide | omega | exact nq_ne1 (by assumption) (by assumption) | exact nq_ne2 (by assumption) (by assumption)) (by first | assumption | exact nq_gs (by assumption) | exact nq_gn (by first | assumption | decide | omega | exact nq_ne1 (by assumption) (by assumption) | exact nq_ne2 (by assumption) (by assumption)) (by assumption) | exact nq_ga (by assumption))) | exact nq_gn (by first | assumption | decide | omega | exact nq_ne1 (by assumption) (by assumption) | exact nq_ne2 (by assumption) (by assumption)) (by first | assumption | exact nq_ga (by assumption) | exact nq_gs (by first | assumption | exact nq_gs (by assumption) | exact nq_gn (by first | assumption | decide | omega | exact nq_ne1 (by assumption) (by assumption) | exact nq_ne2 (by assumption) (by assumption)) (by assumption) | exact nq_ga (by assumption)) | exact nq_gn (by first | assumption | decide | omega | exact nq_ne1 (by assumption) (by assumption) | exact nq_ne2 (by assumption) (by assumption)) (by first | assumption | exact nq_gs (by assumption) | exact nq_gn (by first | assumption | decide | omega | exact nq_ne1 (by assumption) (by assumption) | exact nq_ne2 (by assumption) (by assumption)) (by assumption) | exact nq_ga (by assumption)))) rfl rfl (kc := 0) (ks := 0) (mc' := 0) (ms' := 0) (As := [.int 2]) (rest := []) rfl rfl (by decide) (k_Mod_fail W2) ?_
          refine nq_iret d_Mod_select_237 rfl rfl ?_
          rw [hg]
          exact ⟨((F58.tr F2).tr (mo_fr.st (by decide))).g, upd v2 7 2, ar1, 0, W2.fi, K2.tr (mx_k.u (by decide)), rfl, upd_at, T1⟩
        | cons x r =>
          have hxl : (x :: r).length ≤ 400 ∧ 1 ≤ (x :: r).length := by
            rw [← hxs]
            exact ⟨y2, by rw [hxs, List.length_cons]; omega⟩
          have hn : sx_agg s.2.2.2.2.1 (x :: r) ≠ none := by
            unfold sx_agg
            rw [if_neg (by omega), if_neg (by omega)]
            exact fun h => (by cases h)
          refine nq_if_ne (pc' := 232) (tgt := 238) d_Mod_select_229 rfl (by decide) (fun _ => ?_) (fun h => absurd (nI_inj (b := 0) (by omega) (by omega) h) (by omega))
          have := at238 (by rw [hxs]; exact hn)
          rw [hxs] at this
          exact this
      by_cases k62 : s.2.2.2.2.1 = 62
      · refine nq_icmp_eq (pc' := 218) (tgt := 225) d_Mod_select_215 rfl (by decide) (fun _ => at225 (.inl k62)) (fun h => absurd (by rw [k62]; rfl) h)
      refine nq_icmp_eq (pc' := 218) (tgt := 225) d_Mod_select_215 rfl (by decide) (fun h => absurd h (kf 62 (by omega) k62)) (fun _ => ?_)
      refine nq_iload (pc' := 220) d_Mod_select_218 rfl rfl ?_
      refine nq_bipush (v := 60) (pc' := 222) d_Mod_select_220 rfl (by decide) ?_
      by_cases k60 : s.2.2.2.2.1 = 60
      · refine nq_icmp_ne (pc' := 225) (tgt := 238) d_Mod_select_222 rfl (by decide) (fun h => absurd (by rw [k60]; rfl) h) (fun _ => at225 (.inr k60))
      refine nq_icmp_ne (pc' := 225) (tgt := 238) d_Mod_select_222 rfl (by decide) (fun _ => ?_) (fun h => absurd h (kf 60 (by omega) k60))
      refine at238 ?_
      unfold sx_agg
      by_cases k43 : s.2.2.2.2.1 = 43
      · rw [if_pos k43]
        exact fun h => (by cases h)
      · rw [if_neg k43, if_pos (by omega)]
        exact fun h => (by cases h)
  rw [if_neg kag, sx_sel_fold, ← e15]
  have hk2 : s.1 = 83 ∨ s.1 = 80 := by omega
  refine mz_loops (α := List sx_E) (ST := sl_S2 s.2.2.2.2.2.2) (st := sl_st s.2.2.2.1 s.2.2.2.2.2.1 s.2.2.2.2.2.2) (sz := fun _ => 0) (Q := fun r => xm_Q σ v ar tb (match r with
      | .inl e => .inl e
      | .inr cl => .inr (nI cl.length, tb, cl.foldl sx_add [], s.2.2.2.1.length))) htw (by omega) hok hh hT huv e7 (by omega) ?_ rfl (fun v ar a f h => h) (fun ρ a a' h => Nat.zero_le _) ?_ ?_ hthr W58
  · exact ⟨⟨e13, Nat.zero_le _, fun i x h => (by cases h), fun x h => (by cases h), fun _ i x h => (by cases h)⟩, fun _ x h => (by cases h)⟩
  · intro σ1 v1 ar1 ρ a W1 K1 h71 E1 S1 z1
    refine nq_JM.mono (k_Mod_collectS W1 (by rw [K1.2 1 (by decide) (by decide) (by decide) (by decide)]; exact hM0) hk2 hh h71 E1 S1.1 (by omega)) (fun o σ2 hq => ?_)
    obtain ⟨q1, q2, v3, ar3, q3, q4, q5⟩ := hq
    refine ⟨q1, q2, v3, ar3, q3, q4, ?_⟩
    cases hx : sl_st s.2.2.2.1 s.2.2.2.2.2.1 s.2.2.2.2.2.2 ρ a with
    | inl e => rw [hx] at q5; exact q5
    | inr a' =>
      rw [hx] at q5
      exact ⟨q5.1, q5.2, fun h0 => by rw [h0] at hx; exact sl_st_0 hx (S1.2 h0)⟩
  intro σ1 v1 ar1 cl l6 l7 F1 W1 K1 h71 S1
  obtain ⟨⟨y1, y2, y3, y4, y5⟩, y6⟩ := S1
  have w1 := W1.1
  have A1 : ar1 1 = ar 1 := K1.2 1 (by decide) (by decide) (by decide) (by decide)
  have c1 : σ1[272]? = some (.inl (0, 2000, .inl (ar 1))) := by rw [← A1]; exact W1.2.2.1
  have T1 : mo_tb (ar1 2) (ar1 3) tb := by
    rw [K1.2 2 (by decide) (by decide) (by decide) (by decide), K1.2 3 (by decide) (by decide) (by decide) (by decide)]
    exact hT
  simp only
  refine nq_aload_n (pc' := 147) d_Mod_select_146 rfl rfl rfl ?_
  refine nq_getf (pc' := 150) d_Mod_select_147 rfl fl_Mod_63 (by first | assumption | exact nq_ga (by assumption) | exact nq_gs (by first | assumption | exact nq_ga (by assumption) | exact nq_gs (by first | assumption | exact nq_gs (by assumption) | exact nq_gn (by first | assumption | decide | omega | exact nq_ne1 (by assumption) (by assumption) | exact nq_ne2 (by assumption) (by assumption)) (by assumption) | exact nq_ga (by assumption)) | exact nq_gn (by first | assumption | decide | omega | exact nq_ne1 (by assumption) (by assumption) | exact nq_ne2 (by assumption) (by assumption)) (by first | assumption | exact nq_gs (by assumption) | exact nq_gn (by first | assumption | decide | omega | exact nq_ne1 (by assumption) (by assumption) | exact nq_ne2 (by assumption) (by assumption)) (by assumption) | exact nq_ga (by assumption))) | exact nq_gn (by first | assumption | decide | omega | exact nq_ne1 (by assumption) (by assumption) | exact nq_ne2 (by assumption) (by assumption)) (by first | assumption | exact nq_ga (by assumption) | exact nq_gs (by first | assumption | exact nq_gs (by assumption) | exact nq_gn (by first | assumption | decide | omega | exact nq_ne1 (by assumption) (by assumption) | exact nq_ne2 (by assumption) (by assumption)) (by assumption) | exact nq_ga (by assumption)) | exact nq_gn (by first | assumption | decide | omega | exact nq_ne1 (by assumption) (by assumption) | exact nq_ne2 (by assumption) (by assumption)) (by first | assumption | exact nq_gs (by assumption) | exact nq_gn (by first | assumption | decide | omega | exact nq_ne1 (by assumption) (by assumption) | exact nq_ne2 (by assumption) (by assumption)) (by assumption) | exact nq_ga (by assumption)))) rfl ?_
  rw [h71]
  refine nq_if_le (pc' := 153) (tgt := 155) d_Mod_select_150 rfl (by decide) (fun _ => ?_) (fun h => absurd (show (0 : Int32) ≤ 0 by decide) h)
  refine nq_aload_n (pc' := 156) d_Mod_select_155 rfl rfl rfl ?_
  refine nq_aload_n (pc' := 157) d_Mod_select_156 rfl rfl rfl ?_
  refine nq_getf (pc' := 160) d_Mod_select_157 rfl fl_Mod_13 (by first | assumption | exact nq_ga (by assumption) | exact nq_gs (by first | assumption | exact nq_ga (by assumption) | exact nq_gs (by first | assumption | exact nq_gs (by assumption) | exact nq_gn (by first | assumption | decide | omega | exact nq_ne1 (by assumption) (by assumption) | exact nq_ne2 (by assumption) (by assumption)) (by assumption) | exact nq_ga (by assumption)) | exact nq_gn (by first | assumption | decide | omega | exact nq_ne1 (by assumption) (by assumption) | exact nq_ne2 (by assumption) (by assumption)) (by first | assumption | exact nq_gs (by assumption) | exact nq_gn (by first | assumption | decide | omega | exact nq_ne1 (by assumption) (by assumption) | exact nq_ne2 (by assumption) (by assumption)) (by assumption) | exact nq_ga (by assumption))) | exact nq_gn (by first | assumption | decide | omega | exact nq_ne1 (by assumption) (by assumption) | exact nq_ne2 (by assumption) (by assumption)) (by first | assumption | exact nq_ga (by assumption) | exact nq_gs (by first | assumption | exact nq_gs (by assumption) | exact nq_gn (by first | assumption | decide | omega | exact nq_ne1 (by assumption) (by assumption) | exact nq_ne2 (by assumption) (by assumption)) (by assumption) | exact nq_ga (by assumption)) | exact nq_gn (by first | assumption | decide | omega | exact nq_ne1 (by assumption) (by assumption) | exact nq_ne2 (by assumption) (by assumption)) (by first | assumption | exact nq_gs (by assumption) | exact nq_gn (by first | assumption | decide | omega | exact nq_ne1 (by assumption) (by assumption) | exact nq_ne2 (by assumption) (by assumption)) (by assumption) | exact nq_ga (by assumption)))) rfl ?_
  refine nq_iload_n (pc' := 161) d_Mod_select_160 rfl rfl rfl ?_
  refine nq_iconst (v := 3) (pc' := 162) d_Mod_select_161 rfl (by decide) ?_
  refine nq_iadd (pc' := 163) d_Mod_select_162 rfl ?_
  refine nq_iald (pc' := 164) d_Mod_select_163 rfl (by first | assumption | exact nq_ga (by assumption) | exact nq_gs (by first | assumption | exact nq_ga (by assumption) | exact nq_gs (by first | assumption | exact nq_gs (by assumption) | exact nq_gn (by first | assumption | decide | omega | exact nq_ne1 (by assumption) (by assumption) | exact nq_ne2 (by assumption) (by assumption)) (by assumption) | exact nq_ga (by assumption)) | exact nq_gn (by first | assumption | decide | omega | exact nq_ne1 (by assumption) (by assumption) | exact nq_ne2 (by assumption) (by assumption)) (by first | assumption | exact nq_gs (by assumption) | exact nq_gn (by first | assumption | decide | omega | exact nq_ne1 (by assumption) (by assumption) | exact nq_ne2 (by assumption) (by assumption)) (by assumption) | exact nq_ga (by assumption))) | exact nq_gn (by first | assumption | decide | omega | exact nq_ne1 (by assumption) (by assumption) | exact nq_ne2 (by assumption) (by assumption)) (by first | assumption | exact nq_ga (by assumption) | exact nq_gs (by first | assumption | exact nq_gs (by assumption) | exact nq_gn (by first | assumption | decide | omega | exact nq_ne1 (by assumption) (by assumption) | exact nq_ne2 (by assumption) (by assumption)) (by assumption) | exact nq_ga (by assumption)) | exact nq_gn (by first | assumption | decide | omega | exact nq_ne1 (by assumption) (by assumption) | exact nq_ne2 (by assumption) (by assumption)) (by first | assumption | exact nq_gs (by assumption) | exact nq_gn (by first | assumption | decide | omega | exact nq_ne1 (by assumption) (by assumption) | exact nq_ne2 (by assumption) (by assumption)) (by assumption) | exact nq_ga (by assumption)))) rfl (j := h + 3) (nI_add h 3) (by omega) (by decide) ?_
  rw [m3']
  refine nq_putf (pc' := 167) d_Mod_select_164 rfl fl_Mod_177 (by first | assumption | exact nq_ga (by assumption) | exact nq_gs (by first | assumption | exact nq_ga (by assumption) | exact nq_gs (by first | assumption | exact nq_gs (by assumption) | exact nq_gn (by first | assumption | decide | omega | exact nq_ne1 (by assumption) (by assumption) | exact nq_ne2 (by assumption) (by assumption)) (by assumption) | exact nq_ga (by assumption)) | exact nq_gn (by first | assumption | decide | omega | exact nq_ne1 (by assumption) (by assumption) | exact nq_ne2 (by assumption) (by assumption)) (by first | assumption | exact nq_gs (by assumption) | exact nq_gn (by first | assumption | decide | omega | exact nq_ne1 (by assumption) (by assumption) | exact nq_ne2 (by assumption) (by assumption)) (by assumption) | exact nq_ga (by assumption))) | exact nq_gn (by first | assumption | decide | omega | exact nq_ne1 (by assumption) (by assumption) | exact nq_ne2 (by assumption) (by assumption)) (by first | assumption | exact nq_ga (by assumption) | exact nq_gs (by first | assumption | exact nq_gs (by assumption) | exact nq_gn (by first | assumption | decide | omega | exact nq_ne1 (by assumption) (by assumption) | exact nq_ne2 (by assumption) (by assumption)) (by assumption) | exact nq_ga (by assumption)) | exact nq_gn (by first | assumption | decide | omega | exact nq_ne1 (by assumption) (by assumption) | exact nq_ne2 (by assumption) (by assumption)) (by first | assumption | exact nq_gs (by assumption) | exact nq_gn (by first | assumption | decide | omega | exact nq_ne1 (by assumption) (by assumption) | exact nq_ne2 (by assumption) (by assumption)) (by assumption) | exact nq_ga (by assumption)))) (Nat.le_of_ble_eq_true rfl) rfl rfl ?_
  have W2 : mo_W (σ1.set 270 (mo_F (upd v1 14 (nI s.2.2.2.1.length)))) (upd v1 14 (nI s.2.2.2.1.length)) ar1 := W1.fi
  refine nq_J.of_eq (σ' := σ1.set 270 (mo_F (upd v1 14 (nI s.2.2.2.1.length)))) rfl ?_
  generalize hv2 : upd v1 14 (nI s.2.2.2.1.length) = v2 at W2 ⊢
  have F2 : mo_fr σ58 (σ1.set 270 (mo_F v2)) := F1.tr (mo_fr.st (by decide))
  generalize σ1.set 270 (mo_F v2) = σ2 at W2 F2 ⊢
  have K2 : mx_k v ar v2 ar1 := z58.tr (K1.x.tr (by rw [← hv2]; exact mx_k.u (by decide)))
  have q : ∀ k, k ≠ 14 → v2 k = v1 k := fun k hk => by rw [← hv2]; exact upd_ne hk
  have q14 : v2 14 = nI s.2.2.2.1.length := by rw [← hv2]; exact upd_at
  have q13 : v2 13 = nI cl.length := (q 13 (by decide)).trans y1
  have q7 : v2 7 = 0 := (q 7 (by decide)).trans h71
  have w2 := W2.1
  have c2 : σ2[272]? = some (.inl (0, 2000, .inl (ar 1))) := by rw [← A1]; exact W2.2.2.1
  have ret : ∀ (σ3 : nq_S) (ar3 : mo_Ar), mo_fr σ2 σ3 → mo_W σ3 v2 ar3 → mx_k v2 ar1 v2 ar3 → mo_tb (ar3 2) (ar3 3) tb → mo_rs (ar3 12) (cl.foldl sx_add []) → nq_J G (d + 1) 0 0 m_Mod_select 183 [some (.ref 270), some (.int (nI h)), some (.int (nI s.1)), some (.int (nI s.2.1)), some (.int (ar 1 (h + 2))), some (.int (if two then 1 else 0)), l6, l7] [] σ3 (xm_Q σ v ar tb (.inr (nI cl.length, tb, cl.foldl sx_add [], s.2.2.2.1.length))) := by
    intro σ3 ar3 F3 W3 K3 T3 R3
    have w3 := W3.1
    have fin : nq_J G (d + 1) 0 0 m_Mod_select 195 [some (.ref 270), some (.int (nI h)), some (.int (nI s.1)), some (.int (nI s.2.1)), some (.int (ar 1 (h + 2))), some (.int (if two then 1 else 0)), l6, l7] [] σ3 (xm_Q σ v ar tb (.inr (nI cl.length, tb, cl.foldl sx_add [], s.2.2.2.1.length))) := by
      refine nq_aload_n (pc' := 196) d_Mod_select_195 rfl rfl rfl ?_
      refine nq_getf (pc' := 199) d_Mod_select_196 rfl fl_Mod_167 (by first | assumption | exact nq_ga (by assumption) | exact nq_gs (by first | assumption | exact nq_ga (by assumption) | exact nq_gs (by first | assumption | exact nq_gs (by assumption) | exact nq_gn (by first | assumption | decide | omega | exact nq_ne1 (by assumption) (by assumption) | exact nq_ne2 (by assumption) (by assumption)) (by assumption) | exact nq_ga (by assumption)) | exact nq_gn (by first | assumption | decide | omega | exact nq_ne1 (by assumption) (by assumption) | exact nq_ne2 (by assumption) (by assumption)) (by first | assumption | exact nq_gs (by assumption) | exact nq_gn (by first | assumption | decide | omega | exact nq_ne1 (by assumption) (by assumption) | exact nq_ne2 (by assumption) (by assumption)) (by assumption) | exact nq_ga (by assumption))) | exact nq_gn (by first | assumption | decide | omega | exact nq_ne1 (by assumption) (by assumption) | exact nq_ne2 (by assumption) (by assumption)) (by first | assumption | exact nq_ga (by assumption) | exact nq_gs (by first | assumption | exact nq_gs (by assumption) | exact nq_gn (by first | assumption | decide | omega | exact nq_ne1 (by assumption) (by assumption) | exact nq_ne2 (by assumption) (by assumption)) (by assumption) | exact nq_ga (by assumption)) | exact nq_gn (by first | assumption | decide | omega | exact nq_ne1 (by assumption) (by assumption) | exact nq_ne2 (by assumption) (by assumption)) (by first | assumption | exact nq_gs (by assumption) | exact nq_gn (by first | assumption | decide | omega | exact nq_ne1 (by assumption) (by assumption) | exact nq_ne2 (by assumption) (by assumption)) (by assumption) | exact nq_ga (by assumption)))) rfl ?_
      refine nq_iret d_Mod_select_199 rfl rfl ⟨((F58.tr F2).tr F3).g, v2, ar3, v2 13, W3, K2.tr K3, rfl, q13, q7, T3, by rw [sx_all_len, List.length_nil, Nat.zero_add]; exact q13, q14, R3⟩
    refine nq_iload_n (pc' := 184) d_Mod_select_183 rfl rfl rfl ?_
    refine nq_bipush (v := 83) (pc' := 186) d_Mod_select_184 rfl (by decide) ?_
    by_cases k83 : s.1 = 83
    · refine nq_icmp_eq (pc' := 189) (tgt := 195) d_Mod_select_186 rfl (by decide) (fun _ => fin) (fun h => absurd (by rw [k83]; rfl) h)
    refine nq_icmp_eq (pc' := 189) (tgt := 195) d_Mod_select_186 rfl (by decide) (fun h => absurd h (kk 83 (by omega) k83)) (fun _ => ?_)
    refine nq_iload_n (pc' := 190) d_Mod_select_189 rfl rfl rfl ?_
    refine nq_bipush (v := 80) (pc' := 192) d_Mod_select_190 rfl (by decide) ?_
    refine nq_icmp_ne (pc' := 195) (tgt := 200) d_Mod_select_192 rfl (by decide) (fun h => absurd (by rw [show s.1 = 80 from by omega]; rfl) h) (fun _ => fin)
  refine nq_aload_n (pc' := 168) d_Mod_select_167 rfl rfl rfl ?_
  refine nq_getf (pc' := 171) d_Mod_select_168 rfl fl_Mod_13 (by first | assumption | exact nq_ga (by assumption) | exact nq_gs (by first | assumption | exact nq_ga (by assumption) | exact nq_gs (by first | assumption | exact nq_gs (by assumption) | exact nq_gn (by first | assumption | decide | omega | exact nq_ne1 (by assumption) (by assumption) | exact nq_ne2 (by assumption) (by assumption)) (by assumption) | exact nq_ga (by assumption)) | exact nq_gn (by first | assumption | decide | omega | exact nq_ne1 (by assumption) (by assumption) | exact nq_ne2 (by assumption) (by assumption)) (by first | assumption | exact nq_gs (by assumption) | exact nq_gn (by first | assumption | decide | omega | exact nq_ne1 (by assumption) (by assumption) | exact nq_ne2 (by assumption) (by assumption)) (by assumption) | exact nq_ga (by assumption))) | exact nq_gn (by first | assumption | decide | omega | exact nq_ne1 (by assumption) (by assumption) | exact nq_ne2 (by assumption) (by assumption)) (by first | assumption | exact nq_ga (by assumption) | exact nq_gs (by first | assumption | exact nq_gs (by assumption) | exact nq_gn (by first | assumption | decide | omega | exact nq_ne1 (by assumption) (by assumption) | exact nq_ne2 (by assumption) (by assumption)) (by assumption) | exact nq_ga (by assumption)) | exact nq_gn (by first | assumption | decide | omega | exact nq_ne1 (by assumption) (by assumption) | exact nq_ne2 (by assumption) (by assumption)) (by first | assumption | exact nq_gs (by assumption) | exact nq_gn (by first | assumption | decide | omega | exact nq_ne1 (by assumption) (by assumption) | exact nq_ne2 (by assumption) (by assumption)) (by assumption) | exact nq_ga (by assumption)))) rfl ?_
  refine nq_iload_n (pc' := 172) d_Mod_select_171 rfl rfl rfl ?_
  refine nq_bipush (v := 10) (pc' := 174) d_Mod_select_172 rfl (by decide) ?_
  refine nq_iadd (pc' := 175) d_Mod_select_174 rfl ?_
  refine nq_iald (pc' := 176) d_Mod_select_175 rfl (by first | assumption | exact nq_ga (by assumption) | exact nq_gs (by first | assumption | exact nq_ga (by assumption) | exact nq_gs (by first | assumption | exact nq_gs (by assumption) | exact nq_gn (by first | assumption | decide | omega | exact nq_ne1 (by assumption) (by assumption) | exact nq_ne2 (by assumption) (by assumption)) (by assumption) | exact nq_ga (by assumption)) | exact nq_gn (by first | assumption | decide | omega | exact nq_ne1 (by assumption) (by assumption) | exact nq_ne2 (by assumption) (by assumption)) (by first | assumption | exact nq_gs (by assumption) | exact nq_gn (by first | assumption | decide | omega | exact nq_ne1 (by assumption) (by assumption) | exact nq_ne2 (by assumption) (by assumption)) (by assumption) | exact nq_ga (by assumption))) | exact nq_gn (by first | assumption | decide | omega | exact nq_ne1 (by assumption) (by assumption) | exact nq_ne2 (by assumption) (by assumption)) (by first | assumption | exact nq_ga (by assumption) | exact nq_gs (by first | assumption | exact nq_gs (by assumption) | exact nq_gn (by first | assumption | decide | omega | exact nq_ne1 (by assumption) (by assumption) | exact nq_ne2 (by assumption) (by assumption)) (by assumption) | exact nq_ga (by assumption)) | exact nq_gn (by first | assumption | decide | omega | exact nq_ne1 (by assumption) (by assumption) | exact nq_ne2 (by assumption) (by assumption)) (by first | assumption | exact nq_gs (by assumption) | exact nq_gn (by first | assumption | decide | omega | exact nq_ne1 (by assumption) (by assumption) | exact nq_ne2 (by assumption) (by assumption)) (by assumption) | exact nq_ga (by assumption)))) rfl (j := h + 10) (nI_add h 10) (by omega) (by decide) ?_
  rw [m6']
  rcases rd_od_ok (od := s.2.2.2.2.2.2) (by omega) with ⟨e1, e0⟩ | ⟨e1, e0⟩
  · rw [e1]
    refine nq_if_lt (pc' := 179) (tgt := 183) d_Mod_select_176 rfl (by decide) (fun _ => ?_) (fun h => absurd (show (-1 : Int32) < 0 by decide) h)
    refine ret σ2 ar1 mo_fr.rf W2 mx_k.rf T1 ?_
    rw [sx_all_0 cl [] (y6 e0) (fun x h => (by cases h)), List.nil_append]
    exact y3
  rw [e1]
  refine nq_if_lt (pc' := 179) (tgt := 183) d_Mod_select_176 rfl (by decide) (fun h => absurd h (nI_pos (by omega))) (fun _ => ?_)
  refine nq_aload_n (pc' := 180) d_Mod_select_179 rfl rfl rfl ?_
  refine nq_callV (pc' := 183) d_Mod_select_180 rfl cl_Mod_180 rfl (by first | assumption | exact nq_ga (by assumption) | exact nq_gs (by first | assumption | exact nq_ga (by assumption) | exact nq_gs (by first | assumption | exact nq_gs (by assumption) | exact nq_gn (by first | assumption | decide | omega | exact nq_ne1 (by assumption) (by assumption) | exact nq_ne2 (by assumption) (by assumption)) (by assumption) | exact nq_ga (by assumption)) | exact nq_gn (by first | assumption | decide | omega | exact nq_ne1 (by assumption) (by assumption) | exact nq_ne2 (by assumption) (by assumption)) (by first | assumption | exact nq_gs (by assumption) | exact nq_gn (by first | assumption | decide | omega | exact nq_ne1 (by assumption) (by assumption) | exact nq_ne2 (by assumption) (by assumption)) (by assumption) | exact nq_ga (by assumption))) | exact nq_gn (by first | assumption | decide | omega | exact nq_ne1 (by assumption) (by assumption) | exact nq_ne2 (by assumption) (by assumption)) (by first | assumption | exact nq_ga (by assumption) | exact nq_gs (by first | assumption | exact nq_gs (by assumption) | exact nq_gn (by first | assumption | decide | omega | exact nq_ne1 (by assumption) (by assumption) | exact nq_ne2 (by assumption) (by assumption)) (by assumption) | exact nq_ga (by assumption)) | exact nq_gn (by first | assumption | decide | omega | exact nq_ne1 (by assumption) (by assumption) | exact nq_ne2 (by assumption) (by assumption)) (by first | assumption | exact nq_gs (by assumption) | exact nq_gn (by first | assumption | decide | omega | exact nq_ne1 (by assumption) (by assumption) | exact nq_ne2 (by assumption) (by assumption)) (by assumption) | exact nq_ga (by assumption)))) rfl rfl (kc := 0) (ks := 0) (mc' := 0) (ms' := 0) (As := []) (rest := []) rfl rfl (by decide) (k_Mod_sortResult W2 q13 y2 (fun i x hx => ⟨y5 e0 i x hx, y4 x (List.mem_of_getElem? hx), fun j y hy => y3 i x hx j y hy⟩)) (fun E σ3 hq => by cases hq.1) (fun z σ3 hq => ?_)
  obtain ⟨z1, F3, f, g, W3, M3⟩ := hq
  cases z1
  refine ret σ3 _ F3 W3 ((mx_k.a (by decide)).tr (mx_k.a (by decide))) ?_ ?_
  · exact T1
  · intro i x hx j y hy
    exact (M3 i x hx).2.2 j y hy
end MZ2
