/-! THE OTHER STORE: collect, for a fold -/
section MY2
variable {G : nq_G} {d : Nat} {σ : nq_S} {v : Nat → Int32} {ar : mo_Ar} {h : Nat} {s : sp_St} {ρ : Nat → Int32}
theorem k_Mod_collectA {cl : List Int32} (hW : mo_W σ v ar) (hM : md_R (ar 1) h s) (hk : s.1 = 65 ∨ s.1 = 66) (hh : h ≤ 1600) (h7 : v 7 = 0) (hE : mn_E v ar s ρ) (hS : co_S s.2.2.2.2.1 v ar cl) (hl : cl.length < 400) (hD : 6 ≤ d) : nq_JM G d 0 0 m_Mod_collect [.ref 270, .int (nI h)] σ (mcl_Q (co_S s.2.2.2.2.1) σ v ar (co_st s.2.2.2.1 s.2.2.2.2.2.1 ρ cl)) := by
  obtain ⟨d, rfl⟩ : ∃ d', d = d' + 1 := ⟨d - 1, by omega⟩
  have hM0 := hM
  obtain ⟨hok, out, hol, ho, m0, m1, m2, m3, m4, m5, m6⟩ := hM
  obtain ⟨hv1, hfn⟩ := hok.2.2.2.1.2.2.2.1 hk
  obtain ⟨y1, y2, y3, y4, y5⟩ := id hS
  have hwv := hok.2.2.2.2.1
  have hfl := hok.2.2.2.2.2.2.2.2.2.2.2.1
  have w := hW.1
  have a1 := hW.2.2.1
  have kk : ∀ x, x < 128 → s.1 ≠ x → ¬ nI s.1 = nI x := fun x hx hn h => hn (nI_inj (by omega) (by omega) h)
  have hf4 : s.2.2.2.2.1 = 43 ∨ s.2.2.2.2.1 = 35 ∨ s.2.2.2.2.1 = 62 ∨ s.2.2.2.2.1 = 60 := by
    have : ∀ f ∈ tx 15, f = 43 ∨ f = 35 ∨ f = 62 ∨ f = 60 := by decide
    exact this _ hfn
  have kf : ∀ x, x < 128 → s.2.2.2.2.1 ≠ x → ¬ nI s.2.2.2.2.1 = nI x := fun x hx hn h => hn (nI_inj (by omega) (by omega) h)
  unfold co_st
  refine nq_mk' (lv := [some (.ref 270), some (.int (nI h)), none, none, none]) (by decide +kernel) rfl (Nat.le_of_ble_eq_true rfl) rfl ?_
  refine nq_aload_n (pc' := 1) d_Mod_collect_0 rfl rfl rfl ?_
  refine nq_getf (pc' := 4) d_Mod_collect_1 rfl fl_Mod_13 (by first | assumption | exact nq_ga (by assumption) | exact nq_gs (by first | assumption | exact nq_ga (by assumption) | exact nq_gs (by first | assumption | exact nq_gs (by assumption) | exact nq_gn (by first | assumption | decide | omega | exact nq_ne1 (by assumption) (by assumption) | exact nq_ne2 (by assumption) (by assumption)) (by assumption) | exact nq_ga (by assumption)) | exact nq_gn (by first | assumption | decide | omega | exact nq_ne1 (by assumption) (by assumption) | exact nq_ne2 (by assumption) (by assumption)) (by first | assumption | exact nq_gs (by assumption) | exact nq_gn (by first | assumption | decide | omega | exact nq_ne1 (by assumption) (by assumption) | exact nq_ne2 (by assumption) (by assumption)) (by assumption) | exact nq_ga (by assumption))) | exact nq_gn (by first | assumption | decide | omega | exact nq_ne1 (by assumption) (by assumption) | exact nq_ne2 (by assumption) (by assumption)) (by first | assumption | exact nq_ga (by assumption) | exact nq_gs (by first | assumption | exact nq_gs (by assumption) | exact nq_gn (by first | assumption | decide | omega | exact nq_ne1 (by assumption) (by assumption) | exact nq_ne2 (by assumption) (by assumption)) (by assumption) | exact nq_ga (by assumption)) | exact nq_gn (by first | assumption | decide | omega | exact nq_ne1 (by assumption) (by assumption) | exact nq_ne2 (by assumption) (by assumption)) (by first | assumption | exact nq_gs (by assumption) | exact nq_gn (by first | assumption | decide | omega | exact nq_ne1 (by assumption) (by assumption) | exact nq_ne2 (by assumption) (by assumption)) (by assumption) | exact nq_ga (by assumption)))) rfl ?_
  refine nq_iload_n (pc' := 5) d_Mod_collect_4 rfl rfl rfl ?_
  refine nq_iald (pc' := 6) d_Mod_collect_5 rfl (by first | assumption | exact nq_ga (by assumption) | exact nq_gs (by first | assumption | exact nq_ga (by assumption) | exact nq_gs (by first | assumption | exact nq_gs (by assumption) | exact nq_gn (by first | assumption | decide | omega | exact nq_ne1 (by assumption) (by assumption) | exact nq_ne2 (by assumption) (by assumption)) (by assumption) | exact nq_ga (by assumption)) | exact nq_gn (by first | assumption | decide | omega | exact nq_ne1 (by assumption) (by assumption) | exact nq_ne2 (by assumption) (by assumption)) (by first | assumption | exact nq_gs (by assumption) | exact nq_gn (by first | assumption | decide | omega | exact nq_ne1 (by assumption) (by assumption) | exact nq_ne2 (by assumption) (by assumption)) (by assumption) | exact nq_ga (by assumption))) | exact nq_gn (by first | assumption | decide | omega | exact nq_ne1 (by assumption) (by assumption) | exact nq_ne2 (by assumption) (by assumption)) (by first | assumption | exact nq_ga (by assumption) | exact nq_gs (by first | assumption | exact nq_gs (by assumption) | exact nq_gn (by first | assumption | decide | omega | exact nq_ne1 (by assumption) (by assumption) | exact nq_ne2 (by assumption) (by assumption)) (by assumption) | exact nq_ga (by assumption)) | exact nq_gn (by first | assumption | decide | omega | exact nq_ne1 (by assumption) (by assumption) | exact nq_ne2 (by assumption) (by assumption)) (by first | assumption | exact nq_gs (by assumption) | exact nq_gn (by first | assumption | decide | omega | exact nq_ne1 (by assumption) (by assumption) | exact nq_ne2 (by assumption) (by assumption)) (by assumption) | exact nq_ga (by assumption)))) rfl (j := h) rfl (by omega) (by decide) ?_
  rw [show ar 1 h = nI s.1 from m0]
  refine nq_istore_n (pc' := 7) d_Mod_collect_6 rfl rfl (by decide) rfl ?_
  refine nq_aload_n (pc' := 8) d_Mod_collect_7 rfl rfl rfl ?_
  refine nq_iload_n (pc' := 9) d_Mod_collect_8 rfl rfl rfl ?_
  refine nq_callV (pc' := 12) d_Mod_collect_9 rfl cl_Mod_158 rfl (by first | assumption | exact nq_ga (by assumption) | exact nq_gs (by first | assumption | exact nq_ga (by assumption) | exact nq_gs (by first | assumption | exact nq_gs (by assumption) | exact nq_gn (by first | assumption | decide | omega | exact nq_ne1 (by assumption) (by assumption) | exact nq_ne2 (by assumption) (by assumption)) (by assumption) | exact nq_ga (by assumption)) | exact nq_gn (by first | assumption | decide | omega | exact nq_ne1 (by assumption) (by assumption) | exact nq_ne2 (by assumption) (by assumption)) (by first | assumption | exact nq_gs (by assumption) | exact nq_gn (by first | assumption | decide | omega | exact nq_ne1 (by assumption) (by assumption) | exact nq_ne2 (by assumption) (by assumption)) (by assumption) | exact nq_ga (by assumption))) | exact nq_gn (by first | assumption | decide | omega | exact nq_ne1 (by assumption) (by assumption) | exact nq_ne2 (by assumption) (by assumption)) (by first | assumption | exact nq_ga (by assumption) | exact nq_gs (by first | assumption | exact nq_gs (by assumption) | exact nq_gn (by first | assumption | decide | omega | exact nq_ne1 (by assumption) (by assumption) | exact nq_ne2 (by assumption) (by assumption)) (by assumption) | exact nq_ga (by assumption)) | exact nq_gn (by first | assumption | decide | omega | exact nq_ne1 (by assumption) (by assumption) | exact nq_ne2 (by assumption) (by assumption)) (by first | assumption | exact nq_gs (by assumption) | exact nq_gn (by first | assumption | decide | omega | exact nq_ne1 (by assumption) (by assumption) | exact nq_ne2 (by assumption) (by assumption)) (by assumption) | exact nq_ga (by assumption)))) rfl rfl (kc := 0) (ks := 0) (mc' := 0) (ms' := 0) (As := [.int (nI h)]) (rest := []) rfl rfl (by decide) (k_Mod_meets hW hM0 hh h7 hE (by omega)) (fun E σ1 hq => ?_) (fun z σ1 hq => ?_)
  · obtain ⟨_, _, hq⟩ := hq
    cases hx : sx_m s.2.2.2.2.2.1 ρ with
    | none => rw [hx] at hq; cases hq.1
    | some b => rw [hx] at hq; cases hq.1
  obtain ⟨f1, P1, hq⟩ := hq
  cases hx : sx_m s.2.2.2.2.2.1 ρ with
  | none =>
    rw [hx] at hq
    obtain ⟨e1, W1⟩ := hq
    cases e1
    refine nq_if_ne (pc' := 15) (tgt := 16) d_Mod_collect_12 rfl (by decide) (fun h => absurd rfl h) (fun _ => ?_)
    refine nq_vret d_Mod_collect_15 rfl ⟨rfl, f1, _, _, W1, ⟨fun k a _ _ _ => upd_ne a, fun k a _ _ => ua_ne a⟩, rfl⟩
  | some b =>
  rw [hx] at hq
  obtain ⟨e1, W1⟩ := hq
  cases e1
  cases b with
  | false =>
    refine nq_if_ne (pc' := 15) (tgt := 16) d_Mod_collect_12 rfl (by decide) (fun h => absurd rfl h) (fun _ => ?_)
    refine nq_vret d_Mod_collect_15 rfl ⟨rfl, f1, _, _, W1, ⟨fun k _ _ _ _ => rfl, fun k a _ _ => ua_ne a⟩, h7, hS⟩
  | true =>
  simp only
  refine nq_if_ne (pc' := 15) (tgt := 16) d_Mod_collect_12 rfl (by decide) (fun _ => ?_) (fun h => absurd h (by decide))
  have hg0 := List.getElem?_eq_getElem (show 0 < s.2.2.2.1.length by omega)
  obtain ⟨off, o1, o2⟩ := m3.2 0 _ hg0
  obtain ⟨wf1, wl1⟩ := sp_wv_at hwv hg0
  have evs : sx_vs 7 ρ s.2.2.2.1 = (vl s.2.2.2.1[0] 7 ρ).map (fun x => [x]) := by
    have hl1 : s.2.2.2.1 = [s.2.2.2.1[0]] := by
      refine List.ext_getElem (by simp [hv1]) (fun j j1 j2 => ?_)
      simp only [List.length_cons, List.length_nil] at j2
      have : j = 0 := by omega
      subst this
      rfl
    rw [sx_vs_drop hl1]
    cases vl s.2.2.2.1[0] 7 ρ with
    | none => rfl
    | some x => rfl
  rw [evs]
  generalize s.2.2.2.1[0] = c at o2 wf1 wl1 ⊢
  have w1 := W1.1
  have at28 : nq_J G (d + 1) 0 0 m_Mod_collect 28 [some (.ref 270), some (.int (nI h)), some (.int (nI s.1)), none, none] [] σ1 (mcl_Q (co_S s.2.2.2.2.1) σ v ar (match (vl c 7 ρ).map (fun x => [x]) with
      | none => .inl nq_AE
      | some xs => .inr (cl ++ [xs.headD 0]))) := by
    refine nq_aload_n (pc' := 29) d_Mod_collect_28 rfl rfl rfl ?_
    refine nq_iload_n (pc' := 30) d_Mod_collect_29 rfl rfl rfl ?_
    refine nq_iconst (v := 4) (pc' := 31) d_Mod_collect_30 rfl (by decide) ?_
    refine nq_callV (pc' := 34) d_Mod_collect_31 rfl cl_Mod_154 rfl (by first | assumption | exact nq_ga (by assumption) | exact nq_gs (by first | assumption | exact nq_ga (by assumption) | exact nq_gs (by first | assumption | exact nq_gs (by assumption) | exact nq_gn (by first | assumption | decide | omega | exact nq_ne1 (by assumption) (by assumption) | exact nq_ne2 (by assumption) (by assumption)) (by assumption) | exact nq_ga (by assumption)) | exact nq_gn (by first | assumption | decide | omega | exact nq_ne1 (by assumption) (by assumption) | exact nq_ne2 (by assumption) (by assumption)) (by first | assumption | exact nq_gs (by assumption) | exact nq_gn (by first | assumption | decide | omega | exact nq_ne1 (by assumption) (by assumption) | exact nq_ne2 (by assumption) (by assumption)) (by assumption) | exact nq_ga (by assumption))) | exact nq_gn (by first | assumption | decide | omega | exact nq_ne1 (by assumption) (by assumption) | exact nq_ne2 (by assumption) (by assumption)) (by first | assumption | exact nq_ga (by assumption) | exact nq_gs (by first | assumption | exact nq_gs (by assumption) | exact nq_gn (by first | assumption | decide | omega | exact nq_ne1 (by assumption) (by assumption) | exact nq_ne2 (by assumption) (by assumption)) (by assumption) | exact nq_ga (by assumption)) | exact nq_gn (by first | assumption | decide | omega | exact nq_ne1 (by assumption) (by assumption) | exact nq_ne2 (by assumption) (by assumption)) (by first | assumption | exact nq_gs (by assumption) | exact nq_gn (by first | assumption | decide | omega | exact nq_ne1 (by assumption) (by assumption) | exact nq_ne2 (by assumption) (by assumption)) (by assumption) | exact nq_ga (by assumption)))) rfl rfl (kc := 0) (ks := 0) (mc' := 0) (ms' := 0) (As := [.int (nI h), .int (nI 4)]) (rest := []) rfl rfl (by decide) (mn_val (s := s) (ρ := ρ) (b := 7) (k := 4) W1 h7 (by decide) hh (by decide) ho hol o1 o2 wf1 (by omega) hE (by omega)) (fun E σ2 hq => by obtain ⟨_, _, _, hq, _⟩ := hq; cases hq) (fun z σ2 hq => ?_)
    obtain ⟨f2, P2, y, e2, hq⟩ := hq
    cases e2
    have F2 := f1.tr f2
    /- behind the folding: it is counted -/
    have cnt : ∀ (σ3 : nq_S) (v3 : Nat → Int32) (ar3 : mo_Ar) (l4 : Option Value) (r : String ⊕ List Int32), mo_fr σ σ3 → mo_W σ3 v3 ar3 → mcl_k v ar v3 ar3 → v3 11 = nI cl.length → (match r with
        | .inl e => v3 7 = mo_thr e
        | .inr a => v3 7 = 0 ∧ co_S s.2.2.2.2.1 (upd v3 11 (nI (cl.length + 1))) ar3 a) → nq_J G (d + 1) 0 0 m_Mod_collect 108 [some (.ref 270), some (.int (nI h)), some (.int (nI s.1)), some (.int y), l4] [] σ3 (mcl_Q (co_S s.2.2.2.2.1) σ v ar r) := by
      intro σ3 v3 ar3 l4 r F3 W3 K3 e11 hr
      have w3 := W3.1
      refine nq_aload_n (pc' := 109) d_Mod_collect_108 rfl rfl rfl ?_
      refine nq_dup (pc' := 110) d_Mod_collect_109 rfl rfl ?_
      refine nq_getf (pc' := 113) d_Mod_collect_110 rfl fl_Mod_164 (by first | assumption | exact nq_ga (by assumption) | exact nq_gs (by first | assumption | exact nq_ga (by assumption) | exact nq_gs (by first | assumption | exact nq_gs (by assumption) | exact nq_gn (by first | assumption | decide | omega | exact nq_ne1 (by assumption) (by assumption) | exact nq_ne2 (by assumption) (by assumption)) (by assumption) | exact nq_ga (by assumption)) | exact nq_gn (by first | assumption | decide | omega | exact nq_ne1 (by assumption) (by assumption) | exact nq_ne2 (by assumption) (by assumption)) (by first | assumption | exact nq_gs (by assumption) | exact nq_gn (by first | assumption | decide | omega | exact nq_ne1 (by assumption) (by assumption) | exact nq_ne2 (by assumption) (by assumption)) (by assumption) | exact nq_ga (by assumption))) | exact nq_gn (by first | assumption | decide | omega | exact nq_ne1 (by assumption) (by assumption) | exact nq_ne2 (by assumption) (by assumption)) (by first | assumption | exact nq_ga (by assumption) | exact nq_gs (by first | assumption | exact nq_gs (by assumption) | exact nq_gn (by first | assumption | decide | omega | exact nq_ne1 (by assumption) (by assumption) | exact nq_ne2 (by assumption) (by assumption)) (by assumption) | exact nq_ga (by assumption)) | exact nq_gn (by first | assumption | decide | omega | exact nq_ne1 (by assumption) (by assumption) | exact nq_ne2 (by assumption) (by assumption)) (by first | assumption | exact nq_gs (by assumption) | exact nq_gn (by first | assumption | decide | omega | exact nq_ne1 (by assumption) (by assumption) | exact nq_ne2 (by assumption) (by assumption)) (by assumption) | exact nq_ga (by assumption)))) rfl ?_
      refine nq_iconst (v := 1) (pc' := 114) d_Mod_collect_113 rfl (by decide) ?_
      refine nq_iadd (pc' := 115) d_Mod_collect_114 rfl ?_
      refine nq_putf (pc' := 118) d_Mod_collect_115 rfl fl_Mod_164 (by first | assumption | exact nq_ga (by assumption) | exact nq_gs (by first | assumption | exact nq_ga (by assumption) | exact nq_gs (by first | assumption | exact nq_gs (by assumption) | exact nq_gn (by first | assumption | decide | omega | exact nq_ne1 (by assumption) (by assumption) | exact nq_ne2 (by assumption) (by assumption)) (by assumption) | exact nq_ga (by assumption)) | exact nq_gn (by first | assumption | decide | omega | exact nq_ne1 (by assumption) (by assumption) | exact nq_ne2 (by assumption) (by assumption)) (by first | assumption | exact nq_gs (by assumption) | exact nq_gn (by first | assumption | decide | omega | exact nq_ne1 (by assumption) (by assumption) | exact nq_ne2 (by assumption) (by assumption)) (by assumption) | exact nq_ga (by assumption))) | exact nq_gn (by first | assumption | decide | omega | exact nq_ne1 (by assumption) (by assumption) | exact nq_ne2 (by assumption) (by assumption)) (by first | assumption | exact nq_ga (by assumption) | exact nq_gs (by first | assumption | exact nq_gs (by assumption) | exact nq_gn (by first | assumption | decide | omega | exact nq_ne1 (by assumption) (by assumption) | exact nq_ne2 (by assumption) (by assumption)) (by assumption) | exact nq_ga (by assumption)) | exact nq_gn (by first | assumption | decide | omega | exact nq_ne1 (by assumption) (by assumption) | exact nq_ne2 (by assumption) (by assumption)) (by first | assumption | exact nq_gs (by assumption) | exact nq_gn (by first | assumption | decide | omega | exact nq_ne1 (by assumption) (by assumption) | exact nq_ne2 (by assumption) (by assumption)) (by assumption) | exact nq_ga (by assumption)))) (Nat.le_of_ble_eq_true rfl) rfl rfl ?_
      rw [e11, nI_1]
      refine nq_vret d_Mod_collect_118 rfl ⟨rfl, F3.tr (mo_fr.st (by decide)), upd v3 11 (nI (cl.length + 1)), ar3, mo_W.fi (v' := upd v3 11 (nI (cl.length + 1))) W3, ⟨fun k a b c e => by rw [upd_ne b]; exact K3.1 k a b c e, K3.2⟩, ?_⟩
      cases r with
      | inl e => exact hr
      | inr a => exact hr
    /- the total for the value y -/
    have fold : ∀ (σ3 : nq_S) (v3 : Nat → Int32) (ar3 : mo_Ar) (r : String ⊕ List Int32), mo_fr σ σ3 → mo_W σ3 v3 ar3 → mcl_k v ar v3 ar3 → ar3 1 = ar 1 → v3 11 = nI cl.length → (∀ t, (s.2.2.2.2.1 = 43 → t = v3 16 + y) → (s.2.2.2.2.1 = 62 → t = if cl.length = 0 then y else if v3 16 < y then y else v3 16) → (s.2.2.2.2.1 = 60 → t = if cl.length = 0 then y else if y < v3 16 then y else v3 16) → match r with
        | .inl e => v3 7 = mo_thr e
        | .inr a => v3 7 = 0 ∧ co_S s.2.2.2.2.1 (upd (upd v3 16 t) 11 (nI (cl.length + 1))) ar3 a) → nq_J G (d + 1) 0 0 m_Mod_collect 35 [some (.ref 270), some (.int (nI h)), some (.int (nI s.1)), some (.int y), none] [] σ3 (mcl_Q (co_S s.2.2.2.2.1) σ v ar r) := by
      intro σ3 v3 ar3 r F3 W3 K3 e1 e11 hr
      have w3 := W3.1
      have c1 : σ3[272]? = some (.inl (0, 2000, .inl (ar 1))) := by rw [← e1]; exact W3.2.2.1
      have set : ∀ (t : Int32), (s.2.2.2.2.1 = 43 → t = v3 16 + y) → (s.2.2.2.2.1 = 62 → t = if cl.length = 0 then y else if v3 16 < y then y else v3 16) → (s.2.2.2.2.1 = 60 → t = if cl.length = 0 then y else if y < v3 16 then y else v3 16) → nq_J G (d + 1) 0 0 m_Mod_collect 108 [some (.ref 270), some (.int (nI h)), some (.int (nI s.1)), some (.int y), some (.int (nI s.2.2.2.2.1))] [] (σ3.set 270 (mo_F (upd v3 16 t))) (mcl_Q (co_S s.2.2.2.2.1) σ v ar r) := by
        intro t h1 h2 h3
        have hh := hr t h1 h2 h3
        refine cnt _ (upd v3 16 t) ar3 _ r (F3.tr (mo_fr.st (by decide))) W3.fi ⟨fun k a b c e => by rw [upd_ne e]; exact K3.1 k a b c e, K3.2⟩ e11 ?_
        cases r with
        | inl e => exact hh
        | inr a => exact hh
      have keep : (s.2.2.2.2.1 = 43 → v3 16 = v3 16 + y) → (s.2.2.2.2.1 = 62 → v3 16 = if cl.length = 0 then y else if v3 16 < y then y else v3 16) → (s.2.2.2.2.1 = 60 → v3 16 = if cl.length = 0 then y else if y < v3 16 then y else v3 16) → nq_J G (d + 1) 0 0 m_Mod_collect 108 [some (.ref 270), some (.int (nI h)), some (.int (nI s.1)), some (.int y), some (.int (nI s.2.2.2.2.1))] [] σ3 (mcl_Q (co_S s.2.2.2.2.1) σ v ar r) := by
        intro h1 h2 h3
        have hh := hr (v3 16) h1 h2 h3
        have e16 : upd v3 16 (v3 16) = v3 := by
          funext k
          unfold upd
          by_cases hk : k = 16
          · rw [if_pos hk, hk]
          · rw [if_neg hk]
        rw [e16] at hh
        refine cnt _ v3 ar3 _ r F3 W3 K3 e11 ?_
        cases r with
        | inl e => exact hh
        | inr a => exact hh
      refine nq_aload_n (pc' := 36) d_Mod_collect_35 rfl rfl rfl ?_
      refine nq_getf (pc' := 39) d_Mod_collect_36 rfl fl_Mod_13 (by first | assumption | exact nq_ga (by assumption) | exact nq_gs (by first | assumption | exact nq_ga (by assumption) | exact nq_gs (by first | assumption | exact nq_gs (by assumption) | exact nq_gn (by first | assumption | decide | omega | exact nq_ne1 (by assumption) (by assumption) | exact nq_ne2 (by assumption) (by assumption)) (by assumption) | exact nq_ga (by assumption)) | exact nq_gn (by first | assumption | decide | omega | exact nq_ne1 (by assumption) (by assumption) | exact nq_ne2 (by assumption) (by assumption)) (by first | assumption | exact nq_gs (by assumption) | exact nq_gn (by first | assumption | decide | omega | exact nq_ne1 (by assumption) (by assumption) | exact nq_ne2 (by assumption) (by assumption)) (by assumption) | exact nq_ga (by assumption))) | exact nq_gn (by first | assumption | decide | omega | exact nq_ne1 (by assumption) (by assumption) | exact nq_ne2 (by assumption) (by assumption)) (by first | assumption | exact nq_ga (by assumption) | exact nq_gs (by first | assumption | exact nq_gs (by assumption) | exact nq_gn (by first | assumption | decide | omega | exact nq_ne1 (by assumption) (by assumption) | exact nq_ne2 (by assumption) (by assumption)) (by assumption) | exact nq_ga (by assumption)) | exact nq_gn (by first | assumption | decide | omega | exact nq_ne1 (by assumption) (by assumption) | exact nq_ne2 (by assumption) (by assumption)) (by first | assumption | exact nq_gs (by assumption) | exact nq_gn (by first | assumption | decide | omega | exact nq_ne1 (by assumption) (by assumption) | exact nq_ne2 (by assumption) (by assumption)) (by assumption) | exact nq_ga (by assumption)))) rfl ?_
      refine nq_iload_n (pc' := 40) d_Mod_collect_39 rfl rfl rfl ?_
      refine nq_bipush (v := 9) (pc' := 42) d_Mod_collect_40 rfl (by decide) ?_
      refine nq_iadd (pc' := 43) d_Mod_collect_42 rfl ?_
      refine nq_iald (pc' := 44) d_Mod_collect_43 rfl (by first | assumption | exact nq_ga (by assumption) | exact nq_gs (by first | assumption | exact nq_ga (by assumption) | exact nq_gs (by first | assumption | exact nq_gs (by assumption) | exact nq_gn (by first | assumption | decide | omega | exact nq_ne1 (by assumption) (by assumption) | exact nq_ne2 (by assumption) (by assumption)) (by assumption) | exact nq_ga (by assumption)) | exact nq_gn (by first | assumption | decide | omega | exact nq_ne1 (by assumption) (by assumption) | exact nq_ne2 (by assumption) (by assumption)) (by first | assumption | exact nq_gs (by assumption) | exact nq_gn (by first | assumption | decide | omega | exact nq_ne1 (by assumption) (by assumption) | exact nq_ne2 (by assumption) (by assumption)) (by assumption) | exact nq_ga (by assumption))) | exact nq_gn (by first | assumption | decide | omega | exact nq_ne1 (by assumption) (by assumption) | exact nq_ne2 (by assumption) (by assumption)) (by first | assumption | exact nq_ga (by assumption) | exact nq_gs (by first | assumption | exact nq_gs (by assumption) | exact nq_gn (by first | assumption | decide | omega | exact nq_ne1 (by assumption) (by assumption) | exact nq_ne2 (by assumption) (by assumption)) (by assumption) | exact nq_ga (by assumption)) | exact nq_gn (by first | assumption | decide | omega | exact nq_ne1 (by assumption) (by assumption) | exact nq_ne2 (by assumption) (by assumption)) (by first | assumption | exact nq_gs (by assumption) | exact nq_gn (by first | assumption | decide | omega | exact nq_ne1 (by assumption) (by assumption) | exact nq_ne2 (by assumption) (by assumption)) (by assumption) | exact nq_ga (by assumption)))) rfl (j := h + 9) (nI_add h 9) (by omega) (by decide) ?_
      rw [show ar 1 (h + 9) = nI s.2.2.2.2.1 from m4]
      refine nq_istore (pc' := 46) d_Mod_collect_44 rfl (by decide) rfl ?_
      refine nq_iload (pc' := 48) d_Mod_collect_46 rfl rfl ?_
      refine nq_bipush (v := 43) (pc' := 50) d_Mod_collect_48 rfl (by decide) ?_
      by_cases c43 : s.2.2.2.2.1 = 43
      · refine nq_icmp_ne (pc' := 53) (tgt := 66) d_Mod_collect_50 rfl (by decide) (fun h => absurd (by rw [c43]; rfl) h) (fun _ => ?_)
        refine nq_aload_n (pc' := 54) d_Mod_collect_53 rfl rfl rfl ?_
        refine nq_dup (pc' := 55) d_Mod_collect_54 rfl rfl ?_
        refine nq_getf (pc' := 58) d_Mod_collect_55 rfl fl_Mod_161 (by first | assumption | exact nq_ga (by assumption) | exact nq_gs (by first | assumption | exact nq_ga (by assumption) | exact nq_gs (by first | assumption | exact nq_gs (by assumption) | exact nq_gn (by first | assumption | decide | omega | exact nq_ne1 (by assumption) (by assumption) | exact nq_ne2 (by assumption) (by assumption)) (by assumption) | exact nq_ga (by assumption)) | exact nq_gn (by first | assumption | decide | omega | exact nq_ne1 (by assumption) (by assumption) | exact nq_ne2 (by assumption) (by assumption)) (by first | assumption | exact nq_gs (by assumption) | exact nq_gn (by first | assumption | decide | omega | exact nq_ne1 (by assumption) (by assumption) | exact nq_ne2 (by assumption) (by assumption)) (by assumption) | exact nq_ga (by assumption))) | exact nq_gn (by first | assumption | decide | omega | exact nq_ne1 (by assumption) (by assumption) | exact nq_ne2 (by assumption) (by assumption)) (by first | assumption | exact nq_ga (by assumption) | exact nq_gs (by first | assumption | exact nq_gs (by assumption) | exact nq_gn (by first | assumption | decide | omega | exact nq_ne1 (by assumption) (by assumption) | exact nq_ne2 (by assumption) (by assumption)) (by assumption) | exact nq_ga (by assumption)) | exact nq_gn (by first | assumption | decide | omega | exact nq_ne1 (by assumption) (by assumption) | exact nq_ne2 (by assumption) (by assumption)) (by first | assumption | exact nq_gs (by assumption) | exact nq_gn (by first | assumption | decide | omega | exact nq_ne1 (by assumption) (by assumption) | exact nq_ne2 (by assumption) (by assumption)) (by assumption) | exact nq_ga (by assumption)))) rfl ?_
        refine nq_iload_n (pc' := 59) d_Mod_collect_58 rfl rfl rfl ?_
        refine nq_iadd (pc' := 60) d_Mod_collect_59 rfl ?_
        refine nq_putf (pc' := 63) d_Mod_collect_60 rfl fl_Mod_161 (by first | assumption | exact nq_ga (by assumption) | exact nq_gs (by first | assumption | exact nq_ga (by assumption) | exact nq_gs (by first | assumption | exact nq_gs (by assumption) | exact nq_gn (by first | assumption | decide | omega | exact nq_ne1 (by assumption) (by assumption) | exact nq_ne2 (by assumption) (by assumption)) (by assumption) | exact nq_ga (by assumption)) | exact nq_gn (by first | assumption | decide | omega | exact nq_ne1 (by assumption) (by assumption) | exact nq_ne2 (by assumption) (by assumption)) (by first | assumption | exact nq_gs (by assumption) | exact nq_gn (by first | assumption | decide | omega | exact nq_ne1 (by assumption) (by assumption) | exact nq_ne2 (by assumption) (by assumption)) (by assumption) | exact nq_ga (by assumption))) | exact nq_gn (by first | assumption | decide | omega | exact nq_ne1 (by assumption) (by assumption) | exact nq_ne2 (by assumption) (by assumption)) (by first | assumption | exact nq_ga (by assumption) | exact nq_gs (by first | assumption | exact nq_gs (by assumption) | exact nq_gn (by first | assumption | decide | omega | exact nq_ne1 (by assumption) (by assumption) | exact nq_ne2 (by assumption) (by assumption)) (by assumption) | exact nq_ga (by assumption)) | exact nq_gn (by first | assumption | decide | omega | exact nq_ne1 (by assumption) (by assumption) | exact nq_ne2 (by assumption) (by assumption)) (by first | assumption | exact nq_gs (by assumption) | exact nq_gn (by first | assumption | decide | omega | exact nq_ne1 (by assumption) (by assumption) | exact nq_ne2 (by assumption) (by assumption)) (by assumption) | exact nq_ga (by assumption)))) (Nat.le_of_ble_eq_true rfl) rfl rfl ?_
        refine nq_goto (tgt := 108) d_Mod_collect_63 (by decide) ?_
        exact set (v3 16 + y) (fun _ => rfl) (fun h => by omega) (fun h => by omega)
      refine nq_icmp_ne (pc' := 53) (tgt := 66) d_Mod_collect_50 rfl (by decide) (fun _ => ?_) (fun h => absurd h (kf 43 (by decide) c43))
      refine nq_aload_n (pc' := 67) d_Mod_collect_66 rfl rfl rfl ?_
      refine nq_getf (pc' := 70) d_Mod_collect_67 rfl fl_Mod_164 (by first | assumption | exact nq_ga (by assumption) | exact nq_gs (by first | assumption | exact nq_ga (by assumption) | exact nq_gs (by first | assumption | exact nq_gs (by assumption) | exact nq_gn (by first | assumption | decide | omega | exact nq_ne1 (by assumption) (by assumption) | exact nq_ne2 (by assumption) (by assumption)) (by assumption) | exact nq_ga (by assumption)) | exact nq_gn (by first | assumption | decide | omega | exact nq_ne1 (by assumption) (by assumption) | exact nq_ne2 (by assumption) (by assumption)) (by first | assumption | exact nq_gs (by assumption) | exact nq_gn (by first | assumption | decide | omega | exact nq_ne1 (by assumption) (by assumption) | exact nq_ne2 (by assumption) (by assumption)) (by assumption) | exact nq_ga (by assumption))) | exact nq_gn (by first | assumption | decide | omega | exact nq_ne1 (by assumption) (by assumption) | exact nq_ne2 (by assumption) (by assumption)) (by first | assumption | exact nq_ga (by assumption) | exact nq_gs (by first | assumption | exact nq_gs (by assumption) | exact nq_gn (by first | assumption | decide | omega | exact nq_ne1 (by assumption) (by assumption) | exact nq_ne2 (by assumption) (by assumption)) (by assumption) | exact nq_ga (by assumption)) | exact nq_gn (by first | assumption | decide | omega | exact nq_ne1 (by assumption) (by assumption) | exact nq_ne2 (by assumption) (by assumption)) (by first | assumption | exact nq_gs (by assumption) | exact nq_gn (by first | assumption | decide | omega | exact nq_ne1 (by assumption) (by assumption) | exact nq_ne2 (by assumption) (by assumption)) (by assumption) | exact nq_ga (by assumption)))) rfl ?_
      rw [e11]
      have at103 : (s.2.2.2.2.1 = 62 → y = if cl.length = 0 then y else if v3 16 < y then y else v3 16) → (s.2.2.2.2.1 = 60 → y = if cl.length = 0 then y else if y < v3 16 then y else v3 16) → nq_J G (d + 1) 0 0 m_Mod_collect 103 [some (.ref 270), some (.int (nI h)), some (.int (nI s.1)), some (.int y), some (.int (nI s.2.2.2.2.1))] [] σ3 (mcl_Q (co_S s.2.2.2.2.1) σ v ar r) := by
        intro h2 h3
        refine nq_aload_n (pc' := 104) d_Mod_collect_103 rfl rfl rfl ?_
        refine nq_iload_n (pc' := 105) d_Mod_collect_104 rfl rfl rfl ?_
        refine nq_putf (pc' := 108) d_Mod_collect_105 rfl fl_Mod_161 (by first | assumption | exact nq_ga (by assumption) | exact nq_gs (by first | assumption | exact nq_ga (by assumption) | exact nq_gs (by first | assumption | exact nq_gs (by assumption) | exact nq_gn (by first | assumption | decide | omega | exact nq_ne1 (by assumption) (by assumption) | exact nq_ne2 (by assumption) (by assumption)) (by assumption) | exact nq_ga (by assumption)) | exact nq_gn (by first | assumption | decide | omega | exact nq_ne1 (by assumption) (by assumption) | exact nq_ne2 (by assumption) (by assumption)) (by first | assumption | exact nq_gs (by assumption) | exact nq_gn (by first | assumption | decide | omega | exact nq_ne1 (by assumption) (by assumption) | exact nq_ne2 (by assumption) (by assumption)) (by assumption) | exact nq_ga (by assumption))) | exact nq_gn (by first | assumption | decide | omega | exact nq_ne1 (by assumption) (by assumption) | exact nq_ne2 (by assumption) (by assumption)) (by first | assumption | exact nq_ga (by assumption) | exact nq_gs (by first | assumption | exact nq_gs (by assumption) | exact nq_gn (by first | assumption | decide | omega | exact nq_ne1 (by assumption) (by assumption) | exact nq_ne2 (by assumption) (by assumption)) (by assumption) | exact nq_ga (by assumption)) | exact nq_gn (by first | assumption | decide | omega | exact nq_ne1 (by assumption) (by assumption) | exact nq_ne2 (by assumption) (by assumption)) (by first | assumption | exact nq_gs (by assumption) | exact nq_gn (by first | assumption | decide | omega | exact nq_ne1 (by assumption) (by assumption) | exact nq_ne2 (by assumption) (by assumption)) (by assumption) | exact nq_ga (by assumption)))) (Nat.le_of_ble_eq_true rfl) rfl rfl ?_
        exact set y (fun h => absurd h c43) h2 h3
      by_cases hc0 : cl.length = 0
      · refine nq_if_eq (pc' := 73) (tgt := 103) d_Mod_collect_70 rfl (by decide) (fun _ => at103 (fun _ => by rw [if_pos hc0]) (fun _ => by rw [if_pos hc0])) (fun h => absurd (by rw [hc0]; rfl) h)
      refine nq_if_eq (pc' := 73) (tgt := 103) d_Mod_collect_70 rfl (by decide) (fun h => absurd h (nI_ne0 (by omega) (by omega))) (fun _ => ?_)
      refine nq_iload (pc' := 75) d_Mod_collect_73 rfl rfl ?_
      refine nq_bipush (v := 62) (pc' := 77) d_Mod_collect_75 rfl (by decide) ?_
      have at88 : ¬ (s.2.2.2.2.1 = 62 ∧ v3 16 < y) → nq_J G (d + 1) 0 0 m_Mod_collect 88 [some (.ref 270), some (.int (nI h)), some (.int (nI s.1)), some (.int y), some (.int (nI s.2.2.2.2.1))] [] σ3 (mcl_Q (co_S s.2.2.2.2.1) σ v ar r) := by
        intro hn
        refine nq_iload (pc' := 90) d_Mod_collect_88 rfl rfl ?_
        refine nq_bipush (v := 60) (pc' := 92) d_Mod_collect_90 rfl (by decide) ?_
        by_cases c60 : s.2.2.2.2.1 = 60
        · refine nq_icmp_ne (pc' := 95) (tgt := 108) d_Mod_collect_92 rfl (by decide) (fun h => absurd (by rw [c60]; rfl) h) (fun _ => ?_)
          refine nq_iload_n (pc' := 96) d_Mod_collect_95 rfl rfl rfl ?_
          refine nq_aload_n (pc' := 97) d_Mod_collect_96 rfl rfl rfl ?_
          refine nq_getf (pc' := 100) d_Mod_collect_97 rfl fl_Mod_161 (by first | assumption | exact nq_ga (by assumption) | exact nq_gs (by first | assumption | exact nq_ga (by assumption) | exact nq_gs (by first | assumption | exact nq_gs (by assumption) | exact nq_gn (by first | assumption | decide | omega | exact nq_ne1 (by assumption) (by assumption) | exact nq_ne2 (by assumption) (by assumption)) (by assumption) | exact nq_ga (by assumption)) | exact nq_gn (by first | assumption | decide | omega | exact nq_ne1 (by assumption) (by assumption) | exact nq_ne2 (by assumption) (by assumption)) (by first | assumption | exact nq_gs (by assumption) | exact nq_gn (by first | assumption | decide | omega | exact nq_ne1 (by assumption) (by assumption) | exact nq_ne2 (by assumption) (by assumption)) (by assumption) | exact nq_ga (by assumption))) | exact nq_gn (by first | assumption | decide | omega | exact nq_ne1 (by assumption) (by assumption) | exact nq_ne2 (by assumption) (by assumption)) (by first | assumption | exact nq_ga (by assumption) | exact nq_gs (by first | assumption | exact nq_gs (by assumption) | exact nq_gn (by first | assumption | decide | omega | exact nq_ne1 (by assumption) (by assumption) | exact nq_ne2 (by assumption) (by assumption)) (by assumption) | exact nq_ga (by assumption)) | exact nq_gn (by first | assumption | decide | omega | exact nq_ne1 (by assumption) (by assumption) | exact nq_ne2 (by assumption) (by assumption)) (by first | assumption | exact nq_gs (by assumption) | exact nq_gn (by first | assumption | decide | omega | exact nq_ne1 (by assumption) (by assumption) | exact nq_ne2 (by assumption) (by assumption)) (by assumption) | exact nq_ga (by assumption)))) rfl ?_
          by_cases hlt : y < v3 16
          · refine nq_icmp_ge (pc' := 103) (tgt := 108) d_Mod_collect_100 rfl (by decide) (fun h => absurd hlt (Int32.not_lt.mpr h)) (fun _ => ?_)
            exact at103 (fun h => by omega) (fun _ => by rw [if_neg hc0, if_pos hlt])
          · refine nq_icmp_ge (pc' := 103) (tgt := 108) d_Mod_collect_100 rfl (by decide) (fun _ => keep (fun h => absurd h c43) (fun h => by omega) (fun _ => by rw [if_neg hc0, if_neg hlt])) (fun h => absurd (Int32.not_lt.mp hlt) h)
        · refine nq_icmp_ne (pc' := 95) (tgt := 108) d_Mod_collect_92 rfl (by decide) (fun _ => keep (fun h => absurd h c43) (fun h => by rw [if_neg hc0, if_neg (fun hh => hn ⟨h, hh⟩)]) (fun h => absurd h c60)) (fun h => absurd h (kf 60 (by decide) c60))
      by_cases c62 : s.2.2.2.2.1 = 62
      · refine nq_icmp_ne (pc' := 80) (tgt := 88) d_Mod_collect_77 rfl (by decide) (fun h => absurd (by rw [c62]; rfl) h) (fun _ => ?_)
        refine nq_iload_n (pc' := 81) d_Mod_collect_80 rfl rfl rfl ?_
        refine nq_aload_n (pc' := 82) d_Mod_collect_81 rfl rfl rfl ?_
        refine nq_getf (pc' := 85) d_Mod_collect_82 rfl fl_Mod_161 (by first | assumption | exact nq_ga (by assumption) | exact nq_gs (by first | assumption | exact nq_ga (by assumption) | exact nq_gs (by first | assumption | exact nq_gs (by assumption) | exact nq_gn (by first | assumption | decide | omega | exact nq_ne1 (by assumption) (by assumption) | exact nq_ne2 (by assumption) (by assumption)) (by assumption) | exact nq_ga (by assumption)) | exact nq_gn (by first | assumption | decide | omega | exact nq_ne1 (by assumption) (by assumption) | exact nq_ne2 (by assumption) (by assumption)) (by first | assumption | exact nq_gs (by assumption) | exact nq_gn (by first | assumption | decide | omega | exact nq_ne1 (by assumption) (by assumption) | exact nq_ne2 (by assumption) (by assumption)) (by assumption) | exact nq_ga (by assumption))) | exact nq_gn (by first | assumption | decide | omega | exact nq_ne1 (by assumption) (by assumption) | exact nq_ne2 (by assumption) (by assumption)) (by first | assumption | exact nq_ga (by assumption) | exact nq_gs (by first | assumption | exact nq_gs (by assumption) | exact nq_gn (by first | assumption | decide | omega | exact nq_ne1 (by assumption) (by assumption) | exact nq_ne2 (by assumption) (by assumption)) (by assumption) | exact nq_ga (by assumption)) | exact nq_gn (by first | assumption | decide | omega | exact nq_ne1 (by assumption) (by assumption) | exact nq_ne2 (by assumption) (by assumption)) (by first | assumption | exact nq_gs (by assumption) | exact nq_gn (by first | assumption | decide | omega | exact nq_ne1 (by assumption) (by assumption) | exact nq_ne2 (by assumption) (by assumption)) (by assumption) | exact nq_ga (by assumption)))) rfl ?_
        by_cases hlt : v3 16 < y
        · refine nq_icmp_gt (pc' := 88) (tgt := 103) d_Mod_collect_85 rfl (by decide) (fun _ => at103 (fun _ => by rw [if_neg hc0, if_pos hlt]) (fun h => by omega)) (fun h => absurd hlt h)
        · refine nq_icmp_gt (pc' := 88) (tgt := 103) d_Mod_collect_85 rfl (by decide) (fun h => absurd h hlt) (fun _ => at88 (fun h => hlt h.2))
      · refine nq_icmp_ne (pc' := 80) (tgt := 88) d_Mod_collect_77 rfl (by decide) (fun _ => at88 (fun h => c62 h.1)) (fun h => absurd h (kf 62 (by decide) c62))
    cases hy : vl c 7 ρ with
    | none =>
      rw [hy] at hq
      simp only [Option.map_none] at hq ⊢
      rw [ua_ua] at hq
      refine nq_istore_n (pc' := 35) d_Mod_collect_34 rfl rfl (by decide) rfl ?_
      exact fold σ2 (upd v 7 3) (ua ar 10 P2) _ F2 hq ⟨fun k a _ _ _ => upd_ne a, fun k a _ _ => ua_ne a⟩ rfl y1 (fun _ _ _ _ => rfl)
    | some x =>
      rw [hy] at hq
      obtain ⟨rfl, W2⟩ := hq
      simp only [Option.map_some, List.headD_cons]
      rw [ua_ua] at W2
      refine nq_istore_n (pc' := 35) d_Mod_collect_34 rfl rfl (by decide) rfl ?_
      refine fold σ2 v (ua ar 10 P2) _ F2 W2 ⟨fun k _ _ _ _ => rfl, fun k a _ _ => ua_ne a⟩ rfl y1 (fun t h1 h2 h3 => ⟨h7, ?_⟩)
      refine ⟨by rw [upd_at, List.length_append]; rfl, by rw [List.length_append]; simp only [List.length_cons, List.length_nil]; omega, fun hf => ?_, fun hf x r hx => ?_, fun hf x r hx => ?_⟩
      · rw [upd_ne (by decide), upd_at, h1 hf, y3 hf, List.foldl_append]
        rfl
      · rw [upd_ne (by decide), upd_at, h2 hf]
        cases cl with
        | nil =>
          cases hx
          rfl
        | cons z zs =>
          have e1 := (List.cons.inj hx).1
          have e2 := (List.cons.inj hx).2
          rw [← e1, ← e2, if_neg (by simp), y4 hf z zs rfl]
          show _ = List.foldl sx_max z (zs ++ [y])
          rw [List.foldl_append]
          rfl
      · rw [upd_ne (by decide), upd_at, h3 hf]
        cases cl with
        | nil =>
          cases hx
          rfl
        | cons z zs =>
          have e1 := (List.cons.inj hx).1
          have e2 := (List.cons.inj hx).2
          rw [← e1, ← e2, if_neg (by simp), y5 hf z zs rfl]
          show _ = List.foldl sx_min z (zs ++ [y])
          rw [List.foldl_append]
          rfl
  refine nq_iload_n (pc' := 17) d_Mod_collect_16 rfl rfl rfl ?_
  refine nq_bipush (v := 65) (pc' := 19) d_Mod_collect_17 rfl (by decide) ?_
  by_cases k65 : s.1 = 65
  · refine nq_icmp_eq (pc' := 22) (tgt := 28) d_Mod_collect_19 rfl (by decide) (fun _ => at28) (fun h => absurd (by rw [k65]; rfl) h)
  refine nq_icmp_eq (pc' := 22) (tgt := 28) d_Mod_collect_19 rfl (by decide) (fun h => absurd h (kk 65 (by decide) k65)) (fun _ => ?_)
  refine nq_iload_n (pc' := 23) d_Mod_collect_22 rfl rfl rfl ?_
  refine nq_bipush (v := 66) (pc' := 25) d_Mod_collect_23 rfl (by decide) ?_
  have k66 : s.1 = 66 := by omega
  refine nq_icmp_ne (pc' := 28) (tgt := 119) d_Mod_collect_25 rfl (by decide) (fun h => absurd (by rw [k66]; rfl) h) (fun _ => at28)
end MY2
