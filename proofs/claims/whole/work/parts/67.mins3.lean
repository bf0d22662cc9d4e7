/-! THE OTHER STORE: insert as a whole -/
section MI3
variable {G : nq_G} {d : Nat} {σ : nq_S} {v : Nat → Int32} {ar : mo_Ar} {h : Nat} {s : sp_St} {tb : sx_T}
theorem mo_fg.ap {x : nq_C} (hl : 288 ≤ σ.length) : mo_fg σ (σ ++ [x]) := ⟨by rw [List.length_append]; omega, by rw [List.length_append]; exact Nat.le_refl _, fun i hi => by
  by_cases h : i < σ.length
  · rw [List.getElem?_append_left h]
  · omega⟩
theorem k_Mod_insert (hW : mo_W σ v ar) (hM : md_R (ar 1) h s) (hk : s.1 = 73) (hh : h ≤ 1600) (hT : mo_tb (ar 2) (ar 3) tb) (hup : ∀ t, t < 3 → rw_up (tb.getD t [])) (h7 : v 7 = 0) (h13 : v 13 = 0) (h14 : v 14 = 0) (hl : 288 ≤ σ.length) (hl9 : σ.length < 890000) (hD : 5 ≤ d) : nq_JM G d 1 3 m_Mod_insert [.ref 270, .int (nI h)] σ (xm_Q σ v ar tb (sx_exec tb s (v 15))) := by
  obtain ⟨d, rfl⟩ : ∃ d', d = d' + 1 := ⟨d - 1, by omega⟩
  obtain ⟨hok, out, hol, ho, m0, m1, m2, m3, m4, m5, m6⟩ := hM
  have ht := hok.2.1
  have hv3 : s.2.2.2.1.length = 3 := hok.2.2.2.1.1 hk
  have hwv := hok.2.2.2.2.1
  have hfl := hok.2.2.2.2.2.2.2.2.2.2.2.1
  have hE0 : ∀ (w : Nat → Int32) (a : mo_Ar), w 15 = v 15 → mn_E w a s (sx_env sx_row0 sx_row0 (v 15)) := fun w a e => ⟨fun i hi => absurd hi (by rw [hk]; exact Nat.not_lt_zero _), e⟩
  unfold sx_exec
  rw [if_pos hk]
  generalize hρ : sx_env sx_row0 sx_row0 (v 15) = ρ at hE0 ⊢
  generalize hvs : s.2.2.2.1 = vs at hv3 hwv hfl m3 ⊢
  have thr : ∀ (l3 : Option Value) (σ2 : nq_S) (P2 : Nat → Int32), mo_fg σ σ2 → mo_W σ2 (upd v 7 3) (ua ar 10 P2) → nq_J G (d + 1) 0 0 m_Mod_insert 47 [some (.ref 270), some (.int (nI h)), some (.ref σ.length), l3, none, none, none] [] σ2 (xm_Q σ v ar tb (.inl nq_AE)) := by
    intro l3 σ2 P2 F2 W2
    have w2 := W2.1
    have c1 : σ2[272]? = some (.inl (0, 2000, .inl (ar 1))) := W2.2.2.1
    have c3 : σ2[274]? = some (.inl (0, 3, .inl (ar 3))) := W2.2.2.2.2.1
    refine nq_aload_n (pc' := 48) d_Mod_insert_47 rfl rfl rfl ?_
    refine nq_getf (pc' := 51) d_Mod_insert_48 rfl fl_Mod_13 (by first | assumption | exact nq_ga (by assumption) | exact nq_gs (by first | assumption | exact nq_ga (by assumption) | exact nq_gs (by first | assumption | exact nq_gs (by assumption) | exact nq_gn (by first | assumption | decide | omega | exact nq_ne1 (by assumption) (by assumption) | exact nq_ne2 (by assumption) (by assumption)) (by assumption) | exact nq_ga (by assumption)) | exact nq_gn (by first | assumption | decide | omega | exact nq_ne1 (by assumption) (by assumption) | exact nq_ne2 (by assumption) (by assumption)) (by first | assumption | exact nq_gs (by assumption) | exact nq_gn (by first | assumption | decide | omega | exact nq_ne1 (by assumption) (by assumption) | exact nq_ne2 (by assumption) (by assumption)) (by assumption) | exact nq_ga (by assumption))) | exact nq_gn (by first | assumption | decide | omega | exact nq_ne1 (by assumption) (by assumption) | exact nq_ne2 (by assumption) (by assumption)) (by first | assumption | exact nq_ga (by assumption) | exact nq_gs (by first | assumption | exact nq_gs (by assumption) | exact nq_gn (by first | assumption | decide | omega | exact nq_ne1 (by assumption) (by assumption) | exact nq_ne2 (by assumption) (by assumption)) (by assumption) | exact nq_ga (by assumption)) | exact nq_gn (by first | assumption | decide | omega | exact nq_ne1 (by assumption) (by assumption) | exact nq_ne2 (by assumption) (by assumption)) (by first | assumption | exact nq_gs (by assumption) | exact nq_gn (by first | assumption | decide | omega | exact nq_ne1 (by assumption) (by assumption) | exact nq_ne2 (by assumption) (by assumption)) (by assumption) | exact nq_ga (by assumption)))) rfl ?_
    refine nq_iload_n (pc' := 52) d_Mod_insert_51 rfl rfl rfl ?_
    refine nq_iconst (v := 1) (pc' := 53) d_Mod_insert_52 rfl (by decide) ?_
    refine nq_iadd (pc' := 54) d_Mod_insert_53 rfl ?_
    refine nq_iald (pc' := 55) d_Mod_insert_54 rfl (by first | assumption | exact nq_ga (by assumption) | exact nq_gs (by first | assumption | exact nq_ga (by assumption) | exact nq_gs (by first | assumption | exact nq_gs (by assumption) | exact nq_gn (by first | assumption | decide | omega | exact nq_ne1 (by assumption) (by assumption) | exact nq_ne2 (by assumption) (by assumption)) (by assumption) | exact nq_ga (by assumption)) | exact nq_gn (by first | assumption | decide | omega | exact nq_ne1 (by assumption) (by assumption) | exact nq_ne2 (by assumption) (by assumption)) (by first | assumption | exact nq_gs (by assumption) | exact nq_gn (by first | assumption | decide | omega | exact nq_ne1 (by assumption) (by assumption) | exact nq_ne2 (by assumption) (by assumption)) (by assumption) | exact nq_ga (by assumption))) | exact nq_gn (by first | assumption | decide | omega | exact nq_ne1 (by assumption) (by assumption) | exact nq_ne2 (by assumption) (by assumption)) (by first | assumption | exact nq_ga (by assumption) | exact nq_gs (by first | assumption | exact nq_gs (by assumption) | exact nq_gn (by first | assumption | decide | omega | exact nq_ne1 (by assumption) (by assumption) | exact nq_ne2 (by assumption) (by assumption)) (by assumption) | exact nq_ga (by assumption)) | exact nq_gn (by first | assumption | decide | omega | exact nq_ne1 (by assumption) (by assumption) | exact nq_ne2 (by assumption) (by assumption)) (by first | assumption | exact nq_gs (by assumption) | exact nq_gn (by first | assumption | decide | omega | exact nq_ne1 (by assumption) (by assumption) | exact nq_ne2 (by assumption) (by assumption)) (by assumption) | exact nq_ga (by assumption)))) rfl (j := h + 1) (nI_add h 1) (by omega) (by decide) ?_
    rw [show ar 1 (h + 1) = nI s.2.1 from m1]
    refine nq_istore_n (pc' := 56) d_Mod_insert_55 rfl rfl (by decide) rfl ?_
    refine nq_aload_n (pc' := 57) d_Mod_insert_56 rfl rfl rfl ?_
    refine nq_getf (pc' := 60) d_Mod_insert_57 rfl fl_Mod_19 (by first | assumption | exact nq_ga (by assumption) | exact nq_gs (by first | assumption | exact nq_ga (by assumption) | exact nq_gs (by first | assumption | exact nq_gs (by assumption) | exact nq_gn (by first | assumption | decide | omega | exact nq_ne1 (by assumption) (by assumption) | exact nq_ne2 (by assumption) (by assumption)) (by assumption) | exact nq_ga (by assumption)) | exact nq_gn (by first | assumption | decide | omega | exact nq_ne1 (by assumption) (by assumption) | exact nq_ne2 (by assumption) (by assumption)) (by first | assumption | exact nq_gs (by assumption) | exact nq_gn (by first | assumption | decide | omega | exact nq_ne1 (by assumption) (by assumption) | exact nq_ne2 (by assumption) (by assumption)) (by assumption) | exact nq_ga (by assumption))) | exact nq_gn (by first | assumption | decide | omega | exact nq_ne1 (by assumption) (by assumption) | exact nq_ne2 (by assumption) (by assumption)) (by first | assumption | exact nq_ga (by assumption) | exact nq_gs (by first | assumption | exact nq_gs (by assumption) | exact nq_gn (by first | assumption | decide | omega | exact nq_ne1 (by assumption) (by assumption) | exact nq_ne2 (by assumption) (by assumption)) (by assumption) | exact nq_ga (by assumption)) | exact nq_gn (by first | assumption | decide | omega | exact nq_ne1 (by assumption) (by assumption) | exact nq_ne2 (by assumption) (by assumption)) (by first | assumption | exact nq_gs (by assumption) | exact nq_gn (by first | assumption | decide | omega | exact nq_ne1 (by assumption) (by assumption) | exact nq_ne2 (by assumption) (by assumption)) (by assumption) | exact nq_ga (by assumption)))) rfl ?_
    refine nq_iload_n (pc' := 61) d_Mod_insert_60 rfl rfl rfl ?_
    refine nq_iald (pc' := 62) d_Mod_insert_61 rfl (by first | assumption | exact nq_ga (by assumption) | exact nq_gs (by first | assumption | exact nq_ga (by assumption) | exact nq_gs (by first | assumption | exact nq_gs (by assumption) | exact nq_gn (by first | assumption | decide | omega | exact nq_ne1 (by assumption) (by assumption) | exact nq_ne2 (by assumption) (by assumption)) (by assumption) | exact nq_ga (by assumption)) | exact nq_gn (by first | assumption | decide | omega | exact nq_ne1 (by assumption) (by assumption) | exact nq_ne2 (by assumption) (by assumption)) (by first | assumption | exact nq_gs (by assumption) | exact nq_gn (by first | assumption | decide | omega | exact nq_ne1 (by assumption) (by assumption) | exact nq_ne2 (by assumption) (by assumption)) (by assumption) | exact nq_ga (by assumption))) | exact nq_gn (by first | assumption | decide | omega | exact nq_ne1 (by assumption) (by assumption) | exact nq_ne2 (by assumption) (by assumption)) (by first | assumption | exact nq_ga (by assumption) | exact nq_gs (by first | assumption | exact nq_gs (by assumption) | exact nq_gn (by first | assumption | decide | omega | exact nq_ne1 (by assumption) (by assumption) | exact nq_ne2 (by assumption) (by assumption)) (by assumption) | exact nq_ga (by assumption)) | exact nq_gn (by first | assumption | decide | omega | exact nq_ne1 (by assumption) (by assumption) | exact nq_ne2 (by assumption) (by assumption)) (by first | assumption | exact nq_gs (by assumption) | exact nq_gn (by first | assumption | decide | omega | exact nq_ne1 (by assumption) (by assumption) | exact nq_ne2 (by assumption) (by assumption)) (by assumption) | exact nq_ga (by assumption)))) rfl (j := s.2.1) rfl (by omega) (by decide) ?_
    refine nq_istore (pc' := 64) d_Mod_insert_62 rfl (by decide) rfl ?_
    refine nq_iconst (v := 0) (pc' := 65) d_Mod_insert_64 rfl (by decide) ?_
    refine nq_istore (pc' := 67) d_Mod_insert_65 rfl (by decide) rfl ?_
    refine nq_aload_n (pc' := 68) d_Mod_insert_67 rfl rfl rfl ?_
    refine nq_getf (pc' := 71) d_Mod_insert_68 rfl fl_Mod_63 (by first | assumption | exact nq_ga (by assumption) | exact nq_gs (by first | assumption | exact nq_ga (by assumption) | exact nq_gs (by first | assumption | exact nq_gs (by assumption) | exact nq_gn (by first | assumption | decide | omega | exact nq_ne1 (by assumption) (by assumption) | exact nq_ne2 (by assumption) (by assumption)) (by assumption) | exact nq_ga (by assumption)) | exact nq_gn (by first | assumption | decide | omega | exact nq_ne1 (by assumption) (by assumption) | exact nq_ne2 (by assumption) (by assumption)) (by first | assumption | exact nq_gs (by assumption) | exact nq_gn (by first | assumption | decide | omega | exact nq_ne1 (by assumption) (by assumption) | exact nq_ne2 (by assumption) (by assumption)) (by assumption) | exact nq_ga (by assumption))) | exact nq_gn (by first | assumption | decide | omega | exact nq_ne1 (by assumption) (by assumption) | exact nq_ne2 (by assumption) (by assumption)) (by first | assumption | exact nq_ga (by assumption) | exact nq_gs (by first | assumption | exact nq_gs (by assumption) | exact nq_gn (by first | assumption | decide | omega | exact nq_ne1 (by assumption) (by assumption) | exact nq_ne2 (by assumption) (by assumption)) (by assumption) | exact nq_ga (by assumption)) | exact nq_gn (by first | assumption | decide | omega | exact nq_ne1 (by assumption) (by assumption) | exact nq_ne2 (by assumption) (by assumption)) (by first | assumption | exact nq_gs (by assumption) | exact nq_gn (by first | assumption | decide | omega | exact nq_ne1 (by assumption) (by assumption) | exact nq_ne2 (by assumption) (by assumption)) (by assumption) | exact nq_ga (by assumption)))) rfl ?_
    refine nq_if_le (pc' := 74) (tgt := 76) d_Mod_insert_71 rfl (by decide) (fun h => absurd (show (3 : Int32) ≤ 0 from h) (by decide)) (fun _ => ?_)
    refine nq_iconst (v := 0) (pc' := 75) d_Mod_insert_74 rfl (by decide) ?_
    refine nq_iret d_Mod_insert_75 rfl rfl ⟨F2, upd v 7 3, ua ar 10 P2, 0, W2, (mx_k.a (by decide)).tr (mx_k.u (by decide)), rfl, rfl, hT⟩
  have loop : ∀ (m j : Nat) (xs : List Int32) (f : Nat → Int32) (σ1 : nq_S) (P : Nat → Int32), m + j = 3 → xs.length = j → (∀ k x, xs[k]? = some x → f k = x) → mo_fg σ σ1 → mo_W σ1 v (ua ar 10 P) → σ1[σ.length]? = some (.inl (0, 3, .inl f)) → nq_J G (d + 1) 0 0 m_Mod_insert 18 [some (.ref 270), some (.int (nI h)), some (.ref σ.length), some (.int (nI j)), none, none, none] [] σ1 (xm_Q σ v ar tb (match (match sx_vs (7 + j) ρ (vs.drop j) with
      | none => none
      | some ys => some (xs ++ ys)) with
    | none => .inl nq_AE
    | some xs => if (tb.getD s.2.1 []).any (fun r => r.1 == xs.getD 0 0) ∨ (tb.getD s.2.1 []).length = 20 then .inl nq_IS
      else .inr (1, tb.set s.2.1 (rw_ins (xs.getD 0 0, xs.getD 1 0, xs.getD 2 0) (tb.getD s.2.1 [])), [], 0))) := by
    intro m
    induction m with
    | zero =>
      intro j xs f σ1 P hm hx hf F1 W1 hA
      have hj3 : j = 3 := by omega
      subst hj3
      rw [List.drop_of_length_le (by omega)]
      unfold sx_vs
      simp only [List.append_nil]
      match xs, hx with
      | [x0, x1, x2], _ =>
      refine nq_iload_n (pc' := 19) d_Mod_insert_18 rfl rfl rfl ?_
      refine nq_iconst (v := 3) (pc' := 20) d_Mod_insert_19 rfl (by decide) ?_
      refine nq_icmp_ge (pc' := 23) (tgt := 47) d_Mod_insert_20 rfl (by decide) (fun _ => ?_) (fun h => absurd (Int32.le_refl _) h)
      exact mi_after (x0 := x0) (x1 := x1) (x2 := x2) hT hup hok hh m1 h7 h13 h14 hl rfl F1 W1 hA (hf 0 x0 rfl) (hf 1 x1 rfl) (hf 2 x2 rfl) (by omega)
    | succ m ih =>
      intro j xs f σ1 P hm hx hf F1 W1 hA
      have hjl : j < vs.length := by omega
      have hg := List.getElem?_eq_getElem hjl
      obtain ⟨off, o1, o2⟩ := m3.2 j _ hg
      obtain ⟨wf1, wl1⟩ := sp_wv_at hwv hg
      rw [sx_vs_drop (List.drop_eq_getElem_cons hjl)]
      generalize vs[j] = c at hg o1 o2 wf1 wl1 ⊢
      have w1 := W1.1
      have hA270 : σ.length ≠ 270 := by omega
      refine nq_iload_n (pc' := 19) d_Mod_insert_18 rfl rfl rfl ?_
      refine nq_iconst (v := 3) (pc' := 20) d_Mod_insert_19 rfl (by decide) ?_
      refine nq_icmp_ge (pc' := 23) (tgt := 47) d_Mod_insert_20 rfl (by decide) (fun h => absurd ((nI_leI (a := 3) (by omega) (by omega)).mp h) (by omega)) (fun _ => ?_)
      refine nq_aload_n (pc' := 24) d_Mod_insert_23 rfl rfl rfl ?_
      refine nq_getf (pc' := 27) d_Mod_insert_24 rfl fl_Mod_63 (by first | assumption | exact nq_ga (by assumption) | exact nq_gs (by first | assumption | exact nq_ga (by assumption) | exact nq_gs (by first | assumption | exact nq_gs (by assumption) | exact nq_gn (by first | assumption | decide | omega | exact nq_ne1 (by assumption) (by assumption) | exact nq_ne2 (by assumption) (by assumption)) (by assumption) | exact nq_ga (by assumption)) | exact nq_gn (by first | assumption | decide | omega | exact nq_ne1 (by assumption) (by assumption) | exact nq_ne2 (by assumption) (by assumption)) (by first | assumption | exact nq_gs (by assumption) | exact nq_gn (by first | assumption | decide | omega | exact nq_ne1 (by assumption) (by assumption) | exact nq_ne2 (by assumption) (by assumption)) (by assumption) | exact nq_ga (by assumption))) | exact nq_gn (by first | assumption | decide | omega | exact nq_ne1 (by assumption) (by assumption) | exact nq_ne2 (by assumption) (by assumption)) (by first | assumption | exact nq_ga (by assumption) | exact nq_gs (by first | assumption | exact nq_gs (by assumption) | exact nq_gn (by first | assumption | decide | omega | exact nq_ne1 (by assumption) (by assumption) | exact nq_ne2 (by assumption) (by assumption)) (by assumption) | exact nq_ga (by assumption)) | exact nq_gn (by first | assumption | decide | omega | exact nq_ne1 (by assumption) (by assumption) | exact nq_ne2 (by assumption) (by assumption)) (by first | assumption | exact nq_gs (by assumption) | exact nq_gn (by first | assumption | decide | omega | exact nq_ne1 (by assumption) (by assumption) | exact nq_ne2 (by assumption) (by assumption)) (by assumption) | exact nq_ga (by assumption)))) rfl ?_
      rw [h7]
      refine nq_if_ne (pc' := 30) (tgt := 47) d_Mod_insert_27 rfl (by decide) (fun h => absurd rfl h) (fun _ => ?_)
      refine nq_aload_n (pc' := 31) d_Mod_insert_30 rfl rfl rfl ?_
      refine nq_iload_n (pc' := 32) d_Mod_insert_31 rfl rfl rfl ?_
      refine nq_aload_n (pc' := 33) d_Mod_insert_32 rfl rfl rfl ?_
      refine nq_iload_n (pc' := 34) d_Mod_insert_33 rfl rfl rfl ?_
      refine nq_iconst (v := 4) (pc' := 35) d_Mod_insert_34 rfl (by decide) ?_
      refine nq_iload_n (pc' := 36) d_Mod_insert_35 rfl rfl rfl ?_
      refine nq_iadd (pc' := 37) d_Mod_insert_36 rfl ?_
      rw [show (4 : Int32) + nI j = nI (4 + j) from nI_add 4 j]
      refine nq_callV (pc' := 40) d_Mod_insert_37 rfl cl_Mod_154 rfl (by first | assumption | exact nq_ga (by assumption) | exact nq_gs (by first | assumption | exact nq_ga (by assumption) | exact nq_gs (by first | assumption | exact nq_gs (by assumption) | exact nq_gn (by first | assumption | decide | omega | exact nq_ne1 (by assumption) (by assumption) | exact nq_ne2 (by assumption) (by assumption)) (by assumption) | exact nq_ga (by assumption)) | exact nq_gn (by first | assumption | decide | omega | exact nq_ne1 (by assumption) (by assumption) | exact nq_ne2 (by assumption) (by assumption)) (by first | assumption | exact nq_gs (by assumption) | exact nq_gn (by first | assumption | decide | omega | exact nq_ne1 (by assumption) (by assumption) | exact nq_ne2 (by assumption) (by assumption)) (by assumption) | exact nq_ga (by assumption))) | exact nq_gn (by first | assumption | decide | omega | exact nq_ne1 (by assumption) (by assumption) | exact nq_ne2 (by assumption) (by assumption)) (by first | assumption | exact nq_ga (by assumption) | exact nq_gs (by first | assumption | exact nq_gs (by assumption) | exact nq_gn (by first | assumption | decide | omega | exact nq_ne1 (by assumption) (by assumption) | exact nq_ne2 (by assumption) (by assumption)) (by assumption) | exact nq_ga (by assumption)) | exact nq_gn (by first | assumption | decide | omega | exact nq_ne1 (by assumption) (by assumption) | exact nq_ne2 (by assumption) (by assumption)) (by first | assumption | exact nq_gs (by assumption) | exact nq_gn (by first | assumption | decide | omega | exact nq_ne1 (by assumption) (by assumption) | exact nq_ne2 (by assumption) (by assumption)) (by assumption) | exact nq_ga (by assumption)))) rfl rfl (kc := 0) (ks := 0) (mc' := 0) (ms' := 0) (As := [.int (nI h), .int (nI (4 + j))]) (rest := [.int (nI j), .ref σ.length]) rfl rfl (Nat.le_of_ble_eq_true rfl) (mn_val (s := s) (ρ := ρ) (b := 7 + j) W1 h7 (by omega) hh (by omega) ho hol o1 o2 wf1 (by omega) (hE0 v _ rfl) (by omega)) (fun E σ2 hq => by obtain ⟨_, _, _, hq, _⟩ := hq; cases hq) (fun z σ2 hq => ?_)
      obtain ⟨f2, P2, y, e2, hq⟩ := hq
      cases e2
      have hA2 : σ2[σ.length]? = some (.inl (0, 3, .inl f)) := (f2.2 _ (by omega)).trans hA
      have F2 := F1.fr f2 hl
      refine nq_iast (pc' := 41) d_Mod_insert_40 rfl (by first | assumption | exact nq_ga (by assumption) | exact nq_gs (by first | assumption | exact nq_ga (by assumption) | exact nq_gs (by first | assumption | exact nq_gs (by assumption) | exact nq_gn (by first | assumption | decide | omega | exact nq_ne1 (by assumption) (by assumption) | exact nq_ne2 (by assumption) (by assumption)) (by assumption) | exact nq_ga (by assumption)) | exact nq_gn (by first | assumption | decide | omega | exact nq_ne1 (by assumption) (by assumption) | exact nq_ne2 (by assumption) (by assumption)) (by first | assumption | exact nq_gs (by assumption) | exact nq_gn (by first | assumption | decide | omega | exact nq_ne1 (by assumption) (by assumption) | exact nq_ne2 (by assumption) (by assumption)) (by assumption) | exact nq_ga (by assumption))) | exact nq_gn (by first | assumption | decide | omega | exact nq_ne1 (by assumption) (by assumption) | exact nq_ne2 (by assumption) (by assumption)) (by first | assumption | exact nq_ga (by assumption) | exact nq_gs (by first | assumption | exact nq_gs (by assumption) | exact nq_gn (by first | assumption | decide | omega | exact nq_ne1 (by assumption) (by assumption) | exact nq_ne2 (by assumption) (by assumption)) (by assumption) | exact nq_ga (by assumption)) | exact nq_gn (by first | assumption | decide | omega | exact nq_ne1 (by assumption) (by assumption) | exact nq_ne2 (by assumption) (by assumption)) (by first | assumption | exact nq_gs (by assumption) | exact nq_gn (by first | assumption | decide | omega | exact nq_ne1 (by assumption) (by assumption) | exact nq_ne2 (by assumption) (by assumption)) (by assumption) | exact nq_ga (by assumption)))) rfl (j := j) rfl (by omega) (by decide) ?_
      have F3 : mo_fg σ (σ2.set σ.length (.inl (0, 3, .inl (upd f j y)))) := ⟨by rw [List.length_set]; exact F2.1, by rw [List.length_set]; exact F2.2.1, fun i hi => by rw [List.getElem?_set_ne (by omega)]; exact F2.2.2 i hi⟩
      cases hx1 : vl c (7 + j) ρ with
      | none =>
        rw [hx1] at hq
        simp only at hq ⊢
        rw [ua_ua] at hq
        have W3 : mo_W (σ2.set σ.length (.inl (0, 3, .inl (upd f j y)))) (upd v 7 3) (ua ar 10 P2) := hq.of (fun i a b => List.getElem?_set_ne (by omega))
        generalize σ2.set σ.length (.inl (0, 3, .inl (upd f j y))) = σ3 at F3 W3 ⊢
        have w3 := W3.1
        refine nq_iinc (pc' := 44) d_Mod_insert_41 rfl rfl (v := nI (j + 1)) (nI_1 j) (by decide) rfl ?_
        refine nq_goto (tgt := 18) d_Mod_insert_44 (by decide) ?_
        refine nq_iload_n (pc' := 19) d_Mod_insert_18 rfl rfl rfl ?_
        refine nq_iconst (v := 3) (pc' := 20) d_Mod_insert_19 rfl (by decide) ?_
        by_cases hj2 : 3 ≤ j + 1
        · refine nq_icmp_ge (pc' := 23) (tgt := 47) d_Mod_insert_20 rfl (by decide) (fun _ => thr _ σ3 P2 F3 W3) (fun h => absurd ((nI_leI (a := 3) (by omega) (by omega)).mpr hj2) h)
        refine nq_icmp_ge (pc' := 23) (tgt := 47) d_Mod_insert_20 rfl (by decide) (fun h => absurd ((nI_leI (a := 3) (by omega) (by omega)).mp h) hj2) (fun _ => ?_)
        refine nq_aload_n (pc' := 24) d_Mod_insert_23 rfl rfl rfl ?_
        refine nq_getf (pc' := 27) d_Mod_insert_24 rfl fl_Mod_63 (by first | assumption | exact nq_ga (by assumption) | exact nq_gs (by first | assumption | exact nq_ga (by assumption) | exact nq_gs (by first | assumption | exact nq_gs (by assumption) | exact nq_gn (by first | assumption | decide | omega | exact nq_ne1 (by assumption) (by assumption) | exact nq_ne2 (by assumption) (by assumption)) (by assumption) | exact nq_ga (by assumption)) | exact nq_gn (by first | assumption | decide | omega | exact nq_ne1 (by assumption) (by assumption) | exact nq_ne2 (by assumption) (by assumption)) (by first | assumption | exact nq_gs (by assumption) | exact nq_gn (by first | assumption | decide | omega | exact nq_ne1 (by assumption) (by assumption) | exact nq_ne2 (by assumption) (by assumption)) (by assumption) | exact nq_ga (by assumption))) | exact nq_gn (by first | assumption | decide | omega | exact nq_ne1 (by assumption) (by assumption) | exact nq_ne2 (by assumption) (by assumption)) (by first | assumption | exact nq_ga (by assumption) | exact nq_gs (by first | assumption | exact nq_gs (by assumption) | exact nq_gn (by first | assumption | decide | omega | exact nq_ne1 (by assumption) (by assumption) | exact nq_ne2 (by assumption) (by assumption)) (by assumption) | exact nq_ga (by assumption)) | exact nq_gn (by first | assumption | decide | omega | exact nq_ne1 (by assumption) (by assumption) | exact nq_ne2 (by assumption) (by assumption)) (by first | assumption | exact nq_gs (by assumption) | exact nq_gn (by first | assumption | decide | omega | exact nq_ne1 (by assumption) (by assumption) | exact nq_ne2 (by assumption) (by assumption)) (by assumption) | exact nq_ga (by assumption)))) rfl ?_
        refine nq_if_ne (pc' := 30) (tgt := 47) d_Mod_insert_27 rfl (by decide) (fun _ => thr _ σ3 P2 F3 W3) (fun h => absurd (show (3 : Int32) = 0 from h) (by decide))
      | some x =>
        rw [hx1] at hq
        obtain ⟨rfl, W2⟩ := hq
        simp only
        rw [ua_ua] at W2
        have W3 : mo_W (σ2.set σ.length (.inl (0, 3, .inl (upd f j y)))) v (ua ar 10 P2) := W2.of (fun i a b => List.getElem?_set_ne (by omega))
        have hA3 : (σ2.set σ.length (.inl (0, 3, .inl (upd f j y))))[σ.length]? = some (.inl (0, 3, .inl (upd f j y))) := nq_gs hA2
        refine nq_iinc (pc' := 44) d_Mod_insert_41 rfl rfl (v := nI (j + 1)) (nI_1 j) (by decide) rfl ?_
        refine nq_goto (tgt := 18) d_Mod_insert_44 (by decide) ?_
        have := ih (j + 1) (xs ++ [y]) (upd f j y) _ P2 (by omega) (by simp [hx]) (fun k z hz => by
          by_cases hkj : k = j
          · subst hkj
            rw [upd_at]
            rw [List.getElem?_append_right (by omega), hx, Nat.sub_self] at hz
            cases hz
            rfl
          · have hll := (List.getElem?_eq_some_iff.mp hz).1
            simp only [List.length_append, List.length_cons, List.length_nil] at hll
            rw [List.getElem?_append_left (by omega)] at hz
            rw [upd_ne hkj]
            exact hf k z hz) F3 W3 hA3
        rw [show 7 + j + 1 = 7 + (j + 1) from rfl]
        cases hy : sx_vs (7 + (j + 1)) ρ (vs.drop (j + 1)) with
        | none =>
          rw [hy] at this
          exact this
        | some ys =>
          rw [hy] at this
          simp only [List.append_assoc, List.singleton_append] at this ⊢
          exact this
  refine nq_mk' (lv := [some (.ref 270), some (.int (nI h)), none, none, none, none, none]) (by decide +kernel) rfl (Nat.le_of_ble_eq_true rfl) rfl ?_
  refine nq_iconst (v := 3) (pc' := 1) d_Mod_insert_0 rfl (by decide) ?_
  refine nq_newa_int (t := 0) (pc' := 3) d_Mod_insert_1 rfl rfl ac_int rfl rfl (by decide) (kc := 0) (ks := 0) (by omega) ?_
  have hA0 : (σ ++ [.inl (0, 3, .inl (fun _ => 0))])[σ.length]? = some (.inl (0, 3, .inl (fun _ => 0))) := nq_gl
  refine nq_dup (pc' := 4) d_Mod_insert_3 rfl rfl ?_
  refine nq_iconst (v := 0) (pc' := 5) d_Mod_insert_4 rfl (by decide) ?_
  refine nq_iconst (v := 0) (pc' := 6) d_Mod_insert_5 rfl (by decide) ?_
  refine nq_iast (pc' := 7) d_Mod_insert_6 rfl (by first | assumption | exact nq_ga (by assumption) | exact nq_gs (by first | assumption | exact nq_ga (by assumption) | exact nq_gs (by first | assumption | exact nq_gs (by assumption) | exact nq_gn (by first | assumption | decide | omega | exact nq_ne1 (by assumption) (by assumption) | exact nq_ne2 (by assumption) (by assumption)) (by assumption) | exact nq_ga (by assumption)) | exact nq_gn (by first | assumption | decide | omega | exact nq_ne1 (by assumption) (by assumption) | exact nq_ne2 (by assumption) (by assumption)) (by first | assumption | exact nq_gs (by assumption) | exact nq_gn (by first | assumption | decide | omega | exact nq_ne1 (by assumption) (by assumption) | exact nq_ne2 (by assumption) (by assumption)) (by assumption) | exact nq_ga (by assumption))) | exact nq_gn (by first | assumption | decide | omega | exact nq_ne1 (by assumption) (by assumption) | exact nq_ne2 (by assumption) (by assumption)) (by first | assumption | exact nq_ga (by assumption) | exact nq_gs (by first | assumption | exact nq_gs (by assumption) | exact nq_gn (by first | assumption | decide | omega | exact nq_ne1 (by assumption) (by assumption) | exact nq_ne2 (by assumption) (by assumption)) (by assumption) | exact nq_ga (by assumption)) | exact nq_gn (by first | assumption | decide | omega | exact nq_ne1 (by assumption) (by assumption) | exact nq_ne2 (by assumption) (by assumption)) (by first | assumption | exact nq_gs (by assumption) | exact nq_gn (by first | assumption | decide | omega | exact nq_ne1 (by assumption) (by assumption) | exact nq_ne2 (by assumption) (by assumption)) (by assumption) | exact nq_ga (by assumption)))) rfl (j := 0) rfl (by decide) (by decide) ?_
  refine nq_dup (pc' := 8) d_Mod_insert_7 rfl rfl ?_
  refine nq_iconst (v := 1) (pc' := 9) d_Mod_insert_8 rfl (by decide) ?_
  refine nq_iconst (v := 0) (pc' := 10) d_Mod_insert_9 rfl (by decide) ?_
  refine nq_iast (pc' := 11) d_Mod_insert_10 rfl (by first | assumption | exact nq_ga (by assumption) | exact nq_gs (by first | assumption | exact nq_ga (by assumption) | exact nq_gs (by first | assumption | exact nq_gs (by assumption) | exact nq_gn (by first | assumption | decide | omega | exact nq_ne1 (by assumption) (by assumption) | exact nq_ne2 (by assumption) (by assumption)) (by assumption) | exact nq_ga (by assumption)) | exact nq_gn (by first | assumption | decide | omega | exact nq_ne1 (by assumption) (by assumption) | exact nq_ne2 (by assumption) (by assumption)) (by first | assumption | exact nq_gs (by assumption) | exact nq_gn (by first | assumption | decide | omega | exact nq_ne1 (by assumption) (by assumption) | exact nq_ne2 (by assumption) (by assumption)) (by assumption) | exact nq_ga (by assumption))) | exact nq_gn (by first | assumption | decide | omega | exact nq_ne1 (by assumption) (by assumption) | exact nq_ne2 (by assumption) (by assumption)) (by first | assumption | exact nq_ga (by assumption) | exact nq_gs (by first | assumption | exact nq_gs (by assumption) | exact nq_gn (by first | assumption | decide | omega | exact nq_ne1 (by assumption) (by assumption) | exact nq_ne2 (by assumption) (by assumption)) (by assumption) | exact nq_ga (by assumption)) | exact nq_gn (by first | assumption | decide | omega | exact nq_ne1 (by assumption) (by assumption) | exact nq_ne2 (by assumption) (by assumption)) (by first | assumption | exact nq_gs (by assumption) | exact nq_gn (by first | assumption | decide | omega | exact nq_ne1 (by assumption) (by assumption) | exact nq_ne2 (by assumption) (by assumption)) (by assumption) | exact nq_ga (by assumption)))) rfl (j := 1) rfl (by decide) (by decide) ?_
  rw [nq_ss]
  refine nq_dup (pc' := 12) d_Mod_insert_11 rfl rfl ?_
  refine nq_iconst (v := 2) (pc' := 13) d_Mod_insert_12 rfl (by decide) ?_
  refine nq_iconst (v := 0) (pc' := 14) d_Mod_insert_13 rfl (by decide) ?_
  refine nq_iast (pc' := 15) d_Mod_insert_14 rfl (by first | assumption | exact nq_ga (by assumption) | exact nq_gs (by first | assumption | exact nq_ga (by assumption) | exact nq_gs (by first | assumption | exact nq_gs (by assumption) | exact nq_gn (by first | assumption | decide | omega | exact nq_ne1 (by assumption) (by assumption) | exact nq_ne2 (by assumption) (by assumption)) (by assumption) | exact nq_ga (by assumption)) | exact nq_gn (by first | assumption | decide | omega | exact nq_ne1 (by assumption) (by assumption) | exact nq_ne2 (by assumption) (by assumption)) (by first | assumption | exact nq_gs (by assumption) | exact nq_gn (by first | assumption | decide | omega | exact nq_ne1 (by assumption) (by assumption) | exact nq_ne2 (by assumption) (by assumption)) (by assumption) | exact nq_ga (by assumption))) | exact nq_gn (by first | assumption | decide | omega | exact nq_ne1 (by assumption) (by assumption) | exact nq_ne2 (by assumption) (by assumption)) (by first | assumption | exact nq_ga (by assumption) | exact nq_gs (by first | assumption | exact nq_gs (by assumption) | exact nq_gn (by first | assumption | decide | omega | exact nq_ne1 (by assumption) (by assumption) | exact nq_ne2 (by assumption) (by assumption)) (by assumption) | exact nq_ga (by assumption)) | exact nq_gn (by first | assumption | decide | omega | exact nq_ne1 (by assumption) (by assumption) | exact nq_ne2 (by assumption) (by assumption)) (by first | assumption | exact nq_gs (by assumption) | exact nq_gn (by first | assumption | decide | omega | exact nq_ne1 (by assumption) (by assumption) | exact nq_ne2 (by assumption) (by assumption)) (by assumption) | exact nq_ga (by assumption)))) rfl (j := 2) rfl (by decide) (by decide) ?_
  rw [nq_ss]
  refine nq_astore_n (pc' := 16) d_Mod_insert_15 rfl rfl (by decide) rfl ?_
  refine nq_iconst (v := 0) (pc' := 17) d_Mod_insert_16 rfl (by decide) ?_
  refine nq_istore_n (pc' := 18) d_Mod_insert_17 rfl rfl (by decide) rfl ?_
  have e0 : upd (upd (upd (fun _ => (0 : Int32)) 0 0) 1 0) 2 0 = fun _ => 0 := by
    funext j
    unfold upd
    split
    · rfl
    · split
      · rfl
      · split <;> rfl
  rw [e0, nq_set_self hA0]
  have := loop 3 0 [] (fun _ => 0) (σ ++ [.inl (0, 3, .inl (fun _ => 0))]) (ar 10) rfl rfl (fun k x hx => by simp at hx) (mo_fg.ap hl) (by rw [ua_self]; exact hW.ap hl) hA0
  rw [List.drop_zero] at this
  cases hy : sx_vs 7 ρ vs with
  | none =>
    rw [show (7 + 0) = 7 from rfl, hy] at this
    exact this
  | some ys =>
    rw [show (7 + 0) = 7 from rfl, hy] at this
    exact this
end MI3
