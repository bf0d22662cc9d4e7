/-! THE OTHER STORE: keep, run, ask -/
theorem md_R.of {cd cd' : Nat → Int32} {h h' : Nat} {s : sp_St} (k : md_R cd h s) (e : ∀ j, j < 400 → cd' (h' + j) = cd (h + j)) : md_R cd' h' s := by
  obtain ⟨hok, out, hol, ho, m0, m1, m2, m3, m4, m5, m6⟩ := k
  have hl3 : s.2.2.2.1.length ≤ 3 := hok.2.2.2.1.2.2.2.2.2
  have hc11 : s.2.2.2.2.2.1.length ≤ 11 := hok.2.2.2.2.2.2.2.2.2.2.2.2
  have m3' := m3.of (hd' := fun j => cd' (h' + j)) (t := []) hl3 (fun j a b => e j (by omega))
  rw [List.append_nil] at m3'
  refine ⟨hok, out, hol, fun j x hx => ?_, (e 0 (by omega)).trans m0, (e 1 (by omega)).trans m1, fun h => (e 2 (by omega)).trans (m2 h), m3', (e 9 (by omega)).trans m4, ⟨(e 8 (by omega)).trans m5.1, fun k x hk => ?_⟩, (e 10 (by omega)).trans m6⟩
  · have hj : j < out.length := (List.getElem?_eq_some_iff.1 hx).1
    have := e (70 + j) (by omega)
    rw [← Nat.add_assoc, ← Nat.add_assoc] at this
    exact this.trans (ho j x hx)
  · have hj := (List.getElem?_eq_some_iff.1 hk).1
    have := (m5.2 k x hk).of (hd' := fun j => cd' (h' + j)) (t := []) (fun j a b => e j (by omega))
    rw [List.append_nil] at this
    exact this
theorem mo_P.u7 {v : Nat → Int32} {ar : mo_Ar} {x : Int32} {S : sx_S} (h : mo_P v ar S) : mo_P (upd v 7 x) ar S := by
  obtain ⟨T, pl, kp, tb, old, bg, nt, dn, fl, res, w9⟩ := S
  exact h
theorem mo_P.rd {v v' : Nat → Int32} {ar ar' : mo_Ar} {T : List Nat} {pl pl' : Int32} {r : (Nat → Option sp_St) × sx_T × sx_T × Bool × Int32 × Int32 × Int32 × List sx_E × Nat} (h : mo_P v ar (T, pl, r)) (k : mr_k v ar v' ar') (hpl : v' 1 = pl') : mo_P v' ar' ([], pl', r) := by
  obtain ⟨kp, tb, old, bg, nt, dn, fl, res, w9⟩ := r
  obtain ⟨⟨p0, p1, p2⟩, p3, ⟨p4, p5⟩, ⟨p6, p7, p8, p9⟩, p10, p11, p12⟩ := h
  obtain ⟨k1, k2, k3, k4, _⟩ := k
  refine ⟨⟨k4, ⟨by simp, fun i x h => (by cases h)⟩, hpl⟩, fun j hj => ⟨fun h => ?_, fun s h => ?_⟩, ⟨?_, ?_⟩, ⟨(k1 12 (by decide)).trans p6, (k1 8 (by decide)).trans p7, (k1 9 (by decide)).trans p8, (k1 10 (by decide)).trans p9⟩, (k1 13 (by decide)).trans p10, fun h => (k1 14 (by decide)).trans (p11 h), ?_⟩
  · rw [k2 6 (by decide) (by decide) (by decide) (by decide)]
    exact (p3 j hj).1 h
  · rw [k2 6 (by decide) (by decide) (by decide) (by decide)]
    exact ⟨((p3 j hj).2 s h).1, ((p3 j hj).2 s h).2.of (fun i hi => k3 _ (by omega))⟩
  · rw [k2 2 (by decide) (by decide) (by decide) (by decide), k2 3 (by decide) (by decide) (by decide) (by decide)]
    exact p4
  · rw [k2 4 (by decide) (by decide) (by decide) (by decide), k2 5 (by decide) (by decide) (by decide) (by decide)]
    exact p5
  · rw [k2 12 (by decide) (by decide) (by decide) (by decide)]
    exact p12
def mk_cp (cd : Nat → Int32) (k i : Nat) : Nat → Int32 := fun j => if 400 * k ≤ j ∧ j < 400 * k + i then cd (1600 + (j - 400 * k)) else cd j
theorem mk_cp_st {cd : Nat → Int32} {k i : Nat} (hk : k < 4) (hi : i < 400) : upd (mk_cp cd k i) (400 * k + i) (mk_cp cd k i (1600 + i)) = mk_cp cd k (i + 1) := by
  funext j
  unfold upd
  unfold mk_cp
  by_cases h : j = 400 * k + i
  · rw [if_pos h, if_neg (by omega), if_pos (by omega), h, Nat.add_sub_cancel_left]
  · rw [if_neg h]
    by_cases h2 : 400 * k ≤ j ∧ j < 400 * k + i
    · rw [if_pos h2, if_pos (by omega)]
    · rw [if_neg h2, if_neg (by omega)]
section MK
variable {G : nq_G} {d : Nat} {σ : nq_S} {v : Nat → Int32} {ar : mo_Ar} {S : sx_S}
theorem k_Mod_bad0 (hW : mo_W σ v ar) : nq_JM G d 0 0 m_Mod_bad [.ref 270, .int 0] σ (nq_R (some (.int 1)) (σ.set 270 (mo_F (upd v 7 1)))) := k_Mod_bad (b := false) hW
theorem k_Mod_bad1 (hW : mo_W σ v ar) : nq_JM G d 0 0 m_Mod_bad [.ref 270, .int 1] σ (nq_R (some (.int 0)) (σ.set 270 (mo_F (upd v 7 0)))) := k_Mod_bad (b := true) hW
theorem k_Mod_in1 {x lo hi : Int32} (h : lo ≤ x ∧ x ≤ hi) : nq_JM G d 0 0 m_Mod_in [.int x, .int lo, .int hi] σ (nq_R (some (.int 1)) σ) := by
  have := k_Mod_in (G := G) (d := d) (σ := σ) (x := x) (lo := lo) (hi := hi)
  rw [if_pos h] at this
  exact this
theorem k_Mod_in0 {x lo hi : Int32} (h : ¬ (lo ≤ x ∧ x ≤ hi)) : nq_JM G d 0 0 m_Mod_in [.int x, .int lo, .int hi] σ (nq_R (some (.int 0)) σ) := by
  have := k_Mod_in (G := G) (d := d) (σ := σ) (x := x) (lo := lo) (hi := hi)
  rw [if_neg h] at this
  exact this
theorem mo_i4 {k : Int32} (hk : ¬ (k < 0 ∨ 4 ≤ k)) : ∃ j, j < 4 ∧ k = nI j ∧ 0 ≤ k ∧ k ≤ 3 := by
  obtain ⟨j, hj, rfl⟩ := qs_i4 (fun h => hk (.inl h)) (fun h => hk (.inr h))
  exact ⟨j, hj, rfl, Int32.not_lt.mp (fun h => hk (.inl h)), (nI_leI (a := j) (b := 3) (by omega) (by omega)).mpr (by omega)⟩
theorem mo_n4 {k : Int32} (hk : k < 0 ∨ 4 ≤ k) : ¬ (0 ≤ k ∧ k ≤ 3) := by
  rintro ⟨a, b⟩
  rcases hk with h | h
  · exact Int32.not_lt.mpr a h
  · exact absurd (Int32.le_trans h b) (by decide)
theorem k_Mod_run {k p : Int32} (hW : mo_W σ v ar) (hP : mo_P v ar S) (hup : ∀ t, t < 3 → rw_up (S.2.2.2.1.getD t [])) (hl : 288 ≤ σ.length) (hl9 : σ.length < 890000) (hD : 10 ≤ d) : nq_JM G d 1 3 m_Mod_run [.ref 270, .int k, .int p] σ (mo_Q mo_run σ (sx_runk k p S)) := by
  obtain ⟨d, rfl⟩ : ∃ d', d = d' + 1 := ⟨d - 1, by omega⟩
  have w := hW.1
  have F1 : ∀ x, mo_fr σ (σ.set 270 (mo_F (upd v 7 x))) := fun x => mo_fr.st (by decide)
  have W1 : ∀ x, mo_W (σ.set 270 (mo_F (upd v 7 x))) (upd v 7 x) ar := fun x => hW.fi
  unfold sx_runk
  refine nq_mk' (lv := [some (.ref 270), some (.int k), some (.int p)]) (by decide +kernel) rfl (Nat.le_of_ble_eq_true rfl) rfl ?_
  refine nq_aload_n (pc' := 1) d_Mod_run_0 rfl rfl rfl ?_
  refine nq_iload_n (pc' := 2) d_Mod_run_1 rfl rfl rfl ?_
  refine nq_iconst (v := 0) (pc' := 3) d_Mod_run_2 rfl (by decide) ?_
  refine nq_iconst (v := 3) (pc' := 4) d_Mod_run_3 rfl (by decide) ?_
  by_cases hk : k < 0 ∨ 4 ≤ k
  · rw [if_pos hk]
    refine nq_callSR (pc' := 7) d_Mod_run_4 rfl cl_Mod_66 st_Mod_66 rfl (kc := 1) (ks := 3) (mc' := 0) (ms' := 0) (As := [.int k, .int 0, .int 3]) (rest := [.ref 270]) rfl rfl (by decide) (k_Mod_in0 (mo_n4 hk)) ?_
    refine nq_callVR (pc' := 10) d_Mod_run_7 rfl cl_Mod_70 rfl (by first | assumption | exact nq_ga (by assumption) | exact nq_gs (by first | assumption | exact nq_ga (by assumption) | exact nq_gs (by first | assumption | exact nq_gs (by assumption) | exact nq_gn (by first | assumption | decide | omega | exact nq_ne1 (by assumption) (by assumption) | exact nq_ne2 (by assumption) (by assumption)) (by assumption) | exact nq_ga (by assumption)) | exact nq_gn (by first | assumption | decide | omega | exact nq_ne1 (by assumption) (by assumption) | exact nq_ne2 (by assumption) (by assumption)) (by first | assumption | exact nq_gs (by assumption) | exact nq_gn (by first | assumption | decide | omega | exact nq_ne1 (by assumption) (by assumption) | exact nq_ne2 (by assumption) (by assumption)) (by assumption) | exact nq_ga (by assumption))) | exact nq_gn (by first | assumption | decide | omega | exact nq_ne1 (by assumption) (by assumption) | exact nq_ne2 (by assumption) (by assumption)) (by first | assumption | exact nq_ga (by assumption) | exact nq_gs (by first | assumption | exact nq_gs (by assumption) | exact nq_gn (by first | assumption | decide | omega | exact nq_ne1 (by assumption) (by assumption) | exact nq_ne2 (by assumption) (by assumption)) (by assumption) | exact nq_ga (by assumption)) | exact nq_gn (by first | assumption | decide | omega | exact nq_ne1 (by assumption) (by assumption) | exact nq_ne2 (by assumption) (by assumption)) (by first | assumption | exact nq_gs (by assumption) | exact nq_gn (by first | assumption | decide | omega | exact nq_ne1 (by assumption) (by assumption) | exact nq_ne2 (by assumption) (by assumption)) (by assumption) | exact nq_ga (by assumption)))) rfl rfl (kc := 1) (ks := 3) (mc' := 0) (ms' := 0) (As := [.int 0]) (rest := []) rfl rfl (by decide) (k_Mod_bad0 hW) ?_
    refine nq_if_eq (pc' := 13) (tgt := 15) d_Mod_run_10 rfl (by decide) (fun h => absurd h (by decide)) (fun _ => ?_)
    refine nq_iconst (v := 0) (pc' := 14) d_Mod_run_13 rfl (by decide) ?_
    refine nq_iret d_Mod_run_14 rfl rfl ⟨(F1 1).g, upd v 7 1, ar, 0, W1 1, hP.u7, rfl, rfl⟩
  rw [if_neg hk]
  obtain ⟨j, hj, hkj, k0, k3⟩ := mo_i4 hk
  refine nq_callSR (pc' := 7) d_Mod_run_4 rfl cl_Mod_66 st_Mod_66 rfl (kc := 1) (ks := 3) (mc' := 0) (ms' := 0) (As := [.int k, .int 0, .int 3]) (rest := [.ref 270]) rfl rfl (by decide) (k_Mod_in1 ⟨k0, k3⟩) ?_
  refine nq_callVR (pc' := 10) d_Mod_run_7 rfl cl_Mod_70 rfl (by first | assumption | exact nq_ga (by assumption) | exact nq_gs (by first | assumption | exact nq_ga (by assumption) | exact nq_gs (by first | assumption | exact nq_gs (by assumption) | exact nq_gn (by first | assumption | decide | omega | exact nq_ne1 (by assumption) (by assumption) | exact nq_ne2 (by assumption) (by assumption)) (by assumption) | exact nq_ga (by assumption)) | exact nq_gn (by first | assumption | decide | omega | exact nq_ne1 (by assumption) (by assumption) | exact nq_ne2 (by assumption) (by assumption)) (by first | assumption | exact nq_gs (by assumption) | exact nq_gn (by first | assumption | decide | omega | exact nq_ne1 (by assumption) (by assumption) | exact nq_ne2 (by assumption) (by assumption)) (by assumption) | exact nq_ga (by assumption))) | exact nq_gn (by first | assumption | decide | omega | exact nq_ne1 (by assumption) (by assumption) | exact nq_ne2 (by assumption) (by assumption)) (by first | assumption | exact nq_ga (by assumption) | exact nq_gs (by first | assumption | exact nq_gs (by assumption) | exact nq_gn (by first | assumption | decide | omega | exact nq_ne1 (by assumption) (by assumption) | exact nq_ne2 (by assumption) (by assumption)) (by assumption) | exact nq_ga (by assumption)) | exact nq_gn (by first | assumption | decide | omega | exact nq_ne1 (by assumption) (by assumption) | exact nq_ne2 (by assumption) (by assumption)) (by first | assumption | exact nq_gs (by assumption) | exact nq_gn (by first | assumption | decide | omega | exact nq_ne1 (by assumption) (by assumption) | exact nq_ne2 (by assumption) (by assumption)) (by assumption) | exact nq_ga (by assumption)))) rfl rfl (kc := 1) (ks := 3) (mc' := 0) (ms' := 0) (As := [.int 1]) (rest := []) rfl rfl (by decide) (k_Mod_bad1 hW) ?_
  refine nq_if_eq (pc' := 13) (tgt := 15) d_Mod_run_10 rfl (by decide) (fun _ => ?_) (fun h => absurd rfl h)
  subst hkj
  rw [nI_clamp (by omega)]
  obtain ⟨T, pl, kp, tb, old, bg, nt, dn, fl, res, w9⟩ := S
  have hp3 := hP.2.1 j hj
  have W1' := W1 0
  have F1' := F1 0
  have hl1 : (σ.set 270 (mo_F (upd v 7 0))).length = σ.length := List.length_set
  have hP1 : mo_P (upd v 7 0) ar (T, pl, kp, tb, old, bg, nt, dn, fl, res, w9) := hP.u7
  generalize hv1 : upd v 7 0 = v1 at W1' F1' hP1 hl1 ⊢
  have h71 : v1 7 = 0 := by rw [← hv1]; exact upd_at
  generalize σ.set 270 (mo_F v1) = σ1 at W1' F1' hl1 ⊢
  have w1 := W1'.1
  have a6 := W1'.2.2.2.2.2.2.2.1
  refine nq_aload_n (pc' := 16) d_Mod_run_15 rfl rfl rfl ?_
  refine nq_getf (pc' := 19) d_Mod_run_16 rfl fl_Mod_28 (by first | assumption | exact nq_ga (by assumption) | exact nq_gs (by first | assumption | exact nq_ga (by assumption) | exact nq_gs (by first | assumption | exact nq_gs (by assumption) | exact nq_gn (by first | assumption | decide | omega | exact nq_ne1 (by assumption) (by assumption) | exact nq_ne2 (by assumption) (by assumption)) (by assumption) | exact nq_ga (by assumption)) | exact nq_gn (by first | assumption | decide | omega | exact nq_ne1 (by assumption) (by assumption) | exact nq_ne2 (by assumption) (by assumption)) (by first | assumption | exact nq_gs (by assumption) | exact nq_gn (by first | assumption | decide | omega | exact nq_ne1 (by assumption) (by assumption) | exact nq_ne2 (by assumption) (by assumption)) (by assumption) | exact nq_ga (by assumption))) | exact nq_gn (by first | assumption | decide | omega | exact nq_ne1 (by assumption) (by assumption) | exact nq_ne2 (by assumption) (by assumption)) (by first | assumption | exact nq_ga (by assumption) | exact nq_gs (by first | assumption | exact nq_gs (by assumption) | exact nq_gn (by first | assumption | decide | omega | exact nq_ne1 (by assumption) (by assumption) | exact nq_ne2 (by assumption) (by assumption)) (by assumption) | exact nq_ga (by assumption)) | exact nq_gn (by first | assumption | decide | omega | exact nq_ne1 (by assumption) (by assumption) | exact nq_ne2 (by assumption) (by assumption)) (by first | assumption | exact nq_gs (by assumption) | exact nq_gn (by first | assumption | decide | omega | exact nq_ne1 (by assumption) (by assumption) | exact nq_ne2 (by assumption) (by assumption)) (by assumption) | exact nq_ga (by assumption)))) rfl ?_
  refine nq_iload_n (pc' := 20) d_Mod_run_19 rfl rfl rfl ?_
  refine nq_zald (pc' := 21) d_Mod_run_20 rfl (by first | assumption | exact nq_ga (by assumption) | exact nq_gs (by first | assumption | exact nq_ga (by assumption) | exact nq_gs (by first | assumption | exact nq_gs (by assumption) | exact nq_gn (by first | assumption | decide | omega | exact nq_ne1 (by assumption) (by assumption) | exact nq_ne2 (by assumption) (by assumption)) (by assumption) | exact nq_ga (by assumption)) | exact nq_gn (by first | assumption | decide | omega | exact nq_ne1 (by assumption) (by assumption) | exact nq_ne2 (by assumption) (by assumption)) (by first | assumption | exact nq_gs (by assumption) | exact nq_gn (by first | assumption | decide | omega | exact nq_ne1 (by assumption) (by assumption) | exact nq_ne2 (by assumption) (by assumption)) (by assumption) | exact nq_ga (by assumption))) | exact nq_gn (by first | assumption | decide | omega | exact nq_ne1 (by assumption) (by assumption) | exact nq_ne2 (by assumption) (by assumption)) (by first | assumption | exact nq_ga (by assumption) | exact nq_gs (by first | assumption | exact nq_gs (by assumption) | exact nq_gn (by first | assumption | decide | omega | exact nq_ne1 (by assumption) (by assumption) | exact nq_ne2 (by assumption) (by assumption)) (by assumption) | exact nq_ga (by assumption)) | exact nq_gn (by first | assumption | decide | omega | exact nq_ne1 (by assumption) (by assumption) | exact nq_ne2 (by assumption) (by assumption)) (by first | assumption | exact nq_gs (by assumption) | exact nq_gn (by first | assumption | decide | omega | exact nq_ne1 (by assumption) (by assumption) | exact nq_ne2 (by assumption) (by assumption)) (by assumption) | exact nq_ga (by assumption)))) rfl (j := j) rfl (by omega) (by decide) ?_
  simp only
  cases hkp : kp j with
  | none =>
    rw [hp3.1 hkp]
    refine nq_if_eq (pc' := 24) (tgt := 33) d_Mod_run_21 rfl (by decide) (fun _ => ?_) (fun h => absurd rfl h)
    refine nq_aload_n (pc' := 34) d_Mod_run_33 rfl rfl rfl ?_
    refine nq_iconst (v := 2) (pc' := 35) d_Mod_run_34 rfl (by decide) ?_
    refine nq_callVR (pc' := 38) d_Mod_run_35 rfl cl_Mod_77 rfl (by first | assumption | exact nq_ga (by assumption) | exact nq_gs (by first | assumption | exact nq_ga (by assumption) | exact nq_gs (by first | assumption | exact nq_gs (by assumption) | exact nq_gn (by first | assumption | decide | omega | exact nq_ne1 (by assumption) (by assumption) | exact nq_ne2 (by assumption) (by assumption)) (by assumption) | exact nq_ga (by assumption)) | exact nq_gn (by first | assumption | decide | omega | exact nq_ne1 (by assumption) (by assumption) | exact nq_ne2 (by assumption) (by assumption)) (by first | assumption | exact nq_gs (by assumption) | exact nq_gn (by first | assumption | decide | omega | exact nq_ne1 (by assumption) (by assumption) | exact nq_ne2 (by assumption) (by assumption)) (by assumption) | exact nq_ga (by assumption))) | exact nq_gn (by first | assumption | decide | omega | exact nq_ne1 (by assumption) (by assumption) | exact nq_ne2 (by assumption) (by assumption)) (by first | assumption | exact nq_ga (by assumption) | exact nq_gs (by first | assumption | exact nq_gs (by assumption) | exact nq_gn (by first | assumption | decide | omega | exact nq_ne1 (by assumption) (by assumption) | exact nq_ne2 (by assumption) (by assumption)) (by assumption) | exact nq_ga (by assumption)) | exact nq_gn (by first | assumption | decide | omega | exact nq_ne1 (by assumption) (by assumption) | exact nq_ne2 (by assumption) (by assumption)) (by first | assumption | exact nq_gs (by assumption) | exact nq_gn (by first | assumption | decide | omega | exact nq_ne1 (by assumption) (by assumption) | exact nq_ne2 (by assumption) (by assumption)) (by assumption) | exact nq_ga (by assumption)))) rfl rfl (kc := 1) (ks := 3) (mc' := 0) (ms' := 0) (As := [.int 2]) (rest := []) rfl rfl (by decide) (k_Mod_fail W1') ?_
    refine nq_iret d_Mod_run_38 rfl rfl ⟨(F1'.tr (mo_fr.st (by decide))).g, upd v1 7 2, ar, 0, W1'.fi, hP1.u7, rfl, rfl⟩
  | some s =>
    obtain ⟨e6, hM⟩ := hp3.2 s hkp
    rw [e6]
    refine nq_if_eq (pc' := 24) (tgt := 33) d_Mod_run_21 rfl (by decide) (fun h => absurd h (by decide)) (fun _ => ?_)
    refine nq_aload_n (pc' := 25) d_Mod_run_24 rfl rfl rfl ?_
    refine nq_iload_n (pc' := 26) d_Mod_run_25 rfl rfl rfl ?_
    refine nq_iload_n (pc' := 27) d_Mod_run_26 rfl rfl rfl ?_
    refine nq_callV (pc' := 30) d_Mod_run_27 rfl cl_Mod_205 rfl (by first | assumption | exact nq_ga (by assumption) | exact nq_gs (by first | assumption | exact nq_ga (by assumption) | exact nq_gs (by first | assumption | exact nq_gs (by assumption) | exact nq_gn (by first | assumption | decide | omega | exact nq_ne1 (by assumption) (by assumption) | exact nq_ne2 (by assumption) (by assumption)) (by assumption) | exact nq_ga (by assumption)) | exact nq_gn (by first | assumption | decide | omega | exact nq_ne1 (by assumption) (by assumption) | exact nq_ne2 (by assumption) (by assumption)) (by first | assumption | exact nq_gs (by assumption) | exact nq_gn (by first | assumption | decide | omega | exact nq_ne1 (by assumption) (by assumption) | exact nq_ne2 (by assumption) (by assumption)) (by assumption) | exact nq_ga (by assumption))) | exact nq_gn (by first | assumption | decide | omega | exact nq_ne1 (by assumption) (by assumption) | exact nq_ne2 (by assumption) (by assumption)) (by first | assumption | exact nq_ga (by assumption) | exact nq_gs (by first | assumption | exact nq_gs (by assumption) | exact nq_gn (by first | assumption | decide | omega | exact nq_ne1 (by assumption) (by assumption) | exact nq_ne2 (by assumption) (by assumption)) (by assumption) | exact nq_ga (by assumption)) | exact nq_gn (by first | assumption | decide | omega | exact nq_ne1 (by assumption) (by assumption) | exact nq_ne2 (by assumption) (by assumption)) (by first | assumption | exact nq_gs (by assumption) | exact nq_gn (by first | assumption | decide | omega | exact nq_ne1 (by assumption) (by assumption) | exact nq_ne2 (by assumption) (by assumption)) (by assumption) | exact nq_ga (by assumption)))) rfl rfl (kc := 0) (ks := 0) (mc' := 1) (ms' := 3) (As := [.int (nI j), .int p]) (rest := []) rfl rfl (by decide) (k_Mod_perform W1' hP1 hM (by omega) hup h71 (by omega) (by omega) (by omega)) (fun E σ2 hq => ?_) (fun z σ2 hq => ?_)
    · obtain ⟨_, _, _, _, _, _, e, _⟩ := hq
      cases e
    · obtain ⟨q0, q1, q2, q3, q4, q5, e, q6⟩ := hq
      cases e
      refine nq_goto (tgt := 38) d_Mod_run_30 (by decide) ?_
      refine nq_iret d_Mod_run_38 rfl rfl ⟨F1'.tg q0, q1, q2, q3, q4, q5, rfl, q6⟩
theorem k_Mod_ask {p : Int32} (hW : mo_W σ v ar) (hP : mo_P v ar S) (hup : ∀ t, t < 3 → rw_up (S.2.2.2.1.getD t [])) (hl : 288 ≤ σ.length) (hl9 : σ.length < 890000) (hD : 11 ≤ d) : nq_JM G d 1 3 m_Mod_ask [.ref 270, .int p] σ (mo_Q mo_run σ (sx_ask p S)) := by
  obtain ⟨d, rfl⟩ : ∃ d', d = d' + 1 := ⟨d - 1, by omega⟩
  have w := hW.1
  obtain ⟨T, pl, kp, tb, old, bg, nt, dn, fl, res, w9⟩ := S
  unfold sx_ask
  simp only
  refine nq_mk' (lv := [some (.ref 270), some (.int p)]) (by decide +kernel) rfl (Nat.le_of_ble_eq_true rfl) rfl ?_
  refine nq_aload_n (pc' := 1) d_Mod_ask_0 rfl rfl rfl ?_
  refine nq_aload_n (pc' := 2) d_Mod_ask_1 rfl rfl rfl ?_
  refine nq_iconst (v := 4) (pc' := 3) d_Mod_ask_2 rfl (by decide) ?_
  refine nq_callV (pc' := 6) d_Mod_ask_3 rfl cl_Mod_144 rfl (by first | assumption | exact nq_ga (by assumption) | exact nq_gs (by first | assumption | exact nq_ga (by assumption) | exact nq_gs (by first | assumption | exact nq_gs (by assumption) | exact nq_gn (by first | assumption | decide | omega | exact nq_ne1 (by assumption) (by assumption) | exact nq_ne2 (by assumption) (by assumption)) (by assumption) | exact nq_ga (by assumption)) | exact nq_gn (by first | assumption | decide | omega | exact nq_ne1 (by assumption) (by assumption) | exact nq_ne2 (by assumption) (by assumption)) (by first | assumption | exact nq_gs (by assumption) | exact nq_gn (by first | assumption | decide | omega | exact nq_ne1 (by assumption) (by assumption) | exact nq_ne2 (by assumption) (by assumption)) (by assumption) | exact nq_ga (by assumption))) | exact nq_gn (by first | assumption | decide | omega | exact nq_ne1 (by assumption) (by assumption) | exact nq_ne2 (by assumption) (by assumption)) (by first | assumption | exact nq_ga (by assumption) | exact nq_gs (by first | assumption | exact nq_gs (by assumption) | exact nq_gn (by first | assumption | decide | omega | exact nq_ne1 (by assumption) (by assumption) | exact nq_ne2 (by assumption) (by assumption)) (by assumption) | exact nq_ga (by assumption)) | exact nq_gn (by first | assumption | decide | omega | exact nq_ne1 (by assumption) (by assumption) | exact nq_ne2 (by assumption) (by assumption)) (by first | assumption | exact nq_gs (by assumption) | exact nq_gn (by first | assumption | decide | omega | exact nq_ne1 (by assumption) (by assumption) | exact nq_ne2 (by assumption) (by assumption)) (by assumption) | exact nq_ga (by assumption)))) rfl rfl (kc := 1) (ks := 3) (mc' := 0) (ms' := 0) (As := [.int 4]) (rest := [.ref 270]) rfl rfl (by decide) (k_Mod_read hW hP.1.2.1.L hP.1.1 (by omega)) (fun E σ1 hq => ?_) (fun z σ1 hq => ?_)
  · obtain ⟨_, _, _, _, _, hq⟩ := hq
    cases hx : sp_stmt (sx_L T) T.length with
    | inl q => rw [hx] at hq; cases hq.1
    | inr s => rw [hx] at hq; cases hq.1
  obtain ⟨F1, v1, ar1, W1, K1, hq⟩ := hq
  have w1 := W1.1
  cases hx : sp_stmt (sx_L T) T.length with
  | inl q =>
    rw [hx] at hq
    obtain ⟨e, e1⟩ := hq
    cases e
    refine nq_callVR (pc' := 9) d_Mod_ask_6 rfl cl_Mod_70 rfl (by first | assumption | exact nq_ga (by assumption) | exact nq_gs (by first | assumption | exact nq_ga (by assumption) | exact nq_gs (by first | assumption | exact nq_gs (by assumption) | exact nq_gn (by first | assumption | decide | omega | exact nq_ne1 (by assumption) (by assumption) | exact nq_ne2 (by assumption) (by assumption)) (by assumption) | exact nq_ga (by assumption)) | exact nq_gn (by first | assumption | decide | omega | exact nq_ne1 (by assumption) (by assumption) | exact nq_ne2 (by assumption) (by assumption)) (by first | assumption | exact nq_gs (by assumption) | exact nq_gn (by first | assumption | decide | omega | exact nq_ne1 (by assumption) (by assumption) | exact nq_ne2 (by assumption) (by assumption)) (by assumption) | exact nq_ga (by assumption))) | exact nq_gn (by first | assumption | decide | omega | exact nq_ne1 (by assumption) (by assumption) | exact nq_ne2 (by assumption) (by assumption)) (by first | assumption | exact nq_ga (by assumption) | exact nq_gs (by first | assumption | exact nq_gs (by assumption) | exact nq_gn (by first | assumption | decide | omega | exact nq_ne1 (by assumption) (by assumption) | exact nq_ne2 (by assumption) (by assumption)) (by assumption) | exact nq_ga (by assumption)) | exact nq_gn (by first | assumption | decide | omega | exact nq_ne1 (by assumption) (by assumption) | exact nq_ne2 (by assumption) (by assumption)) (by first | assumption | exact nq_gs (by assumption) | exact nq_gn (by first | assumption | decide | omega | exact nq_ne1 (by assumption) (by assumption) | exact nq_ne2 (by assumption) (by assumption)) (by assumption) | exact nq_ga (by assumption)))) rfl rfl (kc := 1) (ks := 3) (mc' := 0) (ms' := 0) (As := [.int 0]) (rest := []) rfl rfl (by decide) (k_Mod_bad0 W1) ?_
    refine nq_if_eq (pc' := 12) (tgt := 14) d_Mod_ask_9 rfl (by decide) (fun h => absurd h (by decide)) (fun _ => ?_)
    refine nq_iconst (v := 0) (pc' := 13) d_Mod_ask_12 rfl (by decide) ?_
    refine nq_iret d_Mod_ask_13 rfl rfl ⟨(F1.tr (mo_fr.st (by decide))).g, upd v1 7 1, ar1, 0, W1.fi, (hP.rd K1 e1).u7, rfl, rfl⟩
  | inr s =>
    rw [hx] at hq
    obtain ⟨e, e1, e4, hM⟩ := hq
    cases e
    refine nq_callVR (pc' := 9) d_Mod_ask_6 rfl cl_Mod_70 rfl (by first | assumption | exact nq_ga (by assumption) | exact nq_gs (by first | assumption | exact nq_ga (by assumption) | exact nq_gs (by first | assumption | exact nq_gs (by assumption) | exact nq_gn (by first | assumption | decide | omega | exact nq_ne1 (by assumption) (by assumption) | exact nq_ne2 (by assumption) (by assumption)) (by assumption) | exact nq_ga (by assumption)) | exact nq_gn (by first | assumption | decide | omega | exact nq_ne1 (by assumption) (by assumption) | exact nq_ne2 (by assumption) (by assumption)) (by first | assumption | exact nq_gs (by assumption) | exact nq_gn (by first | assumption | decide | omega | exact nq_ne1 (by assumption) (by assumption) | exact nq_ne2 (by assumption) (by assumption)) (by assumption) | exact nq_ga (by assumption))) | exact nq_gn (by first | assumption | decide | omega | exact nq_ne1 (by assumption) (by assumption) | exact nq_ne2 (by assumption) (by assumption)) (by first | assumption | exact nq_ga (by assumption) | exact nq_gs (by first | assumption | exact nq_gs (by assumption) | exact nq_gn (by first | assumption | decide | omega | exact nq_ne1 (by assumption) (by assumption) | exact nq_ne2 (by assumption) (by assumption)) (by assumption) | exact nq_ga (by assumption)) | exact nq_gn (by first | assumption | decide | omega | exact nq_ne1 (by assumption) (by assumption) | exact nq_ne2 (by assumption) (by assumption)) (by first | assumption | exact nq_gs (by assumption) | exact nq_gn (by first | assumption | decide | omega | exact nq_ne1 (by assumption) (by assumption) | exact nq_ne2 (by assumption) (by assumption)) (by assumption) | exact nq_ga (by assumption)))) rfl rfl (kc := 1) (ks := 3) (mc' := 0) (ms' := 0) (As := [.int 1]) (rest := []) rfl rfl (by decide) (k_Mod_bad1 W1) ?_
    refine nq_if_eq (pc' := 12) (tgt := 14) d_Mod_ask_9 rfl (by decide) (fun _ => ?_) (fun h => absurd rfl h)
    have hP1 : mo_P (upd v1 7 0) ar1 ([], pl, kp, tb, old, bg, nt, dn, fl, res, w9) := (hP.rd K1 (e1.trans hP.1.2.2)).u7
    have W2 : mo_W (σ1.set 270 (mo_F (upd v1 7 0))) (upd v1 7 0) ar1 := W1.fi
    have F2 : mo_fr σ (σ1.set 270 (mo_F (upd v1 7 0))) := F1.tr (mo_fr.st (by decide))
    generalize hv2 : upd v1 7 0 = v2 at hP1 W2 F2 ⊢
    have h72 : v2 7 = 0 := by rw [← hv2]; exact upd_at
    generalize σ1.set 270 (mo_F v2) = σ2 at W2 F2 ⊢
    have w2 := W2.1
    have hl2 : σ2.length = σ.length := F2.1
    refine nq_aload_n (pc' := 15) d_Mod_ask_14 rfl rfl rfl ?_
    refine nq_iconst (v := 4) (pc' := 16) d_Mod_ask_15 rfl (by decide) ?_
    refine nq_iload_n (pc' := 17) d_Mod_ask_16 rfl rfl rfl ?_
    refine nq_callV (pc' := 20) d_Mod_ask_17 rfl cl_Mod_205 rfl (by first | assumption | exact nq_ga (by assumption) | exact nq_gs (by first | assumption | exact nq_ga (by assumption) | exact nq_gs (by first | assumption | exact nq_gs (by assumption) | exact nq_gn (by first | assumption | decide | omega | exact nq_ne1 (by assumption) (by assumption) | exact nq_ne2 (by assumption) (by assumption)) (by assumption) | exact nq_ga (by assumption)) | exact nq_gn (by first | assumption | decide | omega | exact nq_ne1 (by assumption) (by assumption) | exact nq_ne2 (by assumption) (by assumption)) (by first | assumption | exact nq_gs (by assumption) | exact nq_gn (by first | assumption | decide | omega | exact nq_ne1 (by assumption) (by assumption) | exact nq_ne2 (by assumption) (by assumption)) (by assumption) | exact nq_ga (by assumption))) | exact nq_gn (by first | assumption | decide | omega | exact nq_ne1 (by assumption) (by assumption) | exact nq_ne2 (by assumption) (by assumption)) (by first | assumption | exact nq_ga (by assumption) | exact nq_gs (by first | assumption | exact nq_gs (by assumption) | exact nq_gn (by first | assumption | decide | omega | exact nq_ne1 (by assumption) (by assumption) | exact nq_ne2 (by assumption) (by assumption)) (by assumption) | exact nq_ga (by assumption)) | exact nq_gn (by first | assumption | decide | omega | exact nq_ne1 (by assumption) (by assumption) | exact nq_ne2 (by assumption) (by assumption)) (by first | assumption | exact nq_gs (by assumption) | exact nq_gn (by first | assumption | decide | omega | exact nq_ne1 (by assumption) (by assumption) | exact nq_ne2 (by assumption) (by assumption)) (by assumption) | exact nq_ga (by assumption)))) rfl rfl (kc := 0) (ks := 0) (mc' := 1) (ms' := 3) (As := [.int (nI 4), .int p]) (rest := []) rfl rfl (by decide) (k_Mod_perform (k := 4) W2 hP1 hM (by omega) hup h72 (by omega) (by omega) (by omega)) (fun E σ3 hq => ?_) (fun z σ3 hq => ?_)
    · obtain ⟨_, _, _, _, _, _, e, _⟩ := hq
      cases e
    · obtain ⟨q0, q1, q2, q3, q4, q5, e, q6⟩ := hq
      cases e
      refine nq_iret d_Mod_ask_20 rfl rfl ⟨F2.tg q0, q1, q2, q3, q4, q5, rfl, q6⟩
def mo_one (_ : String) : Int32 := 1
theorem k_Mod_keep {k : Int32} (hW : mo_W σ v ar) (hP : mo_P v ar S) (hD : 11 ≤ d) : nq_JM G d 0 0 m_Mod_keep [.ref 270, .int k] σ (mo_Q mo_one σ (sx_keep k S)) := by
  obtain ⟨d, rfl⟩ : ∃ d', d = d' + 1 := ⟨d - 1, by omega⟩
  have w := hW.1
  obtain ⟨T, pl, kp, tb, old, bg, nt, dn, fl, res, w9⟩ := S
  unfold sx_keep
  simp only
  refine nq_mk' (lv := [some (.ref 270), some (.int k), none]) (by decide +kernel) rfl (Nat.le_of_ble_eq_true rfl) rfl ?_
  refine nq_aload_n (pc' := 1) d_Mod_keep_0 rfl rfl rfl ?_
  refine nq_iload_n (pc' := 2) d_Mod_keep_1 rfl rfl rfl ?_
  refine nq_iconst (v := 0) (pc' := 3) d_Mod_keep_2 rfl (by decide) ?_
  refine nq_iconst (v := 3) (pc' := 4) d_Mod_keep_3 rfl (by decide) ?_
  by_cases hk : k < 0 ∨ 4 ≤ k
  · rw [if_pos hk]
    refine nq_callSR (pc' := 7) d_Mod_keep_4 rfl cl_Mod_66 st_Mod_66 rfl (kc := 0) (ks := 0) (mc' := 0) (ms' := 0) (As := [.int k, .int 0, .int 3]) (rest := [.ref 270]) rfl rfl (by decide) (k_Mod_in0 (mo_n4 hk)) ?_
    refine nq_callVR (pc' := 10) d_Mod_keep_7 rfl cl_Mod_70 rfl (by first | assumption | exact nq_ga (by assumption) | exact nq_gs (by first | assumption | exact nq_ga (by assumption) | exact nq_gs (by first | assumption | exact nq_gs (by assumption) | exact nq_gn (by first | assumption | decide | omega | exact nq_ne1 (by assumption) (by assumption) | exact nq_ne2 (by assumption) (by assumption)) (by assumption) | exact nq_ga (by assumption)) | exact nq_gn (by first | assumption | decide | omega | exact nq_ne1 (by assumption) (by assumption) | exact nq_ne2 (by assumption) (by assumption)) (by first | assumption | exact nq_gs (by assumption) | exact nq_gn (by first | assumption | decide | omega | exact nq_ne1 (by assumption) (by assumption) | exact nq_ne2 (by assumption) (by assumption)) (by assumption) | exact nq_ga (by assumption))) | exact nq_gn (by first | assumption | decide | omega | exact nq_ne1 (by assumption) (by assumption) | exact nq_ne2 (by assumption) (by assumption)) (by first | assumption | exact nq_ga (by assumption) | exact nq_gs (by first | assumption | exact nq_gs (by assumption) | exact nq_gn (by first | assumption | decide | omega | exact nq_ne1 (by assumption) (by assumption) | exact nq_ne2 (by assumption) (by assumption)) (by assumption) | exact nq_ga (by assumption)) | exact nq_gn (by first | assumption | decide | omega | exact nq_ne1 (by assumption) (by assumption) | exact nq_ne2 (by assumption) (by assumption)) (by first | assumption | exact nq_gs (by assumption) | exact nq_gn (by first | assumption | decide | omega | exact nq_ne1 (by assumption) (by assumption) | exact nq_ne2 (by assumption) (by assumption)) (by assumption) | exact nq_ga (by assumption)))) rfl rfl (kc := 0) (ks := 0) (mc' := 0) (ms' := 0) (As := [.int 0]) (rest := []) rfl rfl (by decide) (k_Mod_bad0 hW) ?_
    refine nq_if_ne (pc' := 13) (tgt := 25) d_Mod_keep_10 rfl (by decide) (fun _ => ?_) (fun h => absurd h (by decide))
    refine nq_iconst (v := 0) (pc' := 26) d_Mod_keep_25 rfl (by decide) ?_
    refine nq_iret d_Mod_keep_26 rfl rfl ⟨(mo_fr.st (by decide)).g, upd v 7 1, ar, 0, hW.fi, hP.u7, rfl, rfl⟩
  rw [if_neg hk]
  obtain ⟨j, hj, hkj, k0, k3⟩ := mo_i4 hk
  refine nq_callSR (pc' := 7) d_Mod_keep_4 rfl cl_Mod_66 st_Mod_66 rfl (kc := 0) (ks := 0) (mc' := 0) (ms' := 0) (As := [.int k, .int 0, .int 3]) (rest := [.ref 270]) rfl rfl (by decide) (k_Mod_in1 ⟨k0, k3⟩) ?_
  refine nq_callVR (pc' := 10) d_Mod_keep_7 rfl cl_Mod_70 rfl (by first | assumption | exact nq_ga (by assumption) | exact nq_gs (by first | assumption | exact nq_ga (by assumption) | exact nq_gs (by first | assumption | exact nq_gs (by assumption) | exact nq_gn (by first | assumption | decide | omega | exact nq_ne1 (by assumption) (by assumption) | exact nq_ne2 (by assumption) (by assumption)) (by assumption) | exact nq_ga (by assumption)) | exact nq_gn (by first | assumption | decide | omega | exact nq_ne1 (by assumption) (by assumption) | exact nq_ne2 (by assumption) (by assumption)) (by first | assumption | exact nq_gs (by assumption) | exact nq_gn (by first | assumption | decide | omega | exact nq_ne1 (by assumption) (by assumption) | exact nq_ne2 (by assumption) (by assumption)) (by assumption) | exact nq_ga (by assumption))) | exact nq_gn (by first | assumption | decide | omega | exact nq_ne1 (by assumption) (by assumption) | exact nq_ne2 (by assumption) (by assumption)) (by first | assumption | exact nq_ga (by assumption) | exact nq_gs (by first | assumption | exact nq_gs (by assumption) | exact nq_gn (by first | assumption | decide | omega | exact nq_ne1 (by assumption) (by assumption) | exact nq_ne2 (by assumption) (by assumption)) (by assumption) | exact nq_ga (by assumption)) | exact nq_gn (by first | assumption | decide | omega | exact nq_ne1 (by assumption) (by assumption) | exact nq_ne2 (by assumption) (by assumption)) (by first | assumption | exact nq_gs (by assumption) | exact nq_gn (by first | assumption | decide | omega | exact nq_ne1 (by assumption) (by assumption) | exact nq_ne2 (by assumption) (by assumption)) (by assumption) | exact nq_ga (by assumption)))) rfl rfl (kc := 0) (ks := 0) (mc' := 0) (ms' := 0) (As := [.int 1]) (rest := []) rfl rfl (by decide) (k_Mod_bad1 hW) ?_
  refine nq_if_ne (pc' := 13) (tgt := 25) d_Mod_keep_10 rfl (by decide) (fun h => absurd rfl h) (fun _ => ?_)
  subst hkj
  rw [nI_clamp (by omega)]
  have W1 : mo_W (σ.set 270 (mo_F (upd v 7 0))) (upd v 7 0) ar := hW.fi
  have F1 : mo_fr σ (σ.set 270 (mo_F (upd v 7 0))) := mo_fr.st (by decide)
  have hP1 : mo_P (upd v 7 0) ar (T, pl, kp, tb, old, bg, nt, dn, fl, res, w9) := hP.u7
  generalize upd v 7 0 = v1 at W1 F1 hP1 ⊢
  generalize σ.set 270 (mo_F v1) = σ1 at W1 F1 ⊢
  have w1 := W1.1
  refine nq_aload_n (pc' := 14) d_Mod_keep_13 rfl rfl rfl ?_
  refine nq_aload_n (pc' := 15) d_Mod_keep_14 rfl rfl rfl ?_
  refine nq_iconst (v := 4) (pc' := 16) d_Mod_keep_15 rfl (by decide) ?_
  refine nq_callV (pc' := 19) d_Mod_keep_16 rfl cl_Mod_144 rfl (by first | assumption | exact nq_ga (by assumption) | exact nq_gs (by first | assumption | exact nq_ga (by assumption) | exact nq_gs (by first | assumption | exact nq_gs (by assumption) | exact nq_gn (by first | assumption | decide | omega | exact nq_ne1 (by assumption) (by assumption) | exact nq_ne2 (by assumption) (by assumption)) (by assumption) | exact nq_ga (by assumption)) | exact nq_gn (by first | assumption | decide | omega | exact nq_ne1 (by assumption) (by assumption) | exact nq_ne2 (by assumption) (by assumption)) (by first | assumption | exact nq_gs (by assumption) | exact nq_gn (by first | assumption | decide | omega | exact nq_ne1 (by assumption) (by assumption) | exact nq_ne2 (by assumption) (by assumption)) (by assumption) | exact nq_ga (by assumption))) | exact nq_gn (by first | assumption | decide | omega | exact nq_ne1 (by assumption) (by assumption) | exact nq_ne2 (by assumption) (by assumption)) (by first | assumption | exact nq_ga (by assumption) | exact nq_gs (by first | assumption | exact nq_gs (by assumption) | exact nq_gn (by first | assumption | decide | omega | exact nq_ne1 (by assumption) (by assumption) | exact nq_ne2 (by assumption) (by assumption)) (by assumption) | exact nq_ga (by assumption)) | exact nq_gn (by first | assumption | decide | omega | exact nq_ne1 (by assumption) (by assumption) | exact nq_ne2 (by assumption) (by assumption)) (by first | assumption | exact nq_gs (by assumption) | exact nq_gn (by first | assumption | decide | omega | exact nq_ne1 (by assumption) (by assumption) | exact nq_ne2 (by assumption) (by assumption)) (by assumption) | exact nq_ga (by assumption)))) rfl rfl (kc := 0) (ks := 0) (mc' := 0) (ms' := 0) (As := [.int 4]) (rest := [.ref 270]) rfl rfl (by decide) (k_Mod_read W1 hP1.1.2.1.L hP1.1.1 (by omega)) (fun E σ2 hq => ?_) (fun z σ2 hq => ?_)
  · obtain ⟨_, _, _, _, _, hq⟩ := hq
    cases hx : sp_stmt (sx_L T) T.length with
    | inl q => rw [hx] at hq; cases hq.1
    | inr s => rw [hx] at hq; cases hq.1
  obtain ⟨F2, v2, ar2, W2, K2, hq⟩ := hq
  have w2 := W2.1
  have FF := F1.tr F2
  cases hx : sp_stmt (sx_L T) T.length with
  | inl q =>
    rw [hx] at hq
    obtain ⟨e, e1⟩ := hq
    cases e
    refine nq_callVR (pc' := 22) d_Mod_keep_19 rfl cl_Mod_70 rfl (by first | assumption | exact nq_ga (by assumption) | exact nq_gs (by first | assumption | exact nq_ga (by assumption) | exact nq_gs (by first | assumption | exact nq_gs (by assumption) | exact nq_gn (by first | assumption | decide | omega | exact nq_ne1 (by assumption) (by assumption) | exact nq_ne2 (by assumption) (by assumption)) (by assumption) | exact nq_ga (by assumption)) | exact nq_gn (by first | assumption | decide | omega | exact nq_ne1 (by assumption) (by assumption) | exact nq_ne2 (by assumption) (by assumption)) (by first | assumption | exact nq_gs (by assumption) | exact nq_gn (by first | assumption | decide | omega | exact nq_ne1 (by assumption) (by assumption) | exact nq_ne2 (by assumption) (by assumption)) (by assumption) | exact nq_ga (by assumption))) | exact nq_gn (by first | assumption | decide | omega | exact nq_ne1 (by assumption) (by assumption) | exact nq_ne2 (by assumption) (by assumption)) (by first | assumption | exact nq_ga (by assumption) | exact nq_gs (by first | assumption | exact nq_gs (by assumption) | exact nq_gn (by first | assumption | decide | omega | exact nq_ne1 (by assumption) (by assumption) | exact nq_ne2 (by assumption) (by assumption)) (by assumption) | exact nq_ga (by assumption)) | exact nq_gn (by first | assumption | decide | omega | exact nq_ne1 (by assumption) (by assumption) | exact nq_ne2 (by assumption) (by assumption)) (by first | assumption | exact nq_gs (by assumption) | exact nq_gn (by first | assumption | decide | omega | exact nq_ne1 (by assumption) (by assumption) | exact nq_ne2 (by assumption) (by assumption)) (by assumption) | exact nq_ga (by assumption)))) rfl rfl (kc := 0) (ks := 0) (mc' := 0) (ms' := 0) (As := [.int 0]) (rest := []) rfl rfl (by decide) (k_Mod_bad0 W2) ?_
    refine nq_if_eq (pc' := 25) (tgt := 27) d_Mod_keep_22 rfl (by decide) (fun h => absurd h (by decide)) (fun _ => ?_)
    refine nq_iconst (v := 0) (pc' := 26) d_Mod_keep_25 rfl (by decide) ?_
    refine nq_iret d_Mod_keep_26 rfl rfl ⟨(FF.tr (mo_fr.st (by decide))).g, upd v2 7 1, ar2, 0, W2.fi, (hP1.rd K2 e1).u7, rfl, rfl⟩
  | inr s =>
  rw [hx] at hq
  obtain ⟨e, e1, e4, hM⟩ := hq
  cases e
  refine nq_callVR (pc' := 22) d_Mod_keep_19 rfl cl_Mod_70 rfl (by first | assumption | exact nq_ga (by assumption) | exact nq_gs (by first | assumption | exact nq_ga (by assumption) | exact nq_gs (by first | assumption | exact nq_gs (by assumption) | exact nq_gn (by first | assumption | decide | omega | exact nq_ne1 (by assumption) (by assumption) | exact nq_ne2 (by assumption) (by assumption)) (by assumption) | exact nq_ga (by assumption)) | exact nq_gn (by first | assumption | decide | omega | exact nq_ne1 (by assumption) (by assumption) | exact nq_ne2 (by assumption) (by assumption)) (by first | assumption | exact nq_gs (by assumption) | exact nq_gn (by first | assumption | decide | omega | exact nq_ne1 (by assumption) (by assumption) | exact nq_ne2 (by assumption) (by assumption)) (by assumption) | exact nq_ga (by assumption))) | exact nq_gn (by first | assumption | decide | omega | exact nq_ne1 (by assumption) (by assumption) | exact nq_ne2 (by assumption) (by assumption)) (by first | assumption | exact nq_ga (by assumption) | exact nq_gs (by first | assumption | exact nq_gs (by assumption) | exact nq_gn (by first | assumption | decide | omega | exact nq_ne1 (by assumption) (by assumption) | exact nq_ne2 (by assumption) (by assumption)) (by assumption) | exact nq_ga (by assumption)) | exact nq_gn (by first | assumption | decide | omega | exact nq_ne1 (by assumption) (by assumption) | exact nq_ne2 (by assumption) (by assumption)) (by first | assumption | exact nq_gs (by assumption) | exact nq_gn (by first | assumption | decide | omega | exact nq_ne1 (by assumption) (by assumption) | exact nq_ne2 (by assumption) (by assumption)) (by assumption) | exact nq_ga (by assumption)))) rfl rfl (kc := 0) (ks := 0) (mc' := 0) (ms' := 0) (As := [.int 1]) (rest := []) rfl rfl (by decide) (k_Mod_bad1 W2) ?_
  refine nq_if_eq (pc' := 25) (tgt := 27) d_Mod_keep_22 rfl (by decide) (fun _ => ?_) (fun h => absurd rfl h)
  have hP2 : mo_P (upd v2 7 0) ar2 ([], pl, kp, tb, old, bg, nt, dn, fl, res, w9) := (hP1.rd K2 (e1.trans hP1.1.2.2)).u7
  have W3 : mo_W (σ2.set 270 (mo_F (upd v2 7 0))) (upd v2 7 0) ar2 := W2.fi
  have F3 : mo_fr σ (σ2.set 270 (mo_F (upd v2 7 0))) := FF.tr (mo_fr.st (by decide))
  have e43 : upd v2 7 0 4 = nI (cl_q s) := e4
  have h73 : upd v2 7 0 7 = 0 := upd_at
  generalize upd v2 7 0 = v3 at hP2 W3 F3 e43 h73 ⊢
  generalize σ2.set 270 (mo_F v3) = σ3 at W3 F3 ⊢
  have loop : ∀ (m i : Nat) (σ4 : nq_S), m + i = 400 → mo_fr σ σ4 → mo_W σ4 v3 (ua ar2 1 (mk_cp (ar2 1) j i)) → nq_J G (d + 1) 0 0 m_Mod_keep 29 [some (.ref 270), some (.int (nI j)), some (.int (nI i))] [] σ4 (mo_Q mo_one σ (.inl (some (nI (cl_q s))), ([], pl, (fun i => if i = j then some s else kp i), tb, old, bg, nt, dn, fl, res, w9))) := by
    intro m
    induction m with
    | zero =>
      intro i σ4 hm F4 W4
      have hi : i = 400 := by omega
      subst hi
      have w4 := W4.1
      have a6 : σ4[277]? = some (.inl (1, 5, .inl (ar2 6))) := W4.2.2.2.2.2.2.2.1
      refine nq_iload_n (pc' := 30) d_Mod_keep_29 rfl rfl rfl ?_
      refine nq_sipush (v := 400) (pc' := 33) d_Mod_keep_30 rfl (by decide) ?_
      refine nq_icmp_ge (pc' := 36) (tgt := 64) d_Mod_keep_33 rfl (by decide) (fun _ => ?_) (fun h => absurd (show (400 : Int32) ≤ nI 400 by decide) h)
      refine nq_aload_n (pc' := 65) d_Mod_keep_64 rfl rfl rfl ?_
      refine nq_getf (pc' := 68) d_Mod_keep_65 rfl fl_Mod_28 (by first | assumption | exact nq_ga (by assumption) | exact nq_gs (by first | assumption | exact nq_ga (by assumption) | exact nq_gs (by first | assumption | exact nq_gs (by assumption) | exact nq_gn (by first | assumption | decide | omega | exact nq_ne1 (by assumption) (by assumption) | exact nq_ne2 (by assumption) (by assumption)) (by assumption) | exact nq_ga (by assumption)) | exact nq_gn (by first | assumption | decide | omega | exact nq_ne1 (by assumption) (by assumption) | exact nq_ne2 (by assumption) (by assumption)) (by first | assumption | exact nq_gs (by assumption) | exact nq_gn (by first | assumption | decide | omega | exact nq_ne1 (by assumption) (by assumption) | exact nq_ne2 (by assumption) (by assumption)) (by assumption) | exact nq_ga (by assumption))) | exact nq_gn (by first | assumption | decide | omega | exact nq_ne1 (by assumption) (by assumption) | exact nq_ne2 (by assumption) (by assumption)) (by first | assumption | exact nq_ga (by assumption) | exact nq_gs (by first | assumption | exact nq_gs (by assumption) | exact nq_gn (by first | assumption | decide | omega | exact nq_ne1 (by assumption) (by assumption) | exact nq_ne2 (by assumption) (by assumption)) (by assumption) | exact nq_ga (by assumption)) | exact nq_gn (by first | assumption | decide | omega | exact nq_ne1 (by assumption) (by assumption) | exact nq_ne2 (by assumption) (by assumption)) (by first | assumption | exact nq_gs (by assumption) | exact nq_gn (by first | assumption | decide | omega | exact nq_ne1 (by assumption) (by assumption) | exact nq_ne2 (by assumption) (by assumption)) (by assumption) | exact nq_ga (by assumption)))) rfl ?_
      refine nq_iload_n (pc' := 69) d_Mod_keep_68 rfl rfl rfl ?_
      refine nq_iconst (v := 1) (pc' := 70) d_Mod_keep_69 rfl (by decide) ?_
      refine nq_zast (pc' := 71) d_Mod_keep_70 rfl (by first | assumption | exact nq_ga (by assumption) | exact nq_gs (by first | assumption | exact nq_ga (by assumption) | exact nq_gs (by first | assumption | exact nq_gs (by assumption) | exact nq_gn (by first | assumption | decide | omega | exact nq_ne1 (by assumption) (by assumption) | exact nq_ne2 (by assumption) (by assumption)) (by assumption) | exact nq_ga (by assumption)) | exact nq_gn (by first | assumption | decide | omega | exact nq_ne1 (by assumption) (by assumption) | exact nq_ne2 (by assumption) (by assumption)) (by first | assumption | exact nq_gs (by assumption) | exact nq_gn (by first | assumption | decide | omega | exact nq_ne1 (by assumption) (by assumption) | exact nq_ne2 (by assumption) (by assumption)) (by assumption) | exact nq_ga (by assumption))) | exact nq_gn (by first | assumption | decide | omega | exact nq_ne1 (by assumption) (by assumption) | exact nq_ne2 (by assumption) (by assumption)) (by first | assumption | exact nq_ga (by assumption) | exact nq_gs (by first | assumption | exact nq_gs (by assumption) | exact nq_gn (by first | assumption | decide | omega | exact nq_ne1 (by assumption) (by assumption) | exact nq_ne2 (by assumption) (by assumption)) (by assumption) | exact nq_ga (by assumption)) | exact nq_gn (by first | assumption | decide | omega | exact nq_ne1 (by assumption) (by assumption) | exact nq_ne2 (by assumption) (by assumption)) (by first | assumption | exact nq_gs (by assumption) | exact nq_gn (by first | assumption | decide | omega | exact nq_ne1 (by assumption) (by assumption) | exact nq_ne2 (by assumption) (by assumption)) (by assumption) | exact nq_ga (by assumption)))) rfl (j := j) rfl (by omega) (by decide) ?_
      have W5 := W4.a6 (f := upd (ar2 6) j (vp_nar .boolean 1))
      have w5 := W5.1
      refine nq_aload_n (pc' := 72) d_Mod_keep_71 rfl rfl rfl ?_
      refine nq_getf (pc' := 75) d_Mod_keep_72 rfl fl_Mod_102 (by first | assumption | exact nq_ga (by assumption) | exact nq_gs (by first | assumption | exact nq_ga (by assumption) | exact nq_gs (by first | assumption | exact nq_gs (by assumption) | exact nq_gn (by first | assumption | decide | omega | exact nq_ne1 (by assumption) (by assumption) | exact nq_ne2 (by assumption) (by assumption)) (by assumption) | exact nq_ga (by assumption)) | exact nq_gn (by first | assumption | decide | omega | exact nq_ne1 (by assumption) (by assumption) | exact nq_ne2 (by assumption) (by assumption)) (by first | assumption | exact nq_gs (by assumption) | exact nq_gn (by first | assumption | decide | omega | exact nq_ne1 (by assumption) (by assumption) | exact nq_ne2 (by assumption) (by assumption)) (by assumption) | exact nq_ga (by assumption))) | exact nq_gn (by first | assumption | decide | omega | exact nq_ne1 (by assumption) (by assumption) | exact nq_ne2 (by assumption) (by assumption)) (by first | assumption | exact nq_ga (by assumption) | exact nq_gs (by first | assumption | exact nq_gs (by assumption) | exact nq_gn (by first | assumption | decide | omega | exact nq_ne1 (by assumption) (by assumption) | exact nq_ne2 (by assumption) (by assumption)) (by assumption) | exact nq_ga (by assumption)) | exact nq_gn (by first | assumption | decide | omega | exact nq_ne1 (by assumption) (by assumption) | exact nq_ne2 (by assumption) (by assumption)) (by first | assumption | exact nq_gs (by assumption) | exact nq_gn (by first | assumption | decide | omega | exact nq_ne1 (by assumption) (by assumption) | exact nq_ne2 (by assumption) (by assumption)) (by assumption) | exact nq_ga (by assumption)))) rfl ?_
      rw [e43]
      refine nq_iret d_Mod_keep_75 rfl rfl ?_
      refine ⟨(F4.tr (mo_fr.st (by decide))).g, v3, _, _, W5, ?_, rfl, rfl, h73⟩
      obtain ⟨p0, p3, p4, p6, p10, p11, p12⟩ := hP2
      refine ⟨p0, fun i hi => ?_, p4, p6, p10, p11, p12⟩
      show ((fun i => if i = j then some s else kp i) i = none → upd (ar2 6) j (vp_nar .boolean 1) i = 0) ∧ ∀ s', (fun i => if i = j then some s else kp i) i = some s' → upd (ar2 6) j (vp_nar .boolean 1) i = 1 ∧ md_R (mk_cp (ar2 1) j 400) (400 * i) s'
      simp only
      by_cases hij : i = j
      · rw [if_pos hij, hij]
        refine ⟨fun h => (by cases h), fun s' hs => ?_⟩
        cases hs
        refine ⟨by rw [upd_at]; decide, hM.of (fun q hq => ?_)⟩
        unfold mk_cp
        rw [if_pos (by omega), Nat.add_sub_cancel_left]
      · rw [if_neg hij, upd_ne hij]
        refine ⟨(p3 i hi).1, fun s' hs => ⟨((p3 i hi).2 s' hs).1, ((p3 i hi).2 s' hs).2.of (fun q hq => ?_)⟩⟩
        unfold mk_cp
        rw [if_neg (by omega)]
    | succ m ih =>
      intro i σ4 hm F4 W4
      have w4 := W4.1
      have a1 : σ4[272]? = some (.inl (0, 2000, .inl (mk_cp (ar2 1) j i))) := W4.2.2.1
      have h4 := mo_400 ⟨j, by omega⟩
      simp only at h4
      refine nq_iload_n (pc' := 30) d_Mod_keep_29 rfl rfl rfl ?_
      refine nq_sipush (v := 400) (pc' := 33) d_Mod_keep_30 rfl (by decide) ?_
      refine nq_icmp_ge (pc' := 36) (tgt := 64) d_Mod_keep_33 rfl (by decide) (fun h => absurd ((nI_leI (a := 400) (by omega) (by omega)).mp h) (by omega)) (fun _ => ?_)
      refine nq_aload_n (pc' := 37) d_Mod_keep_36 rfl rfl rfl ?_
      refine nq_getf (pc' := 40) d_Mod_keep_37 rfl fl_Mod_13 (by first | assumption | exact nq_ga (by assumption) | exact nq_gs (by first | assumption | exact nq_ga (by assumption) | exact nq_gs (by first | assumption | exact nq_gs (by assumption) | exact nq_gn (by first | assumption | decide | omega | exact nq_ne1 (by assumption) (by assumption) | exact nq_ne2 (by assumption) (by assumption)) (by assumption) | exact nq_ga (by assumption)) | exact nq_gn (by first | assumption | decide | omega | exact nq_ne1 (by assumption) (by assumption) | exact nq_ne2 (by assumption) (by assumption)) (by first | assumption | exact nq_gs (by assumption) | exact nq_gn (by first | assumption | decide | omega | exact nq_ne1 (by assumption) (by assumption) | exact nq_ne2 (by assumption) (by assumption)) (by assumption) | exact nq_ga (by assumption))) | exact nq_gn (by first | assumption | decide | omega | exact nq_ne1 (by assumption) (by assumption) | exact nq_ne2 (by assumption) (by assumption)) (by first | assumption | exact nq_ga (by assumption) | exact nq_gs (by first | assumption | exact nq_gs (by assumption) | exact nq_gn (by first | assumption | decide | omega | exact nq_ne1 (by assumption) (by assumption) | exact nq_ne2 (by assumption) (by assumption)) (by assumption) | exact nq_ga (by assumption)) | exact nq_gn (by first | assumption | decide | omega | exact nq_ne1 (by assumption) (by assumption) | exact nq_ne2 (by assumption) (by assumption)) (by first | assumption | exact nq_gs (by assumption) | exact nq_gn (by first | assumption | decide | omega | exact nq_ne1 (by assumption) (by assumption) | exact nq_ne2 (by assumption) (by assumption)) (by assumption) | exact nq_ga (by assumption)))) rfl ?_
      refine nq_iload_n (pc' := 41) d_Mod_keep_40 rfl rfl rfl ?_
      refine nq_sipush (v := 400) (pc' := 44) d_Mod_keep_41 rfl (by decide) ?_
      refine nq_imul (pc' := 45) d_Mod_keep_44 rfl ?_
      refine nq_iload_n (pc' := 46) d_Mod_keep_45 rfl rfl rfl ?_
      refine nq_iadd (pc' := 47) d_Mod_keep_46 rfl ?_
      refine nq_aload_n (pc' := 48) d_Mod_keep_47 rfl rfl rfl ?_
      refine nq_getf (pc' := 51) d_Mod_keep_48 rfl fl_Mod_13 (by first | assumption | exact nq_ga (by assumption) | exact nq_gs (by first | assumption | exact nq_ga (by assumption) | exact nq_gs (by first | assumption | exact nq_gs (by assumption) | exact nq_gn (by first | assumption | decide | omega | exact nq_ne1 (by assumption) (by assumption) | exact nq_ne2 (by assumption) (by assumption)) (by assumption) | exact nq_ga (by assumption)) | exact nq_gn (by first | assumption | decide | omega | exact nq_ne1 (by assumption) (by assumption) | exact nq_ne2 (by assumption) (by assumption)) (by first | assumption | exact nq_gs (by assumption) | exact nq_gn (by first | assumption | decide | omega | exact nq_ne1 (by assumption) (by assumption) | exact nq_ne2 (by assumption) (by assumption)) (by assumption) | exact nq_ga (by assumption))) | exact nq_gn (by first | assumption | decide | omega | exact nq_ne1 (by assumption) (by assumption) | exact nq_ne2 (by assumption) (by assumption)) (by first | assumption | exact nq_ga (by assumption) | exact nq_gs (by first | assumption | exact nq_gs (by assumption) | exact nq_gn (by first | assumption | decide | omega | exact nq_ne1 (by assumption) (by assumption) | exact nq_ne2 (by assumption) (by assumption)) (by assumption) | exact nq_ga (by assumption)) | exact nq_gn (by first | assumption | decide | omega | exact nq_ne1 (by assumption) (by assumption) | exact nq_ne2 (by assumption) (by assumption)) (by first | assumption | exact nq_gs (by assumption) | exact nq_gn (by first | assumption | decide | omega | exact nq_ne1 (by assumption) (by assumption) | exact nq_ne2 (by assumption) (by assumption)) (by assumption) | exact nq_ga (by assumption)))) rfl ?_
      refine nq_sipush (v := 1600) (pc' := 54) d_Mod_keep_51 rfl (by decide) ?_
      refine nq_iload_n (pc' := 55) d_Mod_keep_54 rfl rfl rfl ?_
      refine nq_iadd (pc' := 56) d_Mod_keep_55 rfl ?_
      refine nq_iald (pc' := 57) d_Mod_keep_56 rfl (by first | assumption | exact nq_ga (by assumption) | exact nq_gs (by first | assumption | exact nq_ga (by assumption) | exact nq_gs (by first | assumption | exact nq_gs (by assumption) | exact nq_gn (by first | assumption | decide | omega | exact nq_ne1 (by assumption) (by assumption) | exact nq_ne2 (by assumption) (by assumption)) (by assumption) | exact nq_ga (by assumption)) | exact nq_gn (by first | assumption | decide | omega | exact nq_ne1 (by assumption) (by assumption) | exact nq_ne2 (by assumption) (by assumption)) (by first | assumption | exact nq_gs (by assumption) | exact nq_gn (by first | assumption | decide | omega | exact nq_ne1 (by assumption) (by assumption) | exact nq_ne2 (by assumption) (by assumption)) (by assumption) | exact nq_ga (by assumption))) | exact nq_gn (by first | assumption | decide | omega | exact nq_ne1 (by assumption) (by assumption) | exact nq_ne2 (by assumption) (by assumption)) (by first | assumption | exact nq_ga (by assumption) | exact nq_gs (by first | assumption | exact nq_gs (by assumption) | exact nq_gn (by first | assumption | decide | omega | exact nq_ne1 (by assumption) (by assumption) | exact nq_ne2 (by assumption) (by assumption)) (by assumption) | exact nq_ga (by assumption)) | exact nq_gn (by first | assumption | decide | omega | exact nq_ne1 (by assumption) (by assumption) | exact nq_ne2 (by assumption) (by assumption)) (by first | assumption | exact nq_gs (by assumption) | exact nq_gn (by first | assumption | decide | omega | exact nq_ne1 (by assumption) (by assumption) | exact nq_ne2 (by assumption) (by assumption)) (by assumption) | exact nq_ga (by assumption)))) rfl (j := 1600 + i) (nI_add 1600 i) (by omega) (by decide) ?_
      refine nq_iast (pc' := 58) d_Mod_keep_57 rfl (by first | assumption | exact nq_ga (by assumption) | exact nq_gs (by first | assumption | exact nq_ga (by assumption) | exact nq_gs (by first | assumption | exact nq_gs (by assumption) | exact nq_gn (by first | assumption | decide | omega | exact nq_ne1 (by assumption) (by assumption) | exact nq_ne2 (by assumption) (by assumption)) (by assumption) | exact nq_ga (by assumption)) | exact nq_gn (by first | assumption | decide | omega | exact nq_ne1 (by assumption) (by assumption) | exact nq_ne2 (by assumption) (by assumption)) (by first | assumption | exact nq_gs (by assumption) | exact nq_gn (by first | assumption | decide | omega | exact nq_ne1 (by assumption) (by assumption) | exact nq_ne2 (by assumption) (by assumption)) (by assumption) | exact nq_ga (by assumption))) | exact nq_gn (by first | assumption | decide | omega | exact nq_ne1 (by assumption) (by assumption) | exact nq_ne2 (by assumption) (by assumption)) (by first | assumption | exact nq_ga (by assumption) | exact nq_gs (by first | assumption | exact nq_gs (by assumption) | exact nq_gn (by first | assumption | decide | omega | exact nq_ne1 (by assumption) (by assumption) | exact nq_ne2 (by assumption) (by assumption)) (by assumption) | exact nq_ga (by assumption)) | exact nq_gn (by first | assumption | decide | omega | exact nq_ne1 (by assumption) (by assumption) | exact nq_ne2 (by assumption) (by assumption)) (by first | assumption | exact nq_gs (by assumption) | exact nq_gn (by first | assumption | decide | omega | exact nq_ne1 (by assumption) (by assumption) | exact nq_ne2 (by assumption) (by assumption)) (by assumption) | exact nq_ga (by assumption)))) rfl (j := 400 * j + i) (by rw [h4]; exact nI_add (400 * j) i) (by omega) (by decide) ?_
      rw [mk_cp_st hj (by omega)]
      refine nq_iinc (pc' := 61) d_Mod_keep_58 rfl rfl (v := nI (i + 1)) (nI_1 i) (by decide) rfl ?_
      refine nq_goto (tgt := 29) d_Mod_keep_61 (by decide) ?_
      refine ih (i + 1) _ (by omega) (F4.tr (mo_fr.st (by decide))) ?_
      have := W4.a1 (f := mk_cp (ar2 1) j (i + 1))
      rw [ua_ua] at this
      exact this
  refine nq_iconst (v := 0) (pc' := 28) d_Mod_keep_27 rfl (by decide) ?_
  refine nq_istore_n (pc' := 29) d_Mod_keep_28 rfl rfl (by decide) rfl ?_
  refine loop 400 0 σ3 (by omega) F3 ?_
  have e0 : mk_cp (ar2 1) j 0 = ar2 1 := by
    funext q
    unfold mk_cp
    rw [if_neg (by omega)]
  rw [e0, ua_self]
  exact W3
end MK
