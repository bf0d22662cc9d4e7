/-! THE OTHER STORE: table and list -/
def mo_kh (v : Nat → Int32) (ar : mo_Ar) (v' : Nat → Int32) (ar' : mo_Ar) : Prop := (∀ k, k < 2 ∨ 6 < k → v' k = v k) ∧ (∀ k, k ≠ 1 → k ≠ 7 → k ≠ 8 → k ≠ 9 → ar' k = ar k) ∧ ∀ j, j < 1600 → ar' 1 j = ar 1 j
theorem mo_kh.rf {v : Nat → Int32} {ar : mo_Ar} : mo_kh v ar v ar := ⟨fun _ _ => rfl, fun _ _ _ _ _ => rfl, fun _ _ => rfl⟩
theorem mo_kh.tr {v v1 v2 : Nat → Int32} {ar ar1 ar2 : mo_Ar} (h : mo_kh v ar v1 ar1) (k : mo_kh v1 ar1 v2 ar2) : mo_kh v ar v2 ar2 :=
  ⟨fun i a => (k.1 i a).trans (h.1 i a), fun i a b c e => (k.2.1 i a b c e).trans (h.2.1 i a b c e), fun j hj => (k.2.2 j hj).trans (h.2.2 j hj)⟩
theorem mo_kh.u {v : Nat → Int32} {ar : mo_Ar} {k : Nat} {x : Int32} (hk : 2 ≤ k ∧ k ≤ 6) : mo_kh v ar (upd v k x) ar := ⟨fun j a => upd_ne (by omega), fun _ _ _ _ _ => rfl, fun _ _ => rfl⟩
theorem mo_kh.c {v : Nat → Int32} {ar : mo_Ar} {f : Nat → Int32} (hf : ∀ j, j < 1600 → f j = ar 1 j) : mo_kh v ar v (ua ar 1 f) := ⟨fun _ _ => rfl, fun _ a _ _ _ => ua_ne a, fun j hj => by rw [ua_at]; exact hf j hj⟩
theorem mo_ks.h {v v' : Nat → Int32} {ar ar' : mo_Ar} {slot : Nat} (h : mo_ks slot v ar v' ar') (hs : 1600 ≤ slot) : mo_kh v ar v' ar' := ⟨fun k a => h.1 k (by omega) (by omega) (by omega) (by omega), h.2.1, fun j hj => h.2.2 j (by omega) (by omega)⟩
/-- reading is at i -/
def mt_S (σ : nq_S) (v : Nat → Int32) (ar : mo_Ar) (L : Nat → Nat) (N nc i : Nat) (out : List Int32) (q : Nat) : Prop := mq_S σ v ar L N nc i out q ∧ out.length ≤ 3 * i ∧ q ≤ i ∧ i ≤ N
def mv_at (out : List Int32) (off : Nat) (c : List nq_In) : Prop := ∃ pre post, out = pre ++ md c ++ [0] ++ post ∧ pre.length = off
theorem mv_at.app {out t : List Int32} {off : Nat} {c : List nq_In} (h : mv_at out off c) : mv_at (out ++ t) off c := by
  obtain ⟨pre, post, e, l⟩ := h
  exact ⟨pre, post ++ t, by rw [e]; simp only [List.append_assoc], l⟩
theorem mv_at.new {out : List Int32} {c : List nq_In} : mv_at (out ++ md c ++ [0]) out.length c := ⟨out, [], by rw [List.append_nil], rfl⟩
def mv_vs (hd : Nat → Int32) (out : List Int32) (vs : List (List nq_In)) : Prop := hd 3 = nI vs.length ∧ ∀ k c, vs[k]? = some c → ∃ off, hd (4 + k) = nI (1670 + off) ∧ mv_at out off c
def mo_hd (ar : mo_Ar) (j : Nat) : Int32 := ar 1 (1600 + j)
/-- it was refused at p -/
def mf_S (σ : nq_S) (v : Nat → Int32) (ar : mo_Ar) (p : Nat) : Prop := mo_W σ v ar ∧ v 2 = nI p
theorem md_len (c : List nq_In) : (md c).length ≤ 2 * c.length := by
  induction c with
  | nil => simp [md]
  | cons x c ih =>
    have h1 : (md1 x).length ≤ 2 := by
      unfold md1
      split
      · simp
      · split
        · split <;> simp
        · split <;> simp
    have : md (x :: c) = md1 x ++ md c := by simp [md]
    rw [this, List.length_append, List.length_cons]
    omega
theorem sp_q_le (c : List nq_In) : sp_q c ≤ c.length := List.countP_le_length
section ML
variable {G : nq_G} {d : Nat} {σ : nq_S} {v : Nat → Int32} {ar : mo_Ar} {L : Nat → Nat} {N cols i q : Nat} {out : List Int32}
theorem mq_S.w {nc : Nat} (h : mq_S σ v ar L N nc i out q) : mo_W σ v ar ∧ rd_L (ar 0) L N ∧ v 0 = nI N ∧ v 5 = nI nc ∧ v 2 = nI i := by
  obtain ⟨ops, h1, h2, h3, h4, h5, _⟩ := h
  exact ⟨h1, h2, h3, h4, h5⟩
theorem mt_S.pos {nc i' : Nat} (h : mt_S σ v ar L N nc i out q) (hi : i ≤ i') (hN : i' ≤ N) : mt_S (σ.set 270 (mo_F (upd v 2 (nI i')))) (upd v 2 (nI i')) ar L N nc i' out q := by
  obtain ⟨⟨ops, h⟩, h1, h2, h3⟩ := h
  exact ⟨⟨ops, h.pos⟩, by omega, by omega, hN⟩
/-- a cell of the head is written -/
theorem mt_S.hd {nc : Nat} {f : Nat → Int32} (h : mt_S σ v ar L N nc i out q) (hf : ∀ j, 1670 ≤ j → f j = ar 1 j) : mt_S (σ.set 272 (.inl (0, 2000, .inl f))) v (ua ar 1 f) L N nc i out q := by
  obtain ⟨⟨ops, h1, h2, h3, h4, h5, h6, h7, h8, h9, h10⟩, k⟩ := h
  exact ⟨⟨ops, h1.a1, h2, h3, h4, h5, h6, fun j x hx => by rw [ua_at, hf _ (by omega)]; exact h7 j x hx, h8, h9, h10⟩, k⟩
theorem k_Mod_ex {slot r : Nat} (h : mt_S σ v ar L N (sp_nc cols) i out q) (hc : cols = 0 ∨ cols = 3 ∨ cols = 4) (hD : 5 ≤ d) (hr : r ≤ 9) (hs : slot < 1670) : nq_JM G d 0 0 m_Mod_expression [.ref 270, .int (nI slot)] σ (fun o σ' => mo_fr σ σ' ∧ ∃ v' ar', mo_ks slot v ar v' ar' ∧ match sp_expr L cols r i with
    | .inl p => o = .inl (some (.int 0)) ∧ mf_S σ' v' ar' p
    | .inr (c, j) => o = .inl (some (.int 1)) ∧ ar' 1 slot = nI (1670 + out.length) ∧ mt_S σ' v' ar' L N (sp_nc cols) j (out ++ md c ++ [0]) (q + sp_q c)) := by
  obtain ⟨h, h1, h2, h3⟩ := h
  obtain ⟨w1, w2, _⟩ := h.w
  have hN := w2.1
  refine nq_JM.mono (k_Mod_expression (r := r) h hc hD h3 hs (by omega) h2) (fun o σ' hq => ?_)
  obtain ⟨f, v', ar', k, hq⟩ := hq
  refine ⟨f, v', ar', k, ?_⟩
  cases hx : sp_expr L cols r i with
  | inl p =>
    rw [hx] at hq
    obtain ⟨e, out', q', S'⟩ := hq
    exact ⟨e, S'.w.1, S'.w.2.2.2.2⟩
  | inr w =>
    obtain ⟨c, j⟩ := w
    rw [hx] at hq
    obtain ⟨e, e2, S'⟩ := hq
    obtain ⟨s1, s2, s3, _, _⟩ := sp_expr_b w2.lt hc hr hx
    have m1 := md_len c
    have m2 := sp_q_le c
    exact ⟨e, e2, S', by simp only [List.length_append, List.length_cons, List.length_nil]; omega, by omega, s3⟩
theorem mo_tab {c : Nat} (hc : c < 128) : ((48 : Int32) ≤ nI c ∧ nI c ≤ 50) ↔ c ∈ tx 2 := by
  have key : ∀ x : Fin 128, (((48 : Int32) ≤ nI x.1 ∧ nI x.1 ≤ 50) ↔ x.1 ∈ tx 2) := by decide +kernel
  exact key ⟨c, hc⟩
theorem k_Mod_table {nc k : Nat} (h : mt_S σ v ar L N nc i out q) (hk : k < 70) (hD : 2 ≤ d) : nq_JM G d 0 0 m_Mod_table [.ref 270, .int (nI (1600 + k))] σ (fun o σ' => mo_fr σ σ' ∧ ∃ v' ar', mo_kh v ar v' ar' ∧ (∀ j, j < 70 → j ≠ k → mo_hd ar' j = mo_hd ar j) ∧ if L i ∈ tx 2 then o = .inl (some (.int 1)) ∧ mo_hd ar' k = nI (L i - 48) ∧ mt_S σ' v' ar' L N nc (i + 1) out q else o = .inl (some (.int 0)) ∧ mf_S σ' v' ar' i) := by
  obtain ⟨d, rfl⟩ : ∃ d', d = d' + 1 := ⟨d - 1, by omega⟩
  obtain ⟨⟨ops, hp⟩, h1, h2, h3⟩ := id h
  have hN := hp.2.1.1
  have hl7 := hp.2.1.l7 i
  have w := hp.1.1
  have a1 := hp.1.2.2.1
  have s5 := hp.2.2.2.2.1
  refine nq_mk' (lv := [some (.ref 270), some (.int (nI (1600 + k)))]) (by decide +kernel) rfl (Nat.le_of_ble_eq_true rfl) rfl ?_
  refine nq_aload_n (pc' := 1) d_Mod_table_0 rfl rfl rfl ?_
  refine nq_callVR (pc' := 4) d_Mod_table_1 rfl cl_Mod_84 rfl (by first | assumption | exact nq_ga (by assumption) | exact nq_gs (by first | assumption | exact nq_ga (by assumption) | exact nq_gs (by first | assumption | exact nq_gs (by assumption) | exact nq_gn (by first | assumption | decide | omega | exact nq_ne1 (by assumption) (by assumption) | exact nq_ne2 (by assumption) (by assumption)) (by assumption) | exact nq_ga (by assumption)) | exact nq_gn (by first | assumption | decide | omega | exact nq_ne1 (by assumption) (by assumption) | exact nq_ne2 (by assumption) (by assumption)) (by first | assumption | exact nq_gs (by assumption) | exact nq_gn (by first | assumption | decide | omega | exact nq_ne1 (by assumption) (by assumption) | exact nq_ne2 (by assumption) (by assumption)) (by assumption) | exact nq_ga (by assumption))) | exact nq_gn (by first | assumption | decide | omega | exact nq_ne1 (by assumption) (by assumption) | exact nq_ne2 (by assumption) (by assumption)) (by first | assumption | exact nq_ga (by assumption) | exact nq_gs (by first | assumption | exact nq_gs (by assumption) | exact nq_gn (by first | assumption | decide | omega | exact nq_ne1 (by assumption) (by assumption) | exact nq_ne2 (by assumption) (by assumption)) (by assumption) | exact nq_ga (by assumption)) | exact nq_gn (by first | assumption | decide | omega | exact nq_ne1 (by assumption) (by assumption) | exact nq_ne2 (by assumption) (by assumption)) (by first | assumption | exact nq_gs (by assumption) | exact nq_gn (by first | assumption | decide | omega | exact nq_ne1 (by assumption) (by assumption) | exact nq_ne2 (by assumption) (by assumption)) (by assumption) | exact nq_ga (by assumption)))) rfl rfl (kc := 0) (ks := 0) (mc' := 0) (ms' := 0) (As := []) (rest := []) rfl rfl (by decide) (k_Mod_look hp (by omega)) ?_
  refine nq_bipush (v := 48) (pc' := 6) d_Mod_table_4 rfl (by decide) ?_
  refine nq_bipush (v := 50) (pc' := 8) d_Mod_table_6 rfl (by decide) ?_
  refine nq_callSR (pc' := 11) d_Mod_table_8 rfl cl_Mod_66 st_Mod_66 rfl (kc := 0) (ks := 0) (mc' := 0) (ms' := 0) (As := [.int (nI (L i)), .int 48, .int 50]) (rest := []) rfl rfl (by decide) k_Mod_in ?_
  rw [mo_if (mo_tab hl7)]
  by_cases hm : L i ∈ tx 2
  · rw [if_pos hm]
    have hi' := hp.2.1.lt i (tx_n0 hm)
    have h48 : 48 ≤ L i := by
      have : ∀ c ∈ tx 2, 48 ≤ c := by decide
      exact this _ hm
    refine nq_if_ne (pc' := 14) (tgt := 16) d_Mod_table_11 rfl (by decide) (fun _ => ?_) (fun h => absurd h (by decide))
    refine nq_aload_n (pc' := 17) d_Mod_table_16 rfl rfl rfl ?_
    refine nq_getf (pc' := 20) d_Mod_table_17 rfl fl_Mod_13 (by first | assumption | exact nq_ga (by assumption) | exact nq_gs (by first | assumption | exact nq_ga (by assumption) | exact nq_gs (by first | assumption | exact nq_gs (by assumption) | exact nq_gn (by first | assumption | decide | omega | exact nq_ne1 (by assumption) (by assumption) | exact nq_ne2 (by assumption) (by assumption)) (by assumption) | exact nq_ga (by assumption)) | exact nq_gn (by first | assumption | decide | omega | exact nq_ne1 (by assumption) (by assumption) | exact nq_ne2 (by assumption) (by assumption)) (by first | assumption | exact nq_gs (by assumption) | exact nq_gn (by first | assumption | decide | omega | exact nq_ne1 (by assumption) (by assumption) | exact nq_ne2 (by assumption) (by assumption)) (by assumption) | exact nq_ga (by assumption))) | exact nq_gn (by first | assumption | decide | omega | exact nq_ne1 (by assumption) (by assumption) | exact nq_ne2 (by assumption) (by assumption)) (by first | assumption | exact nq_ga (by assumption) | exact nq_gs (by first | assumption | exact nq_gs (by assumption) | exact nq_gn (by first | assumption | decide | omega | exact nq_ne1 (by assumption) (by assumption) | exact nq_ne2 (by assumption) (by assumption)) (by assumption) | exact nq_ga (by assumption)) | exact nq_gn (by first | assumption | decide | omega | exact nq_ne1 (by assumption) (by assumption) | exact nq_ne2 (by assumption) (by assumption)) (by first | assumption | exact nq_gs (by assumption) | exact nq_gn (by first | assumption | decide | omega | exact nq_ne1 (by assumption) (by assumption) | exact nq_ne2 (by assumption) (by assumption)) (by assumption) | exact nq_ga (by assumption)))) rfl ?_
    refine nq_iload_n (pc' := 21) d_Mod_table_20 rfl rfl rfl ?_
    refine nq_aload_n (pc' := 22) d_Mod_table_21 rfl rfl rfl ?_
    refine nq_callVR (pc' := 25) d_Mod_table_22 rfl cl_Mod_84 rfl (by first | assumption | exact nq_ga (by assumption) | exact nq_gs (by first | assumption | exact nq_ga (by assumption) | exact nq_gs (by first | assumption | exact nq_gs (by assumption) | exact nq_gn (by first | assumption | decide | omega | exact nq_ne1 (by assumption) (by assumption) | exact nq_ne2 (by assumption) (by assumption)) (by assumption) | exact nq_ga (by assumption)) | exact nq_gn (by first | assumption | decide | omega | exact nq_ne1 (by assumption) (by assumption) | exact nq_ne2 (by assumption) (by assumption)) (by first | assumption | exact nq_gs (by assumption) | exact nq_gn (by first | assumption | decide | omega | exact nq_ne1 (by assumption) (by assumption) | exact nq_ne2 (by assumption) (by assumption)) (by assumption) | exact nq_ga (by assumption))) | exact nq_gn (by first | assumption | decide | omega | exact nq_ne1 (by assumption) (by assumption) | exact nq_ne2 (by assumption) (by assumption)) (by first | assumption | exact nq_ga (by assumption) | exact nq_gs (by first | assumption | exact nq_gs (by assumption) | exact nq_gn (by first | assumption | decide | omega | exact nq_ne1 (by assumption) (by assumption) | exact nq_ne2 (by assumption) (by assumption)) (by assumption) | exact nq_ga (by assumption)) | exact nq_gn (by first | assumption | decide | omega | exact nq_ne1 (by assumption) (by assumption) | exact nq_ne2 (by assumption) (by assumption)) (by first | assumption | exact nq_gs (by assumption) | exact nq_gn (by first | assumption | decide | omega | exact nq_ne1 (by assumption) (by assumption) | exact nq_ne2 (by assumption) (by assumption)) (by assumption) | exact nq_ga (by assumption)))) rfl rfl (kc := 0) (ks := 0) (mc' := 0) (ms' := 0) (As := []) (rest := [.int (nI (1600 + k)), .ref 272]) rfl rfl (Nat.le_of_ble_eq_true rfl) (k_Mod_look hp (by omega)) ?_
    refine nq_bipush (v := 48) (pc' := 27) d_Mod_table_25 rfl (by decide) ?_
    refine nq_isub (pc' := 28) d_Mod_table_27 rfl ?_
    refine (congrArg (fun v => nq_J G (d + 1) 0 0 m_Mod_table 28 _ [Value.int v, .int (nI (1600 + k)), .ref 272] _ _) (show nI (L i) - nI 48 = nI (L i - 48) from rd_sb h48)).mpr ?_
    refine nq_iast (pc' := 29) d_Mod_table_28 rfl (by first | assumption | exact nq_ga (by assumption) | exact nq_gs (by first | assumption | exact nq_ga (by assumption) | exact nq_gs (by first | assumption | exact nq_gs (by assumption) | exact nq_gn (by first | assumption | decide | omega | exact nq_ne1 (by assumption) (by assumption) | exact nq_ne2 (by assumption) (by assumption)) (by assumption) | exact nq_ga (by assumption)) | exact nq_gn (by first | assumption | decide | omega | exact nq_ne1 (by assumption) (by assumption) | exact nq_ne2 (by assumption) (by assumption)) (by first | assumption | exact nq_gs (by assumption) | exact nq_gn (by first | assumption | decide | omega | exact nq_ne1 (by assumption) (by assumption) | exact nq_ne2 (by assumption) (by assumption)) (by assumption) | exact nq_ga (by assumption))) | exact nq_gn (by first | assumption | decide | omega | exact nq_ne1 (by assumption) (by assumption) | exact nq_ne2 (by assumption) (by assumption)) (by first | assumption | exact nq_ga (by assumption) | exact nq_gs (by first | assumption | exact nq_gs (by assumption) | exact nq_gn (by first | assumption | decide | omega | exact nq_ne1 (by assumption) (by assumption) | exact nq_ne2 (by assumption) (by assumption)) (by assumption) | exact nq_ga (by assumption)) | exact nq_gn (by first | assumption | decide | omega | exact nq_ne1 (by assumption) (by assumption) | exact nq_ne2 (by assumption) (by assumption)) (by first | assumption | exact nq_gs (by assumption) | exact nq_gn (by first | assumption | decide | omega | exact nq_ne1 (by assumption) (by assumption) | exact nq_ne2 (by assumption) (by assumption)) (by assumption) | exact nq_ga (by assumption)))) rfl (j := 1600 + k) rfl (by omega) (by decide) ?_
    have S1 := h.hd (f := upd (ar 1) (1600 + k) (nI (L i - 48))) (fun j hj => upd_ne (by omega))
    have S2 := S1.pos (i' := i + 1) (by omega) (by omega)
    refine nq_aload_n (pc' := 30) d_Mod_table_29 rfl rfl rfl ?_
    refine nq_dup (pc' := 31) d_Mod_table_30 rfl rfl ?_
    refine nq_getf (pc' := 34) d_Mod_table_31 rfl fl_Mod_81 (by first | assumption | exact nq_ga (by assumption) | exact nq_gs (by first | assumption | exact nq_ga (by assumption) | exact nq_gs (by first | assumption | exact nq_gs (by assumption) | exact nq_gn (by first | assumption | decide | omega | exact nq_ne1 (by assumption) (by assumption) | exact nq_ne2 (by assumption) (by assumption)) (by assumption) | exact nq_ga (by assumption)) | exact nq_gn (by first | assumption | decide | omega | exact nq_ne1 (by assumption) (by assumption) | exact nq_ne2 (by assumption) (by assumption)) (by first | assumption | exact nq_gs (by assumption) | exact nq_gn (by first | assumption | decide | omega | exact nq_ne1 (by assumption) (by assumption) | exact nq_ne2 (by assumption) (by assumption)) (by assumption) | exact nq_ga (by assumption))) | exact nq_gn (by first | assumption | decide | omega | exact nq_ne1 (by assumption) (by assumption) | exact nq_ne2 (by assumption) (by assumption)) (by first | assumption | exact nq_ga (by assumption) | exact nq_gs (by first | assumption | exact nq_gs (by assumption) | exact nq_gn (by first | assumption | decide | omega | exact nq_ne1 (by assumption) (by assumption) | exact nq_ne2 (by assumption) (by assumption)) (by assumption) | exact nq_ga (by assumption)) | exact nq_gn (by first | assumption | decide | omega | exact nq_ne1 (by assumption) (by assumption) | exact nq_ne2 (by assumption) (by assumption)) (by first | assumption | exact nq_gs (by assumption) | exact nq_gn (by first | assumption | decide | omega | exact nq_ne1 (by assumption) (by assumption) | exact nq_ne2 (by assumption) (by assumption)) (by assumption) | exact nq_ga (by assumption)))) rfl ?_
    refine nq_iconst (v := 1) (pc' := 35) d_Mod_table_34 rfl (by decide) ?_
    refine nq_iadd (pc' := 36) d_Mod_table_35 rfl ?_
    refine nq_putf (pc' := 39) d_Mod_table_36 rfl fl_Mod_81 (by first | assumption | exact nq_ga (by assumption) | exact nq_gs (by first | assumption | exact nq_ga (by assumption) | exact nq_gs (by first | assumption | exact nq_gs (by assumption) | exact nq_gn (by first | assumption | decide | omega | exact nq_ne1 (by assumption) (by assumption) | exact nq_ne2 (by assumption) (by assumption)) (by assumption) | exact nq_ga (by assumption)) | exact nq_gn (by first | assumption | decide | omega | exact nq_ne1 (by assumption) (by assumption) | exact nq_ne2 (by assumption) (by assumption)) (by first | assumption | exact nq_gs (by assumption) | exact nq_gn (by first | assumption | decide | omega | exact nq_ne1 (by assumption) (by assumption) | exact nq_ne2 (by assumption) (by assumption)) (by assumption) | exact nq_ga (by assumption))) | exact nq_gn (by first | assumption | decide | omega | exact nq_ne1 (by assumption) (by assumption) | exact nq_ne2 (by assumption) (by assumption)) (by first | assumption | exact nq_ga (by assumption) | exact nq_gs (by first | assumption | exact nq_gs (by assumption) | exact nq_gn (by first | assumption | decide | omega | exact nq_ne1 (by assumption) (by assumption) | exact nq_ne2 (by assumption) (by assumption)) (by assumption) | exact nq_ga (by assumption)) | exact nq_gn (by first | assumption | decide | omega | exact nq_ne1 (by assumption) (by assumption) | exact nq_ne2 (by assumption) (by assumption)) (by first | assumption | exact nq_gs (by assumption) | exact nq_gn (by first | assumption | decide | omega | exact nq_ne1 (by assumption) (by assumption) | exact nq_ne2 (by assumption) (by assumption)) (by assumption) | exact nq_ga (by assumption)))) (Nat.le_of_ble_eq_true rfl) rfl rfl ?_
    refine nq_iconst (v := 1) (pc' := 40) d_Mod_table_39 rfl (by decide) ?_
    rw [s5, nI_1]
    refine nq_iret d_Mod_table_40 rfl rfl ?_
    refine ⟨(mo_fr.st (by decide)).tr (mo_fr.st (by decide)), upd v 2 (nI (i + 1)), ua ar 1 (upd (ar 1) (1600 + k) (nI (L i - 48))), (mo_kh.c (f := upd (ar 1) (1600 + k) (nI (L i - 48))) (fun j hj => upd_ne (by omega))).tr (mo_kh.u (k := 2) (by decide)), fun j hj hn => ?_, ?_⟩
    · unfold mo_hd
      rw [ua_at, upd_ne (by omega)]
    · rw [if_pos hm]
      refine ⟨rfl, ?_, S2⟩
      unfold mo_hd
      rw [ua_at, upd_at]
  · rw [if_neg hm]
    refine nq_if_ne (pc' := 14) (tgt := 16) d_Mod_table_11 rfl (by decide) (fun h => absurd rfl h) (fun _ => ?_)
    refine nq_iconst (v := 0) (pc' := 15) d_Mod_table_14 rfl (by decide) ?_
    refine nq_iret d_Mod_table_15 rfl rfl ?_
    refine ⟨mo_fr.rf, v, ar, mo_kh.rf, fun _ _ _ => rfl, ?_⟩
    rw [if_neg hm]
    exact ⟨rfl, hp.1, s5⟩
def ml_Q (σ : nq_S) (v : Nat → Int32) (ar : mo_Ar) (L : Nat → Nat) (N nc q : Nat) (out : List Int32) (res : Nat ⊕ (List (List nq_In) × Nat)) : nq_Q := fun o σ' => mo_fr σ σ' ∧ ∃ v' ar', mo_kh v ar v' ar' ∧ (∀ j, j < 70 → (j < 3 ∨ 6 < j) → mo_hd ar' j = mo_hd ar j) ∧ match res with
  | .inl p => o = .inl (some (.int 0)) ∧ mf_S σ' v' ar' p
  | .inr (vs, j) => o = .inl (some (.int 1)) ∧ ∃ t, mt_S σ' v' ar' L N nc j (out ++ t) (q + sp_q vs.flatten) ∧ mv_vs (mo_hd ar') (out ++ t) vs
def ml_P (G : nq_G) (d : Nat) (σ : nq_S) (v : Nat → Int32) (ar : mo_Ar) (L : Nat → Nat) (N cols q : Nat) (out : List Int32) (most F : Nat) : Prop := ∀ (i : Nat) (acc : List (List nq_In)) (t : List Int32) (σ1 : nq_S) (v1 : Nat → Int32) (ar1 : mo_Ar), F + 1 + acc.length = most → mt_S σ1 v1 ar1 L N (sp_nc cols) i (out ++ t) (q + sp_q acc.flatten) → mv_vs (mo_hd ar1) (out ++ t) acc → mo_fr σ σ1 → mo_kh v ar v1 ar1 → (∀ j, j < 70 → (j < 3 ∨ 6 < j) → mo_hd ar1 j = mo_hd ar j) → nq_J G (d + 1) 0 0 m_Mod_list 0 [some (.ref 270), some (.int (nI 1600)), some (.int (nI most))] [] σ1 (ml_Q σ v ar L N (sp_nc cols) q out (sp_list L cols (F + 1) acc i))
theorem ml_step {most F : Nat} (hm : most ≤ 3) (hc : cols = 0 ∨ cols = 3 ∨ cols = 4) (hD : 5 ≤ d) (ih : ∀ F', F = F' + 1 → ml_P G d σ v ar L N cols q out most F') : ml_P G d σ v ar L N cols q out most F := by
  intro i acc t σ1 v1 ar1 hF S1 V1 F1 K1 H1
  obtain ⟨⟨ops, hp⟩, l1, l2, l3⟩ := id S1
  have hN := hp.2.1.1
  have w := hp.1.1
  have a1 := hp.1.2.2.1
  have hd3 : ar1 1 1603 = nI acc.length := V1.1
  have es : nI 1600 + nI 4 + nI acc.length = nI (1604 + acc.length) := by rw [nI_add, nI_add]
  unfold sp_list
  refine nq_aload_n (pc' := 1) d_Mod_list_0 rfl rfl rfl ?_
  refine nq_iload_n (pc' := 2) d_Mod_list_1 rfl rfl rfl ?_
  refine nq_iconst (v := 4) (pc' := 3) d_Mod_list_2 rfl (by decide) ?_
  refine nq_iadd (pc' := 4) d_Mod_list_3 rfl ?_
  refine nq_aload_n (pc' := 5) d_Mod_list_4 rfl rfl rfl ?_
  refine nq_getf (pc' := 8) d_Mod_list_5 rfl fl_Mod_13 (by first | assumption | exact nq_ga (by assumption) | exact nq_gs (by first | assumption | exact nq_ga (by assumption) | exact nq_gs (by first | assumption | exact nq_gs (by assumption) | exact nq_gn (by first | assumption | decide | omega | exact nq_ne1 (by assumption) (by assumption) | exact nq_ne2 (by assumption) (by assumption)) (by assumption) | exact nq_ga (by assumption)) | exact nq_gn (by first | assumption | decide | omega | exact nq_ne1 (by assumption) (by assumption) | exact nq_ne2 (by assumption) (by assumption)) (by first | assumption | exact nq_gs (by assumption) | exact nq_gn (by first | assumption | decide | omega | exact nq_ne1 (by assumption) (by assumption) | exact nq_ne2 (by assumption) (by assumption)) (by assumption) | exact nq_ga (by assumption))) | exact nq_gn (by first | assumption | decide | omega | exact nq_ne1 (by assumption) (by assumption) | exact nq_ne2 (by assumption) (by assumption)) (by first | assumption | exact nq_ga (by assumption) | exact nq_gs (by first | assumption | exact nq_gs (by assumption) | exact nq_gn (by first | assumption | decide | omega | exact nq_ne1 (by assumption) (by assumption) | exact nq_ne2 (by assumption) (by assumption)) (by assumption) | exact nq_ga (by assumption)) | exact nq_gn (by first | assumption | decide | omega | exact nq_ne1 (by assumption) (by assumption) | exact nq_ne2 (by assumption) (by assumption)) (by first | assumption | exact nq_gs (by assumption) | exact nq_gn (by first | assumption | decide | omega | exact nq_ne1 (by assumption) (by assumption) | exact nq_ne2 (by assumption) (by assumption)) (by assumption) | exact nq_ga (by assumption)))) rfl ?_
  refine nq_iload_n (pc' := 9) d_Mod_list_8 rfl rfl rfl ?_
  refine nq_iconst (v := 3) (pc' := 10) d_Mod_list_9 rfl (by decide) ?_
  refine nq_iadd (pc' := 11) d_Mod_list_10 rfl ?_
  refine nq_iald (pc' := 12) d_Mod_list_11 rfl (by first | assumption | exact nq_ga (by assumption) | exact nq_gs (by first | assumption | exact nq_ga (by assumption) | exact nq_gs (by first | assumption | exact nq_gs (by assumption) | exact nq_gn (by first | assumption | decide | omega | exact nq_ne1 (by assumption) (by assumption) | exact nq_ne2 (by assumption) (by assumption)) (by assumption) | exact nq_ga (by assumption)) | exact nq_gn (by first | assumption | decide | omega | exact nq_ne1 (by assumption) (by assumption) | exact nq_ne2 (by assumption) (by assumption)) (by first | assumption | exact nq_gs (by assumption) | exact nq_gn (by first | assumption | decide | omega | exact nq_ne1 (by assumption) (by assumption) | exact nq_ne2 (by assumption) (by assumption)) (by assumption) | exact nq_ga (by assumption))) | exact nq_gn (by first | assumption | decide | omega | exact nq_ne1 (by assumption) (by assumption) | exact nq_ne2 (by assumption) (by assumption)) (by first | assumption | exact nq_ga (by assumption) | exact nq_gs (by first | assumption | exact nq_gs (by assumption) | exact nq_gn (by first | assumption | decide | omega | exact nq_ne1 (by assumption) (by assumption) | exact nq_ne2 (by assumption) (by assumption)) (by assumption) | exact nq_ga (by assumption)) | exact nq_gn (by first | assumption | decide | omega | exact nq_ne1 (by assumption) (by assumption) | exact nq_ne2 (by assumption) (by assumption)) (by first | assumption | exact nq_gs (by assumption) | exact nq_gn (by first | assumption | decide | omega | exact nq_ne1 (by assumption) (by assumption) | exact nq_ne2 (by assumption) (by assumption)) (by assumption) | exact nq_ga (by assumption)))) rfl (j := 1603) (by decide) (by decide) (by decide) ?_
  rw [hd3]
  refine nq_iadd (pc' := 13) d_Mod_list_12 rfl ?_
  refine (congrArg (fun x => nq_J G (d + 1) 0 0 m_Mod_list 13 _ [Value.int x, .ref 270] _ _) es).mpr ?_
  refine nq_callV (pc' := 16) d_Mod_list_13 rfl cl_Mod_128 rfl (by first | assumption | exact nq_ga (by assumption) | exact nq_gs (by first | assumption | exact nq_ga (by assumption) | exact nq_gs (by first | assumption | exact nq_gs (by assumption) | exact nq_gn (by first | assumption | decide | omega | exact nq_ne1 (by assumption) (by assumption) | exact nq_ne2 (by assumption) (by assumption)) (by assumption) | exact nq_ga (by assumption)) | exact nq_gn (by first | assumption | decide | omega | exact nq_ne1 (by assumption) (by assumption) | exact nq_ne2 (by assumption) (by assumption)) (by first | assumption | exact nq_gs (by assumption) | exact nq_gn (by first | assumption | decide | omega | exact nq_ne1 (by assumption) (by assumption) | exact nq_ne2 (by assumption) (by assumption)) (by assumption) | exact nq_ga (by assumption))) | exact nq_gn (by first | assumption | decide | omega | exact nq_ne1 (by assumption) (by assumption) | exact nq_ne2 (by assumption) (by assumption)) (by first | assumption | exact nq_ga (by assumption) | exact nq_gs (by first | assumption | exact nq_gs (by assumption) | exact nq_gn (by first | assumption | decide | omega | exact nq_ne1 (by assumption) (by assumption) | exact nq_ne2 (by assumption) (by assumption)) (by assumption) | exact nq_ga (by assumption)) | exact nq_gn (by first | assumption | decide | omega | exact nq_ne1 (by assumption) (by assumption) | exact nq_ne2 (by assumption) (by assumption)) (by first | assumption | exact nq_gs (by assumption) | exact nq_gn (by first | assumption | decide | omega | exact nq_ne1 (by assumption) (by assumption) | exact nq_ne2 (by assumption) (by assumption)) (by assumption) | exact nq_ga (by assumption)))) rfl rfl (kc := 0) (ks := 0) (mc' := 0) (ms' := 0) (As := [.int (nI (1604 + acc.length))]) (rest := []) rfl rfl (by decide) (k_Mod_ex (r := 7 + acc.length) S1 hc hD (by omega) (by omega)) (fun E σ2 hq => ?_) (fun z σ2 hq => ?_)
  · obtain ⟨_, _, _, _, hq⟩ := hq
    cases hx : sp_expr L cols (7 + acc.length) i with
    | inl p => rw [hx] at hq; cases hq.1
    | inr w => rw [hx] at hq; cases hq.1
  obtain ⟨f2, v2, ar2, k2, hq⟩ := hq
  have hk2 : ∀ j, j < 70 → j ≠ 4 + acc.length → mo_hd ar2 j = mo_hd ar1 j := fun j hj hn => k2.2.2 (1600 + j) (by omega) (by omega)
  cases hx : sp_expr L cols (7 + acc.length) i with
  | inl p =>
    rw [hx] at hq
    obtain ⟨e1, hf⟩ := hq
    cases e1
    refine nq_if_ne (pc' := 19) (tgt := 21) d_Mod_list_16 rfl (by decide) (fun h => absurd rfl h) (fun _ => ?_)
    refine nq_iconst (v := 0) (pc' := 20) d_Mod_list_19 rfl (by decide) ?_
    refine nq_iret d_Mod_list_20 rfl rfl ⟨F1.tr f2, v2, ar2, K1.tr (k2.h (by omega)), fun j hj hn => by rw [hk2 j hj (by omega)]; exact H1 j hj hn, rfl, hf⟩
  | inr w2 =>
    obtain ⟨c, j⟩ := w2
    rw [hx] at hq
    obtain ⟨e1, e2, S2⟩ := hq
    cases e1
    simp only
    obtain ⟨s1, s2, s3, _, _⟩ := sp_expr_b hp.2.1.lt hc (by omega) hx
    have w2 := S2.1.w.1.1
    have b1 := S2.1.w.1.2.2.1
    have hd3' : ar2 1 1603 = nI acc.length := (hk2 3 (by decide) (by omega)).trans hd3
    refine nq_if_ne (pc' := 19) (tgt := 21) d_Mod_list_16 rfl (by decide) (fun _ => ?_) (fun h => absurd h (by decide))
    refine nq_aload_n (pc' := 22) d_Mod_list_21 rfl rfl rfl ?_
    refine nq_getf (pc' := 25) d_Mod_list_22 rfl fl_Mod_13 (by first | assumption | exact nq_ga (by assumption) | exact nq_gs (by first | assumption | exact nq_ga (by assumption) | exact nq_gs (by first | assumption | exact nq_gs (by assumption) | exact nq_gn (by first | assumption | decide | omega | exact nq_ne1 (by assumption) (by assumption) | exact nq_ne2 (by assumption) (by assumption)) (by assumption) | exact nq_ga (by assumption)) | exact nq_gn (by first | assumption | decide | omega | exact nq_ne1 (by assumption) (by assumption) | exact nq_ne2 (by assumption) (by assumption)) (by first | assumption | exact nq_gs (by assumption) | exact nq_gn (by first | assumption | decide | omega | exact nq_ne1 (by assumption) (by assumption) | exact nq_ne2 (by assumption) (by assumption)) (by assumption) | exact nq_ga (by assumption))) | exact nq_gn (by first | assumption | decide | omega | exact nq_ne1 (by assumption) (by assumption) | exact nq_ne2 (by assumption) (by assumption)) (by first | assumption | exact nq_ga (by assumption) | exact nq_gs (by first | assumption | exact nq_gs (by assumption) | exact nq_gn (by first | assumption | decide | omega | exact nq_ne1 (by assumption) (by assumption) | exact nq_ne2 (by assumption) (by assumption)) (by assumption) | exact nq_ga (by assumption)) | exact nq_gn (by first | assumption | decide | omega | exact nq_ne1 (by assumption) (by assumption) | exact nq_ne2 (by assumption) (by assumption)) (by first | assumption | exact nq_gs (by assumption) | exact nq_gn (by first | assumption | decide | omega | exact nq_ne1 (by assumption) (by assumption) | exact nq_ne2 (by assumption) (by assumption)) (by assumption) | exact nq_ga (by assumption)))) rfl ?_
    refine nq_iload_n (pc' := 26) d_Mod_list_25 rfl rfl rfl ?_
    refine nq_iconst (v := 3) (pc' := 27) d_Mod_list_26 rfl (by decide) ?_
    refine nq_iadd (pc' := 28) d_Mod_list_27 rfl ?_
    refine nq_dup2 (pc' := 29) d_Mod_list_28 rfl rfl rfl ?_
    refine nq_iald (pc' := 30) d_Mod_list_29 rfl (by first | assumption | exact nq_ga (by assumption) | exact nq_gs (by first | assumption | exact nq_ga (by assumption) | exact nq_gs (by first | assumption | exact nq_gs (by assumption) | exact nq_gn (by first | assumption | decide | omega | exact nq_ne1 (by assumption) (by assumption) | exact nq_ne2 (by assumption) (by assumption)) (by assumption) | exact nq_ga (by assumption)) | exact nq_gn (by first | assumption | decide | omega | exact nq_ne1 (by assumption) (by assumption) | exact nq_ne2 (by assumption) (by assumption)) (by first | assumption | exact nq_gs (by assumption) | exact nq_gn (by first | assumption | decide | omega | exact nq_ne1 (by assumption) (by assumption) | exact nq_ne2 (by assumption) (by assumption)) (by assumption) | exact nq_ga (by assumption))) | exact nq_gn (by first | assumption | decide | omega | exact nq_ne1 (by assumption) (by assumption) | exact nq_ne2 (by assumption) (by assumption)) (by first | assumption | exact nq_ga (by assumption) | exact nq_gs (by first | assumption | exact nq_gs (by assumption) | exact nq_gn (by first | assumption | decide | omega | exact nq_ne1 (by assumption) (by assumption) | exact nq_ne2 (by assumption) (by assumption)) (by assumption) | exact nq_ga (by assumption)) | exact nq_gn (by first | assumption | decide | omega | exact nq_ne1 (by assumption) (by assumption) | exact nq_ne2 (by assumption) (by assumption)) (by first | assumption | exact nq_gs (by assumption) | exact nq_gn (by first | assumption | decide | omega | exact nq_ne1 (by assumption) (by assumption) | exact nq_ne2 (by assumption) (by assumption)) (by assumption) | exact nq_ga (by assumption)))) rfl (j := 1603) (by decide) (by decide) (by decide) ?_
    rw [hd3']
    refine nq_iconst (v := 1) (pc' := 31) d_Mod_list_30 rfl (by decide) ?_
    refine nq_iadd (pc' := 32) d_Mod_list_31 rfl ?_
    refine nq_iast (pc' := 33) d_Mod_list_32 rfl (by first | assumption | exact nq_ga (by assumption) | exact nq_gs (by first | assumption | exact nq_ga (by assumption) | exact nq_gs (by first | assumption | exact nq_gs (by assumption) | exact nq_gn (by first | assumption | decide | omega | exact nq_ne1 (by assumption) (by assumption) | exact nq_ne2 (by assumption) (by assumption)) (by assumption) | exact nq_ga (by assumption)) | exact nq_gn (by first | assumption | decide | omega | exact nq_ne1 (by assumption) (by assumption) | exact nq_ne2 (by assumption) (by assumption)) (by first | assumption | exact nq_gs (by assumption) | exact nq_gn (by first | assumption | decide | omega | exact nq_ne1 (by assumption) (by assumption) | exact nq_ne2 (by assumption) (by assumption)) (by assumption) | exact nq_ga (by assumption))) | exact nq_gn (by first | assumption | decide | omega | exact nq_ne1 (by assumption) (by assumption) | exact nq_ne2 (by assumption) (by assumption)) (by first | assumption | exact nq_ga (by assumption) | exact nq_gs (by first | assumption | exact nq_gs (by assumption) | exact nq_gn (by first | assumption | decide | omega | exact nq_ne1 (by assumption) (by assumption) | exact nq_ne2 (by assumption) (by assumption)) (by assumption) | exact nq_ga (by assumption)) | exact nq_gn (by first | assumption | decide | omega | exact nq_ne1 (by assumption) (by assumption) | exact nq_ne2 (by assumption) (by assumption)) (by first | assumption | exact nq_gs (by assumption) | exact nq_gn (by first | assumption | decide | omega | exact nq_ne1 (by assumption) (by assumption) | exact nq_ne2 (by assumption) (by assumption)) (by assumption) | exact nq_ga (by assumption)))) rfl (j := 1603) (by decide) (by decide) (by decide) ?_
    rw [nI_1]
    have S3 := S2.hd (f := upd (ar2 1) 1603 (nI (acc.length + 1))) (fun j hj => upd_ne (by omega))
    refine nq_gen (P := fun w => nq_J _ _ _ _ _ _ _ _ w _) (fun σ3 hσ3 => ?_)
    rw [← hσ3] at S3
    have F3 : mo_fr σ σ3 := (F1.tr f2).tr (by rw [hσ3]; exact mo_fr.st (by decide))
    have K3 : mo_kh v ar v2 (ua ar2 1 (upd (ar2 1) 1603 (nI (acc.length + 1)))) := (K1.tr (k2.h (by omega))).tr (mo_kh.c (fun j hj => upd_ne (by omega)))
    have hk3 : ∀ j, j < 70 → j ≠ 3 → mo_hd (ua ar2 1 (upd (ar2 1) 1603 (nI (acc.length + 1)))) j = mo_hd ar2 j := fun j hj hn => by
      unfold mo_hd
      rw [ua_at, upd_ne (by omega)]
    have H3 : ∀ j, j < 70 → (j < 3 ∨ 6 < j) → mo_hd (ua ar2 1 (upd (ar2 1) 1603 (nI (acc.length + 1)))) j = mo_hd ar j := fun j hj hn => by
      rw [hk3 j hj (by omega), hk2 j hj (by omega)]
      exact H1 j hj hn
    have e0 : out ++ t ++ md c ++ [0] = out ++ (t ++ md c ++ [0]) := by simp only [List.append_assoc]
    have V3 : mv_vs (mo_hd (ua ar2 1 (upd (ar2 1) 1603 (nI (acc.length + 1))))) (out ++ (t ++ md c ++ [0])) (acc ++ [c]) := by
      refine ⟨?_, fun k x hk => ?_⟩
      · unfold mo_hd
        rw [ua_at, upd_at, List.length_append]
        rfl
      · by_cases hkk : k = acc.length
        · subst hkk
          rw [List.getElem?_append_right (Nat.le_refl _), Nat.sub_self] at hk
          cases hk
          refine ⟨(out ++ t).length, ?_, ?_⟩
          · rw [hk3 _ (by omega) (by omega)]
            unfold mo_hd
            rw [show 1600 + (4 + acc.length) = 1604 + acc.length from by omega]
            exact e2
          · rw [← e0]
            exact mv_at.new
        · have hl := (List.getElem?_eq_some_iff.mp hk).1
          simp only [List.length_append, List.length_cons, List.length_nil] at hl
          rw [List.getElem?_append_left (by omega)] at hk
          obtain ⟨off, o1, o2⟩ := V1.2 k x hk
          refine ⟨off, ?_, ?_⟩
          · rw [hk3 _ (by omega) (by omega), hk2 _ (by omega) (by omega)]
            exact o1
          · rw [← e0, List.append_assoc (out ++ t)]
            exact o2.app
    rw [e0] at S3
    have eq2 : q + sp_q acc.flatten + sp_q c = q + sp_q (acc ++ [c]).flatten := by
      rw [List.flatten_append, sp_q_app, Nat.add_assoc]
      simp
    rw [eq2] at S3
    obtain ⟨⟨ops3, hp3⟩, m1, m2, m3⟩ := id S3
    have w3 := hp3.1.1
    have d1 := hp3.1.2.2.1
    have hd3'' : (ua ar2 1 (upd (ar2 1) 1603 (nI (acc.length + 1)))) 1 1603 = nI (acc.length + 1) := by rw [ua_at, upd_at]
    have fin : sp_list L cols F (acc ++ [c]) (j + 1) = sp_list L cols F (acc ++ [c]) (j + 1) → nq_J G (d + 1) 0 0 m_Mod_list 54 [some (.ref 270), some (.int (nI 1600)), some (.int (nI most))] [] σ3 (ml_Q σ v ar L N (sp_nc cols) q out (.inr (acc ++ [c], j))) := by
      intro _
      refine nq_iconst (v := 1) (pc' := 55) d_Mod_list_54 rfl (by decide) ?_
      refine nq_iret d_Mod_list_55 rfl rfl ⟨F3, v2, _, K3, H3, rfl, t ++ md c ++ [0], S3, V3⟩
    refine nq_aload_n (pc' := 34) d_Mod_list_33 rfl rfl rfl ?_
    refine nq_getf (pc' := 37) d_Mod_list_34 rfl fl_Mod_13 (by first | assumption | exact nq_ga (by assumption) | exact nq_gs (by first | assumption | exact nq_ga (by assumption) | exact nq_gs (by first | assumption | exact nq_gs (by assumption) | exact nq_gn (by first | assumption | decide | omega | exact nq_ne1 (by assumption) (by assumption) | exact nq_ne2 (by assumption) (by assumption)) (by assumption) | exact nq_ga (by assumption)) | exact nq_gn (by first | assumption | decide | omega | exact nq_ne1 (by assumption) (by assumption) | exact nq_ne2 (by assumption) (by assumption)) (by first | assumption | exact nq_gs (by assumption) | exact nq_gn (by first | assumption | decide | omega | exact nq_ne1 (by assumption) (by assumption) | exact nq_ne2 (by assumption) (by assumption)) (by assumption) | exact nq_ga (by assumption))) | exact nq_gn (by first | assumption | decide | omega | exact nq_ne1 (by assumption) (by assumption) | exact nq_ne2 (by assumption) (by assumption)) (by first | assumption | exact nq_ga (by assumption) | exact nq_gs (by first | assumption | exact nq_gs (by assumption) | exact nq_gn (by first | assumption | decide | omega | exact nq_ne1 (by assumption) (by assumption) | exact nq_ne2 (by assumption) (by assumption)) (by assumption) | exact nq_ga (by assumption)) | exact nq_gn (by first | assumption | decide | omega | exact nq_ne1 (by assumption) (by assumption) | exact nq_ne2 (by assumption) (by assumption)) (by first | assumption | exact nq_gs (by assumption) | exact nq_gn (by first | assumption | decide | omega | exact nq_ne1 (by assumption) (by assumption) | exact nq_ne2 (by assumption) (by assumption)) (by assumption) | exact nq_ga (by assumption)))) rfl ?_
    refine nq_iload_n (pc' := 38) d_Mod_list_37 rfl rfl rfl ?_
    refine nq_iconst (v := 3) (pc' := 39) d_Mod_list_38 rfl (by decide) ?_
    refine nq_iadd (pc' := 40) d_Mod_list_39 rfl ?_
    refine nq_iald (pc' := 41) d_Mod_list_40 rfl (by first | assumption | exact nq_ga (by assumption) | exact nq_gs (by first | assumption | exact nq_ga (by assumption) | exact nq_gs (by first | assumption | exact nq_gs (by assumption) | exact nq_gn (by first | assumption | decide | omega | exact nq_ne1 (by assumption) (by assumption) | exact nq_ne2 (by assumption) (by assumption)) (by assumption) | exact nq_ga (by assumption)) | exact nq_gn (by first | assumption | decide | omega | exact nq_ne1 (by assumption) (by assumption) | exact nq_ne2 (by assumption) (by assumption)) (by first | assumption | exact nq_gs (by assumption) | exact nq_gn (by first | assumption | decide | omega | exact nq_ne1 (by assumption) (by assumption) | exact nq_ne2 (by assumption) (by assumption)) (by assumption) | exact nq_ga (by assumption))) | exact nq_gn (by first | assumption | decide | omega | exact nq_ne1 (by assumption) (by assumption) | exact nq_ne2 (by assumption) (by assumption)) (by first | assumption | exact nq_ga (by assumption) | exact nq_gs (by first | assumption | exact nq_gs (by assumption) | exact nq_gn (by first | assumption | decide | omega | exact nq_ne1 (by assumption) (by assumption) | exact nq_ne2 (by assumption) (by assumption)) (by assumption) | exact nq_ga (by assumption)) | exact nq_gn (by first | assumption | decide | omega | exact nq_ne1 (by assumption) (by assumption) | exact nq_ne2 (by assumption) (by assumption)) (by first | assumption | exact nq_gs (by assumption) | exact nq_gn (by first | assumption | decide | omega | exact nq_ne1 (by assumption) (by assumption) | exact nq_ne2 (by assumption) (by assumption)) (by assumption) | exact nq_ga (by assumption)))) rfl (j := 1603) (by decide) (by decide) (by decide) ?_
    rw [hd3'']
    refine nq_iload_n (pc' := 42) d_Mod_list_41 rfl rfl rfl ?_
    by_cases hF0 : F = 0
    · rw [if_neg (fun h => h.1 hF0)]
      refine nq_icmp_ge (pc' := 45) (tgt := 54) d_Mod_list_42 rfl (by decide) (fun _ => fin rfl) (fun h => absurd ((nI_leI (by omega) (by omega)).mpr (by omega)) h)
    refine nq_icmp_ge (pc' := 45) (tgt := 54) d_Mod_list_42 rfl (by decide) (fun h => absurd ((nI_leI (by omega) (by omega)).mp h) (by omega)) (fun _ => ?_)
    refine nq_aload_n (pc' := 46) d_Mod_list_45 rfl rfl rfl ?_
    refine nq_bipush (v := 44) (pc' := 48) d_Mod_list_46 rfl (by decide) ?_
    refine nq_callVR (pc' := 51) d_Mod_list_48 rfl cl_Mod_124 rfl (by first | assumption | exact nq_ga (by assumption) | exact nq_gs (by first | assumption | exact nq_ga (by assumption) | exact nq_gs (by first | assumption | exact nq_gs (by assumption) | exact nq_gn (by first | assumption | decide | omega | exact nq_ne1 (by assumption) (by assumption) | exact nq_ne2 (by assumption) (by assumption)) (by assumption) | exact nq_ga (by assumption)) | exact nq_gn (by first | assumption | decide | omega | exact nq_ne1 (by assumption) (by assumption) | exact nq_ne2 (by assumption) (by assumption)) (by first | assumption | exact nq_gs (by assumption) | exact nq_gn (by first | assumption | decide | omega | exact nq_ne1 (by assumption) (by assumption) | exact nq_ne2 (by assumption) (by assumption)) (by assumption) | exact nq_ga (by assumption))) | exact nq_gn (by first | assumption | decide | omega | exact nq_ne1 (by assumption) (by assumption) | exact nq_ne2 (by assumption) (by assumption)) (by first | assumption | exact nq_ga (by assumption) | exact nq_gs (by first | assumption | exact nq_gs (by assumption) | exact nq_gn (by first | assumption | decide | omega | exact nq_ne1 (by assumption) (by assumption) | exact nq_ne2 (by assumption) (by assumption)) (by assumption) | exact nq_ga (by assumption)) | exact nq_gn (by first | assumption | decide | omega | exact nq_ne1 (by assumption) (by assumption) | exact nq_ne2 (by assumption) (by assumption)) (by first | assumption | exact nq_gs (by assumption) | exact nq_gn (by first | assumption | decide | omega | exact nq_ne1 (by assumption) (by assumption) | exact nq_ne2 (by assumption) (by assumption)) (by assumption) | exact nq_ga (by assumption)))) rfl rfl (kc := 0) (ks := 0) (mc' := 0) (ms' := 0) (As := [.int (nI 44)]) (rest := []) rfl rfl (by decide) (k_Mod_passes (c := 44) hp3 (by omega) (by decide) (by omega)) ?_
    by_cases e44 : L j = 44
    · rw [if_pos e44, if_pos e44, if_pos ⟨hF0, e44⟩]
      have hj' := hp.2.1.lt j (by omega)
      obtain ⟨F', rfl⟩ : ∃ F', F = F' + 1 := ⟨F - 1, by omega⟩
      have S4 := S3.pos (i' := j + 1) (by omega) (by omega)
      refine nq_if_ne (pc' := 54) (tgt := 0) d_Mod_list_51 rfl (by decide) (fun _ => ?_) (fun h => absurd h (by decide))
      exact ih F' rfl (j + 1) (acc ++ [c]) (t ++ md c ++ [0]) _ _ _ (by rw [List.length_append]; simp only [List.length_cons, List.length_nil]; omega) S4 V3 (F3.tr (mo_fr.st (by decide))) (K3.tr (mo_kh.u (by decide))) H3
    · rw [if_neg e44, if_neg e44, if_neg (fun h => e44 h.2)]
      refine nq_if_ne (pc' := 54) (tgt := 0) d_Mod_list_51 rfl (by decide) (fun h => absurd rfl h) (fun _ => fin rfl)
theorem ml_all {most : Nat} (hm : most ≤ 3) (hc : cols = 0 ∨ cols = 3 ∨ cols = 4) (hD : 5 ≤ d) : ∀ F, ml_P G d σ v ar L N cols q out most F := by
  intro F
  induction F with
  | zero => exact ml_step hm hc hD (fun F' h => absurd h (by omega))
  | succ F ih => exact ml_step hm hc hD (fun F' h => by cases h; exact ih)
theorem k_Mod_list {most : Nat} (hm : most = 1 ∨ most = 3) (h : mt_S σ v ar L N (sp_nc cols) i out q) (h0 : mo_hd ar 3 = nI 0) (hc : cols = 0 ∨ cols = 3 ∨ cols = 4) (hD : 6 ≤ d) : nq_JM G d 0 0 m_Mod_list [.ref 270, .int (nI 1600), .int (nI most)] σ (ml_Q σ v ar L N (sp_nc cols) q out (sp_list L cols most [] i)) := by
  obtain ⟨d, rfl⟩ : ∃ d', d = d' + 1 := ⟨d - 1, by omega⟩
  obtain ⟨F, rfl⟩ : ∃ F, most = F + 1 := ⟨most - 1, by omega⟩
  refine nq_mk' (lv := [some (.ref 270), some (.int (nI 1600)), some (.int (nI (F + 1)))]) (by decide +kernel) rfl (Nat.le_of_ble_eq_true rfl) rfl ?_
  exact ml_all (by omega) hc (by omega) F i [] [] σ v ar rfl (by rw [List.append_nil]; exact h) ⟨h0, fun k c hk => by simp at hk⟩ mo_fr.rf mo_kh.rf (fun _ _ _ => rfl)
end ML
