/-! THE OTHER STORE: expression -/
def mo_ks (slot : Nat) (v : Nat → Int32) (ar : mo_Ar) (v' : Nat → Int32) (ar' : mo_Ar) : Prop := (∀ k, k ≠ 2 → k ≠ 3 → k ≠ 4 → k ≠ 6 → v' k = v k) ∧ (∀ k, k ≠ 1 → k ≠ 7 → k ≠ 8 → k ≠ 9 → ar' k = ar k) ∧ ∀ j, j < 1670 → j ≠ slot → ar' 1 j = ar 1 j
def mq_S (σ : nq_S) (v : Nat → Int32) (ar : mo_Ar) (L : Nat → Nat) (N nc i : Nat) (out : List Int32) (q : Nat) : Prop := ∃ ops, mp_S σ v ar L N nc i out ops q
/-- expression: what it comes to -/
def mx_Q (σ : nq_S) (v : Nat → Int32) (ar : mo_Ar) (L : Nat → Nat) (N nc slot : Nat) (out : List Int32) (q : Nat) (res : sp_P) : nq_Q := fun o σ' => mo_fr σ σ' ∧ ∃ v' ar', mo_ks slot v ar v' ar' ∧ match res with
  | .inl p => o = .inl (some (.int 0)) ∧ ∃ out' q', mq_S σ' v' ar' L N nc p out' q'
  | .inr (c, j) => o = .inl (some (.int 1)) ∧ ar' 1 slot = nI (1670 + out.length) ∧ mq_S σ' v' ar' L N nc j (out ++ md c ++ [0]) (q + sp_q c)
section ME4
variable {G : nq_G} {d : Nat} {σ : nq_S} {v : Nat → Int32} {ar : mo_Ar} {L : Nat → Nat} {N cols K : Nat} {slot : Int32} {Q : nq_Q}
theorem me_itJ (hc : cols = 0 ∨ cols = 3 ∨ cols = 4) (hK : K ≤ 190) (hD : 4 ≤ d) (hN : N ≤ 48) (hLt : ∀ i, L i ≠ 0 → i < N) (hl7 : ∀ i, L i < 128) {s' : me_st} : ∀ (n : Nat) (s : me_st) (σ : nq_S) (v : Nat → Int32) (ar : mo_Ar), me_it L cols n s s' → me_I N K s → mx_S σ v ar L N (sp_nc cols) s → (∀ σ' v' ar', me_I N K s' → mx_S σ' v' ar' L N (sp_nc cols) s' → mo_fr σ σ' → mo_kx v ar v' ar' → nq_J G (d + 1) 0 0 m_Mod_expression 29 (mx_lv slot s') [] σ' Q) → nq_J G (d + 1) 0 0 m_Mod_expression 29 (mx_lv slot s) [] σ Q
  | 0, s, σ, v, ar, h, hI, hS, k => by
    cases h
    exact k σ v ar hI hS mo_fr.rf mo_kx.rf
  | n + 1, s, σ, v, ar, ⟨s1, e, h⟩, hI, hS, k => by
    refine me_stepJ hc hK hD hI hS (fun s2 σ2 v2 ar2 e2 S2 F2 K2 => ?_) (fun b s2 σ2 v2 ar2 e2 _ _ _ => ?_)
    · rw [e] at e2
      cases e2
      exact me_itJ hc hK hD hN hLt hl7 n s1 σ2 v2 ar2 h (hI.st hN hLt hl7 e) S2 (fun σ' v' ar' I' S' F' K' => k σ' v' ar' I' S' (F2.tr F') (K2.tr K'))
    · rw [e] at e2
      cases e2
theorem k_Mod_expression {slot i q r : Nat} {out : List Int32} (h : mq_S σ v ar L N (sp_nc cols) i out q) (hc : cols = 0 ∨ cols = 3 ∨ cols = 4) (hD : 5 ≤ d) (hi : i ≤ N) (hs : slot < 1670) (ho : out.length ≤ 150) (hq : q ≤ i) : nq_JM G d 0 0 m_Mod_expression [.ref 270, .int (nI slot)] σ (mx_Q σ v ar L N (sp_nc cols) slot out q (sp_expr L cols r i)) := by
  obtain ⟨d, rfl⟩ : ∃ d', d = d' + 1 := ⟨d - 1, by omega⟩
  obtain ⟨ops, h1, h2, h3, h4, h5, h6, h7, h8, h9, h10⟩ := h
  have hN := h2.1
  have w := h1.1
  have a1 := h1.2.2.1
  have a9 := h1.2.2.2.2.2.2.2.2.2.2.1
  refine nq_mk' (lv := [some (.ref 270), some (.int (nI slot)), none, none, none, none]) (by decide +kernel) rfl (Nat.le_of_ble_eq_true rfl) rfl ?_
  refine nq_iconst (v := 0) (pc' := 1) d_Mod_expression_0 rfl (by decide) ?_
  refine nq_istore_n (pc' := 2) d_Mod_expression_1 rfl rfl (by decide) rfl ?_
  refine nq_iconst (v := 1) (pc' := 3) d_Mod_expression_2 rfl (by decide) ?_
  refine nq_istore_n (pc' := 4) d_Mod_expression_3 rfl rfl (by decide) rfl ?_
  refine nq_iconst (v := 1) (pc' := 5) d_Mod_expression_4 rfl (by decide) ?_
  refine nq_istore (pc' := 7) d_Mod_expression_5 rfl (by decide) rfl ?_
  refine nq_aload_n (pc' := 8) d_Mod_expression_7 rfl rfl rfl ?_
  refine nq_iconst (v := 0) (pc' := 9) d_Mod_expression_8 rfl (by decide) ?_
  refine nq_putf (pc' := 12) d_Mod_expression_9 rfl fl_Mod_95 (by first | assumption | exact nq_ga (by assumption) | exact nq_gs (by first | assumption | exact nq_ga (by assumption) | exact nq_gs (by first | assumption | exact nq_gs (by assumption) | exact nq_gn (by first | assumption | decide | omega | exact nq_ne1 (by assumption) (by assumption) | exact nq_ne2 (by assumption) (by assumption)) (by assumption) | exact nq_ga (by assumption)) | exact nq_gn (by first | assumption | decide | omega | exact nq_ne1 (by assumption) (by assumption) | exact nq_ne2 (by assumption) (by assumption)) (by first | assumption | exact nq_gs (by assumption) | exact nq_gn (by first | assumption | decide | omega | exact nq_ne1 (by assumption) (by assumption) | exact nq_ne2 (by assumption) (by assumption)) (by assumption) | exact nq_ga (by assumption))) | exact nq_gn (by first | assumption | decide | omega | exact nq_ne1 (by assumption) (by assumption) | exact nq_ne2 (by assumption) (by assumption)) (by first | assumption | exact nq_ga (by assumption) | exact nq_gs (by first | assumption | exact nq_gs (by assumption) | exact nq_gn (by first | assumption | decide | omega | exact nq_ne1 (by assumption) (by assumption) | exact nq_ne2 (by assumption) (by assumption)) (by assumption) | exact nq_ga (by assumption)) | exact nq_gn (by first | assumption | decide | omega | exact nq_ne1 (by assumption) (by assumption) | exact nq_ne2 (by assumption) (by assumption)) (by first | assumption | exact nq_gs (by assumption) | exact nq_gn (by first | assumption | decide | omega | exact nq_ne1 (by assumption) (by assumption) | exact nq_ne2 (by assumption) (by assumption)) (by assumption) | exact nq_ga (by assumption)))) (Nat.le_of_ble_eq_true rfl) rfl rfl ?_
  refine nq_aload_n (pc' := 13) d_Mod_expression_12 rfl rfl rfl ?_
  refine nq_getf (pc' := 16) d_Mod_expression_13 rfl fl_Mod_42 (by first | assumption | exact nq_ga (by assumption) | exact nq_gs (by first | assumption | exact nq_ga (by assumption) | exact nq_gs (by first | assumption | exact nq_gs (by assumption) | exact nq_gn (by first | assumption | decide | omega | exact nq_ne1 (by assumption) (by assumption) | exact nq_ne2 (by assumption) (by assumption)) (by assumption) | exact nq_ga (by assumption)) | exact nq_gn (by first | assumption | decide | omega | exact nq_ne1 (by assumption) (by assumption) | exact nq_ne2 (by assumption) (by assumption)) (by first | assumption | exact nq_gs (by assumption) | exact nq_gn (by first | assumption | decide | omega | exact nq_ne1 (by assumption) (by assumption) | exact nq_ne2 (by assumption) (by assumption)) (by assumption) | exact nq_ga (by assumption))) | exact nq_gn (by first | assumption | decide | omega | exact nq_ne1 (by assumption) (by assumption) | exact nq_ne2 (by assumption) (by assumption)) (by first | assumption | exact nq_ga (by assumption) | exact nq_gs (by first | assumption | exact nq_gs (by assumption) | exact nq_gn (by first | assumption | decide | omega | exact nq_ne1 (by assumption) (by assumption) | exact nq_ne2 (by assumption) (by assumption)) (by assumption) | exact nq_ga (by assumption)) | exact nq_gn (by first | assumption | decide | omega | exact nq_ne1 (by assumption) (by assumption) | exact nq_ne2 (by assumption) (by assumption)) (by first | assumption | exact nq_gs (by assumption) | exact nq_gn (by first | assumption | decide | omega | exact nq_ne1 (by assumption) (by assumption) | exact nq_ne2 (by assumption) (by assumption)) (by assumption) | exact nq_ga (by assumption)))) rfl ?_
  refine nq_iconst (v := 0) (pc' := 17) d_Mod_expression_16 rfl (by decide) ?_
  refine nq_iconst (v := 0) (pc' := 18) d_Mod_expression_17 rfl (by decide) ?_
  refine nq_iast (pc' := 19) d_Mod_expression_18 rfl (by first | assumption | exact nq_ga (by assumption) | exact nq_gs (by first | assumption | exact nq_ga (by assumption) | exact nq_gs (by first | assumption | exact nq_gs (by assumption) | exact nq_gn (by first | assumption | decide | omega | exact nq_ne1 (by assumption) (by assumption) | exact nq_ne2 (by assumption) (by assumption)) (by assumption) | exact nq_ga (by assumption)) | exact nq_gn (by first | assumption | decide | omega | exact nq_ne1 (by assumption) (by assumption) | exact nq_ne2 (by assumption) (by assumption)) (by first | assumption | exact nq_gs (by assumption) | exact nq_gn (by first | assumption | decide | omega | exact nq_ne1 (by assumption) (by assumption) | exact nq_ne2 (by assumption) (by assumption)) (by assumption) | exact nq_ga (by assumption))) | exact nq_gn (by first | assumption | decide | omega | exact nq_ne1 (by assumption) (by assumption) | exact nq_ne2 (by assumption) (by assumption)) (by first | assumption | exact nq_ga (by assumption) | exact nq_gs (by first | assumption | exact nq_gs (by assumption) | exact nq_gn (by first | assumption | decide | omega | exact nq_ne1 (by assumption) (by assumption) | exact nq_ne2 (by assumption) (by assumption)) (by assumption) | exact nq_ga (by assumption)) | exact nq_gn (by first | assumption | decide | omega | exact nq_ne1 (by assumption) (by assumption) | exact nq_ne2 (by assumption) (by assumption)) (by first | assumption | exact nq_gs (by assumption) | exact nq_gn (by first | assumption | decide | omega | exact nq_ne1 (by assumption) (by assumption) | exact nq_ne2 (by assumption) (by assumption)) (by assumption) | exact nq_ga (by assumption)))) rfl (j := 0) rfl (by decide) (by decide) ?_
  refine nq_aload_n (pc' := 20) d_Mod_expression_19 rfl rfl rfl ?_
  refine nq_getf (pc' := 23) d_Mod_expression_20 rfl fl_Mod_13 (by first | assumption | exact nq_ga (by assumption) | exact nq_gs (by first | assumption | exact nq_ga (by assumption) | exact nq_gs (by first | assumption | exact nq_gs (by assumption) | exact nq_gn (by first | assumption | decide | omega | exact nq_ne1 (by assumption) (by assumption) | exact nq_ne2 (by assumption) (by assumption)) (by assumption) | exact nq_ga (by assumption)) | exact nq_gn (by first | assumption | decide | omega | exact nq_ne1 (by assumption) (by assumption) | exact nq_ne2 (by assumption) (by assumption)) (by first | assumption | exact nq_gs (by assumption) | exact nq_gn (by first | assumption | decide | omega | exact nq_ne1 (by assumption) (by assumption) | exact nq_ne2 (by assumption) (by assumption)) (by assumption) | exact nq_ga (by assumption))) | exact nq_gn (by first | assumption | decide | omega | exact nq_ne1 (by assumption) (by assumption) | exact nq_ne2 (by assumption) (by assumption)) (by first | assumption | exact nq_ga (by assumption) | exact nq_gs (by first | assumption | exact nq_gs (by assumption) | exact nq_gn (by first | assumption | decide | omega | exact nq_ne1 (by assumption) (by assumption) | exact nq_ne2 (by assumption) (by assumption)) (by assumption) | exact nq_ga (by assumption)) | exact nq_gn (by first | assumption | decide | omega | exact nq_ne1 (by assumption) (by assumption) | exact nq_ne2 (by assumption) (by assumption)) (by first | assumption | exact nq_gs (by assumption) | exact nq_gn (by first | assumption | decide | omega | exact nq_ne1 (by assumption) (by assumption) | exact nq_ne2 (by assumption) (by assumption)) (by assumption) | exact nq_ga (by assumption)))) rfl ?_
  refine nq_iload_n (pc' := 24) d_Mod_expression_23 rfl rfl rfl ?_
  refine nq_aload_n (pc' := 25) d_Mod_expression_24 rfl rfl rfl ?_
  refine nq_getf (pc' := 28) d_Mod_expression_25 rfl fl_Mod_88 (by first | assumption | exact nq_ga (by assumption) | exact nq_gs (by first | assumption | exact nq_ga (by assumption) | exact nq_gs (by first | assumption | exact nq_gs (by assumption) | exact nq_gn (by first | assumption | decide | omega | exact nq_ne1 (by assumption) (by assumption) | exact nq_ne2 (by assumption) (by assumption)) (by assumption) | exact nq_ga (by assumption)) | exact nq_gn (by first | assumption | decide | omega | exact nq_ne1 (by assumption) (by assumption) | exact nq_ne2 (by assumption) (by assumption)) (by first | assumption | exact nq_gs (by assumption) | exact nq_gn (by first | assumption | decide | omega | exact nq_ne1 (by assumption) (by assumption) | exact nq_ne2 (by assumption) (by assumption)) (by assumption) | exact nq_ga (by assumption))) | exact nq_gn (by first | assumption | decide | omega | exact nq_ne1 (by assumption) (by assumption) | exact nq_ne2 (by assumption) (by assumption)) (by first | assumption | exact nq_ga (by assumption) | exact nq_gs (by first | assumption | exact nq_gs (by assumption) | exact nq_gn (by first | assumption | decide | omega | exact nq_ne1 (by assumption) (by assumption) | exact nq_ne2 (by assumption) (by assumption)) (by assumption) | exact nq_ga (by assumption)) | exact nq_gn (by first | assumption | decide | omega | exact nq_ne1 (by assumption) (by assumption) | exact nq_ne2 (by assumption) (by assumption)) (by first | assumption | exact nq_gs (by assumption) | exact nq_gn (by first | assumption | decide | omega | exact nq_ne1 (by assumption) (by assumption) | exact nq_ne2 (by assumption) (by assumption)) (by assumption) | exact nq_ga (by assumption)))) rfl ?_
  refine nq_iast (pc' := 29) d_Mod_expression_28 rfl (by first | assumption | exact nq_ga (by assumption) | exact nq_gs (by first | assumption | exact nq_ga (by assumption) | exact nq_gs (by first | assumption | exact nq_gs (by assumption) | exact nq_gn (by first | assumption | decide | omega | exact nq_ne1 (by assumption) (by assumption) | exact nq_ne2 (by assumption) (by assumption)) (by assumption) | exact nq_ga (by assumption)) | exact nq_gn (by first | assumption | decide | omega | exact nq_ne1 (by assumption) (by assumption) | exact nq_ne2 (by assumption) (by assumption)) (by first | assumption | exact nq_gs (by assumption) | exact nq_gn (by first | assumption | decide | omega | exact nq_ne1 (by assumption) (by assumption) | exact nq_ne2 (by assumption) (by assumption)) (by assumption) | exact nq_ga (by assumption))) | exact nq_gn (by first | assumption | decide | omega | exact nq_ne1 (by assumption) (by assumption) | exact nq_ne2 (by assumption) (by assumption)) (by first | assumption | exact nq_ga (by assumption) | exact nq_gs (by first | assumption | exact nq_gs (by assumption) | exact nq_gn (by first | assumption | decide | omega | exact nq_ne1 (by assumption) (by assumption) | exact nq_ne2 (by assumption) (by assumption)) (by assumption) | exact nq_ga (by assumption)) | exact nq_gn (by first | assumption | decide | omega | exact nq_ne1 (by assumption) (by assumption) | exact nq_ne2 (by assumption) (by assumption)) (by first | assumption | exact nq_gs (by assumption) | exact nq_gn (by first | assumption | decide | omega | exact nq_ne1 (by assumption) (by assumption) | exact nq_ne2 (by assumption) (by assumption)) (by assumption) | exact nq_ga (by assumption)))) rfl (j := slot) rfl (by omega) (by decide) ?_
  refine nq_gen (P := fun w => nq_J _ _ _ _ _ _ _ _ w _) (fun σ1 hσ1 => ?_)
  have W1 : mo_W σ1 (upd v 6 0) (ua (ua ar 9 (upd (ar 9) 0 0)) 1 (upd (ar 1) slot (v 3))) := by
    rw [hσ1]
    exact mo_W.a1 (f := upd (ar 1) slot (v 3)) (mo_W.a9 (f := upd (ar 9) 0 0) (mo_W.fi (v' := upd v 6 0) h1))
  have F1 : mo_fr σ σ1 := by
    rw [hσ1]
    exact ((mo_fr.st (by decide)).tr (mo_fr.st (by decide))).tr (mo_fr.st (by decide))
  have S1 : mx_S σ1 (upd v 6 0) (ua (ua ar 9 (upd (ar 9) 0 0)) 1 (upd (ar 1) slot (v 3))) L N (sp_nc cols) (i, out, [], [0], 1, true, q) := by
    refine ⟨⟨W1, h2, h3, h4, h5, h6, fun j x hx => ?_, rfl, fun j x hx => by simp at hx, h10⟩, fun j x hx => ?_⟩
    · rw [ua_at, upd_ne (by omega)]
      exact h7 j x hx
    · have hj : j = 0 := by
        have := (List.getElem?_eq_some_iff.mp hx).1
        simp at this
        omega
      subst hj
      cases hx
      rfl
  have I1 : me_I N out.length (i, out, [], [0], 1, true, q) := ⟨hi, by simp, by simp, fun x hx => by rcases List.mem_singleton.1 hx with rfl; omega, by simp [me_sg], by omega, by simp, fun x hx => (by cases hx), hq⟩
  have hx := me_expr (cols := cols) (r := r) (i := i) (q := q) (out := out) hN h2.lt hc
  have lift : ∀ v' ar', mo_kx (upd v 6 0) (ua (ua ar 9 (upd (ar 9) 0 0)) 1 (upd (ar 1) slot (v 3))) v' ar' → mo_ks slot v ar v' ar' ∧ ar' 1 slot = nI (1670 + out.length) := fun v' ar' k => by
    refine ⟨⟨fun j a b c e => by rw [k.1 j a b c e, upd_ne e], fun j a b c e => by rw [k.2.1 j a b c e, ua_ne a, ua_ne e], fun j hj hn => by rw [k.2.2 j hj, ua_at, upd_ne hn]⟩, ?_⟩
    rw [k.2.2 slot hs, ua_at, upd_at]
    exact h6
  cases he : sp_expr L cols r i with
  | inl p =>
    rw [he] at hx
    obtain ⟨s', s'', ⟨n, hn⟩, e2, e3⟩ := hx
    refine me_itJ (slot := nI slot) hc (by omega) (by omega) hN h2.lt h2.l7 n _ σ1 _ _ hn I1 S1 (fun σ2 v2 ar2 I2 S2 F2 K2 => ?_)
    refine me_stepJ hc (K := out.length) (by omega) (by omega) I2 S2 (fun s3 σ3 v3 ar3 e4 _ _ _ => by rw [e2] at e4; cases e4) (fun b s3 σ3 v3 ar3 e4 S3 F3 K3 => ?_)
    rw [e2] at e4
    cases e4
    obtain ⟨i3, out3, ops3, stt3, dep3, od3, q3⟩ := s''
    simp only at e3
    subst e3
    exact ⟨(F1.tr F2).tr F3, v3, ar3, (lift _ _ (K2.tr K3)).1, rfl, out3, q3, ops3, S3⟩
  | inr w2 =>
    obtain ⟨c, j⟩ := w2
    rw [he] at hx
    obtain ⟨s', s'', ⟨n, hn⟩, e2, e3, e4, e5⟩ := hx
    refine me_itJ (slot := nI slot) hc (by omega) (by omega) hN h2.lt h2.l7 n _ σ1 _ _ hn I1 S1 (fun σ2 v2 ar2 I2 S2 F2 K2 => ?_)
    refine me_stepJ hc (K := out.length) (by omega) (by omega) I2 S2 (fun s3 σ3 v3 ar3 e4 _ _ _ => by rw [e2] at e4; cases e4) (fun b s3 σ3 v3 ar3 e6 S3 F3 K3 => ?_)
    rw [e2] at e6
    cases e6
    obtain ⟨i3, out3, ops3, stt3, dep3, od3, q3⟩ := s''
    simp only at e3 e4 e5
    subst e3
    subst e4
    subst e5
    obtain ⟨l1, l2⟩ := lift _ _ (K2.tr K3)
    exact ⟨(F1.tr F2).tr F3, v3, ar3, l1, rfl, l2, ops3, S3⟩
end ME4
