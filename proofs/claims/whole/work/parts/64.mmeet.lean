/-! THE OTHER STORE: meets, stand -/
section MM
variable {G : nq_G} {d : Nat} {σ : nq_S} {v : Nat → Int32} {ar : mo_Ar} {h : Nat} {s : sp_St} {ρ : Nat → Int32}
/-- what stands ready for the statement s: its columns and the parameter -/
def mn_E (v : Nat → Int32) (ar : mo_Ar) (s : sp_St) (ρ : Nat → Int32) : Prop := (∀ i, i < sp_nc (sp_cols s.1) → ar 11 i = ρ i) ∧ v 15 = ρ 6
def mn_Q (σ : nq_S) (v : Nat → Int32) (ar : mo_Ar) (r : Option Int32) : nq_Q := fun o σ' => mo_fr σ σ' ∧ ∃ P' x, o = .inl (some (.int x)) ∧ match r with
  | none => mo_W σ' (upd v 7 3) (ua ar 10 P')
  | some y => x = y ∧ mo_W σ' v (ua ar 10 P')
theorem mn_val {k b off : Nat} {out : List Int32} {c : List nq_In} (hW : mo_W σ v ar) (h7 : v 7 = 0) (hb : 7 ≤ b) (hh : h ≤ 1600) (hk : k < 70) (ho : ∀ j x, out[j]? = some x → ar 1 (h + 70 + j) = x) (hol : out.length ≤ 200) (hs : ar 1 (h + k) = nI (1670 + off)) (ha : mv_at out off c) (hw : wf (sp_nc (sp_cols s.1)) b c b (b + 1)) (hl : c.length ≤ 48) (hE : mn_E v ar s ρ) (hD : 3 ≤ d) : nq_JM G d 0 0 m_Mod_worked [.ref 270, .int (nI h), .int (nI k)] σ (mn_Q σ v ar (vl c b ρ)) := by
  refine nq_JM.mono (k_Mod_worked hW h7 (sp_nc_le s.1) hb hh hk ho hol hs ha hw hl hE.1 hE.2 hD) (fun o σ' hq => ?_)
  obtain ⟨f, P', x, e, hq⟩ := hq
  refine ⟨f, P', x, e, ?_⟩
  unfold vl
  cases hx : ev c ρ with
  | none => rw [hx] at hq; exact hq
  | some S => rw [hx] at hq; exact hq
def mm_Q (σ : nq_S) (v : Nat → Int32) (ar : mo_Ar) (r : Option Bool) : nq_Q := fun o σ' => mo_fr σ σ' ∧ ∃ P', match r with
  | none => o = .inl (some (.int 0)) ∧ mo_W σ' (upd v 7 3) (ua ar 10 P')
  | some b => o = .inl (some (.int (if b then 1 else 0))) ∧ mo_W σ' v (ua ar 10 P')
theorem mm_Q.tr {σ1 : nq_S} {P : Nat → Int32} {r : Option Bool} {o : Option Value ⊕ String} {σ' : nq_S} (f : mo_fr σ σ1) (hq : mm_Q σ1 v (ua ar 10 P) r o σ') : mm_Q σ v ar r o σ' := by
  obtain ⟨f2, P', hq⟩ := hq
  refine ⟨f.tr f2, P', ?_⟩
  cases r with
  | none => simp only at hq ⊢; rw [ua_ua] at hq; exact hq
  | some b => simp only at hq ⊢; rw [ua_ua] at hq; exact hq
theorem sp_kl_le {cs : List sp_K} {k : Nat} {x : sp_K} (h : cs[k]? = some x) : x.1.length + x.2.2.1.length ≤ sp_kl cs := by
  induction cs generalizing k with
  | nil => simp at h
  | cons y cs ih =>
    unfold sp_kl
    cases k with
    | zero =>
      cases h
      omega
    | succ k =>
      have := ih (k := k) (by simpa using h)
      omega
theorem mm_loop {n : Nat} {out : List Int32} {cs : List sp_K} (hok : sp_ok s) (hcs : cs = s.2.2.2.2.2.1) (hh : h ≤ 1600) (ho : ∀ j x, out[j]? = some x → ar 1 (h + 70 + j) = x) (hol : out.length ≤ 200) (hV : mv_cs (fun j => ar 1 (h + j)) out cs) (h7 : v 7 = 0) (hE : mn_E v ar s ρ) (hn : cs.length = n) (hD : 4 ≤ d) : ∀ (m i : Nat) (so en : Bool) (σ1 : nq_S) (P : Nat → Int32), m + i = n → 0 < m → sp_we en (cs.drop i) → mo_fr σ σ1 → mo_W σ1 v (ua ar 10 P) → nq_J G (d + 1) 0 0 m_Mod_meets 15 [some (.ref 270), some (.int (nI h)), some (.int (nI n)), some (.int (if so then 1 else 0)), some (.int (nI i)), none, none, none, none] [] σ1 (mm_Q σ v ar (sx_meet ρ so (cs.drop i))) := by
  intro m
  induction m with
  | zero => intro i so en σ1 P h1 h2; exact absurd h2 (by omega)
  | succ m ih =>
    intro i so en σ1 P hmi _ hwe F W
    have hil : i < cs.length := by omega
    have hi11 : cs.length ≤ 11 := by rw [hcs]; exact hok.2.2.2.2.2.2.2.2.2.2.2.2
    have hkl : sp_kl cs ≤ 46 := by rw [hcs]; have := hok.2.2.2.2.2.2.2.2.2.2.2.1; omega
    have hx := List.getElem?_eq_getElem hil
    rw [List.drop_eq_getElem_cons hil] at hwe ⊢
    have hkw := (hok.2.2.2.2.2.2.1 cs[i] (by rw [← hcs]; exact List.getElem_mem hil)).1
    obtain ⟨o1, o2, v1, v2, v3, v4, v5, v6⟩ := hV.2 i _ hx
    have hlen := sp_kl_le hx
    generalize cs[i] = x at hwe hkw v2 v4 v5 v6 hlen ⊢
    obtain ⟨c1, sg, c2, en'⟩ := x
    obtain ⟨kw1, kw2, kw3⟩ := hkw
    simp only at kw1 kw2 kw3 v2 v4 v5 v6 hlen
    have we' : sp_we en' (cs.drop (i + 1)) := hwe
    have w := W.1
    have a1 : σ1[272]? = some (.inl (0, 2000, .inl (ar 1))) := W.2.2.1
    have e12 : (12 : Int32) + nI i * 4 = nI (12 + 4 * i) := by
      rw [show (4 : Int32) = nI 4 from rfl, show (12 : Int32) = nI 12 from rfl, pk_mul, nI_add]
      exact congrArg nI (by omega)
    have e3 : nI h + nI (12 + 4 * i) + 3 = nI (h + (15 + 4 * i)) := by
      rw [show (3 : Int32) = nI 3 from rfl, nI_add, nI_add]
      exact congrArg nI (by omega)
    have e2 : nI h + nI (12 + 4 * i) + 2 = nI (h + (14 + 4 * i)) := by
      rw [show (2 : Int32) = nI 2 from rfl, nI_add, nI_add]
      exact congrArg nI (by omega)
    /- behind the comparison: so' is what it came to, r what is known of a throw -/
    have tail : ∀ (so' : Bool) (lv6 lv7 lv8 : Option Value) (σ2 : nq_S) (P2 : Nat → Int32), mo_fr σ σ2 → mo_W σ2 v (ua ar 10 P2) → nq_J G (d + 1) 0 0 m_Mod_meets 142 [some (.ref 270), some (.int (nI h)), some (.int (nI n)), some (.int (if so' then 1 else 0)), some (.int (nI i)), some (.int (nI (12 + 4 * i))), lv6, lv7, lv8] [] σ2 (mm_Q σ v ar (if en' then (if so' then some true else sx_meet ρ true (cs.drop (i + 1))) else sx_meet ρ so' (cs.drop (i + 1)))) := by
      intro so' lv6 lv7 lv8 σ2 P2 F2 W2
      have w2 := W2.1
      have b1 : σ2[272]? = some (.inl (0, 2000, .inl (ar 1))) := W2.2.2.1
      refine nq_aload_n (pc' := 143) d_Mod_meets_142 rfl rfl rfl ?_
      refine nq_getf (pc' := 146) d_Mod_meets_143 rfl fl_Mod_13 (by first | assumption | exact nq_ga (by assumption) | exact nq_gs (by first | assumption | exact nq_ga (by assumption) | exact nq_gs (by first | assumption | exact nq_gs (by assumption) | exact nq_gn (by first | assumption | decide | omega | exact nq_ne1 (by assumption) (by assumption) | exact nq_ne2 (by assumption) (by assumption)) (by assumption) | exact nq_ga (by assumption)) | exact nq_gn (by first | assumption | decide | omega | exact nq_ne1 (by assumption) (by assumption) | exact nq_ne2 (by assumption) (by assumption)) (by first | assumption | exact nq_gs (by assumption) | exact nq_gn (by first | assumption | decide | omega | exact nq_ne1 (by assumption) (by assumption) | exact nq_ne2 (by assumption) (by assumption)) (by assumption) | exact nq_ga (by assumption))) | exact nq_gn (by first | assumption | decide | omega | exact nq_ne1 (by assumption) (by assumption) | exact nq_ne2 (by assumption) (by assumption)) (by first | assumption | exact nq_ga (by assumption) | exact nq_gs (by first | assumption | exact nq_gs (by assumption) | exact nq_gn (by first | assumption | decide | omega | exact nq_ne1 (by assumption) (by assumption) | exact nq_ne2 (by assumption) (by assumption)) (by assumption) | exact nq_ga (by assumption)) | exact nq_gn (by first | assumption | decide | omega | exact nq_ne1 (by assumption) (by assumption) | exact nq_ne2 (by assumption) (by assumption)) (by first | assumption | exact nq_gs (by assumption) | exact nq_gn (by first | assumption | decide | omega | exact nq_ne1 (by assumption) (by assumption) | exact nq_ne2 (by assumption) (by assumption)) (by assumption) | exact nq_ga (by assumption)))) rfl ?_
      refine nq_iload_n (pc' := 147) d_Mod_meets_146 rfl rfl rfl ?_
      refine nq_iload (pc' := 149) d_Mod_meets_147 rfl rfl ?_
      refine nq_iadd (pc' := 150) d_Mod_meets_149 rfl ?_
      refine nq_iconst (v := 3) (pc' := 151) d_Mod_meets_150 rfl (by decide) ?_
      refine nq_iadd (pc' := 152) d_Mod_meets_151 rfl ?_
      refine nq_iald (pc' := 153) d_Mod_meets_152 rfl (by first | assumption | exact nq_ga (by assumption) | exact nq_gs (by first | assumption | exact nq_ga (by assumption) | exact nq_gs (by first | assumption | exact nq_gs (by assumption) | exact nq_gn (by first | assumption | decide | omega | exact nq_ne1 (by assumption) (by assumption) | exact nq_ne2 (by assumption) (by assumption)) (by assumption) | exact nq_ga (by assumption)) | exact nq_gn (by first | assumption | decide | omega | exact nq_ne1 (by assumption) (by assumption) | exact nq_ne2 (by assumption) (by assumption)) (by first | assumption | exact nq_gs (by assumption) | exact nq_gn (by first | assumption | decide | omega | exact nq_ne1 (by assumption) (by assumption) | exact nq_ne2 (by assumption) (by assumption)) (by assumption) | exact nq_ga (by assumption))) | exact nq_gn (by first | assumption | decide | omega | exact nq_ne1 (by assumption) (by assumption) | exact nq_ne2 (by assumption) (by assumption)) (by first | assumption | exact nq_ga (by assumption) | exact nq_gs (by first | assumption | exact nq_gs (by assumption) | exact nq_gn (by first | assumption | decide | omega | exact nq_ne1 (by assumption) (by assumption) | exact nq_ne2 (by assumption) (by assumption)) (by assumption) | exact nq_ga (by assumption)) | exact nq_gn (by first | assumption | decide | omega | exact nq_ne1 (by assumption) (by assumption) | exact nq_ne2 (by assumption) (by assumption)) (by first | assumption | exact nq_gs (by assumption) | exact nq_gn (by first | assumption | decide | omega | exact nq_ne1 (by assumption) (by assumption) | exact nq_ne2 (by assumption) (by assumption)) (by assumption) | exact nq_ga (by assumption)))) rfl (j := h + (15 + 4 * i)) e3 (by omega) (by decide) ?_
      rw [v6]
      cases en' with
      | false =>
        refine nq_if_ne (pc' := 156) (tgt := 159) d_Mod_meets_153 rfl (by decide) (fun h => absurd rfl h) (fun _ => ?_)
        refine nq_goto (tgt := 190) d_Mod_meets_156 (by decide) ?_
        refine nq_iinc (pc' := 193) d_Mod_meets_190 rfl rfl (v := nI (i + 1)) (nI_1 i) (by decide) rfl ?_
        refine nq_goto (tgt := 15) d_Mod_meets_193 (by decide) ?_
        refine nq_J.fo 5 (nq_J.fo 6 (nq_J.fo 7 (nq_J.fo 8 ?_)))
        have hm : 0 < m := by
          rcases Nat.eq_zero_or_pos m with hm | hm
          · rw [List.drop_of_length_le (by omega)] at we'
            cases we'
          · exact hm
        exact ih (i + 1) so' false σ2 P2 (by omega) hm we' F2 W2
      | true =>
        refine nq_if_ne (pc' := 156) (tgt := 159) d_Mod_meets_153 rfl (by decide) (fun _ => ?_) (fun h => absurd (show (1 : Int32) = 0 from h) (by decide))
        refine nq_iload_n (pc' := 160) d_Mod_meets_159 rfl rfl rfl ?_
        cases so' with
        | true =>
          refine nq_if_ne (pc' := 163) (tgt := 171) d_Mod_meets_160 rfl (by decide) (fun _ => ?_) (fun h => absurd h (by decide))
          refine nq_iload_n (pc' := 172) d_Mod_meets_171 rfl rfl rfl ?_
          refine nq_if_eq (pc' := 175) (tgt := 186) d_Mod_meets_172 rfl (by decide) (fun h => absurd h (by decide)) (fun _ => ?_)
          refine nq_aload_n (pc' := 176) d_Mod_meets_175 rfl rfl rfl ?_
          refine nq_getf (pc' := 179) d_Mod_meets_176 rfl fl_Mod_63 (by first | assumption | exact nq_ga (by assumption) | exact nq_gs (by first | assumption | exact nq_ga (by assumption) | exact nq_gs (by first | assumption | exact nq_gs (by assumption) | exact nq_gn (by first | assumption | decide | omega | exact nq_ne1 (by assumption) (by assumption) | exact nq_ne2 (by assumption) (by assumption)) (by assumption) | exact nq_ga (by assumption)) | exact nq_gn (by first | assumption | decide | omega | exact nq_ne1 (by assumption) (by assumption) | exact nq_ne2 (by assumption) (by assumption)) (by first | assumption | exact nq_gs (by assumption) | exact nq_gn (by first | assumption | decide | omega | exact nq_ne1 (by assumption) (by assumption) | exact nq_ne2 (by assumption) (by assumption)) (by assumption) | exact nq_ga (by assumption))) | exact nq_gn (by first | assumption | decide | omega | exact nq_ne1 (by assumption) (by assumption) | exact nq_ne2 (by assumption) (by assumption)) (by first | assumption | exact nq_ga (by assumption) | exact nq_gs (by first | assumption | exact nq_gs (by assumption) | exact nq_gn (by first | assumption | decide | omega | exact nq_ne1 (by assumption) (by assumption) | exact nq_ne2 (by assumption) (by assumption)) (by assumption) | exact nq_ga (by assumption)) | exact nq_gn (by first | assumption | decide | omega | exact nq_ne1 (by assumption) (by assumption) | exact nq_ne2 (by assumption) (by assumption)) (by first | assumption | exact nq_gs (by assumption) | exact nq_gn (by first | assumption | decide | omega | exact nq_ne1 (by assumption) (by assumption) | exact nq_ne2 (by assumption) (by assumption)) (by assumption) | exact nq_ga (by assumption)))) rfl ?_
          rw [h7]
          refine nq_if_ne (pc' := 182) (tgt := 186) d_Mod_meets_179 rfl (by decide) (fun h => absurd rfl h) (fun _ => ?_)
          refine nq_iconst (v := 1) (pc' := 183) d_Mod_meets_182 rfl (by decide) ?_
          refine nq_goto (tgt := 187) d_Mod_meets_183 (by decide) ?_
          refine nq_iret d_Mod_meets_187 rfl rfl ⟨F2, P2, rfl, W2⟩
        | false =>
          refine nq_if_ne (pc' := 163) (tgt := 171) d_Mod_meets_160 rfl (by decide) (fun h => absurd rfl h) (fun _ => ?_)
          refine nq_iload (pc' := 165) d_Mod_meets_163 rfl rfl ?_
          refine nq_iload_n (pc' := 166) d_Mod_meets_165 rfl rfl rfl ?_
          refine nq_iconst (v := 1) (pc' := 167) d_Mod_meets_166 rfl (by decide) ?_
          refine nq_isub (pc' := 168) d_Mod_meets_167 rfl ?_
          have en1 : nI n - 1 = nI (n - 1) := by
            have := nI_pred (n - 1)
            rw [show n - 1 + 1 = n from by omega] at this
            exact this
          rw [en1]
          by_cases hlast : i = n - 1
          · refine nq_icmp_ne (pc' := 171) (tgt := 188) d_Mod_meets_168 rfl (by decide) (fun h => absurd (by rw [hlast]) h) (fun _ => ?_)
            refine nq_iload_n (pc' := 172) d_Mod_meets_171 rfl rfl rfl ?_
            refine nq_if_eq (pc' := 175) (tgt := 186) d_Mod_meets_172 rfl (by decide) (fun _ => ?_) (fun h => absurd rfl h)
            refine nq_iconst (v := 0) (pc' := 187) d_Mod_meets_186 rfl (by decide) ?_
            rw [List.drop_of_length_le (by omega)]
            refine nq_iret d_Mod_meets_187 rfl rfl ⟨F2, P2, rfl, W2⟩
          · refine nq_icmp_ne (pc' := 171) (tgt := 188) d_Mod_meets_168 rfl (by decide) (fun _ => ?_) (fun h => absurd (nI_inj (by omega) (by omega) h) hlast)
            refine nq_iconst (v := 1) (pc' := 189) d_Mod_meets_188 rfl (by decide) ?_
            refine nq_istore_n (pc' := 190) d_Mod_meets_189 rfl rfl (by decide) rfl ?_
            refine nq_iinc (pc' := 193) d_Mod_meets_190 rfl rfl (v := nI (i + 1)) (nI_1 i) (by decide) rfl ?_
            refine nq_goto (tgt := 15) d_Mod_meets_193 (by decide) ?_
            refine nq_J.fo 5 (nq_J.fo 6 (nq_J.fo 7 (nq_J.fo 8 ?_)))
            exact ih (i + 1) true true σ2 P2 (by omega) (by omega) we' F2 W2
    /- a throw has come: it ends with 0 -/
    have thr : ∀ (l3 l5 l6 l7 l8 : Option Value) (x3 : Int32) (y : Nat) (σ2 : nq_S) (P2 : Nat → Int32), l3 = some (.int x3) → l5 = some (.int (nI (12 + 4 * i))) → mo_fr σ σ2 → mo_W σ2 (upd v 7 3) (ua ar 10 P2) → nq_J G (d + 1) 0 0 m_Mod_meets 142 [some (.ref 270), some (.int (nI h)), some (.int (nI n)), l3, some (.int (nI i)), l5, l6, l7, l8] [] σ2 (mm_Q σ v ar none) := by
      intro l3 l5 l6 l7 l8 x3 y σ2 P2 e3' e5' F2 W2
      subst e3'
      subst e5'
      have w2 := W2.1
      have b1 : σ2[272]? = some (.inl (0, 2000, .inl (ar 1))) := W2.2.2.1
      have ret : ∀ (l3 l4 l5 l6 l7 l8 : Option Value), nq_J G (d + 1) 0 0 m_Mod_meets 196 [some (.ref 270), some (.int (nI h)), some (.int (nI n)), l3, l4, l5, l6, l7, l8] [] σ2 (mm_Q σ v ar none) := by
        intro l3 l4 l5 l6 l7 l8
        refine nq_aload_n (pc' := 197) d_Mod_meets_196 rfl rfl rfl ?_
        refine nq_getf (pc' := 200) d_Mod_meets_197 rfl fl_Mod_63 (by first | assumption | exact nq_ga (by assumption) | exact nq_gs (by first | assumption | exact nq_ga (by assumption) | exact nq_gs (by first | assumption | exact nq_gs (by assumption) | exact nq_gn (by first | assumption | decide | omega | exact nq_ne1 (by assumption) (by assumption) | exact nq_ne2 (by assumption) (by assumption)) (by assumption) | exact nq_ga (by assumption)) | exact nq_gn (by first | assumption | decide | omega | exact nq_ne1 (by assumption) (by assumption) | exact nq_ne2 (by assumption) (by assumption)) (by first | assumption | exact nq_gs (by assumption) | exact nq_gn (by first | assumption | decide | omega | exact nq_ne1 (by assumption) (by assumption) | exact nq_ne2 (by assumption) (by assumption)) (by assumption) | exact nq_ga (by assumption))) | exact nq_gn (by first | assumption | decide | omega | exact nq_ne1 (by assumption) (by assumption) | exact nq_ne2 (by assumption) (by assumption)) (by first | assumption | exact nq_ga (by assumption) | exact nq_gs (by first | assumption | exact nq_gs (by assumption) | exact nq_gn (by first | assumption | decide | omega | exact nq_ne1 (by assumption) (by assumption) | exact nq_ne2 (by assumption) (by assumption)) (by assumption) | exact nq_ga (by assumption)) | exact nq_gn (by first | assumption | decide | omega | exact nq_ne1 (by assumption) (by assumption) | exact nq_ne2 (by assumption) (by assumption)) (by first | assumption | exact nq_gs (by assumption) | exact nq_gn (by first | assumption | decide | omega | exact nq_ne1 (by assumption) (by assumption) | exact nq_ne2 (by assumption) (by assumption)) (by assumption) | exact nq_ga (by assumption)))) rfl ?_
        refine nq_if_ne (pc' := 203) (tgt := 207) d_Mod_meets_200 rfl (by decide) (fun _ => ?_) (fun h => absurd (show (3 : Int32) = 0 from h) (by decide))
        refine nq_iconst (v := 0) (pc' := 208) d_Mod_meets_207 rfl (by decide) ?_
        refine nq_iret d_Mod_meets_208 rfl rfl ⟨F2, P2, rfl, W2⟩
      have again : ∀ (x3 : Int32), nq_J G (d + 1) 0 0 m_Mod_meets 190 [some (.ref 270), some (.int (nI h)), some (.int (nI n)), some (.int x3), some (.int (nI i)), some (.int (nI (12 + 4 * i))), l6, l7, l8] [] σ2 (mm_Q σ v ar none) := by
        intro x3
        refine nq_iinc (pc' := 193) d_Mod_meets_190 rfl rfl (v := nI (i + 1)) (nI_1 i) (by decide) rfl ?_
        refine nq_goto (tgt := 15) d_Mod_meets_193 (by decide) ?_
        refine nq_iload (pc' := 17) d_Mod_meets_15 rfl rfl ?_
        refine nq_iload_n (pc' := 18) d_Mod_meets_17 rfl rfl rfl ?_
        by_cases hin : n ≤ i + 1
        · refine nq_icmp_ge (pc' := 21) (tgt := 196) d_Mod_meets_18 rfl (by decide) (fun _ => ret _ _ _ _ _ _) (fun h => absurd ((nI_leI (by omega) (by omega)).mpr hin) h)
        refine nq_icmp_ge (pc' := 21) (tgt := 196) d_Mod_meets_18 rfl (by decide) (fun h => absurd ((nI_leI (by omega) (by omega)).mp h) hin) (fun _ => ?_)
        refine nq_aload_n (pc' := 22) d_Mod_meets_21 rfl rfl rfl ?_
        refine nq_getf (pc' := 25) d_Mod_meets_22 rfl fl_Mod_63 (by first | assumption | exact nq_ga (by assumption) | exact nq_gs (by first | assumption | exact nq_ga (by assumption) | exact nq_gs (by first | assumption | exact nq_gs (by assumption) | exact nq_gn (by first | assumption | decide | omega | exact nq_ne1 (by assumption) (by assumption) | exact nq_ne2 (by assumption) (by assumption)) (by assumption) | exact nq_ga (by assumption)) | exact nq_gn (by first | assumption | decide | omega | exact nq_ne1 (by assumption) (by assumption) | exact nq_ne2 (by assumption) (by assumption)) (by first | assumption | exact nq_gs (by assumption) | exact nq_gn (by first | assumption | decide | omega | exact nq_ne1 (by assumption) (by assumption) | exact nq_ne2 (by assumption) (by assumption)) (by assumption) | exact nq_ga (by assumption))) | exact nq_gn (by first | assumption | decide | omega | exact nq_ne1 (by assumption) (by assumption) | exact nq_ne2 (by assumption) (by assumption)) (by first | assumption | exact nq_ga (by assumption) | exact nq_gs (by first | assumption | exact nq_gs (by assumption) | exact nq_gn (by first | assumption | decide | omega | exact nq_ne1 (by assumption) (by assumption) | exact nq_ne2 (by assumption) (by assumption)) (by assumption) | exact nq_ga (by assumption)) | exact nq_gn (by first | assumption | decide | omega | exact nq_ne1 (by assumption) (by assumption) | exact nq_ne2 (by assumption) (by assumption)) (by first | assumption | exact nq_gs (by assumption) | exact nq_gn (by first | assumption | decide | omega | exact nq_ne1 (by assumption) (by assumption) | exact nq_ne2 (by assumption) (by assumption)) (by assumption) | exact nq_ga (by assumption)))) rfl ?_
        refine nq_if_ne (pc' := 28) (tgt := 196) d_Mod_meets_25 rfl (by decide) (fun _ => ret _ _ _ _ _ _) (fun h => absurd (show (3 : Int32) = 0 from h) (by decide))
      have zero : nq_J G (d + 1) 0 0 m_Mod_meets 171 [some (.ref 270), some (.int (nI h)), some (.int (nI n)), some (.int x3), some (.int (nI i)), some (.int (nI (12 + 4 * i))), l6, l7, l8] [] σ2 (mm_Q σ v ar none) := by
        have z0 : nq_J G (d + 1) 0 0 m_Mod_meets 186 [some (.ref 270), some (.int (nI h)), some (.int (nI n)), some (.int x3), some (.int (nI i)), some (.int (nI (12 + 4 * i))), l6, l7, l8] [] σ2 (mm_Q σ v ar none) := by
          refine nq_iconst (v := 0) (pc' := 187) d_Mod_meets_186 rfl (by decide) ?_
          refine nq_iret d_Mod_meets_187 rfl rfl ⟨F2, P2, rfl, W2⟩
        refine nq_iload_n (pc' := 172) d_Mod_meets_171 rfl rfl rfl ?_
        by_cases hx0 : x3 = 0
        · refine nq_if_eq (pc' := 175) (tgt := 186) d_Mod_meets_172 rfl (by decide) (fun _ => z0) (fun h => absurd hx0 h)
        refine nq_if_eq (pc' := 175) (tgt := 186) d_Mod_meets_172 rfl (by decide) (fun h => absurd h hx0) (fun _ => ?_)
        refine nq_aload_n (pc' := 176) d_Mod_meets_175 rfl rfl rfl ?_
        refine nq_getf (pc' := 179) d_Mod_meets_176 rfl fl_Mod_63 (by first | assumption | exact nq_ga (by assumption) | exact nq_gs (by first | assumption | exact nq_ga (by assumption) | exact nq_gs (by first | assumption | exact nq_gs (by assumption) | exact nq_gn (by first | assumption | decide | omega | exact nq_ne1 (by assumption) (by assumption) | exact nq_ne2 (by assumption) (by assumption)) (by assumption) | exact nq_ga (by assumption)) | exact nq_gn (by first | assumption | decide | omega | exact nq_ne1 (by assumption) (by assumption) | exact nq_ne2 (by assumption) (by assumption)) (by first | assumption | exact nq_gs (by assumption) | exact nq_gn (by first | assumption | decide | omega | exact nq_ne1 (by assumption) (by assumption) | exact nq_ne2 (by assumption) (by assumption)) (by assumption) | exact nq_ga (by assumption))) | exact nq_gn (by first | assumption | decide | omega | exact nq_ne1 (by assumption) (by assumption) | exact nq_ne2 (by assumption) (by assumption)) (by first | assumption | exact nq_ga (by assumption) | exact nq_gs (by first | assumption | exact nq_gs (by assumption) | exact nq_gn (by first | assumption | decide | omega | exact nq_ne1 (by assumption) (by assumption) | exact nq_ne2 (by assumption) (by assumption)) (by assumption) | exact nq_ga (by assumption)) | exact nq_gn (by first | assumption | decide | omega | exact nq_ne1 (by assumption) (by assumption) | exact nq_ne2 (by assumption) (by assumption)) (by first | assumption | exact nq_gs (by assumption) | exact nq_gn (by first | assumption | decide | omega | exact nq_ne1 (by assumption) (by assumption) | exact nq_ne2 (by assumption) (by assumption)) (by assumption) | exact nq_ga (by assumption)))) rfl ?_
        refine nq_if_ne (pc' := 182) (tgt := 186) d_Mod_meets_179 rfl (by decide) (fun _ => z0) (fun h => absurd (show (3 : Int32) = 0 from h) (by decide))
      refine nq_aload_n (pc' := 143) d_Mod_meets_142 rfl rfl rfl ?_
      refine nq_getf (pc' := 146) d_Mod_meets_143 rfl fl_Mod_13 (by first | assumption | exact nq_ga (by assumption) | exact nq_gs (by first | assumption | exact nq_ga (by assumption) | exact nq_gs (by first | assumption | exact nq_gs (by assumption) | exact nq_gn (by first | assumption | decide | omega | exact nq_ne1 (by assumption) (by assumption) | exact nq_ne2 (by assumption) (by assumption)) (by assumption) | exact nq_ga (by assumption)) | exact nq_gn (by first | assumption | decide | omega | exact nq_ne1 (by assumption) (by assumption) | exact nq_ne2 (by assumption) (by assumption)) (by first | assumption | exact nq_gs (by assumption) | exact nq_gn (by first | assumption | decide | omega | exact nq_ne1 (by assumption) (by assumption) | exact nq_ne2 (by assumption) (by assumption)) (by assumption) | exact nq_ga (by assumption))) | exact nq_gn (by first | assumption | decide | omega | exact nq_ne1 (by assumption) (by assumption) | exact nq_ne2 (by assumption) (by assumption)) (by first | assumption | exact nq_ga (by assumption) | exact nq_gs (by first | assumption | exact nq_gs (by assumption) | exact nq_gn (by first | assumption | decide | omega | exact nq_ne1 (by assumption) (by assumption) | exact nq_ne2 (by assumption) (by assumption)) (by assumption) | exact nq_ga (by assumption)) | exact nq_gn (by first | assumption | decide | omega | exact nq_ne1 (by assumption) (by assumption) | exact nq_ne2 (by assumption) (by assumption)) (by first | assumption | exact nq_gs (by assumption) | exact nq_gn (by first | assumption | decide | omega | exact nq_ne1 (by assumption) (by assumption) | exact nq_ne2 (by assumption) (by assumption)) (by assumption) | exact nq_ga (by assumption)))) rfl ?_
      refine nq_iload_n (pc' := 147) d_Mod_meets_146 rfl rfl rfl ?_
      refine nq_iload (pc' := 149) d_Mod_meets_147 rfl rfl ?_
      refine nq_iadd (pc' := 150) d_Mod_meets_149 rfl ?_
      refine nq_iconst (v := 3) (pc' := 151) d_Mod_meets_150 rfl (by decide) ?_
      refine nq_iadd (pc' := 152) d_Mod_meets_151 rfl ?_
      refine nq_iald (pc' := 153) d_Mod_meets_152 rfl (by first | assumption | exact nq_ga (by assumption) | exact nq_gs (by first | assumption | exact nq_ga (by assumption) | exact nq_gs (by first | assumption | exact nq_gs (by assumption) | exact nq_gn (by first | assumption | decide | omega | exact nq_ne1 (by assumption) (by assumption) | exact nq_ne2 (by assumption) (by assumption)) (by assumption) | exact nq_ga (by assumption)) | exact nq_gn (by first | assumption | decide | omega | exact nq_ne1 (by assumption) (by assumption) | exact nq_ne2 (by assumption) (by assumption)) (by first | assumption | exact nq_gs (by assumption) | exact nq_gn (by first | assumption | decide | omega | exact nq_ne1 (by assumption) (by assumption) | exact nq_ne2 (by assumption) (by assumption)) (by assumption) | exact nq_ga (by assumption))) | exact nq_gn (by first | assumption | decide | omega | exact nq_ne1 (by assumption) (by assumption) | exact nq_ne2 (by assumption) (by assumption)) (by first | assumption | exact nq_ga (by assumption) | exact nq_gs (by first | assumption | exact nq_gs (by assumption) | exact nq_gn (by first | assumption | decide | omega | exact nq_ne1 (by assumption) (by assumption) | exact nq_ne2 (by assumption) (by assumption)) (by assumption) | exact nq_ga (by assumption)) | exact nq_gn (by first | assumption | decide | omega | exact nq_ne1 (by assumption) (by assumption) | exact nq_ne2 (by assumption) (by assumption)) (by first | assumption | exact nq_gs (by assumption) | exact nq_gn (by first | assumption | decide | omega | exact nq_ne1 (by assumption) (by assumption) | exact nq_ne2 (by assumption) (by assumption)) (by assumption) | exact nq_ga (by assumption)))) rfl (j := h + (15 + 4 * i)) e3 (by omega) (by decide) ?_
      rw [v6]
      cases en' with
      | false =>
        refine nq_if_ne (pc' := 156) (tgt := 159) d_Mod_meets_153 rfl (by decide) (fun h => absurd rfl h) (fun _ => ?_)
        refine nq_goto (tgt := 190) d_Mod_meets_156 (by decide) ?_
        exact again x3
      | true =>
        refine nq_if_ne (pc' := 156) (tgt := 159) d_Mod_meets_153 rfl (by decide) (fun _ => ?_) (fun h => absurd (show (1 : Int32) = 0 from h) (by decide))
        refine nq_iload_n (pc' := 160) d_Mod_meets_159 rfl rfl rfl ?_
        by_cases hx0 : ¬ (x3 = 0)
        · refine nq_if_ne (pc' := 163) (tgt := 171) d_Mod_meets_160 rfl (by decide) (fun _ => zero) (fun h => absurd h hx0)
        replace hx0 := Classical.not_not.mp hx0
        refine nq_if_ne (pc' := 163) (tgt := 171) d_Mod_meets_160 rfl (by decide) (fun h => absurd hx0 h) (fun _ => ?_)
        refine nq_iload (pc' := 165) d_Mod_meets_163 rfl rfl ?_
        refine nq_iload_n (pc' := 166) d_Mod_meets_165 rfl rfl rfl ?_
        refine nq_iconst (v := 1) (pc' := 167) d_Mod_meets_166 rfl (by decide) ?_
        refine nq_isub (pc' := 168) d_Mod_meets_167 rfl ?_
        have en1 : nI n - 1 = nI (n - 1) := by
          have := nI_pred (n - 1)
          rw [show n - 1 + 1 = n from by omega] at this
          exact this
        rw [en1]
        by_cases hlast : i = n - 1
        · refine nq_icmp_ne (pc' := 171) (tgt := 188) d_Mod_meets_168 rfl (by decide) (fun h => absurd (by rw [hlast]) h) (fun _ => zero)
        refine nq_icmp_ne (pc' := 171) (tgt := 188) d_Mod_meets_168 rfl (by decide) (fun _ => ?_) (fun h => absurd (nI_inj (by omega) (by omega) h) hlast)
        refine nq_iconst (v := 1) (pc' := 189) d_Mod_meets_188 rfl (by decide) ?_
        refine nq_istore_n (pc' := 190) d_Mod_meets_189 rfl rfl (by decide) rfl ?_
        exact again 1
    unfold sx_meet
    refine nq_iload (pc' := 17) d_Mod_meets_15 rfl rfl ?_
    refine nq_iload_n (pc' := 18) d_Mod_meets_17 rfl rfl rfl ?_
    refine nq_icmp_ge (pc' := 21) (tgt := 196) d_Mod_meets_18 rfl (by decide) (fun h => absurd ((nI_leI (by omega) (by omega)).mp h) (by omega)) (fun _ => ?_)
    refine nq_aload_n (pc' := 22) d_Mod_meets_21 rfl rfl rfl ?_
    refine nq_getf (pc' := 25) d_Mod_meets_22 rfl fl_Mod_63 (by first | assumption | exact nq_ga (by assumption) | exact nq_gs (by first | assumption | exact nq_ga (by assumption) | exact nq_gs (by first | assumption | exact nq_gs (by assumption) | exact nq_gn (by first | assumption | decide | omega | exact nq_ne1 (by assumption) (by assumption) | exact nq_ne2 (by assumption) (by assumption)) (by assumption) | exact nq_ga (by assumption)) | exact nq_gn (by first | assumption | decide | omega | exact nq_ne1 (by assumption) (by assumption) | exact nq_ne2 (by assumption) (by assumption)) (by first | assumption | exact nq_gs (by assumption) | exact nq_gn (by first | assumption | decide | omega | exact nq_ne1 (by assumption) (by assumption) | exact nq_ne2 (by assumption) (by assumption)) (by assumption) | exact nq_ga (by assumption))) | exact nq_gn (by first | assumption | decide | omega | exact nq_ne1 (by assumption) (by assumption) | exact nq_ne2 (by assumption) (by assumption)) (by first | assumption | exact nq_ga (by assumption) | exact nq_gs (by first | assumption | exact nq_gs (by assumption) | exact nq_gn (by first | assumption | decide | omega | exact nq_ne1 (by assumption) (by assumption) | exact nq_ne2 (by assumption) (by assumption)) (by assumption) | exact nq_ga (by assumption)) | exact nq_gn (by first | assumption | decide | omega | exact nq_ne1 (by assumption) (by assumption) | exact nq_ne2 (by assumption) (by assumption)) (by first | assumption | exact nq_gs (by assumption) | exact nq_gn (by first | assumption | decide | omega | exact nq_ne1 (by assumption) (by assumption) | exact nq_ne2 (by assumption) (by assumption)) (by assumption) | exact nq_ga (by assumption)))) rfl ?_
    rw [h7]
    refine nq_if_ne (pc' := 28) (tgt := 196) d_Mod_meets_25 rfl (by decide) (fun h => absurd rfl h) (fun _ => ?_)
    refine nq_bipush (v := 12) (pc' := 30) d_Mod_meets_28 rfl (by decide) ?_
    refine nq_iload (pc' := 32) d_Mod_meets_30 rfl rfl ?_
    refine nq_iconst (v := 4) (pc' := 33) d_Mod_meets_32 rfl (by decide) ?_
    refine nq_imul (pc' := 34) d_Mod_meets_33 rfl ?_
    refine nq_iadd (pc' := 35) d_Mod_meets_34 rfl ?_
    rw [e12]
    refine nq_istore (pc' := 37) d_Mod_meets_35 rfl (by decide) rfl ?_
    refine nq_iload_n (pc' := 38) d_Mod_meets_37 rfl rfl rfl ?_
    cases so with
    | false =>
      refine nq_if_eq (pc' := 41) (tgt := 142) d_Mod_meets_38 rfl (by decide) (fun _ => ?_) (fun h => absurd rfl h)
      simp only [Bool.false_eq_true, if_false]
      exact tail false none none none σ1 P F W
    | true =>
      refine nq_if_eq (pc' := 41) (tgt := 142) d_Mod_meets_38 rfl (by decide) (fun h => absurd h (by decide)) (fun _ => ?_)
      refine nq_aload_n (pc' := 42) d_Mod_meets_41 rfl rfl rfl ?_
      refine nq_iload_n (pc' := 43) d_Mod_meets_42 rfl rfl rfl ?_
      refine nq_iload (pc' := 45) d_Mod_meets_43 rfl rfl ?_
      have cmp : ∀ (a b : Int32) (σ2 : nq_S) (Q : nq_Q), nq_J G (d + 1) 0 0 m_Mod_meets 142 [some (.ref 270), some (.int (nI h)), some (.int (nI n)), some (.int (if sx_cmp sg a b then 1 else 0)), some (.int (nI i)), some (.int (nI (12 + 4 * i))), some (.int a), some (.int (nI (60 + sg))), some (.int b)] [] σ2 Q → nq_J G (d + 1) 0 0 m_Mod_meets 85 [some (.ref 270), some (.int (nI h)), some (.int (nI n)), some (.int 1), some (.int (nI i)), some (.int (nI (12 + 4 * i))), some (.int a), some (.int (nI (60 + sg))), some (.int b)] [] σ2 Q := by
        intro a b σ2 Q hJ
        have h3 : sg = 0 ∨ sg = 1 ∨ sg = 2 := by omega
        refine nq_iload (pc' := 87) d_Mod_meets_85 rfl rfl ?_
        refine nq_bipush (v := 60) (pc' := 89) d_Mod_meets_87 rfl (by decide) ?_
        rcases h3 with rfl | rfl | rfl
        · refine nq_icmp_ne (pc' := 92) (tgt := 107) d_Mod_meets_89 rfl (by decide) (fun h => absurd rfl h) (fun _ => ?_)
          refine nq_iload (pc' := 94) d_Mod_meets_92 rfl rfl ?_
          refine nq_iload (pc' := 96) d_Mod_meets_94 rfl rfl ?_
          by_cases hab : a < b
          · rw [show sx_cmp 0 a b = true from by simp [sx_cmp, hab]] at hJ
            refine nq_icmp_ge (pc' := 99) (tgt := 103) d_Mod_meets_96 rfl (by decide) (fun h => absurd hab (Int32.not_lt.mpr h)) (fun _ => ?_)
            refine nq_iconst (v := 1) (pc' := 100) d_Mod_meets_99 rfl (by decide) ?_
            refine nq_goto (tgt := 141) d_Mod_meets_100 (by decide) ?_
            refine nq_istore_n (pc' := 142) d_Mod_meets_141 rfl rfl (by decide) rfl ?_
            exact hJ
          · rw [show sx_cmp 0 a b = false from by simp [sx_cmp, hab]] at hJ
            refine nq_icmp_ge (pc' := 99) (tgt := 103) d_Mod_meets_96 rfl (by decide) (fun _ => ?_) (fun h => absurd (Int32.not_lt.mp hab) h)
            refine nq_iconst (v := 0) (pc' := 104) d_Mod_meets_103 rfl (by decide) ?_
            refine nq_goto (tgt := 141) d_Mod_meets_104 (by decide) ?_
            refine nq_istore_n (pc' := 142) d_Mod_meets_141 rfl rfl (by decide) rfl ?_
            exact hJ
        · refine nq_icmp_ne (pc' := 92) (tgt := 107) d_Mod_meets_89 rfl (by decide) (fun _ => ?_) (fun h => absurd h (by decide))
          refine nq_iload (pc' := 109) d_Mod_meets_107 rfl rfl ?_
          refine nq_bipush (v := 61) (pc' := 111) d_Mod_meets_109 rfl (by decide) ?_
          refine nq_icmp_ne (pc' := 114) (tgt := 129) d_Mod_meets_111 rfl (by decide) (fun h => absurd rfl h) (fun _ => ?_)
          refine nq_iload (pc' := 116) d_Mod_meets_114 rfl rfl ?_
          refine nq_iload (pc' := 118) d_Mod_meets_116 rfl rfl ?_
          by_cases hab : a = b
          · rw [show sx_cmp 1 a b = true from by simp [sx_cmp, hab]] at hJ
            refine nq_icmp_ne (pc' := 121) (tgt := 125) d_Mod_meets_118 rfl (by decide) (fun h => absurd hab h) (fun _ => ?_)
            refine nq_iconst (v := 1) (pc' := 122) d_Mod_meets_121 rfl (by decide) ?_
            refine nq_goto (tgt := 141) d_Mod_meets_122 (by decide) ?_
            refine nq_istore_n (pc' := 142) d_Mod_meets_141 rfl rfl (by decide) rfl ?_
            exact hJ
          · rw [show sx_cmp 1 a b = false from by simp [sx_cmp, hab]] at hJ
            refine nq_icmp_ne (pc' := 121) (tgt := 125) d_Mod_meets_118 rfl (by decide) (fun _ => ?_) (fun h => absurd h hab)
            refine nq_iconst (v := 0) (pc' := 126) d_Mod_meets_125 rfl (by decide) ?_
            refine nq_goto (tgt := 141) d_Mod_meets_126 (by decide) ?_
            refine nq_istore_n (pc' := 142) d_Mod_meets_141 rfl rfl (by decide) rfl ?_
            exact hJ
        · refine nq_icmp_ne (pc' := 92) (tgt := 107) d_Mod_meets_89 rfl (by decide) (fun _ => ?_) (fun h => absurd h (by decide))
          refine nq_iload (pc' := 109) d_Mod_meets_107 rfl rfl ?_
          refine nq_bipush (v := 61) (pc' := 111) d_Mod_meets_109 rfl (by decide) ?_
          refine nq_icmp_ne (pc' := 114) (tgt := 129) d_Mod_meets_111 rfl (by decide) (fun _ => ?_) (fun h => absurd h (by decide))
          refine nq_iload (pc' := 131) d_Mod_meets_129 rfl rfl ?_
          refine nq_iload (pc' := 133) d_Mod_meets_131 rfl rfl ?_
          by_cases hab : b < a
          · rw [show sx_cmp 2 a b = true from by simp [sx_cmp, hab]] at hJ
            refine nq_icmp_le (pc' := 136) (tgt := 140) d_Mod_meets_133 rfl (by decide) (fun h => absurd hab (Int32.not_lt.mpr h)) (fun _ => ?_)
            refine nq_iconst (v := 1) (pc' := 137) d_Mod_meets_136 rfl (by decide) ?_
            refine nq_goto (tgt := 141) d_Mod_meets_137 (by decide) ?_
            refine nq_istore_n (pc' := 142) d_Mod_meets_141 rfl rfl (by decide) rfl ?_
            exact hJ
          · rw [show sx_cmp 2 a b = false from by simp [sx_cmp, hab]] at hJ
            refine nq_icmp_le (pc' := 136) (tgt := 140) d_Mod_meets_133 rfl (by decide) (fun _ => ?_) (fun h => absurd (Int32.not_lt.mp hab) h)
            refine nq_iconst (v := 0) (pc' := 141) d_Mod_meets_140 rfl (by decide) ?_
            refine nq_istore_n (pc' := 142) d_Mod_meets_141 rfl rfl (by decide) rfl ?_
            exact hJ
      have hE' : mn_E v (ua ar 10 P) s ρ := hE
      refine nq_callV (pc' := 48) d_Mod_meets_45 rfl cl_Mod_154 rfl (by first | assumption | exact nq_ga (by assumption) | exact nq_gs (by first | assumption | exact nq_ga (by assumption) | exact nq_gs (by first | assumption | exact nq_gs (by assumption) | exact nq_gn (by first | assumption | decide | omega | exact nq_ne1 (by assumption) (by assumption) | exact nq_ne2 (by assumption) (by assumption)) (by assumption) | exact nq_ga (by assumption)) | exact nq_gn (by first | assumption | decide | omega | exact nq_ne1 (by assumption) (by assumption) | exact nq_ne2 (by assumption) (by assumption)) (by first | assumption | exact nq_gs (by assumption) | exact nq_gn (by first | assumption | decide | omega | exact nq_ne1 (by assumption) (by assumption) | exact nq_ne2 (by assumption) (by assumption)) (by assumption) | exact nq_ga (by assumption))) | exact nq_gn (by first | assumption | decide | omega | exact nq_ne1 (by assumption) (by assumption) | exact nq_ne2 (by assumption) (by assumption)) (by first | assumption | exact nq_ga (by assumption) | exact nq_gs (by first | assumption | exact nq_gs (by assumption) | exact nq_gn (by first | assumption | decide | omega | exact nq_ne1 (by assumption) (by assumption) | exact nq_ne2 (by assumption) (by assumption)) (by assumption) | exact nq_ga (by assumption)) | exact nq_gn (by first | assumption | decide | omega | exact nq_ne1 (by assumption) (by assumption) | exact nq_ne2 (by assumption) (by assumption)) (by first | assumption | exact nq_gs (by assumption) | exact nq_gn (by first | assumption | decide | omega | exact nq_ne1 (by assumption) (by assumption) | exact nq_ne2 (by assumption) (by assumption)) (by assumption) | exact nq_ga (by assumption)))) rfl rfl (kc := 0) (ks := 0) (mc' := 0) (ms' := 0) (As := [.int (nI h), .int (nI (12 + 4 * i))]) (rest := []) rfl rfl (by decide) (mn_val (s := s) (ρ := ρ) (b := 7) W h7 (by decide) hh (by omega) ho hol v1 v2 kw1 (by omega) hE' (by omega)) (fun E σ2 hq => by obtain ⟨_, _, _, hq, _⟩ := hq; cases hq) (fun z σ2 hq => ?_)
      obtain ⟨f2, P2, x, e2', hq⟩ := hq
      cases e2'
      simp only [if_true]
      cases hx1 : vl c1 7 ρ with
      | none =>
        rw [hx1] at hq
        simp only at hq ⊢
        rw [ua_ua] at hq
        have w2 := hq.1
        have b1 : σ2[272]? = some (.inl (0, 2000, .inl (ar 1))) := hq.2.2.1
        refine nq_istore (pc' := 50) d_Mod_meets_48 rfl (by decide) rfl ?_
        refine nq_aload_n (pc' := 51) d_Mod_meets_50 rfl rfl rfl ?_
        refine nq_getf (pc' := 54) d_Mod_meets_51 rfl fl_Mod_13 (by first | assumption | exact nq_ga (by assumption) | exact nq_gs (by first | assumption | exact nq_ga (by assumption) | exact nq_gs (by first | assumption | exact nq_gs (by assumption) | exact nq_gn (by first | assumption | decide | omega | exact nq_ne1 (by assumption) (by assumption) | exact nq_ne2 (by assumption) (by assumption)) (by assumption) | exact nq_ga (by assumption)) | exact nq_gn (by first | assumption | decide | omega | exact nq_ne1 (by assumption) (by assumption) | exact nq_ne2 (by assumption) (by assumption)) (by first | assumption | exact nq_gs (by assumption) | exact nq_gn (by first | assumption | decide | omega | exact nq_ne1 (by assumption) (by assumption) | exact nq_ne2 (by assumption) (by assumption)) (by assumption) | exact nq_ga (by assumption))) | exact nq_gn (by first | assumption | decide | omega | exact nq_ne1 (by assumption) (by assumption) | exact nq_ne2 (by assumption) (by assumption)) (by first | assumption | exact nq_ga (by assumption) | exact nq_gs (by first | assumption | exact nq_gs (by assumption) | exact nq_gn (by first | assumption | decide | omega | exact nq_ne1 (by assumption) (by assumption) | exact nq_ne2 (by assumption) (by assumption)) (by assumption) | exact nq_ga (by assumption)) | exact nq_gn (by first | assumption | decide | omega | exact nq_ne1 (by assumption) (by assumption) | exact nq_ne2 (by assumption) (by assumption)) (by first | assumption | exact nq_gs (by assumption) | exact nq_gn (by first | assumption | decide | omega | exact nq_ne1 (by assumption) (by assumption) | exact nq_ne2 (by assumption) (by assumption)) (by assumption) | exact nq_ga (by assumption)))) rfl ?_
        refine nq_iload_n (pc' := 55) d_Mod_meets_54 rfl rfl rfl ?_
        refine nq_iload (pc' := 57) d_Mod_meets_55 rfl rfl ?_
        refine nq_iadd (pc' := 58) d_Mod_meets_57 rfl ?_
        refine nq_iconst (v := 2) (pc' := 59) d_Mod_meets_58 rfl (by decide) ?_
        refine nq_iadd (pc' := 60) d_Mod_meets_59 rfl ?_
        refine nq_iald (pc' := 61) d_Mod_meets_60 rfl (by first | assumption | exact nq_ga (by assumption) | exact nq_gs (by first | assumption | exact nq_ga (by assumption) | exact nq_gs (by first | assumption | exact nq_gs (by assumption) | exact nq_gn (by first | assumption | decide | omega | exact nq_ne1 (by assumption) (by assumption) | exact nq_ne2 (by assumption) (by assumption)) (by assumption) | exact nq_ga (by assumption)) | exact nq_gn (by first | assumption | decide | omega | exact nq_ne1 (by assumption) (by assumption) | exact nq_ne2 (by assumption) (by assumption)) (by first | assumption | exact nq_gs (by assumption) | exact nq_gn (by first | assumption | decide | omega | exact nq_ne1 (by assumption) (by assumption) | exact nq_ne2 (by assumption) (by assumption)) (by assumption) | exact nq_ga (by assumption))) | exact nq_gn (by first | assumption | decide | omega | exact nq_ne1 (by assumption) (by assumption) | exact nq_ne2 (by assumption) (by assumption)) (by first | assumption | exact nq_ga (by assumption) | exact nq_gs (by first | assumption | exact nq_gs (by assumption) | exact nq_gn (by first | assumption | decide | omega | exact nq_ne1 (by assumption) (by assumption) | exact nq_ne2 (by assumption) (by assumption)) (by assumption) | exact nq_ga (by assumption)) | exact nq_gn (by first | assumption | decide | omega | exact nq_ne1 (by assumption) (by assumption) | exact nq_ne2 (by assumption) (by assumption)) (by first | assumption | exact nq_gs (by assumption) | exact nq_gn (by first | assumption | decide | omega | exact nq_ne1 (by assumption) (by assumption) | exact nq_ne2 (by assumption) (by assumption)) (by assumption) | exact nq_ga (by assumption)))) rfl (j := h + (14 + 4 * i)) e2 (by omega) (by decide) ?_
        rw [v5]
        refine nq_istore (pc' := 63) d_Mod_meets_61 rfl (by decide) rfl ?_
        refine nq_aload_n (pc' := 64) d_Mod_meets_63 rfl rfl rfl ?_
        refine nq_getf (pc' := 67) d_Mod_meets_64 rfl fl_Mod_63 (by first | assumption | exact nq_ga (by assumption) | exact nq_gs (by first | assumption | exact nq_ga (by assumption) | exact nq_gs (by first | assumption | exact nq_gs (by assumption) | exact nq_gn (by first | assumption | decide | omega | exact nq_ne1 (by assumption) (by assumption) | exact nq_ne2 (by assumption) (by assumption)) (by assumption) | exact nq_ga (by assumption)) | exact nq_gn (by first | assumption | decide | omega | exact nq_ne1 (by assumption) (by assumption) | exact nq_ne2 (by assumption) (by assumption)) (by first | assumption | exact nq_gs (by assumption) | exact nq_gn (by first | assumption | decide | omega | exact nq_ne1 (by assumption) (by assumption) | exact nq_ne2 (by assumption) (by assumption)) (by assumption) | exact nq_ga (by assumption))) | exact nq_gn (by first | assumption | decide | omega | exact nq_ne1 (by assumption) (by assumption) | exact nq_ne2 (by assumption) (by assumption)) (by first | assumption | exact nq_ga (by assumption) | exact nq_gs (by first | assumption | exact nq_gs (by assumption) | exact nq_gn (by first | assumption | decide | omega | exact nq_ne1 (by assumption) (by assumption) | exact nq_ne2 (by assumption) (by assumption)) (by assumption) | exact nq_ga (by assumption)) | exact nq_gn (by first | assumption | decide | omega | exact nq_ne1 (by assumption) (by assumption) | exact nq_ne2 (by assumption) (by assumption)) (by first | assumption | exact nq_gs (by assumption) | exact nq_gn (by first | assumption | decide | omega | exact nq_ne1 (by assumption) (by assumption) | exact nq_ne2 (by assumption) (by assumption)) (by assumption) | exact nq_ga (by assumption)))) rfl ?_
        refine nq_if_le (pc' := 70) (tgt := 74) d_Mod_meets_67 rfl (by decide) (fun h => absurd (show (3 : Int32) ≤ 0 from h) (by decide)) (fun _ => ?_)
        refine nq_iconst (v := 0) (pc' := 71) d_Mod_meets_70 rfl (by decide) ?_
        refine nq_goto (tgt := 83) d_Mod_meets_71 (by decide) ?_
        refine nq_istore (pc' := 85) d_Mod_meets_83 rfl (by decide) rfl ?_
        exact cmp x 0 σ2 _ (thr _ _ _ _ _ _ 0 σ2 P2 rfl rfl (F.tr f2) hq)
      | some a =>
        rw [hx1] at hq
        obtain ⟨rfl, W2⟩ := hq
        simp only
        rw [ua_ua] at W2
        have w2 := W2.1
        have b1 : σ2[272]? = some (.inl (0, 2000, .inl (ar 1))) := W2.2.2.1
        have F2 := F.tr f2
        refine nq_istore (pc' := 50) d_Mod_meets_48 rfl (by decide) rfl ?_
        refine nq_aload_n (pc' := 51) d_Mod_meets_50 rfl rfl rfl ?_
        refine nq_getf (pc' := 54) d_Mod_meets_51 rfl fl_Mod_13 (by first | assumption | exact nq_ga (by assumption) | exact nq_gs (by first | assumption | exact nq_ga (by assumption) | exact nq_gs (by first | assumption | exact nq_gs (by assumption) | exact nq_gn (by first | assumption | decide | omega | exact nq_ne1 (by assumption) (by assumption) | exact nq_ne2 (by assumption) (by assumption)) (by assumption) | exact nq_ga (by assumption)) | exact nq_gn (by first | assumption | decide | omega | exact nq_ne1 (by assumption) (by assumption) | exact nq_ne2 (by assumption) (by assumption)) (by first | assumption | exact nq_gs (by assumption) | exact nq_gn (by first | assumption | decide | omega | exact nq_ne1 (by assumption) (by assumption) | exact nq_ne2 (by assumption) (by assumption)) (by assumption) | exact nq_ga (by assumption))) | exact nq_gn (by first | assumption | decide | omega | exact nq_ne1 (by assumption) (by assumption) | exact nq_ne2 (by assumption) (by assumption)) (by first | assumption | exact nq_ga (by assumption) | exact nq_gs (by first | assumption | exact nq_gs (by assumption) | exact nq_gn (by first | assumption | decide | omega | exact nq_ne1 (by assumption) (by assumption) | exact nq_ne2 (by assumption) (by assumption)) (by assumption) | exact nq_ga (by assumption)) | exact nq_gn (by first | assumption | decide | omega | exact nq_ne1 (by assumption) (by assumption) | exact nq_ne2 (by assumption) (by assumption)) (by first | assumption | exact nq_gs (by assumption) | exact nq_gn (by first | assumption | decide | omega | exact nq_ne1 (by assumption) (by assumption) | exact nq_ne2 (by assumption) (by assumption)) (by assumption) | exact nq_ga (by assumption)))) rfl ?_
        refine nq_iload_n (pc' := 55) d_Mod_meets_54 rfl rfl rfl ?_
        refine nq_iload (pc' := 57) d_Mod_meets_55 rfl rfl ?_
        refine nq_iadd (pc' := 58) d_Mod_meets_57 rfl ?_
        refine nq_iconst (v := 2) (pc' := 59) d_Mod_meets_58 rfl (by decide) ?_
        refine nq_iadd (pc' := 60) d_Mod_meets_59 rfl ?_
        refine nq_iald (pc' := 61) d_Mod_meets_60 rfl (by first | assumption | exact nq_ga (by assumption) | exact nq_gs (by first | assumption | exact nq_ga (by assumption) | exact nq_gs (by first | assumption | exact nq_gs (by assumption) | exact nq_gn (by first | assumption | decide | omega | exact nq_ne1 (by assumption) (by assumption) | exact nq_ne2 (by assumption) (by assumption)) (by assumption) | exact nq_ga (by assumption)) | exact nq_gn (by first | assumption | decide | omega | exact nq_ne1 (by assumption) (by assumption) | exact nq_ne2 (by assumption) (by assumption)) (by first | assumption | exact nq_gs (by assumption) | exact nq_gn (by first | assumption | decide | omega | exact nq_ne1 (by assumption) (by assumption) | exact nq_ne2 (by assumption) (by assumption)) (by assumption) | exact nq_ga (by assumption))) | exact nq_gn (by first | assumption | decide | omega | exact nq_ne1 (by assumption) (by assumption) | exact nq_ne2 (by assumption) (by assumption)) (by first | assumption | exact nq_ga (by assumption) | exact nq_gs (by first | assumption | exact nq_gs (by assumption) | exact nq_gn (by first | assumption | decide | omega | exact nq_ne1 (by assumption) (by assumption) | exact nq_ne2 (by assumption) (by assumption)) (by assumption) | exact nq_ga (by assumption)) | exact nq_gn (by first | assumption | decide | omega | exact nq_ne1 (by assumption) (by assumption) | exact nq_ne2 (by assumption) (by assumption)) (by first | assumption | exact nq_gs (by assumption) | exact nq_gn (by first | assumption | decide | omega | exact nq_ne1 (by assumption) (by assumption) | exact nq_ne2 (by assumption) (by assumption)) (by assumption) | exact nq_ga (by assumption)))) rfl (j := h + (14 + 4 * i)) e2 (by omega) (by decide) ?_
        rw [v5]
        refine nq_istore (pc' := 63) d_Mod_meets_61 rfl (by decide) rfl ?_
        refine nq_aload_n (pc' := 64) d_Mod_meets_63 rfl rfl rfl ?_
        refine nq_getf (pc' := 67) d_Mod_meets_64 rfl fl_Mod_63 (by first | assumption | exact nq_ga (by assumption) | exact nq_gs (by first | assumption | exact nq_ga (by assumption) | exact nq_gs (by first | assumption | exact nq_gs (by assumption) | exact nq_gn (by first | assumption | decide | omega | exact nq_ne1 (by assumption) (by assumption) | exact nq_ne2 (by assumption) (by assumption)) (by assumption) | exact nq_ga (by assumption)) | exact nq_gn (by first | assumption | decide | omega | exact nq_ne1 (by assumption) (by assumption) | exact nq_ne2 (by assumption) (by assumption)) (by first | assumption | exact nq_gs (by assumption) | exact nq_gn (by first | assumption | decide | omega | exact nq_ne1 (by assumption) (by assumption) | exact nq_ne2 (by assumption) (by assumption)) (by assumption) | exact nq_ga (by assumption))) | exact nq_gn (by first | assumption | decide | omega | exact nq_ne1 (by assumption) (by assumption) | exact nq_ne2 (by assumption) (by assumption)) (by first | assumption | exact nq_ga (by assumption) | exact nq_gs (by first | assumption | exact nq_gs (by assumption) | exact nq_gn (by first | assumption | decide | omega | exact nq_ne1 (by assumption) (by assumption) | exact nq_ne2 (by assumption) (by assumption)) (by assumption) | exact nq_ga (by assumption)) | exact nq_gn (by first | assumption | decide | omega | exact nq_ne1 (by assumption) (by assumption) | exact nq_ne2 (by assumption) (by assumption)) (by first | assumption | exact nq_gs (by assumption) | exact nq_gn (by first | assumption | decide | omega | exact nq_ne1 (by assumption) (by assumption) | exact nq_ne2 (by assumption) (by assumption)) (by assumption) | exact nq_ga (by assumption)))) rfl ?_
        rw [h7]
        refine nq_if_le (pc' := 70) (tgt := 74) d_Mod_meets_67 rfl (by decide) (fun _ => ?_) (fun h => absurd (Int32.le_refl _) h)
        refine nq_aload_n (pc' := 75) d_Mod_meets_74 rfl rfl rfl ?_
        refine nq_iload_n (pc' := 76) d_Mod_meets_75 rfl rfl rfl ?_
        refine nq_iload (pc' := 78) d_Mod_meets_76 rfl rfl ?_
        refine nq_iconst (v := 1) (pc' := 79) d_Mod_meets_78 rfl (by decide) ?_
        refine nq_iadd (pc' := 80) d_Mod_meets_79 rfl ?_
        rw [show nI (12 + 4 * i) + 1 = nI (13 + 4 * i) from by rw [nI_1]; exact congrArg nI (by omega)]
        refine nq_callV (pc' := 83) d_Mod_meets_80 rfl cl_Mod_154 rfl (by first | assumption | exact nq_ga (by assumption) | exact nq_gs (by first | assumption | exact nq_ga (by assumption) | exact nq_gs (by first | assumption | exact nq_gs (by assumption) | exact nq_gn (by first | assumption | decide | omega | exact nq_ne1 (by assumption) (by assumption) | exact nq_ne2 (by assumption) (by assumption)) (by assumption) | exact nq_ga (by assumption)) | exact nq_gn (by first | assumption | decide | omega | exact nq_ne1 (by assumption) (by assumption) | exact nq_ne2 (by assumption) (by assumption)) (by first | assumption | exact nq_gs (by assumption) | exact nq_gn (by first | assumption | decide | omega | exact nq_ne1 (by assumption) (by assumption) | exact nq_ne2 (by assumption) (by assumption)) (by assumption) | exact nq_ga (by assumption))) | exact nq_gn (by first | assumption | decide | omega | exact nq_ne1 (by assumption) (by assumption) | exact nq_ne2 (by assumption) (by assumption)) (by first | assumption | exact nq_ga (by assumption) | exact nq_gs (by first | assumption | exact nq_gs (by assumption) | exact nq_gn (by first | assumption | decide | omega | exact nq_ne1 (by assumption) (by assumption) | exact nq_ne2 (by assumption) (by assumption)) (by assumption) | exact nq_ga (by assumption)) | exact nq_gn (by first | assumption | decide | omega | exact nq_ne1 (by assumption) (by assumption) | exact nq_ne2 (by assumption) (by assumption)) (by first | assumption | exact nq_gs (by assumption) | exact nq_gn (by first | assumption | decide | omega | exact nq_ne1 (by assumption) (by assumption) | exact nq_ne2 (by assumption) (by assumption)) (by assumption) | exact nq_ga (by assumption)))) rfl rfl (kc := 0) (ks := 0) (mc' := 0) (ms' := 0) (As := [.int (nI h), .int (nI (13 + 4 * i))]) (rest := []) rfl rfl (by decide) (mn_val (s := s) (ρ := ρ) (b := 8) W2 h7 (by decide) hh (by omega) ho hol v3 v4 kw3 (by omega) hE (by omega)) (fun E σ2 hq => by obtain ⟨_, _, _, hq, _⟩ := hq; cases hq) (fun z σ3 hq => ?_)
        obtain ⟨f3, P3, y, e3', hq⟩ := hq
        cases e3'
        cases hx2 : vl c2 8 ρ with
        | none =>
          rw [hx2] at hq
          simp only at hq ⊢
          rw [ua_ua] at hq
          refine nq_istore (pc' := 85) d_Mod_meets_83 rfl (by decide) rfl ?_
          exact cmp x y σ3 _ (thr _ _ _ _ _ _ 0 σ3 P3 rfl rfl (F2.tr f3) hq)
        | some bb =>
          rw [hx2] at hq
          obtain ⟨rfl, W3⟩ := hq
          simp only
          rw [ua_ua] at W3
          refine nq_istore (pc' := 85) d_Mod_meets_83 rfl (by decide) rfl ?_
          exact cmp x y σ3 _ (tail (sx_cmp sg x y) _ _ _ σ3 P3 (F2.tr f3) W3)
theorem k_Mod_meets (hW : mo_W σ v ar) (hM : md_R (ar 1) h s) (hh : h ≤ 1600) (h7 : v 7 = 0) (hE : mn_E v ar s ρ) (hD : 5 ≤ d) : nq_JM G d 0 0 m_Mod_meets [.ref 270, .int (nI h)] σ (mm_Q σ v ar (sx_m s.2.2.2.2.2.1 ρ)) := by
  obtain ⟨d, rfl⟩ : ∃ d', d = d' + 1 := ⟨d - 1, by omega⟩
  obtain ⟨hok, out, hol, ho, m0, m1, m2, m3, m4, m5, m6⟩ := hM
  have w := hW.1
  have a1 := hW.2.2.1
  have h8 : ar 1 (h + 8) = nI s.2.2.2.2.2.1.length := m5.1
  refine nq_mk' (lv := [some (.ref 270), some (.int (nI h)), none, none, none, none, none, none, none]) (by decide +kernel) rfl (Nat.le_of_ble_eq_true rfl) rfl ?_
  refine nq_aload_n (pc' := 1) d_Mod_meets_0 rfl rfl rfl ?_
  refine nq_getf (pc' := 4) d_Mod_meets_1 rfl fl_Mod_13 (by first | assumption | exact nq_ga (by assumption) | exact nq_gs (by first | assumption | exact nq_ga (by assumption) | exact nq_gs (by first | assumption | exact nq_gs (by assumption) | exact nq_gn (by first | assumption | decide | omega | exact nq_ne1 (by assumption) (by assumption) | exact nq_ne2 (by assumption) (by assumption)) (by assumption) | exact nq_ga (by assumption)) | exact nq_gn (by first | assumption | decide | omega | exact nq_ne1 (by assumption) (by assumption) | exact nq_ne2 (by assumption) (by assumption)) (by first | assumption | exact nq_gs (by assumption) | exact nq_gn (by first | assumption | decide | omega | exact nq_ne1 (by assumption) (by assumption) | exact nq_ne2 (by assumption) (by assumption)) (by assumption) | exact nq_ga (by assumption))) | exact nq_gn (by first | assumption | decide | omega | exact nq_ne1 (by assumption) (by assumption) | exact nq_ne2 (by assumption) (by assumption)) (by first | assumption | exact nq_ga (by assumption) | exact nq_gs (by first | assumption | exact nq_gs (by assumption) | exact nq_gn (by first | assumption | decide | omega | exact nq_ne1 (by assumption) (by assumption) | exact nq_ne2 (by assumption) (by assumption)) (by assumption) | exact nq_ga (by assumption)) | exact nq_gn (by first | assumption | decide | omega | exact nq_ne1 (by assumption) (by assumption) | exact nq_ne2 (by assumption) (by assumption)) (by first | assumption | exact nq_gs (by assumption) | exact nq_gn (by first | assumption | decide | omega | exact nq_ne1 (by assumption) (by assumption) | exact nq_ne2 (by assumption) (by assumption)) (by assumption) | exact nq_ga (by assumption)))) rfl ?_
  refine nq_iload_n (pc' := 5) d_Mod_meets_4 rfl rfl rfl ?_
  refine nq_bipush (v := 8) (pc' := 7) d_Mod_meets_5 rfl (by decide) ?_
  refine nq_iadd (pc' := 8) d_Mod_meets_7 rfl ?_
  refine nq_iald (pc' := 9) d_Mod_meets_8 rfl (by first | assumption | exact nq_ga (by assumption) | exact nq_gs (by first | assumption | exact nq_ga (by assumption) | exact nq_gs (by first | assumption | exact nq_gs (by assumption) | exact nq_gn (by first | assumption | decide | omega | exact nq_ne1 (by assumption) (by assumption) | exact nq_ne2 (by assumption) (by assumption)) (by assumption) | exact nq_ga (by assumption)) | exact nq_gn (by first | assumption | decide | omega | exact nq_ne1 (by assumption) (by assumption) | exact nq_ne2 (by assumption) (by assumption)) (by first | assumption | exact nq_gs (by assumption) | exact nq_gn (by first | assumption | decide | omega | exact nq_ne1 (by assumption) (by assumption) | exact nq_ne2 (by assumption) (by assumption)) (by assumption) | exact nq_ga (by assumption))) | exact nq_gn (by first | assumption | decide | omega | exact nq_ne1 (by assumption) (by assumption) | exact nq_ne2 (by assumption) (by assumption)) (by first | assumption | exact nq_ga (by assumption) | exact nq_gs (by first | assumption | exact nq_gs (by assumption) | exact nq_gn (by first | assumption | decide | omega | exact nq_ne1 (by assumption) (by assumption) | exact nq_ne2 (by assumption) (by assumption)) (by assumption) | exact nq_ga (by assumption)) | exact nq_gn (by first | assumption | decide | omega | exact nq_ne1 (by assumption) (by assumption) | exact nq_ne2 (by assumption) (by assumption)) (by first | assumption | exact nq_gs (by assumption) | exact nq_gn (by first | assumption | decide | omega | exact nq_ne1 (by assumption) (by assumption) | exact nq_ne2 (by assumption) (by assumption)) (by assumption) | exact nq_ga (by assumption)))) rfl (j := h + 8) (nI_add h 8) (by omega) (by decide) ?_
  rw [h8]
  refine nq_istore_n (pc' := 10) d_Mod_meets_9 rfl rfl (by decide) rfl ?_
  refine nq_iconst (v := 1) (pc' := 11) d_Mod_meets_10 rfl (by decide) ?_
  refine nq_istore_n (pc' := 12) d_Mod_meets_11 rfl rfl (by decide) rfl ?_
  refine nq_iconst (v := 0) (pc' := 13) d_Mod_meets_12 rfl (by decide) ?_
  refine nq_istore (pc' := 15) d_Mod_meets_13 rfl (by decide) rfl ?_
  unfold sx_m
  by_cases hc : s.2.2.2.2.2.1 = []
  · rw [if_pos hc, hc]
    refine nq_iload (pc' := 17) d_Mod_meets_15 rfl rfl ?_
    refine nq_iload_n (pc' := 18) d_Mod_meets_17 rfl rfl rfl ?_
    refine nq_icmp_ge (pc' := 21) (tgt := 196) d_Mod_meets_18 rfl (by decide) (fun _ => ?_) (fun h => absurd (Int32.le_refl _) h)
    refine nq_aload_n (pc' := 197) d_Mod_meets_196 rfl rfl rfl ?_
    refine nq_getf (pc' := 200) d_Mod_meets_197 rfl fl_Mod_63 (by first | assumption | exact nq_ga (by assumption) | exact nq_gs (by first | assumption | exact nq_ga (by assumption) | exact nq_gs (by first | assumption | exact nq_gs (by assumption) | exact nq_gn (by first | assumption | decide | omega | exact nq_ne1 (by assumption) (by assumption) | exact nq_ne2 (by assumption) (by assumption)) (by assumption) | exact nq_ga (by assumption)) | exact nq_gn (by first | assumption | decide | omega | exact nq_ne1 (by assumption) (by assumption) | exact nq_ne2 (by assumption) (by assumption)) (by first | assumption | exact nq_gs (by assumption) | exact nq_gn (by first | assumption | decide | omega | exact nq_ne1 (by assumption) (by assumption) | exact nq_ne2 (by assumption) (by assumption)) (by assumption) | exact nq_ga (by assumption))) | exact nq_gn (by first | assumption | decide | omega | exact nq_ne1 (by assumption) (by assumption) | exact nq_ne2 (by assumption) (by assumption)) (by first | assumption | exact nq_ga (by assumption) | exact nq_gs (by first | assumption | exact nq_gs (by assumption) | exact nq_gn (by first | assumption | decide | omega | exact nq_ne1 (by assumption) (by assumption) | exact nq_ne2 (by assumption) (by assumption)) (by assumption) | exact nq_ga (by assumption)) | exact nq_gn (by first | assumption | decide | omega | exact nq_ne1 (by assumption) (by assumption) | exact nq_ne2 (by assumption) (by assumption)) (by first | assumption | exact nq_gs (by assumption) | exact nq_gn (by first | assumption | decide | omega | exact nq_ne1 (by assumption) (by assumption) | exact nq_ne2 (by assumption) (by assumption)) (by assumption) | exact nq_ga (by assumption)))) rfl ?_
    rw [h7]
    refine nq_if_ne (pc' := 203) (tgt := 207) d_Mod_meets_200 rfl (by decide) (fun h => absurd rfl h) (fun _ => ?_)
    refine nq_iconst (v := 1) (pc' := 204) d_Mod_meets_203 rfl (by decide) ?_
    refine nq_goto (tgt := 208) d_Mod_meets_204 (by decide) ?_
    refine nq_iret d_Mod_meets_208 rfl rfl ⟨mo_fr.rf, ar 10, rfl, by rw [ua_self]; exact hW⟩
  · rw [if_neg hc]
    have := mm_loop (G := G) (d := d) (σ := σ) (s := s) (ρ := ρ) hok rfl hh ho hol m5 h7 hE rfl (by omega) s.2.2.2.2.2.1.length 0 true true σ (ar 10) (by omega) (List.length_pos_iff.mpr hc) (by rw [List.drop_zero]; exact hok.2.2.2.2.2.2.2.1) mo_fr.rf (by rw [ua_self]; exact hW)
    rw [List.drop_zero] at this
    exact this
theorem k_Mod_stand {t i b : Nat} {T : List nq_Rw} {r : nq_Rw} (hW : mo_W σ v ar) (ht : t < 3) (hi : i < 20) (hb : b = 0 ∨ b = 3) (hr : ar 2 (60 * t + 3 * i) = r.1 ∧ ar 2 (60 * t + 3 * i + 1) = r.2.1 ∧ ar 2 (60 * t + 3 * i + 2) = r.2.2) : nq_JM G d 0 0 m_Mod_stand [.ref 270, .int (nI t), .int (nI i), .int (nI b)] σ (nq_R none (σ.set 282 (.inl (0, 6, .inl (upd (upd (upd (ar 11) b r.1) (b + 1) r.2.1) (b + 2) r.2.2))))) := by
  have w := hW.1
  have a2 := hW.2.2.2.1
  have a11 := hW.2.2.2.2.2.2.2.2.2.2.2.2.1
  have ex : ∀ j, nI t * 60 + nI i * 3 + nI j = nI (60 * t + 3 * i + j) := fun j => by
    rw [show (60 : Int32) = nI 60 from rfl, show (3 : Int32) = nI 3 from rfl, pk_mul, pk_mul, nI_add, nI_add]
    exact congrArg nI (by omega)
  refine nq_mk' (lv := [some (.ref 270), some (.int (nI t)), some (.int (nI i)), some (.int (nI b)), none]) (by decide +kernel) rfl (Nat.le_of_ble_eq_true rfl) rfl ?_
  refine nq_iconst (v := 0) (pc' := 1) d_Mod_stand_0 rfl (by decide) ?_
  refine nq_istore (pc' := 3) d_Mod_stand_1 rfl (by decide) rfl ?_
  refine nq_iload (pc' := 5) d_Mod_stand_3 rfl rfl ?_
  refine nq_iconst (v := 3) (pc' := 6) d_Mod_stand_5 rfl (by decide) ?_
  refine nq_icmp_ge (pc' := 9) (tgt := 40) d_Mod_stand_6 rfl (by decide) (fun h => absurd h (by decide)) (fun _ => ?_)
  refine nq_aload_n (pc' := 10) d_Mod_stand_9 rfl rfl rfl ?_
  refine nq_getf (pc' := 13) d_Mod_stand_10 rfl fl_Mod_48 (by first | assumption | exact nq_ga (by assumption) | exact nq_gs (by first | assumption | exact nq_ga (by assumption) | exact nq_gs (by first | assumption | exact nq_gs (by assumption) | exact nq_gn (by first | assumption | decide | omega | exact nq_ne1 (by assumption) (by assumption) | exact nq_ne2 (by assumption) (by assumption)) (by assumption) | exact nq_ga (by assumption)) | exact nq_gn (by first | assumption | decide | omega | exact nq_ne1 (by assumption) (by assumption) | exact nq_ne2 (by assumption) (by assumption)) (by first | assumption | exact nq_gs (by assumption) | exact nq_gn (by first | assumption | decide | omega | exact nq_ne1 (by assumption) (by assumption) | exact nq_ne2 (by assumption) (by assumption)) (by assumption) | exact nq_ga (by assumption))) | exact nq_gn (by first | assumption | decide | omega | exact nq_ne1 (by assumption) (by assumption) | exact nq_ne2 (by assumption) (by assumption)) (by first | assumption | exact nq_ga (by assumption) | exact nq_gs (by first | assumption | exact nq_gs (by assumption) | exact nq_gn (by first | assumption | decide | omega | exact nq_ne1 (by assumption) (by assumption) | exact nq_ne2 (by assumption) (by assumption)) (by assumption) | exact nq_ga (by assumption)) | exact nq_gn (by first | assumption | decide | omega | exact nq_ne1 (by assumption) (by assumption) | exact nq_ne2 (by assumption) (by assumption)) (by first | assumption | exact nq_gs (by assumption) | exact nq_gn (by first | assumption | decide | omega | exact nq_ne1 (by assumption) (by assumption) | exact nq_ne2 (by assumption) (by assumption)) (by assumption) | exact nq_ga (by assumption)))) rfl ?_
  refine nq_iload_n (pc' := 14) d_Mod_stand_13 rfl rfl rfl ?_
  refine nq_iload (pc' := 16) d_Mod_stand_14 rfl rfl ?_
  refine nq_iadd (pc' := 17) d_Mod_stand_16 rfl ?_
  refine nq_aload_n (pc' := 18) d_Mod_stand_17 rfl rfl rfl ?_
  refine nq_getf (pc' := 21) d_Mod_stand_18 rfl fl_Mod_16 (by first | assumption | exact nq_ga (by assumption) | exact nq_gs (by first | assumption | exact nq_ga (by assumption) | exact nq_gs (by first | assumption | exact nq_gs (by assumption) | exact nq_gn (by first | assumption | decide | omega | exact nq_ne1 (by assumption) (by assumption) | exact nq_ne2 (by assumption) (by assumption)) (by assumption) | exact nq_ga (by assumption)) | exact nq_gn (by first | assumption | decide | omega | exact nq_ne1 (by assumption) (by assumption) | exact nq_ne2 (by assumption) (by assumption)) (by first | assumption | exact nq_gs (by assumption) | exact nq_gn (by first | assumption | decide | omega | exact nq_ne1 (by assumption) (by assumption) | exact nq_ne2 (by assumption) (by assumption)) (by assumption) | exact nq_ga (by assumption))) | exact nq_gn (by first | assumption | decide | omega | exact nq_ne1 (by assumption) (by assumption) | exact nq_ne2 (by assumption) (by assumption)) (by first | assumption | exact nq_ga (by assumption) | exact nq_gs (by first | assumption | exact nq_gs (by assumption) | exact nq_gn (by first | assumption | decide | omega | exact nq_ne1 (by assumption) (by assumption) | exact nq_ne2 (by assumption) (by assumption)) (by assumption) | exact nq_ga (by assumption)) | exact nq_gn (by first | assumption | decide | omega | exact nq_ne1 (by assumption) (by assumption) | exact nq_ne2 (by assumption) (by assumption)) (by first | assumption | exact nq_gs (by assumption) | exact nq_gn (by first | assumption | decide | omega | exact nq_ne1 (by assumption) (by assumption) | exact nq_ne2 (by assumption) (by assumption)) (by assumption) | exact nq_ga (by assumption)))) rfl ?_
  refine nq_iload_n (pc' := 22) d_Mod_stand_21 rfl rfl rfl ?_
  refine nq_bipush (v := 60) (pc' := 24) d_Mod_stand_22 rfl (by decide) ?_
  refine nq_imul (pc' := 25) d_Mod_stand_24 rfl ?_
  refine nq_iload_n (pc' := 26) d_Mod_stand_25 rfl rfl rfl ?_
  refine nq_iconst (v := 3) (pc' := 27) d_Mod_stand_26 rfl (by decide) ?_
  refine nq_imul (pc' := 28) d_Mod_stand_27 rfl ?_
  refine nq_iadd (pc' := 29) d_Mod_stand_28 rfl ?_
  refine nq_iload (pc' := 31) d_Mod_stand_29 rfl rfl ?_
  refine nq_iadd (pc' := 32) d_Mod_stand_31 rfl ?_
  refine nq_iald (pc' := 33) d_Mod_stand_32 rfl (by first | assumption | exact nq_ga (by assumption) | exact nq_gs (by first | assumption | exact nq_ga (by assumption) | exact nq_gs (by first | assumption | exact nq_gs (by assumption) | exact nq_gn (by first | assumption | decide | omega | exact nq_ne1 (by assumption) (by assumption) | exact nq_ne2 (by assumption) (by assumption)) (by assumption) | exact nq_ga (by assumption)) | exact nq_gn (by first | assumption | decide | omega | exact nq_ne1 (by assumption) (by assumption) | exact nq_ne2 (by assumption) (by assumption)) (by first | assumption | exact nq_gs (by assumption) | exact nq_gn (by first | assumption | decide | omega | exact nq_ne1 (by assumption) (by assumption) | exact nq_ne2 (by assumption) (by assumption)) (by assumption) | exact nq_ga (by assumption))) | exact nq_gn (by first | assumption | decide | omega | exact nq_ne1 (by assumption) (by assumption) | exact nq_ne2 (by assumption) (by assumption)) (by first | assumption | exact nq_ga (by assumption) | exact nq_gs (by first | assumption | exact nq_gs (by assumption) | exact nq_gn (by first | assumption | decide | omega | exact nq_ne1 (by assumption) (by assumption) | exact nq_ne2 (by assumption) (by assumption)) (by assumption) | exact nq_ga (by assumption)) | exact nq_gn (by first | assumption | decide | omega | exact nq_ne1 (by assumption) (by assumption) | exact nq_ne2 (by assumption) (by assumption)) (by first | assumption | exact nq_gs (by assumption) | exact nq_gn (by first | assumption | decide | omega | exact nq_ne1 (by assumption) (by assumption) | exact nq_ne2 (by assumption) (by assumption)) (by assumption) | exact nq_ga (by assumption)))) rfl (j := 60 * t + 3 * i) (by have := ex 0; exact this) (by omega) (by decide) ?_
  rw [hr.1]
  refine nq_iast (pc' := 34) d_Mod_stand_33 rfl (by first | assumption | exact nq_ga (by assumption) | exact nq_gs (by first | assumption | exact nq_ga (by assumption) | exact nq_gs (by first | assumption | exact nq_gs (by assumption) | exact nq_gn (by first | assumption | decide | omega | exact nq_ne1 (by assumption) (by assumption) | exact nq_ne2 (by assumption) (by assumption)) (by assumption) | exact nq_ga (by assumption)) | exact nq_gn (by first | assumption | decide | omega | exact nq_ne1 (by assumption) (by assumption) | exact nq_ne2 (by assumption) (by assumption)) (by first | assumption | exact nq_gs (by assumption) | exact nq_gn (by first | assumption | decide | omega | exact nq_ne1 (by assumption) (by assumption) | exact nq_ne2 (by assumption) (by assumption)) (by assumption) | exact nq_ga (by assumption))) | exact nq_gn (by first | assumption | decide | omega | exact nq_ne1 (by assumption) (by assumption) | exact nq_ne2 (by assumption) (by assumption)) (by first | assumption | exact nq_ga (by assumption) | exact nq_gs (by first | assumption | exact nq_gs (by assumption) | exact nq_gn (by first | assumption | decide | omega | exact nq_ne1 (by assumption) (by assumption) | exact nq_ne2 (by assumption) (by assumption)) (by assumption) | exact nq_ga (by assumption)) | exact nq_gn (by first | assumption | decide | omega | exact nq_ne1 (by assumption) (by assumption) | exact nq_ne2 (by assumption) (by assumption)) (by first | assumption | exact nq_gs (by assumption) | exact nq_gn (by first | assumption | decide | omega | exact nq_ne1 (by assumption) (by assumption) | exact nq_ne2 (by assumption) (by assumption)) (by assumption) | exact nq_ga (by assumption)))) rfl (j := b) (by have := nI_add b 0; exact this) (by omega) (by decide) ?_
  refine nq_iinc (pc' := 37) d_Mod_stand_34 rfl rfl (v := nI 1) (by decide) (by decide) rfl ?_
  refine nq_goto (tgt := 3) d_Mod_stand_37 (by decide) ?_
  refine nq_iload (pc' := 5) d_Mod_stand_3 rfl rfl ?_
  refine nq_iconst (v := 3) (pc' := 6) d_Mod_stand_5 rfl (by decide) ?_
  refine nq_icmp_ge (pc' := 9) (tgt := 40) d_Mod_stand_6 rfl (by decide) (fun h => absurd h (by decide)) (fun _ => ?_)
  refine nq_aload_n (pc' := 10) d_Mod_stand_9 rfl rfl rfl ?_
  refine nq_getf (pc' := 13) d_Mod_stand_10 rfl fl_Mod_48 (by first | assumption | exact nq_ga (by assumption) | exact nq_gs (by first | assumption | exact nq_ga (by assumption) | exact nq_gs (by first | assumption | exact nq_gs (by assumption) | exact nq_gn (by first | assumption | decide | omega | exact nq_ne1 (by assumption) (by assumption) | exact nq_ne2 (by assumption) (by assumption)) (by assumption) | exact nq_ga (by assumption)) | exact nq_gn (by first | assumption | decide | omega | exact nq_ne1 (by assumption) (by assumption) | exact nq_ne2 (by assumption) (by assumption)) (by first | assumption | exact nq_gs (by assumption) | exact nq_gn (by first | assumption | decide | omega | exact nq_ne1 (by assumption) (by assumption) | exact nq_ne2 (by assumption) (by assumption)) (by assumption) | exact nq_ga (by assumption))) | exact nq_gn (by first | assumption | decide | omega | exact nq_ne1 (by assumption) (by assumption) | exact nq_ne2 (by assumption) (by assumption)) (by first | assumption | exact nq_ga (by assumption) | exact nq_gs (by first | assumption | exact nq_gs (by assumption) | exact nq_gn (by first | assumption | decide | omega | exact nq_ne1 (by assumption) (by assumption) | exact nq_ne2 (by assumption) (by assumption)) (by assumption) | exact nq_ga (by assumption)) | exact nq_gn (by first | assumption | decide | omega | exact nq_ne1 (by assumption) (by assumption) | exact nq_ne2 (by assumption) (by assumption)) (by first | assumption | exact nq_gs (by assumption) | exact nq_gn (by first | assumption | decide | omega | exact nq_ne1 (by assumption) (by assumption) | exact nq_ne2 (by assumption) (by assumption)) (by assumption) | exact nq_ga (by assumption)))) rfl ?_
  refine nq_iload_n (pc' := 14) d_Mod_stand_13 rfl rfl rfl ?_
  refine nq_iload (pc' := 16) d_Mod_stand_14 rfl rfl ?_
  refine nq_iadd (pc' := 17) d_Mod_stand_16 rfl ?_
  refine nq_aload_n (pc' := 18) d_Mod_stand_17 rfl rfl rfl ?_
  refine nq_getf (pc' := 21) d_Mod_stand_18 rfl fl_Mod_16 (by first | assumption | exact nq_ga (by assumption) | exact nq_gs (by first | assumption | exact nq_ga (by assumption) | exact nq_gs (by first | assumption | exact nq_gs (by assumption) | exact nq_gn (by first | assumption | decide | omega | exact nq_ne1 (by assumption) (by assumption) | exact nq_ne2 (by assumption) (by assumption)) (by assumption) | exact nq_ga (by assumption)) | exact nq_gn (by first | assumption | decide | omega | exact nq_ne1 (by assumption) (by assumption) | exact nq_ne2 (by assumption) (by assumption)) (by first | assumption | exact nq_gs (by assumption) | exact nq_gn (by first | assumption | decide | omega | exact nq_ne1 (by assumption) (by assumption) | exact nq_ne2 (by assumption) (by assumption)) (by assumption) | exact nq_ga (by assumption))) | exact nq_gn (by first | assumption | decide | omega | exact nq_ne1 (by assumption) (by assumption) | exact nq_ne2 (by assumption) (by assumption)) (by first | assumption | exact nq_ga (by assumption) | exact nq_gs (by first | assumption | exact nq_gs (by assumption) | exact nq_gn (by first | assumption | decide | omega | exact nq_ne1 (by assumption) (by assumption) | exact nq_ne2 (by assumption) (by assumption)) (by assumption) | exact nq_ga (by assumption)) | exact nq_gn (by first | assumption | decide | omega | exact nq_ne1 (by assumption) (by assumption) | exact nq_ne2 (by assumption) (by assumption)) (by first | assumption | exact nq_gs (by assumption) | exact nq_gn (by first | assumption | decide | omega | exact nq_ne1 (by assumption) (by assumption) | exact nq_ne2 (by assumption) (by assumption)) (by assumption) | exact nq_ga (by assumption)))) rfl ?_
  refine nq_iload_n (pc' := 22) d_Mod_stand_21 rfl rfl rfl ?_
  refine nq_bipush (v := 60) (pc' := 24) d_Mod_stand_22 rfl (by decide) ?_
  refine nq_imul (pc' := 25) d_Mod_stand_24 rfl ?_
  refine nq_iload_n (pc' := 26) d_Mod_stand_25 rfl rfl rfl ?_
  refine nq_iconst (v := 3) (pc' := 27) d_Mod_stand_26 rfl (by decide) ?_
  refine nq_imul (pc' := 28) d_Mod_stand_27 rfl ?_
  refine nq_iadd (pc' := 29) d_Mod_stand_28 rfl ?_
  refine nq_iload (pc' := 31) d_Mod_stand_29 rfl rfl ?_
  refine nq_iadd (pc' := 32) d_Mod_stand_31 rfl ?_
  refine nq_iald (pc' := 33) d_Mod_stand_32 rfl (by first | assumption | exact nq_ga (by assumption) | exact nq_gs (by first | assumption | exact nq_ga (by assumption) | exact nq_gs (by first | assumption | exact nq_gs (by assumption) | exact nq_gn (by first | assumption | decide | omega | exact nq_ne1 (by assumption) (by assumption) | exact nq_ne2 (by assumption) (by assumption)) (by assumption) | exact nq_ga (by assumption)) | exact nq_gn (by first | assumption | decide | omega | exact nq_ne1 (by assumption) (by assumption) | exact nq_ne2 (by assumption) (by assumption)) (by first | assumption | exact nq_gs (by assumption) | exact nq_gn (by first | assumption | decide | omega | exact nq_ne1 (by assumption) (by assumption) | exact nq_ne2 (by assumption) (by assumption)) (by assumption) | exact nq_ga (by assumption))) | exact nq_gn (by first | assumption | decide | omega | exact nq_ne1 (by assumption) (by assumption) | exact nq_ne2 (by assumption) (by assumption)) (by first | assumption | exact nq_ga (by assumption) | exact nq_gs (by first | assumption | exact nq_gs (by assumption) | exact nq_gn (by first | assumption | decide | omega | exact nq_ne1 (by assumption) (by assumption) | exact nq_ne2 (by assumption) (by assumption)) (by assumption) | exact nq_ga (by assumption)) | exact nq_gn (by first | assumption | decide | omega | exact nq_ne1 (by assumption) (by assumption) | exact nq_ne2 (by assumption) (by assumption)) (by first | assumption | exact nq_gs (by assumption) | exact nq_gn (by first | assumption | decide | omega | exact nq_ne1 (by assumption) (by assumption) | exact nq_ne2 (by assumption) (by assumption)) (by assumption) | exact nq_ga (by assumption)))) rfl (j := 60 * t + 3 * i + 1) (ex 1) (by omega) (by decide) ?_
  rw [hr.2.1]
  refine nq_iast (pc' := 34) d_Mod_stand_33 rfl (by first | assumption | exact nq_ga (by assumption) | exact nq_gs (by first | assumption | exact nq_ga (by assumption) | exact nq_gs (by first | assumption | exact nq_gs (by assumption) | exact nq_gn (by first | assumption | decide | omega | exact nq_ne1 (by assumption) (by assumption) | exact nq_ne2 (by assumption) (by assumption)) (by assumption) | exact nq_ga (by assumption)) | exact nq_gn (by first | assumption | decide | omega | exact nq_ne1 (by assumption) (by assumption) | exact nq_ne2 (by assumption) (by assumption)) (by first | assumption | exact nq_gs (by assumption) | exact nq_gn (by first | assumption | decide | omega | exact nq_ne1 (by assumption) (by assumption) | exact nq_ne2 (by assumption) (by assumption)) (by assumption) | exact nq_ga (by assumption))) | exact nq_gn (by first | assumption | decide | omega | exact nq_ne1 (by assumption) (by assumption) | exact nq_ne2 (by assumption) (by assumption)) (by first | assumption | exact nq_ga (by assumption) | exact nq_gs (by first | assumption | exact nq_gs (by assumption) | exact nq_gn (by first | assumption | decide | omega | exact nq_ne1 (by assumption) (by assumption) | exact nq_ne2 (by assumption) (by assumption)) (by assumption) | exact nq_ga (by assumption)) | exact nq_gn (by first | assumption | decide | omega | exact nq_ne1 (by assumption) (by assumption) | exact nq_ne2 (by assumption) (by assumption)) (by first | assumption | exact nq_gs (by assumption) | exact nq_gn (by first | assumption | decide | omega | exact nq_ne1 (by assumption) (by assumption) | exact nq_ne2 (by assumption) (by assumption)) (by assumption) | exact nq_ga (by assumption)))) rfl (j := b + 1) (nI_add b 1) (by omega) (by decide) ?_
  rw [nq_ss]
  refine nq_iinc (pc' := 37) d_Mod_stand_34 rfl rfl (v := nI 2) (by decide) (by decide) rfl ?_
  refine nq_goto (tgt := 3) d_Mod_stand_37 (by decide) ?_
  refine nq_iload (pc' := 5) d_Mod_stand_3 rfl rfl ?_
  refine nq_iconst (v := 3) (pc' := 6) d_Mod_stand_5 rfl (by decide) ?_
  refine nq_icmp_ge (pc' := 9) (tgt := 40) d_Mod_stand_6 rfl (by decide) (fun h => absurd h (by decide)) (fun _ => ?_)
  refine nq_aload_n (pc' := 10) d_Mod_stand_9 rfl rfl rfl ?_
  refine nq_getf (pc' := 13) d_Mod_stand_10 rfl fl_Mod_48 (by first | assumption | exact nq_ga (by assumption) | exact nq_gs (by first | assumption | exact nq_ga (by assumption) | exact nq_gs (by first | assumption | exact nq_gs (by assumption) | exact nq_gn (by first | assumption | decide | omega | exact nq_ne1 (by assumption) (by assumption) | exact nq_ne2 (by assumption) (by assumption)) (by assumption) | exact nq_ga (by assumption)) | exact nq_gn (by first | assumption | decide | omega | exact nq_ne1 (by assumption) (by assumption) | exact nq_ne2 (by assumption) (by assumption)) (by first | assumption | exact nq_gs (by assumption) | exact nq_gn (by first | assumption | decide | omega | exact nq_ne1 (by assumption) (by assumption) | exact nq_ne2 (by assumption) (by assumption)) (by assumption) | exact nq_ga (by assumption))) | exact nq_gn (by first | assumption | decide | omega | exact nq_ne1 (by assumption) (by assumption) | exact nq_ne2 (by assumption) (by assumption)) (by first | assumption | exact nq_ga (by assumption) | exact nq_gs (by first | assumption | exact nq_gs (by assumption) | exact nq_gn (by first | assumption | decide | omega | exact nq_ne1 (by assumption) (by assumption) | exact nq_ne2 (by assumption) (by assumption)) (by assumption) | exact nq_ga (by assumption)) | exact nq_gn (by first | assumption | decide | omega | exact nq_ne1 (by assumption) (by assumption) | exact nq_ne2 (by assumption) (by assumption)) (by first | assumption | exact nq_gs (by assumption) | exact nq_gn (by first | assumption | decide | omega | exact nq_ne1 (by assumption) (by assumption) | exact nq_ne2 (by assumption) (by assumption)) (by assumption) | exact nq_ga (by assumption)))) rfl ?_
  refine nq_iload_n (pc' := 14) d_Mod_stand_13 rfl rfl rfl ?_
  refine nq_iload (pc' := 16) d_Mod_stand_14 rfl rfl ?_
  refine nq_iadd (pc' := 17) d_Mod_stand_16 rfl ?_
  refine nq_aload_n (pc' := 18) d_Mod_stand_17 rfl rfl rfl ?_
  refine nq_getf (pc' := 21) d_Mod_stand_18 rfl fl_Mod_16 (by first | assumption | exact nq_ga (by assumption) | exact nq_gs (by first | assumption | exact nq_ga (by assumption) | exact nq_gs (by first | assumption | exact nq_gs (by assumption) | exact nq_gn (by first | assumption | decide | omega | exact nq_ne1 (by assumption) (by assumption) | exact nq_ne2 (by assumption) (by assumption)) (by assumption) | exact nq_ga (by assumption)) | exact nq_gn (by first | assumption | decide | omega | exact nq_ne1 (by assumption) (by assumption) | exact nq_ne2 (by assumption) (by assumption)) (by first | assumption | exact nq_gs (by assumption) | exact nq_gn (by first | assumption | decide | omega | exact nq_ne1 (by assumption) (by assumption) | exact nq_ne2 (by assumption) (by assumption)) (by assumption) | exact nq_ga (by assumption))) | exact nq_gn (by first | assumption | decide | omega | exact nq_ne1 (by assumption) (by assumption) | exact nq_ne2 (by assumption) (by assumption)) (by first | assumption | exact nq_ga (by assumption) | exact nq_gs (by first | assumption | exact nq_gs (by assumption) | exact nq_gn (by first | assumption | decide | omega | exact nq_ne1 (by assumption) (by assumption) | exact nq_ne2 (by assumption) (by assumption)) (by assumption) | exact nq_ga (by assumption)) | exact nq_gn (by first | assumption | decide | omega | exact nq_ne1 (by assumption) (by assumption) | exact nq_ne2 (by assumption) (by assumption)) (by first | assumption | exact nq_gs (by assumption) | exact nq_gn (by first | assumption | decide | omega | exact nq_ne1 (by assumption) (by assumption) | exact nq_ne2 (by assumption) (by assumption)) (by assumption) | exact nq_ga (by assumption)))) rfl ?_
  refine nq_iload_n (pc' := 22) d_Mod_stand_21 rfl rfl rfl ?_
  refine nq_bipush (v := 60) (pc' := 24) d_Mod_stand_22 rfl (by decide) ?_
  refine nq_imul (pc' := 25) d_Mod_stand_24 rfl ?_
  refine nq_iload_n (pc' := 26) d_Mod_stand_25 rfl rfl rfl ?_
  refine nq_iconst (v := 3) (pc' := 27) d_Mod_stand_26 rfl (by decide) ?_
  refine nq_imul (pc' := 28) d_Mod_stand_27 rfl ?_
  refine nq_iadd (pc' := 29) d_Mod_stand_28 rfl ?_
  refine nq_iload (pc' := 31) d_Mod_stand_29 rfl rfl ?_
  refine nq_iadd (pc' := 32) d_Mod_stand_31 rfl ?_
  refine nq_iald (pc' := 33) d_Mod_stand_32 rfl (by first | assumption | exact nq_ga (by assumption) | exact nq_gs (by first | assumption | exact nq_ga (by assumption) | exact nq_gs (by first | assumption | exact nq_gs (by assumption) | exact nq_gn (by first | assumption | decide | omega | exact nq_ne1 (by assumption) (by assumption) | exact nq_ne2 (by assumption) (by assumption)) (by assumption) | exact nq_ga (by assumption)) | exact nq_gn (by first | assumption | decide | omega | exact nq_ne1 (by assumption) (by assumption) | exact nq_ne2 (by assumption) (by assumption)) (by first | assumption | exact nq_gs (by assumption) | exact nq_gn (by first | assumption | decide | omega | exact nq_ne1 (by assumption) (by assumption) | exact nq_ne2 (by assumption) (by assumption)) (by assumption) | exact nq_ga (by assumption))) | exact nq_gn (by first | assumption | decide | omega | exact nq_ne1 (by assumption) (by assumption) | exact nq_ne2 (by assumption) (by assumption)) (by first | assumption | exact nq_ga (by assumption) | exact nq_gs (by first | assumption | exact nq_gs (by assumption) | exact nq_gn (by first | assumption | decide | omega | exact nq_ne1 (by assumption) (by assumption) | exact nq_ne2 (by assumption) (by assumption)) (by assumption) | exact nq_ga (by assumption)) | exact nq_gn (by first | assumption | decide | omega | exact nq_ne1 (by assumption) (by assumption) | exact nq_ne2 (by assumption) (by assumption)) (by first | assumption | exact nq_gs (by assumption) | exact nq_gn (by first | assumption | decide | omega | exact nq_ne1 (by assumption) (by assumption) | exact nq_ne2 (by assumption) (by assumption)) (by assumption) | exact nq_ga (by assumption)))) rfl (j := 60 * t + 3 * i + 2) (ex 2) (by omega) (by decide) ?_
  rw [hr.2.2]
  refine nq_iast (pc' := 34) d_Mod_stand_33 rfl (by first | assumption | exact nq_ga (by assumption) | exact nq_gs (by first | assumption | exact nq_ga (by assumption) | exact nq_gs (by first | assumption | exact nq_gs (by assumption) | exact nq_gn (by first | assumption | decide | omega | exact nq_ne1 (by assumption) (by assumption) | exact nq_ne2 (by assumption) (by assumption)) (by assumption) | exact nq_ga (by assumption)) | exact nq_gn (by first | assumption | decide | omega | exact nq_ne1 (by assumption) (by assumption) | exact nq_ne2 (by assumption) (by assumption)) (by first | assumption | exact nq_gs (by assumption) | exact nq_gn (by first | assumption | decide | omega | exact nq_ne1 (by assumption) (by assumption) | exact nq_ne2 (by assumption) (by assumption)) (by assumption) | exact nq_ga (by assumption))) | exact nq_gn (by first | assumption | decide | omega | exact nq_ne1 (by assumption) (by assumption) | exact nq_ne2 (by assumption) (by assumption)) (by first | assumption | exact nq_ga (by assumption) | exact nq_gs (by first | assumption | exact nq_gs (by assumption) | exact nq_gn (by first | assumption | decide | omega | exact nq_ne1 (by assumption) (by assumption) | exact nq_ne2 (by assumption) (by assumption)) (by assumption) | exact nq_ga (by assumption)) | exact nq_gn (by first | assumption | decide | omega | exact nq_ne1 (by assumption) (by assumption) | exact nq_ne2 (by assumption) (by assumption)) (by first | assumption | exact nq_gs (by assumption) | exact nq_gn (by first | assumption | decide | omega | exact nq_ne1 (by assumption) (by assumption) | exact nq_ne2 (by assumption) (by assumption)) (by assumption) | exact nq_ga (by assumption)))) rfl (j := b + 2) (nI_add b 2) (by omega) (by decide) ?_
  rw [nq_ss]
  refine nq_iinc (pc' := 37) d_Mod_stand_34 rfl rfl (v := nI 3) (by decide) (by decide) rfl ?_
  refine nq_goto (tgt := 3) d_Mod_stand_37 (by decide) ?_
  refine nq_iload (pc' := 5) d_Mod_stand_3 rfl rfl ?_
  refine nq_iconst (v := 3) (pc' := 6) d_Mod_stand_5 rfl (by decide) ?_
  refine nq_icmp_ge (pc' := 9) (tgt := 40) d_Mod_stand_6 rfl (by decide) (fun _ => ?_) (fun h => absurd (by decide) h)
  refine nq_vret d_Mod_stand_40 rfl ⟨rfl, rfl⟩
end MM
