/-! THE OTHER STORE: delete and update -/
def mo_ro (f : Nat → Int32) (t : Nat) (T : List nq_Rw) : Prop := ∀ i r, T[i]? = some r → f (60 * t + 3 * i) = r.1 ∧ f (60 * t + 3 * i + 1) = r.2.1 ∧ f (60 * t + 3 * i + 2) = r.2.2
theorem mo_tb.put {f g f2 g2 : Nat → Int32} {tb : sx_T} {t : Nat} {T : List nq_Rw} (h : mo_tb f g tb) (ht : t < 3) (hl : T.length ≤ 20) (hr : mo_ro f2 t T) (hg : g2 t = nI T.length) (ho : ∀ j, (j < 60 * t ∨ 60 * t + 60 ≤ j) → f2 j = f j) (hgo : ∀ j, j ≠ t → g2 j = g j) : mo_tb f2 g2 (tb.set t T) := by
  obtain ⟨h3, h⟩ := h
  refine ⟨by rw [List.length_set]; exact h3, fun t' ht' => ?_⟩
  by_cases htt : t = t'
  · subst htt
    rw [tb_get_set h3 ht]
    exact ⟨hl, hg, hr⟩
  · rw [show (tb.set t T).getD t' [] = tb.getD t' [] from by simp [List.getD, List.getElem?_set_ne htt]]
    obtain ⟨a1, a2, a3⟩ := h t' ht'
    refine ⟨a1, (hgo t' (Ne.symm htt)).trans a2, fun i r hr => ?_⟩
    have hil := (List.getElem?_eq_some_iff.mp hr).1
    rw [ho _ (by omega), ho _ (by omega), ho _ (by omega)]
    exact a3 i r hr
theorem sx_del_app (r : nq_Rw) (x : Option Int32) : ∀ (a : List nq_Rw) (b : List (Option Int32)), a.length = b.length → sx_del (a ++ [r]) (b ++ [x]) = sx_del a b ++ (if x.isSome then [] else [r])
  | [], [], _ => by cases x <;> rfl
  | y :: a, none :: b, h => by
    simp only [List.cons_append, sx_del]
    rw [sx_del_app r x a b (by simpa using h)]
  | y :: a, some v :: b, h => by
    simp only [List.cons_append, sx_del]
    rw [sx_del_app r x a b (by simpa using h)]
theorem sx_del_len : ∀ (a : List nq_Rw) (b : List (Option Int32)), (sx_del a b).length ≤ a.length
  | [], b => by cases b <;> simp [sx_del]
  | y :: a, [] => by simp [sx_del]
  | y :: a, none :: b => by
    have := sx_del_len a b
    simp only [sx_del, List.length_cons]
    omega
  | y :: a, some v :: b => by
    have := sx_del_len a b
    simp only [sx_del, List.length_cons]
    omega
section MG
variable {G : nq_G} {d : Nat} {σ : nq_S} {v : Nat → Int32} {ar : mo_Ar} {h : Nat} {s : sp_St} {tb : sx_T}
def mg_lv (h t n : Nat) (many left : Int32) (up : Bool) (i : Nat) : List (Option Value) := [some (.ref 270), some (.int (nI h)), some (.int (nI t)), some (.int (nI n)), some (.int many), some (.int left), some (.int (if up then 1 else 0)), some (.int (nI i)), none]
/-- the rows are put, after the marks are made -/
theorem mg_upd {T : List nq_Rw} {cl : List (Option Int32)} (hW0 : mo_tb (ar 2) (ar 3) tb) (hok : sp_ok s) (hk : s.1 = 85) (hTT : tb.getD s.2.1 [] = T) (hcl : cl.length = T.length) (hh : h ≤ 1600) (h9 : ar 1 (h + 9) = nI s.2.2.2.2.1) (h7 : v 7 = 0) (h13 : v 13 = 0) (h14 : v 14 = 0) (hD : 1 ≤ d) : ∀ (m i : Nat) (σ1 : nq_S) (ar1 : mo_Ar), m + i = T.length → mo_fr σ σ1 → mo_W σ1 v ar1 → mx_k v ar v ar1 → ar1 1 = ar 1 → ar1 3 = ar 3 → (∀ j, (j < 60 * s.2.1 ∨ 60 * s.2.1 + 60 ≤ j) → ar1 2 j = ar 2 j) → mo_ro (ar1 2) s.2.1 (sx_U s.2.2.2.2.1 T cl i) → (∀ j x, cl[j]? = some x → ar1 14 j = (if x.isSome then 1 else 0) ∧ ∀ y, x = some y → ar1 15 j = y) → nq_J G (d + 1) 0 0 m_Mod_change 143 (mg_lv h s.2.1 T.length (nI (sx_many cl)) 0 true i) [] σ1 (xm_Q σ v ar tb (.inr (nI (sx_many cl), tb.set s.2.1 (sx_put s.2.2.2.2.1 T cl), [], 0))) := by
  have ht := hok.2.1
  obtain ⟨_, hfn⟩ := hok.2.2.2.1.2.2.1 hk
  have hT20 : T.length ≤ 20 := by rw [← hTT]; exact (hW0.2 s.2.1 ht).1
  have hg0 : ar 3 s.2.1 = nI T.length := by rw [← hTT]; exact (hW0.2 s.2.1 ht).2.1
  have hUl : ∀ k, k ≤ T.length → (sx_U s.2.2.2.2.1 T cl k).length = T.length := fun k hk => by
    unfold sx_U
    rw [List.length_append, sx_put_len, List.length_take, List.length_drop]
    omega
  intro m
  induction m with
  | zero =>
    intro i σ1 ar1 hm F W K e1 e3 eo hr hc
    have hi : i = T.length := by omega
    subst hi
    have eU : sx_U s.2.2.2.2.1 T cl T.length = sx_put s.2.2.2.2.1 T cl := by
      unfold sx_U
      rw [List.take_of_length_le (by omega), List.take_of_length_le (by omega), List.drop_of_length_le (by omega), List.append_nil]
    rw [eU] at hr
    unfold mg_lv
    refine nq_iload (pc' := 145) d_Mod_change_143 rfl rfl ?_
    refine nq_iload_n (pc' := 146) d_Mod_change_145 rfl rfl rfl ?_
    refine nq_icmp_ge (pc' := 149) (tgt := 273) d_Mod_change_146 rfl (by decide) (fun _ => ?_) (fun h => absurd (Int32.le_refl _) h)
    refine nq_iload (pc' := 275) d_Mod_change_273 rfl rfl ?_
    refine nq_if_ne (pc' := 278) (tgt := 286) d_Mod_change_275 rfl (by decide) (fun _ => ?_) (fun h => absurd h (by decide))
    refine nq_iload (pc' := 288) d_Mod_change_286 rfl rfl ?_
    refine nq_iret d_Mod_change_288 rfl rfl ⟨F.g, v, ar1, _, W, K, rfl, rfl, h7, hW0.put ht (by rw [sx_put_len]; exact hT20) hr (by rw [e3, sx_put_len]; exact hg0) eo (fun j _ => by rw [e3]), h13, h14, fun i x hx => by simp at hx⟩
  | succ m ih =>
    intro i σ1 ar1 hm F W K e1 e3 eo hr hc
    have hil : i < T.length := by omega
    have hgT := List.getElem?_eq_getElem hil
    have hgc := List.getElem?_eq_getElem (show i < cl.length by omega)
    obtain ⟨c1, c2⟩ := hc i _ hgc
    obtain ⟨u1, u2⟩ := sx_U_st (c := s.2.2.2.2.1) hgT hgc
    have w := W.1
    have a1 : σ1[272]? = some (.inl (0, 2000, .inl (ar 1))) := by rw [← e1]; exact W.2.2.1
    have a2 := W.2.2.2.1
    have a14 := W.2.2.2.2.2.2.2.2.2.2.2.2.2.2.2.1
    have a15 := W.2.2.2.2.2.2.2.2.2.2.2.2.2.2.2.2
    have hlv : ∀ k, [some (.ref 270), some (.int (nI h)), some (.int (nI s.2.1)), some (.int (nI T.length)), some (.int (nI (sx_many cl))), some (.int 0), some (.int 1), some (.int (nI k)), none] = mg_lv h s.2.1 T.length (nI (sx_many cl)) 0 true k := fun k => rfl
    unfold mg_lv
    refine nq_iload (pc' := 145) d_Mod_change_143 rfl rfl ?_
    refine nq_iload_n (pc' := 146) d_Mod_change_145 rfl rfl rfl ?_
    refine nq_icmp_ge (pc' := 149) (tgt := 273) d_Mod_change_146 rfl (by decide) (fun h => absurd ((nI_leI (by omega) (by omega)).mp h) (by omega)) (fun _ => ?_)
    refine nq_iload (pc' := 151) d_Mod_change_149 rfl rfl ?_
    refine nq_if_eq (pc' := 154) (tgt := 196) d_Mod_change_151 rfl (by decide) (fun h => absurd h (by decide)) (fun _ => ?_)
    refine nq_aload_n (pc' := 155) d_Mod_change_154 rfl rfl rfl ?_
    refine nq_getf (pc' := 158) d_Mod_change_155 rfl fl_Mod_57 (by first | assumption | exact nq_ga (by assumption) | exact nq_gs (by first | assumption | exact nq_ga (by assumption) | exact nq_gs (by first | assumption | exact nq_gs (by assumption) | exact nq_gn (by first | assumption | decide | omega | exact nq_ne1 (by assumption) (by assumption) | exact nq_ne2 (by assumption) (by assumption)) (by assumption) | exact nq_ga (by assumption)) | exact nq_gn (by first | assumption | decide | omega | exact nq_ne1 (by assumption) (by assumption) | exact nq_ne2 (by assumption) (by assumption)) (by first | assumption | exact nq_gs (by assumption) | exact nq_gn (by first | assumption | decide | omega | exact nq_ne1 (by assumption) (by assumption) | exact nq_ne2 (by assumption) (by assumption)) (by assumption) | exact nq_ga (by assumption))) | exact nq_gn (by first | assumption | decide | omega | exact nq_ne1 (by assumption) (by assumption) | exact nq_ne2 (by assumption) (by assumption)) (by first | assumption | exact nq_ga (by assumption) | exact nq_gs (by first | assumption | exact nq_gs (by assumption) | exact nq_gn (by first | assumption | decide | omega | exact nq_ne1 (by assumption) (by assumption) | exact nq_ne2 (by assumption) (by assumption)) (by assumption) | exact nq_ga (by assumption)) | exact nq_gn (by first | assumption | decide | omega | exact nq_ne1 (by assumption) (by assumption) | exact nq_ne2 (by assumption) (by assumption)) (by first | assumption | exact nq_gs (by assumption) | exact nq_gn (by first | assumption | decide | omega | exact nq_ne1 (by assumption) (by assumption) | exact nq_ne2 (by assumption) (by assumption)) (by assumption) | exact nq_ga (by assumption)))) rfl ?_
    refine nq_iload (pc' := 160) d_Mod_change_158 rfl rfl ?_
    refine nq_iald (pc' := 161) d_Mod_change_160 rfl (by first | assumption | exact nq_ga (by assumption) | exact nq_gs (by first | assumption | exact nq_ga (by assumption) | exact nq_gs (by first | assumption | exact nq_gs (by assumption) | exact nq_gn (by first | assumption | decide | omega | exact nq_ne1 (by assumption) (by assumption) | exact nq_ne2 (by assumption) (by assumption)) (by assumption) | exact nq_ga (by assumption)) | exact nq_gn (by first | assumption | decide | omega | exact nq_ne1 (by assumption) (by assumption) | exact nq_ne2 (by assumption) (by assumption)) (by first | assumption | exact nq_gs (by assumption) | exact nq_gn (by first | assumption | decide | omega | exact nq_ne1 (by assumption) (by assumption) | exact nq_ne2 (by assumption) (by assumption)) (by assumption) | exact nq_ga (by assumption))) | exact nq_gn (by first | assumption | decide | omega | exact nq_ne1 (by assumption) (by assumption) | exact nq_ne2 (by assumption) (by assumption)) (by first | assumption | exact nq_ga (by assumption) | exact nq_gs (by first | assumption | exact nq_gs (by assumption) | exact nq_gn (by first | assumption | decide | omega | exact nq_ne1 (by assumption) (by assumption) | exact nq_ne2 (by assumption) (by assumption)) (by assumption) | exact nq_ga (by assumption)) | exact nq_gn (by first | assumption | decide | omega | exact nq_ne1 (by assumption) (by assumption) | exact nq_ne2 (by assumption) (by assumption)) (by first | assumption | exact nq_gs (by assumption) | exact nq_gn (by first | assumption | decide | omega | exact nq_ne1 (by assumption) (by assumption) | exact nq_ne2 (by assumption) (by assumption)) (by assumption) | exact nq_ga (by assumption)))) rfl (j := i) rfl (by omega) (by decide) ?_
    rw [c1]
    refine nq_iconst (v := 1) (pc' := 162) d_Mod_change_161 rfl (by decide) ?_
    have next : ∀ (σ2 : nq_S) (ar2 : mo_Ar), mo_fr σ σ2 → mo_W σ2 v ar2 → mx_k v ar v ar2 → ar2 1 = ar 1 → ar2 3 = ar 3 → (∀ j, (j < 60 * s.2.1 ∨ 60 * s.2.1 + 60 ≤ j) → ar2 2 j = ar 2 j) → mo_ro (ar2 2) s.2.1 (sx_U s.2.2.2.2.1 T cl (i + 1)) → ar2 14 = ar1 14 → ar2 15 = ar1 15 → nq_J G (d + 1) 0 0 m_Mod_change 196 [some (.ref 270), some (.int (nI h)), some (.int (nI s.2.1)), some (.int (nI T.length)), some (.int (nI (sx_many cl))), some (.int 0), some (.int 1), some (.int (nI i)), none] [] σ2 (xm_Q σ v ar tb (.inr (nI (sx_many cl), tb.set s.2.1 (sx_put s.2.2.2.2.1 T cl), [], 0))) := by
      intro σ2 ar2 F2 W2 K2 g1 g3 go2 r2 h14' h15'
      refine nq_iload (pc' := 198) d_Mod_change_196 rfl rfl ?_
      refine nq_if_ne (pc' := 201) (tgt := 267) d_Mod_change_198 rfl (by decide) (fun _ => ?_) (fun h => absurd h (by decide))
      refine nq_iinc (pc' := 270) d_Mod_change_267 rfl rfl (v := nI (i + 1)) (nI_1 i) (by decide) rfl ?_
      refine nq_goto (tgt := 143) d_Mod_change_270 (by decide) ?_
      exact ih (i + 1) σ2 ar2 (by omega) F2 W2 K2 g1 g3 go2 r2 (fun j x hx => by rw [h14', h15']; exact hc j x hx)
    cases hx : cl[i] with
    | none =>
      rw [hx] at u2
      refine nq_icmp_ne (pc' := 165) (tgt := 196) d_Mod_change_162 rfl (by decide) (fun _ => ?_) (fun h => absurd h (by decide))
      refine next σ1 ar1 F W K e1 e3 eo ?_ rfl rfl
      have eU : sx_U s.2.2.2.2.1 T cl i = sx_U s.2.2.2.2.1 T cl (i + 1) := by
        rw [← u2]
        exact (List.ext_getElem? (fun j => by
          by_cases hj : i = j
          · subst hj
            rw [List.getElem?_set_self (by rw [hUl i (by omega)]; exact hil), u1]
            rfl
          · rw [List.getElem?_set_ne hj])).symm
      rw [← eU]
      exact hr
    | some y =>
      rw [hx] at u2
      have hy := c2 y hx
      have u3 : (sx_U s.2.2.2.2.1 T cl i).set i (rw_s T[i] s.2.2.2.2.1 y) = sx_U s.2.2.2.2.1 T cl (i + 1) := u2
      have ex : nI s.2.1 * 60 + nI i * 3 + nI s.2.2.2.2.1 = nI (60 * s.2.1 + 3 * i + s.2.2.2.2.1) := by
        rw [show (60 : Int32) = nI 60 from rfl, show (3 : Int32) = nI 3 from rfl, pk_mul, pk_mul, nI_add, nI_add]
        exact congrArg nI (by omega)
      refine nq_icmp_ne (pc' := 165) (tgt := 196) d_Mod_change_162 rfl (by decide) (fun h => absurd rfl h) (fun _ => ?_)
      refine nq_aload_n (pc' := 166) d_Mod_change_165 rfl rfl rfl ?_
      refine nq_getf (pc' := 169) d_Mod_change_166 rfl fl_Mod_16 (by first | assumption | exact nq_ga (by assumption) | exact nq_gs (by first | assumption | exact nq_ga (by assumption) | exact nq_gs (by first | assumption | exact nq_gs (by assumption) | exact nq_gn (by first | assumption | decide | omega | exact nq_ne1 (by assumption) (by assumption) | exact nq_ne2 (by assumption) (by assumption)) (by assumption) | exact nq_ga (by assumption)) | exact nq_gn (by first | assumption | decide | omega | exact nq_ne1 (by assumption) (by assumption) | exact nq_ne2 (by assumption) (by assumption)) (by first | assumption | exact nq_gs (by assumption) | exact nq_gn (by first | assumption | decide | omega | exact nq_ne1 (by assumption) (by assumption) | exact nq_ne2 (by assumption) (by assumption)) (by assumption) | exact nq_ga (by assumption))) | exact nq_gn (by first | assumption | decide | omega | exact nq_ne1 (by assumption) (by assumption) | exact nq_ne2 (by assumption) (by assumption)) (by first | assumption | exact nq_ga (by assumption) | exact nq_gs (by first | assumption | exact nq_gs (by assumption) | exact nq_gn (by first | assumption | decide | omega | exact nq_ne1 (by assumption) (by assumption) | exact nq_ne2 (by assumption) (by assumption)) (by assumption) | exact nq_ga (by assumption)) | exact nq_gn (by first | assumption | decide | omega | exact nq_ne1 (by assumption) (by assumption) | exact nq_ne2 (by assumption) (by assumption)) (by first | assumption | exact nq_gs (by assumption) | exact nq_gn (by first | assumption | decide | omega | exact nq_ne1 (by assumption) (by assumption) | exact nq_ne2 (by assumption) (by assumption)) (by assumption) | exact nq_ga (by assumption)))) rfl ?_
      refine nq_iload_n (pc' := 170) d_Mod_change_169 rfl rfl rfl ?_
      refine nq_bipush (v := 60) (pc' := 172) d_Mod_change_170 rfl (by decide) ?_
      refine nq_imul (pc' := 173) d_Mod_change_172 rfl ?_
      refine nq_iload (pc' := 175) d_Mod_change_173 rfl rfl ?_
      refine nq_iconst (v := 3) (pc' := 176) d_Mod_change_175 rfl (by decide) ?_
      refine nq_imul (pc' := 177) d_Mod_change_176 rfl ?_
      refine nq_iadd (pc' := 178) d_Mod_change_177 rfl ?_
      refine nq_aload_n (pc' := 179) d_Mod_change_178 rfl rfl rfl ?_
      refine nq_getf (pc' := 182) d_Mod_change_179 rfl fl_Mod_13 (by first | assumption | exact nq_ga (by assumption) | exact nq_gs (by first | assumption | exact nq_ga (by assumption) | exact nq_gs (by first | assumption | exact nq_gs (by assumption) | exact nq_gn (by first | assumption | decide | omega | exact nq_ne1 (by assumption) (by assumption) | exact nq_ne2 (by assumption) (by assumption)) (by assumption) | exact nq_ga (by assumption)) | exact nq_gn (by first | assumption | decide | omega | exact nq_ne1 (by assumption) (by assumption) | exact nq_ne2 (by assumption) (by assumption)) (by first | assumption | exact nq_gs (by assumption) | exact nq_gn (by first | assumption | decide | omega | exact nq_ne1 (by assumption) (by assumption) | exact nq_ne2 (by assumption) (by assumption)) (by assumption) | exact nq_ga (by assumption))) | exact nq_gn (by first | assumption | decide | omega | exact nq_ne1 (by assumption) (by assumption) | exact nq_ne2 (by assumption) (by assumption)) (by first | assumption | exact nq_ga (by assumption) | exact nq_gs (by first | assumption | exact nq_gs (by assumption) | exact nq_gn (by first | assumption | decide | omega | exact nq_ne1 (by assumption) (by assumption) | exact nq_ne2 (by assumption) (by assumption)) (by assumption) | exact nq_ga (by assumption)) | exact nq_gn (by first | assumption | decide | omega | exact nq_ne1 (by assumption) (by assumption) | exact nq_ne2 (by assumption) (by assumption)) (by first | assumption | exact nq_gs (by assumption) | exact nq_gn (by first | assumption | decide | omega | exact nq_ne1 (by assumption) (by assumption) | exact nq_ne2 (by assumption) (by assumption)) (by assumption) | exact nq_ga (by assumption)))) rfl ?_
      refine nq_iload_n (pc' := 183) d_Mod_change_182 rfl rfl rfl ?_
      refine nq_bipush (v := 9) (pc' := 185) d_Mod_change_183 rfl (by decide) ?_
      refine nq_iadd (pc' := 186) d_Mod_change_185 rfl ?_
      refine nq_iald (pc' := 187) d_Mod_change_186 rfl (by first | assumption | exact nq_ga (by assumption) | exact nq_gs (by first | assumption | exact nq_ga (by assumption) | exact nq_gs (by first | assumption | exact nq_gs (by assumption) | exact nq_gn (by first | assumption | decide | omega | exact nq_ne1 (by assumption) (by assumption) | exact nq_ne2 (by assumption) (by assumption)) (by assumption) | exact nq_ga (by assumption)) | exact nq_gn (by first | assumption | decide | omega | exact nq_ne1 (by assumption) (by assumption) | exact nq_ne2 (by assumption) (by assumption)) (by first | assumption | exact nq_gs (by assumption) | exact nq_gn (by first | assumption | decide | omega | exact nq_ne1 (by assumption) (by assumption) | exact nq_ne2 (by assumption) (by assumption)) (by assumption) | exact nq_ga (by assumption))) | exact nq_gn (by first | assumption | decide | omega | exact nq_ne1 (by assumption) (by assumption) | exact nq_ne2 (by assumption) (by assumption)) (by first | assumption | exact nq_ga (by assumption) | exact nq_gs (by first | assumption | exact nq_gs (by assumption) | exact nq_gn (by first | assumption | decide | omega | exact nq_ne1 (by assumption) (by assumption) | exact nq_ne2 (by assumption) (by assumption)) (by assumption) | exact nq_ga (by assumption)) | exact nq_gn (by first | assumption | decide | omega | exact nq_ne1 (by assumption) (by assumption) | exact nq_ne2 (by assumption) (by assumption)) (by first | assumption | exact nq_gs (by assumption) | exact nq_gn (by first | assumption | decide | omega | exact nq_ne1 (by assumption) (by assumption) | exact nq_ne2 (by assumption) (by assumption)) (by assumption) | exact nq_ga (by assumption)))) rfl (j := h + 9) (nI_add h 9) (by omega) (by decide) ?_
      rw [h9]
      refine nq_iadd (pc' := 188) d_Mod_change_187 rfl ?_
      refine nq_aload_n (pc' := 189) d_Mod_change_188 rfl rfl rfl ?_
      refine nq_getf (pc' := 192) d_Mod_change_189 rfl fl_Mod_60 (by first | assumption | exact nq_ga (by assumption) | exact nq_gs (by first | assumption | exact nq_ga (by assumption) | exact nq_gs (by first | assumption | exact nq_gs (by assumption) | exact nq_gn (by first | assumption | decide | omega | exact nq_ne1 (by assumption) (by assumption) | exact nq_ne2 (by assumption) (by assumption)) (by assumption) | exact nq_ga (by assumption)) | exact nq_gn (by first | assumption | decide | omega | exact nq_ne1 (by assumption) (by assumption) | exact nq_ne2 (by assumption) (by assumption)) (by first | assumption | exact nq_gs (by assumption) | exact nq_gn (by first | assumption | decide | omega | exact nq_ne1 (by assumption) (by assumption) | exact nq_ne2 (by assumption) (by assumption)) (by assumption) | exact nq_ga (by assumption))) | exact nq_gn (by first | assumption | decide | omega | exact nq_ne1 (by assumption) (by assumption) | exact nq_ne2 (by assumption) (by assumption)) (by first | assumption | exact nq_ga (by assumption) | exact nq_gs (by first | assumption | exact nq_gs (by assumption) | exact nq_gn (by first | assumption | decide | omega | exact nq_ne1 (by assumption) (by assumption) | exact nq_ne2 (by assumption) (by assumption)) (by assumption) | exact nq_ga (by assumption)) | exact nq_gn (by first | assumption | decide | omega | exact nq_ne1 (by assumption) (by assumption) | exact nq_ne2 (by assumption) (by assumption)) (by first | assumption | exact nq_gs (by assumption) | exact nq_gn (by first | assumption | decide | omega | exact nq_ne1 (by assumption) (by assumption) | exact nq_ne2 (by assumption) (by assumption)) (by assumption) | exact nq_ga (by assumption)))) rfl ?_
      refine nq_iload (pc' := 194) d_Mod_change_192 rfl rfl ?_
      refine nq_iald (pc' := 195) d_Mod_change_194 rfl (by first | assumption | exact nq_ga (by assumption) | exact nq_gs (by first | assumption | exact nq_ga (by assumption) | exact nq_gs (by first | assumption | exact nq_gs (by assumption) | exact nq_gn (by first | assumption | decide | omega | exact nq_ne1 (by assumption) (by assumption) | exact nq_ne2 (by assumption) (by assumption)) (by assumption) | exact nq_ga (by assumption)) | exact nq_gn (by first | assumption | decide | omega | exact nq_ne1 (by assumption) (by assumption) | exact nq_ne2 (by assumption) (by assumption)) (by first | assumption | exact nq_gs (by assumption) | exact nq_gn (by first | assumption | decide | omega | exact nq_ne1 (by assumption) (by assumption) | exact nq_ne2 (by assumption) (by assumption)) (by assumption) | exact nq_ga (by assumption))) | exact nq_gn (by first | assumption | decide | omega | exact nq_ne1 (by assumption) (by assumption) | exact nq_ne2 (by assumption) (by assumption)) (by first | assumption | exact nq_ga (by assumption) | exact nq_gs (by first | assumption | exact nq_gs (by assumption) | exact nq_gn (by first | assumption | decide | omega | exact nq_ne1 (by assumption) (by assumption) | exact nq_ne2 (by assumption) (by assumption)) (by assumption) | exact nq_ga (by assumption)) | exact nq_gn (by first | assumption | decide | omega | exact nq_ne1 (by assumption) (by assumption) | exact nq_ne2 (by assumption) (by assumption)) (by first | assumption | exact nq_gs (by assumption) | exact nq_gn (by first | assumption | decide | omega | exact nq_ne1 (by assumption) (by assumption) | exact nq_ne2 (by assumption) (by assumption)) (by assumption) | exact nq_ga (by assumption)))) rfl (j := i) rfl (by omega) (by decide) ?_
      rw [hy]
      refine nq_iast (pc' := 196) d_Mod_change_195 rfl (by first | assumption | exact nq_ga (by assumption) | exact nq_gs (by first | assumption | exact nq_ga (by assumption) | exact nq_gs (by first | assumption | exact nq_gs (by assumption) | exact nq_gn (by first | assumption | decide | omega | exact nq_ne1 (by assumption) (by assumption) | exact nq_ne2 (by assumption) (by assumption)) (by assumption) | exact nq_ga (by assumption)) | exact nq_gn (by first | assumption | decide | omega | exact nq_ne1 (by assumption) (by assumption) | exact nq_ne2 (by assumption) (by assumption)) (by first | assumption | exact nq_gs (by assumption) | exact nq_gn (by first | assumption | decide | omega | exact nq_ne1 (by assumption) (by assumption) | exact nq_ne2 (by assumption) (by assumption)) (by assumption) | exact nq_ga (by assumption))) | exact nq_gn (by first | assumption | decide | omega | exact nq_ne1 (by assumption) (by assumption) | exact nq_ne2 (by assumption) (by assumption)) (by first | assumption | exact nq_ga (by assumption) | exact nq_gs (by first | assumption | exact nq_gs (by assumption) | exact nq_gn (by first | assumption | decide | omega | exact nq_ne1 (by assumption) (by assumption) | exact nq_ne2 (by assumption) (by assumption)) (by assumption) | exact nq_ga (by assumption)) | exact nq_gn (by first | assumption | decide | omega | exact nq_ne1 (by assumption) (by assumption) | exact nq_ne2 (by assumption) (by assumption)) (by first | assumption | exact nq_gs (by assumption) | exact nq_gn (by first | assumption | decide | omega | exact nq_ne1 (by assumption) (by assumption) | exact nq_ne2 (by assumption) (by assumption)) (by assumption) | exact nq_ga (by assumption)))) rfl (j := 60 * s.2.1 + 3 * i + s.2.2.2.2.1) ex (by omega) (by decide) ?_
      refine next _ (ua ar1 2 (upd (ar1 2) (60 * s.2.1 + 3 * i + s.2.2.2.2.1) y)) (F.tr (mo_fr.st (by decide))) W.a2 (K.tr (mx_k.a (by decide))) e1 e3 (fun j hj => by rw [ua_at, upd_ne (by omega)]; exact eo j hj) ?_ rfl rfl
      rw [← u3, ua_at]
      intro k r hk
      by_cases hki : i = k
      · subst hki
        rw [List.getElem?_set_self (by rw [hUl i (by omega)]; exact hil)] at hk
        cases hk
        obtain ⟨q1, q2, q3⟩ := hr i _ u1
        rcases hfn with hf | hf
        · rw [hf]
          refine ⟨by rw [upd_ne (by omega)]; exact q1, upd_at, by rw [upd_ne (by omega)]; exact q3⟩
        · rw [hf]
          refine ⟨by rw [upd_ne (by omega)]; exact q1, by rw [upd_ne (by omega)]; exact q2, upd_at⟩
      · rw [List.getElem?_set_ne hki] at hk
        rw [upd_ne (by omega), upd_ne (by omega), upd_ne (by omega)]
        exact hr k r hk
/-- the rows that stay move together, after the marks are made -/
theorem mg_del {T : List nq_Rw} {cl : List (Option Int32)} (hW0 : mo_tb (ar 2) (ar 3) tb) (hok : sp_ok s) (hTT : tb.getD s.2.1 [] = T) (hcl : cl.length = T.length) (h7 : v 7 = 0) (h13 : v 13 = 0) (h14 : v 14 = 0) (hD : 1 ≤ d) : ∀ (m i : Nat) (σ1 : nq_S) (ar1 : mo_Ar), m + i = T.length → mo_fr σ σ1 → mo_W σ1 v ar1 → mx_k v ar v ar1 → ar1 3 = ar 3 → (∀ j, (j < 60 * s.2.1 ∨ 60 * s.2.1 + 60 ≤ j) → ar1 2 j = ar 2 j) → mo_ro (ar1 2) s.2.1 (sx_del (T.take i) (cl.take i)) → (∀ k r, i ≤ k → T[k]? = some r → ar1 2 (60 * s.2.1 + 3 * k) = r.1 ∧ ar1 2 (60 * s.2.1 + 3 * k + 1) = r.2.1 ∧ ar1 2 (60 * s.2.1 + 3 * k + 2) = r.2.2) → (∀ j x, cl[j]? = some x → ar1 14 j = (if x.isSome then 1 else 0)) → nq_J G (d + 1) 0 0 m_Mod_change 143 (mg_lv h s.2.1 T.length (nI (sx_many cl)) (nI (sx_del (T.take i) (cl.take i)).length) false i) [] σ1 (xm_Q σ v ar tb (.inr (nI (sx_many cl), tb.set s.2.1 (sx_del T cl), [], 0))) := by
  have ht := hok.2.1
  have hT20 : T.length ≤ 20 := by rw [← hTT]; exact (hW0.2 s.2.1 ht).1
  intro m
  induction m with
  | zero =>
    intro i σ1 ar1 hm F W K e3 eo hr ho hc
    have hi : i = T.length := by omega
    subst hi
    rw [List.take_of_length_le (by omega), List.take_of_length_le (by omega)] at hr ⊢
    have hdl := sx_del_len T cl
    have w := W.1
    have a3 := W.2.2.2.2.1
    unfold mg_lv
    refine nq_iload (pc' := 145) d_Mod_change_143 rfl rfl ?_
    refine nq_iload_n (pc' := 146) d_Mod_change_145 rfl rfl rfl ?_
    refine nq_icmp_ge (pc' := 149) (tgt := 273) d_Mod_change_146 rfl (by decide) (fun _ => ?_) (fun h => absurd (Int32.le_refl _) h)
    refine nq_iload (pc' := 275) d_Mod_change_273 rfl rfl ?_
    refine nq_if_ne (pc' := 278) (tgt := 286) d_Mod_change_275 rfl (by decide) (fun h => absurd rfl h) (fun _ => ?_)
    refine nq_aload_n (pc' := 279) d_Mod_change_278 rfl rfl rfl ?_
    refine nq_getf (pc' := 282) d_Mod_change_279 rfl fl_Mod_19 (by first | assumption | exact nq_ga (by assumption) | exact nq_gs (by first | assumption | exact nq_ga (by assumption) | exact nq_gs (by first | assumption | exact nq_gs (by assumption) | exact nq_gn (by first | assumption | decide | omega | exact nq_ne1 (by assumption) (by assumption) | exact nq_ne2 (by assumption) (by assumption)) (by assumption) | exact nq_ga (by assumption)) | exact nq_gn (by first | assumption | decide | omega | exact nq_ne1 (by assumption) (by assumption) | exact nq_ne2 (by assumption) (by assumption)) (by first | assumption | exact nq_gs (by assumption) | exact nq_gn (by first | assumption | decide | omega | exact nq_ne1 (by assumption) (by assumption) | exact nq_ne2 (by assumption) (by assumption)) (by assumption) | exact nq_ga (by assumption))) | exact nq_gn (by first | assumption | decide | omega | exact nq_ne1 (by assumption) (by assumption) | exact nq_ne2 (by assumption) (by assumption)) (by first | assumption | exact nq_ga (by assumption) | exact nq_gs (by first | assumption | exact nq_gs (by assumption) | exact nq_gn (by first | assumption | decide | omega | exact nq_ne1 (by assumption) (by assumption) | exact nq_ne2 (by assumption) (by assumption)) (by assumption) | exact nq_ga (by assumption)) | exact nq_gn (by first | assumption | decide | omega | exact nq_ne1 (by assumption) (by assumption) | exact nq_ne2 (by assumption) (by assumption)) (by first | assumption | exact nq_gs (by assumption) | exact nq_gn (by first | assumption | decide | omega | exact nq_ne1 (by assumption) (by assumption) | exact nq_ne2 (by assumption) (by assumption)) (by assumption) | exact nq_ga (by assumption)))) rfl ?_
    refine nq_iload_n (pc' := 283) d_Mod_change_282 rfl rfl rfl ?_
    refine nq_iload (pc' := 285) d_Mod_change_283 rfl rfl ?_
    refine nq_iast (pc' := 286) d_Mod_change_285 rfl (by first | assumption | exact nq_ga (by assumption) | exact nq_gs (by first | assumption | exact nq_ga (by assumption) | exact nq_gs (by first | assumption | exact nq_gs (by assumption) | exact nq_gn (by first | assumption | decide | omega | exact nq_ne1 (by assumption) (by assumption) | exact nq_ne2 (by assumption) (by assumption)) (by assumption) | exact nq_ga (by assumption)) | exact nq_gn (by first | assumption | decide | omega | exact nq_ne1 (by assumption) (by assumption) | exact nq_ne2 (by assumption) (by assumption)) (by first | assumption | exact nq_gs (by assumption) | exact nq_gn (by first | assumption | decide | omega | exact nq_ne1 (by assumption) (by assumption) | exact nq_ne2 (by assumption) (by assumption)) (by assumption) | exact nq_ga (by assumption))) | exact nq_gn (by first | assumption | decide | omega | exact nq_ne1 (by assumption) (by assumption) | exact nq_ne2 (by assumption) (by assumption)) (by first | assumption | exact nq_ga (by assumption) | exact nq_gs (by first | assumption | exact nq_gs (by assumption) | exact nq_gn (by first | assumption | decide | omega | exact nq_ne1 (by assumption) (by assumption) | exact nq_ne2 (by assumption) (by assumption)) (by assumption) | exact nq_ga (by assumption)) | exact nq_gn (by first | assumption | decide | omega | exact nq_ne1 (by assumption) (by assumption) | exact nq_ne2 (by assumption) (by assumption)) (by first | assumption | exact nq_gs (by assumption) | exact nq_gn (by first | assumption | decide | omega | exact nq_ne1 (by assumption) (by assumption) | exact nq_ne2 (by assumption) (by assumption)) (by assumption) | exact nq_ga (by assumption)))) rfl (j := s.2.1) rfl (by omega) (by decide) ?_
    refine nq_iload (pc' := 288) d_Mod_change_286 rfl rfl ?_
    refine nq_iret d_Mod_change_288 rfl rfl ⟨(F.tr (mo_fr.st (by decide))).g, v, ua ar1 3 (upd (ar1 3) s.2.1 (nI (sx_del T cl).length)), _, W.a3, K.tr (mx_k.a (by decide)), rfl, rfl, h7, hW0.put ht (by omega) hr (by rw [ua_at, upd_at]) eo (fun j hj => by rw [ua_at, upd_ne hj, e3]), h13, h14, fun i x hx => by simp at hx⟩
  | succ m ih =>
    intro i σ1 ar1 hm F W K e3 eo hr ho hc
    have hil : i < T.length := by omega
    have hgT := List.getElem?_eq_getElem hil
    have hgc := List.getElem?_eq_getElem (show i < cl.length by omega)
    have c1 := hc i _ hgc
    have et : T.take (i + 1) = T.take i ++ [T[i]] := List.take_succ_eq_append_getElem hil
    have ec : cl.take (i + 1) = cl.take i ++ [cl[i]] := List.take_succ_eq_append_getElem (by omega)
    have ed : sx_del (T.take (i + 1)) (cl.take (i + 1)) = sx_del (T.take i) (cl.take i) ++ (if (cl[i]).isSome then [] else [T[i]]) := by
      rw [et, ec, sx_del_app _ _ _ _ (by simp only [List.length_take]; omega)]
    have hdl : (sx_del (T.take i) (cl.take i)).length ≤ i := by
      have := sx_del_len (T.take i) (cl.take i)
      rw [List.length_take] at this
      omega
    have w := W.1
    have a2 := W.2.2.2.1
    have a14 := W.2.2.2.2.2.2.2.2.2.2.2.2.2.2.2.1
    unfold mg_lv
    refine nq_iload (pc' := 145) d_Mod_change_143 rfl rfl ?_
    refine nq_iload_n (pc' := 146) d_Mod_change_145 rfl rfl rfl ?_
    refine nq_icmp_ge (pc' := 149) (tgt := 273) d_Mod_change_146 rfl (by decide) (fun h => absurd ((nI_leI (by omega) (by omega)).mp h) (by omega)) (fun _ => ?_)
    refine nq_iload (pc' := 151) d_Mod_change_149 rfl rfl ?_
    refine nq_if_eq (pc' := 154) (tgt := 196) d_Mod_change_151 rfl (by decide) (fun _ => ?_) (fun h => absurd rfl h)
    refine nq_iload (pc' := 198) d_Mod_change_196 rfl rfl ?_
    refine nq_if_ne (pc' := 201) (tgt := 267) d_Mod_change_198 rfl (by decide) (fun h => absurd rfl h) (fun _ => ?_)
    refine nq_aload_n (pc' := 202) d_Mod_change_201 rfl rfl rfl ?_
    refine nq_getf (pc' := 205) d_Mod_change_202 rfl fl_Mod_57 (by first | assumption | exact nq_ga (by assumption) | exact nq_gs (by first | assumption | exact nq_ga (by assumption) | exact nq_gs (by first | assumption | exact nq_gs (by assumption) | exact nq_gn (by first | assumption | decide | omega | exact nq_ne1 (by assumption) (by assumption) | exact nq_ne2 (by assumption) (by assumption)) (by assumption) | exact nq_ga (by assumption)) | exact nq_gn (by first | assumption | decide | omega | exact nq_ne1 (by assumption) (by assumption) | exact nq_ne2 (by assumption) (by assumption)) (by first | assumption | exact nq_gs (by assumption) | exact nq_gn (by first | assumption | decide | omega | exact nq_ne1 (by assumption) (by assumption) | exact nq_ne2 (by assumption) (by assumption)) (by assumption) | exact nq_ga (by assumption))) | exact nq_gn (by first | assumption | decide | omega | exact nq_ne1 (by assumption) (by assumption) | exact nq_ne2 (by assumption) (by assumption)) (by first | assumption | exact nq_ga (by assumption) | exact nq_gs (by first | assumption | exact nq_gs (by assumption) | exact nq_gn (by first | assumption | decide | omega | exact nq_ne1 (by assumption) (by assumption) | exact nq_ne2 (by assumption) (by assumption)) (by assumption) | exact nq_ga (by assumption)) | exact nq_gn (by first | assumption | decide | omega | exact nq_ne1 (by assumption) (by assumption) | exact nq_ne2 (by assumption) (by assumption)) (by first | assumption | exact nq_gs (by assumption) | exact nq_gn (by first | assumption | decide | omega | exact nq_ne1 (by assumption) (by assumption) | exact nq_ne2 (by assumption) (by assumption)) (by assumption) | exact nq_ga (by assumption)))) rfl ?_
    refine nq_iload (pc' := 207) d_Mod_change_205 rfl rfl ?_
    refine nq_iald (pc' := 208) d_Mod_change_207 rfl (by first | assumption | exact nq_ga (by assumption) | exact nq_gs (by first | assumption | exact nq_ga (by assumption) | exact nq_gs (by first | assumption | exact nq_gs (by assumption) | exact nq_gn (by first | assumption | decide | omega | exact nq_ne1 (by assumption) (by assumption) | exact nq_ne2 (by assumption) (by assumption)) (by assumption) | exact nq_ga (by assumption)) | exact nq_gn (by first | assumption | decide | omega | exact nq_ne1 (by assumption) (by assumption) | exact nq_ne2 (by assumption) (by assumption)) (by first | assumption | exact nq_gs (by assumption) | exact nq_gn (by first | assumption | decide | omega | exact nq_ne1 (by assumption) (by assumption) | exact nq_ne2 (by assumption) (by assumption)) (by assumption) | exact nq_ga (by assumption))) | exact nq_gn (by first | assumption | decide | omega | exact nq_ne1 (by assumption) (by assumption) | exact nq_ne2 (by assumption) (by assumption)) (by first | assumption | exact nq_ga (by assumption) | exact nq_gs (by first | assumption | exact nq_gs (by assumption) | exact nq_gn (by first | assumption | decide | omega | exact nq_ne1 (by assumption) (by assumption) | exact nq_ne2 (by assumption) (by assumption)) (by assumption) | exact nq_ga (by assumption)) | exact nq_gn (by first | assumption | decide | omega | exact nq_ne1 (by assumption) (by assumption) | exact nq_ne2 (by assumption) (by assumption)) (by first | assumption | exact nq_gs (by assumption) | exact nq_gn (by first | assumption | decide | omega | exact nq_ne1 (by assumption) (by assumption) | exact nq_ne2 (by assumption) (by assumption)) (by assumption) | exact nq_ga (by assumption)))) rfl (j := i) rfl (by omega) (by decide) ?_
    rw [c1]
    refine nq_iconst (v := 1) (pc' := 209) d_Mod_change_208 rfl (by decide) ?_
    cases hx : cl[i] with
    | some y =>
      rw [hx] at ed
      simp only [Option.isSome_some, if_true, List.append_nil] at ed
      refine nq_icmp_ne (pc' := 212) (tgt := 215) d_Mod_change_209 rfl (by decide) (fun h => absurd rfl h) (fun _ => ?_)
      refine nq_goto (tgt := 267) d_Mod_change_212 (by decide) ?_
      refine nq_iinc (pc' := 270) d_Mod_change_267 rfl rfl (v := nI (i + 1)) (nI_1 i) (by decide) rfl ?_
      refine nq_goto (tgt := 143) d_Mod_change_270 (by decide) ?_
      rw [← ed]
      exact ih (i + 1) σ1 ar1 (by omega) F W K e3 eo (by rw [ed]; exact hr) (fun k r hk hr2 => ho k r (by omega) hr2) hc
    | none =>
      rw [hx] at ed
      simp only [Option.isSome_none, Bool.false_eq_true, if_false] at ed
      generalize hl : (sx_del (T.take i) (cl.take i)).length = l at hdl ⊢
      have ex : ∀ k j, nI s.2.1 * 60 + nI k * 3 + nI j = nI (60 * s.2.1 + 3 * k + j) := fun k j => by
        rw [show (60 : Int32) = nI 60 from rfl, show (3 : Int32) = nI 3 from rfl, pk_mul, pk_mul, nI_add, nI_add]
        exact congrArg nI (by omega)
      obtain ⟨t0, t1, t2⟩ := ho i _ (Nat.le_refl _) hgT
      refine nq_icmp_ne (pc' := 212) (tgt := 215) d_Mod_change_209 rfl (by decide) (fun _ => ?_) (fun h => absurd h (by decide))
      refine nq_iconst (v := 0) (pc' := 216) d_Mod_change_215 rfl (by decide) ?_
      refine nq_istore (pc' := 218) d_Mod_change_216 rfl (by decide) rfl ?_
      refine nq_iload (pc' := 220) d_Mod_change_218 rfl rfl ?_
      refine nq_iconst (v := 3) (pc' := 221) d_Mod_change_220 rfl (by decide) ?_
      refine nq_icmp_ge (pc' := 224) (tgt := 264) d_Mod_change_221 rfl (by decide) (fun h => absurd h (by decide)) (fun _ => ?_)
      refine nq_aload_n (pc' := 225) d_Mod_change_224 rfl rfl rfl ?_
      refine nq_getf (pc' := 228) d_Mod_change_225 rfl fl_Mod_16 (by first | assumption | exact nq_ga (by assumption) | exact nq_gs (by first | assumption | exact nq_ga (by assumption) | exact nq_gs (by first | assumption | exact nq_gs (by assumption) | exact nq_gn (by first | assumption | decide | omega | exact nq_ne1 (by assumption) (by assumption) | exact nq_ne2 (by assumption) (by assumption)) (by assumption) | exact nq_ga (by assumption)) | exact nq_gn (by first | assumption | decide | omega | exact nq_ne1 (by assumption) (by assumption) | exact nq_ne2 (by assumption) (by assumption)) (by first | assumption | exact nq_gs (by assumption) | exact nq_gn (by first | assumption | decide | omega | exact nq_ne1 (by assumption) (by assumption) | exact nq_ne2 (by assumption) (by assumption)) (by assumption) | exact nq_ga (by assumption))) | exact nq_gn (by first | assumption | decide | omega | exact nq_ne1 (by assumption) (by assumption) | exact nq_ne2 (by assumption) (by assumption)) (by first | assumption | exact nq_ga (by assumption) | exact nq_gs (by first | assumption | exact nq_gs (by assumption) | exact nq_gn (by first | assumption | decide | omega | exact nq_ne1 (by assumption) (by assumption) | exact nq_ne2 (by assumption) (by assumption)) (by assumption) | exact nq_ga (by assumption)) | exact nq_gn (by first | assumption | decide | omega | exact nq_ne1 (by assumption) (by assumption) | exact nq_ne2 (by assumption) (by assumption)) (by first | assumption | exact nq_gs (by assumption) | exact nq_gn (by first | assumption | decide | omega | exact nq_ne1 (by assumption) (by assumption) | exact nq_ne2 (by assumption) (by assumption)) (by assumption) | exact nq_ga (by assumption)))) rfl ?_
      refine nq_iload_n (pc' := 229) d_Mod_change_228 rfl rfl rfl ?_
      refine nq_bipush (v := 60) (pc' := 231) d_Mod_change_229 rfl (by decide) ?_
      refine nq_imul (pc' := 232) d_Mod_change_231 rfl ?_
      refine nq_iload (pc' := 234) d_Mod_change_232 rfl rfl ?_
      refine nq_iconst (v := 3) (pc' := 235) d_Mod_change_234 rfl (by decide) ?_
      refine nq_imul (pc' := 236) d_Mod_change_235 rfl ?_
      refine nq_iadd (pc' := 237) d_Mod_change_236 rfl ?_
      refine nq_iload (pc' := 239) d_Mod_change_237 rfl rfl ?_
      refine nq_iadd (pc' := 240) d_Mod_change_239 rfl ?_
      refine nq_aload_n (pc' := 241) d_Mod_change_240 rfl rfl rfl ?_
      refine nq_getf (pc' := 244) d_Mod_change_241 rfl fl_Mod_16 (by first | assumption | exact nq_ga (by assumption) | exact nq_gs (by first | assumption | exact nq_ga (by assumption) | exact nq_gs (by first | assumption | exact nq_gs (by assumption) | exact nq_gn (by first | assumption | decide | omega | exact nq_ne1 (by assumption) (by assumption) | exact nq_ne2 (by assumption) (by assumption)) (by assumption) | exact nq_ga (by assumption)) | exact nq_gn (by first | assumption | decide | omega | exact nq_ne1 (by assumption) (by assumption) | exact nq_ne2 (by assumption) (by assumption)) (by first | assumption | exact nq_gs (by assumption) | exact nq_gn (by first | assumption | decide | omega | exact nq_ne1 (by assumption) (by assumption) | exact nq_ne2 (by assumption) (by assumption)) (by assumption) | exact nq_ga (by assumption))) | exact nq_gn (by first | assumption | decide | omega | exact nq_ne1 (by assumption) (by assumption) | exact nq_ne2 (by assumption) (by assumption)) (by first | assumption | exact nq_ga (by assumption) | exact nq_gs (by first | assumption | exact nq_gs (by assumption) | exact nq_gn (by first | assumption | decide | omega | exact nq_ne1 (by assumption) (by assumption) | exact nq_ne2 (by assumption) (by assumption)) (by assumption) | exact nq_ga (by assumption)) | exact nq_gn (by first | assumption | decide | omega | exact nq_ne1 (by assumption) (by assumption) | exact nq_ne2 (by assumption) (by assumption)) (by first | assumption | exact nq_gs (by assumption) | exact nq_gn (by first | assumption | decide | omega | exact nq_ne1 (by assumption) (by assumption) | exact nq_ne2 (by assumption) (by assumption)) (by assumption) | exact nq_ga (by assumption)))) rfl ?_
      refine nq_iload_n (pc' := 245) d_Mod_change_244 rfl rfl rfl ?_
      refine nq_bipush (v := 60) (pc' := 247) d_Mod_change_245 rfl (by decide) ?_
      refine nq_imul (pc' := 248) d_Mod_change_247 rfl ?_
      refine nq_iload (pc' := 250) d_Mod_change_248 rfl rfl ?_
      refine nq_iconst (v := 3) (pc' := 251) d_Mod_change_250 rfl (by decide) ?_
      refine nq_imul (pc' := 252) d_Mod_change_251 rfl ?_
      refine nq_iadd (pc' := 253) d_Mod_change_252 rfl ?_
      refine nq_iload (pc' := 255) d_Mod_change_253 rfl rfl ?_
      refine nq_iadd (pc' := 256) d_Mod_change_255 rfl ?_
      refine nq_iald (pc' := 257) d_Mod_change_256 rfl (by first | assumption | exact nq_ga (by assumption) | exact nq_gs (by first | assumption | exact nq_ga (by assumption) | exact nq_gs (by first | assumption | exact nq_gs (by assumption) | exact nq_gn (by first | assumption | decide | omega | exact nq_ne1 (by assumption) (by assumption) | exact nq_ne2 (by assumption) (by assumption)) (by assumption) | exact nq_ga (by assumption)) | exact nq_gn (by first | assumption | decide | omega | exact nq_ne1 (by assumption) (by assumption) | exact nq_ne2 (by assumption) (by assumption)) (by first | assumption | exact nq_gs (by assumption) | exact nq_gn (by first | assumption | decide | omega | exact nq_ne1 (by assumption) (by assumption) | exact nq_ne2 (by assumption) (by assumption)) (by assumption) | exact nq_ga (by assumption))) | exact nq_gn (by first | assumption | decide | omega | exact nq_ne1 (by assumption) (by assumption) | exact nq_ne2 (by assumption) (by assumption)) (by first | assumption | exact nq_ga (by assumption) | exact nq_gs (by first | assumption | exact nq_gs (by assumption) | exact nq_gn (by first | assumption | decide | omega | exact nq_ne1 (by assumption) (by assumption) | exact nq_ne2 (by assumption) (by assumption)) (by assumption) | exact nq_ga (by assumption)) | exact nq_gn (by first | assumption | decide | omega | exact nq_ne1 (by assumption) (by assumption) | exact nq_ne2 (by assumption) (by assumption)) (by first | assumption | exact nq_gs (by assumption) | exact nq_gn (by first | assumption | decide | omega | exact nq_ne1 (by assumption) (by assumption) | exact nq_ne2 (by assumption) (by assumption)) (by assumption) | exact nq_ga (by assumption)))) rfl (j := 60 * s.2.1 + 3 * i) (ex i 0) (by omega) (by decide) ?_
      rw [t0]
      refine nq_iast (pc' := 258) d_Mod_change_257 rfl (by first | assumption | exact nq_ga (by assumption) | exact nq_gs (by first | assumption | exact nq_ga (by assumption) | exact nq_gs (by first | assumption | exact nq_gs (by assumption) | exact nq_gn (by first | assumption | decide | omega | exact nq_ne1 (by assumption) (by assumption) | exact nq_ne2 (by assumption) (by assumption)) (by assumption) | exact nq_ga (by assumption)) | exact nq_gn (by first | assumption | decide | omega | exact nq_ne1 (by assumption) (by assumption) | exact nq_ne2 (by assumption) (by assumption)) (by first | assumption | exact nq_gs (by assumption) | exact nq_gn (by first | assumption | decide | omega | exact nq_ne1 (by assumption) (by assumption) | exact nq_ne2 (by assumption) (by assumption)) (by assumption) | exact nq_ga (by assumption))) | exact nq_gn (by first | assumption | decide | omega | exact nq_ne1 (by assumption) (by assumption) | exact nq_ne2 (by assumption) (by assumption)) (by first | assumption | exact nq_ga (by assumption) | exact nq_gs (by first | assumption | exact nq_gs (by assumption) | exact nq_gn (by first | assumption | decide | omega | exact nq_ne1 (by assumption) (by assumption) | exact nq_ne2 (by assumption) (by assumption)) (by assumption) | exact nq_ga (by assumption)) | exact nq_gn (by first | assumption | decide | omega | exact nq_ne1 (by assumption) (by assumption) | exact nq_ne2 (by assumption) (by assumption)) (by first | assumption | exact nq_gs (by assumption) | exact nq_gn (by first | assumption | decide | omega | exact nq_ne1 (by assumption) (by assumption) | exact nq_ne2 (by assumption) (by assumption)) (by assumption) | exact nq_ga (by assumption)))) rfl (j := 60 * s.2.1 + 3 * l) (ex l 0) (by omega) (by decide) ?_
      refine nq_iinc (pc' := 261) d_Mod_change_258 rfl rfl (v := nI 1) (by decide) (by decide) rfl ?_
      refine nq_goto (tgt := 218) d_Mod_change_261 (by decide) ?_
      refine nq_iload (pc' := 220) d_Mod_change_218 rfl rfl ?_
      refine nq_iconst (v := 3) (pc' := 221) d_Mod_change_220 rfl (by decide) ?_
      refine nq_icmp_ge (pc' := 224) (tgt := 264) d_Mod_change_221 rfl (by decide) (fun h => absurd h (by decide)) (fun _ => ?_)
      refine nq_aload_n (pc' := 225) d_Mod_change_224 rfl rfl rfl ?_
      refine nq_getf (pc' := 228) d_Mod_change_225 rfl fl_Mod_16 (by first | assumption | exact nq_ga (by assumption) | exact nq_gs (by first | assumption | exact nq_ga (by assumption) | exact nq_gs (by first | assumption | exact nq_gs (by assumption) | exact nq_gn (by first | assumption | decide | omega | exact nq_ne1 (by assumption) (by assumption) | exact nq_ne2 (by assumption) (by assumption)) (by assumption) | exact nq_ga (by assumption)) | exact nq_gn (by first | assumption | decide | omega | exact nq_ne1 (by assumption) (by assumption) | exact nq_ne2 (by assumption) (by assumption)) (by first | assumption | exact nq_gs (by assumption) | exact nq_gn (by first | assumption | decide | omega | exact nq_ne1 (by assumption) (by assumption) | exact nq_ne2 (by assumption) (by assumption)) (by assumption) | exact nq_ga (by assumption))) | exact nq_gn (by first | assumption | decide | omega | exact nq_ne1 (by assumption) (by assumption) | exact nq_ne2 (by assumption) (by assumption)) (by first | assumption | exact nq_ga (by assumption) | exact nq_gs (by first | assumption | exact nq_gs (by assumption) | exact nq_gn (by first | assumption | decide | omega | exact nq_ne1 (by assumption) (by assumption) | exact nq_ne2 (by assumption) (by assumption)) (by assumption) | exact nq_ga (by assumption)) | exact nq_gn (by first | assumption | decide | omega | exact nq_ne1 (by assumption) (by assumption) | exact nq_ne2 (by assumption) (by assumption)) (by first | assumption | exact nq_gs (by assumption) | exact nq_gn (by first | assumption | decide | omega | exact nq_ne1 (by assumption) (by assumption) | exact nq_ne2 (by assumption) (by assumption)) (by assumption) | exact nq_ga (by assumption)))) rfl ?_
      refine nq_iload_n (pc' := 229) d_Mod_change_228 rfl rfl rfl ?_
      refine nq_bipush (v := 60) (pc' := 231) d_Mod_change_229 rfl (by decide) ?_
      refine nq_imul (pc' := 232) d_Mod_change_231 rfl ?_
      refine nq_iload (pc' := 234) d_Mod_change_232 rfl rfl ?_
      refine nq_iconst (v := 3) (pc' := 235) d_Mod_change_234 rfl (by decide) ?_
      refine nq_imul (pc' := 236) d_Mod_change_235 rfl ?_
      refine nq_iadd (pc' := 237) d_Mod_change_236 rfl ?_
      refine nq_iload (pc' := 239) d_Mod_change_237 rfl rfl ?_
      refine nq_iadd (pc' := 240) d_Mod_change_239 rfl ?_
      refine nq_aload_n (pc' := 241) d_Mod_change_240 rfl rfl rfl ?_
      refine nq_getf (pc' := 244) d_Mod_change_241 rfl fl_Mod_16 (by first | assumption | exact nq_ga (by assumption) | exact nq_gs (by first | assumption | exact nq_ga (by assumption) | exact nq_gs (by first | assumption | exact nq_gs (by assumption) | exact nq_gn (by first | assumption | decide | omega | exact nq_ne1 (by assumption) (by assumption) | exact nq_ne2 (by assumption) (by assumption)) (by assumption) | exact nq_ga (by assumption)) | exact nq_gn (by first | assumption | decide | omega | exact nq_ne1 (by assumption) (by assumption) | exact nq_ne2 (by assumption) (by assumption)) (by first | assumption | exact nq_gs (by assumption) | exact nq_gn (by first | assumption | decide | omega | exact nq_ne1 (by assumption) (by assumption) | exact nq_ne2 (by assumption) (by assumption)) (by assumption) | exact nq_ga (by assumption))) | exact nq_gn (by first | assumption | decide | omega | exact nq_ne1 (by assumption) (by assumption) | exact nq_ne2 (by assumption) (by assumption)) (by first | assumption | exact nq_ga (by assumption) | exact nq_gs (by first | assumption | exact nq_gs (by assumption) | exact nq_gn (by first | assumption | decide | omega | exact nq_ne1 (by assumption) (by assumption) | exact nq_ne2 (by assumption) (by assumption)) (by assumption) | exact nq_ga (by assumption)) | exact nq_gn (by first | assumption | decide | omega | exact nq_ne1 (by assumption) (by assumption) | exact nq_ne2 (by assumption) (by assumption)) (by first | assumption | exact nq_gs (by assumption) | exact nq_gn (by first | assumption | decide | omega | exact nq_ne1 (by assumption) (by assumption) | exact nq_ne2 (by assumption) (by assumption)) (by assumption) | exact nq_ga (by assumption)))) rfl ?_
      refine nq_iload_n (pc' := 245) d_Mod_change_244 rfl rfl rfl ?_
      refine nq_bipush (v := 60) (pc' := 247) d_Mod_change_245 rfl (by decide) ?_
      refine nq_imul (pc' := 248) d_Mod_change_247 rfl ?_
      refine nq_iload (pc' := 250) d_Mod_change_248 rfl rfl ?_
      refine nq_iconst (v := 3) (pc' := 251) d_Mod_change_250 rfl (by decide) ?_
      refine nq_imul (pc' := 252) d_Mod_change_251 rfl ?_
      refine nq_iadd (pc' := 253) d_Mod_change_252 rfl ?_
      refine nq_iload (pc' := 255) d_Mod_change_253 rfl rfl ?_
      refine nq_iadd (pc' := 256) d_Mod_change_255 rfl ?_
      refine nq_iald (pc' := 257) d_Mod_change_256 rfl (by first | assumption | exact nq_ga (by assumption) | exact nq_gs (by first | assumption | exact nq_ga (by assumption) | exact nq_gs (by first | assumption | exact nq_gs (by assumption) | exact nq_gn (by first | assumption | decide | omega | exact nq_ne1 (by assumption) (by assumption) | exact nq_ne2 (by assumption) (by assumption)) (by assumption) | exact nq_ga (by assumption)) | exact nq_gn (by first | assumption | decide | omega | exact nq_ne1 (by assumption) (by assumption) | exact nq_ne2 (by assumption) (by assumption)) (by first | assumption | exact nq_gs (by assumption) | exact nq_gn (by first | assumption | decide | omega | exact nq_ne1 (by assumption) (by assumption) | exact nq_ne2 (by assumption) (by assumption)) (by assumption) | exact nq_ga (by assumption))) | exact nq_gn (by first | assumption | decide | omega | exact nq_ne1 (by assumption) (by assumption) | exact nq_ne2 (by assumption) (by assumption)) (by first | assumption | exact nq_ga (by assumption) | exact nq_gs (by first | assumption | exact nq_gs (by assumption) | exact nq_gn (by first | assumption | decide | omega | exact nq_ne1 (by assumption) (by assumption) | exact nq_ne2 (by assumption) (by assumption)) (by assumption) | exact nq_ga (by assumption)) | exact nq_gn (by first | assumption | decide | omega | exact nq_ne1 (by assumption) (by assumption) | exact nq_ne2 (by assumption) (by assumption)) (by first | assumption | exact nq_gs (by assumption) | exact nq_gn (by first | assumption | decide | omega | exact nq_ne1 (by assumption) (by assumption) | exact nq_ne2 (by assumption) (by assumption)) (by assumption) | exact nq_ga (by assumption)))) rfl (j := 60 * s.2.1 + 3 * i + 1) (ex i 1) (by omega) (by decide) ?_
      rw [upd_ne (by omega), t1]
      refine nq_iast (pc' := 258) d_Mod_change_257 rfl (by first | assumption | exact nq_ga (by assumption) | exact nq_gs (by first | assumption | exact nq_ga (by assumption) | exact nq_gs (by first | assumption | exact nq_gs (by assumption) | exact nq_gn (by first | assumption | decide | omega | exact nq_ne1 (by assumption) (by assumption) | exact nq_ne2 (by assumption) (by assumption)) (by assumption) | exact nq_ga (by assumption)) | exact nq_gn (by first | assumption | decide | omega | exact nq_ne1 (by assumption) (by assumption) | exact nq_ne2 (by assumption) (by assumption)) (by first | assumption | exact nq_gs (by assumption) | exact nq_gn (by first | assumption | decide | omega | exact nq_ne1 (by assumption) (by assumption) | exact nq_ne2 (by assumption) (by assumption)) (by assumption) | exact nq_ga (by assumption))) | exact nq_gn (by first | assumption | decide | omega | exact nq_ne1 (by assumption) (by assumption) | exact nq_ne2 (by assumption) (by assumption)) (by first | assumption | exact nq_ga (by assumption) | exact nq_gs (by first | assumption | exact nq_gs (by assumption) | exact nq_gn (by first | assumption | decide | omega | exact nq_ne1 (by assumption) (by assumption) | exact nq_ne2 (by assumption) (by assumption)) (by assumption) | exact nq_ga (by assumption)) | exact nq_gn (by first | assumption | decide | omega | exact nq_ne1 (by assumption) (by assumption) | exact nq_ne2 (by assumption) (by assumption)) (by first | assumption | exact nq_gs (by assumption) | exact nq_gn (by first | assumption | decide | omega | exact nq_ne1 (by assumption) (by assumption) | exact nq_ne2 (by assumption) (by assumption)) (by assumption) | exact nq_ga (by assumption)))) rfl (j := 60 * s.2.1 + 3 * l + 1) (ex l 1) (by omega) (by decide) ?_
      rw [nq_ss]
      refine nq_iinc (pc' := 261) d_Mod_change_258 rfl rfl (v := nI 2) (by decide) (by decide) rfl ?_
      refine nq_goto (tgt := 218) d_Mod_change_261 (by decide) ?_
      refine nq_iload (pc' := 220) d_Mod_change_218 rfl rfl ?_
      refine nq_iconst (v := 3) (pc' := 221) d_Mod_change_220 rfl (by decide) ?_
      refine nq_icmp_ge (pc' := 224) (tgt := 264) d_Mod_change_221 rfl (by decide) (fun h => absurd h (by decide)) (fun _ => ?_)
      refine nq_aload_n (pc' := 225) d_Mod_change_224 rfl rfl rfl ?_
      refine nq_getf (pc' := 228) d_Mod_change_225 rfl fl_Mod_16 (by first | assumption | exact nq_ga (by assumption) | exact nq_gs (by first | assumption | exact nq_ga (by assumption) | exact nq_gs (by first | assumption | exact nq_gs (by assumption) | exact nq_gn (by first | assumption | decide | omega | exact nq_ne1 (by assumption) (by assumption) | exact nq_ne2 (by assumption) (by assumption)) (by assumption) | exact nq_ga (by assumption)) | exact nq_gn (by first | assumption | decide | omega | exact nq_ne1 (by assumption) (by assumption) | exact nq_ne2 (by assumption) (by assumption)) (by first | assumption | exact nq_gs (by assumption) | exact nq_gn (by first | assumption | decide | omega | exact nq_ne1 (by assumption) (by assumption) | exact nq_ne2 (by assumption) (by assumption)) (by assumption) | exact nq_ga (by assumption))) | exact nq_gn (by first | assumption | decide | omega | exact nq_ne1 (by assumption) (by assumption) | exact nq_ne2 (by assumption) (by assumption)) (by first | assumption | exact nq_ga (by assumption) | exact nq_gs (by first | assumption | exact nq_gs (by assumption) | exact nq_gn (by first | assumption | decide | omega | exact nq_ne1 (by assumption) (by assumption) | exact nq_ne2 (by assumption) (by assumption)) (by assumption) | exact nq_ga (by assumption)) | exact nq_gn (by first | assumption | decide | omega | exact nq_ne1 (by assumption) (by assumption) | exact nq_ne2 (by assumption) (by assumption)) (by first | assumption | exact nq_gs (by assumption) | exact nq_gn (by first | assumption | decide | omega | exact nq_ne1 (by assumption) (by assumption) | exact nq_ne2 (by assumption) (by assumption)) (by assumption) | exact nq_ga (by assumption)))) rfl ?_
      refine nq_iload_n (pc' := 229) d_Mod_change_228 rfl rfl rfl ?_
      refine nq_bipush (v := 60) (pc' := 231) d_Mod_change_229 rfl (by decide) ?_
      refine nq_imul (pc' := 232) d_Mod_change_231 rfl ?_
      refine nq_iload (pc' := 234) d_Mod_change_232 rfl rfl ?_
      refine nq_iconst (v := 3) (pc' := 235) d_Mod_change_234 rfl (by decide) ?_
      refine nq_imul (pc' := 236) d_Mod_change_235 rfl ?_
      refine nq_iadd (pc' := 237) d_Mod_change_236 rfl ?_
      refine nq_iload (pc' := 239) d_Mod_change_237 rfl rfl ?_
      refine nq_iadd (pc' := 240) d_Mod_change_239 rfl ?_
      refine nq_aload_n (pc' := 241) d_Mod_change_240 rfl rfl rfl ?_
      refine nq_getf (pc' := 244) d_Mod_change_241 rfl fl_Mod_16 (by first | assumption | exact nq_ga (by assumption) | exact nq_gs (by first | assumption | exact nq_ga (by assumption) | exact nq_gs (by first | assumption | exact nq_gs (by assumption) | exact nq_gn (by first | assumption | decide | omega | exact nq_ne1 (by assumption) (by assumption) | exact nq_ne2 (by assumption) (by assumption)) (by assumption) | exact nq_ga (by assumption)) | exact nq_gn (by first | assumption | decide | omega | exact nq_ne1 (by assumption) (by assumption) | exact nq_ne2 (by assumption) (by assumption)) (by first | assumption | exact nq_gs (by assumption) | exact nq_gn (by first | assumption | decide | omega | exact nq_ne1 (by assumption) (by assumption) | exact nq_ne2 (by assumption) (by assumption)) (by assumption) | exact nq_ga (by assumption))) | exact nq_gn (by first | assumption | decide | omega | exact nq_ne1 (by assumption) (by assumption) | exact nq_ne2 (by assumption) (by assumption)) (by first | assumption | exact nq_ga (by assumption) | exact nq_gs (by first | assumption | exact nq_gs (by assumption) | exact nq_gn (by first | assumption | decide | omega | exact nq_ne1 (by assumption) (by assumption) | exact nq_ne2 (by assumption) (by assumption)) (by assumption) | exact nq_ga (by assumption)) | exact nq_gn (by first | assumption | decide | omega | exact nq_ne1 (by assumption) (by assumption) | exact nq_ne2 (by assumption) (by assumption)) (by first | assumption | exact nq_gs (by assumption) | exact nq_gn (by first | assumption | decide | omega | exact nq_ne1 (by assumption) (by assumption) | exact nq_ne2 (by assumption) (by assumption)) (by assumption) | exact nq_ga (by assumption)))) rfl ?_
      refine nq_iload_n (pc' := 245) d_Mod_change_244 rfl rfl rfl ?_
      refine nq_bipush (v := 60) (pc' := 247) d_Mod_change_245 rfl (by decide) ?_
      refine nq_imul (pc' := 248) d_Mod_change_247 rfl ?_
      refine nq_iload (pc' := 250) d_Mod_change_248 rfl rfl ?_
      refine nq_iconst (v := 3) (pc' := 251) d_Mod_change_250 rfl (by decide) ?_
      refine nq_imul (pc' := 252) d_Mod_change_251 rfl ?_
      refine nq_iadd (pc' := 253) d_Mod_change_252 rfl ?_
      refine nq_iload (pc' := 255) d_Mod_change_253 rfl rfl ?_
      refine nq_iadd (pc' := 256) d_Mod_change_255 rfl ?_
      refine nq_iald (pc' := 257) d_Mod_change_256 rfl (by first | assumption | exact nq_ga (by assumption) | exact nq_gs (by first | assumption | exact nq_ga (by assumption) | exact nq_gs (by first | assumption | exact nq_gs (by assumption) | exact nq_gn (by first | assumption | decide | omega | exact nq_ne1 (by assumption) (by assumption) | exact nq_ne2 (by assumption) (by assumption)) (by assumption) | exact nq_ga (by assumption)) | exact nq_gn (by first | assumption | decide | omega | exact nq_ne1 (by assumption) (by assumption) | exact nq_ne2 (by assumption) (by assumption)) (by first | assumption | exact nq_gs (by assumption) | exact nq_gn (by first | assumption | decide | omega | exact nq_ne1 (by assumption) (by assumption) | exact nq_ne2 (by assumption) (by assumption)) (by assumption) | exact nq_ga (by assumption))) | exact nq_gn (by first | assumption | decide | omega | exact nq_ne1 (by assumption) (by assumption) | exact nq_ne2 (by assumption) (by assumption)) (by first | assumption | exact nq_ga (by assumption) | exact nq_gs (by first | assumption | exact nq_gs (by assumption) | exact nq_gn (by first | assumption | decide | omega | exact nq_ne1 (by assumption) (by assumption) | exact nq_ne2 (by assumption) (by assumption)) (by assumption) | exact nq_ga (by assumption)) | exact nq_gn (by first | assumption | decide | omega | exact nq_ne1 (by assumption) (by assumption) | exact nq_ne2 (by assumption) (by assumption)) (by first | assumption | exact nq_gs (by assumption) | exact nq_gn (by first | assumption | decide | omega | exact nq_ne1 (by assumption) (by assumption) | exact nq_ne2 (by assumption) (by assumption)) (by assumption) | exact nq_ga (by assumption)))) rfl (j := 60 * s.2.1 + 3 * i + 2) (ex i 2) (by omega) (by decide) ?_
      rw [upd_ne (by omega), upd_ne (by omega), t2]
      refine nq_iast (pc' := 258) d_Mod_change_257 rfl (by first | assumption | exact nq_ga (by assumption) | exact nq_gs (by first | assumption | exact nq_ga (by assumption) | exact nq_gs (by first | assumption | exact nq_gs (by assumption) | exact nq_gn (by first | assumption | decide | omega | exact nq_ne1 (by assumption) (by assumption) | exact nq_ne2 (by assumption) (by assumption)) (by assumption) | exact nq_ga (by assumption)) | exact nq_gn (by first | assumption | decide | omega | exact nq_ne1 (by assumption) (by assumption) | exact nq_ne2 (by assumption) (by assumption)) (by first | assumption | exact nq_gs (by assumption) | exact nq_gn (by first | assumption | decide | omega | exact nq_ne1 (by assumption) (by assumption) | exact nq_ne2 (by assumption) (by assumption)) (by assumption) | exact nq_ga (by assumption))) | exact nq_gn (by first | assumption | decide | omega | exact nq_ne1 (by assumption) (by assumption) | exact nq_ne2 (by assumption) (by assumption)) (by first | assumption | exact nq_ga (by assumption) | exact nq_gs (by first | assumption | exact nq_gs (by assumption) | exact nq_gn (by first | assumption | decide | omega | exact nq_ne1 (by assumption) (by assumption) | exact nq_ne2 (by assumption) (by assumption)) (by assumption) | exact nq_ga (by assumption)) | exact nq_gn (by first | assumption | decide | omega | exact nq_ne1 (by assumption) (by assumption) | exact nq_ne2 (by assumption) (by assumption)) (by first | assumption | exact nq_gs (by assumption) | exact nq_gn (by first | assumption | decide | omega | exact nq_ne1 (by assumption) (by assumption) | exact nq_ne2 (by assumption) (by assumption)) (by assumption) | exact nq_ga (by assumption)))) rfl (j := 60 * s.2.1 + 3 * l + 2) (ex l 2) (by omega) (by decide) ?_
      rw [nq_ss]
      refine nq_iinc (pc' := 261) d_Mod_change_258 rfl rfl (v := nI 3) (by decide) (by decide) rfl ?_
      refine nq_goto (tgt := 218) d_Mod_change_261 (by decide) ?_
      refine nq_iload (pc' := 220) d_Mod_change_218 rfl rfl ?_
      refine nq_iconst (v := 3) (pc' := 221) d_Mod_change_220 rfl (by decide) ?_
      refine nq_icmp_ge (pc' := 224) (tgt := 264) d_Mod_change_221 rfl (by decide) (fun _ => ?_) (fun h => absurd (by decide) h)
      refine nq_iinc (pc' := 267) d_Mod_change_264 rfl rfl (v := nI (l + 1)) (nI_1 l) (by decide) rfl ?_
      refine nq_iinc (pc' := 270) d_Mod_change_267 rfl rfl (v := nI (i + 1)) (nI_1 i) (by decide) rfl ?_
      refine nq_goto (tgt := 143) d_Mod_change_270 (by decide) ?_
      refine nq_J.fo 8 ?_
      have hlen : (sx_del (T.take (i + 1)) (cl.take (i + 1))).length = l + 1 := by rw [ed, List.length_append, hl]; rfl
      have := ih (i + 1) _ (ua ar1 2 (upd (upd (upd (ar1 2) (60 * s.2.1 + 3 * l) T[i].1) (60 * s.2.1 + 3 * l + 1) T[i].2.1) (60 * s.2.1 + 3 * l + 2) T[i].2.2)) (by omega) (F.tr (mo_fr.st (j := 273) (by decide))) (W.a2) (K.tr (mx_k.a (by decide))) e3 (fun j hj => by rw [ua_at, upd_ne (by omega), upd_ne (by omega), upd_ne (by omega)]; exact eo j hj) (by
        rw [ed, ua_at]
        intro k r hk
        by_cases hkl : k = l
        · subst hkl
          rw [List.getElem?_append_right (by omega), hl, Nat.sub_self] at hk
          cases hk
          exact ⟨by rw [upd_ne (by omega), upd_ne (by omega), upd_at], by rw [upd_ne (by omega), upd_at], upd_at⟩
        · have hll := (List.getElem?_eq_some_iff.mp hk).1
          simp only [List.length_append, List.length_cons, List.length_nil] at hll
          rw [List.getElem?_append_left (by omega)] at hk
          rw [upd_ne (by omega), upd_ne (by omega), upd_ne (by omega), upd_ne (by omega), upd_ne (by omega), upd_ne (by omega), upd_ne (by omega), upd_ne (by omega), upd_ne (by omega)]
          exact hr k r hk) (fun k r hk hr2 => by
        rw [ua_at, upd_ne (by omega), upd_ne (by omega), upd_ne (by omega), upd_ne (by omega), upd_ne (by omega), upd_ne (by omega), upd_ne (by omega), upd_ne (by omega), upd_ne (by omega)]
        exact ho k r (by omega) hr2) hc
      rw [hlen] at this
      exact this
end MG
