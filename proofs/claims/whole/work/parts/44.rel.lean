/-! THE STORE AND WHAT IT IS: the relation -/
def sx_value (i j : Int32) : sx_S → sx_A × sx_S
  | (T, pl, kp, tb, old, bg, nt, dn, fl, res, w) => (if i < 0 ∨ nI res.length ≤ i ∨ j < 0 ∨ nI (if res = [] then 0 else w) ≤ j then .inr nq_NE else .inl (some ((res.getD i.toNatClampNeg (0, [])).2.getD j.toNatClampNeg 0)), (T, pl, kp, tb, old, bg, nt, dn, fl, res, w))
def sx_rw (t i j : Int32) : sx_S → sx_A × sx_S
  | (T, pl, kp, tb, old, bg, nt, dn, fl, res, w) => (if t < 0 ∨ 3 ≤ t ∨ j < 0 ∨ 3 ≤ j then .inr nq_IA else if i < 0 ∨ nI (tb.getD t.toNatClampNeg []).length ≤ i then .inr nq_NE else .inl (some (rw_c ((tb.getD t.toNatClampNeg []).getD i.toNatClampNeg sx_row0) j.toNatClampNeg)), (T, pl, kp, tb, old, bg, nt, dn, fl, res, w))
def sx_begin : sx_S → sx_A × sx_S
  | (T, pl, kp, tb, old, bg, nt, dn, fl, res, w) => if bg then (.inr nq_IS, (T, pl, kp, tb, old, bg, nt, dn, fl, res, w)) else (.inl none, (T, pl, kp, tb, tb, true, nt, dn, fl, res, w))
def sx_end : sx_S → sx_A × sx_S
  | (T, pl, kp, tb, old, bg, nt, dn, fl, res, w) => if bg then (.inl (some nt), (T, pl, kp, tb, old, false, 0, dn, fl, res, w)) else (.inr nq_IS, (T, pl, kp, tb, old, bg, nt, dn, fl, res, w))
def sx_back : sx_S → sx_A × sx_S
  | (T, pl, kp, tb, old, bg, nt, dn, fl, res, w) => if bg then (.inl (some nt), (T, pl, kp, old, old, false, 0, dn, fl, res, w)) else (.inr nq_IS, (T, pl, kp, tb, old, bg, nt, dn, fl, res, w))
def sx_kn (kp : Nat → Option sp_St) : Nat := (List.range 4).countP (fun k => (kp k).isSome)
def sx_cnt (what : Int32) : sx_S → Int32
  | (T, pl, kp, tb, _, bg, nt, dn, fl, res, w) => if what = 0 then pl else if what = 1 then nI T.length else if what = 2 then nI (sx_kn kp) else if what = 3 then nI (tb.getD 0 []).length else if what = 4 then nI (tb.getD 1 []).length else if what = 5 then nI (tb.getD 2 []).length else if what = 6 then nI res.length else if what = 7 then nI (if res = [] then 0 else w) else if what = 8 then (if bg then 1 else 0) else if what = 9 then nt else if what = 10 then dn else if what = 11 then fl else -1
def sx_o (a : sx_A) : Option Value ⊕ String := match a with
  | .inl none => .inl none
  | .inl (some x) => .inl (some (.int x))
  | .inr e => .inr e
def qs_bg (b : Bool) : Int32 := if b then 1 else 0
def qs_B (σ : nq_S) (old : sx_T) : Prop := (∃ g, σ[2]? = some (.inl (4, 3, .inr (.inr g))) ∧ ∀ t, t < 3 → g t = some (60 + 84 * t)) ∧ old.length = 3 ∧ ∀ t, t < 3 → tb_T σ (60 + 84 * t) (old.getD t [])
def qs_T (σ : nq_S) (T : List Nat) (pl : Int32) : Prop := ∃ (e0 a0 : Int32) (cv : Value) (cols : Nat) (f : Nat → Int32), σ[3]? = some (.inr (3, [.ref 4, .int (nI T.length), .int e0, .int a0, .int pl, cv, .ref (1000000 + cols)])) ∧ cols < 22 ∧ σ[4]? = some (.inl (2, 48, .inl f)) ∧ rd_T f T
def qs_P (σ : nq_S) (sp : Nat) (kp : Nat → Option sp_St) : Prop := ∃ g : Nat → Option Nat, σ[11]? = some (.inl (6, 4, .inr (.inr g))) ∧ (∀ k, k < 4 → (kp k = none → g k = none) ∧ ∀ s, kp k = some s → ∃ c, g k = some c ∧ qs_C σ c s) ∧ (∃ Ls Hs, cd_C σ sp (sp + 1) (sp + 2) (sp + 3) Ls Hs ∧ Hs.length = 9 ∧ (sp = 14 ∨ 288 ≤ sp)) ∧ (∀ k c, k < 4 → g k = some c → c + 4 ≤ sp ∨ sp + 4 ≤ c) ∧ ∀ k k' c c', k < 4 → k' < 4 → k ≠ k' → g k = some c → g k' = some c' → c + 4 ≤ c' ∨ c' + 4 ≤ c
def qs_W : sx_S → Prop
  | (_, _, _, _, _, bg, nt, _, _, res, w) => (bg = false → nt = 0) ∧ w ≤ 3 ∧ res.length ≤ 40 ∧ ∀ x ∈ res, x.2.length = w
def qs_R (σ : nq_S) : sx_S → Prop
  | (T, pl, kp, tb, old, bg, nt, dn, fl, res, w) => 288 ≤ σ.length ∧ qs_W (T, pl, kp, tb, old, bg, nt, dn, fl, res, w) ∧ ∃ sp R ch nn es width, qs_X σ sp (qs_bg bg) nt (dn + fl) dn tb R ch nn es (nI res.length) width ∧ (res ≠ [] → sx_rel w es res ∧ width = nI w) ∧ qs_B σ old ∧ qs_T σ T pl ∧ qs_P σ sp kp
def ca_fr (σ σ' : nq_S) : Prop := (∀ i, 270 ≤ i → i < 288 → σ'[i]? = σ[i]?) ∧ σ.length ≤ σ'.length ∧ σ'.length ≤ σ.length + 4
def ca_Q (σ : nq_S) (r : sx_A × sx_S) : nq_Q := fun o σ' => o = sx_o r.1 ∧ qs_R σ' r.2 ∧ ca_fr σ σ'
theorem ca_fr.rf {σ : nq_S} : ca_fr σ σ := ⟨fun _ _ _ => rfl, Nat.le_refl _, by omega⟩
theorem qs_B.of {σ σ' : nq_S} {old : sx_T} (h : qs_B σ old) (e : ∀ i, (i = 2 ∨ (60 ≤ i ∧ i < 102) ∨ (144 ≤ i ∧ i < 186) ∨ (228 ≤ i ∧ i < 270)) → σ'[i]? = σ[i]?) : qs_B σ' old := by
  obtain ⟨⟨g, h1, h2⟩, h3, h4⟩ := h
  exact ⟨⟨g, (e 2 (.inl rfl)).trans h1, h2⟩, h3, fun t ht => (h4 t ht).kept (fun i a b => e i (by omega))⟩
theorem qs_T.of {σ σ' : nq_S} {T : List Nat} {pl : Int32} (h : qs_T σ T pl) (e3 : σ'[3]? = σ[3]?) (e4 : σ'[4]? = σ[4]?) : qs_T σ' T pl := by
  obtain ⟨e0, a0, cv, cols, f, h1, h2, h3, h4⟩ := h
  exact ⟨e0, a0, cv, cols, f, e3.trans h1, h2, e4.trans h3, h4⟩
theorem qs_C.of {σ σ' : nq_S} {c : Nat} {s : sp_St} (h : qs_C σ c s) (e : ∀ i, c ≤ i → i < c + 4 → σ'[i]? = σ[i]?) : qs_C σ' c s :=
  ⟨h.1.of (e _ (by omega) (by omega)) (e _ (by omega) (by omega)) (e _ (by omega) (by omega)) (e _ (by omega) (by omega)), h.2⟩
theorem cd_C.lt {σ : nq_S} {c o1 o2 o3 : Nat} {L : List nq_In} {H : List Value} (h : cd_C σ c o1 o2 o3 L H) : c < σ.length ∧ o1 < σ.length ∧ o2 < σ.length ∧ o3 < σ.length := by
  obtain ⟨fo, fr, fa, ⟨h1, h2, h3, h4, _⟩, _⟩ := h
  exact ⟨nq_lt h1, nq_lt h2, nq_lt h3, nq_lt h4⟩
theorem qs_P.of {σ σ' : nq_S} {sp : Nat} {kp : Nat → Option sp_St} (h : qs_P σ sp kp) (e : ∀ i, (i = 11 ∨ (14 ≤ i ∧ i < 18) ∨ (288 ≤ i ∧ i < σ.length)) → σ'[i]? = σ[i]?) : qs_P σ' sp kp := by
  obtain ⟨g, h1, h2, ⟨Ls, Hs, h3, h4, h5⟩, h6, h7⟩ := h
  refine ⟨g, (e 11 (.inl rfl)).trans h1, fun k hk => ⟨(h2 k hk).1, fun s hs => ?_⟩, ⟨Ls, Hs, ?_, h4, h5⟩, h6, h7⟩
  · obtain ⟨c, c1, c2⟩ := (h2 k hk).2 s hs
    have := c2.1.lt
    have := c2.2.2
    exact ⟨c, c1, c2.of (fun i a b => e i (by omega))⟩
  · have := h3.lt
    exact h3.of (e _ (by omega)) (e _ (by omega)) (e _ (by omega)) (e _ (by omega))
theorem qs_X.of {σ σ' : nq_S} {sp : Nat} {bg nt st fi : Int32} {tb : sx_T} {R ch nn : Nat → Int32} {es : List nq_Er} {size width : Int32} (h : qs_X σ sp bg nt st fi tb R ch nn es size width) (e : ∀ i, (i < 2 ∨ (5 ≤ i ∧ i ≤ 10) ∨ i = 12 ∨ i = 13 ∨ (18 ≤ i ∧ i < 60) ∨ (102 ≤ i ∧ i < 144) ∨ (186 ≤ i ∧ i < 228)) → σ'[i]? = σ[i]?) : qs_X σ' sp bg nt st fi tb R ch nn es size width := by
  obtain ⟨h1, ⟨g, h2, h2'⟩, ⟨h3, h3'⟩, h4, h5, h6, h7, h8⟩ := h
  exact ⟨(e 0 (by omega)).trans h1, ⟨g, (e 1 (by omega)).trans h2, h2'⟩, ⟨h3, fun t ht => (h3' t ht).kept (fun i a b => e i (by omega))⟩, (e 5 (by omega)).trans h4, (e 6 (by omega)).trans h5, h6.kept (e 7 (by omega)) (e 8 (by omega)) (e 9 (by omega)) (e 10 (by omega)), (e 12 (by omega)).trans h7, (e 13 (by omega)).trans h8⟩
/-- others may change what is not the store's -/
theorem qs_R.of {σ σ' : nq_S} {S : sx_S} (h : qs_R σ S) (e1 : ∀ i, i < 270 → σ'[i]? = σ[i]?) (e2 : ∀ i, 288 ≤ i → i < σ.length → σ'[i]? = σ[i]?) (hl : σ.length ≤ σ'.length) : qs_R σ' S := by
  obtain ⟨T, pl, kp, tb, old, bg, nt, dn, fl, res, w⟩ := S
  obtain ⟨h0, hw, sp, R, ch, nn, es, width, hX, hr, hB, hT, hP⟩ := h
  exact ⟨by omega, hw, sp, R, ch, nn, es, width, hX.of (fun i hi => e1 i (by omega)), hr, hB.of (fun i hi => e1 i (by omega)), hT.of (e1 3 (by omega)) (e1 4 (by omega)), hP.of (fun i hi => by rcases hi with h | h | h <;> first | exact e1 i (by omega) | exact e2 i h.1 h.2)⟩
theorem ca_fr.qs {σ σ' : nq_S} (h : qs_fr σ σ') : ca_fr σ σ' := ⟨fun i a b => h.2 i (by unfold qs_k; omega), by rw [h.1]; exact Nat.le_refl _, by rw [h.1]; omega⟩
/-! what a statement leaves is well -/
theorem sx_vs_len {ρ : Nat → Int32} : ∀ {vs : List (List nq_In)} {b : Nat} {xs : List Int32}, sx_vs b ρ vs = some xs → xs.length = vs.length
  | [], b, xs, h => by cases h; rfl
  | c :: vs, b, xs, h => by
    unfold sx_vs at h
    split at h
    · cases h
    · split at h
      · cases h
      · rename_i ys hy
        cases h
        simp only [List.length_cons, sx_vs_len hy]
theorem sx_sel_ok {vs : List (List nq_In)} {cs : List sp_K} {od : Nat} : ∀ {envs : List (Nat → Int32)} {cl cl' : List sx_E}, sx_sel vs cs od envs cl = .inr cl' → cl.length ≤ 40 → (∀ x ∈ cl, x.2.length = vs.length) → cl'.length ≤ 40 ∧ ∀ x ∈ cl', x.2.length = vs.length
  | [], cl, cl', h, hl, hc => by cases h; exact ⟨hl, hc⟩
  | ρ :: r, cl, cl', h, hl, hc => by
    unfold sx_sel at h
    split at h
    · cases h
    · exact sx_sel_ok h hl hc
    · split at h
      · cases h
      · rename_i xs hxs
        split at h
        · cases h
        · rename_i h40
          refine sx_sel_ok h (by rw [List.length_append]; simp only [List.length_cons, List.length_nil]; omega) (fun x hx => ?_)
          rcases List.mem_append.1 hx with hx | hx
          · exact hc x hx
          · rcases List.mem_singleton.1 hx with rfl
            exact sx_vs_len hxs
theorem sx_add_mem {es : List sx_E} {e x : sx_E} (h : x ∈ sx_add es e) : x ∈ es ∨ x = e := by
  unfold sx_add at h
  rcases List.mem_append.1 h with h | h
  · exact .inl (List.mem_of_mem_take h)
  · rcases List.mem_cons.1 h with h | h
    · exact .inr h
    · exact .inl (List.mem_of_mem_drop h)
theorem sx_all_mem {cl : List sx_E} {x : sx_E} : ∀ {a : List sx_E}, x ∈ cl.foldl sx_add a → x ∈ a ∨ x ∈ cl := by
  induction cl with
  | nil => intro a h; exact .inl h
  | cons y cl ih =>
    intro a h
    rw [List.foldl_cons] at h
    rcases ih h with h | h
    · rcases sx_add_mem h with h | h
      · exact .inl h
      · exact .inr (by rw [h]; exact List.mem_cons_self)
    · exact .inr (List.mem_cons_of_mem _ h)
theorem sx_exec_ok {tb tb' : sx_T} {s : sp_St} {p n : Int32} {res' : List sx_E} {w' : Nat} (hs : sp_ok s) (h : sx_exec tb s p = .inr (n, tb', res', w')) : w' ≤ 3 ∧ res'.length ≤ 40 ∧ (∀ x ∈ res', x.2.length = w') ∧ tb'.length = tb.length := by
  have hv3 := hs.2.2.2.1.2.2.2.2.2
  unfold sx_exec at h
  split at h
  · split at h
    · cases h
    · split at h
      · cases h
      · cases h
        exact ⟨by omega, by simp, fun x hx => (by cases hx), by rw [List.length_set]⟩
  · split at h
    · split at h
      · cases h
      · cases h
        exact ⟨by omega, by simp, fun x hx => (by cases hx), by rw [List.length_set]⟩
    · split at h
      · split at h
        · cases h
        · cases h
          exact ⟨by omega, by simp, fun x hx => (by cases hx), by rw [List.length_set]⟩
      · split at h
        · split at h
          · cases h
          · split at h
            · cases h
            · cases h
              exact ⟨by omega, by simp, fun x hx => by rcases List.mem_singleton.1 hx with rfl; rfl, rfl⟩
        · split at h
          · cases h
          · rename_i cl hcl
            cases h
            obtain ⟨a1, a2⟩ := sx_sel_ok hcl (by simp) (fun x hx => by cases hx)
            refine ⟨hv3, by rw [sx_all_len]; simp; omega, fun x hx => ?_, rfl⟩
            rcases sx_all_mem hx with hx | hx
            · cases hx
            · exact a2 x hx
