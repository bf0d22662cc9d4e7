/-! THE LAYER: a world of numbered cells over the kit's W. Cells: arrays (number of the array class, length, contents), objects (number of the class, fields); references are numbers of cells; from 1000000 on they name what lies outside (texts, their bytes, the script). -/
abbrev nq_A : Type := (Nat → Int32) ⊕ (Nat → Int64) ⊕ (Nat → Option Nat)
abbrev nq_C : Type := (Nat × Nat × nq_A) ⊕ (Nat × List Value)
abbrev nq_S : Type := List nq_C
abbrev nq_G : Type := va_G × (Nat → ClassId) × Nat × (Nat → Int32)
abbrev nq_Q : Type := (Option Value ⊕ String) → nq_S → Prop
/-- a value with its reference set out -/
def nq_cv (ad : Nat → Nat) (v : Value) : Value := match v with
  | .int x => .int x
  | .long x => .long x
  | .float x => .float x
  | .double x => .double x
  | .null => .null
  | .ref k => .ref (ad k)
  | .retAddr x => .retAddr x
def nq_arr (ad : Nat → Nat) (a : nq_A) : (Nat → Int32) ⊕ (Nat → Int64) ⊕ (Nat → UInt32) ⊕ (Nat → UInt64) ⊕ (Nat → Option Nat) := match a with
  | .inl f => .inl f
  | .inr (.inl f) => .inr (.inl f)
  | .inr (.inr f) => .inr (.inr (.inr (.inr (fun j => (f j).map ad))))
def nq_ce (ad : Nat → Nat) (tc : Nat → ClassId) (e : nq_C) : va_E := match e with
  | .inl a => .inl (tc a.1, a.2.1, nq_arr ad a.2.2)
  | .inr o => .inr (o.1, o.2.map (nq_cv ad))
def nq_ws (ad : Nat → Nat) (tc : Nat → ClassId) (σ : nq_S) : va_W := σ.mapIdx (fun k e => (ad k, nq_ce ad tc e))
def nq_okv (n : Nat) (v : Value) : Prop := ∀ k : Nat, v = .ref k → k < n ∨ 1000000 ≤ k
def nq_oks (n : Nat) (st : List Value) : Prop := ∀ v ∈ st, nq_okv n v
def nq_oke (n : Nat) (e : nq_C) : Prop := match e with
  | .inl a => ∀ f, a.2.2 = .inr (.inr f) → ∀ j k, f j = some k → k < n ∨ 1000000 ≤ k
  | .inr o => nq_oks n o.2
def nq_ok (σ : nq_S) : Prop := ∀ (k : Nat) (e : nq_C), σ[k]? = some e → nq_oke σ.length e
def nq_ag (n : Nat) (ad ad' : Nat → Nat) : Prop := ∀ k, (k < n ∨ 1000000 ≤ k) → ad' k = ad k
theorem nq_ag.rf {n : Nat} {ad : Nat → Nat} : nq_ag n ad ad := fun _ _ => rfl
theorem nq_ag.tr {n n' : Nat} {a b c : Nat → Nat} (h : nq_ag n a b) (h' : nq_ag n' b c) (hn : n ≤ n') : nq_ag n a c := fun k hk => (h' k (by omega)).trans (h k hk)
theorem nq_okv.le {n n' : Nat} {v : Value} (h : nq_okv n v) (hn : n ≤ n') : nq_okv n' v := fun k hk => by have := h k hk; omega
theorem nq_oks.le {n n' : Nat} {st : List Value} (h : nq_oks n st) (hn : n ≤ n') : nq_oks n' st := fun v hv => (h v hv).le hn
theorem nq_oke.le {n n' : Nat} {e : nq_C} (h : nq_oke n e) (hn : n ≤ n') : nq_oke n' e := by
  match e, h with
  | .inl a, h => exact fun f hf j k hk => by have := h f hf j k hk; omega
  | .inr o, h => exact nq_oks.le h hn
theorem nq_oks.tl {n : Nat} {v : Value} {st : List Value} (h : nq_oks n (v :: st)) : nq_oks n st := fun w hw => h w (List.mem_cons_of_mem _ hw)
theorem nq_oks.hd {n : Nat} {v : Value} {st : List Value} (h : nq_oks n (v :: st)) : nq_okv n v := h v List.mem_cons_self
theorem nq_oks.cons {n : Nat} {v : Value} {st : List Value} (hv : nq_okv n v) (h : nq_oks n st) : nq_oks n (v :: st) := fun w hw => (List.mem_cons.mp hw).elim (fun e => e ▸ hv) (h w)
theorem nq_oks.i {n : Nat} {x : Int32} {st : List Value} (h : nq_oks n st) : nq_oks n (.int x :: st) := nq_oks.cons (fun _ h => by cases h) h
theorem nq_oks.l {n : Nat} {x : Int64} {st : List Value} (h : nq_oks n st) : nq_oks n (.long x :: st) := nq_oks.cons (fun _ h => by cases h) h
theorem nq_oks.z {n : Nat} {st : List Value} (h : nq_oks n st) : nq_oks n (.null :: st) := nq_oks.cons (fun _ h => by cases h) h
theorem nq_oks.nil {n : Nat} : nq_oks n [] := fun _ h => by cases h
theorem nq_oks.app {n : Nat} {a b : List Value} (h : nq_oks n a) (h' : nq_oks n b) : nq_oks n (a ++ b) := fun v hv => (List.mem_append.mp hv).elim (h v) (h' v)
theorem nq_oks.of {n : Nat} {a b : List Value} (h : nq_oks n a) (hb : ∀ v ∈ b, v ∈ a) : nq_oks n b := fun v hv => h v (hb v hv)
theorem nq_cv_ag {n : Nat} {ad ad' : Nat → Nat} {v : Value} (h : nq_ag n ad ad') (hv : nq_okv n v) : nq_cv ad' v = nq_cv ad v := by
  cases v <;> first | rfl | (simp only [nq_cv]; rw [h _ (hv _ rfl)])
theorem nq_map_ag {n : Nat} {ad ad' : Nat → Nat} {st : List Value} (h : nq_ag n ad ad') (hv : nq_oks n st) : st.map (nq_cv ad') = st.map (nq_cv ad) :=
  List.map_congr_left fun v hm => nq_cv_ag h (hv v hm)
theorem nq_ce_ag {n : Nat} {ad ad' : Nat → Nat} {tc : Nat → ClassId} {e : nq_C} (h : nq_ag n ad ad') (he : nq_oke n e) : nq_ce ad' tc e = nq_ce ad tc e := by
  match e, he with
  | .inl (t, k, .inl f), _ => rfl
  | .inl (t, k, .inr (.inl f)), _ => rfl
  | .inl (t, k, .inr (.inr f)), he =>
    have e9 : (fun j => (f j).map ad') = fun j => (f j).map ad := by
      funext j
      cases hf : f j with
      | none => rfl
      | some z => simp only [Option.map_some]; rw [h _ (he f rfl j z hf)]
    simp only [nq_ce, nq_arr]
    rw [e9]
  | .inr o, he => simp only [nq_ce]; rw [nq_map_ag h he]
theorem nq_ws_at {ad : Nat → Nat} {tc : Nat → ClassId} {σ : nq_S} {k : Nat} {e : nq_C} (h : σ[k]? = some e) : (nq_ws ad tc σ)[k]? = some (ad k, nq_ce ad tc e) := by
  simp [nq_ws, List.getElem?_mapIdx, h]
theorem nq_ws_len {ad : Nat → Nat} {tc : Nat → ClassId} {σ : nq_S} : (nq_ws ad tc σ).length = σ.length := by simp [nq_ws]
theorem nq_ws_set {ad : Nat → Nat} {tc : Nat → ClassId} {σ : nq_S} {k : Nat} {e : nq_C} : nq_ws ad tc (σ.set k e) = (nq_ws ad tc σ).set k (ad k, nq_ce ad tc e) := by
  apply List.ext_getElem?
  intro j
  by_cases hjk : k = j
  · subst hjk
    by_cases hk : k < σ.length
    · simp [nq_ws, List.getElem?_mapIdx, hk]
    · simp [nq_ws, List.getElem?_mapIdx, hk]
  · simp [nq_ws, List.getElem?_mapIdx, hjk]
theorem nq_ws_ag {ad ad' : Nat → Nat} {tc : Nat → ClassId} {σ : nq_S} (h : nq_ag σ.length ad ad') (ho : nq_ok σ) : nq_ws ad' tc σ = nq_ws ad tc σ := by
  apply List.ext_getElem?
  intro j
  simp only [nq_ws, List.getElem?_mapIdx]
  cases hj : σ[j]? with
  | none => rfl
  | some e =>
    simp only [Option.map_some]
    rw [nq_ce_ag h (ho j e hj), h j (Or.inl (List.getElem?_eq_some_iff.mp hj).1)]
theorem nq_ws_push {ad ad' : Nat → Nat} {tc : Nat → ClassId} {σ : nq_S} {e : nq_C} (h : nq_ag σ.length ad ad') (ho : nq_ok σ) : nq_ws ad' tc (σ ++ [e]) = nq_ws ad tc σ ++ [(ad' σ.length, nq_ce ad' tc e)] := by
  rw [← nq_ws_ag h ho]
  simp [nq_ws, List.mapIdx_append]
theorem nq_ok.set {σ : nq_S} {k : Nat} {e : nq_C} (h : nq_ok σ) (he : nq_oke σ.length e) : nq_ok (σ.set k e) := by
  intro j e' hj
  rw [List.length_set]
  by_cases hjk : k = j
  · subst hjk
    by_cases hk : k < σ.length
    · simp [hk] at hj
      exact hj ▸ he
    · simp [hk] at hj
  · simp [hjk] at hj
    exact h j e' hj
theorem nq_ok.push {σ : nq_S} {e : nq_C} (h : nq_ok σ) (he : nq_oke (σ.length + 1) e) : nq_ok (σ ++ [e]) := by
  intro j e' hj
  have hl : (σ ++ [e]).length = σ.length + 1 := by simp
  rw [hl]
  rcases Nat.lt_trichotomy j σ.length with h1 | h1 | h1
  · rw [List.getElem?_append_left h1] at hj
    exact (h j e' hj).le (Nat.le_succ _)
  · subst h1
    simp at hj
    exact hj ▸ he
  · rw [List.getElem?_append_right (Nat.le_of_lt h1)] at hj
    rw [List.getElem?_eq_none (by simp; omega)] at hj
    cases hj
/-- the locals that are known -/
def nq_lh (ad : Nat → Nat) (n nL : Nat) (lv : List (Option Value)) (ls : Array Slot) : Prop :=
  lv.length = nL ∧ ls.size = nL ∧ lv_wf ls ∧ ∀ (i : Nat) (v : Value), lv[i]? = some (some v) → nq_okv n v ∧ ls[i]? = some (.val (nq_cv ad v))
def nq_ll (ad : Nat → Nat) (lv : List (Option Value)) : List (Nat × Value) := (List.range lv.length).filterMap (fun i => match lv[i]? with
  | some (some v) => some (i, nq_cv ad v)
  | _ => none)
theorem nq_ll_mem {ad : Nat → Nat} {lv : List (Option Value)} {i : Nat} {v : Value} (h : lv[i]? = some (some v)) : (i, nq_cv ad v) ∈ nq_ll ad lv := by
  refine List.mem_filterMap.mpr ⟨i, List.mem_range.mpr (List.getElem?_eq_some_iff.mp h).1, ?_⟩
  rw [h]
theorem nq_ll_of {ad : Nat → Nat} {lv : List (Option Value)} {q : Nat × Value} (h : q ∈ nq_ll ad lv) : ∃ v, lv[q.1]? = some (some v) ∧ q.2 = nq_cv ad v := by
  obtain ⟨i, -, hi⟩ := List.mem_filterMap.mp h
  split at hi
  · rename_i v hv
    cases hi
    exact ⟨v, hv, rfl⟩
  · cases hi
theorem nq_lh.has {ad : Nat → Nat} {n nL : Nat} {lv : List (Option Value)} {ls : Array Slot} (h : nq_lh ad n nL lv ls) : lv_has ls nL (nq_ll ad lv) := by
  refine ⟨h.2.1, h.2.2.1, fun q hq => ?_⟩
  obtain ⟨v, h1, h2⟩ := nq_ll_of hq
  rw [h2]
  exact (h.2.2.2 q.1 v h1).2
theorem nq_cv_cat (ad : Nat → Nat) (v : Value) : (nq_cv ad v).category = v.category := by cases v <;> rfl
/-- no long lies at the place ahead of i -/
def nq_c1 (lv : List (Option Value)) (i : Nat) : Bool := match i with
  | 0 => true
  | k + 1 => match lv[k]? with
    | some (some w) => w.category == 1
    | _ => true
theorem nq_lh.st1 {ad : Nat → Nat} {n nL i : Nat} {lv : List (Option Value)} {ls ls' : Array Slot} {v : Value} (h : nq_lh ad n nL lv ls) (hc : nq_c1 lv i = true) (hv : nq_okv n v)
    (h' : lv_has ls' nL ((i, nq_cv ad v) :: (nq_ll ad lv).filter (fun q => !(q.1 == i) && !(q.1 + 1 == i && q.2.category == 2)))) : nq_lh ad n nL (lv.set i (some v)) ls' := by
  refine ⟨by rw [List.length_set]; exact h.1, h'.1, h'.2.1, fun j w hj => ?_⟩
  by_cases hji : i = j
  · subst hji
    have hlt : i < lv.length := by
      have := (List.getElem?_eq_some_iff.mp hj).1
      rwa [List.length_set] at this
    simp [hlt] at hj
    subst hj
    exact ⟨hv, h'.2.2 _ List.mem_cons_self⟩
  · simp [hji] at hj
    refine ⟨(h.2.2.2 j w hj).1, h'.2.2 (j, nq_cv ad w) (List.mem_cons_of_mem _ (List.mem_filter.mpr ⟨nq_ll_mem hj, ?_⟩))⟩
    have h1 : ¬ j = i := fun e => hji e.symm
    simp only [nq_cv_cat]
    by_cases h2 : j + 1 = i
    · subst h2
      simp only [nq_c1, hj] at hc
      simp only [beq_iff_eq] at hc
      simp [hc]
    · simp [h1, h2]
theorem nq_lh.le {ad ad' : Nat → Nat} {n n' nL : Nat} {lv : List (Option Value)} {ls : Array Slot} (h : nq_lh ad n nL lv ls) (hn : n ≤ n') (ha : nq_ag n ad ad') : nq_lh ad' n' nL lv ls :=
  ⟨h.1, h.2.1, h.2.2.1, fun i v hi => ⟨(h.2.2.2 i v hi).1.le hn, by rw [nq_cv_ag ha (h.2.2.2 i v hi).1]; exact (h.2.2.2 i v hi).2⟩⟩
/-- arguments as locals -/
def nq_ea : List Value → List (Option Value)
  | [] => []
  | v :: vs => if v.category = 2 then some v :: none :: nq_ea vs else some v :: nq_ea vs
def nq_ent (av : List Value) (n : Nat) : List (Option Value) := nq_ea av ++ List.replicate (n - (nq_ea av).length) none
theorem nq_ea_in {ad : Nat → Nat} : ∀ (av : List Value) (i0 i : Nat) (v : Value), (nq_ea av)[i]? = some (some v) → (i0 + i, nq_cv ad v) ∈ lv_args i0 (av.map (nq_cv ad)) ∧ v ∈ av
  | [], _, _, _, h => by simp [nq_ea] at h
  | w :: ws, i0, i, v, h => by
    simp only [List.map_cons, lv_args, nq_cv_cat]
    by_cases hc : w.category = 2
    · simp only [nq_ea, if_pos hc] at h
      rw [if_pos hc]
      match i, h with
      | 0, h =>
        simp at h
        subst h
        exact ⟨List.mem_cons_self, List.mem_cons_self⟩
      | 1, h => simp at h
      | i + 2, h =>
        simp at h
        have := nq_ea_in (ad := ad) ws (i0 + 2) i v h
        rw [show i0 + 2 + i = i0 + (i + 2) by omega] at this
        exact ⟨List.mem_cons_of_mem _ this.1, List.mem_cons_of_mem _ this.2⟩
    · simp only [nq_ea, if_neg hc] at h
      rw [if_neg hc]
      match i, h with
      | 0, h =>
        simp at h
        subst h
        exact ⟨List.mem_cons_self, List.mem_cons_self⟩
      | i + 1, h =>
        simp at h
        have := nq_ea_in (ad := ad) ws (i0 + 1) i v h
        rw [show i0 + 1 + i = i0 + (i + 1) by omega] at this
        exact ⟨List.mem_cons_of_mem _ this.1, List.mem_cons_of_mem _ this.2⟩
theorem nq_ea_len (ad : Nat → Nat) : ∀ av : List Value, (lg_sl (av.map (nq_cv ad))).length = (nq_ea av).length
  | [] => rfl
  | w :: ws => by
    have := nq_ea_len ad ws
    cases w <;> simp_all [nq_ea, lg_sl, nq_cv, Value.category]
