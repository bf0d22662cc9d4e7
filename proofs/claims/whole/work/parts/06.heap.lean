/-! RULES ON THE HEAP -/
/-- the field k of the class ci, as the class own names it at ix of its pool -/
def nq_Fl (own : String) (ix ci k : Nat) (ty : FieldType) (fin : Bool) : Prop := ∃ (C : String) (T : u_T) (N : Nat) (ty0 : Nat → FieldType), nq_cl[ci]? = some (C, T, N) ∧ k < N ∧ (∀ w ∈ u_ws C T N, w ∈ nq_T) ∧
  (Cond.fieldLink own ix (T k).1 (T k).2.1 (T k).2.2.1 ∈ nq_T ∨ ∃ host, Cond.fieldLinkNest own ix (T k).1 (T k).2.1 (T k).2.2.1 host ∈ nq_N) ∧
  (∀ j, j < N → parseFieldDescriptor (T j).2.2.1 = some (ty0 j)) ∧ ty0 k = ty ∧ (∀ a, a < N → ∀ b, b < N → a ≠ b → (T a).2.1 ≠ (T b).2.1) ∧ (T k).2.2.2 = fin ∧ (T k).1 = C
/-- a final field of the class own, as it names it itself -/
def nq_FlO (own : String) (ix ci k : Nat) (ty : FieldType) : Prop := ∃ (C : String) (T : u_T) (N : Nat) (ty0 : Nat → FieldType), nq_cl[ci]? = some (C, T, N) ∧ k < N ∧ (∀ w ∈ u_ws C T N, w ∈ nq_T) ∧ Cond.fieldLink own ix (T k).1 (T k).2.1 (T k).2.2.1 ∈ nq_T ∧
  (∀ j, j < N → parseFieldDescriptor (T j).2.2.1 = some (ty0 j)) ∧ ty0 k = ty ∧ (∀ a, a < N → ∀ b, b < N → a ≠ b → (T a).2.1 ≠ (T b).2.1) ∧ (T k).2.2.2 = true ∧ (T k).1 = own
theorem nq_narrow_cv {ty : FieldType} {v : Value} {ad : Nat → Nat} (h : narrow ty v = v) : narrow ty (nq_cv ad v) = nq_cv ad v := by
  cases v <;> first | exact h | (cases ty <;> rfl)
theorem nq_fits_cv {ty : FieldType} {v : Value} {ad : Nat → Nat} (h : fits ty v = true) : fits ty (nq_cv ad v) = true := by
  cases v <;> first | exact h | (cases ty <;> exact h)
theorem nq_oks_at {n : Nat} {fs : List Value} {k : Nat} {v : Value} (h : nq_oks n fs) (hv : fs[k]? = some v) : nq_okv n v := h v (List.mem_of_getElem? hv)
theorem nq_oks_set {n : Nat} {fs : List Value} {k : Nat} {v : Value} (h : nq_oks n fs) (hv : nq_okv n v) : nq_oks n (fs.set k v) := fun w hw => (List.mem_or_eq_of_mem_set hw).elim (h w) (fun e => e ▸ hv)
theorem nq_ix {i : Int32} {j n : Nat} (hi : i = nI j) (hj : j < n) (hn : n < 2 ^ 31) : vp_in i n ∧ i.toNatClampNeg = j := by
  subst hi
  exact ⟨vp_in_nI hj hn, nI_clamp (by omega)⟩
theorem nq_Z_set {G : nq_G} {s : State} {A : Nat → Prop} {nL n0 : Nat} {ad0 ad : Nat → Nat} {σ : nq_S} {lv : List (Option Value)} {H H1 : Heap} {locs locs1 : List Loc} {ls : Array Slot} {a : Nat} {e : nq_C} (Z : nq_Z G s A nL n0 ad0 ad σ lv H locs ls) (he : nq_oke σ.length e)
    (hP1 : va_P G.1 nq_cl ((nq_ws ad G.2.1 σ).set a (ad a, nq_ce ad G.2.1 e)) H1) (hD1 : va_D A ((nq_ws ad G.2.1 σ).set a (ad a, nq_ce ad G.2.1 e))) (hS1 : va_S A s.heap H1 locs1) : nq_Z G s A nL n0 ad0 ad (σ.set a e) lv H1 locs1 ls :=
  ⟨by rw [List.length_set]; exact Z.1, Z.2.1, by rw [nq_ws_set]; exact hP1, by rw [nq_ws_set]; exact hD1, hS1, Z.2.2.2.2.2.1.set he, by rw [List.length_set]; exact Z.2.2.2.2.2.2⟩
section NQH
variable {G : nq_G} {d kc ks : Nat} {y : nq_M} {pc pc' : Nat} {lv : List (Option Value)} {st : List Value} {σ : nq_S} {Q : nq_Q}
theorem nq_getf {ix a ci kf : Nat} {ty : FieldType} {fin : Bool} {fs : List Value} {v : Value} (hd : decode y.2.1 pc = .ok (.getfield ix, 3)) (hp : pc + 3 = pc') (hlk : nq_Fl y.1.cls ix ci kf ty fin) (hσ : σ[a]? = some (.inr (ci, fs))) (hv : fs[kf]? = some v)
    (k : nq_J G d kc ks y pc' lv (v :: st) σ Q) : nq_J G d kc ks y pc lv (.ref a :: st) σ Q := by
  subst hp
  intro l p e R s m args below meth c A n0 ad0 mc ms F ad H locs cells slots ls Z hst hc hs
  obtain ⟨C, T, N, ty0, l1, l2, l3, l4, l5, l6, l7, l8, l9⟩ := hlk
  have hok : nq_okv σ.length v := nq_oks_at (Z.2.2.2.2.2.1 a _ hσ) hv
  have hv' : (fs.map (nq_cv ad))[kf]? = some (nq_cv ad v) := by rw [List.getElem?_map, hv]; rfl
  have kk := k F (e := e) (below := below) Z (hst.tl.cons hok) hc hs
  rcases l4 with l4 | ⟨host, l4⟩
  · exact va_get (C := C) (T := T) (N := N) F.1.2.1 F.1.2.2.1 F.1.2.2.2.2.2.2 (fun w hw => List.mem_cons_of_mem _ (l3 w hw)) F.1.2.2.2.2.2.1 F.2.2.2.1 Z.2.2.1 a (nq_ws_at hσ) l1 kf l2 (F.1.2.2.2.2.2.2 _ (List.mem_cons_of_mem _ l4)) (fun x h => h) hv' hd kk
  · exact va_getN (C := C) (T := T) (N := N) F.1.2.1 F.1.2.2.1 F.1.2.2.2.2.2.2 (fun w hw => List.mem_cons_of_mem _ (l3 w hw)) F.1.2.2.2.2.2.1 F.2.2.2.1 Z.2.2.1 a (nq_ws_at hσ) l1 kf l2 (va_Nw.use rfl (F.2.2.2.2.2.1 _ l4)) (fun x h => h) hv' hd kk
theorem nq_putf {ix a ci kf : Nat} {ty : FieldType} {fs : List Value} {v : Value} (hd : decode y.2.1 pc = .ok (.putfield ix, 3)) (hp : pc + 3 = pc') (hlk : nq_Fl y.1.cls ix ci kf ty false) (hσ : σ[a]? = some (.inr (ci, fs))) (hl : kf < fs.length) (hn : narrow ty v = v) (hf : fits ty v = true)
    (k : nq_J G d kc ks y pc' lv st (σ.set a (.inr (ci, fs.set kf v))) Q) : nq_J G d kc ks y pc lv (v :: .ref a :: st) σ Q := by
  subst hp
  intro l p e R s m args below meth c A n0 ad0 mc ms F ad H locs cells slots ls Z hst hc hs
  obtain ⟨C, T, N, ty0, l1, l2, l3, l4, l5, l6, l7, l8, l9⟩ := hlk
  have hoe : nq_oke σ.length (.inr (ci, fs.set kf v)) := nq_oks_set (Z.2.2.2.2.2.1 a _ hσ) hst.hd
  have hfs : ((fs.set kf v).map (nq_cv ad)) = (fs.map (nq_cv ad)).set kf (nq_cv ad v) := List.map_set
  have kk : ∀ (H1 : Heap) (locs1 : List Loc), va_P G.1 nq_cl ((nq_ws ad G.2.1 σ).set a (ad a, .inr (ci, (fs.map (nq_cv ad)).set kf (nq_cv ad v)))) H1 → va_D A ((nq_ws ad G.2.1 σ).set a (ad a, .inr (ci, (fs.map (nq_cv ad)).set kf (nq_cv ad v)))) → va_S A s.heap H1 locs1 →
      W p l e R s m args below meth c H1 locs1 cells slots (nq_MQ G A n0 ad0 Q below s mc ms) (F0 m (pc + 3) ls (st.map (nq_cv ad))) := by
    intro H1 locs1 hP1 hD1 hS1
    have e9 : nq_ws ad G.2.1 (σ.set a (.inr (ci, fs.set kf v))) = (nq_ws ad G.2.1 σ).set a (ad a, .inr (ci, (fs.map (nq_cv ad)).set kf (nq_cv ad v))) := by rw [nq_ws_set]; simp only [nq_ce, hfs]
    refine k F ⟨by rw [List.length_set]; exact Z.1, Z.2.1, by rw [e9]; exact hP1, by rw [e9]; exact hD1, hS1, Z.2.2.2.2.2.1.set hoe, by rw [List.length_set]; exact Z.2.2.2.2.2.2⟩ (by rw [List.length_set]; exact hst.tl.tl) hc hs
  rcases l4 with l4 | ⟨host, l4⟩
  · exact va_put (C := C) (T := T) (N := N) (ty := ty) F.1.2.1 F.1.2.2.1 F.1.2.2.2.2.2.2 (fun w hw => List.mem_cons_of_mem _ (l3 w hw)) ty0 l5 l7 F.1.2.2.2.2.2.1 F.2.2.2.1 Z.2.2.1 Z.2.2.2.1 Z.2.2.2.2.1 a (nq_ws_at hσ) l1 kf l2 (F.1.2.2.2.2.2.2 _ (List.mem_cons_of_mem _ l4)) (fun x h => h) l8 (by rw [l5 kf l2, l6]) (nq_narrow_cv hn) (nq_fits_cv hf) (by rw [List.length_map]; exact hl) hd kk
  · exact va_putN (C := C) (T := T) (N := N) (ty := ty) F.1.2.1 F.1.2.2.1 F.1.2.2.2.2.2.2 (fun w hw => List.mem_cons_of_mem _ (l3 w hw)) ty0 l5 l7 F.1.2.2.2.2.2.1 F.2.2.2.1 Z.2.2.1 Z.2.2.2.1 Z.2.2.2.2.1 a (nq_ws_at hσ) l1 kf l2 (va_Nw.use rfl (F.2.2.2.2.2.1 _ l4)) (fun x h => h) l8 (by rw [l5 kf l2, l6]) (nq_narrow_cv hn) (nq_fits_cv hf) (by rw [List.length_map]; exact hl) hd kk
theorem nq_putF {ix a ci kf : Nat} {ty : FieldType} {fs : List Value} {v : Value} (hd : decode y.2.1 pc = .ok (.putfield ix, 3)) (hp : pc + 3 = pc') (hlk : nq_FlO y.1.cls ix ci kf ty) (hin : y.1.name = "<init>") (hσ : σ[a]? = some (.inr (ci, fs))) (hl : kf < fs.length) (hn : narrow ty v = v) (hf : fits ty v = true)
    (k : nq_J G d kc ks y pc' lv st (σ.set a (.inr (ci, fs.set kf v))) Q) : nq_J G d kc ks y pc lv (v :: .ref a :: st) σ Q := by
  subst hp
  intro l p e R s m args below meth c A n0 ad0 mc ms F ad H locs cells slots ls Z hst hc hs
  obtain ⟨C, T, N, ty0, l1, l2, l3, l4, l5, l6, l7, l8, l9⟩ := hlk
  have hoe : nq_oke σ.length (.inr (ci, fs.set kf v)) := nq_oks_set (Z.2.2.2.2.2.1 a _ hσ) hst.hd
  have hfs : ((fs.set kf v).map (nq_cv ad)) = (fs.map (nq_cv ad)).set kf (nq_cv ad v) := List.map_set
  have kk : ∀ (H1 : Heap) (locs1 : List Loc), va_P G.1 nq_cl ((nq_ws ad G.2.1 σ).set a (ad a, .inr (ci, (fs.map (nq_cv ad)).set kf (nq_cv ad v)))) H1 → va_D A ((nq_ws ad G.2.1 σ).set a (ad a, .inr (ci, (fs.map (nq_cv ad)).set kf (nq_cv ad v)))) → va_S A s.heap H1 locs1 →
      W p l e R s m args below meth c H1 locs1 cells slots (nq_MQ G A n0 ad0 Q below s mc ms) (F0 m (pc + 3) ls (st.map (nq_cv ad))) := by
    intro H1 locs1 hP1 hD1 hS1
    have e9 : nq_ws ad G.2.1 (σ.set a (.inr (ci, fs.set kf v))) = (nq_ws ad G.2.1 σ).set a (ad a, .inr (ci, (fs.map (nq_cv ad)).set kf (nq_cv ad v))) := by rw [nq_ws_set]; simp only [nq_ce, hfs]
    refine k F ⟨by rw [List.length_set]; exact Z.1, Z.2.1, by rw [e9]; exact hP1, by rw [e9]; exact hD1, hS1, Z.2.2.2.2.2.1.set hoe, by rw [List.length_set]; exact Z.2.2.2.2.2.2⟩ (by rw [List.length_set]; exact hst.tl.tl) hc hs
  exact va_putF (C := C) (T := T) (N := N) (ty := ty) F.1.2.1 F.1.2.2.1 F.1.2.2.2.2.2.2 (fun w hw => List.mem_cons_of_mem _ (l3 w hw)) ty0 l5 l7 F.1.2.2.2.2.2.1 F.2.2.2.1 Z.2.2.1 Z.2.2.2.1 Z.2.2.2.2.1 a (nq_ws_at hσ) l1 kf l2 (F.1.2.2.2.2.2.2 _ (List.mem_cons_of_mem _ l4)) (fun x h => h) l8 (F.2.1.2.1.trans hin) l9 (by rw [l5 kf l2, l6]) (nq_narrow_cv hn) (nq_fits_cv hf) (by rw [List.length_map]; exact hl) hd kk
theorem nq_iald {a t n j : Nat} {i : Int32} {f : Nat → Int32} (hd : decode y.2.1 pc = .ok (.iaload, 1)) (hp : pc + 1 = pc') (hσ : σ[a]? = some (.inl (t, n, .inl f))) (ht : nq_tyl[t]? = some .int) (hi : i = nI j) (hj : j < n) (hn : n < 2 ^ 31)
    (k : nq_J G d kc ks y pc' lv (.int (f j) :: st) σ Q) : nq_J G d kc ks y pc lv (.int i :: .ref a :: st) σ Q := by
  subst hp
  intro l p e R s m args below meth c A n0 ad0 mc ms F ad H locs cells slots ls Z hst hc hs
  obtain ⟨h1, h2⟩ := nq_ix hi hj hn
  refine va_iald (f := f) F.1.2.1 F.1.2.2.1 F.2.2.2.1 Z.2.2.1 a t (nq_ws_at hσ) (nq_tys_at ht) h1 hd ?_
  rw [h2]
  exact k F Z hst.tl.tl.i hc hs
theorem nq_zald {a t n j : Nat} {i : Int32} {f : Nat → Int32} (hd : decode y.2.1 pc = .ok (.baload, 1)) (hp : pc + 1 = pc') (hσ : σ[a]? = some (.inl (t, n, .inl f))) (ht : nq_tyl[t]? = some .boolean) (hi : i = nI j) (hj : j < n) (hn : n < 2 ^ 31)
    (k : nq_J G d kc ks y pc' lv (.int (f j) :: st) σ Q) : nq_J G d kc ks y pc lv (.int i :: .ref a :: st) σ Q := by
  subst hp
  intro l p e R s m args below meth c A n0 ad0 mc ms F ad H locs cells slots ls Z hst hc hs
  obtain ⟨h1, h2⟩ := nq_ix hi hj hn
  refine va_zald (f := f) F.1.2.1 F.1.2.2.1 F.2.2.2.1 Z.2.2.1 a t (nq_ws_at hσ) (nq_tys_at ht) h1 hd ?_
  rw [h2]
  exact k F Z hst.tl.tl.i hc hs
theorem nq_cald {a t n j : Nat} {i : Int32} {f : Nat → Int32} (hd : decode y.2.1 pc = .ok (.caload, 1)) (hp : pc + 1 = pc') (hσ : σ[a]? = some (.inl (t, n, .inl f))) (ht : nq_tyl[t]? = some .char) (hi : i = nI j) (hj : j < n) (hn : n < 2 ^ 31)
    (k : nq_J G d kc ks y pc' lv (.int (f j) :: st) σ Q) : nq_J G d kc ks y pc lv (.int i :: .ref a :: st) σ Q := by
  subst hp
  intro l p e R s m args below meth c A n0 ad0 mc ms F ad H locs cells slots ls Z hst hc hs
  obtain ⟨h1, h2⟩ := nq_ix hi hj hn
  refine va_cald (f := f) F.1.2.1 F.1.2.2.1 F.2.2.2.1 Z.2.2.1 a t (nq_ws_at hσ) (nq_tys_at ht) h1 hd ?_
  rw [h2]
  exact k F Z hst.tl.tl.i hc hs
theorem nq_lald {a t n j : Nat} {i : Int32} {f : Nat → Int64} (hd : decode y.2.1 pc = .ok (.laload, 1)) (hp : pc + 1 = pc') (hσ : σ[a]? = some (.inl (t, n, .inr (.inl f)))) (ht : nq_tyl[t]? = some .long) (hi : i = nI j) (hj : j < n) (hn : n < 2 ^ 31)
    (k : nq_J G d kc ks y pc' lv (.long (f j) :: st) σ Q) : nq_J G d kc ks y pc lv (.int i :: .ref a :: st) σ Q := by
  subst hp
  intro l p e R s m args below meth c A n0 ad0 mc ms F ad H locs cells slots ls Z hst hc hs
  obtain ⟨h1, h2⟩ := nq_ix hi hj hn
  refine va_lald (f := f) F.1.2.1 F.1.2.2.1 F.2.2.2.1 Z.2.2.1 a t (nq_ws_at hσ) (nq_tys_at ht) h1 hd ?_
  rw [h2]
  exact k F Z hst.tl.tl.l hc hs
theorem nq_iast {a t n j : Nat} {i : Int32} {x : Int32} {f : Nat → Int32} (hd : decode y.2.1 pc = .ok (.iastore, 1)) (hp : pc + 1 = pc') (hσ : σ[a]? = some (.inl (t, n, .inl (f)))) (ht : nq_tyl[t]? = some .int) (hi : i = nI j) (hj : j < n) (hn : n < 2 ^ 31)
    (k : nq_J G d kc ks y pc' lv st (σ.set a (.inl (t, n, .inl (upd f j x)))) Q) : nq_J G d kc ks y pc lv (.int x :: .int i :: .ref a :: st) σ Q := by
  subst hp
  intro l p e R s m args below meth c A n0 ad0 mc ms F ad H locs cells slots ls Z hst hc hs
  obtain ⟨h1, h2⟩ := nq_ix hi hj hn
  refine va_iast (f := f) F.1.2.1 F.1.2.2.1 F.2.2.2.1 Z.2.2.1 Z.2.2.2.1 Z.2.2.2.2.1 a t (nq_ws_at hσ) (nq_tys_at ht) h1 hd (fun H1 locs1 hP1 hD1 hS1 => ?_)
  rw [h2] at hP1 hD1
  exact k F (nq_Z_set (e := (.inl (t, n, .inl (upd f j x)))) Z (fun g hg => by cases hg) hP1 hD1 hS1) (by rw [List.length_set]; exact hst.tl.tl.tl) hc hs
theorem nq_zast {a t n j : Nat} {i : Int32} {x : Int32} {f : Nat → Int32} (hd : decode y.2.1 pc = .ok (.bastore, 1)) (hp : pc + 1 = pc') (hσ : σ[a]? = some (.inl (t, n, .inl (f)))) (ht : nq_tyl[t]? = some .boolean) (hi : i = nI j) (hj : j < n) (hn : n < 2 ^ 31)
    (k : nq_J G d kc ks y pc' lv st (σ.set a (.inl (t, n, .inl (upd f j (vp_nar .boolean x))))) Q) : nq_J G d kc ks y pc lv (.int x :: .int i :: .ref a :: st) σ Q := by
  subst hp
  intro l p e R s m args below meth c A n0 ad0 mc ms F ad H locs cells slots ls Z hst hc hs
  obtain ⟨h1, h2⟩ := nq_ix hi hj hn
  refine va_zast (f := f) F.1.2.1 F.1.2.2.1 F.2.2.2.1 Z.2.2.1 Z.2.2.2.1 Z.2.2.2.2.1 a t (nq_ws_at hσ) (nq_tys_at ht) h1 hd (fun H1 locs1 hP1 hD1 hS1 => ?_)
  rw [h2] at hP1 hD1
  exact k F (nq_Z_set (e := (.inl (t, n, .inl (upd f j (vp_nar .boolean x))))) Z (fun g hg => by cases hg) hP1 hD1 hS1) (by rw [List.length_set]; exact hst.tl.tl.tl) hc hs
theorem nq_cast {a t n j : Nat} {i : Int32} {x : Int32} {f : Nat → Int32} (hd : decode y.2.1 pc = .ok (.castore, 1)) (hp : pc + 1 = pc') (hσ : σ[a]? = some (.inl (t, n, .inl (f)))) (ht : nq_tyl[t]? = some .char) (hi : i = nI j) (hj : j < n) (hn : n < 2 ^ 31)
    (k : nq_J G d kc ks y pc' lv st (σ.set a (.inl (t, n, .inl (upd f j (vp_nar .char x))))) Q) : nq_J G d kc ks y pc lv (.int x :: .int i :: .ref a :: st) σ Q := by
  subst hp
  intro l p e R s m args below meth c A n0 ad0 mc ms F ad H locs cells slots ls Z hst hc hs
  obtain ⟨h1, h2⟩ := nq_ix hi hj hn
  refine va_cast (f := f) F.1.2.1 F.1.2.2.1 F.2.2.2.1 Z.2.2.1 Z.2.2.2.1 Z.2.2.2.2.1 a t (nq_ws_at hσ) (nq_tys_at ht) h1 hd (fun H1 locs1 hP1 hD1 hS1 => ?_)
  rw [h2] at hP1 hD1
  exact k F (nq_Z_set (e := (.inl (t, n, .inl (upd f j (vp_nar .char x))))) Z (fun g hg => by cases hg) hP1 hD1 hS1) (by rw [List.length_set]; exact hst.tl.tl.tl) hc hs
theorem nq_last {a t n j : Nat} {i : Int32} {x : Int64} {f : Nat → Int64} (hd : decode y.2.1 pc = .ok (.lastore, 1)) (hp : pc + 1 = pc') (hσ : σ[a]? = some (.inl (t, n, .inr (.inl (f))))) (ht : nq_tyl[t]? = some .long) (hi : i = nI j) (hj : j < n) (hn : n < 2 ^ 31)
    (k : nq_J G d kc ks y pc' lv st (σ.set a (.inl (t, n, .inr (.inl (vp_updL f j x))))) Q) : nq_J G d kc ks y pc lv (.long x :: .int i :: .ref a :: st) σ Q := by
  subst hp
  intro l p e R s m args below meth c A n0 ad0 mc ms F ad H locs cells slots ls Z hst hc hs
  obtain ⟨h1, h2⟩ := nq_ix hi hj hn
  refine va_last (f := f) F.1.2.1 F.1.2.2.1 F.2.2.2.1 Z.2.2.1 Z.2.2.2.1 Z.2.2.2.2.1 a t (nq_ws_at hσ) (nq_tys_at ht) h1 hd (fun H1 locs1 hP1 hD1 hS1 => ?_)
  rw [h2] at hP1 hD1
  exact k F (nq_Z_set (e := (.inl (t, n, .inr (.inl (vp_updL f j x))))) Z (fun g hg => by cases hg) hP1 hD1 hS1) (by rw [List.length_set]; exact hst.tl.tl.tl) hc hs
/-- a reference out of an array, or null -/
def nq_rf (r : Option Nat) : Value := match r with
  | none => .null
  | some a => .ref a
theorem nq_aald {a t n j : Nat} {i : Int32} {C : String} {f : Nat → Option Nat} (hd : decode y.2.1 pc = .ok (.aaload, 1)) (hp : pc + 1 = pc') (hσ : σ[a]? = some (.inl (t, n, .inr (.inr f)))) (ht : nq_tyl[t]? = some (.object C)) (hi : i = nI j) (hj : j < n) (hn : n < 2 ^ 31)
    (k : nq_J G d kc ks y pc' lv (nq_rf (f j) :: st) σ Q) : nq_J G d kc ks y pc lv (.int i :: .ref a :: st) σ Q := by
  subst hp
  intro l p e R s m args below meth c A n0 ad0 mc ms F ad H locs cells slots ls Z hst hc hs
  obtain ⟨h1, h2⟩ := nq_ix hi hj hn
  refine va_aldq (f := fun j => (f j).map ad) F.1.2.1 F.1.2.2.1 F.2.2.2.1 Z.2.2.1 a t (nq_ws_at hσ) (nq_tys_at ht) h1 hd ?_
  rw [h2]
  have e9 : va_rf ((f j).map ad) = nq_cv ad (nq_rf (f j)) := by cases f j <;> rfl
  have h9 : nq_okv σ.length (nq_rf (f j)) := fun q hq => by
    cases hf : f j with
    | none => rw [hf] at hq; cases hq
    | some z => rw [hf] at hq; cases hq; exact Z.2.2.2.2.2.1 a _ hσ f rfl j _ hf
  rw [e9]
  exact k F Z (hst.tl.tl.cons h9) hc hs
theorem nq_aast {a t n j ci v : Nat} {i : Int32} {r : vw_C} {vs : List Value} {f : Nat → Option Nat} (hd : decode y.2.1 pc = .ok (.aastore, 1)) (hp : pc + 1 = pc') (hσ : σ[a]? = some (.inl (t, n, .inr (.inr f)))) (hc9 : nq_cl[ci]? = some r) (ht : nq_tyl[t]? = some (.object r.1)) (hv : σ[v]? = some (.inr (ci, vs))) (hi : i = nI j) (hj : j < n) (hn : n < 2 ^ 31)
    (k : nq_J G d kc ks y pc' lv st (σ.set a (.inl (t, n, .inr (.inr (va_up f j (some v)))))) Q) : nq_J G d kc ks y pc lv (.ref v :: .int i :: .ref a :: st) σ Q := by
  subst hp
  intro l p e R s m args below meth c A n0 ad0 mc ms F ad H locs cells slots ls Z hst hc hs
  obtain ⟨h1, h2⟩ := nq_ix hi hj hn
  refine va_astq (f := fun j => (f j).map ad) F.1.2.1 F.1.2.2.1 F.2.2.2.1 Z.2.2.1 Z.2.2.2.1 Z.2.2.2.2.1 a t v ci (nq_ws_at hσ) (nq_tys_at ht) (nq_ws_at hv) hc9 h1 hd (fun H1 locs1 hP1 hD1 hS1 => ?_)
  rw [h2] at hP1 hD1
  have e9 : va_up (fun j => (f j).map ad) j (some (ad v)) = fun q => (va_up f j (some v) q).map ad := by
    funext q
    by_cases hq : q = j
    · simp [va_up, hq]
    · simp [va_up, hq]
  rw [e9] at hP1 hD1
  have hvl : v < σ.length := (List.getElem?_eq_some_iff.mp hv).1
  exact k F (nq_Z_set (e := (.inl (t, n, .inr (.inr (va_up f j (some v)))))) Z (fun g hg j' z hz => by
    cases hg
    by_cases hq : j' = j
    · simp [va_up, hq] at hz
      exact Or.inl (hz ▸ hvl)
    · simp [va_up, hq] at hz
      exact Z.2.2.2.2.2.1 a _ hσ f rfl j' z hz) hP1 hD1 hS1) (by rw [List.length_set]; exact hst.tl.tl.tl) hc hs
theorem nq_alen {a t n : Nat} {ty : FieldType} {f : nq_A} (hd : decode y.2.1 pc = .ok (.arraylength, 1)) (hp : pc + 1 = pc') (hσ : σ[a]? = some (.inl (t, n, f))) (ht : nq_tyl[t]? = some ty)
    (k : nq_J G d kc ks y pc' lv (.int (nI n) :: st) σ Q) : nq_J G d kc ks y pc lv (.ref a :: st) σ Q := by
  subst hp
  intro l p e R s m args below meth c A n0 ad0 mc ms F ad H locs cells slots ls Z hst hc hs
  exact va_alen F.1.2.1 F.1.2.2.1 F.2.2.2.1 Z.2.2.1 a t (nq_ws_at hσ) (nq_tys_at ht) rfl hd (k F Z hst.tl.i hc hs)
/-- a class that is made: its number, its fields as they are born -/
def nq_Nl (own : String) (ix ci : Nat) (fs : List Value) : Prop := ∃ (C : String) (T : u_T) (ty0 : Nat → FieldType), nq_cl[ci]? = some (C, T, fs.length) ∧ Cond.classLink own ix C ∈ nq_T ∧ Cond.instantiable C fs.length ∈ nq_T ∧ Cond.initialized C ∈ nq_T ∧ (∀ w ∈ u_ws C T fs.length, w ∈ nq_T) ∧
  (∀ j, j < fs.length → parseFieldDescriptor (T j).2.2.1 = some (ty0 j)) ∧ (∀ j, j < fs.length → defaultValue (ty0 j) = vp_V fs j) ∧ ∀ v ∈ fs, ∀ k, v ≠ .ref k
/-- the address of a new cell -/
def nq_adn (ad : Nat → Nat) (n q : Nat) : Nat → Nat := fun j => if j = n then q else ad j
theorem nq_adn_ag {ad : Nat → Nat} {n q : Nat} (h : n < 1000000) : nq_ag n ad (nq_adn ad n q) := fun k hk => by
  have : ¬ k = n := by omega
  simp [nq_adn, this]
theorem nq_adn_at {ad : Nat → Nat} {n q : Nat} : nq_adn ad n q n = q := by simp [nq_adn]
theorem nq_Z_push {s : State} {A : Nat → Prop} {nL n0 : Nat} {ad0 ad : Nat → Nat} {H H1 : Heap} {locs : List Loc} {ls : Array Slot} {q : Nat} {e : nq_C} {e' : va_E} (Z : nq_Z G s A nL n0 ad0 ad σ lv H locs ls) (hn : σ.length < 1000000) (he : nq_oke (σ.length + 1) e) (hee : ∀ ad', nq_ce ad' G.2.1 e = e')
    (hP1 : va_P G.1 nq_cl (nq_ws ad G.2.1 σ ++ [(q, e')]) H1) (hD1 : va_D A (nq_ws ad G.2.1 σ ++ [(q, e')])) (hS1 : va_S A s.heap H1 locs) : nq_Z G s A nL n0 ad0 (nq_adn ad σ.length q) (σ ++ [e]) lv H1 locs ls := by
  have hag : nq_ag σ.length ad (nq_adn ad σ.length q) := nq_adn_ag hn
  have e9 : nq_ws (nq_adn ad σ.length q) G.2.1 (σ ++ [e]) = nq_ws ad G.2.1 σ ++ [(q, e')] := by rw [nq_ws_push hag Z.2.2.2.2.2.1, nq_adn_at, hee]
  exact ⟨by rw [List.length_append]; exact Nat.le_trans Z.1 (Nat.le_add_right _ _), Z.2.1.tr hag Z.1, by rw [e9]; exact hP1, by rw [e9]; exact hD1, hS1, Z.2.2.2.2.2.1.push he, by rw [List.length_append]; exact Z.2.2.2.2.2.2.le (Nat.le_add_right _ _) hag⟩
theorem nq_new {ix ci : Nat} {fs : List Value} (hd : decode y.2.1 pc = .ok (.new ix, 3)) (hp : pc + 3 = pc') (hlk : nq_Nl y.1.cls ix ci fs) (hn : σ.length < 1000000)
    (k : nq_J G d kc ks y pc' lv (.ref σ.length :: st) (σ ++ [.inr (ci, fs)]) Q) : nq_J G d (kc + 1) (ks + fs.length) y pc lv st σ Q := by
  subst hp
  intro l p e R s m args below meth c A n0 ad0 mc ms F ad H locs cells slots ls Z hst hc hs
  obtain ⟨C, T, ty0, l1, l2, l3, l4, l5, l6, l7, l8⟩ := hlk
  have hm : ∀ {w}, w ∈ nq_T → w.before args s = true := fun h => F.1.2.2.2.2.2.2 _ (List.mem_cons_of_mem _ h)
  refine va_new (C := C) (T := T) (N := fs.length) (fs := fs) F.1.2.1 F.1.2.2.1 F.1.2.2.2.2.2.2 (fun w hw => List.mem_cons_of_mem _ (l5 w hw)) ty0 l6 F.1.2.2.2.2.2.1 (hm l2) (hm l3) (hm l4) F.2.2.2.1 Z.2.2.1 Z.2.2.2.1 Z.2.2.2.2.1 F.2.2.2.2.1 l1 l7
    (by rw [F.2.2.1.2.2.1]; omega) (by rw [F.2.2.1.2.2.2]; omega) hd (fun q H1 hP1 hD1 hS1 => ?_)
  have hfs : ∀ ad', fs.map (nq_cv ad') = fs := fun ad' => by
    conv => rhs; rw [← List.map_id fs]
    exact List.map_congr_left fun v hv => by
      have := l8 v hv
      cases v <;> first | rfl | exact absurd rfl (this _)
  have hag : nq_ag σ.length ad (nq_adn ad σ.length q) := nq_adn_ag hn
  have e9 : (Value.ref σ.length :: st).map (nq_cv (nq_adn ad σ.length q)) = .ref q :: st.map (nq_cv ad) := by
    rw [List.map_cons, nq_map_ag hag hst]
    simp [nq_cv, nq_adn]
  rw [← e9]
  exact k F (nq_Z_push (e := .inr (ci, fs)) (e' := .inr (ci, fs)) Z hn (fun v hv k hk => absurd hk (l8 v hv k)) (fun ad' => by simp only [nq_ce, hfs]) hP1 hD1 hS1)
    ((hst.le (by simp)).cons (fun q hq => by cases hq; left; simp)) (by omega) (by omega)
theorem nq_RA {U : State} {c1 c2 : ClassId} {ty : FieldType} (h1 : va_RA U c1 ty) (h2 : va_RA U c2 ty) : c1 = c2 := by
  cases ty with
  | object C =>
    obtain ⟨kA, comp, h3, h4, h5, h6⟩ := h1
    obtain ⟨kA', comp', h3', h4', h5', h6'⟩ := h2
    exact Option.some.inj (h6.symm.trans h6')
  | _ => exact Option.some.inj (h1.symm.trans h2)
theorem nq_tyc {D : va_G} {cl : List vw_C} {tc : Nat → ClassId} {s : State} {cA : ClassId} {ty : FieldType} {t : Nat} (hK : va_K D cl (nq_tys tc ++ [(cA, ty)]) s) (ht : nq_tyl[t]? = some ty) : cA = tc t := by
  have h1 := hK.2 (nq_tys tc).length (cA, ty) (by simp)
  have hl := (List.getElem?_eq_some_iff.mp (nq_tys_at (tc := tc) ht)).1
  have h2 := hK.2 t (tc t, ty) (by rw [List.getElem?_append_left hl]; exact nq_tys_at ht)
  exact nq_RA h1.2 h2.2
theorem nq_newa_int {t n : Nat} {i : Int32} {at9 : ArrayType} (hd : decode y.2.1 pc = .ok (.newarray at9, 2)) (hp : pc + 2 = pc') (hat : newarray.typeOf at9 = .int) (hw : Cond.arrayClass .int ∈ nq_T) (ht : nq_tyl[t]? = some .int) (hi : i = nI n) (hb : n < 100000) (hn : σ.length < 1000000)
    (k : nq_J G d kc ks y pc' lv (.ref σ.length :: st) (σ ++ [.inl (t, n, .inl (fun _ => 0))]) Q) : nq_J G d (kc + 1) (ks + n) y pc lv (.int i :: st) σ Q := by
  subst hp
  intro l p e R s m args below meth c A n0 ad0 mc ms F ad H locs cells slots ls Z hst hc hs
  have hm : ∀ {w}, w ∈ nq_T → w.before args s = true := fun h => F.1.2.2.2.2.2.2 _ (List.mem_cons_of_mem _ h)
  have hneg : ¬ i < 0 := by rw [hi]; exact nI_pos (by omega)
  have hcl : i.toNatClampNeg = n := by rw [hi]; exact nI_clamp (by omega)
  refine va_newa (a0 := (n, nq_arr ad (.inl (fun _ => 0)))) (ty := .int) F.1.2.1 F.1.2.2.1 (by rw [hat]; exact hm hw) hat F.2.2.2.1 Z.2.2.1 Z.2.2.2.1 Z.2.2.2.2.1 F.2.2.2.2.1 (fun cA => rfl) hneg hcl (by simp only [componentBytes]; omega) (by rw [F.2.2.1.2.2.1]; omega) (by rw [F.2.2.1.2.2.2]; omega) hd (fun q cA H1 hK1 hP1 hD1 hS1 => ?_)
  have hcA := nq_tyc hK1 ht
  subst hcA
  have hag : nq_ag σ.length ad (nq_adn ad σ.length q) := nq_adn_ag hn
  have e9 : (Value.ref σ.length :: st).map (nq_cv (nq_adn ad σ.length q)) = .ref q :: st.map (nq_cv ad) := by
    rw [List.map_cons, nq_map_ag hag hst.tl]
    simp [nq_cv, nq_adn]
  rw [← e9]
  exact k F (nq_Z_push (e := .inl (t, n, .inl (fun _ => 0))) (e' := .inl (G.2.1 t, n, nq_arr ad (.inl (fun _ => 0)))) Z hn (fun g hg => by cases hg) (fun ad' => rfl) hP1 hD1 hS1)
    ((hst.tl.le (by simp)).cons (fun q hq => by cases hq; left; simp)) (by omega) (by omega)
theorem nq_newa_bool {t n : Nat} {i : Int32} {at9 : ArrayType} (hd : decode y.2.1 pc = .ok (.newarray at9, 2)) (hp : pc + 2 = pc') (hat : newarray.typeOf at9 = .boolean) (hw : Cond.arrayClass .boolean ∈ nq_T) (ht : nq_tyl[t]? = some .boolean) (hi : i = nI n) (hb : n < 100000) (hn : σ.length < 1000000)
    (k : nq_J G d kc ks y pc' lv (.ref σ.length :: st) (σ ++ [.inl (t, n, .inl (fun _ => 0))]) Q) : nq_J G d (kc + 1) (ks + n) y pc lv (.int i :: st) σ Q := by
  subst hp
  intro l p e R s m args below meth c A n0 ad0 mc ms F ad H locs cells slots ls Z hst hc hs
  have hm : ∀ {w}, w ∈ nq_T → w.before args s = true := fun h => F.1.2.2.2.2.2.2 _ (List.mem_cons_of_mem _ h)
  have hneg : ¬ i < 0 := by rw [hi]; exact nI_pos (by omega)
  have hcl : i.toNatClampNeg = n := by rw [hi]; exact nI_clamp (by omega)
  refine va_newa (a0 := (n, nq_arr ad (.inl (fun _ => 0)))) (ty := .boolean) F.1.2.1 F.1.2.2.1 (by rw [hat]; exact hm hw) hat F.2.2.2.1 Z.2.2.1 Z.2.2.2.1 Z.2.2.2.2.1 F.2.2.2.2.1 (fun cA => rfl) hneg hcl (by simp only [componentBytes]; omega) (by rw [F.2.2.1.2.2.1]; omega) (by rw [F.2.2.1.2.2.2]; omega) hd (fun q cA H1 hK1 hP1 hD1 hS1 => ?_)
  have hcA := nq_tyc hK1 ht
  subst hcA
  have hag : nq_ag σ.length ad (nq_adn ad σ.length q) := nq_adn_ag hn
  have e9 : (Value.ref σ.length :: st).map (nq_cv (nq_adn ad σ.length q)) = .ref q :: st.map (nq_cv ad) := by
    rw [List.map_cons, nq_map_ag hag hst.tl]
    simp [nq_cv, nq_adn]
  rw [← e9]
  exact k F (nq_Z_push (e := .inl (t, n, .inl (fun _ => 0))) (e' := .inl (G.2.1 t, n, nq_arr ad (.inl (fun _ => 0)))) Z hn (fun g hg => by cases hg) (fun ad' => rfl) hP1 hD1 hS1)
    ((hst.tl.le (by simp)).cons (fun q hq => by cases hq; left; simp)) (by omega) (by omega)
theorem nq_newa_char {t n : Nat} {i : Int32} {at9 : ArrayType} (hd : decode y.2.1 pc = .ok (.newarray at9, 2)) (hp : pc + 2 = pc') (hat : newarray.typeOf at9 = .char) (hw : Cond.arrayClass .char ∈ nq_T) (ht : nq_tyl[t]? = some .char) (hi : i = nI n) (hb : n < 100000) (hn : σ.length < 1000000)
    (k : nq_J G d kc ks y pc' lv (.ref σ.length :: st) (σ ++ [.inl (t, n, .inl (fun _ => 0))]) Q) : nq_J G d (kc + 1) (ks + n) y pc lv (.int i :: st) σ Q := by
  subst hp
  intro l p e R s m args below meth c A n0 ad0 mc ms F ad H locs cells slots ls Z hst hc hs
  have hm : ∀ {w}, w ∈ nq_T → w.before args s = true := fun h => F.1.2.2.2.2.2.2 _ (List.mem_cons_of_mem _ h)
  have hneg : ¬ i < 0 := by rw [hi]; exact nI_pos (by omega)
  have hcl : i.toNatClampNeg = n := by rw [hi]; exact nI_clamp (by omega)
  refine va_newa (a0 := (n, nq_arr ad (.inl (fun _ => 0)))) (ty := .char) F.1.2.1 F.1.2.2.1 (by rw [hat]; exact hm hw) hat F.2.2.2.1 Z.2.2.1 Z.2.2.2.1 Z.2.2.2.2.1 F.2.2.2.2.1 (fun cA => rfl) hneg hcl (by simp only [componentBytes]; omega) (by rw [F.2.2.1.2.2.1]; omega) (by rw [F.2.2.1.2.2.2]; omega) hd (fun q cA H1 hK1 hP1 hD1 hS1 => ?_)
  have hcA := nq_tyc hK1 ht
  subst hcA
  have hag : nq_ag σ.length ad (nq_adn ad σ.length q) := nq_adn_ag hn
  have e9 : (Value.ref σ.length :: st).map (nq_cv (nq_adn ad σ.length q)) = .ref q :: st.map (nq_cv ad) := by
    rw [List.map_cons, nq_map_ag hag hst.tl]
    simp [nq_cv, nq_adn]
  rw [← e9]
  exact k F (nq_Z_push (e := .inl (t, n, .inl (fun _ => 0))) (e' := .inl (G.2.1 t, n, nq_arr ad (.inl (fun _ => 0)))) Z hn (fun g hg => by cases hg) (fun ad' => rfl) hP1 hD1 hS1)
    ((hst.tl.le (by simp)).cons (fun q hq => by cases hq; left; simp)) (by omega) (by omega)
theorem nq_newa_long {t n : Nat} {i : Int32} {at9 : ArrayType} (hd : decode y.2.1 pc = .ok (.newarray at9, 2)) (hp : pc + 2 = pc') (hat : newarray.typeOf at9 = .long) (hw : Cond.arrayClass .long ∈ nq_T) (ht : nq_tyl[t]? = some .long) (hi : i = nI n) (hb : n < 100000) (hn : σ.length < 1000000)
    (k : nq_J G d kc ks y pc' lv (.ref σ.length :: st) (σ ++ [.inl (t, n, .inr (.inl (fun _ => 0)))]) Q) : nq_J G d (kc + 1) (ks + n) y pc lv (.int i :: st) σ Q := by
  subst hp
  intro l p e R s m args below meth c A n0 ad0 mc ms F ad H locs cells slots ls Z hst hc hs
  have hm : ∀ {w}, w ∈ nq_T → w.before args s = true := fun h => F.1.2.2.2.2.2.2 _ (List.mem_cons_of_mem _ h)
  have hneg : ¬ i < 0 := by rw [hi]; exact nI_pos (by omega)
  have hcl : i.toNatClampNeg = n := by rw [hi]; exact nI_clamp (by omega)
  refine va_newa (a0 := (n, nq_arr ad (.inr (.inl (fun _ => 0))))) (ty := .long) F.1.2.1 F.1.2.2.1 (by rw [hat]; exact hm hw) hat F.2.2.2.1 Z.2.2.1 Z.2.2.2.1 Z.2.2.2.2.1 F.2.2.2.2.1 (fun cA => rfl) hneg hcl (by simp only [componentBytes]; omega) (by rw [F.2.2.1.2.2.1]; omega) (by rw [F.2.2.1.2.2.2]; omega) hd (fun q cA H1 hK1 hP1 hD1 hS1 => ?_)
  have hcA := nq_tyc hK1 ht
  subst hcA
  have hag : nq_ag σ.length ad (nq_adn ad σ.length q) := nq_adn_ag hn
  have e9 : (Value.ref σ.length :: st).map (nq_cv (nq_adn ad σ.length q)) = .ref q :: st.map (nq_cv ad) := by
    rw [List.map_cons, nq_map_ag hag hst.tl]
    simp [nq_cv, nq_adn]
  rw [← e9]
  exact k F (nq_Z_push (e := .inl (t, n, .inr (.inl (fun _ => 0)))) (e' := .inl (G.2.1 t, n, nq_arr ad (.inr (.inl (fun _ => 0))))) Z hn (fun g hg => by cases hg) (fun ad' => rfl) hP1 hD1 hS1)
    ((hst.tl.le (by simp)).cons (fun q hq => by cases hq; left; simp)) (by omega) (by omega)
theorem nq_newq {t n ix : Nat} {i : Int32} {C : String} (hd : decode y.2.1 pc = .ok (.anewarray ix, 3)) (hp : pc + 3 = pc') (hw : Cond.classLink y.1.cls ix C ∈ nq_T) (hw2 : C ∈ nq_O) (ht : nq_tyl[t]? = some (.object C)) (hi : i = nI n) (hb : n < 100000) (hn : σ.length < 1000000)
    (k : nq_J G d kc ks y pc' lv (.ref σ.length :: st) (σ ++ [.inl (t, n, .inr (.inr (fun _ => none)))]) Q) : nq_J G d (kc + 1) (ks + n) y pc lv (.int i :: st) σ Q := by
  subst hp
  intro l p e R s m args below meth c A n0 ad0 mc ms F ad H locs cells slots ls Z hst hc hs
  have hm : ∀ {w}, w ∈ nq_T → w.before args s = true := fun h => F.1.2.2.2.2.2.2 _ (List.mem_cons_of_mem _ h)
  have hneg : ¬ i < 0 := by rw [hi]; exact nI_pos (by omega)
  have hcl : i.toNatClampNeg = n := by rw [hi]; exact nI_clamp (by omega)
  refine va_newq F.1.2.1 F.1.2.2.1 F.1.2.2.2.2.2.1 (hm hw) (F.2.2.2.2.2.2.2.2.2.2.2.2.2.2 C hw2) F.2.2.2.1 Z.2.2.1 Z.2.2.2.1 Z.2.2.2.2.1 F.2.2.2.2.1 hneg hcl (by omega) (by rw [F.2.2.1.2.2.1]; omega) (by rw [F.2.2.1.2.2.2]; omega) hd (fun q cA H1 hK1 hP1 hD1 hS1 => ?_)
  have hcA := nq_tyc hK1 ht
  subst hcA
  have hag : nq_ag σ.length ad (nq_adn ad σ.length q) := nq_adn_ag hn
  have e9 : (Value.ref σ.length :: st).map (nq_cv (nq_adn ad σ.length q)) = .ref q :: st.map (nq_cv ad) := by
    rw [List.map_cons, nq_map_ag hag hst.tl]
    simp [nq_cv, nq_adn]
  rw [← e9]
  exact k F (nq_Z_push (e := .inl (t, n, .inr (.inr (fun _ => none)))) (e' := .inl (G.2.1 t, n, .inr (.inr (.inr (.inr (fun _ => none)))))) Z hn (fun g hg j z hz => by cases hg; cases hz) (fun ad' => rfl) hP1 hD1 hS1)
    ((hst.tl.le (by simp)).cons (fun q hq => by cases hq; left; simp)) (by omega) (by omega)
end NQH
