/-! THE JUDGEMENT nq_J (a frame of a method over a world), the contract nq_JM -/
/-- the array classes of the world, by their numbers -/
def nq_tys (tc : Nat → ClassId) : List (ClassId × FieldType) := nq_tyl.mapIdx (fun t ty => (tc t, ty))
theorem nq_tys_at {tc : Nat → ClassId} {t : Nat} {ty : FieldType} (h : nq_tyl[t]? = some ty) : (nq_tys tc)[t]? = some (tc t, ty) := by
  simp [nq_tys, List.getElem?_mapIdx, h]
def nq_fr (d : Nat) : Nat := 12 + d
def nq_lo (d : Nat) : Nat := 300 + 64 * d
/-- (a throw may make a cell of six slots beside what a method makes) -/
def nq_rm (d mc ms : Nat) : Room := { frames := nq_fr d, cells := mc + 1, slots := ms + 6, locals := nq_lo d }
def nq_x (o : Outcome) : Nat := match o with
  | .returned _ => 0
  | _ => 1
def nq_co (y : nq_M) : Cond := match y.2.2.2.2 with
  | [] => .code y.1 y.2.1 y.2.2.1 y.2.2.2.1
  | h :: hh => .codeWith y.1 y.2.1 y.2.2.1 y.2.2.2.1 (h :: hh)
def nq_w (y : nq_M) : List Cond := nq_co y :: nq_T
/-- a static of Throwable's that a throw reads: where it lies (outside A), that it holds a reference or null -/
def nq_Zs (n d : String) (A : Nat → Prop) (U : State) (H : Heap) : Prop := ∃ (c : ClassId) (k : Class) (i : Nat) (f : Field) (a : Nat) (cell : Cell) (v : Value),
  (U.vm.findClass Bundle.tN = some c ∧ U.fieldFound? Bundle.tN n d = some (c, k, i, f) ∧ f.isStatic = true ∧ k.statics = some a ∧ k.staticTypes[f.slot]? = some f.type) ∧
  (H[a]? = some cell ∧ cell.vm.isStatics = true ∧ cell.cls = c ∧ f.slot < cell.slots.size ∧ cell.slots[f.slot]? = some v ∧ v.isRef = true) ∧ ¬ A a
theorem nq_Zs.moved {n d : String} {A : Nat → Prop} {u U : State} {H : Heap} (hvm : u.vm.Alike U.vm) (h : nq_Zs n d A u H) : nq_Zs n d A U H := by
  obtain ⟨c, k, i, f, a, cell, v, ⟨h1, h2, h3, h4, h5⟩, h6⟩ := h
  obtain ⟨k', hi', he⟩ := State.fieldFound?_setVm hvm h2
  exact ⟨c, k', i, f, a, cell, v, ⟨by rw [hvm.findClass]; exact h1, hi', h3, by rw [he]; exact h4, by rw [he]; exact h5⟩, h6⟩
theorem nq_Zs.kept {n d : String} {A : Nat → Prop} {U : State} {H H1 : Heap} (h : nq_Zs n d A U H) (hq : ∀ a : Nat, a < H.size → ¬ A a → H1[a]? = H[a]?) : nq_Zs n d A U H1 := by
  obtain ⟨c, k, i, f, a, cell, v, h1, ⟨h2, h3⟩, h4⟩ := h
  exact ⟨c, k, i, f, a, cell, v, h1, ⟨by rw [hq a (Array.getElem?_eq_some_iff.mp h2).1 h4]; exact h2, h3⟩, h4⟩
theorem nq_Zs.narrow {n d : String} {A B : Nat → Prop} {U : State} {H : Heap} (h : nq_Zs n d A U H) (hAB : ∀ q, B q → A q) : nq_Zs n d B U H := by
  obtain ⟨c, k, i, f, a, cell, v, h1, h2, h4⟩ := h
  exact ⟨c, k, i, f, a, cell, v, h1, h2, fun z => h4 (hAB a z)⟩
theorem nq_Zs.lays {n d : String} {A : Nat → Prop} {U : State} {args : Array Value} (h : nq_Zs n d A U U.heap) : (Cond.laysStatic Bundle.tN n d).before args U = true := by
  obtain ⟨c, k, i, f, a, cell, v, ⟨h1, h2, h3, h4, h5⟩, ⟨h6, h7, h8, h9, h10, h11⟩, h12⟩ := h
  simp [Cond.before, Cond.holds, Cond.value, h1, h2, h3, h4, h5, h6, h7, h8, h9]
theorem nq_Zs.isRef {n d : String} {A : Nat → Prop} {U : State} {args : Array Value} (h : nq_Zs n d A U U.heap) : (Cond.isRef (.static Bundle.tN n d)).before args U = true := by
  obtain ⟨c, k, i, f, a, cell, v, ⟨h1, h2, h3, h4, h5⟩, ⟨h6, h7, h8, h9, h10, h11⟩, h12⟩ := h
  have hv : (Term.static Bundle.tN n d).eval args U none [] U = some v := Term.static_eval h2 h3 h4 h6 h7 h10
  simp only [Cond.before, Cond.holds, Cond.value, hv]
  cases v <;> simp [Value.isRef] at h11 ⊢
def nq_O : List String := ["QueryStore$Table", "QueryStore$Page", "QueryStore$Code"]
/-- what lies outside the world: words on nest mates, texts, the statics that a throw reads, the script -/
def nq_X (G : nq_G) (ad : Nat → Nat) (A : Nat → Prop) (U : State) (H : Heap) : Prop :=
  (∀ w ∈ nq_N, va_Nw w U) ∧ (∀ q ∈ nq_K, vk_R q.1 q.2.1 q.2.2.1 (ad (1000000 + q.2.2.2)) U) ∧ vk_S nq_n nq_len nq_byt (fun i => ad (1000000 + i)) (fun i => ad (2000000 + i)) A U H ∧
  nq_Zs "UNASSIGNED_STACK" Bundle.steD A U H ∧ nq_Zs "SUPPRESSED_SENTINEL" Bundle.listD A U H ∧ va_Z "java/lang/String" "COMPACT_STRINGS" "Z" (.int 1) A U H ∧ va_X (ad 3000000) G.2.2.1 G.2.2.2 U H ∧ ¬ A (ad 3000000) ∧ (∀ q ∈ nq_V, va_Nc q.1 q.2 U) ∧ ∀ C ∈ nq_O, va_AO C U
theorem nq_X.go {G : nq_G} {ad : Nat → Nat} {A B : Nat → Prop} {s U : State} {H : Heap} {locs : List Loc} (h : nq_X G ad A s s.heap) (hW : s.WarmedH U.vm) (hH : U.heap = H) (hS : va_S A s.heap H locs) (hB : ∀ q, B q → A q) : nq_X G ad B U U.heap := by
  obtain ⟨h1, h2, h3, h4, h5, h6, h7, h8, h9, h10⟩ := h
  have hvm := hW.alike
  rw [hH]
  refine ⟨fun w hw => nq_N_warm hw hW (h1 w hw), fun q hq => (h2 q hq).warm hW, ((h3.kept hS.2.1).moved hvm).narrow hB, ((h4.kept hS.2.1).moved hvm).narrow hB, ((h5.kept hS.2.1).moved hvm).narrow hB, ((h6.kept hS.2.1).moved hvm).narrow hB, ?_, fun z => h8 (hB _ z), fun q hq => (h9 q hq).moved hvm, fun C hC => (h10 C hC).moved hvm⟩
  obtain ⟨scr, q1, q2, q3⟩ := h7
  exact ⟨scr, by rw [hS.2.1 _ (Array.getElem?_eq_some_iff.mp q1).1 h8]; exact q1, State.isArrayOf_alike hvm q2, q3⟩
theorem nq_X.blind {G : nq_G} {ad : Nat → Nat} {A : Nat → Prop} {U : State} {g : JFrame} {mk : MethodId} {a : Array Value} (h : nq_X G ad A U U.heap) : nq_X G ad A (U.calling g mk a) (U.calling g mk a).heap := by
  obtain ⟨h1, h2, h3, h4, h5, h6, ⟨scr, q1, q2, q3⟩, h8, h9, h10⟩ := h
  have hvm : U.vm.Alike (U.calling g mk a).vm := Vm.Alike.refl U.vm
  exact ⟨fun w hw => nq_N_same (u := U) hw rfl (h1 w hw), fun q hq => (h2 q hq).same rfl, h3.moved hvm, h4.moved hvm, h5.moved hvm, h6.moved hvm, ⟨scr, q1, State.isArrayOf_alike hvm q2, q3⟩, h8, fun q hq => (h9 q hq).moved hvm, fun C hC => (h10 C hC).moved hvm⟩
theorem nq_X.ag {G : nq_G} {ad ad' : Nat → Nat} {A : Nat → Prop} {U : State} {H : Heap} {n : Nat} (h : nq_X G ad A U H) (ha : nq_ag n ad ad') : nq_X G ad' A U H := by
  obtain ⟨h1, h2, h3, h4, h5, h6, h7, h8, h9, h10⟩ := h
  have e1 : ∀ i, ad' (1000000 + i) = ad (1000000 + i) := fun i => ha _ (Or.inr (Nat.le_add_right _ _))
  have e2 : ∀ i, ad' (2000000 + i) = ad (2000000 + i) := fun i => ha _ (Or.inr (by omega))
  have e3 : ad' 3000000 = ad 3000000 := ha _ (Or.inr (by omega))
  refine ⟨h1, fun q hq => by rw [e1]; exact h2 q hq, by simp only [e1, e2]; exact h3, h4, h5, h6, by rw [e3]; exact h7, by rw [e3]; exact h8, h9, h10⟩
/-- what a method's start says of its world -/
def nq_Wd (G : nq_G) (ad : Nat → Nat) (σ : nq_S) (av : List Value) (sz : Nat) (U : State) : Prop :=
  va_P G.1 nq_cl (nq_ws ad G.2.1 σ) U.heap ∧ va_K G.1 nq_cl (nq_tys G.2.1) U ∧ va_D (fun _ => True) (nq_ws ad G.2.1 σ) ∧ nq_ok σ ∧ nq_oks σ.length av ∧ nq_X G ad (va_A (nq_ws ad G.2.1 σ) sz) U U.heap
/-- how a method that began at st ended at t with o: the world, the frame, the answer or what was thrown -/
def nq_OK (G : nq_G) (A : Nat → Prop) (n0 : Nat) (ad0 : Nat → Nat) (Q : nq_Q) (mc ms : Nat) (st : State) (o : Outcome) (t : State) : Prop :=
  ∃ (σ : nq_S) (ad : Nat → Nat) (L : List Loc), (st.WarmedH t.vm ∧ st.sameButNew ({ t with vm := st.vm } : State) L (mc + nq_x o) (ms + 6 * nq_x o) ∧ ∀ z ∈ L, A z.base) ∧
    (n0 ≤ σ.length ∧ nq_ag n0 ad0 ad ∧ va_P G.1 nq_cl (nq_ws ad G.2.1 σ) t.heap ∧ va_D A (nq_ws ad G.2.1 σ) ∧ nq_ok σ ∧ va_F A st t) ∧
    ((∃ v : Option Value, o = .returned (v.map (nq_cv ad)) ∧ Q (.inl v) σ ∧ nq_oks σ.length v.toList) ∨ ∃ (E : String) (q : Addr) (ce : Cell), o = .threw q ∧ Q (.inr E) σ ∧ t.heap[q]? = some ce ∧ ce.vm = .none ∧ st.vm.findClass E = some ce.cls)
def nq_MQ (G : nq_G) (A : Nat → Prop) (n0 : Nat) (ad0 : Nat → Nat) (Q : nq_Q) (below : List Frame) (s : State) (mc ms : Nat) : State → Prop := fun t =>
  ∃ o, t.status = .running ∧ Ended t below o ∧ nq_OK G A n0 ad0 Q mc ms s o t
/-- THE CONTRACT: called with av in the world σ, at depth d, with mc cells of ms slots at most -/
def nq_JM (G : nq_G) (d mc ms : Nat) (y : nq_M) (av : List Value) (σ : nq_S) (Q : nq_Q) : Prop :=
  ∀ (l : Launch), l.stackTraces = false → ∀ (ad : Nat → Nat) (sz : Nat),
    MetFree l y.1 (headSpec (nq_w y) (nq_rm d mc ms)) (va_Pc (av.map (nq_cv ad)) (fun U => U.heap.size = sz ∧ nq_Wd G ad σ av sz U)) (fun _ _ _ _ _ => True)
      (fun _ st o t => nq_OK G (va_A (nq_ws ad G.2.1 σ) sz) σ.length ad Q mc ms st o t)
/-- what is fixed while a method runs -/
def nq_Fx (G : nq_G) (l : Launch) (p : Program) (R : Room) (s : State) (m : MethodId) (args : Array Value) (meth : Method) (c : Code) (A : Nat → Prop) (ad0 : Nat → Nat) (d mc ms : Nat) (y : nq_M) : Prop :=
  (l.stackTraces = false ∧ p.tables.exec = Jvm.exec ∧ c.code = y.2.1 ∧ meth.sig.returnType = y.2.2.2.1 ∧ c.maxLocals = y.2.2.1 ∧ s.vm.findClass y.1.cls = some m.cls ∧ (∀ w ∈ nq_w y, w.before args s = true)) ∧
  (meth.locks = false ∧ meth.name = y.1.name ∧ c.exceptionTable.toList = tableOf y.2.2.2.2) ∧ (nq_fr d ≤ R.frames ∧ nq_lo d ≤ R.locals ∧ R.cells = mc + 1 ∧ R.slots = ms + 6) ∧
  va_K G.1 nq_cl (nq_tys G.2.1) s ∧ (∀ q, s.heap.size ≤ q → A q) ∧ nq_X G ad0 A s s.heap
/-- the world and the locals where a frame stands -/
def nq_Z (G : nq_G) (s : State) (A : Nat → Prop) (nL n0 : Nat) (ad0 ad : Nat → Nat) (σ : nq_S) (lv : List (Option Value)) (H : Heap) (locs : List Loc) (ls : Array Slot) : Prop :=
  n0 ≤ σ.length ∧ nq_ag n0 ad0 ad ∧ va_P G.1 nq_cl (nq_ws ad G.2.1 σ) H ∧ va_D A (nq_ws ad G.2.1 σ) ∧ va_S A s.heap H locs ∧ nq_ok σ ∧ nq_lh ad σ.length nL lv ls
/-- THE JUDGEMENT: from pc on, with locals lv, stack st, world σ, at most kc cells of ks slots more, the method y comes to an end with Q -/
def nq_J (G : nq_G) (d kc ks : Nat) (y : nq_M) (pc : Nat) (lv : List (Option Value)) (st : List Value) (σ : nq_S) (Q : nq_Q) : Prop :=
  ∀ ⦃l : Launch⦄ ⦃p : Program⦄ ⦃e : Env⦄ ⦃R : Room⦄ ⦃s : State⦄ ⦃m : MethodId⦄ ⦃args : Array Value⦄ ⦃below : List Frame⦄ ⦃meth : Method⦄ ⦃c : Code⦄ ⦃A : Nat → Prop⦄ ⦃n0 : Nat⦄ ⦃ad0 : Nat → Nat⦄ {mc ms : Nat},
    nq_Fx G l p R s m args meth c A ad0 d mc ms y → ∀ ⦃ad : Nat → Nat⦄ ⦃H : Heap⦄ ⦃locs : List Loc⦄ {cells slots : Nat} ⦃ls : Array Slot⦄,
    nq_Z G s A y.2.2.1 n0 ad0 ad σ lv H locs ls → nq_oks σ.length st → cells + kc ≤ mc → slots + ks ≤ ms →
    W p l e R s m args below meth c H locs cells slots (nq_MQ G A n0 ad0 Q below s mc ms) (F0 m pc ls (st.map (nq_cv ad)))
section NQ
variable {G : nq_G} {d kc ks : Nat} {y : nq_M} {pc pc' : Nat} {lv : List (Option Value)} {st : List Value} {σ : nq_S} {Q : nq_Q}
theorem nq_J.le {kc' ks' : Nat} (h1 : kc ≤ kc') (h2 : ks ≤ ks') (k : nq_J G d kc ks y pc lv st σ Q) : nq_J G d kc' ks' y pc lv st σ Q := by
  intro l p e R s m args below meth c A n0 ad0 mc ms F ad H locs cells slots ls Z hst hc hs
  exact k F Z hst (by omega) (by omega)
theorem nq_J.mono {Q' : nq_Q} (k : nq_J G d kc ks y pc lv st σ Q') (h : ∀ o σ', Q' o σ' → Q o σ') : nq_J G d kc ks y pc lv st σ Q := by
  intro l p e R s m args below meth c A n0 ad0 mc ms F ad H locs cells slots ls Z hst hc hs T hT X
  obtain ⟨t, a1, o, b1, b2, b3⟩ := k F Z hst hc hs T hT X
  refine ⟨t, a1, o, b1, b2, ?_⟩
  obtain ⟨σ', ad', L, e1, e2, e3⟩ := b3
  refine ⟨σ', ad', L, e1, e2, ?_⟩
  rcases e3 with ⟨v, f1, f2, f3⟩ | ⟨E, q, ce, f1, f2, f3⟩
  · exact Or.inl ⟨v, f1, h _ _ f2, f3⟩
  · exact Or.inr ⟨E, q, ce, f1, h _ _ f2, f3⟩
/-- locals forgotten -/
theorem nq_J.lvs {lv' : List (Option Value)} (hl : lv'.length = lv.length) (h : ∀ (i : Nat) (v : Value), lv'[i]? = some (some v) → lv[i]? = some (some v)) (k : nq_J G d kc ks y pc lv' st σ Q) : nq_J G d kc ks y pc lv st σ Q := by
  intro l p e R s m args below meth c A n0 ad0 mc ms F ad H locs cells slots ls Z hst hc hs
  obtain ⟨z1, z2, z3, z4, z5, z6, z7⟩ := Z
  exact k F ⟨z1, z2, z3, z4, z5, z6, hl.trans z7.1, z7.2.1, z7.2.2.1, fun i v hi => z7.2.2.2 i v (h i v hi)⟩ hst hc hs
/-- a contract out of a body -/
theorem nq_mk {av : List Value} (hy : plainName y.1.cls = true) (hh : y.2.2.2.2 = []) (hn : (nq_ea av).length ≤ y.2.2.1) (k : nq_J G d kc ks y 0 (nq_ent av y.2.2.1) [] σ Q) : nq_JM G d kc ks y av σ Q := by
  intro l hl ad sz
  have hw : nq_w y = Cond.code y.1 y.2.1 y.2.2.1 y.2.2.2.1 :: nq_T := by simp only [nq_w, nq_co, hh]
  refine MetFree.of_bodyS (code := y.2.1) (maxLocals := y.2.2.1) (ret := y.2.2.2.1) hy ?_ ?_
  · intro args s m h hn9
    obtain ⟨meth, c, h1, h2, h3, h4, h5, h6, -, -⟩ := Cond.code_spec hn9 (atoms_spec (ws := nq_w y) h _ (by rw [hw]; exact List.mem_cons_self))
    exact ⟨meth, c, h1, h2, h3, h4, h5, h6⟩
  intro p e s m args below meth c s₁ B hml hv _
  have hh0 : s₁.heap = s.heap := by rw [B.state]; rfl
  have hno : c.exceptionTable.toList = [] := by
    obtain ⟨meth9, c9, h1, h2, -, -, -, -, h7, -⟩ := Cond.code_spec B.named (atoms_spec (ws := nq_w y) B.pre _ (by rw [hw]; exact List.mem_cons_self))
    cases Option.some.inj (h1.symm.trans B.method)
    cases Option.some.inj (h2.symm.trans (Stand.of_body B).code)
    rw [Array.isEmpty_iff.mp h7]
  obtain ⟨rfl, hsz, hP, hK, hD0, hok, hav, hX⟩ := hv
  subst hsz
  have hlen := nq_ea_len ad av
  have hl9 := lv_entry (av.map (nq_cv ad)) (n := y.2.2.1) (by rw [hlen]; exact hn)
  have key : W p l e (nq_rm d kc ks) s m (av.map (nq_cv ad)).toArray below meth c s.heap [] 0 0 (nq_MQ G (va_A (nq_ws ad G.2.1 σ) s.heap.size) σ.length ad Q below s kc ks) (entryFrame m (av.map (nq_cv ad)).toArray y.2.2.1) := by
    rw [lg_entry_eq]
    generalize (lg_sl (av.map (nq_cv ad)) ++ List.replicate (y.2.2.1 - (lg_sl (av.map (nq_cv ad))).length) Slot.unset).toArray = ls at hl9 ⊢
    refine k ⟨⟨hl, B.exec, B.bytes, B.returns, hml, findClass_of_methodNamed B.named, atoms_spec (ws := nq_w y) B.pre⟩, ⟨B.notSynchronized, (name_of_methodNamed B.named B.method).1, ?_⟩, ⟨Nat.le_refl _, Nat.le_refl _, rfl, rfl⟩, hK, fun q h => Or.inr h, hX⟩
      ⟨Nat.le_refl _, nq_ag.rf, hP, hD0.self, va_S.rf, hok, ?_⟩ nq_oks.nil (Nat.le_of_eq (Nat.zero_add _)) (Nat.le_of_eq (Nat.zero_add _))
    · rw [hh, hno]
      rfl
    refine ⟨by simp only [nq_ent, List.length_append, List.length_replicate]; omega, hl9.1, hl9.2.1, fun i v hi => ?_⟩
    have hi' : (nq_ea av)[i]? = some (some v) := by
      unfold nq_ent at hi
      rcases Nat.lt_or_ge i (nq_ea av).length with q | q
      · rw [List.getElem?_append_left q] at hi
        exact hi
      · rw [List.getElem?_append_right q] at hi
        rw [List.getElem?_replicate] at hi
        split at hi
        · cases hi
        · cases hi
    obtain ⟨g1, g2⟩ := nq_ea_in (ad := ad) av 0 i v hi'
    rw [Nat.zero_add] at g1
    exact ⟨hav v g2, hl9.2.2 _ g1⟩
  obtain ⟨t, a1, o, b1, b2, b3⟩ := key s₁ hh0 (Stand.of_body B)
  exact ⟨t, o, a1, b1, b2, b3⟩
end NQ
