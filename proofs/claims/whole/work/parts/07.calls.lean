/-! CALLS, RETURNS, THROWS -/
theorem nq_T_good : ∀ w ∈ nq_T, goodWord w = true := fun w hw => (List.mem_filter.mp hw).2
theorem nq_pay {y y' : nq_M} {args : Array Value} {s : State} (hts : ∀ w ∈ nq_w y, w.before args s = true) (hy : nq_co y' ∈ nq_T) : ∀ w ∈ nq_w y', ∀ (a' : Array Value) (U : State), s.WarmedH U.vm → w.before a' U = true := by
  refine pay_in hts (fun w hw => ?_)
  have hw' : w ∈ nq_T := (List.mem_cons.mp hw).elim (fun e => e ▸ hy) id
  exact ⟨List.mem_cons_of_mem _ hw', good_of_word (nq_T_good w hw')⟩
/-- the words of a call -/
def nq_Cl (own : String) (ix : Nat) (y' : nq_M) (n : Nat) : Prop := nq_co y' ∈ nq_T ∧ Cond.methodLink own ix y'.1 ∈ nq_T ∧ Cond.initialized y'.1.cls ∈ nq_T ∧
  (y'.1.cls ≠ "java/lang/invoke/MethodHandle" ∧ y'.1.cls ≠ "java/lang/invoke/VarHandle") ∧ (parseMethodDescriptor y'.1.desc).map (fun d => d.parameters.length) = some n ∧ y'.2.2.1 ≤ 40
def nq_ClV (own : String) (ix : Nat) (y' : nq_M) (n : Nat) : Prop := nq_Cl own ix y' n ∧ y'.2.2.2.2 = [] ∧ Cond.instanceMethod y'.1 ∈ nq_T ∧ Cond.selects y'.1.cls y'.1 y'.1 ∈ nq_T
def nq_ClI (own : String) (ix : Nat) (y' : nq_M) (n : Nat) : Prop := nq_co y' ∈ nq_T ∧ (Cond.methodLink own ix y'.1 ∈ nq_T ∨ ∃ host, Cond.methodLinkNest own ix y'.1 host ∈ nq_N) ∧ Cond.initialized y'.1.cls ∈ nq_T ∧
  (y'.1.cls ≠ "java/lang/invoke/MethodHandle" ∧ y'.1.cls ≠ "java/lang/invoke/VarHandle") ∧ (parseMethodDescriptor y'.1.desc).map (fun d => d.parameters.length) = some n ∧ y'.2.2.1 ≤ 40 ∧ y'.2.2.2.2 = [] ∧ Cond.instanceMethod y'.1 ∈ nq_T ∧ y'.1.name = "<init>" ∧ y'.2.2.2.1 = none
theorem nq_cats {st : List Value} {ad : Nat → Nat} : ((st.map (nq_cv ad)).map fun v => v.category).sum = (st.map fun v => v.category).sum := by
  rw [List.map_map]
  congr 1
  exact List.map_congr_left fun v _ => nq_cv_cat ad v
section NQC
variable {G : nq_G} {d kc ks : Nat} {y y' : nq_M} {pc pc' : Nat} {lv : List (Option Value)} {st : List Value} {σ : nq_S} {Q Q1 : nq_Q}
variable {l : Launch} {p : Program} {e : Env} {R : Room} {s : State} {m : MethodId} {args : Array Value} {below : List Frame} {meth : Method} {c : Code} {A : Nat → Prop} {n0 : Nat} {ad0 : Nat → Nat} {mc ms : Nat} {ad : Nat → Nat} {H : Heap} {locs : List Loc} {cells slots : Nat} {ls : Array Slot}
/-- a frame with q thrown over it -/
def nq_WX (p : Program) (l : Launch) (e : Env) (R : Room) (s : State) (m : MethodId) (args : Array Value) (below : List Frame) (meth : Method) (c : Code) (H : Heap) (locs : List Loc) (cells slots : Nat) (QF : State → Prop) (g : JFrame) (q : Addr) : Prop :=
  ∀ T : State, T.heap = H → Stand p l e R s m args below meth c T locs cells slots → ∃ t, Steps p.tables e below ((T.setTop g).pushFrame (.throwing q)) t ∧ QF t
theorem nq_co_at {U : State} {a : Array Value} {mk : MethodId} (h : (nq_co y').before a U = true) (hn : U.methodNamed? y'.1 = some mk) : ∃ (methY : Method) (cY : Code), U.vm.method? mk = some methY ∧ methY.code = some cY ∧ cY.maxLocals = y'.2.2.1 := by
  unfold nq_co at h
  split at h
  · obtain ⟨methY, cY, h1, h2, -, h3, -, -, -, -⟩ := Cond.code_spec hn h
    exact ⟨methY, cY, h1, h2, h3⟩
  · obtain ⟨m9, methY, cY, h0, h1, h2, -, h3, -⟩ := Cond.codeWith_spec h
    cases hn.symm.trans h0
    exact ⟨methY, cY, h1, h2, h3⟩
/-- from the callee's entry to its end, both ways -/
theorem nq_back {T : State} {mc' ms' : Nat} {av : List Value} {mk : MethodId} {ig : Instr} {rest : List Value} (X : Stand p l e R s m args below meth c T locs cells slots) (hT : T.heap = H) (F : nq_Fx G l p R s m args meth c A ad0 (d + 1) mc ms y) (Z : nq_Z G s A y.2.2.1 n0 ad0 ad σ lv H locs ls)
    (hM : nq_JM G d mc' ms' y' av σ Q1) (hco : nq_co y' ∈ nq_T) (hini : Cond.initialized y'.1.cls ∈ nq_T) (hml : y'.2.2.1 ≤ 40) (hav : nq_oks σ.length av) (hrest : nq_oks σ.length rest) (hcat : (rest.map fun v => v.category).sum ≤ 8) (hdg : decode c.code pc = .ok (ig, 3)) (hn : T.methodNamed? y'.1 = some mk) (hc : cells + mc' ≤ mc) (hs : slots + ms' ≤ ms) :
    ∃ (T' : State) (L : List Loc) (σ1 : nq_S) (ad1 : Nat → Nat) (x : Nat), Stand p l e R s m args below meth c T' (locs ++ L) (cells + (mc' + x)) (slots + (ms' + 6 * x)) ∧ nq_Z G s A y.2.2.1 n0 ad0 ad1 σ1 lv T'.heap (locs ++ L) ls ∧ nq_oks σ1.length rest ∧ rest.map (nq_cv ad1) = rest.map (nq_cv ad) ∧
      ((∃ v : Option Value, x = 0 ∧ Q1 (.inl v) σ1 ∧ nq_oks σ1.length v.toList ∧ Steps p.tables e below (doInvoke e (T.setTop (F0 m pc ls (rest.map (nq_cv ad)))) [] mk (av.map (nq_cv ad)).toArray).1 (T'.setTop (F0 m (pc + 3) ls ((v.toList ++ rest).map (nq_cv ad1))))) ∨
       ∃ (E : String) (q : Addr) (ce : Cell), x = 1 ∧ Q1 (.inr E) σ1 ∧ T'.heap[q]? = some ce ∧ ce.vm = .none ∧ s.vm.findClass E = some ce.cls ∧ Steps p.tables e below (doInvoke e (T.setTop (F0 m pc ls (rest.map (nq_cv ad)))) [] mk (av.map (nq_cv ad)).toArray).1 ((T'.setTop (F0 m pc ls (rest.map (nq_cv ad)))).pushFrame (.throwing q))) := by
  obtain ⟨z1, z2, z3, z4, z5, z6, z7⟩ := Z
  have hm : ∀ {w : Cond}, w ∈ nq_T → ∀ (a' : Array Value) (U : State), s.WarmedH U.vm → w.before a' U = true := fun {w} h a' U hW => word_at hW (good_of_word (nq_T_good w h)) (F.1.2.2.2.2.2.2 _ (List.mem_cons_of_mem _ h))
  have f1 := F.2.2.1.1
  have f2 := F.2.2.1.2.1
  simp only [nq_fr, nq_lo] at f1 f2
  have h1 : (headSpec (nq_w y') (nq_rm d mc' ms')).pre.before (av.map (nq_cv ad)).toArray T = true := atoms_intro fun w hw => (List.mem_cons.mp hw).elim (fun q => q ▸ hm hco _ _ X.warmed) (fun q => hm q _ _ X.warmed)
  obtain ⟨methY, cY, hmY, hcY, hlY⟩ := nq_co_at (hm hco (av.map (nq_cv ad)).toArray T X.warmed) hn
  obtain ⟨kY, hkY, -⟩ := className_of_methodNamed hn
  have hinitY : kY.init = .initialized := Cond.initialized_spec (findClass_of_methodNamed hn) hkY (hm hini (av.map (nq_cv ad)).toArray T X.warmed)
  generalize hg9 : F0 m pc ls (rest.map (nq_cv ad)) = g
  have hgm : g.method = m := by rw [← hg9]
  have hgp : g.pc = pc := by rw [← hg9]
  have hgs : g.stack = rest.map (nq_cv ad) := by rw [← hg9]
  have hsz : g.locals.size = c.maxLocals := by rw [← hg9, F.1.2.2.2.2.1]; exact z7.2.1
  have hgr : g.monitorRoom = 0 := by rw [← hg9]
  have hdg' : decode c.code g.pc = .ok (ig, 3) := by rw [hgp]; exact hdg
  have h : At T g.method c below := by rw [hgm]; exact X.here
  have happ : (headSpec (nq_w y') (nq_rm d mc' ms')).appliesLoose y'.1 e.platform (T.calling g mk (av.map (nq_cv ad)).toArray) = true :=
    Spec.appliesLoose_calling (g := g) h hdg' hn hkY hinitY
      (X.room_calling (g := g) (R' := nq_rm d mc' ms') hsz hmY hcY (by simp only [nq_rm, nq_fr]; omega) (by rw [hlY, hgr, hgs, nq_cats]; simp only [nq_rm, nq_lo]; omega) (by rw [F.2.2.1.2.2.1]; simp only [nq_rm]; omega) (by rw [F.2.2.1.2.2.2]; simp only [nq_rm]; omega)) h1
  obtain ⟨mid, hmid⟩ := h.above
  have hfr : (T.setTop g).frames = (.java g :: mid) ++ below := by rw [State.frames_setTop' g h.top, hmid]; rfl
  have hB : ∀ q, va_A (nq_ws ad G.2.1 σ) H.size q → A q := fun q h => by
    rcases h with ⟨k, e9, h⟩ | h
    · exact z4.2 k _ h
    · exact F.2.2.2.2.1 q (Nat.le_trans z5.1 h)
  have hWd : nq_Wd G ad σ av H.size T := ⟨by rw [hT]; exact z3, va_K.moved X.warmed.alike F.2.2.2.1, z4.weaken (fun _ _ _ _ => trivial), z6, hav, (F.2.2.2.2.2.ag z2).go X.warmed hT z5 hB⟩
  have hPc : va_Pc (av.map (nq_cv ad)) (fun U => U.heap.size = H.size ∧ nq_Wd G ad σ av H.size U) (av.map (nq_cv ad)).toArray (T.calling g mk (av.map (nq_cv ad)).toArray) := by
    obtain ⟨q3, q4, q5, q6, q7, q8⟩ := hWd
    exact ⟨rfl, by show T.heap.size = H.size; rw [hT], q3, va_K.moved (u := T) (Vm.Alike.refl T.vm) q4, q5, q6, q7, q8.blind⟩
  obtain ⟨o, s₂, hsteps, -, hend, hq⟩ := Steps.callFree (hM l F.1.1 ad H.size) p X.admits X.cas X.clock (acts := []) hfr happ hPc trivial
  have hq' : nq_OK G (va_A (nq_ws ad G.2.1 σ) H.size) σ.length ad Q1 mc' ms' (T.calling g mk (av.map (nq_cv ad)).toArray) o s₂ := hq
  rw [State.frames_setTop' g h.top] at hend
  obtain ⟨g₀, hg0⟩ := Option.isSome_iff_exists.mp h.top
  obtain ⟨r, hr⟩ := State.topJava?_eq_some.mp hg0
  have hr' : (({ T with heap := s₂.heap, slotsUsed := s₂.slotsUsed } : State).setVm s₂.vm).frames = .java g₀ :: r := hr
  obtain ⟨σ1, ad1, L, ⟨w1, w2, w3⟩, ⟨v1, v2, v3, v4, v5, v6⟩, w4⟩ := hq'
  obtain ⟨e2, q2, q3, q4, q5, q6⟩ := id w2
  have hW' : T.WarmedH s₂.vm := w1
  have e3 : s₂ = ({ (T.calling g mk (av.map (nq_cv ad)).toArray).setFrames s₂.frames with heap := s₂.heap, slotsUsed := s₂.slotsUsed } : State).setVm s₂.vm := by
    have : s₂ = ({ s₂ with vm := (T.calling g mk (av.map (nq_cv ad)).toArray).vm } : State).setVm s₂.vm := rfl
    rw [e2] at this
    exact this
  have hsame : T.sameButNew ({ T with heap := s₂.heap, slotsUsed := s₂.slotsUsed } : State) L (mc' + nq_x o) (ms' + 6 * nq_x o) := by
    refine ⟨?_, q2, q3, q4, q5, q6⟩
    obtain ⟨t, ht, -⟩ := State.frames_cons hr
    show ({ T with heap := s₂.heap, slotsUsed := s₂.slotsUsed } : State) = { T.setFrames T.frames with heap := s₂.heap, slotsUsed := s₂.slotsUsed }
    rw [State.setFrames_self ht]
  have X' : Stand p l e R s m args below meth c (({ T with heap := s₂.heap, slotsUsed := s₂.slotsUsed } : State).setVm s₂.vm) (locs ++ L) (cells + (mc' + nq_x o)) (slots + (ms' + 6 * nq_x o)) :=
    ⟨X.admits, X.cas, X.clock, X.frames, X.room, X.hears, X.method, X.code, (X.here.setHeapUsed s₂.heap s₂.slotsUsed).setVm hW'.alike, X.tail, State.WarmedH.trans X.warmed hW', X.limits, X.bytes, X.same.trans (hsame.setVm s.vm)⟩
  have hF : H.size ≤ s₂.heap.size ∧ ∀ q : Nat, q < H.size → ¬ va_A (nq_ws ad G.2.1 σ) H.size q → s₂.heap[q]? = H[q]? := by
    obtain ⟨k1, k2⟩ := v6
    have k1' : T.heap.size ≤ s₂.heap.size := k1
    have k2' : ∀ q : Nat, q < T.heap.size → ¬ va_A (nq_ws ad G.2.1 σ) H.size q → s₂.heap[q]? = T.heap[q]? := k2
    rw [hT] at k1' k2'
    exact ⟨k1', k2'⟩
  have hS' : va_S A s.heap s₂.heap (locs ++ L) := ⟨Nat.le_trans z5.1 hF.1, fun q g1 g2 => by rw [hF.2 q (Nat.lt_of_lt_of_le g1 z5.1) (fun z => g2 (hB q z))]; exact z5.2.1 q g1 g2, fun q hq => by
    rcases List.mem_append.mp hq with h | h
    · exact z5.2.2 q h
    · exact hB _ (w3 q h)⟩
  have hrm : rest.map (nq_cv ad1) = rest.map (nq_cv ad) := nq_map_ag v2 hrest
  refine ⟨_, L, σ1, ad1, nq_x o, X', ⟨Nat.le_trans z1 v1, z2.tr v2 z1, v3, v4.weaken (fun k q _ h => hB q.1 h), hS', v5, z7.le v1 v2⟩, hrest.le v1, hrm, ?_⟩
  rcases w4 with ⟨v, rfl, u1, u2⟩ | ⟨E, q, ce, rfl, u1, u2, u3, u4⟩
  · left
    refine ⟨v, rfl, u1, u2, ?_⟩
    obtain ⟨c₂, i₂, len₂, hc₂, hd₂, hf₂⟩ := hend
    have hcc : c₂ = c := by
      have h9 : s₂.code? g.method = T.code? g.method := by
        rw [State.code?_eq, State.code?_eq, hW'.alike.method?]
      exact Option.some.inj (hc₂.symm.trans (h9.trans h.code))
    subst hcc
    have hlen : len₂ = 3 := by rw [hdg'] at hd₂; cases hd₂; rfl
    subst hlen
    have hs₂ : s₂ = (({ T with heap := s₂.heap, slotsUsed := s₂.slotsUsed } : State).setVm s₂.vm).setTop { g with pc := g.pc + 3, stack := (v.map (nq_cv ad1)).toList ++ g.stack } := by
      refine e3.trans ?_
      rw [hf₂, State.calling_eq h.top, State.setFrames_setFrames, State.setTop_of_frames _ hr', hr]
      rfl
    have e9 : (v.map (nq_cv ad1)).toList ++ g.stack = (v.toList ++ rest).map (nq_cv ad1) := by
      rw [List.map_append, hrm, hgs]
      cases v <;> rfl
    rw [e9, ← hg9] at hs₂
    show Steps p.tables e below _ ((({ T with heap := s₂.heap, slotsUsed := s₂.slotsUsed } : State).setVm s₂.vm).setTop (F0 m (pc + 3) ls ((v.toList ++ rest).map (nq_cv ad1))))
    rw [← hs₂]
    exact hsteps
  · right
    have hf₂ : s₂.frames = .throwing q :: .java g :: T.frames.tail := hend
    have hs₂ : s₂ = ((({ T with heap := s₂.heap, slotsUsed := s₂.slotsUsed } : State).setVm s₂.vm).setTop g).pushFrame (.throwing q) := by
      refine e3.trans ?_
      rw [hf₂, State.calling_eq h.top, State.setFrames_setFrames, State.pushFrame, State.frames_setTop _ hr', State.setTop_of_frames _ hr', State.setFrames_setFrames, hr]
      rfl
    have hE : s.vm.findClass E = some ce.cls := by
      have h9 : T.vm.findClass E = some ce.cls := u4
      rw [X.warmed.alike.findClass] at h9
      exact h9
    refine ⟨E, q, ce, rfl, u1, u2, u3, hE, ?_⟩
    show Steps p.tables e below _ (((({ T with heap := s₂.heap, slotsUsed := s₂.slotsUsed } : State).setVm s₂.vm).setTop g).pushFrame (.throwing q))
    rw [← hs₂]
    exact hsteps
/-- a call as it is walked: what comes back, or the throw over the same frame -/
theorem nq_call {mc' ms' : Nat} {av rest : List Value} {QF : State → Prop} {g : JFrame} {ig : Instr} (F : nq_Fx G l p R s m args meth c A ad0 (d + 1) mc ms y) (Z : nq_Z G s A y.2.2.1 n0 ad0 ad σ lv H locs ls)
    (hM : nq_JM G d mc' ms' y' av σ Q1) (hco : nq_co y' ∈ nq_T) (hini : Cond.initialized y'.1.cls ∈ nq_T) (hml : y'.2.2.1 ≤ 40) (hav : nq_oks σ.length av) (hrest : nq_oks σ.length rest) (hcat : (rest.map fun v => v.category).sum ≤ 8) (hdg : decode c.code pc = .ok (ig, 3)) (hc : cells + mc' ≤ mc) (hs : slots + ms' ≤ ms)
    (hgo : ∀ T : State, T.heap = H → Stand p l e R s m args below meth c T locs cells slots → ∃ (vm₁ : Vm) (mk : MethodId), Stand p l e R s m args below meth c (T.setVm vm₁) locs cells slots ∧ (T.setVm vm₁).methodNamed? y'.1 = some mk ∧
      ∀ target, (∀ acts, Steps p.tables e below (doInvoke e ((T.setVm vm₁).setTop (F0 m pc ls (rest.map (nq_cv ad)))) acts mk (av.map (nq_cv ad)).toArray).1 target) → Steps p.tables e below (T.setTop g) target)
    (kk : ∀ (v : Option Value) (σ1 : nq_S) (ad1 : Nat → Nat) (H1 : Heap) (locs1 : List Loc), Q1 (.inl v) σ1 → nq_Z G s A y.2.2.1 n0 ad0 ad1 σ1 lv H1 locs1 ls → nq_oks σ1.length (v.toList ++ rest) → W p l e R s m args below meth c H1 locs1 (cells + mc') (slots + ms') QF (F0 m (pc + 3) ls ((v.toList ++ rest).map (nq_cv ad1))))
    (kx : ∀ (E : String) (σ1 : nq_S) (ad1 : Nat → Nat) (H1 : Heap) (locs1 : List Loc) (ce : Cell) (q9 : Addr), Q1 (.inr E) σ1 → nq_Z G s A y.2.2.1 n0 ad0 ad1 σ1 lv H1 locs1 ls → H1[q9]? = some ce → ce.vm = .none → s.vm.findClass E = some ce.cls → nq_WX p l e R s m args below meth c H1 locs1 (cells + (mc' + 1)) (slots + (ms' + 6)) QF (F0 m pc ls (rest.map (nq_cv ad))) q9) :
    W p l e R s m args below meth c H locs cells slots QF g := by
  intro T hT X
  obtain ⟨vm₁, mk, X₁, hn, hstep₁⟩ := hgo T hT X
  obtain ⟨T', L, σ1, ad1, x9, X', Z', hr1, hr2, hres⟩ := nq_back X₁ (H := H) hT F Z hM hco hini hml hav hrest hcat hdg hn hc hs
  rcases hres with ⟨v, rfl, u1, u2, hst9⟩ | ⟨E, q, ce, rfl, u1, u2, u3, u4, hst9⟩
  · obtain ⟨t, a1, b1⟩ := kk v σ1 ad1 T'.heap (locs ++ L) u1 Z' (u2.app hr1) T' rfl X'
    exact ⟨t, hstep₁ _ fun acts => by rw [doInvoke_state]; exact hst9.trans a1, b1⟩
  · obtain ⟨t, a1, b1⟩ := kx E σ1 ad1 T'.heap (locs ++ L) ce q u1 Z' u2 u3 u4 T' rfl X'
    exact ⟨t, hstep₁ _ fun acts => by rw [doInvoke_state]; exact hst9.trans a1, b1⟩
/-- not caught here -/
theorem nq_thr {E : String} {σ1 : nq_S} {ad1 : Nat → Nat} {H1 : Heap} {locs1 : List Loc} {ce : Cell} {q9 : Addr} {rest : List Value} (F : nq_Fx G l p R s m args meth c A ad0 d mc ms y) (hh : y.2.2.2.2 = []) (hq : Q (.inr E) σ1) (Z : nq_Z G s A y.2.2.1 n0 ad0 ad1 σ1 lv H1 locs1 ls) (h1 : H1[q9]? = some ce) (h2 : ce.vm = .none) (h3 : s.vm.findClass E = some ce.cls) (h4 : cells ≤ mc + 1) (h5 : slots ≤ ms + 6) :
    nq_WX p l e R s m args below meth c H1 locs1 cells slots (nq_MQ G A n0 ad0 Q below s mc ms) (F0 m pc ls rest) q9 := by
  obtain ⟨z1, z2, z3, z4, z5, z6, z7⟩ := Z
  have ht := F.2.1.2.2
  rw [hh] at ht
  intro T hT X
  obtain ⟨st1, hrun, hend, hW, hsm⟩ := X.leaveThrown q9 (g := F0 m pc ls rest) rfl rfl rfl (fun x hx => by rw [ht] at hx; cases hx) F.2.1.1
  exact ⟨_, st1, .threw q9, hrun, hend, σ1, ad1, locs1, ⟨hW, hsm.mono h4 h5, z5.2.2⟩, ⟨z1, z2, by show va_P _ _ _ T.heap; rw [hT]; exact z3, z4, z6, z5.F (by show T.heap = _; exact hT)⟩, Or.inr ⟨E, q9, ce, rfl, hq, by show T.heap[q9]? = _; rw [hT]; exact h1, h2, h3⟩⟩
end NQC
section NQD
variable {G : nq_G} {d kc ks : Nat} {y y' : nq_M} {pc pc' : Nat} {lv : List (Option Value)} {st : List Value} {σ : nq_S} {Q Q1 : nq_Q}
theorem nq_hn {y' : nq_M} {n : Nat} (h : (parseMethodDescriptor y'.1.desc).map (fun d => d.parameters.length) = some n) : ∀ sig, parseMethodDescriptor y'.1.desc = some sig → n = sig.parameters.length := fun sig hs => by
  rw [hs] at h
  exact (Option.some.inj h).symm
/-- to the callee's entry: a method of an object -/
theorem nq_goV {l : Launch} {p : Program} {e : Env} {R : Room} {s : State} {m : MethodId} {args : Array Value} {below : List Frame} {meth : Method} {c : Code} {locs : List Loc} {cells slots : Nat} {own : String} {ix n : Nat} {b : Addr} {H : Heap} {As rest : List Value} {ls : Array Slot} (hx : p.tables.exec = Jvm.exec) (hown : s.vm.findClass own = some m.cls) (hm : ∀ {w}, w ∈ nq_T → w.before args s = true) (hlk : nq_ClV own ix y' n) (hn : As.length = n)
    (hrecv : ∃ cell : Cell, H[b]? = some cell ∧ cell.vm.isStatics = false ∧ s.vm.findClass y'.1.cls = some cell.cls) (hd : decode c.code pc = .ok (.invokevirtual ix, 3)) :
    ∀ T : State, T.heap = H → Stand p l e R s m args below meth c T locs cells slots → ∃ (vm₁ : Vm) (mk : MethodId), Stand p l e R s m args below meth c (T.setVm vm₁) locs cells slots ∧ (T.setVm vm₁).methodNamed? y'.1 = some mk ∧
      ∀ target, (∀ acts, Steps p.tables e below (doInvoke e ((T.setVm vm₁).setTop (F0 m pc ls rest)) acts mk (Value.ref b :: As).toArray).1 target) → Steps p.tables e below (T.setTop (F0 m pc ls (As.reverse ++ .ref b :: rest))) target := by
  intro T hT X
  obtain ⟨⟨l1, l2, l3, l4, l5, l6⟩, l7, l8, l9⟩ := hlk
  have hco : nq_co y' = .code y'.1 y'.2.1 y'.2.2.1 y'.2.2.2.1 := by simp only [nq_co, l7]
  obtain ⟨cellB, hcB, hoB, hclB⟩ := hrecv
  obtain ⟨mk, methM, hnamed, hmethM, hstM, habM⟩ := Cond.instanceMethod_spec (hm l8)
  have hcode := hm l1
  rw [hco] at hcode
  obtain ⟨methM', cM, hmethM', -, -, -, -, -, -, hsigM⟩ := Cond.code_spec hnamed hcode
  cases hmethM.symm.trans hmethM'
  obtain ⟨c2, r2, m2, q1, q2, q3, q4, kP, hkP, hkPi⟩ := Cond.selects_spec (hm l9)
  cases hclB.symm.trans q1
  cases (State.methodFound?_of_named hnamed l4).symm.trans q2
  cases hnamed.symm.trans q3
  have hselP : selectMethod e.platform s.vm cellB.cls mk = .method mk := by rw [Launch.admits_selectMethod X.admits]; exact q4
  obtain ⟨vm₁, X₁, hstep₁⟩ := X.invokevirtual hx hown (hm l2) hnamed hmethM hstM hkP hkPi l4 (a := b) (cell := cellB) (by rw [hT]; exact hcB)
    (fun z h => by rw [h] at hoB; cases hoB) hselP hmethM habM hkP hkPi (g := F0 m pc ls (As.reverse ++ .ref b :: rest)) rfl (argsL := As) (rest := rest) (hn.trans (nq_hn l5 _ hsigM)) rfl hd
  exact ⟨vm₁, mk, X₁, X₁.named hnamed, hstep₁⟩
/-- .. a static one -/
theorem nq_goS {l : Launch} {p : Program} {e : Env} {R : Room} {s : State} {m : MethodId} {args : Array Value} {below : List Frame} {meth : Method} {c : Code} {locs : List Loc} {cells slots : Nat} {own : String} {ix n : Nat} {H : Heap} {As rest : List Value} {ls : Array Slot} (hx : p.tables.exec = Jvm.exec) (hown : s.vm.findClass own = some m.cls) (hm : ∀ {w}, w ∈ nq_T → w.before args s = true) (hlk : nq_Cl own ix y' n) (hst : Cond.static y'.1 ∈ nq_T) (hn : As.length = n) (hd : decode c.code pc = .ok (.invokestatic ix, 3)) :
    ∀ T : State, T.heap = H → Stand p l e R s m args below meth c T locs cells slots → ∃ (vm₁ : Vm) (mk : MethodId), Stand p l e R s m args below meth c (T.setVm vm₁) locs cells slots ∧ (T.setVm vm₁).methodNamed? y'.1 = some mk ∧
      ∀ target, (∀ acts, Steps p.tables e below (doInvoke e ((T.setVm vm₁).setTop (F0 m pc ls rest)) acts mk As.toArray).1 target) → Steps p.tables e below (T.setTop (F0 m pc ls (As.reverse ++ rest))) target := by
  intro T hT X
  obtain ⟨l1, l2, l3, l4, l5, l6⟩ := hlk
  have hcode := hm l1
  have hres : ∃ (mk : MethodId) (methM : Method), s.methodNamed? y'.1 = some mk ∧ s.vm.method? mk = some methM ∧ parseMethodDescriptor y'.1.desc = some methM.sig := by
    unfold nq_co at hcode
    split at hcode
    · obtain ⟨mk, hnamed⟩ := Cond.code_named hcode
      obtain ⟨methM, cM, hmethM, -, -, -, -, -, -, hsigM⟩ := Cond.code_spec hnamed hcode
      exact ⟨mk, methM, hnamed, hmethM, hsigM⟩
    · obtain ⟨mk, methM, cM, hnamed, hmethM, -, -, -, -, -, -, hsigM⟩ := Cond.codeWith_spec hcode
      exact ⟨mk, methM, hnamed, hmethM, hsigM⟩
  obtain ⟨mk, methM, hnamed, hmethM, hsigM⟩ := hres
  have hstatic : methM.isStatic = true := Cond.static_spec hnamed hmethM (hm hst)
  obtain ⟨kP, hkP, -⟩ := className_of_methodNamed hnamed
  have hinitP : kP.init = .initialized := Cond.initialized_spec (findClass_of_methodNamed hnamed) hkP (hm l3)
  obtain ⟨vm₁, X₁, hstep₁⟩ := X.invokestatic hx hown (hm l2) hnamed hmethM hstatic hkP hinitP l4 (g := F0 m pc ls (As.reverse ++ rest)) rfl (argsL := As) (rest := rest) (hn.trans (nq_hn l5 _ hsigM)) rfl hd
  exact ⟨vm₁, mk, X₁, X₁.named hnamed, hstep₁⟩
theorem nq_callV {mc' ms' ix b ci n : Nat} {fs As rest : List Value} {r : vw_C} (hd : decode y.2.1 pc = .ok (.invokevirtual ix, 3)) (hp : pc + 3 = pc') (hlk : nq_ClV y.1.cls ix y' n) (hh : y.2.2.2.2 = []) (hσ : σ[b]? = some (.inr (ci, fs))) (hr : nq_cl[ci]? = some r) (hrc : r.1 = y'.1.cls) (hst9 : st = As.reverse ++ .ref b :: rest) (hn : As.length = n) (hcat : (rest.map fun v => v.category).sum ≤ 8)
    (hM : nq_JM G d mc' ms' y' (.ref b :: As) σ Q1) (hx : ∀ E σ1, Q1 (.inr E) σ1 → Q (.inr E) σ1) (k : ∀ v σ1, Q1 (.inl v) σ1 → nq_J G (d + 1) kc ks y pc' lv (v.toList ++ rest) σ1 Q) : nq_J G (d + 1) (kc + mc') (ks + ms') y pc lv st σ Q := by
  subst hp; subst hst9
  intro l p e R s m args below meth c A n0 ad0 mc ms F ad H locs cells slots ls Z hst hc hs
  have hm : ∀ {w}, w ∈ nq_T → w.before args s = true := fun h => F.1.2.2.2.2.2.2 _ (List.mem_cons_of_mem _ h)
  have hav : nq_oks σ.length (.ref b :: As) := hst.of (by intro v hv; simp only [List.mem_append, List.mem_reverse, List.mem_cons] at hv ⊢; rcases hv with h | h <;> simp [h])
  have hrest : nq_oks σ.length rest := hst.of (by intro v hv; simp [hv])
  have hrecv := va_recv F.2.2.2.1 Z.2.2.1 hr (nq_ws_at (ad := ad) (tc := G.2.1) hσ)
  rw [hrc] at hrecv
  have hmap : (As.reverse ++ .ref b :: rest).map (nq_cv ad) = (As.map (nq_cv ad)).reverse ++ .ref (ad b) :: rest.map (nq_cv ad) := by simp [nq_cv]
  have hd' : decode c.code pc = .ok (.invokevirtual ix, 3) := by rw [F.1.2.2.1]; exact hd
  rw [hmap]
  exact nq_call F Z hM hlk.1.1 hlk.1.2.2.1 hlk.1.2.2.2.2.2 hav hrest hcat hd' (by omega) (by omega) (nq_goV (As := As.map (nq_cv ad)) F.1.2.1 F.1.2.2.2.2.2.1 hm hlk (by rw [List.length_map]; exact hn) hrecv hd')
    (fun v σ1 ad1 H1 locs1 hq Z1 hok => k v σ1 hq F Z1 hok (by omega) (by omega)) (fun E σ1 ad1 H1 locs1 ce q9 hq Z1 h1 h2 h3 => nq_thr F hh (hx E σ1 hq) Z1 h1 h2 h3 (by omega) (by omega))
theorem nq_callS {mc' ms' ix n : Nat} {As rest : List Value} (hd : decode y.2.1 pc = .ok (.invokestatic ix, 3)) (hp : pc + 3 = pc') (hlk : nq_Cl y.1.cls ix y' n) (hsta : Cond.static y'.1 ∈ nq_T) (hh : y.2.2.2.2 = []) (hst9 : st = As.reverse ++ rest) (hn : As.length = n) (hcat : (rest.map fun v => v.category).sum ≤ 8)
    (hM : nq_JM G d mc' ms' y' As σ Q1) (hx : ∀ E σ1, Q1 (.inr E) σ1 → Q (.inr E) σ1) (k : ∀ v σ1, Q1 (.inl v) σ1 → nq_J G (d + 1) kc ks y pc' lv (v.toList ++ rest) σ1 Q) : nq_J G (d + 1) (kc + mc') (ks + ms') y pc lv st σ Q := by
  subst hp; subst hst9
  intro l p e R s m args below meth c A n0 ad0 mc ms F ad H locs cells slots ls Z hst hc hs
  have hm : ∀ {w}, w ∈ nq_T → w.before args s = true := fun h => F.1.2.2.2.2.2.2 _ (List.mem_cons_of_mem _ h)
  have hav : nq_oks σ.length As := hst.of (by intro v hv; simp [hv])
  have hrest : nq_oks σ.length rest := hst.of (by intro v hv; simp [hv])
  have hmap : (As.reverse ++ rest).map (nq_cv ad) = (As.map (nq_cv ad)).reverse ++ rest.map (nq_cv ad) := by simp
  have hd' : decode c.code pc = .ok (.invokestatic ix, 3) := by rw [F.1.2.2.1]; exact hd
  rw [hmap]
  exact nq_call F Z hM hlk.1 hlk.2.2.1 hlk.2.2.2.2.2 hav hrest hcat hd' (by omega) (by omega) (nq_goS (As := As.map (nq_cv ad)) F.1.2.1 F.1.2.2.2.2.2.1 hm hlk hsta (by rw [List.length_map]; exact hn) hd')
    (fun v σ1 ad1 H1 locs1 hq Z1 hok => k v σ1 hq F Z1 hok (by omega) (by omega)) (fun E σ1 ad1 H1 locs1 ce q9 hq Z1 h1 h2 h3 => nq_thr F hh (hx E σ1 hq) Z1 h1 h2 h3 (by omega) (by omega))
/-- a contract that never throws, in the kit's words -/
theorem nq_JM.met {mc' ms' : Nat} {av : List Value} (hM : nq_JM G d mc' ms' y' av σ Q1) (hx : ∀ E σ1, ¬ Q1 (.inr E) σ1) (l : Launch) (hl : l.stackTraces = false) (ad : Nat → Nat) (sz : Nat) :
    Met l y'.1 (nq_w y') (nq_rm d mc' ms') (va_Pc (av.map (nq_cv ad)) (fun U => U.heap.size = sz ∧ nq_Wd G ad σ av sz U)) (fun _ st o t => nq_OK G (va_A (nq_ws ad G.2.1 σ) sz) σ.length ad Q1 mc' ms' st o t) (mc' + 1) (ms' + 6) (va_A (nq_ws ad G.2.1 σ) sz) := by
  intro p e ha hc hk s m args below h1 h2 h3 h4
  obtain ⟨t, o, a1, a2, a3, a4⟩ := hM l hl ad sz p e ha hc hk s m args below h1 h2 h3 h4
  refine ⟨t, o, a1, a2, a3, a4, ?_⟩
  obtain ⟨σ1, ad1, L, ⟨w1, w2, w3⟩, -, w4⟩ := a4
  rcases w4 with ⟨v, rfl, -, -⟩ | ⟨E, q, ce, -, u1, -⟩
  · exact ⟨L, ⟨⟨_, rfl⟩, w1, w2.mono (Nat.le_succ _) (Nat.le_add_right _ _)⟩, w3⟩
  · exact absurd u1 (hx E σ1)
theorem nq_callI {mc' ms' ix b n : Nat} {As rest : List Value} (hd : decode y.2.1 pc = .ok (.invokespecial ix, 3)) (hp : pc + 3 = pc') (hlk : nq_ClI y.1.cls ix y' n) (hst9 : st = As.reverse ++ .ref b :: rest) (hn : As.length = n) (hcat : (rest.map fun v => v.category).sum ≤ 8)
    (hM : nq_JM G d mc' ms' y' (.ref b :: As) σ Q1) (hx : ∀ E σ1, ¬ Q1 (.inr E) σ1) (k : ∀ v σ1, Q1 (.inl v) σ1 → nq_J G (d + 1) kc ks y pc' lv (v.toList ++ rest) σ1 Q) : nq_J G (d + 1) (kc + mc' + 1) (ks + ms' + 6) y pc lv st σ Q := by
  subst hp; subst hst9
  intro l p e R s m args below meth c A n0 ad0 mc ms F ad H locs cells slots ls Z hst hc hs
  have hm : ∀ {w}, w ∈ nq_T → w.before args s = true := fun h => F.1.2.2.2.2.2.2 _ (List.mem_cons_of_mem _ h)
  obtain ⟨l1, l2, l3, l4, l5, l6, l7, l8, l9, l10⟩ := hlk
  have hco : nq_co y' = .code y'.1 y'.2.1 y'.2.2.1 none := by simp only [nq_co, l7, l10]
  have f1 := F.2.2.1.1
  have f2 := F.2.2.1.2.1
  simp only [nq_fr, nq_lo] at f1 f2
  have hav : nq_oks σ.length (.ref b :: As) := hst.of (by intro v hv; simp only [List.mem_append, List.mem_reverse, List.mem_cons] at hv ⊢; rcases hv with h | h <;> simp [h])
  have hrest : nq_oks σ.length rest := hst.of (by intro v hv; simp [hv])
  obtain ⟨z1, z2, z3, z4, z5, z6, z7⟩ := id Z
  have hB : ∀ q, va_A (nq_ws ad G.2.1 σ) H.size q → A q := fun q h => by
    rcases h with ⟨k, e9, h⟩ | h
    · exact z4.2 k _ h
    · exact F.2.2.2.2.1 q (Nat.le_trans z5.1 h)
  have pp : PreS s H (va_Pc ((.ref b :: As).map (nq_cv ad)) (fun U => U.heap.size = H.size ∧ nq_Wd G ad σ (.ref b :: As) H.size U)) (.ref (ad b) :: As.map (nq_cv ad)) := by
    refine ⟨fun a U g mk q => ?_, fun U hU hW => ?_⟩
    · obtain ⟨q1, q2, q3, q4, q5, q6, q7, q8⟩ := q
      exact ⟨q1, q2, q3, va_K.moved (u := U) (U := U.calling g mk a) (Vm.Alike.refl U.vm) q4, q5, q6, q7, q8.blind⟩
    · exact ⟨rfl, by rw [hU], by rw [hU]; exact z3, va_K.moved hW.alike F.2.2.2.1, z4.weaken (fun _ _ _ _ => trivial), z6, hav, (F.2.2.2.2.2.ag z2).go hW hU z5 hB⟩
  have hmap : (As.reverse ++ .ref b :: rest).map (nq_cv ad) = (As.map (nq_cv ad)).reverse ++ .ref (ad b) :: rest.map (nq_cv ad) := by simp [nq_cv]
  have run : va_Run p l e R s m args below meth c H locs cells slots (mc' + 1) (ms' + 6) (F0 m pc ls ((As.reverse ++ .ref b :: rest).map (nq_cv ad))) (rest.map (nq_cv ad)) ((fun _ st o t => nq_OK G (va_A (nq_ws ad G.2.1 σ) H.size) σ.length ad Q1 mc' ms' st o t) (Value.ref (ad b) :: As.map (nq_cv ad)).toArray) (va_A (nq_ws ad G.2.1 σ) H.size) := by
    rcases l2 with l2 | ⟨host, l2⟩
    · exact va_runI (b := ad b) (As := As.map (nq_cv ad)) (n := n) (bytes := y'.2.1) (maxL := y'.2.2.1) (Ts := nq_w y) ⟨F.1.2.1, F.1.2.2.1, F.1.2.2.2.2.1, F.1.2.2.2.2.2.1, F.1.2.2.2.2.2.2⟩ (hM.met hx l F.1.1 ad H.size)
        ⟨⟨rfl, rfl, by simp only [nq_rm, nq_fr]; omega, by simp only [nq_rm, nq_lo]; omega, nq_pay F.1.2.2.2.2.2.2 l1, by rw [← hco]; exact List.mem_cons_self, by rw [← hco]; exact hm l1, hm l3, l4, nq_hn l5, hm l2⟩, l9, hm l8⟩ pp rfl (by rw [List.length_map]; exact hn) z7.2.1 hmap (lv_room (by rw [nq_cats]; exact hcat)) hd
        (by rw [F.2.2.1.2.2.1, F.2.2.1.2.2.2]; omega)
    · exact va_runIN (b := ad b) (As := As.map (nq_cv ad)) (n := n) (bytes := y'.2.1) (maxL := y'.2.2.1) (Ts := nq_w y) (host := host) ⟨F.1.2.1, F.1.2.2.1, F.1.2.2.2.2.1, F.1.2.2.2.2.2.1, F.1.2.2.2.2.2.2⟩ (hM.met hx l F.1.1 ad H.size)
        ⟨⟨⟨rfl, rfl, by simp only [nq_rm, nq_fr]; omega, by simp only [nq_rm, nq_lo]; omega, nq_pay F.1.2.2.2.2.2.2 l1, by rw [← hco]; exact List.mem_cons_self⟩, by rw [← hco]; exact hm l1, hm l3, l4, nq_hn l5, va_Nw.use rfl (F.2.2.2.2.2.1 _ l2)⟩, l9, hm l8⟩ pp rfl (by rw [List.length_map]; exact hn) z7.2.1 hmap (lv_room (by rw [nq_cats]; exact hcat)) hd
        (by rw [F.2.2.1.2.2.1, F.2.2.1.2.2.2]; omega)
  intro T hT X
  obtain ⟨v, st₀, t, T', L, h0, X', hL, e1, e2, hOK, stp⟩ := run T hT X
  obtain ⟨σ1, ad1, L1, ⟨w1, w2, w3⟩, ⟨v1, v2, v3, v4, v5, v6⟩, w4⟩ := hOK
  rcases w4 with ⟨v', hv, u1, u2⟩ | ⟨E, q, ce, -, u1, -⟩
  · have hv9 : v = v'.map (nq_cv ad1) := by cases hv; rfl
    subst hv9
    obtain ⟨k1, k2⟩ := v6
    rw [h0] at k1 k2
    have hS' : va_S A s.heap T'.heap (locs ++ L) := ⟨Nat.le_trans z5.1 (by rw [e1]; exact k1), fun q g1 g2 => by rw [e1, k2 q (Nat.lt_of_lt_of_le g1 z5.1) (fun z => g2 (hB q z))]; exact z5.2.1 q g1 g2, fun q hq => by
      rcases List.mem_append.mp hq with h | h
      · exact z5.2.2 q h
      · exact hB _ (hL q h)⟩
    obtain ⟨t2, a1, b1⟩ := k v' σ1 u1 F (e := e) (below := below) ⟨Nat.le_trans z1 v1, z2.tr v2 z1, by rw [e1]; exact v3, v4.weaken (fun k q _ h => hB q.1 h), hS', v5, z7.le v1 v2⟩ (u2.app (hrest.le v1)) (cells := cells + (mc' + 1)) (slots := slots + (ms' + 6)) (by omega) (by omega) T' rfl X'
    refine ⟨t2, stp t2 ?_, b1⟩
    have e9 : (v'.map (nq_cv ad1)).toList ++ rest.map (nq_cv ad) = (v'.toList ++ rest).map (nq_cv ad1) := by
      rw [List.map_append, nq_map_ag v2 hrest]
      cases v' <;> rfl
    rw [e9]
    exact a1
  · exact absurd u1 (hx E σ1)
/-- Object() -/
theorem nq_obj {ix a : Nat} (hd : decode y.2.1 pc = .ok (.invokespecial ix, 3)) (hp : pc + 3 = pc') (h1 : Cond.methodLink y.1.cls ix Lib.objectInit ∈ nq_T) (h2 : Cond.instanceMethod Lib.objectInit ∈ nq_T) (h3 : Cond.code Lib.objectInit ⟨#[0xb1]⟩ 1 none ∈ nq_T) (hcat : (st.map fun v => v.category).sum ≤ 8)
    (k : nq_J G d kc ks y pc' lv st σ Q) : nq_J G d kc ks y pc lv (.ref a :: st) σ Q := by
  subst hp
  intro l p e R s m args below meth c A n0 ad0 mc ms F ad H locs cells slots ls Z hst hc hs
  have hm : ∀ {w}, w ∈ nq_T → w.before args s = true := fun h => F.1.2.2.2.2.2.2 _ (List.mem_cons_of_mem _ h)
  have f1 := F.2.2.1.1
  have f2 := F.2.2.1.2.1
  simp only [nq_fr, nq_lo] at f1 f2
  refine W.objInit F.1.2.1 F.1.2.2.1 F.1.2.2.2.2.2.1 (hm h1) (hm h2) (hm h3) rfl (by rw [F.1.2.2.2.2.1]; exact Z.2.2.2.2.2.2.2.1) rfl hd (by omega) ?_ (k F Z hst.tl hc hs)
  show 2 * 0 + _ + 12 ≤ _
  rw [nq_cats]
  omega
/-- what a return says -/
def nq_Rc (G : nq_G) (A : Nat → Prop) (n0 : Nat) (ad0 : Nat → Nat) (Q : nq_Q) : Array Value → State → Outcome → State → Prop := fun _ st o t =>
  ∃ (v : Option Value) (σ : nq_S) (ad : Nat → Nat), o = .returned (v.map (nq_cv ad)) ∧ Q (.inl v) σ ∧ nq_oks σ.length v.toList ∧ n0 ≤ σ.length ∧ nq_ag n0 ad0 ad ∧ va_P G.1 nq_cl (nq_ws ad G.2.1 σ) t.heap ∧ va_D A (nq_ws ad G.2.1 σ) ∧ nq_ok σ ∧ va_F A st t
theorem nq_ret {l : Launch} {p : Program} {e : Env} {R : Room} {s : State} {m : MethodId} {args : Array Value} {below : List Frame} {meth : Method} {c : Code} {H : Heap} {locs : List Loc} {cells slots mc ms n0 : Nat} {A : Nat → Prop} {ad0 : Nat → Nat} {g : JFrame} (k : W p l e R s m args below meth c H locs cells slots (MQ below (nq_Rc G A n0 ad0 Q) args s mc ms A) g) : W p l e R s m args below meth c H locs cells slots (nq_MQ G A n0 ad0 Q below s mc ms) g := by
  intro T hT X
  obtain ⟨t, a1, o, b1, b2, ⟨v, σ1, ad1, c1, c2, c3, c4, c5, c6, c7, c8, c9⟩, L, ⟨-, f1, f2⟩, f3⟩ := k T hT X
  subst c1
  exact ⟨t, a1, _, b1, b2, σ1, ad1, L, ⟨f1, f2, f3⟩, ⟨c4, c5, c6, c7, c8, c9⟩, Or.inl ⟨v, rfl, c2, c3⟩⟩
theorem nq_iret {x : Int32} (hd : decode y.2.1 pc = .ok (.ireturn, 1)) {ty : FieldType} (hr : y.2.2.2.1 = some ty) (hn : narrow ty (.int x) = .int x) (hq : Q (.inl (some (.int x))) σ) : nq_J G d kc ks y pc lv [.int x] σ Q := by
  intro l p e R s m args below meth c A n0 ad0 mc ms F ad H locs cells slots ls Z hst hc hs
  obtain ⟨z1, z2, z3, z4, z5, z6, z7⟩ := Z
  refine W.widen (k := mc) (n := ms) (by omega) (by omega) ?_
  exact nq_ret (W.zret (Qc := nq_Rc G A n0 ad0 Q) F.1.2.1 F.1.2.2.1 (F.1.2.2.2.1.trans hr) hn (fun t ht hW => ⟨some (.int x), σ, ad, rfl, hq, hst, z1, z2, by rw [ht]; exact z3, z4, z6, z5.F ht⟩) z5.2.2 hd F.2.1.1)
theorem nq_vret (hd : decode y.2.1 pc = .ok (.return_, 1)) (hr : y.2.2.2.1 = none) (hq : Q (.inl none) σ) : nq_J G d kc ks y pc lv [] σ Q := by
  intro l p e R s m args below meth c A n0 ad0 mc ms F ad H locs cells slots ls Z hst hc hs
  obtain ⟨z1, z2, z3, z4, z5, z6, z7⟩ := Z
  refine W.widen (k := mc) (n := ms) (by omega) (by omega) ?_
  exact nq_ret (W.vret (Qc := nq_Rc G A n0 ad0 Q) F.1.2.1 F.1.2.2.1 (F.1.2.2.2.1.trans hr) (fun t ht hW => ⟨none, σ, ad, rfl, hq, nq_oks.nil, z1, z2, by rw [ht]; exact z3, z4, z6, z5.F ht⟩) z5.2.2 hd F.2.1.1)
end NQD
