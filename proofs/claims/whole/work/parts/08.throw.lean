/-! THROWS -/
/-- the same frame, seen from where it stands: as if its method had been called in this heap -/
theorem nq_rebase {p : Program} {l : Launch} {e : Env} {R R' : Room} {s : State} {m : MethodId} {args : Array Value} {below : List Frame} {meth : Method} {c : Code} {T : State} {locs : List Loc} {cells slots : Nat} (X : Stand p l e R s m args below meth c T locs cells slots)
    (h1 : R'.frames ≤ R.frames) (h2 : R'.locals ≤ R.locals) (h3 : cells + R'.cells ≤ R.cells) (h4 : slots + R'.slots ≤ R.slots) : Stand p l e R' (T.setFrames (.invoking m args :: below)) m args below meth c T [] 0 0 := by
  obtain ⟨g₀, hg0⟩ := Option.isSome_iff_exists.mp X.here.top
  obtain ⟨r, hr⟩ := State.topJava?_eq_some.mp hg0
  obtain ⟨t, ht, -⟩ := State.frames_cons hr
  have hcur : T.cur < T.threads.size := State.cur_lt_of_frames hr
  have hfr : (T.setFrames (.invoking m args :: below)).frames = .invoking m args :: below := State.frames_setFrames _ hcur
  have hal := X.warmed.alike
  refine ⟨X.admits, X.cas, X.clock, hfr, ?_, ?_, X.method', X.code, X.here, X.tail, State.WarmedH.refl T, ?_, ?_, ?_⟩
  · have hroom := X.room
    have hbook := X.book
    have hsz := X.heapSize
    have hus := X.used
    have hl1 := State.localsInUse_invoking X.frames X.method X.code
    have hl2 := State.localsInUse_invoking hfr X.method' X.code
    have hlim : e.platform.stackLimits (T.setFrames (.invoking m args :: below)).me = e.platform.stackLimits s.me := by rw [State.stackLimits_setFrames]; exact X.limits
    have hby : (T.setFrames (.invoking m args :: below)).me.stackBytes = s.me.stackBytes := by rw [State.stackBytes_setFrames]; exact X.bytes
    simp only [State.hasRoom, Bool.and_eq_true, decide_eq_true_eq] at hroom ⊢
    rw [hl1] at hroom
    rw [hl2, hlim, hby, hfr]
    rw [X.frames] at hroom
    obtain ⟨⟨⟨⟨a1, a2, a3, a4, a5, a6⟩, a7⟩, a8⟩, a9⟩ := hroom
    have b1 : (T.setFrames (.invoking m args :: below)).heap.size = T.heap.size := rfl
    have b2 : (T.setFrames (.invoking m args :: below)).slotsUsed = T.slotsUsed := rfl
    rw [b1, b2]
    exact ⟨⟨⟨⟨by omega, by omega, by omega, by omega, by omega, a6⟩, by omega⟩, by omega⟩, hbook⟩
  · have hh := X.hears
    cases below with
    | nil =>
      simp only [State.hears] at hh ⊢
      show (T.vm.method? m).any _ = true
      rw [hal.method?]
      exact hh
    | cons b0 bs =>
      cases b0 <;> first
        | rfl
        | (simp only [State.hears] at hh ⊢; show ((T.code? _).bind _).isSome = true; rw [State.code?_eq, hal.method?, ← State.code?_eq]; exact hh)
        | (simp only [State.hears] at hh ⊢; show (T.vm.method? m).any _ = true; rw [hal.method?]; exact hh)
  · rw [State.stackLimits_setFrames]
  · rw [State.stackBytes_setFrames]
  · obtain ⟨-, q2, q3, q4, q5, q6⟩ := State.sameButNew.refl T ht
    refine ⟨?_, q2, q3, q4, q5, q6⟩
    show T = { (T.setFrames (.invoking m args :: below)).setFrames T.frames with heap := T.heap, slotsUsed := T.slotsUsed }
    rw [State.setFrames_setFrames, State.setFrames_self ht]
/-- 'throw new E()': the words -/
def nq_Tl (own : String) (ik ic : Nat) (E : String) (names : List String) : Prop := names.length ≤ 6 ∧ Bundle.fit E = true ∧ (∀ n ∈ names, Bundle.fit n = true) ∧ Cond.classLink own ik E ∈ nq_T ∧ Cond.initialized E ∈ nq_T ∧ Cond.instantiable E 6 ∈ nq_T ∧
  ∀ w ∈ Bundle.ownAtoms0 own ic E names, w ∈ nq_T ∨ w ∈ nq_N ∨ w = .laysStatic Bundle.tN "UNASSIGNED_STACK" Bundle.steD ∨ w = .laysStatic Bundle.tN "SUPPRESSED_SENTINEL" Bundle.listD ∨ w = .isRef (.static Bundle.tN "UNASSIGNED_STACK" Bundle.steD) ∨ w = .isRef (.static Bundle.tN "SUPPRESSED_SENTINEL" Bundle.listD)
theorem nq_same0 {s U : State} {k n : Nat} (h : s.sameButNew U [] k n) {q : Nat} (hq : q < s.heap.size) : U.heap[q]? = s.heap[q]? := by
  obtain ⟨-, -, -, -, -, h6⟩ := h
  obtain ⟨c, hc⟩ : ∃ c, s.heap[q]? = some c := ⟨_, Array.getElem?_eq_getElem hq⟩
  obtain ⟨c', h1, h2, h3, h4⟩ := h6 q c hc
  have e : c'.slots = c.slots := by
    apply Array.ext_getElem?
    intro i
    exact h4 i (fun z => by cases z)
  rw [h1, hc, h2, e]
section NQT
variable {G : nq_G} {d kc ks : Nat} {y y' : nq_M} {pc pc' : Nat} {lv : List (Option Value)} {st : List Value} {σ : nq_S} {Q Q1 : nq_Q}
theorem nq_throw {ik ic : Nat} {E : String} {names : List String} (hlk : nq_Tl y.1.cls ik ic E names) (hh : y.2.2.2.2 = []) (hcat : (st.map fun v => v.category).sum ≤ 20) (d0 : decode y.2.1 pc = .ok (.new ik, 3)) (d3 : decode y.2.1 (pc + 3) = .ok (.dup, 1)) (d4 : decode y.2.1 (pc + 4) = .ok (.invokespecial ic, 3)) (d7 : decode y.2.1 (pc + 7) = .ok (.athrow, 1)) (hq : Q (.inr E) σ) : nq_J G d kc ks y pc lv st σ Q := by
  intro l p e R s m args below meth c A n0 ad0 mc ms F ad H locs cells slots ls Z hst hc hs
  obtain ⟨l0, l1, l2, l3, l4, l5, l6⟩ := hlk
  obtain ⟨z1, z2, z3, z4, z5, z6, z7⟩ := Z
  have f1 := F.2.2.1.1
  have f2 := F.2.2.1.2.1
  simp only [nq_fr, nq_lo] at f1 f2
  have ht := F.2.1.2.2
  rw [hh] at ht
  have hb := F.1.2.2.1
  intro T hT X
  have htr : e.platform.stackTraces = false := (show e.platform.stackTraces = l.stackTraces by rw [X.admits.platform]).trans F.1.1
  have X0 := nq_rebase X (R' := { frames := 12, cells := 1, slots := 6, locals := 300 }) (by show 12 ≤ _; omega) (by show 300 ≤ _; omega) (by show cells + 1 ≤ _; rw [F.2.2.1.2.2.1]; omega) (by show slots + 6 ≤ _; rw [F.2.2.1.2.2.2]; omega)
  have hXs : nq_X G ad0 A (T.setFrames (.invoking m args :: below)) (T.setFrames (.invoking m args :: below)).heap := F.2.2.2.2.2.go (U := T.setFrames (.invoking m args :: below)) X.warmed (show T.heap = H from hT) z5 (fun _ h => h)
  have hm : ∀ {w : Cond}, w ∈ nq_T → w.before args (T.setFrames (.invoking m args :: below)) = true := fun {w} h => word_at (U := T.setFrames (.invoking m args :: below)) X.warmed (good_of_word (nq_T_good w h)) (F.1.2.2.2.2.2.2 _ (List.mem_cons_of_mem _ h))
  have hown : (T.setFrames (.invoking m args :: below)).vm.findClass y.1.cls = some m.cls := by
    show T.vm.findClass y.1.cls = some m.cls
    rw [X.warmed.alike.findClass]
    exact F.1.2.2.2.2.2.1
  have hall : ∀ w ∈ Bundle.ownAtoms0 y.1.cls ic E names, w.before args (T.setFrames (.invoking m args :: below)) = true := by
    intro w hw
    rcases l6 w hw with h | h | h | h | h | h
    · exact hm h
    · exact va_Nw.use (nq_N_tab h) (hXs.1 w h)
    · rw [h]; exact hXs.2.2.2.1.lays
    · rw [h]; exact hXs.2.2.2.2.1.lays
    · rw [h]; exact hXs.2.2.2.1.isRef
    · rw [h]; exact hXs.2.2.2.2.1.isRef
  obtain ⟨vm₁, cX, kX, hfX, hkX, -, -, X₁, st1⟩ := X0.newCold F.1.2.1 (own := y.1.cls) (C := E) (index := ik) (n := 6) hown (hm l3) (hm l5) (hm l4)
    (g := F0 m pc ls (st.map (nq_cv ad))) rfl (by rw [hb]; exact d0) (Nat.le_refl 1) (Nat.le_refl 6)
  have hcellA : ((T.setVm vm₁).pushCell { cls := cX, slots := kX.instanceTypes.map defaultValue, vm := .none }).heap[T.heap.size]? = some (freshCell cX kX) := State.heap_pushCell_size _ _
  generalize hT1 : (T.setVm vm₁).pushCell { cls := cX, slots := kX.instanceTypes.map defaultValue, vm := .none } = T1 at X₁ st1 hcellA
  obtain ⟨U, hsteps, hrun, hend, hW, hsame, ce, hce, K⟩ := X₁.ctorThrow0 F.1.2.1 htr (own := y.1.cls) (cls := E) (names := names) (ic := ic) hown l1 l2 hall (fun y hy => by cases hy) hfX hkX hcellA (Nat.le_refl _)
    (g := F0 m (pc + 4) ls (.ref T.heap.size :: .ref T.heap.size :: st.map (nq_cv ad))) rfl (by rw [F.1.2.2.2.2.1]; exact z7.2.1) rfl rfl (rest := st.map (nq_cv ad)) rfl
    (by rw [hb]; exact d4) (by rw [hb]; exact d7) (fun x hx => by rw [ht] at hx; cases hx) (by show names.length + 3 < 12; omega)
    (by show 2 * 0 + _ + _ ≤ 300; rw [List.map_cons, List.sum_cons, nq_cats, show (Value.ref T.heap.size).category = 1 from rfl]; omega) F.2.1.1
  have hsame1 : s.sameButNew ({ U with vm := s.vm } : State) locs (mc + 1) (ms + 6) := by
    have h9 := (X.ends (.invoking m args :: below)).2.trans (hsame.setVm s.vm)
    rw [List.append_nil] at h9
    exact h9.mono (by omega) (by omega)
  have hkeep : ∀ q : Nat, q < H.size → U.heap[q]? = H[q]? := fun q hq => by
    have h9 := nq_same0 hsame (q := q) (by show q < T.heap.size; rw [hT]; exact hq)
    have h8 : U.heap[q]? = T.heap[q]? := h9
    rw [h8, hT]
  have hgrow : H.size ≤ U.heap.size := by
    have h9 := hsame.2.1
    have h8 : T.heap.size ≤ U.heap.size := h9
    rw [← hT]
    exact h8
  refine ⟨U, ?_, .threw T.heap.size, hrun, hend, σ, ad, locs, ⟨State.WarmedH.trans X.warmed hW, hsame1, z5.2.2⟩, ⟨z1, z2, z3.kept (fun k q hk => hkeep q.1 (z3 k q hk).lt), z4, z6, ⟨Nat.le_trans z5.1 hgrow, fun q h3 h4 => ?_⟩⟩, Or.inr ⟨E, T.heap.size, ce, rfl, hq, hce, K.vm, ?_⟩⟩
  · refine st1 _ ?_
    show Steps p.tables e below (T1.setTop (F0 m (pc + 3) ls (.ref T.heap.size :: st.map (nq_cv ad)))) _
    jvm_step X₁.here [X₁.here.top, F.1.2.1, hb, d3, Value.category]
    exact hsteps
  · rw [hkeep q (Nat.lt_of_lt_of_le h3 z5.1)]
    exact z5.2.1 q h3 h4
  · have h9 : T.vm.findClass E = some ce.cls := K.cls
    rw [X.warmed.alike.findClass] at h9
    exact h9
end NQT
