/-! METHODS WITH HANDLERS -/
theorem nq_lh.none {ad : Nat → Nat} {n nL i : Nat} {lv : List (Option Value)} {ls ls' : Array Slot} {v : Value} (h : nq_lh ad n nL lv ls) (hc : nq_c1 lv i = true)
    (h' : lv_has ls' nL ((i, v) :: (nq_ll ad lv).filter (fun q => !(q.1 == i) && !(q.1 + 1 == i && q.2.category == 2)))) : nq_lh ad n nL (lv.set i none) ls' := by
  refine ⟨by rw [List.length_set]; exact h.1, h'.1, h'.2.1, fun j w hj => ?_⟩
  by_cases hji : i = j
  · subst hji
    rw [List.getElem?_set_self'] at hj
    cases hq : lv[i]? <;> rw [hq] at hj <;> cases hj
  · simp [hji] at hj
    refine ⟨(h.2.2.2 j w hj).1, h'.2.2 (j, nq_cv ad w) (List.mem_cons_of_mem _ (List.mem_filter.mpr ⟨nq_ll_mem hj, ?_⟩))⟩
    have h1 : ¬ j = i := fun e => hji e.symm
    simp only [nq_cv_cat]
    by_cases h2 : j + 1 = i
    · subst h2
      simp only [nq_c1, hj] at hc
      simp only [beq_iff_eq] at hc
      simp [hc]
    · simp [h1, h2]
/-- the handler that takes E at pc; the local that it is put to; what comes then -/
def nq_Ct (y : nq_M) (pc : Nat) (E : String) (i pc2 : Nat) : Prop := ∃ (pre : List (Nat × Nat × Nat × Nat)) (x : Nat × Nat × Nat × Nat) (suf : List (Nat × Nat × Nat × Nat)) (nm : String),
  y.2.2.2.2 = pre ++ x :: suf ∧ (∀ z ∈ pre, z.2.2.2 ≠ 0 ∧ ∃ nz, Cond.classLink y.1.cls z.2.2.2 nz ∈ nq_T ∧ (E, nz) ∈ nq_V) ∧ covers ⟨x.1, x.2.1, x.2.2.1, x.2.2.2⟩ pc = true ∧ x.2.2.2 ≠ 0 ∧ Cond.classLink y.1.cls x.2.2.2 nm ∈ nq_T ∧ Cond.castable E nm ∈ nq_N ∧
  ((∃ z : Fin 4, (z : Nat) = i ∧ decode y.2.1 x.2.2.1 = .ok (.astore_n z, 1) ∧ x.2.2.1 + 1 = pc2) ∨ (decode y.2.1 x.2.2.1 = .ok (.astore i, 2) ∧ x.2.2.1 + 2 = pc2)) ∧ i < y.2.2.1
section NQK
variable {G : nq_G} {d kc ks : Nat} {y y' : nq_M} {pc pc' : Nat} {lv : List (Option Value)} {st : List Value} {σ : nq_S} {Q Q1 : nq_Q}
theorem nq_mkH {av : List Value} (hy : plainName y.1.cls = true) {h0 : Nat × Nat × Nat × Nat} {hh0 : List (Nat × Nat × Nat × Nat)} (hh : y.2.2.2.2 = h0 :: hh0) (hn : (nq_ea av).length ≤ y.2.2.1) (k : nq_J G d kc ks y 0 (nq_ent av y.2.2.1) [] σ Q) : nq_JM G d kc ks y av σ Q := by
  intro l hl ad sz
  have hw : nq_w y = Cond.codeWith y.1 y.2.1 y.2.2.1 y.2.2.2.1 y.2.2.2.2 :: nq_T := by simp only [nq_w, nq_co, hh]
  refine MetFree.of_bodyS (code := y.2.1) (maxLocals := y.2.2.1) (ret := y.2.2.2.1) hy ?_ ?_
  · intro args s m h hn9
    obtain ⟨m9, meth, c, hn8, h1, h2, h3, h4, -, h5, h6, -⟩ := Cond.codeWith_spec (atoms_spec (ws := nq_w y) h _ (by rw [hw]; exact List.mem_cons_self))
    cases hn9.symm.trans hn8
    exact ⟨meth, c, h1, h2, h3, h4, h5, h6⟩
  intro p e s m args below meth c s₁ B hml hv _
  have hh0 : s₁.heap = s.heap := by rw [B.state]; rfl
  have hts := atoms_spec (ws := nq_w y) B.pre
  have htab : c.exceptionTable.toList = tableOf y.2.2.2.2 := by
    obtain ⟨m9, meth9, c9, hn9, h1, h2, -, -, h6, -⟩ := Cond.codeWith_spec (hts _ (by rw [hw]; exact List.mem_cons_self))
    cases Option.some.inj (hn9.symm.trans B.named)
    cases Option.some.inj (h1.symm.trans B.method)
    cases Option.some.inj (h2.symm.trans (Stand.of_body B).code)
    rw [← h6, table_eq]
  obtain ⟨rfl, hsz, hP, hK, hD0, hok, hav, hX⟩ := hv
  subst hsz
  have hlen := nq_ea_len ad av
  have hl9 := lv_entry (av.map (nq_cv ad)) (n := y.2.2.1) (by rw [hlen]; exact hn)
  have key : W p l e (nq_rm d kc ks) s m (av.map (nq_cv ad)).toArray below meth c s.heap [] 0 0 (nq_MQ G (va_A (nq_ws ad G.2.1 σ) s.heap.size) σ.length ad Q below s kc ks) (entryFrame m (av.map (nq_cv ad)).toArray y.2.2.1) := by
    rw [lg_entry_eq]
    generalize (lg_sl (av.map (nq_cv ad)) ++ List.replicate (y.2.2.1 - (lg_sl (av.map (nq_cv ad))).length) Slot.unset).toArray = ls at hl9 ⊢
    refine k ⟨⟨hl, B.exec, B.bytes, B.returns, hml, findClass_of_methodNamed B.named, hts⟩, ⟨B.notSynchronized, (name_of_methodNamed B.named B.method).1, htab⟩, ⟨Nat.le_refl _, Nat.le_refl _, rfl, rfl⟩, hK, fun q h => Or.inr h, hX⟩
      ⟨Nat.le_refl _, nq_ag.rf, hP, hD0.self, va_S.rf, hok, ?_⟩ nq_oks.nil (Nat.le_of_eq (Nat.zero_add _)) (Nat.le_of_eq (Nat.zero_add _))
    refine ⟨by simp only [nq_ent, List.length_append, List.length_replicate]; omega, hl9.1, hl9.2.1, fun i v hi => ?_⟩
    have hi' : (nq_ea av)[i]? = some (some v) := by
      unfold nq_ent at hi
      rcases Nat.lt_or_ge i (nq_ea av).length with q | q
      · rw [List.getElem?_append_left q] at hi
        exact hi
      · rw [List.getElem?_append_right q] at hi
        rw [List.getElem?_replicate] at hi
        split at hi
        · cases hi
        · cases hi
    obtain ⟨g1, g2⟩ := nq_ea_in (ad := ad) av 0 i v hi'
    rw [Nat.zero_add] at g1
    exact ⟨hav v g2, hl9.2.2 _ g1⟩
  obtain ⟨t, a1, o, b1, b2, b3⟩ := key s₁ hh0 (Stand.of_body B)
  exact ⟨t, o, a1, b1, b2, b3⟩
/-- a row of a table of handlers whose type is linked: it takes what it can, and the entry is noted -/
theorem nq_row {QH : Handler → Pre} {EH : CtlPost} {e : Env} {db : Bool} {acts : List Action} {S : State} {f : JFrame} {a : Addr} {x : ExceptionTableEntry} {t : List ExceptionTableEntry} {cc : ClassId} {cell : Cell} (hx : covers x f.pc = true) (h0 : x.catchType ≠ 0)
    (hl : S.vm.ClassLinks e.platform f.method.cls x.catchType cc) (hcell : S.heap[a]? = some cell) (hobj : ∀ k, cell.vm ≠ .statics k) (hk : ∃ k, S.vm.classes[cell.cls]? = some k) (hc : ∃ k, S.vm.classes[cc]? = some k) :
    wp (findHandler.go f a (x :: t)) QH EH e db acts S ↔ if S.vm.assignable cell.cls cc = true then QH (.found x.handlerPc) db acts (S.setVm (S.vm.noted f.method.cls x.catchType (.cls cc))) else wp (findHandler.go f a t) QH EH e db acts (S.setVm (S.vm.noted f.method.cls x.catchType (.cls cc))) := by
  have hx9 := hx
  simp only [covers] at hx9
  obtain ⟨g1, g2⟩ := (resolveClass_links e.toSetting hl).op (op := VmOp.resolveClass f.method.cls x.catchType) rfl
  have hal : S.vm.Alike (S.vm.noted f.method.cls x.catchType (.cls cc)) := (Vm.Alike.refl S.vm).noted _ _ _
  obtain ⟨k1, hk1⟩ := hk
  obtain ⟨k2, hk2⟩ := hc
  obtain ⟨k1', hk1', -⟩ := hal.2.2 _ _ hk1
  obtain ⟨k2', hk2', -⟩ := hal.2.2 _ _ hk2
  have has : (S.vm.noted f.method.cls x.catchType (.cls cc)).assignable cell.cls cc = S.vm.assignable cell.cls cc := by rw [hal.assignable]
  cases hfit : S.vm.assignable cell.cls cc <;> rw [hfit] at has <;>
    simp [findHandler.go, hx9, h0, g1, g2, hcell, hobj, hk1', hk2', has, VmOp.dirties, VmOp.acts]
/-- the search through a table, to the row x -/
theorem nq_seek {e : Env} {s : State} {f : JFrame} {a : Addr} {cell : Cell} {cx : ClassId} (hobj : ∀ k, cell.vm ≠ .statics k) (hk0 : ∃ k, s.vm.classes[cell.cls]? = some k) (x : ExceptionTableEntry) (suf : List ExceptionTableEntry) (hx : covers x f.pc = true) (h0 : x.catchType ≠ 0) (hlx : s.vm.ClassLinks e.platform f.method.cls x.catchType cx) (hfx : s.vm.assignable cell.cls cx = true) :
    ∀ (pre : List ExceptionTableEntry), (∀ z ∈ pre, z.catchType ≠ 0 ∧ ∃ cz, s.vm.ClassLinks e.platform f.method.cls z.catchType cz ∧ s.vm.assignable cell.cls cz = false) → ∀ S : State, s.WarmedH S.vm → S.heap[a]? = some cell →
      ∃ vm', s.WarmedH vm' ∧ ∀ (QH : Handler → Pre) (EH : CtlPost) (db : Bool) (acts : List Action), wp (findHandler.go f a (pre ++ x :: suf)) QH EH e db acts S ↔ QH (.found x.handlerPc) db acts (S.setVm vm') := by
  have step : ∀ (z : ExceptionTableEntry) (cz : ClassId), s.vm.ClassLinks e.platform f.method.cls z.catchType cz → ∀ S : State, s.WarmedH S.vm →
      s.WarmedH (S.vm.noted f.method.cls z.catchType (.cls cz)) ∧ S.vm.ClassLinks e.platform f.method.cls z.catchType cz ∧ (∃ k, S.vm.classes[cell.cls]? = some k) ∧ (∃ k, S.vm.classes[cz]? = some k) := by
    intro z cz hl S hW
    obtain ⟨dk, _, _, kt, hd, _, _, _, _, hkt, _, hopen⟩ := hl.here
    obtain ⟨k0, hk0⟩ := hk0
    obtain ⟨k0', hk0', -⟩ := hW.alike.2.2 _ _ hk0
    obtain ⟨kt', hkt', -⟩ := hW.alike.2.2 _ _ hkt
    exact ⟨hW.noted hd hopen (State.rightAt_cls hl), hW.classLinks hl, ⟨k0', hk0'⟩, ⟨kt', hkt'⟩⟩
  intro pre
  induction pre with
  | nil =>
    intro _ S hW hcell
    obtain ⟨w1, w2, w3, w4⟩ := step x cx hlx S hW
    refine ⟨_, w1, fun QH EH db acts => ?_⟩
    rw [List.nil_append, nq_row hx h0 w2 hcell hobj w3 w4, if_pos (by rw [hW.alike.assignable]; exact hfx)]
  | cons z zs ih =>
    intro hp S hW hcell
    obtain ⟨q0, cz, q1, q2⟩ := hp z List.mem_cons_self
    have hp' : ∀ z' ∈ zs, z'.catchType ≠ 0 ∧ ∃ cz, s.vm.ClassLinks e.platform f.method.cls z'.catchType cz ∧ s.vm.assignable cell.cls cz = false := fun z' h => hp z' (List.mem_cons_of_mem _ h)
    by_cases hcov : covers z f.pc = true
    · obtain ⟨w1, w2, w3, w4⟩ := step z cz q1 S hW
      obtain ⟨vm', v1, v2⟩ := ih hp' (S.setVm (S.vm.noted f.method.cls z.catchType (.cls cz))) w1 hcell
      refine ⟨vm', v1, fun QH EH db acts => ?_⟩
      rw [List.cons_append, nq_row hcov q0 w2 hcell hobj w3 w4, if_neg (by rw [hW.alike.assignable, q2]; decide)]
      exact v2 QH EH db acts
    · obtain ⟨vm', v1, v2⟩ := ih hp' S hW hcell
      refine ⟨vm', v1, fun QH EH db acts => ?_⟩
      rw [List.cons_append, W.findHandler_go_skip (by simpa using hcov)]
      exact v2 QH EH db acts
/-- caught by the handler x of this method; those ahead of it don't take it -/
theorem nq_catch {l : Launch} {p : Program} {e : Env} {R : Room} {s : State} {m : MethodId} {args : Array Value} {below : List Frame} {meth : Method} {c : Code} {H : Heap} {locs : List Loc} {cells slots : Nat} {ls : Array Slot} {QF : State → Prop} {own name E : String} {ce : Cell} {q : Addr} {rest : List Value} (hown : s.vm.findClass own = some m.cls) (pre : List ExceptionTableEntry) (x : ExceptionTableEntry) (suf : List ExceptionTableEntry) (hsplit : c.exceptionTable.toList = pre ++ x :: suf)
    (hpass : ∀ z ∈ pre, z.catchType ≠ 0 ∧ ∃ nm : String, (Cond.classLink own z.catchType nm).before args s = true ∧ va_Nc E nm s) (hx : covers x pc = true) (h0 : x.catchType ≠ 0) (hlink : (Cond.classLink own x.catchType name).before args s = true) (hcast : (Cond.castable E name).before args s = true) (hcell : H[q]? = some ce) (hv : ce.vm = .none) (hcl : s.vm.findClass E = some ce.cls)
    (kk : W p l e R s m args below meth c H locs cells slots QF (F0 m x.handlerPc ls [.ref q])) : nq_WX p l e R s m args below meth c H locs cells slots QF (F0 m pc ls rest) q := by
  intro T hT X
  have hpl : e.platform.magicAccessors = ({} : Platform).magicAccessors := by rw [X.admits.platform]
  obtain ⟨c3, c4, hc3, hc4, hasg⟩ := Cond.castable_spec hcast
  cases Option.some.inj (hc3.symm.trans hcl)
  obtain ⟨c5, hc5, hcl5⟩ := Cond.classLink_spec hown hlink e.platform hpl
  cases Option.some.inj (hc4.symm.trans hc5)
  have hk0 : ∃ k, s.vm.classes[ce.cls]? = some k := by obtain ⟨k9, h9, -⟩ := Vm.findClass_spec hcl; exact ⟨k9, h9⟩
  obtain ⟨vm', w1, w2⟩ := nq_seek (e := e) (f := F0 m pc ls rest) (a := q) (cell := ce) (cx := c4) (fun k h => by rw [hv] at h; cases h) hk0 x suf hx h0 hcl5 hasg pre (fun z hz => by
      obtain ⟨z0, nm, hl1, c8, b8, h1, h2, h3⟩ := hpass z hz
      obtain ⟨c6, hc6, hcl6⟩ := Cond.classLink_spec hown hl1 e.platform hpl
      cases Option.some.inj (h1.symm.trans hcl)
      cases Option.some.inj (h2.symm.trans hc6)
      exact ⟨z0, _, hcl6, h3⟩) ((T.setTop (F0 m pc ls rest)).pushFrame (.throwing q)) X.warmed (by show T.heap[q]? = some ce; rw [hT]; exact hcell)
  have hfind : ∀ (QH : Handler → Pre) (EH : CtlPost) (db : Bool) (acts : List Action), wp (findHandler (F0 m pc ls rest) q) QH EH e db acts ((T.setTop (F0 m pc ls rest)).pushFrame (.throwing q)) ↔ QH (.found x.handlerPc) db acts (((T.setTop (F0 m pc ls rest)).pushFrame (.throwing q)).setVm vm') := fun QH EH db acts => by
    rw [W.findHandler_eq (meth := meth) (code := c) X.method' X.code, hsplit]
    exact w2 QH EH db acts
  have XV := X.noted w1
  obtain ⟨t, a1, b1⟩ := kk (T.setVm vm') hT XV
  refine ⟨t, ?_, b1⟩
  obtain ⟨hgo, hw⟩ := X.here.throwing (g := F0 m pc ls rest) q
  refine Steps.head hgo hw ?_
  have hstep : (stepThrowing e ((T.setTop (F0 m pc ls rest)).pushFrame (.throwing q)) q (.java (F0 m pc ls rest) :: T.frames.tail)).Is ((((T.setTop (F0 m pc ls rest)).pushFrame (.throwing q)).setVm vm').setFrames (.java { F0 m pc ls rest with pc := x.handlerPc, stack := [.ref q] } :: T.frames.tail)) [] := by
    simp only [stepThrowing, searchFrame, vmDo]
    generalize hr : Sem.go _ e false [] _ = res
    obtain ⟨as, rfl, ha⟩ := Sem.eq_ok_of hr (a := Handler.found x.handlerPc) (s' := (((T.setTop (F0 m pc ls rest)).pushFrame (.throwing q)).setVm vm')) (acts' := []) (by simp [hfind _ _ _ _])
    exact ⟨rfl, ha⟩
  rw [stepThread_throwing (frames_entered X.here.top _), hstep.1]
  obtain ⟨g₀, hg⟩ := Option.isSome_iff_exists.mp X.here.top
  obtain ⟨r, hr⟩ := State.topJava?_eq_some.mp hg
  have hr' : (T.setVm vm').frames = .java g₀ :: r := hr
  have e1 : (((T.setTop (F0 m pc ls rest)).pushFrame (.throwing q)).setVm vm').setFrames (.java { F0 m pc ls rest with pc := x.handlerPc, stack := [.ref q] } :: T.frames.tail) = (T.setVm vm').setTop (F0 m x.handlerPc ls [.ref q]) := by
    rw [State.setTop_of_frames _ hr', hr, State.pushFrame, State.setTop_of_frames _ hr]
    show (((T.setFrames _).setFrames _).setVm vm').setFrames _ = _
    rw [State.setFrames_setFrames]
    show ((T.setFrames _).setFrames _).setVm vm' = _
    rw [State.setFrames_setFrames]
    rfl
  rw [e1]
  exact a1
theorem nq_callVH {mc' ms' ix b ci n : Nat} {fs As rest : List Value} {r : vw_C} (hd : decode y.2.1 pc = .ok (.invokevirtual ix, 3)) (hp : pc + 3 = pc') (hlk : nq_ClV y.1.cls ix y' n) (hσ : σ[b]? = some (.inr (ci, fs))) (hr : nq_cl[ci]? = some r) (hrc : r.1 = y'.1.cls) (hst9 : st = As.reverse ++ .ref b :: rest) (hn : As.length = n) (hcat : (rest.map fun v => v.category).sum ≤ 8)
    (hM : nq_JM G d mc' ms' y' (.ref b :: As) σ Q1) (hx : ∀ E σ1, Q1 (.inr E) σ1 → ∃ i pc2, nq_Ct y pc E i pc2 ∧ nq_c1 lv i = true ∧ nq_J G (d + 1) kc ks y pc2 (lv.set i none) [] σ1 Q) (k : ∀ v σ1, Q1 (.inl v) σ1 → nq_J G (d + 1) kc ks y pc' lv (v.toList ++ rest) σ1 Q) : nq_J G (d + 1) (kc + mc' + 1) (ks + ms' + 6) y pc lv st σ Q := by
  subst hp; subst hst9
  intro l p e R s m args below meth c A n0 ad0 mc ms F ad H locs cells slots ls Z hst hc hs
  have hm : ∀ {w}, w ∈ nq_T → w.before args s = true := fun h => F.1.2.2.2.2.2.2 _ (List.mem_cons_of_mem _ h)
  have hav : nq_oks σ.length (.ref b :: As) := hst.of (by intro v hv; simp only [List.mem_append, List.mem_reverse, List.mem_cons] at hv ⊢; rcases hv with h | h <;> simp [h])
  have hrest : nq_oks σ.length rest := hst.of (by intro v hv; simp [hv])
  have hrecv := va_recv F.2.2.2.1 Z.2.2.1 hr (nq_ws_at (ad := ad) (tc := G.2.1) hσ)
  rw [hrc] at hrecv
  have hmap : (As.reverse ++ .ref b :: rest).map (nq_cv ad) = (As.map (nq_cv ad)).reverse ++ .ref (ad b) :: rest.map (nq_cv ad) := by simp [nq_cv]
  have hd' : decode c.code pc = .ok (.invokevirtual ix, 3) := by rw [F.1.2.2.1]; exact hd
  rw [hmap]
  refine nq_call F Z hM hlk.1.1 hlk.1.2.2.1 hlk.1.2.2.2.2.2 hav hrest hcat hd' (by omega) (by omega) (nq_goV (As := As.map (nq_cv ad)) F.1.2.1 F.1.2.2.2.2.2.1 hm hlk (by rw [List.length_map]; exact hn) hrecv hd')
    (fun v σ1 ad1 H1 locs1 hq Z1 hok => k v σ1 hq F Z1 hok (by omega) (by omega)) (fun E σ1 ad1 H1 locs1 ce q9 hq Z1 h1 h2 h3 => ?_)
  obtain ⟨i, pc2, ⟨pre, x, suf, nm, t1, t2, t3, t4, t5, t6, t7, t8⟩, c1, kx⟩ := hx E σ1 hq
  have htab := F.2.1.2.2
  rw [t1] at htab
  have hsplit : c.exceptionTable.toList = tableOf pre ++ ⟨x.1, x.2.1, x.2.2.1, x.2.2.2⟩ :: tableOf suf := by rw [htab]; simp [tableOf]
  refine nq_catch (own := y.1.cls) F.1.2.2.2.2.2.1 (tableOf pre) _ (tableOf suf) hsplit (fun z hz => ?_) t3 t4 (hm t5) (va_Nw.use (nq_N_tab t6) (F.2.2.2.2.2.1 _ t6)) h1 h2 h3 ?_
  · obtain ⟨z0, hz0, hze⟩ := List.mem_map.mp hz
    obtain ⟨u1, nz, u2, u3⟩ := t2 z0 hz0
    subst hze
    exact ⟨u1, nz, hm u2, F.2.2.2.2.2.2.2.2.2.2.2.2.2.1 _ u3⟩
  · rcases t7 with ⟨z, hz, hdz, hpz⟩ | ⟨hdz, hpz⟩
    · subst hpz
      exact lv_astore_n F.1.2.1 F.1.2.2.1 hdz hz Z1.2.2.2.2.2.2.has t8 rfl (fun ls' hl' => kx F ⟨Z1.1, Z1.2.1, Z1.2.2.1, Z1.2.2.2.1, Z1.2.2.2.2.1, Z1.2.2.2.2.2.1, Z1.2.2.2.2.2.2.none c1 hl'⟩ nq_oks.nil (by omega) (by omega))
    · subst hpz
      exact lv_astore F.1.2.1 F.1.2.2.1 hdz Z1.2.2.2.2.2.2.has t8 rfl (fun ls' hl' => kx F ⟨Z1.1, Z1.2.1, Z1.2.2.1, Z1.2.2.2.1, Z1.2.2.2.2.1, Z1.2.2.2.2.2.1, Z1.2.2.2.2.2.2.none c1 hl'⟩ nq_oks.nil (by omega) (by omega))
end NQK
