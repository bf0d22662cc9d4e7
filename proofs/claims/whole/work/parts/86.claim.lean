/-! THE CLAIM: the kit's skeleton (its rows from R_law on), with one premise more at the law's entry; whole_start is ours -/
def R_law : String := "QueryStoreLaw"
def lw_P (b : Addr) (xs : List Int32) (args : Array Value) (s : State) : Prop := args = #[.ref b] ∧ s.IntsAt b xs ∧ xs.length ≤ 2048 ∧ (Jvm.Cond.and given_1 narrow_1).before args s = true
def lw_Q (_ : Array Value) (s : State) (o : Outcome) (t : State) : Prop := o = .returned (some (.int 1)) ∧ Framed s o t [] 601024 7293033
def lw_Z (below : List Frame) (a : Array Value) (s : State) : State → Prop := fun t => ∃ o, t.status = .running ∧ Ended t below o ∧ lw_Q a s o t
/-- what holds at the law's entry: the machine, the code, the tables' words (any of lw_tbl by 'hts w (by decide +kernel)'), the script of L ints xs at the cell b, what the Statement gives of the start (any of its parts by flat_of_before) -/
def lw_At (p : Program) (s : State) (m : MethodId) (meth : Method) (c : Code) (b L : Nat) (xs : Nat → Int32) : Prop :=
  p.tables.exec = Jvm.exec ∧ c.code = code ∧ meth.sig.returnType = ret ∧ c.maxLocals = 7 ∧ s.vm.findClass R_law = some m.cls ∧ (∀ w ∈ lw_tbl, w.before #[Value.ref b] s = true) ∧ va_X b L xs s s.heap ∧ b < s.heap.size ∧ meth.locks = false ∧ (Jvm.Cond.and given_1 narrow_1).before #[Value.ref b] s = true ∧ (Jvm.Cond.code x code maxLocals ret).before #[Value.ref b] s = true ∧ meth.name = "law" ∧ c.exceptionTable.toList = []
theorem whole_start {p : Program} {e : Env} {s : State} {m : MethodId} {below : List Frame} {meth : Method} {c : Code} (l : Launch) (hl : l.stackTraces = false) {b L : Nat} {xs : Nat → Int32} (hL : L ≤ 2048) (C0 : lw_At p s m meth c b L xs) : W p l e room_1 s m #[Value.ref b] below meth c s.heap [] 0 0 (lw_Z below #[Value.ref b] s) (entryFrame m ([Value.ref b] : List Value).toArray 7) := by
  obtain ⟨hx, hb, hr, hml, hown, hts, hX, hbl, hlocks, hgv, hcode, hname, htab⟩ := C0
  have hF : ∀ w ∈ nw_F, w.before #[Value.ref b] s = true := flat_of_before _ hgv
  have hA : ∀ a : Nat, a < s.heap.size → ¬ (fun q : Nat => s.heap.size ≤ q) a := fun a h => Nat.not_le.mpr h
  obtain ⟨D, tc, hK⟩ := nw_K hts
  obtain ⟨adK, adV, hS, hE⟩ := vk_Sof (args := #[Value.ref b]) (s := s) (N := nq_n) (tm := nq_tm) (len := nq_len) (byt := nq_byt) (A := fun q : Nat => s.heap.size ≤ q) (by decide) (fun i hi => hF _ (nw_ex i hi)) (fun i hi => hF _ (nw_co i hi)) (fun i hi => hF _ (nw_ar i hi)) (fun i hi => hF _ (nw_le i hi)) (fun i hi j hj => hF _ (nw_el i hi j hj)) (fun i j hi hj h => (nw_ne i j hi hj h).imp (hF _) (hF _)) hA
  obtain ⟨ad, ea, eb, ec⟩ : ∃ ad : Nat → Nat, (∀ i, i < 22 → ad (1000000 + i) = adK i) ∧ (∀ i, i < 22 → ad (2000000 + i) = adV i) ∧ ad 3000000 = b := by
    refine ⟨fun k => if k < 2000000 then adK (k - 1000000) else if k < 3000000 then adV (k - 2000000) else b, fun i hi => ?_, fun i hi => ?_, rfl⟩
    · simp only
      rw [if_pos (by omega), Nat.add_sub_cancel_left]
    · simp only
      rw [if_neg (by omega), if_pos (by omega), Nat.add_sub_cancel_left]
  have hS' : vk_S nq_n nq_len nq_byt (fun i => ad (1000000 + i)) (fun i => ad (2000000 + i)) (fun q : Nat => s.heap.size ≤ q) s s.heap := by
    refine ⟨fun i hi => ?_, fun i j hi hj h => ?_⟩
    · simp only
      rw [ea i hi, eb i hi]
      exact hS.1 i hi
    · simp only at h
      rw [ea i hi, ea j hj] at h
      exact hS.2 i j hi hj h
  have hNX : nq_X (D, tc, L, xs) ad (fun q : Nat => s.heap.size ≤ q) s s.heap := by
    refine ⟨fun w hw => va_Nw.of (nq_N_tab hw) (hts w (nq_N_in w hw)), fun q hq => ?_, hS', nq_Zs.of (hts _ nt_s1) (hF _ nw_s1) hA, nq_Zs.of (hts _ nt_s2) (hF _ nw_s2) hA, va_Zof (hts _ nt_s3) (hts _ nt_s4) (va_eqi (hF _ nw_s3)) hA, by rw [ec]; exact hX, by rw [ec]; exact hA b hbl, fun q hq => va_Nc.of (hF _ (nw_V q hq)), fun C hC => va_AO.of (hts _ (nt_O C hC))⟩
    obtain ⟨h1, h2, h3⟩ := nt_K q hq
    refine vk_R.of (A := #[Value.ref b]) (hts _ h1) ?_
    rw [← h3, ea _ h2]
    exact hE _ h2
  have hFx : nq_Fx (D, tc, L, xs) l p room_1 s m #[Value.ref b] meth c (fun q : Nat => s.heap.size ≤ q) ad 40 601023 7293027 m_Law_law := by
    refine ⟨⟨hl, hx, hb, hr, hml, hown, fun w hw => ?_⟩, ⟨hlocks, hname, htab⟩, ⟨by decide, by decide, rfl, rfl⟩, hK, fun q h => h, hNX⟩
    rcases List.mem_cons.mp hw with h | h
    · rw [h]
      exact hcode
    · exact hts w (List.mem_filter.mp h).1
  have hl9 := lv_entry ([.ref b]) (n := 7) (Nat.le_of_ble_eq_true rfl)
  rw [lg_entry_eq]
  generalize (lg_sl ([.ref b]) ++ List.replicate (7 - (lg_sl ([.ref b])).length) Slot.unset).toArray = ls at hl9 ⊢
  have hl9 : lv_has ls 7 [(0, .ref b)] := hl9
  have hZ : nq_Z (D, tc, L, xs) s (fun q : Nat => s.heap.size ≤ q) 7 0 ad ad [] [some (.ref 3000000), none, none, none, none, none, none] s.heap [] ls := by
    refine ⟨Nat.le_refl _, nq_ag.rf, fun k q h => (by cases h), ⟨fun i j p q h => (by cases h), fun k q h => (by cases h)⟩, va_S.rf, fun k e h => (by cases h), rfl, hl9.1, hl9.2.1, fun i v hi => ?_⟩
    match i, hi with
    | 0, hi =>
      cases hi
      refine ⟨fun k hk => ?_, ?_⟩
      · cases hk
        omega
      · show ls[0]? = some (.val (.ref (ad 3000000)))
        rw [ec]
        exact hl9.2.2 (0, .ref b) List.mem_cons_self
    | 1, hi => cases hi
    | 2, hi => cases hi
    | 3, hi => cases hi
    | 4, hi => cases hi
    | 5, hi => cases hi
    | 6, hi => cases hi
    | i + 7, hi => cases hi
  have key := law_all (G := (D, tc, L, xs)) (d := 40) hL (by omega) (e := e) (below := below) hFx hZ nq_oks.nil (cells := 0) (slots := 0) (by omega) (by omega)
  intro T hT X
  obtain ⟨t, a1, o, b1, b2, b3⟩ := key T hT X
  refine ⟨t, a1, o, b1, b2, ?_⟩
  obtain ⟨σ', ad', L', ⟨w1, w2, w3⟩, -, h3⟩ := b3
  rcases h3 with ⟨v, f1, f2, f3⟩ | ⟨E, q, ce, f1, f2, -⟩
  · cases f2
    subst f1
    refine ⟨rfl, ⟨_, rfl⟩, w1, ?_⟩
    obtain ⟨u1, u2, u3, u4, u5, u6⟩ := State.sameButNew.mono w2 (c' := 601024) (n' := 7293033) (show 601023 + 0 ≤ 601024 by decide) (show 7293027 + 6 * 0 ≤ 7293033 by decide)
    refine ⟨u1, u2, u3, u4, u5, fun a c hc => ?_⟩
    obtain ⟨c', v1, v2, v3, v4⟩ := u6 a c hc
    exact ⟨c', v1, v2, v3, fun i _ => v4 i (fun hm => Nat.not_le.mpr (Array.getElem?_eq_some_iff.mp hc).1 (w3 _ hm))⟩
  · cases f2
set_option maxHeartbeats 4000000 in
theorem lw_walk (l : Launch) (hl : l.stackTraces = false) (b : Addr) (xs : List Int32) : MetFree l x (headSpec (Jvm.Cond.code x code maxLocals ret :: tables_1) room_1) (lw_P b xs) (fun _ _ _ _ _ => True) lw_Q := by
  refine MetFree.of_bodyS (code := code) (maxLocals := maxLocals) (ret := ret) (by decide) ?_ ?_
  · intro args s m h hn
    obtain ⟨meth, c, h1, h2, h3, h4, h5, h6, -, -⟩ := Cond.code_spec hn (atoms_spec (ws := Jvm.Cond.code x code maxLocals ret :: tables_1) h _ List.mem_cons_self)
    exact ⟨meth, c, h1, h2, h3, h4, h5, h6⟩
  · intro p e s m args below meth c s₁ B hml0 hP _
    obtain ⟨rfl, hx, hbd, hgv⟩ := hP
    obtain ⟨scr, harrAt, hlist, hof, hsmall⟩ := hx
    obtain ⟨hcb, hkn, -, -⟩ := State.arrayAt?_spec harrAt
    have hown : s.vm.findClass R_law = some m.cls := findClass_of_methodNamed B.named
    have hts0 : ∀ c ∈ (Jvm.Cond.code x code maxLocals ret :: tables_1), c.before #[Value.ref b] s = true := atoms_spec (ws := Jvm.Cond.code x code maxLocals ret :: tables_1) B.pre
    have hts : ∀ w ∈ lw_tbl, w.before #[Value.ref b] s = true := k2_hts_sels lw_privs (fun w hw => hts0 w (List.mem_cons_of_mem _ hw)) lw_privs_ok
    have hml : c.maxLocals = 7 := B.maxLocals_eq (hts0 _ List.mem_cons_self)
    have hno : c.exceptionTable.toList = [] := by
      obtain ⟨meth9, c9, h1, h2, -, -, -, -, h7, -⟩ := Cond.code_spec B.named (hts0 _ List.mem_cons_self)
      cases Option.some.inj (h1.symm.trans B.method)
      cases Option.some.inj (h2.symm.trans (Stand.of_body B).code)
      rw [Array.isEmpty_iff.mp h7]
    have X₀ : Stand p l e room_1 s m #[Value.ref b] below meth c s₁ [] 0 0 := Stand.of_body B
    have hh0 : s₁.heap = s.heap := by rw [B.state]; rfl
    have hsz : scr.slots.size = xs.length := by rw [← Array.length_toList, hlist, List.length_map]
    have hval : ∀ j : Nat, j < xs.length → scr.slots[j]? = some (.int (xs.getD j 0)) := fun j hj => by
      rw [← Array.getElem?_toList, hlist]
      simp [hj]
    have hbl : b < s.heap.size := (Array.getElem?_eq_some_iff.mp hcb).1
    have hX : va_X b xs.length (fun j => xs.getD j 0) s s.heap := ⟨scr, hcb, hof, hkn, hsz, hval⟩
    have K : W p l e room_1 s m #[Value.ref b] below meth c s₁.heap [] 0 0 (lw_Z below #[Value.ref b] s) (entryFrame m ([Value.ref b] : List Value).toArray 7) := by
      rw [hh0]
      exact whole_start l hl hbd ⟨B.exec, B.bytes, B.returns, hml, hown, hts, hX, hbl, B.notSynchronized, hgv, hts0 _ List.mem_cons_self, (name_of_methodNamed B.named B.method).1, hno⟩
    obtain ⟨t, a1, o, b1, b2, b3⟩ := K s₁ rfl X₀
    exact ⟨t, o, a1, b1, b2, b3⟩
theorem lw_pre_spec {args : Array Value} {s : State} (h : (Jvm.Cond.and given_1 narrow_1).before args s = true) (hr : rest_1_c.before args s = true) : ∃ (b : Addr) (xs : List Int32), lw_P b xs args s := by
  have hs := flat_of_before _ h
  have hq := flat_of_before _ hr
  have hc : (Cond.count 1).before args s = true := hs _ (by decide +kernel)
  have harr : (Cond.arrayOf (.arg 0) .int).before args s = true := hs _ (by decide +kernel)
  have hle : (Cond.le (.length (.arg 0)) (.int 2048)).before args s = true := hs _ (by decide +kernel)
  have hlen : (Cond.isInt (.length (.arg 0))).before args s = true := hq _ (by decide +kernel)
  have hall : (Cond.all (.arg 0) (.isInt (.elem (.arg 0) (.index 0)))).before args s = true := hq _ (by decide +kernel)
  obtain ⟨b, xs, hb, hx⟩ := State.ints_of_pre rfl harr hlen hall
  have hsm : xs.length < 2 ^ 31 := hx.choose_spec.2.2.2
  have hev : (Term.length (.arg 0)).eval args s none [] s = some (.int xs.length.toInt32) := hx.length_eval hb
  have hv := Cond.le_ints hev (show (Term.int 2048).eval args s none [] s = some (.int 2048) from rfl)
  have hd : xs.length.toInt32 ≤ 2048 := by
    simpa [Cond.before, Cond.holds, hv] using hle
  have hN : xs.length ≤ 2048 := (Int32.ofNat_le_ofNat hsm (by decide)).mp (show Int32.ofNat xs.length ≤ Int32.ofNat 2048 from hd)
  exact ⟨b, xs, Cond.one_arg hc (show args[0]? = some (.ref b) from hb), hx, hN, h⟩
theorem lw_comes (l : Launch) (hl : l.stackTraces = false) : Comes l x (Jvm.Cond.code x code maxLocals ret :: tables_1) room_1 (fun tb e args s => Calls_1 tb e args s ∧ rest_1 tb e args s ∧ Pre_1 tb e args s)
    (fun _ _ args s o t => lw_Q args s o t) := by
  intro p e ha hc hk s m args below hf hfit hheap happ hpre
  obtain ⟨b, xs, hP⟩ := lw_pre_spec hpre.2.2 hpre.2.1
  obtain ⟨k, o, h1, h2, h3, hQ⟩ := lw_walk l hl b xs p e ha hc hk s m args below hf ((Spec.applies_iff_loose hf).mp happ).1 hP trivial
  exact ⟨k, o, h1, h2, h3, hQ⟩
theorem lw_frame {s t : State} {o : Outcome} {args : Array Value} (h : Framed s o t [] 601024 7293033) :
    Framed s o t (fieldLocs frame_1_writes args s ++ arrayLocs frame_1_arrays args s ++ staticLocs frame_1_statics s) 601024 7293033 := h
theorem lw_limb (L : Cond) (hL : ∀ (args : Array Value) (s t : State), L.after args s (.returned (some (.int 1))) t = true) :
    ArmFor flags0 classFile x code maxLocals ret World_1 tables_1 room_1 Calls_1 rest_1 Pre_1
      (fun tb e a s o t => postC L tb e a s o t ∧ Framed s o t (fieldLocs frame_1_writes a s ++ arrayLocs frame_1_arrays a s ++ staticLocs frame_1_statics s) 601024 7293033) := by
  intro l hfl _ _ p e ha hc hk s m args below hf hfit hheap happ hpre
  have hl : l.stackTraces = false := by
    unfold Launch.stackTraces
    rw [hfl]
    decide
  obtain ⟨k, o, h1, h2, h3, rfl, hF⟩ := lw_comes l hl p e ha hc hk s m args below hf hfit hheap happ hpre
  exact ⟨k, _, h1, h2, h3, hL args s _, lw_frame hF⟩
theorem i_vc : Claimed_1_1 ∧ Claimed_1_2 := ⟨lw_limb limb_1_1 (fun args s t => by simp [limb_1_1, Cond.after, Cond.holds, Cond.value]), lw_limb limb_1_2 (fun args s t => Cond.after_iff.mpr (by
  first | (rw [show limb_1_2 = Cond.eq .result (.int 1) from rfl, Cond.eq_ints (x := 1) (y := 1) rfl rfl]; simp; done) | (simp [limb_1_2, Cond.value, Term.eval]; done)))⟩
