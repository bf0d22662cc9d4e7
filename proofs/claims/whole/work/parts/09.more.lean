/-! THE LIBRARY'S OWN: copies, greatest and least, texts -/
section NQL
variable {G : nq_G} {d kc ks : Nat} {y y' : nq_M} {pc pc' : Nat} {lv : List (Option Value)} {st : List Value} {σ : nq_S} {Q Q1 : nq_Q}
theorem nq_copy {ix a0 a t n0 n1 sp dp n : Nat} {isp idp i9 : Int32} {f g : Nat → Int32} (hd : decode y.2.1 pc = .ok (.invokestatic ix, 3)) (hp : pc + 3 = pc') (h1 : Cond.methodLink y.1.cls ix arraycopyName ∈ nq_T) (h2 : Cond.native arraycopyName ∈ nq_T) (h3 : Cond.static arraycopyName ∈ nq_T) (h4 : Cond.initialized "java/lang/System" ∈ nq_T)
    (hσ0 : σ[a0]? = some (.inl (t, n0, .inl f))) (hσ : σ[a]? = some (.inl (t, n1, .inl g))) (ht : nq_tyl[t]? = some .int) (e1 : isp = nI sp) (e2 : idp = nI dp) (e3 : i9 = nI n) (b0 : sp + n ≤ n0) (b1 : dp + n ≤ n1) (hb0 : n0 < 100000) (hb1 : n1 < 100000) (hcat : (st.map fun v => v.category).sum ≤ 20)
    (k : nq_J G d kc ks y pc' lv st (σ.set a (.inl (t, n1, .inl (va_cpy f g sp dp n)))) Q) : nq_J G d kc ks y pc lv (.int i9 :: .int idp :: .ref a :: .int isp :: .ref a0 :: st) σ Q := by
  subst hp; subst e1; subst e2; subst e3
  intro l p e R s m args below meth c A n00 ad0 mc ms F ad H locs cells slots ls Z hst hc hs
  have hm : ∀ {w}, w ∈ nq_T → w.before args s = true := fun h => F.1.2.2.2.2.2.2 _ (List.mem_cons_of_mem _ h)
  have f1 := F.2.2.1.1
  have f2 := F.2.2.1.2.1
  simp only [nq_fr, nq_lo] at f1 f2
  have c1 : (nI sp).toNatClampNeg = sp := nI_clamp (by omega)
  have c2 : (nI dp).toNatClampNeg = dp := nI_clamp (by omega)
  have c3 : (nI n).toNatClampNeg = n := nI_clamp (by omega)
  refine va_copyi (f := f) (g := g) (ty := .int) F.1.2.1 F.1.2.2.1 (by rw [F.1.2.2.2.2.1]; exact Z.2.2.2.2.2.2.2.1.symm) F.1.2.2.2.2.2.1 (hm h1) (hm h2) (hm h3) (hm h4) F.2.2.2.1 Z.2.2.1 Z.2.2.2.1 Z.2.2.2.2.1 a0 a t t (nq_ws_at hσ0) (nq_ws_at hσ) (nq_tys_at ht) (nq_tys_at ht) rfl
    (nI_pos (by omega)) (nI_pos (by omega)) (nI_pos (by omega)) (by rw [c1, c3]; exact b0) (by rw [c2, c3]; exact b1) (fun i hi => rfl) (by omega) (by rw [nq_cats]; simp only [nativeFrameWords]; split <;> omega) hd (fun H1 locs1 hP1 hD1 hS1 => ?_)
  rw [c1, c2, c3] at hP1 hD1
  exact k F (nq_Z_set (e := (.inl (t, n1, .inl (va_cpy f g sp dp n)))) Z (fun g hg => by cases hg) hP1 hD1 hS1) (by rw [List.length_set]; exact hst.tl.tl.tl.tl.tl) hc hs
theorem nq_max {ix : Nat} {a b : Int32} (hd : decode y.2.1 pc = .ok (.invokestatic ix, 3)) (hp : pc + 3 = pc') (h1 : Cond.methodLink y.1.cls ix Lib.Math.max.name ∈ nq_T) (h2 : Cond.static Lib.Math.max.name ∈ nq_T) (h3 : Cond.initialized "java/lang/Math" ∈ nq_T) (h4 : Cond.code Lib.Math.max.name Lib.Math.max.code 2 (some .int) ∈ nq_T) (hcat : (st.map fun v => v.category).sum ≤ 20)
    (k : nq_J G d kc ks y pc' lv (.int (if a < b then b else a) :: st) σ Q) : nq_J G d kc ks y pc lv (.int b :: .int a :: st) σ Q := by
  subst hp
  intro l p e R s m args below meth c A n0 ad0 mc ms F ad H locs cells slots ls Z hst hc hs
  have hm : ∀ {w}, w ∈ nq_T → w.before args s = true := fun h => F.1.2.2.2.2.2.2 _ (List.mem_cons_of_mem _ h)
  have f1 := F.2.2.1.1
  have f2 := F.2.2.1.2.1
  simp only [nq_fr, nq_lo] at f1 f2
  exact va_mmax F.1.2.1 F.1.2.2.1 (by rw [F.1.2.2.2.2.1]; exact Z.2.2.2.2.2.2.2.1.symm) F.1.2.2.2.2.2.1 (hm h1) (hm h2) (hm h3) (hm h4) (by omega) (by rw [nq_cats]; omega) (by rw [F.2.2.1.2.2.1]; omega) (by rw [F.2.2.1.2.2.2]; omega) hd (k F Z hst.tl.tl.i hc hs)
theorem nq_min {ix : Nat} {a b : Int32} (hd : decode y.2.1 pc = .ok (.invokestatic ix, 3)) (hp : pc + 3 = pc') (h1 : Cond.methodLink y.1.cls ix Lib.Math.min.name ∈ nq_T) (h2 : Cond.static Lib.Math.min.name ∈ nq_T) (h3 : Cond.initialized "java/lang/Math" ∈ nq_T) (h4 : Cond.code Lib.Math.min.name Lib.Math.min.code 2 (some .int) ∈ nq_T) (hcat : (st.map fun v => v.category).sum ≤ 20)
    (k : nq_J G d kc ks y pc' lv (.int (if b < a then b else a) :: st) σ Q) : nq_J G d kc ks y pc lv (.int b :: .int a :: st) σ Q := by
  subst hp
  intro l p e R s m args below meth c A n0 ad0 mc ms F ad H locs cells slots ls Z hst hc hs
  have hm : ∀ {w}, w ∈ nq_T → w.before args s = true := fun h => F.1.2.2.2.2.2.2 _ (List.mem_cons_of_mem _ h)
  have f1 := F.2.2.1.1
  have f2 := F.2.2.1.2.1
  simp only [nq_fr, nq_lo] at f1 f2
  exact va_mmin F.1.2.1 F.1.2.2.1 (by rw [F.1.2.2.2.2.1]; exact Z.2.2.2.2.2.2.2.1.symm) F.1.2.2.2.2.2.1 (hm h1) (hm h2) (hm h3) (hm h4) (by omega) (by rw [nq_cats]; omega) (by rw [F.2.2.1.2.2.1]; omega) (by rw [F.2.2.1.2.2.2]; omega) hd (k F Z hst.tl.tl.i hc hs)
/-- the script -/
theorem nq_slen (hd : decode y.2.1 pc = .ok (.arraylength, 1)) (hp : pc + 1 = pc') (k : nq_J G d kc ks y pc' lv (.int (nI G.2.2.1) :: st) σ Q) : nq_J G d kc ks y pc lv (.ref 3000000 :: st) σ Q := by
  subst hp
  intro l p e R s m args below meth c A n0 ad0 mc ms F ad H locs cells slots ls Z hst hc hs
  obtain ⟨h7, h8, -⟩ := (F.2.2.2.2.2.ag Z.2.1).2.2.2.2.2.2
  exact va_slen F.1.2.1 F.1.2.2.1 h7 (Array.getElem?_eq_some_iff.mp h7.choose_spec.1).1 h8 Z.2.2.2.2.1 hd (k F Z hst.tl.i hc hs)
theorem nq_sld {i : Int32} {j : Nat} (hd : decode y.2.1 pc = .ok (.iaload, 1)) (hp : pc + 1 = pc') (hi : i = nI j) (hj : j < G.2.2.1) (hn : G.2.2.1 < 2 ^ 31) (k : nq_J G d kc ks y pc' lv (.int (G.2.2.2 j) :: st) σ Q) : nq_J G d kc ks y pc lv (.int i :: .ref 3000000 :: st) σ Q := by
  subst hp
  intro l p e R s m args below meth c A n0 ad0 mc ms F ad H locs cells slots ls Z hst hc hs
  obtain ⟨h7, h8, -⟩ := (F.2.2.2.2.2.ag Z.2.1).2.2.2.2.2.2
  obtain ⟨h1, h2⟩ := nq_ix hi hj hn
  refine va_sld F.1.2.1 F.1.2.2.1 h7 (Array.getElem?_eq_some_iff.mp h7.choose_spec.1).1 h8 Z.2.2.2.2.1 h1 hd ?_
  rw [h2]
  exact k F Z hst.tl.tl.i hc hs
/-- texts: their bytes, their coder, COMPACT_STRINGS -/
theorem nq_getV {ix i : Nat} (hd : decode y.2.1 pc = .ok (.getfield ix, 3)) (hp : pc + 3 = pc') (hi : i < nq_n) (hw : Cond.fieldLink y.1.cls ix "java/lang/String" "value" "[B" ∈ nq_T) (k : nq_J G d kc ks y pc' lv (.ref (2000000 + i) :: st) σ Q) : nq_J G d kc ks y pc lv (.ref (1000000 + i) :: st) σ Q := by
  subst hp
  intro l p e R s m args below meth c A n0 ad0 mc ms F ad H locs cells slots ls Z hst hc hs
  have hX := (F.2.2.2.2.2.ag Z.2.1).2.2.1.1 i hi
  exact vk_getf F.1.2.1 F.1.2.2.1 hX.2.2.1 Z.2.2.2.2.1 F.1.2.2.2.2.2.1 (F.1.2.2.2.2.2.2 _ (List.mem_cons_of_mem _ hw)) (fun x h => h) hd (k F Z (hst.tl.cons (fun q hq => by cases hq; right; omega)) hc hs)
theorem nq_getC {ix i : Nat} (hd : decode y.2.1 pc = .ok (.getfield ix, 3)) (hp : pc + 3 = pc') (hi : i < nq_n) (hw : Cond.fieldLink y.1.cls ix "java/lang/String" "coder" "B" ∈ nq_T) (k : nq_J G d kc ks y pc' lv (.int 0 :: st) σ Q) : nq_J G d kc ks y pc lv (.ref (1000000 + i) :: st) σ Q := by
  subst hp
  intro l p e R s m args below meth c A n0 ad0 mc ms F ad H locs cells slots ls Z hst hc hs
  have hX := (F.2.2.2.2.2.ag Z.2.1).2.2.1.1 i hi
  exact vk_getf F.1.2.1 F.1.2.2.1 hX.2.1 Z.2.2.2.2.1 F.1.2.2.2.2.2.1 (F.1.2.2.2.2.2.2 _ (List.mem_cons_of_mem _ hw)) (fun x h => h) hd (k F Z hst.tl.i hc hs)
theorem nq_getZ {ix : Nat} (hd : decode y.2.1 pc = .ok (.getstatic ix, 3)) (hp : pc + 3 = pc') (hw : Cond.fieldLink y.1.cls ix "java/lang/String" "COMPACT_STRINGS" "Z" ∈ nq_T) (k : nq_J G d kc ks y pc' lv (.int 1 :: st) σ Q) : nq_J G d kc ks y pc lv st σ Q := by
  subst hp
  intro l p e R s m args below meth c A n0 ad0 mc ms F ad H locs cells slots ls Z hst hc hs
  exact va_gets F.1.2.1 F.1.2.2.1 F.2.2.2.2.2.2.2.2.2.2.1 Z.2.2.2.2.1 F.1.2.2.2.2.2.1 (F.1.2.2.2.2.2.2 _ (List.mem_cons_of_mem _ hw)) (fun x h => h) hd (k F Z hst.i hc hs)
theorem nq_blen {i : Nat} (hd : decode y.2.1 pc = .ok (.arraylength, 1)) (hp : pc + 1 = pc') (hi : i < nq_n) (k : nq_J G d kc ks y pc' lv (.int (nI (nq_len.getD i 0)) :: st) σ Q) : nq_J G d kc ks y pc lv (.ref (2000000 + i) :: st) σ Q := by
  subst hp
  intro l p e R s m args below meth c A n0 ad0 mc ms F ad H locs cells slots ls Z hst hc hs
  obtain ⟨cell, h1, h2, h3, h4, h5, h6, h7⟩ := ((F.2.2.2.2.2.ag Z.2.1).2.2.1.1 i hi).2.2.2.kept Z.2.2.2.2.1.2.1
  exact W.alen (n := nI (nq_len.getD i 0)) F.1.2.1 F.1.2.2.1 h1 h2 h5 rfl rfl hd (k F Z hst.tl.i hc hs)
theorem nq_bald {i j : Nat} {i9 : Int32} (hd : decode y.2.1 pc = .ok (.baload, 1)) (hp : pc + 1 = pc') (hi : i < nq_n) (e1 : i9 = nI j) (hj : j < nq_len.getD i 0) (hj2 : j < 100000) (k : nq_J G d kc ks y pc' lv (.int ((nq_byt.getD i []).getD j 0) :: st) σ Q) : nq_J G d kc ks y pc lv (.int i9 :: .ref (2000000 + i) :: st) σ Q := by
  subst hp; subst e1
  intro l p e R s m args below meth c A n0 ad0 mc ms F ad H locs cells slots ls Z hst hc hs
  obtain ⟨cell, h1, h2, h3, h4, h5, h6, h7⟩ := ((F.2.2.2.2.2.ag Z.2.1).2.2.1.1 i hi).2.2.2.kept Z.2.2.2.2.1.2.1
  have c1 : (nI j).toNatClampNeg = j := nI_clamp (by omega)
  refine W.bald (v := .int ((nq_byt.getD i []).getD j 0)) F.1.2.1 F.1.2.2.1 h1 h2 h3 ?_ (by rw [c1]; exact h6 j hj) rfl rfl hd (k F Z hst.tl.tl.i hc hs)
  rw [c1]
  exact fun q => q.elim (nI_pos (by omega)) (fun q => by omega)
/-- a call on a text -/
theorem nq_callK {mc' ms' ix i n : Nat} {As rest : List Value} (hd : decode y.2.1 pc = .ok (.invokevirtual ix, 3)) (hp : pc + 3 = pc') (hlk : nq_ClV y.1.cls ix y' n) (hi : i < nq_n) (hrc : y'.1.cls = "java/lang/String") (hh : y.2.2.2.2 = []) (hst9 : st = As.reverse ++ .ref (1000000 + i) :: rest) (hn : As.length = n) (hcat : (rest.map fun v => v.category).sum ≤ 8)
    (hM : nq_JM G d mc' ms' y' (.ref (1000000 + i) :: As) σ Q1) (hx : ∀ E σ1, Q1 (.inr E) σ1 → Q (.inr E) σ1) (k : ∀ v σ1, Q1 (.inl v) σ1 → nq_J G (d + 1) kc ks y pc' lv (v.toList ++ rest) σ1 Q) : nq_J G (d + 1) (kc + mc') (ks + ms') y pc lv st σ Q := by
  subst hp; subst hst9
  intro l p e R s m args below meth c A n0 ad0 mc ms F ad H locs cells slots ls Z hst hc hs
  have hm : ∀ {w}, w ∈ nq_T → w.before args s = true := fun h => F.1.2.2.2.2.2.2 _ (List.mem_cons_of_mem _ h)
  have hav : nq_oks σ.length (.ref (1000000 + i) :: As) := hst.of (by intro v hv; simp only [List.mem_append, List.mem_reverse, List.mem_cons] at hv ⊢; rcases hv with h | h <;> simp [h])
  have hrest : nq_oks σ.length rest := hst.of (by intro v hv; simp [hv])
  have hrecv := vk_recv (F.2.2.2.2.2.ag Z.2.1).2.2.1 hi Z.2.2.2.2.1
  rw [← hrc] at hrecv
  have hmap : (As.reverse ++ .ref (1000000 + i) :: rest).map (nq_cv ad) = (As.map (nq_cv ad)).reverse ++ .ref (ad (1000000 + i)) :: rest.map (nq_cv ad) := by simp [nq_cv]
  have hd' : decode c.code pc = .ok (.invokevirtual ix, 3) := by rw [F.1.2.2.1]; exact hd
  rw [hmap]
  exact nq_call F Z hM hlk.1.1 hlk.1.2.2.1 hlk.1.2.2.2.2.2 hav hrest hcat hd' (by omega) (by omega) (nq_goV (As := As.map (nq_cv ad)) F.1.2.1 F.1.2.2.2.2.2.1 hm hlk (by rw [List.length_map]; exact hn) hrecv hd')
    (fun v σ1 ad1 H1 locs1 hq Z1 hok => k v σ1 hq F Z1 hok (by omega) (by omega)) (fun E σ1 ad1 H1 locs1 ce q9 hq Z1 h1 h2 h3 => nq_thr F hh (hx E σ1 hq) Z1 h1 h2 h3 (by omega) (by omega))
/-- a call whose answer is known -/
def nq_R (v : Option Value) (σ' : nq_S) : nq_Q := fun o s => o = .inl v ∧ s = σ'
theorem nq_callVR {mc' ms' ix b ci n : Nat} {fs As rest : List Value} {r : vw_C} {v : Option Value} {σ1 : nq_S} (hd : decode y.2.1 pc = .ok (.invokevirtual ix, 3)) (hp : pc + 3 = pc') (hlk : nq_ClV y.1.cls ix y' n) (hh : y.2.2.2.2 = []) (hσ : σ[b]? = some (.inr (ci, fs))) (hr : nq_cl[ci]? = some r) (hrc : r.1 = y'.1.cls) (hst9 : st = As.reverse ++ .ref b :: rest) (hn : As.length = n) (hcat : (rest.map fun v => v.category).sum ≤ 8)
    (hM : nq_JM G d mc' ms' y' (.ref b :: As) σ (nq_R v σ1)) (k : nq_J G (d + 1) kc ks y pc' lv (v.toList ++ rest) σ1 Q) : nq_J G (d + 1) (kc + mc') (ks + ms') y pc lv st σ Q :=
  nq_callV hd hp hlk hh hσ hr hrc hst9 hn hcat hM (fun E σ9 h => by cases h.1) (fun v9 σ9 h => by obtain ⟨h1, rfl⟩ := h; cases h1; exact k)
theorem nq_callSR {mc' ms' ix n : Nat} {As rest : List Value} {v : Option Value} {σ1 : nq_S} (hd : decode y.2.1 pc = .ok (.invokestatic ix, 3)) (hp : pc + 3 = pc') (hlk : nq_Cl y.1.cls ix y' n) (hsta : Cond.static y'.1 ∈ nq_T) (hh : y.2.2.2.2 = []) (hst9 : st = As.reverse ++ rest) (hn : As.length = n) (hcat : (rest.map fun v => v.category).sum ≤ 8)
    (hM : nq_JM G d mc' ms' y' As σ (nq_R v σ1)) (k : nq_J G (d + 1) kc ks y pc' lv (v.toList ++ rest) σ1 Q) : nq_J G (d + 1) (kc + mc') (ks + ms') y pc lv st σ Q :=
  nq_callS hd hp hlk hsta hh hst9 hn hcat hM (fun E σ9 h => by cases h.1) (fun v9 σ9 h => by obtain ⟨h1, rfl⟩ := h; cases h1; exact k)
/-- what a world has where a cell was set -/
theorem nq_gs {σ : nq_S} {k : Nat} {e e0 : nq_C} (h : σ[k]? = some e0) : (σ.set k e)[k]? = some e := by
  have := (List.getElem?_eq_some_iff.mp h).1
  simp [this]
theorem nq_gn {σ : nq_S} {k j : Nat} {e e' : nq_C} (hn : j ≠ k) (h : σ[j]? = some e) : (σ.set k e')[j]? = some e := by
  simp [Ne.symm hn, h]
end NQL
