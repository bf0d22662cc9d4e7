section NQR
variable {G : nq_G} {d kc ks : Nat} {y : nq_M} {pc pc' : Nat} {lv : List (Option Value)} {st : List Value} {σ : nq_S} {Q : nq_Q}
theorem nq_iconst {n : Int} {v : Int32} (hd : decode y.2.1 pc = .ok (.iconst n, 1)) (hp : pc + 1 = pc') (hv : Int32.ofInt n = v) (k : nq_J G d kc ks y pc' lv (.int v :: st) σ Q) : nq_J G d kc ks y pc lv st σ Q := by
  subst hp
  intro l p e R s m args below meth c A n0 ad0 mc ms F ad H locs cells slots ls Z hst hc hs
  exact lv_iconst F.1.2.1 F.1.2.2.1 hd hv (k F Z hst.i hc hs)
theorem nq_bipush {n : Int} {v : Int32} (hd : decode y.2.1 pc = .ok (.bipush n, 2)) (hp : pc + 2 = pc') (hv : (Int8.ofInt n).toInt32 = v) (k : nq_J G d kc ks y pc' lv (.int v :: st) σ Q) : nq_J G d kc ks y pc lv st σ Q := by
  subst hp
  intro l p e R s m args below meth c A n0 ad0 mc ms F ad H locs cells slots ls Z hst hc hs
  exact lv_bipush F.1.2.1 F.1.2.2.1 hd hv (k F Z hst.i hc hs)
theorem nq_sipush {n : Int} {v : Int32} (hd : decode y.2.1 pc = .ok (.sipush n, 3)) (hp : pc + 3 = pc') (hv : (Int16.ofInt n).toInt32 = v) (k : nq_J G d kc ks y pc' lv (.int v :: st) σ Q) : nq_J G d kc ks y pc lv st σ Q := by
  subst hp
  intro l p e R s m args below meth c A n0 ad0 mc ms F ad H locs cells slots ls Z hst hc hs
  exact lv_sipush F.1.2.1 F.1.2.2.1 hd hv (k F Z hst.i hc hs)
theorem nq_lconst {n : Fin 2} {v : Int64} (hd : decode y.2.1 pc = .ok (.lconst n, 1)) (hp : pc + 1 = pc') (hv : Int64.ofNat (n : Nat) = v) (k : nq_J G d kc ks y pc' lv (.long v :: st) σ Q) : nq_J G d kc ks y pc lv st σ Q := by
  subst hp
  intro l p e R s m args below meth c A n0 ad0 mc ms F ad H locs cells slots ls Z hst hc hs
  exact lv_lconst F.1.2.1 F.1.2.2.1 hd hv (k F Z hst.l hc hs)
theorem nq_null (hd : decode y.2.1 pc = .ok (.aconst_null, 1)) (hp : pc + 1 = pc') (k : nq_J G d kc ks y pc' lv (.null :: st) σ Q) : nq_J G d kc ks y pc lv st σ Q := by
  subst hp
  intro l p e R s m args below meth c A n0 ad0 mc ms F ad H locs cells slots ls Z hst hc hs
  exact lv_null F.1.2.1 F.1.2.2.1 hd (k F Z hst.z hc hs)
theorem nq_ldc {ix : Nat} {v : Int32} (hd : decode y.2.1 pc = .ok (.ldc ix, 2)) (hp : pc + 2 = pc') (hw : Cond.constant y.1.cls ix v ∈ nq_T) (k : nq_J G d kc ks y pc' lv (.int v :: st) σ Q) : nq_J G d kc ks y pc lv st σ Q := by
  subst hp
  intro l p e R s m args below meth c A n0 ad0 mc ms F ad H locs cells slots ls Z hst hc hs
  exact lv_ldc F.1.2.1 F.1.2.2.1 F.1.2.2.2.2.2.1 (F.1.2.2.2.2.2.2 _ (List.mem_cons_of_mem _ hw)) hd (k F Z hst.i hc hs)
theorem nq_ldc2 {ix : Nat} {v : Int64} (hd : decode y.2.1 pc = .ok (.ldc2_w ix, 3)) (hp : pc + 3 = pc') (hw : Cond.constantLong y.1.cls ix v ∈ nq_T) (k : nq_J G d kc ks y pc' lv (.long v :: st) σ Q) : nq_J G d kc ks y pc lv st σ Q := by
  subst hp
  intro l p e R s m args below meth c A n0 ad0 mc ms F ad H locs cells slots ls Z hst hc hs
  exact lv_ldc2 F.1.2.1 F.1.2.2.1 F.1.2.2.2.2.2.1 (F.1.2.2.2.2.2.2 _ (List.mem_cons_of_mem _ hw)) hd (k F Z hst.l hc hs)
theorem nq_ldcS {ix i : Nat} {tx : String} (hd : decode y.2.1 pc = .ok (.ldc ix, 2)) (hp : pc + 2 = pc') (hw : (y.1.cls, ix, tx, i) ∈ nq_K) (k : nq_J G d kc ks y pc' lv (.ref (1000000 + i) :: st) σ Q) : nq_J G d kc ks y pc lv st σ Q := by
  subst hp
  intro l p e R s m args below meth c A n0 ad0 mc ms F ad H locs cells slots ls Z hst hc hs
  have h9 := F.2.2.2.2.2.2.1 _ hw
  have h8 : vk_R y.1.cls ix tx (ad (1000000 + i)) s := by rw [Z.2.1 _ (Or.inr (Nat.le_add_right _ _))]; exact h9
  exact va_ldcS F.1.2.1 F.1.2.2.1 F.1.2.2.2.2.2.1 h8 hd (k F Z (hst.cons (fun q hq => by cases hq; exact Or.inr (Nat.le_add_right _ _))) hc hs)
theorem nq_iload_n {z : Fin 4} {i : Nat} {x : Int32} (hd : decode y.2.1 pc = .ok (.iload_n z, 1)) (hp : pc + 1 = pc') (hi : (z : Nat) = i) (hl : lv[i]? = some (some (.int x))) (k : nq_J G d kc ks y pc' lv (.int x :: st) σ Q) : nq_J G d kc ks y pc lv st σ Q := by
  subst hp
  intro l p e R s m args below meth c A n0 ad0 mc ms F ad H locs cells slots ls Z hst hc hs
  exact lv_iload_n F.1.2.1 F.1.2.2.1 hd hi (Z.2.2.2.2.2.2.2.2.2 i _ hl).2 (k F Z hst.i hc hs)
theorem nq_iload {i : Nat} {x : Int32} (hd : decode y.2.1 pc = .ok (.iload i, 2)) (hp : pc + 2 = pc') (hl : lv[i]? = some (some (.int x))) (k : nq_J G d kc ks y pc' lv (.int x :: st) σ Q) : nq_J G d kc ks y pc lv st σ Q := by
  subst hp
  intro l p e R s m args below meth c A n0 ad0 mc ms F ad H locs cells slots ls Z hst hc hs
  exact lv_iload F.1.2.1 F.1.2.2.1 hd (Z.2.2.2.2.2.2.2.2.2 i _ hl).2 (k F Z hst.i hc hs)
theorem nq_lload_n {z : Fin 4} {i : Nat} {x : Int64} (hd : decode y.2.1 pc = .ok (.lload_n z, 1)) (hp : pc + 1 = pc') (hi : (z : Nat) = i) (hl : lv[i]? = some (some (.long x))) (k : nq_J G d kc ks y pc' lv (.long x :: st) σ Q) : nq_J G d kc ks y pc lv st σ Q := by
  subst hp
  intro l p e R s m args below meth c A n0 ad0 mc ms F ad H locs cells slots ls Z hst hc hs
  exact lv_lload_n F.1.2.1 F.1.2.2.1 hd hi (Z.2.2.2.2.2.2.2.2.2 i _ hl).2 (k F Z hst.l hc hs)
theorem nq_lload {i : Nat} {x : Int64} (hd : decode y.2.1 pc = .ok (.lload i, 2)) (hp : pc + 2 = pc') (hl : lv[i]? = some (some (.long x))) (k : nq_J G d kc ks y pc' lv (.long x :: st) σ Q) : nq_J G d kc ks y pc lv st σ Q := by
  subst hp
  intro l p e R s m args below meth c A n0 ad0 mc ms F ad H locs cells slots ls Z hst hc hs
  exact lv_lload F.1.2.1 F.1.2.2.1 hd (Z.2.2.2.2.2.2.2.2.2 i _ hl).2 (k F Z hst.l hc hs)
theorem nq_aload_n {z : Fin 4} {i : Nat} {x : Nat} (hd : decode y.2.1 pc = .ok (.aload_n z, 1)) (hp : pc + 1 = pc') (hi : (z : Nat) = i) (hl : lv[i]? = some (some (.ref x))) (k : nq_J G d kc ks y pc' lv (.ref x :: st) σ Q) : nq_J G d kc ks y pc lv st σ Q := by
  subst hp
  intro l p e R s m args below meth c A n0 ad0 mc ms F ad H locs cells slots ls Z hst hc hs
  exact lv_aload_n F.1.2.1 F.1.2.2.1 hd hi (Z.2.2.2.2.2.2.2.2.2 i _ hl).2 (k F Z (hst.cons (Z.2.2.2.2.2.2.2.2.2 i _ hl).1) hc hs)
theorem nq_aload {i : Nat} {x : Nat} (hd : decode y.2.1 pc = .ok (.aload i, 2)) (hp : pc + 2 = pc') (hl : lv[i]? = some (some (.ref x))) (k : nq_J G d kc ks y pc' lv (.ref x :: st) σ Q) : nq_J G d kc ks y pc lv st σ Q := by
  subst hp
  intro l p e R s m args below meth c A n0 ad0 mc ms F ad H locs cells slots ls Z hst hc hs
  exact lv_aload F.1.2.1 F.1.2.2.1 hd (Z.2.2.2.2.2.2.2.2.2 i _ hl).2 (k F Z (hst.cons (Z.2.2.2.2.2.2.2.2.2 i _ hl).1) hc hs)
theorem nq_istore_n {z : Fin 4} {i : Nat} {x : Int32} (hd : decode y.2.1 pc = .ok (.istore_n z, 1)) (hp : pc + 1 = pc') (hi : (z : Nat) = i) (hn : i < y.2.2.1) (h1 : nq_c1 lv i = true) (k : nq_J G d kc ks y pc' (lv.set i (some (.int x))) st σ Q) : nq_J G d kc ks y pc lv (.int x :: st) σ Q := by
  subst hp
  intro l p e R s m args below meth c A n0 ad0 mc ms F ad H locs cells slots ls Z hst hc hs
  exact lv_istore_n F.1.2.1 F.1.2.2.1 hd hi Z.2.2.2.2.2.2.has hn rfl (fun ls' hl' => k F ⟨Z.1, Z.2.1, Z.2.2.1, Z.2.2.2.1, Z.2.2.2.2.1, Z.2.2.2.2.2.1, Z.2.2.2.2.2.2.st1 (v := .int x) h1 hst.hd hl'⟩ hst.tl hc hs)
theorem nq_istore {i : Nat} {x : Int32} (hd : decode y.2.1 pc = .ok (.istore i, 2)) (hp : pc + 2 = pc') (hn : i < y.2.2.1) (h1 : nq_c1 lv i = true) (k : nq_J G d kc ks y pc' (lv.set i (some (.int x))) st σ Q) : nq_J G d kc ks y pc lv (.int x :: st) σ Q := by
  subst hp
  intro l p e R s m args below meth c A n0 ad0 mc ms F ad H locs cells slots ls Z hst hc hs
  exact lv_istore F.1.2.1 F.1.2.2.1 hd Z.2.2.2.2.2.2.has hn rfl (fun ls' hl' => k F ⟨Z.1, Z.2.1, Z.2.2.1, Z.2.2.2.1, Z.2.2.2.2.1, Z.2.2.2.2.2.1, Z.2.2.2.2.2.2.st1 (v := .int x) h1 hst.hd hl'⟩ hst.tl hc hs)
theorem nq_astore_n {z : Fin 4} {i : Nat} {x : Nat} (hd : decode y.2.1 pc = .ok (.astore_n z, 1)) (hp : pc + 1 = pc') (hi : (z : Nat) = i) (hn : i < y.2.2.1) (h1 : nq_c1 lv i = true) (k : nq_J G d kc ks y pc' (lv.set i (some (.ref x))) st σ Q) : nq_J G d kc ks y pc lv (.ref x :: st) σ Q := by
  subst hp
  intro l p e R s m args below meth c A n0 ad0 mc ms F ad H locs cells slots ls Z hst hc hs
  exact lv_astore_n F.1.2.1 F.1.2.2.1 hd hi Z.2.2.2.2.2.2.has hn rfl (fun ls' hl' => k F ⟨Z.1, Z.2.1, Z.2.2.1, Z.2.2.2.1, Z.2.2.2.2.1, Z.2.2.2.2.2.1, Z.2.2.2.2.2.2.st1 (v := .ref x) h1 hst.hd hl'⟩ hst.tl hc hs)
theorem nq_astore {i : Nat} {x : Nat} (hd : decode y.2.1 pc = .ok (.astore i, 2)) (hp : pc + 2 = pc') (hn : i < y.2.2.1) (h1 : nq_c1 lv i = true) (k : nq_J G d kc ks y pc' (lv.set i (some (.ref x))) st σ Q) : nq_J G d kc ks y pc lv (.ref x :: st) σ Q := by
  subst hp
  intro l p e R s m args below meth c A n0 ad0 mc ms F ad H locs cells slots ls Z hst hc hs
  exact lv_astore F.1.2.1 F.1.2.2.1 hd Z.2.2.2.2.2.2.has hn rfl (fun ls' hl' => k F ⟨Z.1, Z.2.1, Z.2.2.1, Z.2.2.2.1, Z.2.2.2.2.1, Z.2.2.2.2.2.1, Z.2.2.2.2.2.2.st1 (v := .ref x) h1 hst.hd hl'⟩ hst.tl hc hs)
theorem nq_iinc {i : Nat} {n : Int} {x v : Int32} (hd : decode y.2.1 pc = .ok (.iinc i n, 3)) (hp : pc + 3 = pc') (hl : lv[i]? = some (some (.int x))) (hv : x + Int32.ofInt n = v) (hn : i < y.2.2.1) (h1 : nq_c1 lv i = true) (k : nq_J G d kc ks y pc' (lv.set i (some (.int v))) st σ Q) : nq_J G d kc ks y pc lv st σ Q := by
  subst hp
  intro l p e R s m args below meth c A n0 ad0 mc ms F ad H locs cells slots ls Z hst hc hs
  obtain ⟨q9, hq9⟩ := List.getElem?_of_mem (nq_ll_mem (ad := ad) hl)
  exact lv_iinc F.1.2.1 F.1.2.2.1 hd Z.2.2.2.2.2.2.has (k := q9) hq9 hv hn rfl (fun ls' hl' => k F ⟨Z.1, Z.2.1, Z.2.2.1, Z.2.2.2.1, Z.2.2.2.2.1, Z.2.2.2.2.2.1, Z.2.2.2.2.2.2.st1 (v := .int v) h1 (fun _ h => by cases h) hl'⟩ hst hc hs)
theorem nq_iadd {a b : Int32} (hd : decode y.2.1 pc = .ok (.iadd, 1)) (hp : pc + 1 = pc') (k : nq_J G d kc ks y pc' lv (.int (a + b) :: st) σ Q) : nq_J G d kc ks y pc lv (.int b :: .int a :: st) σ Q := by
  subst hp
  intro l p e R s m args below meth c A n0 ad0 mc ms F ad H locs cells slots ls Z hst hc hs
  exact lv_iadd F.1.2.1 F.1.2.2.1 hd (k F Z hst.tl.tl.i hc hs)
theorem nq_isub {a b : Int32} (hd : decode y.2.1 pc = .ok (.isub, 1)) (hp : pc + 1 = pc') (k : nq_J G d kc ks y pc' lv (.int (a - b) :: st) σ Q) : nq_J G d kc ks y pc lv (.int b :: .int a :: st) σ Q := by
  subst hp
  intro l p e R s m args below meth c A n0 ad0 mc ms F ad H locs cells slots ls Z hst hc hs
  exact lv_isub F.1.2.1 F.1.2.2.1 hd (k F Z hst.tl.tl.i hc hs)
theorem nq_imul {a b : Int32} (hd : decode y.2.1 pc = .ok (.imul, 1)) (hp : pc + 1 = pc') (k : nq_J G d kc ks y pc' lv (.int (a * b) :: st) σ Q) : nq_J G d kc ks y pc lv (.int b :: .int a :: st) σ Q := by
  subst hp
  intro l p e R s m args below meth c A n0 ad0 mc ms F ad H locs cells slots ls Z hst hc hs
  exact lv_imul F.1.2.1 F.1.2.2.1 hd (k F Z hst.tl.tl.i hc hs)
theorem nq_iand {a b : Int32} (hd : decode y.2.1 pc = .ok (.iand, 1)) (hp : pc + 1 = pc') (k : nq_J G d kc ks y pc' lv (.int (a &&& b) :: st) σ Q) : nq_J G d kc ks y pc lv (.int b :: .int a :: st) σ Q := by
  subst hp
  intro l p e R s m args below meth c A n0 ad0 mc ms F ad H locs cells slots ls Z hst hc hs
  exact lv_iand F.1.2.1 F.1.2.2.1 hd (k F Z hst.tl.tl.i hc hs)
theorem nq_ior {a b : Int32} (hd : decode y.2.1 pc = .ok (.ior, 1)) (hp : pc + 1 = pc') (k : nq_J G d kc ks y pc' lv (.int (a ||| b) :: st) σ Q) : nq_J G d kc ks y pc lv (.int b :: .int a :: st) σ Q := by
  subst hp
  intro l p e R s m args below meth c A n0 ad0 mc ms F ad H locs cells slots ls Z hst hc hs
  exact lv_ior F.1.2.1 F.1.2.2.1 hd (k F Z hst.tl.tl.i hc hs)
theorem nq_ixor {a b : Int32} (hd : decode y.2.1 pc = .ok (.ixor, 1)) (hp : pc + 1 = pc') (k : nq_J G d kc ks y pc' lv (.int (a ^^^ b) :: st) σ Q) : nq_J G d kc ks y pc lv (.int b :: .int a :: st) σ Q := by
  subst hp
  intro l p e R s m args below meth c A n0 ad0 mc ms F ad H locs cells slots ls Z hst hc hs
  exact lv_ixor F.1.2.1 F.1.2.2.1 hd (k F Z hst.tl.tl.i hc hs)
theorem nq_idiv {a b : Int32} (hd : decode y.2.1 pc = .ok (.idiv, 1)) (hp : pc + 1 = pc') (h0 : ¬ b = 0) (k : nq_J G d kc ks y pc' lv (.int (a / b) :: st) σ Q) : nq_J G d kc ks y pc lv (.int b :: .int a :: st) σ Q := by
  subst hp
  intro l p e R s m args below meth c A n0 ad0 mc ms F ad H locs cells slots ls Z hst hc hs
  exact lv_idiv F.1.2.1 F.1.2.2.1 hd h0 (k F Z hst.tl.tl.i hc hs)
theorem nq_irem {a b : Int32} (hd : decode y.2.1 pc = .ok (.irem, 1)) (hp : pc + 1 = pc') (h0 : ¬ b = 0) (k : nq_J G d kc ks y pc' lv (.int (a - a / b * b) :: st) σ Q) : nq_J G d kc ks y pc lv (.int b :: .int a :: st) σ Q := by
  subst hp
  intro l p e R s m args below meth c A n0 ad0 mc ms F ad H locs cells slots ls Z hst hc hs
  exact lv_irem F.1.2.1 F.1.2.2.1 hd h0 (k F Z hst.tl.tl.i hc hs)
theorem nq_iushr {a b : Int32} (hd : decode y.2.1 pc = .ok (.iushr, 1)) (hp : pc + 1 = pc') (k : nq_J G d kc ks y pc' lv (.int ((a.toUInt32 >>> (b.toUInt32 &&& Int32.toUInt32 31)).toInt32) :: st) σ Q) : nq_J G d kc ks y pc lv (.int b :: .int a :: st) σ Q := by
  subst hp
  intro l p e R s m args below meth c A n0 ad0 mc ms F ad H locs cells slots ls Z hst hc hs
  exact lv_iushr F.1.2.1 F.1.2.2.1 hd rfl (k F Z hst.tl.tl.i hc hs)
theorem nq_ineg {a : Int32} (hd : decode y.2.1 pc = .ok (.ineg, 1)) (hp : pc + 1 = pc') (k : nq_J G d kc ks y pc' lv (.int (-a) :: st) σ Q) : nq_J G d kc ks y pc lv (.int a :: st) σ Q := by
  subst hp
  intro l p e R s m args below meth c A n0 ad0 mc ms F ad H locs cells slots ls Z hst hc hs
  exact lv_ineg F.1.2.1 F.1.2.2.1 hd (k F Z hst.tl.i hc hs)
theorem nq_ladd {a b : Int64} (hd : decode y.2.1 pc = .ok (.ladd, 1)) (hp : pc + 1 = pc') (k : nq_J G d kc ks y pc' lv (.long (a + b) :: st) σ Q) : nq_J G d kc ks y pc lv (.long b :: .long a :: st) σ Q := by
  subst hp
  intro l p e R s m args below meth c A n0 ad0 mc ms F ad H locs cells slots ls Z hst hc hs
  exact lv_ladd F.1.2.1 F.1.2.2.1 hd (k F Z hst.tl.tl.l hc hs)
theorem nq_lsub {a b : Int64} (hd : decode y.2.1 pc = .ok (.lsub, 1)) (hp : pc + 1 = pc') (k : nq_J G d kc ks y pc' lv (.long (a - b) :: st) σ Q) : nq_J G d kc ks y pc lv (.long b :: .long a :: st) σ Q := by
  subst hp
  intro l p e R s m args below meth c A n0 ad0 mc ms F ad H locs cells slots ls Z hst hc hs
  exact lv_lsub F.1.2.1 F.1.2.2.1 hd (k F Z hst.tl.tl.l hc hs)
theorem nq_land {a b : Int64} (hd : decode y.2.1 pc = .ok (.land, 1)) (hp : pc + 1 = pc') (k : nq_J G d kc ks y pc' lv (.long (a &&& b) :: st) σ Q) : nq_J G d kc ks y pc lv (.long b :: .long a :: st) σ Q := by
  subst hp
  intro l p e R s m args below meth c A n0 ad0 mc ms F ad H locs cells slots ls Z hst hc hs
  exact lv_land F.1.2.1 F.1.2.2.1 hd (k F Z hst.tl.tl.l hc hs)
theorem nq_lor {a b : Int64} (hd : decode y.2.1 pc = .ok (.lor, 1)) (hp : pc + 1 = pc') (k : nq_J G d kc ks y pc' lv (.long (a ||| b) :: st) σ Q) : nq_J G d kc ks y pc lv (.long b :: .long a :: st) σ Q := by
  subst hp
  intro l p e R s m args below meth c A n0 ad0 mc ms F ad H locs cells slots ls Z hst hc hs
  exact lv_lor F.1.2.1 F.1.2.2.1 hd (k F Z hst.tl.tl.l hc hs)
theorem nq_lushr {a : Int64} {b : Int32} (hd : decode y.2.1 pc = .ok (.lushr, 1)) (hp : pc + 1 = pc') (k : nq_J G d kc ks y pc' lv (.long ((a.toUInt64 >>> (b.toInt64.toUInt64 &&& Int64.toUInt64 63)).toInt64) :: st) σ Q) : nq_J G d kc ks y pc lv (.int b :: .long a :: st) σ Q := by
  subst hp
  intro l p e R s m args below meth c A n0 ad0 mc ms F ad H locs cells slots ls Z hst hc hs
  exact lv_lushr F.1.2.1 F.1.2.2.1 hd rfl (k F Z hst.tl.tl.l hc hs)
theorem nq_lshl {a : Int64} {b : Int32} (hd : decode y.2.1 pc = .ok (.lshl, 1)) (hp : pc + 1 = pc') (k : nq_J G d kc ks y pc' lv (.long (a <<< (b.toInt64 &&& 63)) :: st) σ Q) : nq_J G d kc ks y pc lv (.int b :: .long a :: st) σ Q := by
  subst hp
  intro l p e R s m args below meth c A n0 ad0 mc ms F ad H locs cells slots ls Z hst hc hs
  exact lv_lshl F.1.2.1 F.1.2.2.1 hd rfl (k F Z hst.tl.tl.l hc hs)
theorem nq_i2l {a : Int32} (hd : decode y.2.1 pc = .ok (.i2l, 1)) (hp : pc + 1 = pc') (k : nq_J G d kc ks y pc' lv (.long (a.toInt64) :: st) σ Q) : nq_J G d kc ks y pc lv (.int a :: st) σ Q := by
  subst hp
  intro l p e R s m args below meth c A n0 ad0 mc ms F ad H locs cells slots ls Z hst hc hs
  exact lv_i2l F.1.2.1 F.1.2.2.1 hd rfl (k F Z hst.tl.l hc hs)
theorem nq_l2i {a : Int64} (hd : decode y.2.1 pc = .ok (.l2i, 1)) (hp : pc + 1 = pc') (k : nq_J G d kc ks y pc' lv (.int (a.toInt32) :: st) σ Q) : nq_J G d kc ks y pc lv (.long a :: st) σ Q := by
  subst hp
  intro l p e R s m args below meth c A n0 ad0 mc ms F ad H locs cells slots ls Z hst hc hs
  exact lv_l2i F.1.2.1 F.1.2.2.1 hd rfl (k F Z hst.tl.i hc hs)
theorem nq_i2c {a : Int32} (hd : decode y.2.1 pc = .ok (.i2c, 1)) (hp : pc + 1 = pc') (k : nq_J G d kc ks y pc' lv (.int ((a.toUInt32 % 65536).toInt32) :: st) σ Q) : nq_J G d kc ks y pc lv (.int a :: st) σ Q := by
  subst hp
  intro l p e R s m args below meth c A n0 ad0 mc ms F ad H locs cells slots ls Z hst hc hs
  exact lv_i2c F.1.2.1 F.1.2.2.1 hd rfl (k F Z hst.tl.i hc hs)
theorem nq_i2b {a : Int32} (hd : decode y.2.1 pc = .ok (.i2b, 1)) (hp : pc + 1 = pc') (k : nq_J G d kc ks y pc' lv (.int (a.toInt8.toInt32) :: st) σ Q) : nq_J G d kc ks y pc lv (.int a :: st) σ Q := by
  subst hp
  intro l p e R s m args below meth c A n0 ad0 mc ms F ad H locs cells slots ls Z hst hc hs
  exact lv_i2b F.1.2.1 F.1.2.2.1 hd rfl (k F Z hst.tl.i hc hs)
theorem nq_lcmp {a b : Int64} (hd : decode y.2.1 pc = .ok (.lcmp, 1)) (hp : pc + 1 = pc') (k : nq_J G d kc ks y pc' lv (.int (lg_cmp a b) :: st) σ Q) : nq_J G d kc ks y pc lv (.long b :: .long a :: st) σ Q := by
  subst hp
  intro l p e R s m args below meth c A n0 ad0 mc ms F ad H locs cells slots ls Z hst hc hs
  exact W.lcmp F.1.2.1 F.1.2.2.1 hd (k F Z hst.tl.tl.i hc hs)
theorem nq_dup {va : Value} (hd : decode y.2.1 pc = .ok (.dup, 1)) (hp : pc + 1 = pc') (hva : va.category = 1) (k : nq_J G d kc ks y pc' lv (va :: va :: st) σ Q) : nq_J G d kc ks y pc lv (va :: st) σ Q := by
  subst hp
  intro l p e R s m args below meth c A n0 ad0 mc ms F ad H locs cells slots ls Z hst hc hs
  exact lv_dup F.1.2.1 F.1.2.2.1 hd ((nq_cv_cat ad va).trans hva) (k F Z (hst.of (by intro v hv; simp only [List.mem_cons] at hv ⊢; rcases hv with h9 | h9 | h9 <;> simp [h9])) hc hs)
theorem nq_pop {va : Value} (hd : decode y.2.1 pc = .ok (.pop, 1)) (hp : pc + 1 = pc') (hva : va.category = 1) (k : nq_J G d kc ks y pc' lv (st) σ Q) : nq_J G d kc ks y pc lv (va :: st) σ Q := by
  subst hp
  intro l p e R s m args below meth c A n0 ad0 mc ms F ad H locs cells slots ls Z hst hc hs
  exact lv_pop F.1.2.1 F.1.2.2.1 hd ((nq_cv_cat ad va).trans hva) (k F Z (hst.of (by intro v hv; simp only [List.mem_cons] at hv ⊢; have h9 := hv <;> simp [h9])) hc hs)
theorem nq_dup_x1 {va vb : Value} (hd : decode y.2.1 pc = .ok (.dup_x1, 1)) (hp : pc + 1 = pc') (hva : va.category = 1) (hvb : vb.category = 1) (k : nq_J G d kc ks y pc' lv (va :: vb :: va :: st) σ Q) : nq_J G d kc ks y pc lv (va :: vb :: st) σ Q := by
  subst hp
  intro l p e R s m args below meth c A n0 ad0 mc ms F ad H locs cells slots ls Z hst hc hs
  exact lv_dup_x1 F.1.2.1 F.1.2.2.1 hd ((nq_cv_cat ad va).trans hva) ((nq_cv_cat ad vb).trans hvb) (k F Z (hst.of (by intro v hv; simp only [List.mem_cons] at hv ⊢; rcases hv with h9 | h9 | h9 | h9 <;> simp [h9])) hc hs)
theorem nq_dup_x2 {va vb vd : Value} (hd : decode y.2.1 pc = .ok (.dup_x2, 1)) (hp : pc + 1 = pc') (hva : va.category = 1) (hvb : vb.category = 1) (hvd : vd.category = 1) (k : nq_J G d kc ks y pc' lv (va :: vb :: vd :: va :: st) σ Q) : nq_J G d kc ks y pc lv (va :: vb :: vd :: st) σ Q := by
  subst hp
  intro l p e R s m args below meth c A n0 ad0 mc ms F ad H locs cells slots ls Z hst hc hs
  exact lv_dup_x2 F.1.2.1 F.1.2.2.1 hd ((nq_cv_cat ad va).trans hva) ((nq_cv_cat ad vb).trans hvb) ((nq_cv_cat ad vd).trans hvd) (k F Z (hst.of (by intro v hv; simp only [List.mem_cons] at hv ⊢; rcases hv with h9 | h9 | h9 | h9 | h9 <;> simp [h9])) hc hs)
theorem nq_dup2 {va vb : Value} (hd : decode y.2.1 pc = .ok (.dup2, 1)) (hp : pc + 1 = pc') (hva : va.category = 1) (hvb : vb.category = 1) (k : nq_J G d kc ks y pc' lv (va :: vb :: va :: vb :: st) σ Q) : nq_J G d kc ks y pc lv (va :: vb :: st) σ Q := by
  subst hp
  intro l p e R s m args below meth c A n0 ad0 mc ms F ad H locs cells slots ls Z hst hc hs
  exact lv_dup2_11 F.1.2.1 F.1.2.2.1 hd ((nq_cv_cat ad va).trans hva) ((nq_cv_cat ad vb).trans hvb) (k F Z (hst.of (by intro v hv; simp only [List.mem_cons] at hv ⊢; rcases hv with h9 | h9 | h9 | h9 | h9 <;> simp [h9])) hc hs)
theorem nq_if_eq {a : Int32} {off : Int} {tgt : Nat} (hd : decode y.2.1 pc = .ok (.ifCond .eq off, 3)) (hp : pc + 3 = pc') (ht : (pc : Int) + off = (tgt : Int)) (kt : a = 0 → nq_J G d kc ks y tgt lv st σ Q) (kf : ¬ a = 0 → nq_J G d kc ks y pc' lv st σ Q) : nq_J G d kc ks y pc lv (.int a :: st) σ Q := by
  subst hp
  intro l p e R s m args below meth c A n0 ad0 mc ms F ad H locs cells slots ls Z hst hc hs
  exact lv_if_eq F.1.2.1 F.1.2.2.1 hd ht (fun q => kt q F Z hst.tl hc hs) (fun q => kf q F Z hst.tl hc hs)
theorem nq_icmp_eq {a b : Int32} {off : Int} {tgt : Nat} (hd : decode y.2.1 pc = .ok (.if_icmp .eq off, 3)) (hp : pc + 3 = pc') (ht : (pc : Int) + off = (tgt : Int)) (kt : a = b → nq_J G d kc ks y tgt lv st σ Q) (kf : ¬ a = b → nq_J G d kc ks y pc' lv st σ Q) : nq_J G d kc ks y pc lv (.int b :: .int a :: st) σ Q := by
  subst hp
  intro l p e R s m args below meth c A n0 ad0 mc ms F ad H locs cells slots ls Z hst hc hs
  exact lv_icmp_eq F.1.2.1 F.1.2.2.1 hd ht (fun q => kt q F Z hst.tl.tl hc hs) (fun q => kf q F Z hst.tl.tl hc hs)
theorem nq_if_ne {a : Int32} {off : Int} {tgt : Nat} (hd : decode y.2.1 pc = .ok (.ifCond .ne off, 3)) (hp : pc + 3 = pc') (ht : (pc : Int) + off = (tgt : Int)) (kt : ¬ a = 0 → nq_J G d kc ks y tgt lv st σ Q) (kf : a = 0 → nq_J G d kc ks y pc' lv st σ Q) : nq_J G d kc ks y pc lv (.int a :: st) σ Q := by
  subst hp
  intro l p e R s m args below meth c A n0 ad0 mc ms F ad H locs cells slots ls Z hst hc hs
  exact lv_if_ne F.1.2.1 F.1.2.2.1 hd ht (fun q => kt q F Z hst.tl hc hs) (fun q => kf q F Z hst.tl hc hs)
theorem nq_icmp_ne {a b : Int32} {off : Int} {tgt : Nat} (hd : decode y.2.1 pc = .ok (.if_icmp .ne off, 3)) (hp : pc + 3 = pc') (ht : (pc : Int) + off = (tgt : Int)) (kt : ¬ a = b → nq_J G d kc ks y tgt lv st σ Q) (kf : a = b → nq_J G d kc ks y pc' lv st σ Q) : nq_J G d kc ks y pc lv (.int b :: .int a :: st) σ Q := by
  subst hp
  intro l p e R s m args below meth c A n0 ad0 mc ms F ad H locs cells slots ls Z hst hc hs
  exact lv_icmp_ne F.1.2.1 F.1.2.2.1 hd ht (fun q => kt q F Z hst.tl.tl hc hs) (fun q => kf q F Z hst.tl.tl hc hs)
theorem nq_if_lt {a : Int32} {off : Int} {tgt : Nat} (hd : decode y.2.1 pc = .ok (.ifCond .lt off, 3)) (hp : pc + 3 = pc') (ht : (pc : Int) + off = (tgt : Int)) (kt : a < 0 → nq_J G d kc ks y tgt lv st σ Q) (kf : ¬ a < 0 → nq_J G d kc ks y pc' lv st σ Q) : nq_J G d kc ks y pc lv (.int a :: st) σ Q := by
  subst hp
  intro l p e R s m args below meth c A n0 ad0 mc ms F ad H locs cells slots ls Z hst hc hs
  exact lv_if_lt F.1.2.1 F.1.2.2.1 hd ht (fun q => kt q F Z hst.tl hc hs) (fun q => kf q F Z hst.tl hc hs)
theorem nq_icmp_lt {a b : Int32} {off : Int} {tgt : Nat} (hd : decode y.2.1 pc = .ok (.if_icmp .lt off, 3)) (hp : pc + 3 = pc') (ht : (pc : Int) + off = (tgt : Int)) (kt : a < b → nq_J G d kc ks y tgt lv st σ Q) (kf : ¬ a < b → nq_J G d kc ks y pc' lv st σ Q) : nq_J G d kc ks y pc lv (.int b :: .int a :: st) σ Q := by
  subst hp
  intro l p e R s m args below meth c A n0 ad0 mc ms F ad H locs cells slots ls Z hst hc hs
  exact lv_icmp_lt F.1.2.1 F.1.2.2.1 hd ht (fun q => kt q F Z hst.tl.tl hc hs) (fun q => kf q F Z hst.tl.tl hc hs)
theorem nq_if_ge {a : Int32} {off : Int} {tgt : Nat} (hd : decode y.2.1 pc = .ok (.ifCond .ge off, 3)) (hp : pc + 3 = pc') (ht : (pc : Int) + off = (tgt : Int)) (kt : 0 ≤ a → nq_J G d kc ks y tgt lv st σ Q) (kf : ¬ 0 ≤ a → nq_J G d kc ks y pc' lv st σ Q) : nq_J G d kc ks y pc lv (.int a :: st) σ Q := by
  subst hp
  intro l p e R s m args below meth c A n0 ad0 mc ms F ad H locs cells slots ls Z hst hc hs
  exact lv_if_ge F.1.2.1 F.1.2.2.1 hd ht (fun q => kt q F Z hst.tl hc hs) (fun q => kf q F Z hst.tl hc hs)
theorem nq_icmp_ge {a b : Int32} {off : Int} {tgt : Nat} (hd : decode y.2.1 pc = .ok (.if_icmp .ge off, 3)) (hp : pc + 3 = pc') (ht : (pc : Int) + off = (tgt : Int)) (kt : b ≤ a → nq_J G d kc ks y tgt lv st σ Q) (kf : ¬ b ≤ a → nq_J G d kc ks y pc' lv st σ Q) : nq_J G d kc ks y pc lv (.int b :: .int a :: st) σ Q := by
  subst hp
  intro l p e R s m args below meth c A n0 ad0 mc ms F ad H locs cells slots ls Z hst hc hs
  exact lv_icmp_ge F.1.2.1 F.1.2.2.1 hd ht (fun q => kt q F Z hst.tl.tl hc hs) (fun q => kf q F Z hst.tl.tl hc hs)
theorem nq_if_gt {a : Int32} {off : Int} {tgt : Nat} (hd : decode y.2.1 pc = .ok (.ifCond .gt off, 3)) (hp : pc + 3 = pc') (ht : (pc : Int) + off = (tgt : Int)) (kt : 0 < a → nq_J G d kc ks y tgt lv st σ Q) (kf : ¬ 0 < a → nq_J G d kc ks y pc' lv st σ Q) : nq_J G d kc ks y pc lv (.int a :: st) σ Q := by
  subst hp
  intro l p e R s m args below meth c A n0 ad0 mc ms F ad H locs cells slots ls Z hst hc hs
  exact lv_if_gt F.1.2.1 F.1.2.2.1 hd ht (fun q => kt q F Z hst.tl hc hs) (fun q => kf q F Z hst.tl hc hs)
theorem nq_icmp_gt {a b : Int32} {off : Int} {tgt : Nat} (hd : decode y.2.1 pc = .ok (.if_icmp .gt off, 3)) (hp : pc + 3 = pc') (ht : (pc : Int) + off = (tgt : Int)) (kt : b < a → nq_J G d kc ks y tgt lv st σ Q) (kf : ¬ b < a → nq_J G d kc ks y pc' lv st σ Q) : nq_J G d kc ks y pc lv (.int b :: .int a :: st) σ Q := by
  subst hp
  intro l p e R s m args below meth c A n0 ad0 mc ms F ad H locs cells slots ls Z hst hc hs
  exact lv_icmp_gt F.1.2.1 F.1.2.2.1 hd ht (fun q => kt q F Z hst.tl.tl hc hs) (fun q => kf q F Z hst.tl.tl hc hs)
theorem nq_if_le {a : Int32} {off : Int} {tgt : Nat} (hd : decode y.2.1 pc = .ok (.ifCond .le off, 3)) (hp : pc + 3 = pc') (ht : (pc : Int) + off = (tgt : Int)) (kt : a ≤ 0 → nq_J G d kc ks y tgt lv st σ Q) (kf : ¬ a ≤ 0 → nq_J G d kc ks y pc' lv st σ Q) : nq_J G d kc ks y pc lv (.int a :: st) σ Q := by
  subst hp
  intro l p e R s m args below meth c A n0 ad0 mc ms F ad H locs cells slots ls Z hst hc hs
  exact lv_if_le F.1.2.1 F.1.2.2.1 hd ht (fun q => kt q F Z hst.tl hc hs) (fun q => kf q F Z hst.tl hc hs)
theorem nq_icmp_le {a b : Int32} {off : Int} {tgt : Nat} (hd : decode y.2.1 pc = .ok (.if_icmp .le off, 3)) (hp : pc + 3 = pc') (ht : (pc : Int) + off = (tgt : Int)) (kt : a ≤ b → nq_J G d kc ks y tgt lv st σ Q) (kf : ¬ a ≤ b → nq_J G d kc ks y pc' lv st σ Q) : nq_J G d kc ks y pc lv (.int b :: .int a :: st) σ Q := by
  subst hp
  intro l p e R s m args below meth c A n0 ad0 mc ms F ad H locs cells slots ls Z hst hc hs
  exact lv_icmp_le F.1.2.1 F.1.2.2.1 hd ht (fun q => kt q F Z hst.tl.tl hc hs) (fun q => kf q F Z hst.tl.tl hc hs)
theorem nq_goto {off : Int} {tgt : Nat} (hd : decode y.2.1 pc = .ok (.goto off, 3)) (ht : (pc : Int) + off = (tgt : Int)) (k : nq_J G d kc ks y tgt lv st σ Q) : nq_J G d kc ks y pc lv st σ Q := by
  intro l p e R s m args below meth c A n0 ad0 mc ms F ad H locs cells slots ls Z hst hc hs
  exact lv_goto F.1.2.1 F.1.2.2.1 hd ht (k F Z hst hc hs)
theorem nq_ifnull {x : Nat} {off : Int} (hd : decode y.2.1 pc = .ok (.ifnull off, 3)) (hp : pc + 3 = pc') (k : nq_J G d kc ks y pc' lv st σ Q) : nq_J G d kc ks y pc lv (.ref x :: st) σ Q := by
  subst hp
  intro l p e R s m args below meth c A n0 ad0 mc ms F ad H locs cells slots ls Z hst hc hs
  exact lv_ifnull F.1.2.1 F.1.2.2.1 hd (k F Z hst.tl hc hs)
theorem nq_ifnullN {off : Int} {tgt : Nat} (hd : decode y.2.1 pc = .ok (.ifnull off, 3)) (ht : (pc : Int) + off = (tgt : Int)) (k : nq_J G d kc ks y tgt lv st σ Q) : nq_J G d kc ks y pc lv (.null :: st) σ Q := by
  intro l p e R s m args below meth c A n0 ad0 mc ms F ad H locs cells slots ls Z hst hc hs
  exact lv_ifnullN F.1.2.1 F.1.2.2.1 hd ht (k F Z hst.tl hc hs)
theorem nq_ifnonnull {x : Nat} {off : Int} {tgt : Nat} (hd : decode y.2.1 pc = .ok (.ifnonnull off, 3)) (ht : (pc : Int) + off = (tgt : Int)) (k : nq_J G d kc ks y tgt lv st σ Q) : nq_J G d kc ks y pc lv (.ref x :: st) σ Q := by
  intro l p e R s m args below meth c A n0 ad0 mc ms F ad H locs cells slots ls Z hst hc hs
  exact lv_ifnonnull F.1.2.1 F.1.2.2.1 hd ht (k F Z hst.tl hc hs)
theorem nq_ifnonnullN {off : Int} (hd : decode y.2.1 pc = .ok (.ifnonnull off, 3)) (hp : pc + 3 = pc') (k : nq_J G d kc ks y pc' lv st σ Q) : nq_J G d kc ks y pc lv (.null :: st) σ Q := by
  subst hp
  intro l p e R s m args below meth c A n0 ad0 mc ms F ad H locs cells slots ls Z hst hc hs
  exact lv_ifnonnullN F.1.2.1 F.1.2.2.1 hd (k F Z hst.tl hc hs)
theorem nq_tableIn {dflt lo hi : Int} {offs : Array Int} {len : Nat} {a : Int32} {off : Int} {tgt : Nat} (hd : decode y.2.1 pc = .ok (.tableswitch dflt lo hi offs, len)) (h1 : ¬ a.toInt < lo) (h2 : ¬ hi < a.toInt) (ho : offs[(a.toInt - lo).toNat]? = some off) (ht : (pc : Int) + off = (tgt : Int)) (k : nq_J G d kc ks y tgt lv st σ Q) : nq_J G d kc ks y pc lv (.int a :: st) σ Q := by
  intro l p e R s m args below meth c A n0 ad0 mc ms F ad H locs cells slots ls Z hst hc hs
  exact lv_tableIn F.1.2.1 F.1.2.2.1 hd h1 h2 ho ht (k F Z hst.tl hc hs)
theorem nq_tableOut {dflt lo hi : Int} {offs : Array Int} {len : Nat} {a : Int32} {tgt : Nat} (hd : decode y.2.1 pc = .ok (.tableswitch dflt lo hi offs, len)) (h1 : a.toInt < lo ∨ hi < a.toInt) (ht : (pc : Int) + dflt = (tgt : Int)) (k : nq_J G d kc ks y tgt lv st σ Q) : nq_J G d kc ks y pc lv (.int a :: st) σ Q := by
  intro l p e R s m args below meth c A n0 ad0 mc ms F ad H locs cells slots ls Z hst hc hs
  exact lv_tableOut F.1.2.1 F.1.2.2.1 hd h1 ht (k F Z hst.tl hc hs)
theorem nq_lookup {dflt : Int} {ps : Array (Int × Int)} {len : Nat} {a : Int32} {off : Int} {tgt : Nat} (hd : decode y.2.1 pc = .ok (.lookupswitch dflt ps, len)) (h1 : (ps.toList.zip (ps.toList.drop 1)).all (fun (a, next) => a.1 < next.1) = true) (ho : Op.lookupswitch.offset ps.toList dflt a.toInt = off) (ht : (pc : Int) + off = (tgt : Int)) (k : nq_J G d kc ks y tgt lv st σ Q) : nq_J G d kc ks y pc lv (.int a :: st) σ Q := by
  intro l p e R s m args below meth c A n0 ad0 mc ms F ad H locs cells slots ls Z hst hc hs
  exact lv_lookup F.1.2.1 F.1.2.2.1 hd h1 ho ht (k F Z hst.tl hc hs)
end NQR
