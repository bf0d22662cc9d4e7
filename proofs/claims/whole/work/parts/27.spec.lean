/-! WHAT A STATEMENT DOES -/
abbrev nq_IA : String := "java/lang/IllegalArgumentException"
abbrev nq_IS : String := "java/lang/IllegalStateException"
abbrev nq_NE : String := "java/util/NoSuchElementException"
def sx_env (r1 r2 : nq_Rw) (p : Int32) : Nat → Int32 := fun i => if i < 3 then rw_c r1 i else if i < 6 then rw_c r2 (i - 3) else p
def sx_row0 : nq_Rw := (0, 0, 0)
/-- the pairs that a statement goes through -/
def sx_envs (T1 : List nq_Rw) (T2 : Option (List nq_Rw)) (p : Int32) : List (Nat → Int32) := match T2 with
  | none => T1.map (fun r => sx_env r sx_row0 p)
  | some T2 => T1.flatMap (fun r => T2.map (fun r2 => sx_env r r2 p))
abbrev sx_E : Type := Int32 × List Int32
def sx_k (es : List sx_E) (k : Nat) : Int32 := match es[k]? with
  | some e => e.1
  | none => 0
def sx_add (es : List sx_E) (e : sx_E) : List sx_E := es.take (rs_ps (sx_k es) e.1 es.length) ++ e :: es.drop (rs_ps (sx_k es) e.1 es.length)
def sx_mk (od : Nat) (ρ : Nat → Int32) : Int32 := if od = 0 then 0 else ρ (od - 1)
def sx_sel (vs : List (List nq_In)) (cs : List sp_K) (od : Nat) : List (Nat → Int32) → List sx_E → String ⊕ List sx_E
  | [], cl => .inr cl
  | ρ :: r, cl => match sx_m cs ρ with
    | none => .inl nq_AE
    | some false => sx_sel vs cs od r cl
    | some true => match sx_vs 7 ρ vs with
      | none => .inl nq_AE
      | some xs => if cl.length = 40 then .inl nq_UE else sx_sel vs cs od r (cl ++ [(sx_mk od ρ, xs)])
def sx_col (vs : List (List nq_In)) (cs : List sp_K) : List (Nat → Int32) → List Int32 → String ⊕ List Int32
  | [], cl => .inr cl
  | ρ :: r, cl => match sx_m cs ρ with
    | none => .inl nq_AE
    | some false => sx_col vs cs r cl
    | some true => match sx_vs 7 ρ vs with
      | none => .inl nq_AE
      | some xs => sx_col vs cs r (cl ++ [xs.headD 0])
/-- which rows are met, and with what new number -/
def sx_ch (up : Bool) (vs : List (List nq_In)) (cs : List sp_K) (p : Int32) : List nq_Rw → List (Option Int32) → String ⊕ List (Option Int32)
  | [], cl => .inr cl
  | x :: r, cl => match sx_m cs (sx_env x sx_row0 p) with
    | none => .inl nq_AE
    | some false => sx_ch up vs cs p r (cl ++ [none])
    | some true => if up then (match sx_vs 7 (sx_env x sx_row0 p) vs with
      | none => .inl nq_AE
      | some xs => sx_ch up vs cs p r (cl ++ [some (xs.headD 0)])) else sx_ch up vs cs p r (cl ++ [some 0])
def sx_max (a b : Int32) : Int32 := if a < b then b else a
def sx_min (a b : Int32) : Int32 := if b < a then b else a
def sx_agg (fn : Nat) (xs : List Int32) : Option Int32 := if fn = 43 then some (xs.foldl (· + ·) 0) else if fn = 35 then some (nI xs.length) else match xs with
  | [] => none
  | x :: r => some (if fn = 62 then r.foldl sx_max x else r.foldl sx_min x)
def sx_del : List nq_Rw → List (Option Int32) → List nq_Rw
  | x :: r, none :: m => x :: sx_del r m
  | _ :: r, some _ :: m => sx_del r m
  | r, _ => r
def sx_put (c : Nat) : List nq_Rw → List (Option Int32) → List nq_Rw
  | x :: r, none :: m => x :: sx_put c r m
  | x :: r, some v :: m => rw_s x c v :: sx_put c r m
  | r, _ => r
def sx_many (m : List (Option Int32)) : Nat := m.countP (fun x => x.isSome)
abbrev sx_T : Type := List (List nq_Rw)
def sx_two (tb : sx_T) (u : Nat) : Option (List nq_Rw) := if u = 3 then none else some (tb.getD u [])
/-- a statement is run: what it throws, or its answer, the tables, the result and its width -/
def sx_exec (tb : sx_T) (s : sp_St) (p : Int32) : String ⊕ (Int32 × sx_T × List sx_E × Nat) :=
  if s.1 = 73 then (match sx_vs 7 (sx_env sx_row0 sx_row0 p) s.2.2.2.1 with
    | none => .inl nq_AE
    | some xs => if (tb.getD s.2.1 []).any (fun r => r.1 == xs.getD 0 0) ∨ (tb.getD s.2.1 []).length = 20 then .inl nq_IS
      else .inr (1, tb.set s.2.1 (rw_ins (xs.getD 0 0, xs.getD 1 0, xs.getD 2 0) (tb.getD s.2.1 [])), [], 0))
  else if s.1 = 68 then (match sx_ch false s.2.2.2.1 s.2.2.2.2.2.1 p (tb.getD s.2.1 []) [] with
    | .inl e => .inl e
    | .inr m => .inr (nI (sx_many m), tb.set s.2.1 (sx_del (tb.getD s.2.1 []) m), [], 0))
  else if s.1 = 85 then (match sx_ch true s.2.2.2.1 s.2.2.2.2.2.1 p (tb.getD s.2.1 []) [] with
    | .inl e => .inl e
    | .inr m => .inr (nI (sx_many m), tb.set s.2.1 (sx_put s.2.2.2.2.1 (tb.getD s.2.1 []) m), [], 0))
  else if s.1 = 65 ∨ s.1 = 66 then (match sx_col s.2.2.2.1 s.2.2.2.2.2.1 (sx_envs (tb.getD s.2.1 []) (sx_two tb s.2.2.1) p) [] with
    | .inl e => .inl e
    | .inr xs => match sx_agg s.2.2.2.2.1 xs with
      | none => .inl nq_NE
      | some v => .inr (1, tb, [(0, [v])], 1))
  else match sx_sel s.2.2.2.1 s.2.2.2.2.2.1 s.2.2.2.2.2.2 (sx_envs (tb.getD s.2.1 []) (sx_two tb s.2.2.1) p) [] with
    | .inl e => .inl e
    | .inr cl => .inr (nI cl.length, tb, cl.foldl sx_add [], s.2.2.2.1.length)
/-- the store: text, place, kept, tables, tables at begin, begun, noted, finished, failed, result, its width -/
abbrev sx_S : Type := List Nat × Int32 × (Nat → Option sp_St) × sx_T × sx_T × Bool × Int32 × Int32 × Int32 × List sx_E × Nat
abbrev sx_A : Type := Option Int32 ⊕ String
def sx_L (T : List Nat) (i : Nat) : Nat := T.getD i 0
def sx_run (s : sp_St) (p : Int32) : sx_S → sx_A × sx_S
  | (T, pl, kp, tb, old, bg, nt, dn, fl, _, _) => match sx_exec tb s p with
    | .inl e => (.inr e, (T, pl, kp, tb, old, bg, nt, dn, fl + 1, [], 0))
    | .inr (n, tb', res', w') => (.inl (some n), (T, pl, kp, tb', old, bg, (if bg ∧ (s.1 = 73 ∨ s.1 = 68 ∨ s.1 = 85) then nt + n else nt), dn + 1, fl, res', w'))
def sx_sh (j : Nat) : Int32 := 56 - 8 * nI j
/-- the byte at a shift -/
def sx_by (v : Int64) (sh : Int32) : Nat := ((v.toUInt64 >>> (sh.toInt64.toUInt64 &&& Int64.toUInt64 63)).toInt64.toInt32).toBitVec.toNat % 256
/-- how many characters stand in the last k bytes, if they are fine -/
def sx_cn (v : Int64) : Nat → Option Nat
  | 0 => some 0
  | k + 1 => if sx_by v (sx_sh (8 - (k + 1))) = 0 then sx_cn v k else if sx_by v (sx_sh (8 - (k + 1))) < 33 ∨ 126 < sx_by v (sx_sh (8 - (k + 1))) then none else (sx_cn v k).map (· + 1)
def sx_cs (v : Int64) : Nat → List Nat
  | 0 => []
  | k + 1 => if sx_by v (sx_sh (8 - (k + 1))) = 0 then sx_cs v k else sx_by v (sx_sh (8 - (k + 1))) :: sx_cs v k
theorem sx_cn_cs (v : Int64) : ∀ {k n : Nat}, sx_cn v k = some n → n = (sx_cs v k).length ∧ ∀ c ∈ sx_cs v k, 33 ≤ c ∧ c ≤ 126
  | 0, n, h => by cases h; exact ⟨rfl, fun c hc => by cases hc⟩
  | k + 1, n, h => by
    unfold sx_cn at h
    unfold sx_cs
    split at h
    · rename_i h0
      rw [if_pos h0]
      exact sx_cn_cs v h
    · rename_i h0
      rw [if_neg h0]
      split at h
      · cases h
      · rename_i h1
        cases hk : sx_cn v k with
        | none => rw [hk] at h; cases h
        | some m =>
          rw [hk] at h
          cases h
          obtain ⟨a1, a2⟩ := sx_cn_cs v hk
          refine ⟨by simp [a1], fun c hc => ?_⟩
          rcases List.mem_cons.1 hc with rfl | hc
          · omega
          · exact a2 c hc
theorem sx_by_eq (v : Int64) (sh : Int32) : (v.toUInt64 >>> (sh.toInt64.toUInt64 &&& Int64.toUInt64 63)).toInt64.toInt32 &&& 255 = nI (sx_by v sh) := by
  unfold sx_by
  generalize (v.toUInt64 >>> (sh.toInt64.toUInt64 &&& Int64.toUInt64 63)).toInt64.toInt32 = y
  apply Int32.toBitVec_inj.mp
  apply BitVec.eq_of_toNat_eq
  rw [Int32.toBitVec_and, BitVec.toNat_and]
  show y.toBitVec.toNat &&& 255 = (BitVec.ofNat 32 (y.toBitVec.toNat % 256)).toNat
  rw [BitVec.toNat_ofNat, Nat.mod_eq_of_lt (a := y.toBitVec.toNat % 256) (by omega)]
  exact Nat.and_two_pow_sub_one_eq_mod _ 8
theorem sx_by_lt (v : Int64) (sh : Int32) : sx_by v sh < 256 := Nat.mod_lt _ (by decide)
/-- what typing comes to when t characters are there: what it throws, or how many came -/
def sx_ty (v : Int64) (t : Nat) : String ⊕ Nat := match sx_cn v 8 with
  | none => .inl nq_IA
  | some n => if 48 < t + n then .inl nq_IS else .inr n
def sx_type (v : Int64) : sx_S → sx_A × sx_S
  | (T, r) => match sx_ty v T.length with
    | .inl e => (.inr e, (T, r))
    | .inr n => (.inl (some (nI (T.length + n))), (T ++ sx_cs v 8, r))
def sx_keep (k : Int32) : sx_S → sx_A × sx_S
  | (T, pl, kp, r) => if k < 0 ∨ 4 ≤ k then (.inr nq_IA, (T, pl, kp, r)) else match sp_stmt (sx_L T) T.length with
    | .inl p => (.inr nq_IA, ([], nI p, kp, r))
    | .inr s => (.inl (some (nI (cl_q s))), ([], pl, (fun i => if i = k.toNatClampNeg then some s else kp i), r))
def sx_runk (k p : Int32) (S : sx_S) : sx_A × sx_S := if k < 0 ∨ 4 ≤ k then (.inr nq_IA, S) else match S.2.2.1 k.toNatClampNeg with
  | none => (.inr nq_NE, S)
  | some s => sx_run s p S
def sx_ask (p : Int32) : sx_S → sx_A × sx_S
  | (T, pl, r) => match sp_stmt (sx_L T) T.length with
    | .inl q => (.inr nq_IA, ([], nI q, r))
    | .inr s => sx_run s p ([], pl, r)
