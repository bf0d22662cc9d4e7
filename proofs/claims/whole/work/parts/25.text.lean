/-! TEXTS: the place of a character in one -/
theorem fs_Str_38 : Cond.fieldLink "java/lang/String" 38 "java/lang/String" "COMPACT_STRINGS" "Z" ∈ nq_T := (nq_i2 169 rfl rfl)
theorem fs_Str_15 : Cond.fieldLink "java/lang/String" 15 "java/lang/String" "coder" "B" ∈ nq_T := (nq_i5 171 rfl rfl)
theorem fs_Str_9 : Cond.fieldLink "java/lang/String" 9 "java/lang/String" "value" "[B" ∈ nq_T := (nq_i5 172 rfl rfl)
theorem nq_ishr {G : nq_G} {d kc ks : Nat} {y : nq_M} {pc pc' : Nat} {lv : List (Option Value)} {st : List Value} {σ : nq_S} {Q : nq_Q} {a b : Int32} (hd : decode y.2.1 pc = .ok (.ishr, 1)) (hp : pc + 1 = pc') (k : nq_J G d kc ks y pc' lv (.int (a >>> (b &&& 31)) :: st) σ Q) : nq_J G d kc ks y pc lv (.int b :: .int a :: st) σ Q := by
  subst hp
  intro l p e R s m args below meth c A n0 ad0 mc ms F ad H locs cells slots ls Z hst hc hs
  exact lv_ishr F.1.2.1 F.1.2.2.1 hd (k F Z hst.tl.tl.i hc hs)
def tx_b : List (List Nat) := [[], [73, 68, 85, 83, 80, 65, 66], [48, 49, 50], [97, 98, 99], [97, 98, 99, 100, 101, 102], [40], [48, 49, 50, 51, 52, 53, 54, 55, 56, 57], [63], [45], [41], [42, 47, 37], [43, 45], [44], [98, 99], [61], [43, 35, 62, 60], [91], [60, 61, 62], [38], [38, 124], [93], [94]]
/-- the characters of the text i -/
def tx (i : Nat) : List Nat := tx_b.getD i []
theorem tx_ok : ∀ i : Fin 22, nq_len.getD i 0 = (tx i).length ∧ (tx i).length ≤ 10 ∧ (∀ j : Fin 10, j.1 < (tx i).length → (nq_byt.getD i []).getD j 0 = nI ((tx i).getD j 0) ∧ (tx i).getD j 0 < 128) := by decide +kernel
/-- where c lies in the text, or -1 -/
def tx_f (bs : List Nat) (c : Nat) : Int32 := match bs.idxOf? c with
  | some j => nI j
  | none => -1
theorem tx_i2b : ∀ c : Fin 128, (nI c).toInt8.toInt32 = nI c := by decide +kernel
theorem tx_sh : ∀ n : Fin 11, nI n >>> ((0 : Int32) &&& 31) = nI n := by decide +kernel
section TX
variable {G : nq_G} {d : Nat} {σ : nq_S} {i c : Nat}
theorem k_Str_isLatin1 (hi : i < 22) : nq_JM G d 0 0 m_Str_isLatin1 [.ref (1000000 + i)] σ (nq_R (some (.int 1)) σ) := by
  refine nq_mk' (lv := [some (.ref (1000000 + i))]) (by decide +kernel) rfl (Nat.le_of_ble_eq_true rfl) rfl ?_
  refine nq_getZ (pc' := 3) d_Str_isLatin1_0 rfl fs_Str_38 ?_
  refine nq_if_eq (pc' := 6) (tgt := 17) d_Str_isLatin1_3 rfl (by decide) (fun h => absurd h (by decide)) (fun _ => ?_)
  refine nq_aload_n (pc' := 7) d_Str_isLatin1_6 rfl rfl rfl ?_
  refine nq_getC (pc' := 10) d_Str_isLatin1_7 rfl hi fs_Str_15 ?_
  refine nq_if_ne (pc' := 13) (tgt := 17) d_Str_isLatin1_10 rfl (by decide) (fun h => absurd rfl h) (fun _ => ?_)
  refine nq_iconst (v := 1) (pc' := 14) d_Str_isLatin1_13 rfl (by decide) ?_
  refine nq_goto (tgt := 18) d_Str_isLatin1_14 (by decide) ?_
  refine nq_iret d_Str_isLatin1_18 rfl rfl ⟨rfl, rfl⟩
theorem k_Str_coder (hi : i < 22) : nq_JM G d 0 0 m_Str_coder [.ref (1000000 + i)] σ (nq_R (some (.int 0)) σ) := by
  refine nq_mk' (lv := [some (.ref (1000000 + i))]) (by decide +kernel) rfl (Nat.le_of_ble_eq_true rfl) rfl ?_
  refine nq_getZ (pc' := 3) d_Str_coder_0 rfl fs_Str_38 ?_
  refine nq_if_eq (pc' := 6) (tgt := 13) d_Str_coder_3 rfl (by decide) (fun h => absurd h (by decide)) (fun _ => ?_)
  refine nq_aload_n (pc' := 7) d_Str_coder_6 rfl rfl rfl ?_
  refine nq_getC (pc' := 10) d_Str_coder_7 rfl hi fs_Str_15 ?_
  refine nq_goto (tgt := 14) d_Str_coder_10 (by decide) ?_
  refine nq_iret d_Str_coder_14 rfl rfl ⟨rfl, rfl⟩
theorem k_Str_length (hi : i < 22) : nq_JM G (d + 1) 0 0 m_Str_length [.ref (1000000 + i)] σ (nq_R (some (.int (nI (tx i).length))) σ) := by
  obtain ⟨h1, h2, h3⟩ := tx_ok ⟨i, hi⟩
  simp only at h1 h2 h3
  refine nq_mk' (lv := [some (.ref (1000000 + i))]) (by decide +kernel) rfl (Nat.le_of_ble_eq_true rfl) rfl ?_
  refine nq_aload_n (pc' := 1) d_Str_length_0 rfl rfl rfl ?_
  refine nq_getV (pc' := 4) d_Str_length_1 rfl hi fs_Str_9 ?_
  refine nq_blen (pc' := 5) d_Str_length_4 rfl hi ?_
  rw [h1]
  refine nq_aload_n (pc' := 6) d_Str_length_5 rfl rfl rfl ?_
  refine nq_callK (pc' := 9) d_Str_length_6 rfl cl_Str_335 (kc := 0) (ks := 0) (mc' := 0) (ms' := 0) (i := i) hi rfl rfl (As := []) (rest := [.int (nI (tx i).length)]) rfl rfl (Nat.le_of_ble_eq_true rfl) (k_Str_coder hi) (fun E σ1 h => by cases h.1) (fun v σ1 h => ?_)
  obtain ⟨h, rfl⟩ := h
  cases h
  refine nq_ishr (pc' := 10) d_Str_length_9 rfl ?_
  rw [show nI (tx i).length >>> ((0 : Int32) &&& 31) = nI (tx i).length from tx_sh ⟨(tx i).length, by omega⟩]
  refine nq_iret d_Str_length_10 rfl rfl ⟨rfl, rfl⟩
theorem k_Lat_canEncode (hc : c < 128) : nq_JM G d 0 0 m_Lat_canEncode [.int (nI c)] σ (nq_R (some (.int 1)) σ) := by
  refine nq_mk' (lv := [some (.int (nI c))]) (by decide +kernel) rfl (Nat.le_of_ble_eq_true rfl) rfl ?_
  refine nq_iload_n (pc' := 1) d_Lat_canEncode_0 rfl rfl rfl ?_
  refine nq_if_lt (pc' := 4) (tgt := 15) d_Lat_canEncode_1 rfl (by decide) (fun h => absurd h (nI_pos (by omega))) (fun _ => ?_)
  refine nq_iload_n (pc' := 5) d_Lat_canEncode_4 rfl rfl rfl ?_
  refine nq_sipush (v := 255) (pc' := 8) d_Lat_canEncode_5 rfl (by decide) ?_
  refine nq_icmp_gt (pc' := 11) (tgt := 15) d_Lat_canEncode_8 rfl (by decide) (fun h => absurd h (nI_nlt (a := 255) (by omega) (by decide))) (fun _ => ?_)
  refine nq_iconst (v := 1) (pc' := 12) d_Lat_canEncode_11 rfl (by decide) ?_
  refine nq_goto (tgt := 16) d_Lat_canEncode_12 (by decide) ?_
  refine nq_iret d_Lat_canEncode_16 rfl rfl ⟨rfl, rfl⟩
theorem k_Lat_indexOfChar (hi : i < 22) (hc : c < 128) : nq_JM G d 0 0 m_Lat_indexOfChar [.ref (2000000 + i), .int (nI c), .int (nI 0), .int (nI (tx i).length)] σ (nq_R (some (.int (tx_f (tx i) c))) σ) := by
  obtain ⟨h1, h2, h3⟩ := tx_ok ⟨i, hi⟩
  simp only at h1 h2 h3
  refine nq_mk' (lv := [some (.ref (2000000 + i)), some (.int (nI c)), some (.int (nI 0)), some (.int (nI (tx i).length)), none, none]) (by decide +kernel) rfl (Nat.le_of_ble_eq_true rfl) rfl ?_
  refine nq_iload_n (pc' := 1) d_Lat_indexOfChar_0 rfl rfl rfl ?_
  refine nq_i2b (pc' := 2) d_Lat_indexOfChar_1 rfl ?_
  rw [show (nI c).toInt8.toInt32 = nI c from tx_i2b ⟨c, hc⟩]
  refine nq_istore (pc' := 4) d_Lat_indexOfChar_2 rfl (by decide) rfl ?_
  refine nq_iload_n (pc' := 5) d_Lat_indexOfChar_4 rfl rfl rfl ?_
  refine nq_istore (pc' := 7) d_Lat_indexOfChar_5 rfl (by decide) rfl ?_
  have loop : ∀ k j, j + k = (tx i).length → (∀ q, q < j → (tx i).getD q 0 ≠ c) → nq_J G d 0 0 m_Lat_indexOfChar 7 [some (.ref (2000000 + i)), some (.int (nI c)), some (.int (nI 0)), some (.int (nI (tx i).length)), some (.int (nI c)), some (.int (nI j))] [] σ (nq_R (some (.int (tx_f (tx i) c))) σ) := by
    intro k
    induction k with
    | zero =>
      intro j hj hno
      refine nq_iload (pc' := 9) d_Lat_indexOfChar_7 rfl rfl ?_
      refine nq_iload_n (pc' := 10) d_Lat_indexOfChar_9 rfl rfl rfl ?_
      refine nq_icmp_ge (pc' := 13) (tgt := 31) d_Lat_indexOfChar_10 rfl (by decide) (fun _ => ?_) (fun h => absurd (nI_le (by omega) (by omega)) h)
      refine nq_iconst (v := (-1)) (pc' := 32) d_Lat_indexOfChar_31 rfl (by decide) ?_
      have e9 : (tx i).idxOf? c = none := by
        rw [List.idxOf?_eq_none_iff]
        intro hm
        obtain ⟨q, hq, he⟩ := List.mem_iff_getElem.mp hm
        refine hno q (by omega) ?_
        rw [List.getD_eq_getElem?_getD, List.getElem?_eq_getElem hq]
        exact he
      refine nq_iret d_Lat_indexOfChar_32 rfl rfl ⟨by rw [tx_f, e9], rfl⟩
    | succ k ih =>
      intro j hj hno
      obtain ⟨b1, b2⟩ := h3 ⟨j, by omega⟩ (show j < (tx i).length by omega)
      simp only at b1 b2
      refine nq_iload (pc' := 9) d_Lat_indexOfChar_7 rfl rfl ?_
      refine nq_iload_n (pc' := 10) d_Lat_indexOfChar_9 rfl rfl rfl ?_
      refine nq_icmp_ge (pc' := 13) (tgt := 31) d_Lat_indexOfChar_10 rfl (by decide) (fun h => absurd ((nI_leI (by omega) (by omega)).mp h) (by omega)) (fun _ => ?_)
      refine nq_aload_n (pc' := 14) d_Lat_indexOfChar_13 rfl rfl rfl ?_
      refine nq_iload (pc' := 16) d_Lat_indexOfChar_14 rfl rfl ?_
      refine nq_bald (pc' := 17) (j := j) d_Lat_indexOfChar_16 rfl hi rfl (by rw [h1]; omega) (by omega) ?_
      rw [b1]
      refine nq_iload (pc' := 19) d_Lat_indexOfChar_17 rfl rfl ?_
      refine nq_icmp_ne (pc' := 22) (tgt := 25) d_Lat_indexOfChar_19 rfl (by decide) (fun h => ?_) (fun h => ?_)
      · refine nq_iinc (pc' := 28) d_Lat_indexOfChar_25 rfl rfl (v := nI (j + 1)) (nI_1 j) (by decide) rfl ?_
        refine nq_goto (tgt := 7) d_Lat_indexOfChar_28 (by decide) ?_
        refine ih (j + 1) (by omega) (fun q hq => ?_)
        rcases Nat.lt_or_eq_of_le (Nat.le_of_lt_succ hq) with q1 | q1
        · exact hno q q1
        · rw [q1]
          exact fun e => h (by rw [e])
      · have he : (tx i).getD j 0 = c := nI_inj (by omega) (by omega) h
        refine nq_iload (pc' := 24) d_Lat_indexOfChar_22 rfl rfl ?_
        have e9 : (tx i).idxOf? c = some j := by
          rw [List.idxOf?_eq_some_iff]
          refine ⟨by omega, ?_, ?_⟩
          · rw [List.getD_eq_getElem?_getD, List.getElem?_eq_getElem (by omega)] at he
            exact he
          · intro q hq e
            refine hno q hq ?_
            rw [List.getD_eq_getElem?_getD, List.getElem?_eq_getElem (by omega)]
            exact e
        refine nq_iret d_Lat_indexOfChar_24 rfl rfl ⟨by rw [tx_f, e9], rfl⟩
  exact loop (tx i).length 0 (by omega) (fun q hq => absurd hq (Nat.not_lt_zero _))
theorem k_Lat_indexOf (hi : i < 22) (hc : c < 128) : nq_JM G (d + 1) 0 0 m_Lat_indexOf [.ref (2000000 + i), .int (nI c), .int 0, .int (nI (tx i).length)] σ (nq_R (some (.int (tx_f (tx i) c))) σ) := by
  obtain ⟨h1, h2, h3⟩ := tx_ok ⟨i, hi⟩
  simp only at h1 h2 h3
  refine nq_mk' (lv := [some (.ref (2000000 + i)), some (.int (nI c)), some (.int 0), some (.int (nI (tx i).length))]) (by decide +kernel) rfl (Nat.le_of_ble_eq_true rfl) rfl ?_
  refine nq_iload_n (pc' := 1) d_Lat_indexOf_0 rfl rfl rfl ?_
  refine nq_callSR (pc' := 4) d_Lat_indexOf_1 rfl cl_Lat_88 st_Lat_88 rfl (kc := 0) (ks := 0) (mc' := 0) (ms' := 0) (As := [.int (nI c)]) (rest := []) rfl rfl (by decide) (k_Lat_canEncode hc) ?_
  refine nq_if_ne (pc' := 7) (tgt := 9) d_Lat_indexOf_4 rfl (by decide) (fun _ => ?_) (fun h => absurd h (by decide))
  refine nq_iload_n (pc' := 10) d_Lat_indexOf_9 rfl rfl rfl ?_
  refine nq_iconst (v := 0) (pc' := 11) d_Lat_indexOf_10 rfl (by decide) ?_
  refine nq_max (pc' := 14) d_Lat_indexOf_11 rfl mm_Lat_92 mm_max1 mm_0 mm_max2 (by decide) ?_
  rw [if_neg (show ¬ (0 : Int32) < 0 by decide)]
  refine nq_istore_n (pc' := 15) d_Lat_indexOf_14 rfl rfl (by decide) rfl ?_
  refine nq_iload_n (pc' := 16) d_Lat_indexOf_15 rfl rfl rfl ?_
  refine nq_aload_n (pc' := 17) d_Lat_indexOf_16 rfl rfl rfl ?_
  refine nq_blen (pc' := 18) d_Lat_indexOf_17 rfl hi ?_
  rw [h1]
  refine nq_min (pc' := 21) d_Lat_indexOf_18 rfl mm_Lat_38 mm_min1 mm_0 mm_min2 (by decide) ?_
  rw [if_neg (show ¬ nI (tx i).length < nI (tx i).length from Int32.lt_irrefl)]
  refine nq_istore_n (pc' := 22) d_Lat_indexOf_21 rfl rfl (by decide) rfl ?_
  refine nq_iload_n (pc' := 23) d_Lat_indexOf_22 rfl rfl rfl ?_
  refine nq_iload_n (pc' := 24) d_Lat_indexOf_23 rfl rfl rfl ?_
  cases hl : (tx i).length with
  | zero =>
    refine nq_icmp_lt (pc' := 27) (tgt := 29) d_Lat_indexOf_24 rfl (by decide) (fun h => absurd h (by decide)) (fun _ => ?_)
    refine nq_iconst (v := (-1)) (pc' := 28) d_Lat_indexOf_27 rfl (by decide) ?_
    have e9 : tx i = [] := List.eq_nil_of_length_eq_zero hl
    refine nq_iret d_Lat_indexOf_28 rfl rfl ⟨by rw [e9]; rfl, rfl⟩
  | succ k =>
    refine nq_icmp_lt (pc' := 27) (tgt := 29) d_Lat_indexOf_24 rfl (by decide) (fun _ => ?_) (fun h => absurd (nI_lt (a := 0) (by omega) (by omega)) h)
    refine nq_aload_n (pc' := 30) d_Lat_indexOf_29 rfl rfl rfl ?_
    refine nq_iload_n (pc' := 31) d_Lat_indexOf_30 rfl rfl rfl ?_
    refine nq_iload_n (pc' := 32) d_Lat_indexOf_31 rfl rfl rfl ?_
    refine nq_iload_n (pc' := 33) d_Lat_indexOf_32 rfl rfl rfl ?_
    rw [← hl]
    refine nq_callSR (pc' := 36) d_Lat_indexOf_33 rfl cl_Lat_95 st_Lat_95 rfl (kc := 0) (ks := 0) (mc' := 0) (ms' := 0) (As := [.ref (2000000 + i), .int (nI c), .int 0, .int (nI (tx i).length)]) (rest := []) rfl rfl (by decide) (k_Lat_indexOfChar hi hc) ?_
    refine nq_iret d_Lat_indexOf_36 rfl rfl ⟨rfl, rfl⟩
theorem k_Str_indexOf2 (hi : i < 22) (hc : c < 128) : nq_JM G (d + 2) 0 0 m_Str_indexOf2 [.ref (1000000 + i), .int (nI c), .int 0] σ (nq_R (some (.int (tx_f (tx i) c))) σ) := by
  refine nq_mk' (lv := [some (.ref (1000000 + i)), some (.int (nI c)), some (.int 0)]) (by decide +kernel) rfl (Nat.le_of_ble_eq_true rfl) rfl ?_
  refine nq_aload_n (pc' := 1) d_Str_indexOf2_0 rfl rfl rfl ?_
  refine nq_callK (pc' := 4) d_Str_indexOf2_1 rfl cl_Str_492 (kc := 0) (ks := 0) (mc' := 0) (ms' := 0) (i := i) hi rfl rfl (As := []) (rest := []) rfl rfl (by decide) (k_Str_isLatin1 hi) (fun E σ1 h => by cases h.1) (fun v σ1 h => ?_)
  obtain ⟨h, rfl⟩ := h
  cases h
  refine nq_if_eq (pc' := 7) (tgt := 23) d_Str_indexOf2_4 rfl (by decide) (fun h => absurd h (by decide)) (fun _ => ?_)
  refine nq_aload_n (pc' := 8) d_Str_indexOf2_7 rfl rfl rfl ?_
  refine nq_getV (pc' := 11) d_Str_indexOf2_8 rfl hi fs_Str_9 ?_
  refine nq_iload_n (pc' := 12) d_Str_indexOf2_11 rfl rfl rfl ?_
  refine nq_iload_n (pc' := 13) d_Str_indexOf2_12 rfl rfl rfl ?_
  refine nq_aload_n (pc' := 14) d_Str_indexOf2_13 rfl rfl rfl ?_
  refine nq_callK (pc' := 17) d_Str_indexOf2_14 rfl cl_Str_505 (kc := 0) (ks := 0) (mc' := 0) (ms' := 0) (i := i) hi rfl rfl (As := []) (rest := [.int 0, .int (nI c), .ref (2000000 + i)]) rfl rfl (Nat.le_of_ble_eq_true rfl) (k_Str_length hi) (fun E σ1 h => by cases h.1) (fun v σ2 h => ?_)
  obtain ⟨h, rfl⟩ := h
  cases h
  refine nq_callSR (pc' := 20) d_Str_indexOf2_17 rfl cl_Str_637 st_Str_637 rfl (kc := 0) (ks := 0) (mc' := 0) (ms' := 0) (As := [.ref (2000000 + i), .int (nI c), .int 0, .int (nI (tx i).length)]) (rest := []) rfl rfl (by decide) (k_Lat_indexOf hi hc) ?_
  refine nq_goto (tgt := 36) d_Str_indexOf2_20 (by decide) ?_
  refine nq_iret d_Str_indexOf2_36 rfl rfl ⟨rfl, rfl⟩
theorem k_Str_indexOf1 (hi : i < 22) (hc : c < 128) : nq_JM G (d + 3) 0 0 m_Str_indexOf1 [.ref (1000000 + i), .int (nI c)] σ (nq_R (some (.int (tx_f (tx i) c))) σ) := by
  refine nq_mk' (lv := [some (.ref (1000000 + i)), some (.int (nI c))]) (by decide +kernel) rfl (Nat.le_of_ble_eq_true rfl) rfl ?_
  refine nq_aload_n (pc' := 1) d_Str_indexOf1_0 rfl rfl rfl ?_
  refine nq_iload_n (pc' := 2) d_Str_indexOf1_1 rfl rfl rfl ?_
  refine nq_iconst (v := 0) (pc' := 3) d_Str_indexOf1_2 rfl (by decide) ?_
  refine nq_callK (pc' := 6) d_Str_indexOf1_3 rfl cl_Str_633 (kc := 0) (ks := 0) (mc' := 0) (ms' := 0) (i := i) hi rfl rfl (As := [.int (nI c), .int 0]) (rest := []) rfl rfl (by decide) (k_Str_indexOf2 hi hc) (fun E σ1 h => by cases h.1) (fun v σ1 h => ?_)
  obtain ⟨h, rfl⟩ := h
  cases h
  refine nq_iret d_Str_indexOf1_6 rfl rfl ⟨rfl, rfl⟩
end TX
