/-! THE READER: characters come in -/
theorem sx_sh_ok : ∀ j : Fin 9, (sx_sh j.1 < 0 ↔ j.1 = 8) ∧ (j.1 < 8 → sx_sh j.1 + Int32.ofInt (-8) = sx_sh (j.1 + 1)) := by decide +kernel
theorem sx_c16 : ∀ b : Fin 256, ((nI b.1).toUInt32 % 65536).toInt32 = nI b.1 ∧ vp_nar .char (nI b.1) = nI b.1 := by decide +kernel
section TY
variable {G : nq_G} {d : Nat} {σ : nq_S} {r ta : Nat} {f : Nat → Int32} {v : Int64} {e0 a0 pl : Int32} {cv cw : Value}
theorem k_Reader_byteAt {sh : Int32} : nq_JM G d 0 0 m_Reader_byteAt [.long v, .int sh] σ (nq_R (some (.int (nI (sx_by v sh)))) σ) := by
  refine nq_mk' (lv := [some (.long v), none, some (.int sh)]) (by decide +kernel) rfl (Nat.le_of_ble_eq_true rfl) rfl ?_
  refine nq_lload_n (pc' := 1) d_Reader_byteAt_0 rfl rfl rfl ?_
  refine nq_iload_n (pc' := 2) d_Reader_byteAt_1 rfl rfl rfl ?_
  refine nq_lushr (pc' := 3) d_Reader_byteAt_2 rfl ?_
  refine nq_l2i (pc' := 4) d_Reader_byteAt_3 rfl ?_
  refine nq_sipush (v := 255) (pc' := 7) d_Reader_byteAt_4 rfl (by decide) ?_
  refine nq_iand (pc' := 8) d_Reader_byteAt_7 rfl ?_
  rw [sx_by_eq]
  refine nq_iret d_Reader_byteAt_8 rfl rfl ⟨rfl, rfl⟩
theorem k_Reader_length {l : Int32} (hr : σ[r]? = some (.inr (3, [.ref ta, .int l, .int e0, .int a0, .int pl, cv, cw]))) : nq_JM G d 0 0 m_Reader_length [.ref r] σ (nq_R (some (.int l)) σ) := by
  refine nq_mk' (lv := [some (.ref r)]) (by decide +kernel) rfl (Nat.le_of_ble_eq_true rfl) rfl ?_
  refine nq_aload_n (pc' := 1) d_Reader_length_0 rfl rfl rfl ?_
  refine nq_getf (pc' := 4) d_Reader_length_1 rfl fl_Reader_25 (by first | assumption | exact nq_ga (by assumption) | exact nq_gs (by first | assumption | exact nq_ga (by assumption) | exact nq_gs (by first | assumption | exact nq_gs (by assumption) | exact nq_gn (by first | assumption | decide | omega | exact nq_ne1 (by assumption) (by assumption) | exact nq_ne2 (by assumption) (by assumption)) (by assumption) | exact nq_ga (by assumption)) | exact nq_gn (by first | assumption | decide | omega | exact nq_ne1 (by assumption) (by assumption) | exact nq_ne2 (by assumption) (by assumption)) (by first | assumption | exact nq_gs (by assumption) | exact nq_gn (by first | assumption | decide | omega | exact nq_ne1 (by assumption) (by assumption) | exact nq_ne2 (by assumption) (by assumption)) (by assumption) | exact nq_ga (by assumption))) | exact nq_gn (by first | assumption | decide | omega | exact nq_ne1 (by assumption) (by assumption) | exact nq_ne2 (by assumption) (by assumption)) (by first | assumption | exact nq_ga (by assumption) | exact nq_gs (by first | assumption | exact nq_gs (by assumption) | exact nq_gn (by first | assumption | decide | omega | exact nq_ne1 (by assumption) (by assumption) | exact nq_ne2 (by assumption) (by assumption)) (by assumption) | exact nq_ga (by assumption)) | exact nq_gn (by first | assumption | decide | omega | exact nq_ne1 (by assumption) (by assumption) | exact nq_ne2 (by assumption) (by assumption)) (by first | assumption | exact nq_gs (by assumption) | exact nq_gn (by first | assumption | decide | omega | exact nq_ne1 (by assumption) (by assumption) | exact nq_ne2 (by assumption) (by assumption)) (by assumption) | exact nq_ga (by assumption)))) rfl ?_
  refine nq_iret d_Reader_length_4 rfl rfl ⟨rfl, rfl⟩
theorem k_Reader_place {l : Int32} (hr : σ[r]? = some (.inr (3, [.ref ta, .int l, .int e0, .int a0, .int pl, cv, cw]))) : nq_JM G d 0 0 m_Reader_place [.ref r] σ (nq_R (some (.int pl)) σ) := by
  refine nq_mk' (lv := [some (.ref r)]) (by decide +kernel) rfl (Nat.le_of_ble_eq_true rfl) rfl ?_
  refine nq_aload_n (pc' := 1) d_Reader_place_0 rfl rfl rfl ?_
  refine nq_getf (pc' := 4) d_Reader_place_1 rfl fl_Reader_15 (by first | assumption | exact nq_ga (by assumption) | exact nq_gs (by first | assumption | exact nq_ga (by assumption) | exact nq_gs (by first | assumption | exact nq_gs (by assumption) | exact nq_gn (by first | assumption | decide | omega | exact nq_ne1 (by assumption) (by assumption) | exact nq_ne2 (by assumption) (by assumption)) (by assumption) | exact nq_ga (by assumption)) | exact nq_gn (by first | assumption | decide | omega | exact nq_ne1 (by assumption) (by assumption) | exact nq_ne2 (by assumption) (by assumption)) (by first | assumption | exact nq_gs (by assumption) | exact nq_gn (by first | assumption | decide | omega | exact nq_ne1 (by assumption) (by assumption) | exact nq_ne2 (by assumption) (by assumption)) (by assumption) | exact nq_ga (by assumption))) | exact nq_gn (by first | assumption | decide | omega | exact nq_ne1 (by assumption) (by assumption) | exact nq_ne2 (by assumption) (by assumption)) (by first | assumption | exact nq_ga (by assumption) | exact nq_gs (by first | assumption | exact nq_gs (by assumption) | exact nq_gn (by first | assumption | decide | omega | exact nq_ne1 (by assumption) (by assumption) | exact nq_ne2 (by assumption) (by assumption)) (by assumption) | exact nq_ga (by assumption)) | exact nq_gn (by first | assumption | decide | omega | exact nq_ne1 (by assumption) (by assumption) | exact nq_ne2 (by assumption) (by assumption)) (by first | assumption | exact nq_gs (by assumption) | exact nq_gn (by first | assumption | decide | omega | exact nq_ne1 (by assumption) (by assumption) | exact nq_ne2 (by assumption) (by assumption)) (by assumption) | exact nq_ga (by assumption)))) rfl ?_
  refine nq_iret d_Reader_place_4 rfl rfl ⟨rfl, rfl⟩
theorem k_Reader_init {r : Nat} (hr : σ[r]? = some (.inr (3, [.null, .int 0, .int 0, .int 0, .int 0, .null, .null]))) (hl : σ.length < 900000) : nq_JM G d 1 48 m_Reader_init [.ref r] σ (fun o σ' => o = .inl none ∧ σ'[r]? = some (.inr (3, [.ref σ.length, .int 0, .int 0, .int 0, .int (-1), .null, .ref 1000000])) ∧ σ'[σ.length]? = some (.inl (2, 48, .inl (fun _ => 0))) ∧ σ'.length = σ.length + 1 ∧ ∀ i, i < σ.length → i ≠ r → σ'[i]? = σ[i]?) := by
  have hml := nq_lt hr
  refine nq_mk' (lv := [some (.ref r)]) (by decide +kernel) rfl (Nat.le_of_ble_eq_true rfl) rfl ?_
  refine nq_aload_n (pc' := 1) d_Reader_init_0 rfl rfl rfl ?_
  refine nq_obj (pc' := 4) d_Reader_init_1 rfl oi_Reader oi_1 oi_2 (by decide) ?_
  refine nq_aload_n (pc' := 5) d_Reader_init_4 rfl rfl rfl ?_
  refine nq_bipush (v := 48) (pc' := 7) d_Reader_init_5 rfl (by decide) ?_
  refine nq_newa_char (t := 2) (pc' := 9) d_Reader_init_7 rfl rfl ac_char rfl rfl (by decide) (by omega) ?_
  refine nq_putF (pc' := 12) d_Reader_init_9 rfl flO_Reader_9 rfl (by first | assumption | exact nq_ga (by assumption) | exact nq_gs (by first | assumption | exact nq_ga (by assumption) | exact nq_gs (by first | assumption | exact nq_gs (by assumption) | exact nq_gn (by first | assumption | decide | omega | exact nq_ne1 (by assumption) (by assumption) | exact nq_ne2 (by assumption) (by assumption)) (by assumption) | exact nq_ga (by assumption)) | exact nq_gn (by first | assumption | decide | omega | exact nq_ne1 (by assumption) (by assumption) | exact nq_ne2 (by assumption) (by assumption)) (by first | assumption | exact nq_gs (by assumption) | exact nq_gn (by first | assumption | decide | omega | exact nq_ne1 (by assumption) (by assumption) | exact nq_ne2 (by assumption) (by assumption)) (by assumption) | exact nq_ga (by assumption))) | exact nq_gn (by first | assumption | decide | omega | exact nq_ne1 (by assumption) (by assumption) | exact nq_ne2 (by assumption) (by assumption)) (by first | assumption | exact nq_ga (by assumption) | exact nq_gs (by first | assumption | exact nq_gs (by assumption) | exact nq_gn (by first | assumption | decide | omega | exact nq_ne1 (by assumption) (by assumption) | exact nq_ne2 (by assumption) (by assumption)) (by assumption) | exact nq_ga (by assumption)) | exact nq_gn (by first | assumption | decide | omega | exact nq_ne1 (by assumption) (by assumption) | exact nq_ne2 (by assumption) (by assumption)) (by first | assumption | exact nq_gs (by assumption) | exact nq_gn (by first | assumption | decide | omega | exact nq_ne1 (by assumption) (by assumption) | exact nq_ne2 (by assumption) (by assumption)) (by assumption) | exact nq_ga (by assumption)))) (Nat.le_of_ble_eq_true rfl) rfl rfl ?_
  refine nq_ap' (P := fun w => nq_J _ _ _ _ _ _ _ _ w _) hml (fun ρ1 a1 a2 a3 a4 => ?_)
  refine nq_aload_n (pc' := 13) d_Reader_init_12 rfl rfl rfl ?_
  refine nq_iconst (v := (-1)) (pc' := 14) d_Reader_init_13 rfl (by decide) ?_
  refine nq_putf (pc' := 17) d_Reader_init_14 rfl fl_Reader_15 (by first | assumption | exact nq_ga (by assumption) | exact nq_gs (by first | assumption | exact nq_ga (by assumption) | exact nq_gs (by first | assumption | exact nq_gs (by assumption) | exact nq_gn (by first | assumption | decide | omega | exact nq_ne1 (by assumption) (by assumption) | exact nq_ne2 (by assumption) (by assumption)) (by assumption) | exact nq_ga (by assumption)) | exact nq_gn (by first | assumption | decide | omega | exact nq_ne1 (by assumption) (by assumption) | exact nq_ne2 (by assumption) (by assumption)) (by first | assumption | exact nq_gs (by assumption) | exact nq_gn (by first | assumption | decide | omega | exact nq_ne1 (by assumption) (by assumption) | exact nq_ne2 (by assumption) (by assumption)) (by assumption) | exact nq_ga (by assumption))) | exact nq_gn (by first | assumption | decide | omega | exact nq_ne1 (by assumption) (by assumption) | exact nq_ne2 (by assumption) (by assumption)) (by first | assumption | exact nq_ga (by assumption) | exact nq_gs (by first | assumption | exact nq_gs (by assumption) | exact nq_gn (by first | assumption | decide | omega | exact nq_ne1 (by assumption) (by assumption) | exact nq_ne2 (by assumption) (by assumption)) (by assumption) | exact nq_ga (by assumption)) | exact nq_gn (by first | assumption | decide | omega | exact nq_ne1 (by assumption) (by assumption) | exact nq_ne2 (by assumption) (by assumption)) (by first | assumption | exact nq_gs (by assumption) | exact nq_gn (by first | assumption | decide | omega | exact nq_ne1 (by assumption) (by assumption) | exact nq_ne2 (by assumption) (by assumption)) (by assumption) | exact nq_ga (by assumption)))) (Nat.le_of_ble_eq_true rfl) rfl rfl ?_
  try rw [nq_ss]
  refine nq_aload_n (pc' := 18) d_Reader_init_17 rfl rfl rfl ?_
  refine nq_ldcS (pc' := 20) d_Reader_init_18 rfl ls_Reader_19 ?_
  refine nq_putf (pc' := 23) d_Reader_init_20 rfl fl_Reader_21 (by first | assumption | exact nq_ga (by assumption) | exact nq_gs (by first | assumption | exact nq_ga (by assumption) | exact nq_gs (by first | assumption | exact nq_gs (by assumption) | exact nq_gn (by first | assumption | decide | omega | exact nq_ne1 (by assumption) (by assumption) | exact nq_ne2 (by assumption) (by assumption)) (by assumption) | exact nq_ga (by assumption)) | exact nq_gn (by first | assumption | decide | omega | exact nq_ne1 (by assumption) (by assumption) | exact nq_ne2 (by assumption) (by assumption)) (by first | assumption | exact nq_gs (by assumption) | exact nq_gn (by first | assumption | decide | omega | exact nq_ne1 (by assumption) (by assumption) | exact nq_ne2 (by assumption) (by assumption)) (by assumption) | exact nq_ga (by assumption))) | exact nq_gn (by first | assumption | decide | omega | exact nq_ne1 (by assumption) (by assumption) | exact nq_ne2 (by assumption) (by assumption)) (by first | assumption | exact nq_ga (by assumption) | exact nq_gs (by first | assumption | exact nq_gs (by assumption) | exact nq_gn (by first | assumption | decide | omega | exact nq_ne1 (by assumption) (by assumption) | exact nq_ne2 (by assumption) (by assumption)) (by assumption) | exact nq_ga (by assumption)) | exact nq_gn (by first | assumption | decide | omega | exact nq_ne1 (by assumption) (by assumption) | exact nq_ne2 (by assumption) (by assumption)) (by first | assumption | exact nq_gs (by assumption) | exact nq_gn (by first | assumption | decide | omega | exact nq_ne1 (by assumption) (by assumption) | exact nq_ne2 (by assumption) (by assumption)) (by assumption) | exact nq_ga (by assumption)))) (Nat.le_of_ble_eq_true rfl) rfl rfl ?_
  try rw [nq_ss]
  refine nq_vret d_Reader_init_23 rfl ⟨rfl, nq_gs a1, nq_gn (by omega) a2, by rw [List.length_set]; exact a3, fun i h1 h2 => by rw [List.getElem?_set_ne (Ne.symm h2)]; exact a4 i h1 h2⟩
theorem k_Reader_charactersIn : nq_JM G (d + 1) 0 0 m_Reader_charactersIn [.long v] σ (fun o σ' => σ' = σ ∧ o = match sx_cn v 8 with
    | none => .inr nq_IA
    | some n => .inl (some (.int (nI n)))) := by
  have loop : ∀ (k n : Nat), k ≤ 8 → nq_J G (d + 1) 0 0 m_Reader_charactersIn 5 [some (.long v), none, some (.int (nI n)), some (.int (sx_sh (8 - k))), none] [] σ (fun o σ' => σ' = σ ∧ o = match sx_cn v k with
      | none => .inr nq_IA
      | some m => .inl (some (.int (nI (n + m))))) := by
    intro k
    induction k with
    | zero =>
      intro n hk
      refine nq_iload_n (pc' := 6) d_Reader_charactersIn_5 rfl rfl rfl ?_
      refine nq_if_lt (pc' := 9) (tgt := 52) d_Reader_charactersIn_6 rfl (by decide) (fun _ => ?_) (fun h => absurd ((sx_sh_ok ⟨8, by omega⟩).1.mpr rfl) h)
      refine nq_iload_n (pc' := 53) d_Reader_charactersIn_52 rfl rfl rfl ?_
      refine nq_iret d_Reader_charactersIn_53 rfl rfl ⟨rfl, rfl⟩
    | succ k ih =>
      intro n hk
      have hs := sx_sh_ok ⟨8 - (k + 1), by omega⟩
      simp only at hs
      have hst : sx_sh (8 - (k + 1)) + Int32.ofInt (-8) = sx_sh (8 - k) := by rw [hs.2 (by omega)]; congr 1; omega
      have hb := sx_by_lt v (sx_sh (8 - (k + 1)))
      refine nq_iload_n (pc' := 6) d_Reader_charactersIn_5 rfl rfl rfl ?_
      refine nq_if_lt (pc' := 9) (tgt := 52) d_Reader_charactersIn_6 rfl (by decide) (fun h => absurd (hs.1.mp h) (by omega)) (fun _ => ?_)
      refine nq_lload_n (pc' := 10) d_Reader_charactersIn_9 rfl rfl rfl ?_
      refine nq_iload_n (pc' := 11) d_Reader_charactersIn_10 rfl rfl rfl ?_
      refine nq_callSR (pc' := 14) d_Reader_charactersIn_11 rfl cl_Reader_35 st_Reader_35 rfl (kc := 0) (ks := 0) (mc' := 0) (ms' := 0) (As := [.long v, .int (sx_sh (8 - (k + 1)))]) (rest := []) rfl rfl (Nat.le_of_ble_eq_true rfl) k_Reader_byteAt ?_
      unfold sx_cn
      generalize sx_by v (sx_sh (8 - (k + 1))) = b at hb ⊢
      refine nq_istore (pc' := 16) d_Reader_charactersIn_14 rfl (by decide) rfl ?_
      refine nq_iload (pc' := 18) d_Reader_charactersIn_16 rfl rfl ?_
      by_cases b0 : b = 0
      · rw [if_pos b0]
        subst b0
        refine nq_if_eq (pc' := 21) (tgt := 46) d_Reader_charactersIn_18 rfl (by decide) (fun _ => ?_) (fun h => absurd rfl h)
        refine nq_iinc (pc' := 49) d_Reader_charactersIn_46 rfl rfl (v := sx_sh (8 - k)) hst (by decide) rfl ?_
        refine nq_goto (tgt := 5) d_Reader_charactersIn_49 (by decide) ?_
        refine nq_J.fo 4 ?_
        exact ih n (by omega)
      · rw [if_neg b0]
        refine nq_if_eq (pc' := 21) (tgt := 46) d_Reader_charactersIn_18 rfl (by decide) (fun h => absurd h (nI_ne0 (by omega) (by omega))) (fun _ => ?_)
        refine nq_iload (pc' := 23) d_Reader_charactersIn_21 rfl rfl ?_
        refine nq_bipush (v := 33) (pc' := 25) d_Reader_charactersIn_23 rfl (by decide) ?_
        by_cases b1 : b < 33 ∨ 126 < b
        · rw [if_pos b1]
          by_cases b2 : b < 33
          · refine nq_icmp_lt (pc' := 28) (tgt := 35) d_Reader_charactersIn_25 rfl (by decide) (fun _ => ?_) (fun h => absurd (nI_lt (a := b) (b := 33) b2 (by omega)) h)
            refine nq_throw tl_Reader_39_41 rfl (by decide) d_Reader_charactersIn_35 d_Reader_charactersIn_38 d_Reader_charactersIn_39 d_Reader_charactersIn_42 ⟨rfl, rfl⟩
          · refine nq_icmp_lt (pc' := 28) (tgt := 35) d_Reader_charactersIn_25 rfl (by decide) (fun h => absurd h (nI_nlt (a := b) (b := 33) (by omega) (by omega))) (fun _ => ?_)
            refine nq_iload (pc' := 30) d_Reader_charactersIn_28 rfl rfl ?_
            refine nq_bipush (v := 126) (pc' := 32) d_Reader_charactersIn_30 rfl (by decide) ?_
            refine nq_icmp_le (pc' := 35) (tgt := 43) d_Reader_charactersIn_32 rfl (by decide) (fun h => absurd ((nI_leI (a := b) (b := 126) (by omega) (by omega)).mp h) (by omega)) (fun _ => ?_)
            refine nq_throw tl_Reader_39_41 rfl (by decide) d_Reader_charactersIn_35 d_Reader_charactersIn_38 d_Reader_charactersIn_39 d_Reader_charactersIn_42 ⟨rfl, rfl⟩
        · rw [if_neg b1]
          refine nq_icmp_lt (pc' := 28) (tgt := 35) d_Reader_charactersIn_25 rfl (by decide) (fun h => absurd h (nI_nlt (a := b) (b := 33) (by omega) (by omega))) (fun _ => ?_)
          refine nq_iload (pc' := 30) d_Reader_charactersIn_28 rfl rfl ?_
          refine nq_bipush (v := 126) (pc' := 32) d_Reader_charactersIn_30 rfl (by decide) ?_
          refine nq_icmp_le (pc' := 35) (tgt := 43) d_Reader_charactersIn_32 rfl (by decide) (fun _ => ?_) (fun h => absurd ((nI_leI (a := b) (b := 126) (by omega) (by omega)).mpr (by omega)) h)
          refine nq_iinc (pc' := 46) d_Reader_charactersIn_43 rfl rfl (v := nI (n + 1)) (nI_1 n) (by decide) rfl ?_
          refine nq_iinc (pc' := 49) d_Reader_charactersIn_46 rfl rfl (v := sx_sh (8 - k)) hst (by decide) rfl ?_
          refine nq_goto (tgt := 5) d_Reader_charactersIn_49 (by decide) ?_
          refine nq_J.fo 4 ?_
          refine nq_J.mono (ih (n + 1) (by omega)) (fun o σ' hq => ⟨hq.1, ?_⟩)
          rw [hq.2]
          cases sx_cn v k with
          | none => rfl
          | some m =>
            simp only [Option.map_some]
            rw [Nat.add_assoc, Nat.add_comm 1 m]
  refine nq_mk' (lv := [some (.long v), none, none, none, none]) (by decide +kernel) rfl (Nat.le_of_ble_eq_true rfl) rfl ?_
  refine nq_iconst (v := 0) (pc' := 1) d_Reader_charactersIn_0 rfl (by decide) ?_
  refine nq_istore_n (pc' := 2) d_Reader_charactersIn_1 rfl rfl (by decide) rfl ?_
  refine nq_bipush (v := 56) (pc' := 4) d_Reader_charactersIn_2 rfl (by decide) ?_
  refine nq_istore_n (pc' := 5) d_Reader_charactersIn_4 rfl rfl (by decide) rfl ?_
  refine nq_J.mono (loop 8 0 (by omega)) (fun o σ' hq => ⟨hq.1, ?_⟩)
  rw [hq.2]
  cases sx_cn v 8 with
  | none => rfl
  | some m => simp only [Nat.zero_add]
/-- the characters T lie in the text f -/
def rd_T (f : Nat → Int32) (T : List Nat) : Prop := T.length ≤ 48 ∧ ∀ i x, T[i]? = some x → f i = nI x ∧ 33 ≤ x ∧ x ≤ 126
theorem k_Reader_add {T : List Nat} (hT : rd_T f T) (hr : σ[r]? = some (.inr (3, [.ref ta, .int (nI T.length), .int e0, .int a0, .int pl, cv, cw]))) (ht : σ[ta]? = some (.inl (2, 48, .inl f))) : nq_JM G (d + 2) 0 0 m_Reader_add [.ref r, .long v] σ (fun o σ' => match sx_ty v T.length with
    | .inl e => o = .inr e ∧ σ' = σ
    | .inr n => o = .inl (some (.int (nI (T.length + n)))) ∧ ∃ f', rd_T f' (T ++ sx_cs v 8) ∧ σ' = (σ.set r (.inr (3, [.ref ta, .int (nI (T.length + n)), .int e0, .int a0, .int pl, cv, cw]))).set ta (.inl (2, 48, .inl f'))) := by
  have hne : r ≠ ta := nq_nc hr ht (by simp)
  have hne' := Ne.symm hne
  have hT48 := hT.1
  have loop : ∀ (k : Nat) (T : List Nat) (f : Nat → Int32) (σ1 : nq_S), k ≤ 8 → T.length + (sx_cs v k).length ≤ 48 → (∀ c ∈ sx_cs v k, 33 ≤ c ∧ c ≤ 126) → rd_T f T → σ1 = (σ.set r (.inr (3, [.ref ta, .int (nI T.length), .int e0, .int a0, .int pl, cv, cw]))).set ta (.inl (2, 48, .inl f)) → nq_J G (d + 2) 0 0 m_Reader_add 25 [some (.ref r), some (.long v), none, some (.int (sx_sh (8 - k))), none] [] σ1 (fun o σ' => o = .inl (some (.int (nI (T.length + (sx_cs v k).length)))) ∧ ∃ f', rd_T f' (T ++ sx_cs v k) ∧ σ' = (σ.set r (.inr (3, [.ref ta, .int (nI (T.length + (sx_cs v k).length)), .int e0, .int a0, .int pl, cv, cw]))).set ta (.inl (2, 48, .inl f'))) := by
    intro k
    induction k with
    | zero =>
      intro T f σ1 hk hl hc hT he
      have x1 : σ1[r]? = some (.inr (3, [.ref ta, .int (nI T.length), .int e0, .int a0, .int pl, cv, cw])) := by rw [he]; exact nq_gn hne (nq_gs hr)
      refine nq_iload_n (pc' := 26) d_Reader_add_25 rfl rfl rfl ?_
      refine nq_if_lt (pc' := 29) (tgt := 66) d_Reader_add_26 rfl (by decide) (fun _ => ?_) (fun h => absurd ((sx_sh_ok ⟨8, by omega⟩).1.mpr rfl) h)
      refine nq_aload_n (pc' := 67) d_Reader_add_66 rfl rfl rfl ?_
      refine nq_getf (pc' := 70) d_Reader_add_67 rfl fl_Reader_25 (by first | assumption | exact nq_ga (by assumption) | exact nq_gs (by first | assumption | exact nq_ga (by assumption) | exact nq_gs (by first | assumption | exact nq_gs (by assumption) | exact nq_gn (by first | assumption | decide | omega | exact nq_ne1 (by assumption) (by assumption) | exact nq_ne2 (by assumption) (by assumption)) (by assumption) | exact nq_ga (by assumption)) | exact nq_gn (by first | assumption | decide | omega | exact nq_ne1 (by assumption) (by assumption) | exact nq_ne2 (by assumption) (by assumption)) (by first | assumption | exact nq_gs (by assumption) | exact nq_gn (by first | assumption | decide | omega | exact nq_ne1 (by assumption) (by assumption) | exact nq_ne2 (by assumption) (by assumption)) (by assumption) | exact nq_ga (by assumption))) | exact nq_gn (by first | assumption | decide | omega | exact nq_ne1 (by assumption) (by assumption) | exact nq_ne2 (by assumption) (by assumption)) (by first | assumption | exact nq_ga (by assumption) | exact nq_gs (by first | assumption | exact nq_gs (by assumption) | exact nq_gn (by first | assumption | decide | omega | exact nq_ne1 (by assumption) (by assumption) | exact nq_ne2 (by assumption) (by assumption)) (by assumption) | exact nq_ga (by assumption)) | exact nq_gn (by first | assumption | decide | omega | exact nq_ne1 (by assumption) (by assumption) | exact nq_ne2 (by assumption) (by assumption)) (by first | assumption | exact nq_gs (by assumption) | exact nq_gn (by first | assumption | decide | omega | exact nq_ne1 (by assumption) (by assumption) | exact nq_ne2 (by assumption) (by assumption)) (by assumption) | exact nq_ga (by assumption)))) rfl ?_
      refine nq_iret d_Reader_add_70 rfl rfl ⟨rfl, f, ?_, he⟩
      unfold sx_cs
      rw [List.append_nil]
      exact hT
    | succ k ih =>
      intro T f σ1 hk hl hc hT he
      have x1 : σ1[r]? = some (.inr (3, [.ref ta, .int (nI T.length), .int e0, .int a0, .int pl, cv, cw])) := by rw [he]; exact nq_gn hne (nq_gs hr)
      have x2 : σ1[ta]? = some (.inl (2, 48, .inl f)) := by rw [he]; exact nq_gs (nq_gn hne' ht)
      have hs := sx_sh_ok ⟨8 - (k + 1), by omega⟩
      simp only at hs
      have hst : sx_sh (8 - (k + 1)) + Int32.ofInt (-8) = sx_sh (8 - k) := by rw [hs.2 (by omega)]; congr 1; omega
      have hb := sx_by_lt v (sx_sh (8 - (k + 1)))
      refine nq_iload_n (pc' := 26) d_Reader_add_25 rfl rfl rfl ?_
      refine nq_if_lt (pc' := 29) (tgt := 66) d_Reader_add_26 rfl (by decide) (fun h => absurd (hs.1.mp h) (by omega)) (fun _ => ?_)
      refine nq_lload_n (pc' := 30) d_Reader_add_29 rfl rfl rfl ?_
      refine nq_iload_n (pc' := 31) d_Reader_add_30 rfl rfl rfl ?_
      refine nq_callSR (pc' := 34) d_Reader_add_31 rfl cl_Reader_35 st_Reader_35 rfl (kc := 0) (ks := 0) (mc' := 0) (ms' := 0) (As := [.long v, .int (sx_sh (8 - (k + 1)))]) (rest := []) rfl rfl (Nat.le_of_ble_eq_true rfl) k_Reader_byteAt ?_
      unfold sx_cs at hl hc ⊢
      generalize sx_by v (sx_sh (8 - (k + 1))) = b at hb hl hc ⊢
      refine nq_istore (pc' := 36) d_Reader_add_34 rfl (by decide) rfl ?_
      refine nq_iload (pc' := 38) d_Reader_add_36 rfl rfl ?_
      by_cases b0 : b = 0
      · rw [if_pos b0] at hl hc ⊢
        subst b0
        refine nq_if_eq (pc' := 41) (tgt := 60) d_Reader_add_38 rfl (by decide) (fun _ => ?_) (fun h => absurd rfl h)
        refine nq_iinc (pc' := 63) d_Reader_add_60 rfl rfl (v := sx_sh (8 - k)) hst (by decide) rfl ?_
        refine nq_goto (tgt := 25) d_Reader_add_63 (by decide) ?_
        refine nq_J.fo 4 ?_
        exact ih T f σ1 (by omega) hl hc hT he
      · rw [if_neg b0] at hl hc ⊢
        obtain ⟨c1, c2⟩ := sx_c16 ⟨b, hb⟩
        simp only at c1 c2
        refine nq_if_eq (pc' := 41) (tgt := 60) d_Reader_add_38 rfl (by decide) (fun h => absurd h (nI_ne0 (by omega) (by omega))) (fun _ => ?_)
        simp only [List.length_cons] at hl
        refine nq_aload_n (pc' := 42) d_Reader_add_41 rfl rfl rfl ?_
        refine nq_getf (pc' := 45) d_Reader_add_42 rfl fl_Reader_9 (by first | assumption | exact nq_ga (by assumption) | exact nq_gs (by first | assumption | exact nq_ga (by assumption) | exact nq_gs (by first | assumption | exact nq_gs (by assumption) | exact nq_gn (by first | assumption | decide | omega | exact nq_ne1 (by assumption) (by assumption) | exact nq_ne2 (by assumption) (by assumption)) (by assumption) | exact nq_ga (by assumption)) | exact nq_gn (by first | assumption | decide | omega | exact nq_ne1 (by assumption) (by assumption) | exact nq_ne2 (by assumption) (by assumption)) (by first | assumption | exact nq_gs (by assumption) | exact nq_gn (by first | assumption | decide | omega | exact nq_ne1 (by assumption) (by assumption) | exact nq_ne2 (by assumption) (by assumption)) (by assumption) | exact nq_ga (by assumption))) | exact nq_gn (by first | assumption | decide | omega | exact nq_ne1 (by assumption) (by assumption) | exact nq_ne2 (by assumption) (by assumption)) (by first | assumption | exact nq_ga (by assumption) | exact nq_gs (by first | assumption | exact nq_gs (by assumption) | exact nq_gn (by first | assumption | decide | omega | exact nq_ne1 (by assumption) (by assumption) | exact nq_ne2 (by assumption) (by assumption)) (by assumption) | exact nq_ga (by assumption)) | exact nq_gn (by first | assumption | decide | omega | exact nq_ne1 (by assumption) (by assumption) | exact nq_ne2 (by assumption) (by assumption)) (by first | assumption | exact nq_gs (by assumption) | exact nq_gn (by first | assumption | decide | omega | exact nq_ne1 (by assumption) (by assumption) | exact nq_ne2 (by assumption) (by assumption)) (by assumption) | exact nq_ga (by assumption)))) rfl ?_
        refine nq_aload_n (pc' := 46) d_Reader_add_45 rfl rfl rfl ?_
        refine nq_dup (pc' := 47) d_Reader_add_46 rfl rfl ?_
        refine nq_getf (pc' := 50) d_Reader_add_47 rfl fl_Reader_25 (by first | assumption | exact nq_ga (by assumption) | exact nq_gs (by first | assumption | exact nq_ga (by assumption) | exact nq_gs (by first | assumption | exact nq_gs (by assumption) | exact nq_gn (by first | assumption | decide | omega | exact nq_ne1 (by assumption) (by assumption) | exact nq_ne2 (by assumption) (by assumption)) (by assumption) | exact nq_ga (by assumption)) | exact nq_gn (by first | assumption | decide | omega | exact nq_ne1 (by assumption) (by assumption) | exact nq_ne2 (by assumption) (by assumption)) (by first | assumption | exact nq_gs (by assumption) | exact nq_gn (by first | assumption | decide | omega | exact nq_ne1 (by assumption) (by assumption) | exact nq_ne2 (by assumption) (by assumption)) (by assumption) | exact nq_ga (by assumption))) | exact nq_gn (by first | assumption | decide | omega | exact nq_ne1 (by assumption) (by assumption) | exact nq_ne2 (by assumption) (by assumption)) (by first | assumption | exact nq_ga (by assumption) | exact nq_gs (by first | assumption | exact nq_gs (by assumption) | exact nq_gn (by first | assumption | decide | omega | exact nq_ne1 (by assumption) (by assumption) | exact nq_ne2 (by assumption) (by assumption)) (by assumption) | exact nq_ga (by assumption)) | exact nq_gn (by first | assumption | decide | omega | exact nq_ne1 (by assumption) (by assumption) | exact nq_ne2 (by assumption) (by assumption)) (by first | assumption | exact nq_gs (by assumption) | exact nq_gn (by first | assumption | decide | omega | exact nq_ne1 (by assumption) (by assumption) | exact nq_ne2 (by assumption) (by assumption)) (by assumption) | exact nq_ga (by assumption)))) rfl ?_
        refine nq_dup_x1 (pc' := 51) d_Reader_add_50 rfl rfl rfl ?_
        refine nq_iconst (v := 1) (pc' := 52) d_Reader_add_51 rfl (by decide) ?_
        refine nq_iadd (pc' := 53) d_Reader_add_52 rfl ?_
        refine nq_putf (pc' := 56) d_Reader_add_53 rfl fl_Reader_25 (by first | assumption | exact nq_ga (by assumption) | exact nq_gs (by first | assumption | exact nq_ga (by assumption) | exact nq_gs (by first | assumption | exact nq_gs (by assumption) | exact nq_gn (by first | assumption | decide | omega | exact nq_ne1 (by assumption) (by assumption) | exact nq_ne2 (by assumption) (by assumption)) (by assumption) | exact nq_ga (by assumption)) | exact nq_gn (by first | assumption | decide | omega | exact nq_ne1 (by assumption) (by assumption) | exact nq_ne2 (by assumption) (by assumption)) (by first | assumption | exact nq_gs (by assumption) | exact nq_gn (by first | assumption | decide | omega | exact nq_ne1 (by assumption) (by assumption) | exact nq_ne2 (by assumption) (by assumption)) (by assumption) | exact nq_ga (by assumption))) | exact nq_gn (by first | assumption | decide | omega | exact nq_ne1 (by assumption) (by assumption) | exact nq_ne2 (by assumption) (by assumption)) (by first | assumption | exact nq_ga (by assumption) | exact nq_gs (by first | assumption | exact nq_gs (by assumption) | exact nq_gn (by first | assumption | decide | omega | exact nq_ne1 (by assumption) (by assumption) | exact nq_ne2 (by assumption) (by assumption)) (by assumption) | exact nq_ga (by assumption)) | exact nq_gn (by first | assumption | decide | omega | exact nq_ne1 (by assumption) (by assumption) | exact nq_ne2 (by assumption) (by assumption)) (by first | assumption | exact nq_gs (by assumption) | exact nq_gn (by first | assumption | decide | omega | exact nq_ne1 (by assumption) (by assumption) | exact nq_ne2 (by assumption) (by assumption)) (by assumption) | exact nq_ga (by assumption)))) (Nat.le_of_ble_eq_true rfl) rfl rfl ?_
        refine nq_iload (pc' := 58) d_Reader_add_56 rfl rfl ?_
        refine nq_i2c (pc' := 59) d_Reader_add_58 rfl ?_
        rw [c1, nI_1]
        refine nq_cast (pc' := 60) d_Reader_add_59 rfl (by first | assumption | exact nq_ga (by assumption) | exact nq_gs (by first | assumption | exact nq_ga (by assumption) | exact nq_gs (by first | assumption | exact nq_gs (by assumption) | exact nq_gn (by first | assumption | decide | omega | exact nq_ne1 (by assumption) (by assumption) | exact nq_ne2 (by assumption) (by assumption)) (by assumption) | exact nq_ga (by assumption)) | exact nq_gn (by first | assumption | decide | omega | exact nq_ne1 (by assumption) (by assumption) | exact nq_ne2 (by assumption) (by assumption)) (by first | assumption | exact nq_gs (by assumption) | exact nq_gn (by first | assumption | decide | omega | exact nq_ne1 (by assumption) (by assumption) | exact nq_ne2 (by assumption) (by assumption)) (by assumption) | exact nq_ga (by assumption))) | exact nq_gn (by first | assumption | decide | omega | exact nq_ne1 (by assumption) (by assumption) | exact nq_ne2 (by assumption) (by assumption)) (by first | assumption | exact nq_ga (by assumption) | exact nq_gs (by first | assumption | exact nq_gs (by assumption) | exact nq_gn (by first | assumption | decide | omega | exact nq_ne1 (by assumption) (by assumption) | exact nq_ne2 (by assumption) (by assumption)) (by assumption) | exact nq_ga (by assumption)) | exact nq_gn (by first | assumption | decide | omega | exact nq_ne1 (by assumption) (by assumption) | exact nq_ne2 (by assumption) (by assumption)) (by first | assumption | exact nq_gs (by assumption) | exact nq_gn (by first | assumption | decide | omega | exact nq_ne1 (by assumption) (by assumption) | exact nq_ne2 (by assumption) (by assumption)) (by assumption) | exact nq_ga (by assumption)))) rfl (j := T.length) rfl (by omega) (by decide) ?_
        rw [c2]
        refine nq_iinc (pc' := 63) d_Reader_add_60 rfl rfl (v := sx_sh (8 - k)) hst (by decide) rfl ?_
        refine nq_goto (tgt := 25) d_Reader_add_63 (by decide) ?_
        refine nq_J.fo 4 ?_
        have hT' : rd_T (upd f T.length (nI b)) (T ++ [b]) := by
          refine ⟨by simp only [List.length_append, List.length_cons, List.length_nil]; omega, fun i x hx => ?_⟩
          by_cases hi : i = T.length
          · subst hi
            rw [List.getElem?_append_right (Nat.le_refl _), Nat.sub_self] at hx
            cases hx
            exact ⟨upd_at, hc b List.mem_cons_self⟩
          · have hl := (List.getElem?_eq_some_iff.mp hx).1
            simp only [List.length_append, List.length_cons, List.length_nil] at hl
            rw [List.getElem?_append_left (by omega)] at hx
            rw [upd_ne hi]
            exact hT.2 i x hx
        have hlen : (T ++ [b]).length = T.length + 1 := by simp
        have := ih (T ++ [b]) (upd f T.length (nI b)) _ (by omega) (by rw [hlen]; omega) (fun c h => hc c (List.mem_cons_of_mem _ h)) hT' rfl
        rw [hlen, List.append_assoc, Nat.add_assoc, Nat.add_comm 1] at this
        have hw : (σ1.set r (.inr (3, [.ref ta, .int (nI (T.length + 1)), .int e0, .int a0, .int pl, cv, cw]))).set ta (.inl (2, 48, .inl (upd f T.length (nI b)))) = (σ.set r (.inr (3, [.ref ta, .int (nI (T.length + 1)), .int e0, .int a0, .int pl, cv, cw]))).set ta (.inl (2, 48, .inl (upd f T.length (nI b)))) := by
          rw [he, List.set_comm _ _ hne', nq_ss, nq_ss]
        rw [← hw] at this
        exact this
  refine nq_mk' (lv := [some (.ref r), some (.long v), none, none, none]) (by decide +kernel) rfl (Nat.le_of_ble_eq_true rfl) rfl ?_
  refine nq_aload_n (pc' := 1) d_Reader_add_0 rfl rfl rfl ?_
  refine nq_getf (pc' := 4) d_Reader_add_1 rfl fl_Reader_25 (by first | assumption | exact nq_ga (by assumption) | exact nq_gs (by first | assumption | exact nq_ga (by assumption) | exact nq_gs (by first | assumption | exact nq_gs (by assumption) | exact nq_gn (by first | assumption | decide | omega | exact nq_ne1 (by assumption) (by assumption) | exact nq_ne2 (by assumption) (by assumption)) (by assumption) | exact nq_ga (by assumption)) | exact nq_gn (by first | assumption | decide | omega | exact nq_ne1 (by assumption) (by assumption) | exact nq_ne2 (by assumption) (by assumption)) (by first | assumption | exact nq_gs (by assumption) | exact nq_gn (by first | assumption | decide | omega | exact nq_ne1 (by assumption) (by assumption) | exact nq_ne2 (by assumption) (by assumption)) (by assumption) | exact nq_ga (by assumption))) | exact nq_gn (by first | assumption | decide | omega | exact nq_ne1 (by assumption) (by assumption) | exact nq_ne2 (by assumption) (by assumption)) (by first | assumption | exact nq_ga (by assumption) | exact nq_gs (by first | assumption | exact nq_gs (by assumption) | exact nq_gn (by first | assumption | decide | omega | exact nq_ne1 (by assumption) (by assumption) | exact nq_ne2 (by assumption) (by assumption)) (by assumption) | exact nq_ga (by assumption)) | exact nq_gn (by first | assumption | decide | omega | exact nq_ne1 (by assumption) (by assumption) | exact nq_ne2 (by assumption) (by assumption)) (by first | assumption | exact nq_gs (by assumption) | exact nq_gn (by first | assumption | decide | omega | exact nq_ne1 (by assumption) (by assumption) | exact nq_ne2 (by assumption) (by assumption)) (by assumption) | exact nq_ga (by assumption)))) rfl ?_
  refine nq_lload_n (pc' := 5) d_Reader_add_4 rfl rfl rfl ?_
  refine nq_callS (pc' := 8) d_Reader_add_5 rfl cl_Reader_28 st_Reader_28 rfl (kc := 0) (ks := 0) (mc' := 0) (ms' := 0) (As := [.long v]) (rest := [.int (nI T.length)]) rfl rfl (Nat.le_of_ble_eq_true rfl) k_Reader_charactersIn (fun E σ1 hq => ?_) (fun w σ1 hq => ?_)
  · obtain ⟨rfl, hq⟩ := hq
    unfold sx_ty
    cases hn : sx_cn v 8 with
    | none =>
      rw [hn] at hq
      exact ⟨hq, rfl⟩
    | some n =>
      rw [hn] at hq
      cases hq
  · obtain ⟨rfl, hq⟩ := hq
    unfold sx_ty
    cases hn : sx_cn v 8 with
    | none =>
      rw [hn] at hq
      cases hq
    | some n =>
      rw [hn] at hq
      cases hq
      obtain ⟨e1, e2⟩ := sx_cn_cs v hn
      have hn8 : (sx_cs v 8).length ≤ 8 := by
        have : ∀ k, (sx_cs v k).length ≤ k := by
          intro k
          induction k with
          | zero => exact Nat.le_refl _
          | succ k ih =>
            unfold sx_cs
            split
            · omega
            · simp only [List.length_cons]; omega
        exact this 8
      refine nq_iadd (pc' := 9) d_Reader_add_8 rfl ?_
      refine nq_bipush (v := 48) (pc' := 11) d_Reader_add_9 rfl (by decide) ?_
      simp only
      by_cases b0 : 48 < T.length + n
      · rw [if_pos b0]
        refine nq_icmp_le (pc' := 14) (tgt := 22) d_Reader_add_11 rfl (by decide) (fun h => absurd ((nI_leI (a := T.length + n) (b := 48) (by omega) (by omega)).mp (by rw [← nI_add]; exact h)) (by omega)) (fun _ => ?_)
        refine nq_throw tl_Reader_32_34 rfl (by decide) d_Reader_add_14 d_Reader_add_17 d_Reader_add_18 d_Reader_add_21 ⟨rfl, rfl⟩
      · rw [if_neg b0]
        refine nq_icmp_le (pc' := 14) (tgt := 22) d_Reader_add_11 rfl (by decide) (fun _ => ?_) (fun h => absurd (show nI T.length + nI n ≤ 48 from by rw [nI_add]; exact (nI_leI (a := T.length + n) (b := 48) (by omega) (by omega)).mpr (by omega)) h)
        refine nq_bipush (v := 56) (pc' := 24) d_Reader_add_22 rfl (by decide) ?_
        refine nq_istore_n (pc' := 25) d_Reader_add_24 rfl rfl (by decide) rfl ?_
        have h0 : σ1 = (σ1.set r (.inr (3, [.ref ta, .int (nI T.length), .int e0, .int a0, .int pl, cv, cw]))).set ta (.inl (2, 48, .inl f)) := by rw [nq_set_self hr, nq_set_self ht]
        have := loop 8 T f σ1 (by omega) (by omega) e2 hT h0
        rw [← e1] at this
        exact this
end TY
