/-! THE OTHER STORE: it works out a value -/
section MK
variable {G : nq_G} {d : Nat} {σ : nq_S} {v : Nat → Int32} {ar : mo_Ar}
theorem k_Mod_binary {x : nq_In} {R : Nat → Int32} (hW : mo_W σ v ar) (hx : 3 ≤ x.1 ∧ x.1 ≤ 7) (hD : 1 ≤ d) : nq_JM G d 0 0 m_Mod_binary [.ref 270, .int (nI (md_o x.1)), .int (R x.2.1), .int (R (x.2.1 + 1))] σ (fun o σ' => match mc_val x R with
    | none => o = .inl (some (.int 0)) ∧ σ' = σ.set 270 (mo_F (upd v 7 3))
    | some w => o = .inl (some (.int w)) ∧ σ' = σ) := by
  obtain ⟨d, rfl⟩ := Nat.exists_eq_add_of_le' hD
  obtain ⟨op, r, a⟩ := x
  simp only at hx
  have w := hW.1
  unfold mc_val
  simp only
  generalize R r = p
  generalize R (r + 1) = q
  have hop : op = 3 ∨ op = 4 ∨ op = 5 ∨ op = 6 ∨ op = 7 := by omega
  rcases hop with rfl | rfl | rfl | rfl | rfl
  · refine nq_mk' (lv := [some (.ref 270), some (.int (nI (md_o 3))), some (.int p), some (.int q)]) (by decide +kernel) rfl (Nat.le_of_ble_eq_true rfl) rfl ?_
    refine nq_iload_n (pc' := 1) d_Mod_binary_0 rfl rfl rfl ?_
    refine nq_bipush (v := 47) (pc' := 3) d_Mod_binary_1 rfl (by decide) ?_
    refine nq_icmp_eq (pc' := 6) (tgt := 12) d_Mod_binary_3 rfl (by decide) (fun h => absurd h (by decide)) (fun _ => ?_)
    refine nq_iload_n (pc' := 7) d_Mod_binary_6 rfl rfl rfl ?_
    refine nq_bipush (v := 37) (pc' := 9) d_Mod_binary_7 rfl (by decide) ?_
    refine nq_icmp_ne (pc' := 12) (tgt := 22) d_Mod_binary_9 rfl (by decide) (fun _ => ?_) (fun h => absurd h (by decide))
    refine nq_iload_n (pc' := 23) d_Mod_binary_22 rfl rfl rfl ?_
    refine nq_tableIn (off := 37) (tgt := 60) d_Mod_binary_23 (by decide) (by decide) (by decide) (by decide) ?_
    refine nq_iload_n (pc' := 61) d_Mod_binary_60 rfl rfl rfl ?_
    refine nq_iload_n (pc' := 62) d_Mod_binary_61 rfl rfl rfl ?_
    refine nq_iadd (pc' := 63) d_Mod_binary_62 rfl ?_
    refine nq_iret d_Mod_binary_63 rfl rfl ⟨rfl, rfl⟩
  · refine nq_mk' (lv := [some (.ref 270), some (.int (nI (md_o 4))), some (.int p), some (.int q)]) (by decide +kernel) rfl (Nat.le_of_ble_eq_true rfl) rfl ?_
    refine nq_iload_n (pc' := 1) d_Mod_binary_0 rfl rfl rfl ?_
    refine nq_bipush (v := 47) (pc' := 3) d_Mod_binary_1 rfl (by decide) ?_
    refine nq_icmp_eq (pc' := 6) (tgt := 12) d_Mod_binary_3 rfl (by decide) (fun h => absurd h (by decide)) (fun _ => ?_)
    refine nq_iload_n (pc' := 7) d_Mod_binary_6 rfl rfl rfl ?_
    refine nq_bipush (v := 37) (pc' := 9) d_Mod_binary_7 rfl (by decide) ?_
    refine nq_icmp_ne (pc' := 12) (tgt := 22) d_Mod_binary_9 rfl (by decide) (fun _ => ?_) (fun h => absurd h (by decide))
    refine nq_iload_n (pc' := 23) d_Mod_binary_22 rfl rfl rfl ?_
    refine nq_tableIn (off := 41) (tgt := 64) d_Mod_binary_23 (by decide) (by decide) (by decide) (by decide) ?_
    refine nq_iload_n (pc' := 65) d_Mod_binary_64 rfl rfl rfl ?_
    refine nq_iload_n (pc' := 66) d_Mod_binary_65 rfl rfl rfl ?_
    refine nq_isub (pc' := 67) d_Mod_binary_66 rfl ?_
    refine nq_iret d_Mod_binary_67 rfl rfl ⟨rfl, rfl⟩
  · refine nq_mk' (lv := [some (.ref 270), some (.int (nI (md_o 5))), some (.int p), some (.int q)]) (by decide +kernel) rfl (Nat.le_of_ble_eq_true rfl) rfl ?_
    refine nq_iload_n (pc' := 1) d_Mod_binary_0 rfl rfl rfl ?_
    refine nq_bipush (v := 47) (pc' := 3) d_Mod_binary_1 rfl (by decide) ?_
    refine nq_icmp_eq (pc' := 6) (tgt := 12) d_Mod_binary_3 rfl (by decide) (fun h => absurd h (by decide)) (fun _ => ?_)
    refine nq_iload_n (pc' := 7) d_Mod_binary_6 rfl rfl rfl ?_
    refine nq_bipush (v := 37) (pc' := 9) d_Mod_binary_7 rfl (by decide) ?_
    refine nq_icmp_ne (pc' := 12) (tgt := 22) d_Mod_binary_9 rfl (by decide) (fun _ => ?_) (fun h => absurd h (by decide))
    refine nq_iload_n (pc' := 23) d_Mod_binary_22 rfl rfl rfl ?_
    refine nq_tableIn (off := 45) (tgt := 68) d_Mod_binary_23 (by decide) (by decide) (by decide) (by decide) ?_
    refine nq_iload_n (pc' := 69) d_Mod_binary_68 rfl rfl rfl ?_
    refine nq_iload_n (pc' := 70) d_Mod_binary_69 rfl rfl rfl ?_
    refine nq_imul (pc' := 71) d_Mod_binary_70 rfl ?_
    refine nq_iret d_Mod_binary_71 rfl rfl ⟨rfl, rfl⟩
  · refine nq_mk' (lv := [some (.ref 270), some (.int (nI (md_o 6))), some (.int p), some (.int q)]) (by decide +kernel) rfl (Nat.le_of_ble_eq_true rfl) rfl ?_
    refine nq_iload_n (pc' := 1) d_Mod_binary_0 rfl rfl rfl ?_
    refine nq_bipush (v := 47) (pc' := 3) d_Mod_binary_1 rfl (by decide) ?_
    refine nq_icmp_eq (pc' := 6) (tgt := 12) d_Mod_binary_3 rfl (by decide) (fun _ => ?_) (fun h => absurd rfl h)
    refine nq_iload_n (pc' := 13) d_Mod_binary_12 rfl rfl rfl ?_
    by_cases h0 : q = 0
    · rw [show (if (6 : Nat) = 0 then some (nI a) else if (6 : Nat) = 1 then some (R a) else if (6 : Nat) = 2 then some (-p) else if (6 : Nat) = 3 then some (p + q) else if (6 : Nat) = 4 then some (p - q) else if (6 : Nat) = 5 then some (p * q) else if q = 0 then none else if (6 : Nat) = 6 then some (p / q) else some (p - p / q * q)) = (none : Option Int32) from by rw [if_neg (by decide), if_neg (by decide), if_neg (by decide), if_neg (by decide), if_neg (by decide), if_neg (by decide), if_pos h0]]
      refine nq_if_ne (pc' := 16) (tgt := 22) d_Mod_binary_13 rfl (by decide) (fun h => absurd h0 h) (fun _ => ?_)
      refine nq_aload_n (pc' := 17) d_Mod_binary_16 rfl rfl rfl ?_
      refine nq_iconst (v := 3) (pc' := 18) d_Mod_binary_17 rfl (by decide) ?_
      refine nq_callVR (pc' := 21) d_Mod_binary_18 rfl cl_Mod_77 rfl (by first | assumption | exact nq_ga (by assumption) | exact nq_gs (by first | assumption | exact nq_ga (by assumption) | exact nq_gs (by first | assumption | exact nq_gs (by assumption) | exact nq_gn (by first | assumption | decide | omega | exact nq_ne1 (by assumption) (by assumption) | exact nq_ne2 (by assumption) (by assumption)) (by assumption) | exact nq_ga (by assumption)) | exact nq_gn (by first | assumption | decide | omega | exact nq_ne1 (by assumption) (by assumption) | exact nq_ne2 (by assumption) (by assumption)) (by first | assumption | exact nq_gs (by assumption) | exact nq_gn (by first | assumption | decide | omega | exact nq_ne1 (by assumption) (by assumption) | exact nq_ne2 (by assumption) (by assumption)) (by assumption) | exact nq_ga (by assumption))) | exact nq_gn (by first | assumption | decide | omega | exact nq_ne1 (by assumption) (by assumption) | exact nq_ne2 (by assumption) (by assumption)) (by first | assumption | exact nq_ga (by assumption) | exact nq_gs (by first | assumption | exact nq_gs (by assumption) | exact nq_gn (by first | assumption | decide | omega | exact nq_ne1 (by assumption) (by assumption) | exact nq_ne2 (by assumption) (by assumption)) (by assumption) | exact nq_ga (by assumption)) | exact nq_gn (by first | assumption | decide | omega | exact nq_ne1 (by assumption) (by assumption) | exact nq_ne2 (by assumption) (by assumption)) (by first | assumption | exact nq_gs (by assumption) | exact nq_gn (by first | assumption | decide | omega | exact nq_ne1 (by assumption) (by assumption) | exact nq_ne2 (by assumption) (by assumption)) (by assumption) | exact nq_ga (by assumption)))) rfl rfl (kc := 0) (ks := 0) (mc' := 0) (ms' := 0) (As := [.int 3]) (rest := []) rfl rfl (by decide) (k_Mod_fail hW) ?_
      refine nq_iret d_Mod_binary_21 rfl rfl ⟨rfl, rfl⟩
    · rw [show (if (6 : Nat) = 0 then some (nI a) else if (6 : Nat) = 1 then some (R a) else if (6 : Nat) = 2 then some (-p) else if (6 : Nat) = 3 then some (p + q) else if (6 : Nat) = 4 then some (p - q) else if (6 : Nat) = 5 then some (p * q) else if q = 0 then none else if (6 : Nat) = 6 then some (p / q) else some (p - p / q * q)) = some (p / q) from by rw [if_neg (by decide), if_neg (by decide), if_neg (by decide), if_neg (by decide), if_neg (by decide), if_neg (by decide), if_neg h0, if_pos rfl]]
      refine nq_if_ne (pc' := 16) (tgt := 22) d_Mod_binary_13 rfl (by decide) (fun _ => ?_) (fun h => absurd h h0)
      refine nq_iload_n (pc' := 23) d_Mod_binary_22 rfl rfl rfl ?_
      refine nq_tableIn (off := 49) (tgt := 72) d_Mod_binary_23 (by decide) (by decide) (by decide) (by decide) ?_
      refine nq_iload_n (pc' := 73) d_Mod_binary_72 rfl rfl rfl ?_
      refine nq_iload_n (pc' := 74) d_Mod_binary_73 rfl rfl rfl ?_
      refine nq_idiv (pc' := 75) d_Mod_binary_74 rfl h0 ?_
      refine nq_iret d_Mod_binary_75 rfl rfl ⟨rfl, rfl⟩
  · refine nq_mk' (lv := [some (.ref 270), some (.int (nI (md_o 7))), some (.int p), some (.int q)]) (by decide +kernel) rfl (Nat.le_of_ble_eq_true rfl) rfl ?_
    refine nq_iload_n (pc' := 1) d_Mod_binary_0 rfl rfl rfl ?_
    refine nq_bipush (v := 47) (pc' := 3) d_Mod_binary_1 rfl (by decide) ?_
    refine nq_icmp_eq (pc' := 6) (tgt := 12) d_Mod_binary_3 rfl (by decide) (fun h => absurd h (by decide)) (fun _ => ?_)
    refine nq_iload_n (pc' := 7) d_Mod_binary_6 rfl rfl rfl ?_
    refine nq_bipush (v := 37) (pc' := 9) d_Mod_binary_7 rfl (by decide) ?_
    refine nq_icmp_ne (pc' := 12) (tgt := 22) d_Mod_binary_9 rfl (by decide) (fun h => absurd rfl h) (fun _ => ?_)
    refine nq_iload_n (pc' := 13) d_Mod_binary_12 rfl rfl rfl ?_
    by_cases h0 : q = 0
    · rw [show (if (7 : Nat) = 0 then some (nI a) else if (7 : Nat) = 1 then some (R a) else if (7 : Nat) = 2 then some (-p) else if (7 : Nat) = 3 then some (p + q) else if (7 : Nat) = 4 then some (p - q) else if (7 : Nat) = 5 then some (p * q) else if q = 0 then none else if (7 : Nat) = 6 then some (p / q) else some (p - p / q * q)) = (none : Option Int32) from by rw [if_neg (by decide), if_neg (by decide), if_neg (by decide), if_neg (by decide), if_neg (by decide), if_neg (by decide), if_pos h0]]
      refine nq_if_ne (pc' := 16) (tgt := 22) d_Mod_binary_13 rfl (by decide) (fun h => absurd h0 h) (fun _ => ?_)
      refine nq_aload_n (pc' := 17) d_Mod_binary_16 rfl rfl rfl ?_
      refine nq_iconst (v := 3) (pc' := 18) d_Mod_binary_17 rfl (by decide) ?_
      refine nq_callVR (pc' := 21) d_Mod_binary_18 rfl cl_Mod_77 rfl (by first | assumption | exact nq_ga (by assumption) | exact nq_gs (by first | assumption | exact nq_ga (by assumption) | exact nq_gs (by first | assumption | exact nq_gs (by assumption) | exact nq_gn (by first | assumption | decide | omega | exact nq_ne1 (by assumption) (by assumption) | exact nq_ne2 (by assumption) (by assumption)) (by assumption) | exact nq_ga (by assumption)) | exact nq_gn (by first | assumption | decide | omega | exact nq_ne1 (by assumption) (by assumption) | exact nq_ne2 (by assumption) (by assumption)) (by first | assumption | exact nq_gs (by assumption) | exact nq_gn (by first | assumption | decide | omega | exact nq_ne1 (by assumption) (by assumption) | exact nq_ne2 (by assumption) (by assumption)) (by assumption) | exact nq_ga (by assumption))) | exact nq_gn (by first | assumption | decide | omega | exact nq_ne1 (by assumption) (by assumption) | exact nq_ne2 (by assumption) (by assumption)) (by first | assumption | exact nq_ga (by assumption) | exact nq_gs (by first | assumption | exact nq_gs (by assumption) | exact nq_gn (by first | assumption | decide | omega | exact nq_ne1 (by assumption) (by assumption) | exact nq_ne2 (by assumption) (by assumption)) (by assumption) | exact nq_ga (by assumption)) | exact nq_gn (by first | assumption | decide | omega | exact nq_ne1 (by assumption) (by assumption) | exact nq_ne2 (by assumption) (by assumption)) (by first | assumption | exact nq_gs (by assumption) | exact nq_gn (by first | assumption | decide | omega | exact nq_ne1 (by assumption) (by assumption) | exact nq_ne2 (by assumption) (by assumption)) (by assumption) | exact nq_ga (by assumption)))) rfl rfl (kc := 0) (ks := 0) (mc' := 0) (ms' := 0) (As := [.int 3]) (rest := []) rfl rfl (by decide) (k_Mod_fail hW) ?_
      refine nq_iret d_Mod_binary_21 rfl rfl ⟨rfl, rfl⟩
    · rw [show (if (7 : Nat) = 0 then some (nI a) else if (7 : Nat) = 1 then some (R a) else if (7 : Nat) = 2 then some (-p) else if (7 : Nat) = 3 then some (p + q) else if (7 : Nat) = 4 then some (p - q) else if (7 : Nat) = 5 then some (p * q) else if q = 0 then none else if (7 : Nat) = 6 then some (p / q) else some (p - p / q * q)) = some (p - p / q * q) from by rw [if_neg (by decide), if_neg (by decide), if_neg (by decide), if_neg (by decide), if_neg (by decide), if_neg (by decide), if_neg h0, if_neg (by decide)]]
      refine nq_if_ne (pc' := 16) (tgt := 22) d_Mod_binary_13 rfl (by decide) (fun _ => ?_) (fun h => absurd h h0)
      refine nq_iload_n (pc' := 23) d_Mod_binary_22 rfl rfl rfl ?_
      refine nq_tableOut (tgt := 76) d_Mod_binary_23 (by decide) (by decide) ?_
      refine nq_iload_n (pc' := 77) d_Mod_binary_76 rfl rfl rfl ?_
      refine nq_iload_n (pc' := 78) d_Mod_binary_77 rfl rfl rfl ?_
      refine nq_irem (pc' := 79) d_Mod_binary_78 rfl h0 ?_
      refine nq_iret d_Mod_binary_79 rfl rfl ⟨rfl, rfl⟩
end MK
