/-! THE READER: a whole text -/
def sp_tail (L : Nat → Nat) (N k cols j : Nat) : Nat ⊕ (List sp_K × Nat) := match sp_cond L k cols j with
  | .inl p => .inl p
  | .inr (cs, j2) => match sp_ord L k cols j2 with
    | .inl p => .inl p
    | .inr (od, j3) => if j3 < N then .inl j3 else .inr (cs, od)
theorem sp_body_tail (L : Nat → Nat) (N k t u cols i : Nat) : sp_body L N k t u cols i = match sp_vals L k cols i with
    | .inl p => .inl p
    | .inr (vs, fn, j) => match sp_tail L N k cols j with
      | .inl p => .inl p
      | .inr (cs, od) => .inr (k, t, u, vs, fn, cs, od) := by
  unfold sp_body sp_tail
  cases sp_vals L k cols i with
  | inl p => rfl
  | inr w =>
    obtain ⟨vs, fn, j⟩ := w
    simp only
    cases sp_cond L k cols j with
    | inl p => rfl
    | inr w =>
      obtain ⟨cs, j2⟩ := w
      simp only
      cases sp_ord L k cols j2 with
      | inl p => rfl
      | inr w =>
        obtain ⟨od, j3⟩ := w
        simp only
        split <;> rfl
def rd_od (od : Nat) : Int32 := if od = 0 then -1 else nI (od - 1)
def rd_te (C : List nq_In) (cs : List sp_K) : Int32 := if cs = [] then -1 else nI C.length
def rd_cl (C : List nq_In) (cs : List sp_K) : List nq_In := C ++ (if cs = [] then [] else mc_cc C.length cs)
/-- what a statement's code holds in its head -/
def cl_h (s : sp_St) : List Value := [.int (nI s.1), .int (nI s.2.1), .int (rd_u s.2.2.1), .int (if s.1 = 85 then nI s.2.2.2.2.1 else 0), .int (if s.1 = 65 ∨ s.1 = 66 then nI s.2.2.2.2.1 else 0), .int (if s.1 = 83 ∨ s.1 = 80 then nI s.2.2.2.1.length else 0), .int (rd_od s.2.2.2.2.2.2), .int (rd_te (s.2.2.2.1.flatten ++ [(11, 0, 0)]) s.2.2.2.2.2.1)]
section RW
variable {G : nq_G} {d : Nat} {σ : nq_S} {r ta c o1 o2 o3 N i cols q : Nat} {f : Nat → Int32} {L : Nat → Nat} {len pl : Int32} {Lc C : List nq_In} {h : List Value} {v1 v2 v3 v4 v5 v6 v7 v8 : Value}
def rd_TQ (σ0 : nq_S) (r ta c o1 o2 o3 : Nat) (f : Nat → Int32) (len : Int32) (N : Nat) (pl : Int32) (C : List nq_In) (v1 v2 v3 v4 v5 v6 : Value) (q : Nat) (res : Nat ⊕ (List sp_K × Nat)) : nq_Q := fun o σ' => match res with
  | .inl p => o = .inr nq_IA ∧ rd_no σ0 σ' r ta c o1 o2 o3 f len N p
  | .inr (cs, od) => o = .inl none ∧ rd_fr r c o1 o2 o3 σ0 σ' ∧ ∃ at9 cols, cols < 22 ∧ rd_W σ' r ta c o1 o2 o3 f len N at9 pl cols (rd_cl C cs) [v1, v2, v3, v4, v5, v6, .int (rd_od od), .int (rd_te C cs)] (q + sp_cq cs)
theorem rd_tail_end {cs : List sp_K} {od j3 : Nat} {σ1 : nq_S} (hL : rd_L f L N) (hc : cols = 0 ∨ cols = 3 ∨ cols = 4) (hj : j3 ≤ N) (F1 : rd_fr r c o1 o2 o3 σ σ1) (W1 : rd_W σ1 r ta c o1 o2 o3 f len N j3 pl cols (rd_cl C cs) [v1, v2, v3, v4, v5, v6, .int (rd_od od), .int (rd_te C cs)] (q + sp_cq cs)) : nq_J G (d + 1) 0 0 m_Reader_read 193 [some (.ref r), some (.ref c)] [] σ1 (rd_TQ σ r ta c o1 o2 o3 f len N pl C v1 v2 v3 v4 v5 v6 q (if j3 < N then .inl j3 else .inr (cs, od))) := by
  have hN := hL.1
  have w1 := W1.1
  refine nq_aload_n (pc' := 194) d_Reader_read_193 rfl rfl rfl ?_
  refine nq_getf (pc' := 197) d_Reader_read_194 rfl fl_Reader_51 (by first | assumption | exact nq_ga (by assumption) | exact nq_gs (by first | assumption | exact nq_ga (by assumption) | exact nq_gs (by first | assumption | exact nq_gs (by assumption) | exact nq_gn (by first | assumption | decide | omega | exact nq_ne1 (by assumption) (by assumption) | exact nq_ne2 (by assumption) (by assumption)) (by assumption) | exact nq_ga (by assumption)) | exact nq_gn (by first | assumption | decide | omega | exact nq_ne1 (by assumption) (by assumption) | exact nq_ne2 (by assumption) (by assumption)) (by first | assumption | exact nq_gs (by assumption) | exact nq_gn (by first | assumption | decide | omega | exact nq_ne1 (by assumption) (by assumption) | exact nq_ne2 (by assumption) (by assumption)) (by assumption) | exact nq_ga (by assumption))) | exact nq_gn (by first | assumption | decide | omega | exact nq_ne1 (by assumption) (by assumption) | exact nq_ne2 (by assumption) (by assumption)) (by first | assumption | exact nq_ga (by assumption) | exact nq_gs (by first | assumption | exact nq_gs (by assumption) | exact nq_gn (by first | assumption | decide | omega | exact nq_ne1 (by assumption) (by assumption) | exact nq_ne2 (by assumption) (by assumption)) (by assumption) | exact nq_ga (by assumption)) | exact nq_gn (by first | assumption | decide | omega | exact nq_ne1 (by assumption) (by assumption) | exact nq_ne2 (by assumption) (by assumption)) (by first | assumption | exact nq_gs (by assumption) | exact nq_gn (by first | assumption | decide | omega | exact nq_ne1 (by assumption) (by assumption) | exact nq_ne2 (by assumption) (by assumption)) (by assumption) | exact nq_ga (by assumption)))) rfl ?_
  refine nq_aload_n (pc' := 198) d_Reader_read_197 rfl rfl rfl ?_
  refine nq_getf (pc' := 201) d_Reader_read_198 rfl fl_Reader_54 (by first | assumption | exact nq_ga (by assumption) | exact nq_gs (by first | assumption | exact nq_ga (by assumption) | exact nq_gs (by first | assumption | exact nq_gs (by assumption) | exact nq_gn (by first | assumption | decide | omega | exact nq_ne1 (by assumption) (by assumption) | exact nq_ne2 (by assumption) (by assumption)) (by assumption) | exact nq_ga (by assumption)) | exact nq_gn (by first | assumption | decide | omega | exact nq_ne1 (by assumption) (by assumption) | exact nq_ne2 (by assumption) (by assumption)) (by first | assumption | exact nq_gs (by assumption) | exact nq_gn (by first | assumption | decide | omega | exact nq_ne1 (by assumption) (by assumption) | exact nq_ne2 (by assumption) (by assumption)) (by assumption) | exact nq_ga (by assumption))) | exact nq_gn (by first | assumption | decide | omega | exact nq_ne1 (by assumption) (by assumption) | exact nq_ne2 (by assumption) (by assumption)) (by first | assumption | exact nq_ga (by assumption) | exact nq_gs (by first | assumption | exact nq_gs (by assumption) | exact nq_gn (by first | assumption | decide | omega | exact nq_ne1 (by assumption) (by assumption) | exact nq_ne2 (by assumption) (by assumption)) (by assumption) | exact nq_ga (by assumption)) | exact nq_gn (by first | assumption | decide | omega | exact nq_ne1 (by assumption) (by assumption) | exact nq_ne2 (by assumption) (by assumption)) (by first | assumption | exact nq_gs (by assumption) | exact nq_gn (by first | assumption | decide | omega | exact nq_ne1 (by assumption) (by assumption) | exact nq_ne2 (by assumption) (by assumption)) (by assumption) | exact nq_ga (by assumption)))) rfl ?_
  refine nq_icmp_ge (pc' := 204) (tgt := 208) d_Reader_read_201 rfl (by decide) (fun h => ?_) (fun h => ?_)
  · have e : N ≤ j3 := (nI_leI (by omega) (by omega)).mp h
    rw [if_neg (by omega)]
    refine nq_vret d_Reader_read_208 rfl ⟨rfl, F1, j3, cols, by omega, W1⟩
  · have e : j3 < N := Nat.lt_of_not_le fun e => h ((nI_leI (by omega) (by omega)).mpr e)
    rw [if_pos e]
    refine nq_aload_n (pc' := 205) d_Reader_read_204 rfl rfl rfl ?_
    refine nq_callV (pc' := 208) d_Reader_read_205 rfl cl_Reader_93 rfl (by first | assumption | exact nq_ga (by assumption) | exact nq_gs (by first | assumption | exact nq_ga (by assumption) | exact nq_gs (by first | assumption | exact nq_gs (by assumption) | exact nq_gn (by first | assumption | decide | omega | exact nq_ne1 (by assumption) (by assumption) | exact nq_ne2 (by assumption) (by assumption)) (by assumption) | exact nq_ga (by assumption)) | exact nq_gn (by first | assumption | decide | omega | exact nq_ne1 (by assumption) (by assumption) | exact nq_ne2 (by assumption) (by assumption)) (by first | assumption | exact nq_gs (by assumption) | exact nq_gn (by first | assumption | decide | omega | exact nq_ne1 (by assumption) (by assumption) | exact nq_ne2 (by assumption) (by assumption)) (by assumption) | exact nq_ga (by assumption))) | exact nq_gn (by first | assumption | decide | omega | exact nq_ne1 (by assumption) (by assumption) | exact nq_ne2 (by assumption) (by assumption)) (by first | assumption | exact nq_ga (by assumption) | exact nq_gs (by first | assumption | exact nq_gs (by assumption) | exact nq_gn (by first | assumption | decide | omega | exact nq_ne1 (by assumption) (by assumption) | exact nq_ne2 (by assumption) (by assumption)) (by assumption) | exact nq_ga (by assumption)) | exact nq_gn (by first | assumption | decide | omega | exact nq_ne1 (by assumption) (by assumption) | exact nq_ne2 (by assumption) (by assumption)) (by first | assumption | exact nq_gs (by assumption) | exact nq_gn (by first | assumption | decide | omega | exact nq_ne1 (by assumption) (by assumption) | exact nq_ne2 (by assumption) (by assumption)) (by assumption) | exact nq_ga (by assumption)))) rfl rfl (kc := 0) (ks := 0) (mc' := 0) (ms' := 0) (As := []) (rest := []) rfl rfl (Nat.le_of_ble_eq_true rfl) (k_Reader_refuse w1) (fun E σ1 h => ?_) (fun v σ1 h => by cases h.1)
    obtain ⟨h1, rfl⟩ := h
    exact ⟨h1, rd_no.of F1 (by omega) rfl W1⟩
theorem rd_tail {k : Nat} {σ1 : nq_S} (hD : 20 ≤ d) (hL : rd_L f L N) (hk7 : k < 128) (hc : cols = 0 ∨ cols = 3 ∨ cols = 4) (hi : i ≤ N) (hl : Lc.length + 2 ≤ i) (hop : ∀ x ∈ Lc, x.1 < 100) (F1 : rd_fr r c o1 o2 o3 σ σ1) (W1 : rd_W σ1 r ta c o1 o2 o3 f len N i pl cols Lc [.int (nI k), v2, v3, v4, v5, v6, .int (-1), .int (-1)] q) : nq_J G (d + 1) 0 0 m_Reader_read 120 [some (.ref r), some (.ref c)] [] σ1 (rd_TQ σ r ta c o1 o2 o3 f len N pl (Lc ++ [(11, 0, 0)]) (.int (nI k)) v2 v3 v4 v5 v6 q (sp_tail L N k cols i)) := by
  have hN := hL.1
  have hc22 := rd_v22 hc
  have w1 := W1.1
  have w3 := W1.cell
  have kk : ∀ x, x < 128 → k ≠ x → ¬ nI k = nI x := fun x hx hn h => hn (nI_inj (by omega) (by omega) h)
  refine nq_aload_n (pc' := 121) d_Reader_read_120 rfl rfl rfl ?_
  refine nq_getf (pc' := 124) d_Reader_read_121 rfl fl_Reader_42 (by first | assumption | exact nq_ga (by assumption) | exact nq_gs (by first | assumption | exact nq_ga (by assumption) | exact nq_gs (by first | assumption | exact nq_gs (by assumption) | exact nq_gn (by first | assumption | decide | omega | exact nq_ne1 (by assumption) (by assumption) | exact nq_ne2 (by assumption) (by assumption)) (by assumption) | exact nq_ga (by assumption)) | exact nq_gn (by first | assumption | decide | omega | exact nq_ne1 (by assumption) (by assumption) | exact nq_ne2 (by assumption) (by assumption)) (by first | assumption | exact nq_gs (by assumption) | exact nq_gn (by first | assumption | decide | omega | exact nq_ne1 (by assumption) (by assumption) | exact nq_ne2 (by assumption) (by assumption)) (by assumption) | exact nq_ga (by assumption))) | exact nq_gn (by first | assumption | decide | omega | exact nq_ne1 (by assumption) (by assumption) | exact nq_ne2 (by assumption) (by assumption)) (by first | assumption | exact nq_ga (by assumption) | exact nq_gs (by first | assumption | exact nq_gs (by assumption) | exact nq_gn (by first | assumption | decide | omega | exact nq_ne1 (by assumption) (by assumption) | exact nq_ne2 (by assumption) (by assumption)) (by assumption) | exact nq_ga (by assumption)) | exact nq_gn (by first | assumption | decide | omega | exact nq_ne1 (by assumption) (by assumption) | exact nq_ne2 (by assumption) (by assumption)) (by first | assumption | exact nq_gs (by assumption) | exact nq_gn (by first | assumption | decide | omega | exact nq_ne1 (by assumption) (by assumption) | exact nq_ne2 (by assumption) (by assumption)) (by assumption) | exact nq_ga (by assumption)))) rfl ?_
  refine nq_bipush (v := 11) (pc' := 126) d_Reader_read_124 rfl (by decide) ?_
  refine nq_iconst (v := 0) (pc' := 127) d_Reader_read_126 rfl (by decide) ?_
  refine nq_iconst (v := 0) (pc' := 128) d_Reader_read_127 rfl (by decide) ?_
  refine nq_callV (pc' := 131) d_Reader_read_128 rfl cl_Reader_75 rfl (by first | assumption | exact nq_ga (by assumption) | exact nq_gs (by first | assumption | exact nq_ga (by assumption) | exact nq_gs (by first | assumption | exact nq_gs (by assumption) | exact nq_gn (by first | assumption | decide | omega | exact nq_ne1 (by assumption) (by assumption) | exact nq_ne2 (by assumption) (by assumption)) (by assumption) | exact nq_ga (by assumption)) | exact nq_gn (by first | assumption | decide | omega | exact nq_ne1 (by assumption) (by assumption) | exact nq_ne2 (by assumption) (by assumption)) (by first | assumption | exact nq_gs (by assumption) | exact nq_gn (by first | assumption | decide | omega | exact nq_ne1 (by assumption) (by assumption) | exact nq_ne2 (by assumption) (by assumption)) (by assumption) | exact nq_ga (by assumption))) | exact nq_gn (by first | assumption | decide | omega | exact nq_ne1 (by assumption) (by assumption) | exact nq_ne2 (by assumption) (by assumption)) (by first | assumption | exact nq_ga (by assumption) | exact nq_gs (by first | assumption | exact nq_gs (by assumption) | exact nq_gn (by first | assumption | decide | omega | exact nq_ne1 (by assumption) (by assumption) | exact nq_ne2 (by assumption) (by assumption)) (by assumption) | exact nq_ga (by assumption)) | exact nq_gn (by first | assumption | decide | omega | exact nq_ne1 (by assumption) (by assumption) | exact nq_ne2 (by assumption) (by assumption)) (by first | assumption | exact nq_gs (by assumption) | exact nq_gn (by first | assumption | decide | omega | exact nq_ne1 (by assumption) (by assumption) | exact nq_ne2 (by assumption) (by assumption)) (by assumption) | exact nq_ga (by assumption)))) rfl rfl (kc := 0) (ks := 0) (mc' := 0) (ms' := 0) (As := [.int (nI 11), .int (nI 0), .int (nI 0)]) (rest := []) rfl rfl (Nat.le_of_ble_eq_true rfl) (rd_add W1 (by omega)) (fun E σ2 hq => by cases hq.1) (fun v σ2 hq => ?_)
  obtain ⟨e2, W2, f2⟩ := hq
  cases e2
  have F2 := F1.tr f2
  have hCl : (Lc ++ [(11, 0, 0)]).length = Lc.length + 1 := by rw [List.length_append]; rfl
  have hopC : ∀ x ∈ Lc ++ [(11, 0, 0)], x.1 < 100 := by
    intro x hx
    rcases List.mem_append.1 hx with hx | hx
    · exact hop x hx
    · rcases List.mem_singleton.1 hx with rfl
      decide
  generalize hCe : Lc ++ [(11, 0, 0)] = C at W2 hCl hopC ⊢
  have mid : ∀ (cs : List sp_K) (j2 : Nat) (σ3 : nq_S), j2 ≤ N → rd_fr r c o1 o2 o3 σ σ3 → rd_W σ3 r ta c o1 o2 o3 f len N j2 pl cols (rd_cl C cs) [.int (nI k), v2, v3, v4, v5, v6, .int (-1), .int (rd_te C cs)] (q + sp_cq cs) → nq_J G (d + 1) 0 0 m_Reader_read 156 [some (.ref r), some (.ref c)] [] σ3 (rd_TQ σ r ta c o1 o2 o3 f len N pl C (.int (nI k)) v2 v3 v4 v5 v6 q (match sp_ord L k cols j2 with
    | .inl p => .inl p
    | .inr (od, j3) => if j3 < N then .inl j3 else .inr (cs, od))) := by
    intro cs j2 σ3 hj F3 W3
    have x1 := W3.1
    have x2 := W3.2.1
    have x3 := W3.cell
    simp only [List.cons_append, List.nil_append] at x3
    have no : ¬ ((k = 83 ∨ k = 80) ∧ L j2 = 94) → nq_J G (d + 1) 0 0 m_Reader_read 193 [some (.ref r), some (.ref c)] [] σ3 (rd_TQ σ r ta c o1 o2 o3 f len N pl C (.int (nI k)) v2 v3 v4 v5 v6 q (match sp_ord L k cols j2 with
      | .inl p => .inl p
      | .inr (od, j3) => if j3 < N then .inl j3 else .inr (cs, od))) := by
      intro hn
      unfold sp_ord
      rw [if_neg hn]
      exact rd_tail_end (od := 0) hL hc hj F3 W3
    have yes : (k = 83 ∨ k = 80) → nq_J G (d + 1) 0 0 m_Reader_read 180 [some (.ref r), some (.ref c)] [] σ3 (rd_TQ σ r ta c o1 o2 o3 f len N pl C (.int (nI k)) v2 v3 v4 v5 v6 q (match sp_ord L k cols j2 with
      | .inl p => .inl p
      | .inr (od, j3) => if j3 < N then .inl j3 else .inr (cs, od))) := by
      intro hk
      refine nq_aload_n (pc' := 181) d_Reader_read_180 rfl rfl rfl ?_
      refine nq_ldcS (pc' := 183) d_Reader_read_181 rfl ls_Reader_88 ?_
      refine nq_callVR (pc' := 186) d_Reader_read_183 rfl cl_Reader_81 rfl (by first | assumption | exact nq_ga (by assumption) | exact nq_gs (by first | assumption | exact nq_ga (by assumption) | exact nq_gs (by first | assumption | exact nq_gs (by assumption) | exact nq_gn (by first | assumption | decide | omega | exact nq_ne1 (by assumption) (by assumption) | exact nq_ne2 (by assumption) (by assumption)) (by assumption) | exact nq_ga (by assumption)) | exact nq_gn (by first | assumption | decide | omega | exact nq_ne1 (by assumption) (by assumption) | exact nq_ne2 (by assumption) (by assumption)) (by first | assumption | exact nq_gs (by assumption) | exact nq_gn (by first | assumption | decide | omega | exact nq_ne1 (by assumption) (by assumption) | exact nq_ne2 (by assumption) (by assumption)) (by assumption) | exact nq_ga (by assumption))) | exact nq_gn (by first | assumption | decide | omega | exact nq_ne1 (by assumption) (by assumption) | exact nq_ne2 (by assumption) (by assumption)) (by first | assumption | exact nq_ga (by assumption) | exact nq_gs (by first | assumption | exact nq_gs (by assumption) | exact nq_gn (by first | assumption | decide | omega | exact nq_ne1 (by assumption) (by assumption) | exact nq_ne2 (by assumption) (by assumption)) (by assumption) | exact nq_ga (by assumption)) | exact nq_gn (by first | assumption | decide | omega | exact nq_ne1 (by assumption) (by assumption) | exact nq_ne2 (by assumption) (by assumption)) (by first | assumption | exact nq_gs (by assumption) | exact nq_gn (by first | assumption | decide | omega | exact nq_ne1 (by assumption) (by assumption) | exact nq_ne2 (by assumption) (by assumption)) (by assumption) | exact nq_ga (by assumption)))) rfl rfl (kc := 0) (ks := 0) (mc' := 0) (ms' := 0) (As := [.ref 1000021]) (rest := []) rfl rfl (Nat.le_of_ble_eq_true rfl) (k_Reader_sees (i := 21) (by omega) x1 x2 hL hj (by decide)) ?_
      by_cases b1 : L j2 = 94
      · have b1' : L j2 ∈ tx 21 := (tx_one rfl).mpr b1
        have l1 := hL.lt _ (tx_n0 b1')
        rw [if_pos b1']
        refine nq_if_eq (pc' := 189) (tgt := 193) d_Reader_read_186 rfl (by decide) (fun h => absurd h (by decide)) (fun _ => ?_)
        refine nq_aload_n (pc' := 190) d_Reader_read_189 rfl rfl rfl ?_
        unfold sp_ord
        rw [if_pos ⟨hk, b1⟩]
        by_cases b2 : L (j2 + 1) ∈ tx cols
        · have l2 := hL.lt _ (tx_n0 b2)
          have h97 := (tx_col hc b2).2.1
          refine nq_callV (pc' := 193) d_Reader_read_190 rfl cl_Reader_90 rfl (by first | assumption | exact nq_ga (by assumption) | exact nq_gs (by first | assumption | exact nq_ga (by assumption) | exact nq_gs (by first | assumption | exact nq_gs (by assumption) | exact nq_gn (by first | assumption | decide | omega | exact nq_ne1 (by assumption) (by assumption) | exact nq_ne2 (by assumption) (by assumption)) (by assumption) | exact nq_ga (by assumption)) | exact nq_gn (by first | assumption | decide | omega | exact nq_ne1 (by assumption) (by assumption) | exact nq_ne2 (by assumption) (by assumption)) (by first | assumption | exact nq_gs (by assumption) | exact nq_gn (by first | assumption | decide | omega | exact nq_ne1 (by assumption) (by assumption) | exact nq_ne2 (by assumption) (by assumption)) (by assumption) | exact nq_ga (by assumption))) | exact nq_gn (by first | assumption | decide | omega | exact nq_ne1 (by assumption) (by assumption) | exact nq_ne2 (by assumption) (by assumption)) (by first | assumption | exact nq_ga (by assumption) | exact nq_gs (by first | assumption | exact nq_gs (by assumption) | exact nq_gn (by first | assumption | decide | omega | exact nq_ne1 (by assumption) (by assumption) | exact nq_ne2 (by assumption) (by assumption)) (by assumption) | exact nq_ga (by assumption)) | exact nq_gn (by first | assumption | decide | omega | exact nq_ne1 (by assumption) (by assumption) | exact nq_ne2 (by assumption) (by assumption)) (by first | assumption | exact nq_gs (by assumption) | exact nq_gn (by first | assumption | decide | omega | exact nq_ne1 (by assumption) (by assumption) | exact nq_ne2 (by assumption) (by assumption)) (by assumption) | exact nq_ga (by assumption)))) rfl rfl (kc := 0) (ks := 0) (mc' := 0) (ms' := 0) (As := []) (rest := []) rfl rfl (Nat.le_of_ble_eq_true rfl) (k_Reader_readOrder (by omega) hL hc W3 b1) (fun E σ2 hq => by rw [if_pos b2] at hq; cases hq.1) (fun v σ4 hq => ?_)
          rw [if_pos b2] at hq ⊢
          obtain ⟨e2, f4, W4⟩ := hq
          cases e2
          refine rd_tail_end hL hc (by omega) (F3.tr f4) ?_
          rw [show rd_od (L (j2 + 1) - 96) = nI (L (j2 + 1) - 97) from by
            unfold rd_od
            rw [if_neg (by omega)]
            congr 1]
          exact W4
        · refine nq_callV (pc' := 193) d_Reader_read_190 rfl cl_Reader_90 rfl (by first | assumption | exact nq_ga (by assumption) | exact nq_gs (by first | assumption | exact nq_ga (by assumption) | exact nq_gs (by first | assumption | exact nq_gs (by assumption) | exact nq_gn (by first | assumption | decide | omega | exact nq_ne1 (by assumption) (by assumption) | exact nq_ne2 (by assumption) (by assumption)) (by assumption) | exact nq_ga (by assumption)) | exact nq_gn (by first | assumption | decide | omega | exact nq_ne1 (by assumption) (by assumption) | exact nq_ne2 (by assumption) (by assumption)) (by first | assumption | exact nq_gs (by assumption) | exact nq_gn (by first | assumption | decide | omega | exact nq_ne1 (by assumption) (by assumption) | exact nq_ne2 (by assumption) (by assumption)) (by assumption) | exact nq_ga (by assumption))) | exact nq_gn (by first | assumption | decide | omega | exact nq_ne1 (by assumption) (by assumption) | exact nq_ne2 (by assumption) (by assumption)) (by first | assumption | exact nq_ga (by assumption) | exact nq_gs (by first | assumption | exact nq_gs (by assumption) | exact nq_gn (by first | assumption | decide | omega | exact nq_ne1 (by assumption) (by assumption) | exact nq_ne2 (by assumption) (by assumption)) (by assumption) | exact nq_ga (by assumption)) | exact nq_gn (by first | assumption | decide | omega | exact nq_ne1 (by assumption) (by assumption) | exact nq_ne2 (by assumption) (by assumption)) (by first | assumption | exact nq_gs (by assumption) | exact nq_gn (by first | assumption | decide | omega | exact nq_ne1 (by assumption) (by assumption) | exact nq_ne2 (by assumption) (by assumption)) (by assumption) | exact nq_ga (by assumption)))) rfl rfl (kc := 0) (ks := 0) (mc' := 0) (ms' := 0) (As := []) (rest := []) rfl rfl (Nat.le_of_ble_eq_true rfl) (k_Reader_readOrder (by omega) hL hc W3 b1) (fun E σ2 hq => ?_) (fun v σ4 hq => by rw [if_neg b2] at hq; cases hq.1)
          rw [if_neg b2] at hq ⊢
          exact ⟨hq.1, hq.2.fr F3⟩
      · rw [if_neg (fun h => b1 ((tx_one rfl).mp h))]
        refine nq_if_eq (pc' := 189) (tgt := 193) d_Reader_read_186 rfl (by decide) (fun _ => no (fun h => b1 h.2)) (fun h => absurd rfl h)
    refine nq_aload_n (pc' := 157) d_Reader_read_156 rfl rfl rfl ?_
    refine nq_getf (pc' := 160) d_Reader_read_157 rfl fl_Reader_42 (by first | assumption | exact nq_ga (by assumption) | exact nq_gs (by first | assumption | exact nq_ga (by assumption) | exact nq_gs (by first | assumption | exact nq_gs (by assumption) | exact nq_gn (by first | assumption | decide | omega | exact nq_ne1 (by assumption) (by assumption) | exact nq_ne2 (by assumption) (by assumption)) (by assumption) | exact nq_ga (by assumption)) | exact nq_gn (by first | assumption | decide | omega | exact nq_ne1 (by assumption) (by assumption) | exact nq_ne2 (by assumption) (by assumption)) (by first | assumption | exact nq_gs (by assumption) | exact nq_gn (by first | assumption | decide | omega | exact nq_ne1 (by assumption) (by assumption) | exact nq_ne2 (by assumption) (by assumption)) (by assumption) | exact nq_ga (by assumption))) | exact nq_gn (by first | assumption | decide | omega | exact nq_ne1 (by assumption) (by assumption) | exact nq_ne2 (by assumption) (by assumption)) (by first | assumption | exact nq_ga (by assumption) | exact nq_gs (by first | assumption | exact nq_gs (by assumption) | exact nq_gn (by first | assumption | decide | omega | exact nq_ne1 (by assumption) (by assumption) | exact nq_ne2 (by assumption) (by assumption)) (by assumption) | exact nq_ga (by assumption)) | exact nq_gn (by first | assumption | decide | omega | exact nq_ne1 (by assumption) (by assumption) | exact nq_ne2 (by assumption) (by assumption)) (by first | assumption | exact nq_gs (by assumption) | exact nq_gn (by first | assumption | decide | omega | exact nq_ne1 (by assumption) (by assumption) | exact nq_ne2 (by assumption) (by assumption)) (by assumption) | exact nq_ga (by assumption)))) rfl ?_
    refine nq_getf (pc' := 163) d_Reader_read_160 rfl fl_Reader_60 (by first | assumption | exact nq_ga (by assumption) | exact nq_gs (by first | assumption | exact nq_ga (by assumption) | exact nq_gs (by first | assumption | exact nq_gs (by assumption) | exact nq_gn (by first | assumption | decide | omega | exact nq_ne1 (by assumption) (by assumption) | exact nq_ne2 (by assumption) (by assumption)) (by assumption) | exact nq_ga (by assumption)) | exact nq_gn (by first | assumption | decide | omega | exact nq_ne1 (by assumption) (by assumption) | exact nq_ne2 (by assumption) (by assumption)) (by first | assumption | exact nq_gs (by assumption) | exact nq_gn (by first | assumption | decide | omega | exact nq_ne1 (by assumption) (by assumption) | exact nq_ne2 (by assumption) (by assumption)) (by assumption) | exact nq_ga (by assumption))) | exact nq_gn (by first | assumption | decide | omega | exact nq_ne1 (by assumption) (by assumption) | exact nq_ne2 (by assumption) (by assumption)) (by first | assumption | exact nq_ga (by assumption) | exact nq_gs (by first | assumption | exact nq_gs (by assumption) | exact nq_gn (by first | assumption | decide | omega | exact nq_ne1 (by assumption) (by assumption) | exact nq_ne2 (by assumption) (by assumption)) (by assumption) | exact nq_ga (by assumption)) | exact nq_gn (by first | assumption | decide | omega | exact nq_ne1 (by assumption) (by assumption) | exact nq_ne2 (by assumption) (by assumption)) (by first | assumption | exact nq_gs (by assumption) | exact nq_gn (by first | assumption | decide | omega | exact nq_ne1 (by assumption) (by assumption) | exact nq_ne2 (by assumption) (by assumption)) (by assumption) | exact nq_ga (by assumption)))) rfl ?_
    refine nq_bipush (v := 83) (pc' := 165) d_Reader_read_163 rfl (by decide) ?_
    by_cases k1 : k = 83
    · refine nq_icmp_eq (pc' := 168) (tgt := 180) d_Reader_read_165 rfl (by decide) (fun _ => yes (.inl k1)) (fun h => absurd (by rw [k1]; rfl) h)
    · refine nq_icmp_eq (pc' := 168) (tgt := 180) d_Reader_read_165 rfl (by decide) (fun h => absurd h (kk 83 (by decide) k1)) (fun _ => ?_)
      refine nq_aload_n (pc' := 169) d_Reader_read_168 rfl rfl rfl ?_
      refine nq_getf (pc' := 172) d_Reader_read_169 rfl fl_Reader_42 (by first | assumption | exact nq_ga (by assumption) | exact nq_gs (by first | assumption | exact nq_ga (by assumption) | exact nq_gs (by first | assumption | exact nq_gs (by assumption) | exact nq_gn (by first | assumption | decide | omega | exact nq_ne1 (by assumption) (by assumption) | exact nq_ne2 (by assumption) (by assumption)) (by assumption) | exact nq_ga (by assumption)) | exact nq_gn (by first | assumption | decide | omega | exact nq_ne1 (by assumption) (by assumption) | exact nq_ne2 (by assumption) (by assumption)) (by first | assumption | exact nq_gs (by assumption) | exact nq_gn (by first | assumption | decide | omega | exact nq_ne1 (by assumption) (by assumption) | exact nq_ne2 (by assumption) (by assumption)) (by assumption) | exact nq_ga (by assumption))) | exact nq_gn (by first | assumption | decide | omega | exact nq_ne1 (by assumption) (by assumption) | exact nq_ne2 (by assumption) (by assumption)) (by first | assumption | exact nq_ga (by assumption) | exact nq_gs (by first | assumption | exact nq_gs (by assumption) | exact nq_gn (by first | assumption | decide | omega | exact nq_ne1 (by assumption) (by assumption) | exact nq_ne2 (by assumption) (by assumption)) (by assumption) | exact nq_ga (by assumption)) | exact nq_gn (by first | assumption | decide | omega | exact nq_ne1 (by assumption) (by assumption) | exact nq_ne2 (by assumption) (by assumption)) (by first | assumption | exact nq_gs (by assumption) | exact nq_gn (by first | assumption | decide | omega | exact nq_ne1 (by assumption) (by assumption) | exact nq_ne2 (by assumption) (by assumption)) (by assumption) | exact nq_ga (by assumption)))) rfl ?_
      refine nq_getf (pc' := 175) d_Reader_read_172 rfl fl_Reader_60 (by first | assumption | exact nq_ga (by assumption) | exact nq_gs (by first | assumption | exact nq_ga (by assumption) | exact nq_gs (by first | assumption | exact nq_gs (by assumption) | exact nq_gn (by first | assumption | decide | omega | exact nq_ne1 (by assumption) (by assumption) | exact nq_ne2 (by assumption) (by assumption)) (by assumption) | exact nq_ga (by assumption)) | exact nq_gn (by first | assumption | decide | omega | exact nq_ne1 (by assumption) (by assumption) | exact nq_ne2 (by assumption) (by assumption)) (by first | assumption | exact nq_gs (by assumption) | exact nq_gn (by first | assumption | decide | omega | exact nq_ne1 (by assumption) (by assumption) | exact nq_ne2 (by assumption) (by assumption)) (by assumption) | exact nq_ga (by assumption))) | exact nq_gn (by first | assumption | decide | omega | exact nq_ne1 (by assumption) (by assumption) | exact nq_ne2 (by assumption) (by assumption)) (by first | assumption | exact nq_ga (by assumption) | exact nq_gs (by first | assumption | exact nq_gs (by assumption) | exact nq_gn (by first | assumption | decide | omega | exact nq_ne1 (by assumption) (by assumption) | exact nq_ne2 (by assumption) (by assumption)) (by assumption) | exact nq_ga (by assumption)) | exact nq_gn (by first | assumption | decide | omega | exact nq_ne1 (by assumption) (by assumption) | exact nq_ne2 (by assumption) (by assumption)) (by first | assumption | exact nq_gs (by assumption) | exact nq_gn (by first | assumption | decide | omega | exact nq_ne1 (by assumption) (by assumption) | exact nq_ne2 (by assumption) (by assumption)) (by assumption) | exact nq_ga (by assumption)))) rfl ?_
      refine nq_bipush (v := 80) (pc' := 177) d_Reader_read_175 rfl (by decide) ?_
      by_cases k2 : k = 80
      · refine nq_icmp_ne (pc' := 180) (tgt := 193) d_Reader_read_177 rfl (by decide) (fun h => absurd (by rw [k2]; rfl) h) (fun _ => yes (.inr k2))
      · refine nq_icmp_ne (pc' := 180) (tgt := 193) d_Reader_read_177 rfl (by decide) (fun _ => no (fun h => by omega)) (fun h => absurd h (kk 80 (by decide) k2))
  have x1 := W2.1
  have x2 := W2.2.1
  have x3 := W2.cell
  simp only [List.cons_append, List.nil_append] at x3
  unfold sp_tail
  have skip : ¬ (k ≠ 73 ∧ L i = 91) → nq_J G (d + 1) 0 0 m_Reader_read 156 [some (.ref r), some (.ref c)] [] σ2 (rd_TQ σ r ta c o1 o2 o3 f len N pl C (.int (nI k)) v2 v3 v4 v5 v6 q (match sp_cond L k cols i with
    | .inl p => .inl p
    | .inr (cs, j2) => match sp_ord L k cols j2 with
      | .inl p => .inl p
      | .inr (od, j3) => if j3 < N then .inl j3 else .inr (cs, od))) := by
    intro hn
    unfold sp_cond
    rw [if_neg hn]
    refine mid [] i σ2 hi F2 ?_
    unfold rd_cl rd_te
    rw [if_pos rfl, if_pos rfl, List.append_nil]
    exact W2
  refine nq_aload_n (pc' := 132) d_Reader_read_131 rfl rfl rfl ?_
  refine nq_getf (pc' := 135) d_Reader_read_132 rfl fl_Reader_42 (by first | assumption | exact nq_ga (by assumption) | exact nq_gs (by first | assumption | exact nq_ga (by assumption) | exact nq_gs (by first | assumption | exact nq_gs (by assumption) | exact nq_gn (by first | assumption | decide | omega | exact nq_ne1 (by assumption) (by assumption) | exact nq_ne2 (by assumption) (by assumption)) (by assumption) | exact nq_ga (by assumption)) | exact nq_gn (by first | assumption | decide | omega | exact nq_ne1 (by assumption) (by assumption) | exact nq_ne2 (by assumption) (by assumption)) (by first | assumption | exact nq_gs (by assumption) | exact nq_gn (by first | assumption | decide | omega | exact nq_ne1 (by assumption) (by assumption) | exact nq_ne2 (by assumption) (by assumption)) (by assumption) | exact nq_ga (by assumption))) | exact nq_gn (by first | assumption | decide | omega | exact nq_ne1 (by assumption) (by assumption) | exact nq_ne2 (by assumption) (by assumption)) (by first | assumption | exact nq_ga (by assumption) | exact nq_gs (by first | assumption | exact nq_gs (by assumption) | exact nq_gn (by first | assumption | decide | omega | exact nq_ne1 (by assumption) (by assumption) | exact nq_ne2 (by assumption) (by assumption)) (by assumption) | exact nq_ga (by assumption)) | exact nq_gn (by first | assumption | decide | omega | exact nq_ne1 (by assumption) (by assumption) | exact nq_ne2 (by assumption) (by assumption)) (by first | assumption | exact nq_gs (by assumption) | exact nq_gn (by first | assumption | decide | omega | exact nq_ne1 (by assumption) (by assumption) | exact nq_ne2 (by assumption) (by assumption)) (by assumption) | exact nq_ga (by assumption)))) rfl ?_
  refine nq_getf (pc' := 138) d_Reader_read_135 rfl fl_Reader_60 (by first | assumption | exact nq_ga (by assumption) | exact nq_gs (by first | assumption | exact nq_ga (by assumption) | exact nq_gs (by first | assumption | exact nq_gs (by assumption) | exact nq_gn (by first | assumption | decide | omega | exact nq_ne1 (by assumption) (by assumption) | exact nq_ne2 (by assumption) (by assumption)) (by assumption) | exact nq_ga (by assumption)) | exact nq_gn (by first | assumption | decide | omega | exact nq_ne1 (by assumption) (by assumption) | exact nq_ne2 (by assumption) (by assumption)) (by first | assumption | exact nq_gs (by assumption) | exact nq_gn (by first | assumption | decide | omega | exact nq_ne1 (by assumption) (by assumption) | exact nq_ne2 (by assumption) (by assumption)) (by assumption) | exact nq_ga (by assumption))) | exact nq_gn (by first | assumption | decide | omega | exact nq_ne1 (by assumption) (by assumption) | exact nq_ne2 (by assumption) (by assumption)) (by first | assumption | exact nq_ga (by assumption) | exact nq_gs (by first | assumption | exact nq_gs (by assumption) | exact nq_gn (by first | assumption | decide | omega | exact nq_ne1 (by assumption) (by assumption) | exact nq_ne2 (by assumption) (by assumption)) (by assumption) | exact nq_ga (by assumption)) | exact nq_gn (by first | assumption | decide | omega | exact nq_ne1 (by assumption) (by assumption) | exact nq_ne2 (by assumption) (by assumption)) (by first | assumption | exact nq_gs (by assumption) | exact nq_gn (by first | assumption | decide | omega | exact nq_ne1 (by assumption) (by assumption) | exact nq_ne2 (by assumption) (by assumption)) (by assumption) | exact nq_ga (by assumption)))) rfl ?_
  refine nq_bipush (v := 73) (pc' := 140) d_Reader_read_138 rfl (by decide) ?_
  by_cases k1 : k = 73
  · refine nq_icmp_eq (pc' := 143) (tgt := 156) d_Reader_read_140 rfl (by decide) (fun _ => skip (fun h => h.1 k1)) (fun h => absurd (by rw [k1]; rfl) h)
  · refine nq_icmp_eq (pc' := 143) (tgt := 156) d_Reader_read_140 rfl (by decide) (fun h => absurd h (kk 73 (by decide) k1)) (fun _ => ?_)
    refine nq_aload_n (pc' := 144) d_Reader_read_143 rfl rfl rfl ?_
    refine nq_ldcS (pc' := 146) d_Reader_read_144 rfl ls_Reader_79 ?_
    refine nq_callVR (pc' := 149) d_Reader_read_146 rfl cl_Reader_81 rfl (by first | assumption | exact nq_ga (by assumption) | exact nq_gs (by first | assumption | exact nq_ga (by assumption) | exact nq_gs (by first | assumption | exact nq_gs (by assumption) | exact nq_gn (by first | assumption | decide | omega | exact nq_ne1 (by assumption) (by assumption) | exact nq_ne2 (by assumption) (by assumption)) (by assumption) | exact nq_ga (by assumption)) | exact nq_gn (by first | assumption | decide | omega | exact nq_ne1 (by assumption) (by assumption) | exact nq_ne2 (by assumption) (by assumption)) (by first | assumption | exact nq_gs (by assumption) | exact nq_gn (by first | assumption | decide | omega | exact nq_ne1 (by assumption) (by assumption) | exact nq_ne2 (by assumption) (by assumption)) (by assumption) | exact nq_ga (by assumption))) | exact nq_gn (by first | assumption | decide | omega | exact nq_ne1 (by assumption) (by assumption) | exact nq_ne2 (by assumption) (by assumption)) (by first | assumption | exact nq_ga (by assumption) | exact nq_gs (by first | assumption | exact nq_gs (by assumption) | exact nq_gn (by first | assumption | decide | omega | exact nq_ne1 (by assumption) (by assumption) | exact nq_ne2 (by assumption) (by assumption)) (by assumption) | exact nq_ga (by assumption)) | exact nq_gn (by first | assumption | decide | omega | exact nq_ne1 (by assumption) (by assumption) | exact nq_ne2 (by assumption) (by assumption)) (by first | assumption | exact nq_gs (by assumption) | exact nq_gn (by first | assumption | decide | omega | exact nq_ne1 (by assumption) (by assumption) | exact nq_ne2 (by assumption) (by assumption)) (by assumption) | exact nq_ga (by assumption)))) rfl rfl (kc := 0) (ks := 0) (mc' := 0) (ms' := 0) (As := [.ref 1000016]) (rest := []) rfl rfl (Nat.le_of_ble_eq_true rfl) (k_Reader_sees (i := 16) (by omega) x1 x2 hL hi (by decide)) ?_
    by_cases b1 : ¬ (L i = 91)
    · rw [if_neg (fun h => b1 ((tx_one rfl).mp h))]
      refine nq_if_eq (pc' := 152) (tgt := 156) d_Reader_read_149 rfl (by decide) (fun _ => skip (fun h => b1 h.2)) (fun h => absurd rfl h)
    replace b1 := Classical.not_not.mp b1
    have b1' : L i ∈ tx 16 := (tx_one rfl).mpr b1
    have l1 := hL.lt _ (tx_n0 b1')
    rw [if_pos b1']
    refine nq_if_eq (pc' := 152) (tgt := 156) d_Reader_read_149 rfl (by decide) (fun h => absurd h (by decide)) (fun _ => ?_)
    refine nq_aload_n (pc' := 153) d_Reader_read_152 rfl rfl rfl ?_
    unfold sp_cond
    rw [if_pos ⟨k1, b1⟩]
    refine nq_callV (pc' := 156) d_Reader_read_153 rfl cl_Reader_85 rfl (by first | assumption | exact nq_ga (by assumption) | exact nq_gs (by first | assumption | exact nq_ga (by assumption) | exact nq_gs (by first | assumption | exact nq_gs (by assumption) | exact nq_gn (by first | assumption | decide | omega | exact nq_ne1 (by assumption) (by assumption) | exact nq_ne2 (by assumption) (by assumption)) (by assumption) | exact nq_ga (by assumption)) | exact nq_gn (by first | assumption | decide | omega | exact nq_ne1 (by assumption) (by assumption) | exact nq_ne2 (by assumption) (by assumption)) (by first | assumption | exact nq_gs (by assumption) | exact nq_gn (by first | assumption | decide | omega | exact nq_ne1 (by assumption) (by assumption) | exact nq_ne2 (by assumption) (by assumption)) (by assumption) | exact nq_ga (by assumption))) | exact nq_gn (by first | assumption | decide | omega | exact nq_ne1 (by assumption) (by assumption) | exact nq_ne2 (by assumption) (by assumption)) (by first | assumption | exact nq_ga (by assumption) | exact nq_gs (by first | assumption | exact nq_gs (by assumption) | exact nq_gn (by first | assumption | decide | omega | exact nq_ne1 (by assumption) (by assumption) | exact nq_ne2 (by assumption) (by assumption)) (by assumption) | exact nq_ga (by assumption)) | exact nq_gn (by first | assumption | decide | omega | exact nq_ne1 (by assumption) (by assumption) | exact nq_ne2 (by assumption) (by assumption)) (by first | assumption | exact nq_gs (by assumption) | exact nq_gn (by first | assumption | decide | omega | exact nq_ne1 (by assumption) (by assumption) | exact nq_ne2 (by assumption) (by assumption)) (by assumption) | exact nq_ga (by assumption)))) rfl rfl (kc := 0) (ks := 0) (mc' := 0) (ms' := 0) (As := []) (rest := []) rfl rfl (Nat.le_of_ble_eq_true rfl) (k_Reader_readCondition (by omega) hL hc W2 b1 (by omega) hopC) (fun E σ3 hq => ?_) (fun v σ3 hq => ?_)
    · cases hx : sp_conds L cols 48 [] (i + 1) with
      | inl p =>
        rw [hx] at hq
        exact ⟨hq.1, hq.2.fr F2⟩
      | inr w =>
        rw [hx] at hq
        cases hq.1
    · cases hx : sp_conds L cols 48 [] (i + 1) with
      | inl p =>
        rw [hx] at hq
        cases hq.1
      | inr w =>
        obtain ⟨cs, j2⟩ := w
        rw [hx] at hq
        obtain ⟨e2, f3, W3⟩ := hq
        cases e2
        obtain ⟨ds, d1, d2, d3, d4, d5, d6, d7⟩ := sp_conds_ok hN hL.lt hc (by omega) (by omega) hx
        rw [List.nil_append] at d1
        subst d1
        refine mid cs j2 σ3 d7 (F2.tr f3) ?_
        unfold rd_cl rd_te
        rw [if_neg d2, if_neg d2]
        rw [rd_cs_all (fun x hx => (d3 x hx).1) (d4 true)] at W3
        exact W3
end RW
