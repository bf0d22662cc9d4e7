/-! THE OTHER STORE: through the pairs -/
def mz_k (v : Nat → Int32) (ar : mo_Ar) (v' : Nat → Int32) (ar' : mo_Ar) : Prop := (∀ k, k ≠ 7 → k ≠ 11 → k ≠ 13 → k ≠ 16 → v' k = v k) ∧ ∀ k, k ≠ 10 → k ≠ 11 → k ≠ 12 → k ≠ 13 → ar' k = ar k
theorem mz_k.rf {v : Nat → Int32} {ar : mo_Ar} : mz_k v ar v ar := ⟨fun _ _ _ _ _ => rfl, fun _ _ _ _ _ => rfl⟩
theorem mz_k.tr {v v1 v2 : Nat → Int32} {ar ar1 ar2 : mo_Ar} (h : mz_k v ar v1 ar1) (k : mz_k v1 ar1 v2 ar2) : mz_k v ar v2 ar2 := ⟨fun i a b c e => (k.1 i a b c e).trans (h.1 i a b c e), fun i a b c e => (k.2 i a b c e).trans (h.2 i a b c e)⟩
theorem mz_k.a11 {v : Nat → Int32} {ar : mo_Ar} {f : Nat → Int32} : mz_k v ar v (ua ar 11 f) := ⟨fun _ _ _ _ _ => rfl, fun k _ a _ _ => ua_ne a⟩
theorem mcl_k.z {v v' : Nat → Int32} {ar ar' : mo_Ar} (h : mcl_k v ar v' ar') : mz_k v ar v' ar' := ⟨h.1, fun k a _ c e => h.2 k a c e⟩
section MZ
variable {G : nq_G} {d : Nat} {σ : nq_S} {v : Nat → Int32} {ar : mo_Ar} {h : Nat} {s : sp_St} {tb : sx_T}
theorem mo_thr_pos (e : String) : ¬ mo_thr e ≤ 0 ∧ mo_thr e ≠ 0 := by
  unfold mo_thr
  split
  · decide
  · split
    · decide
    · split <;> decide
/-- the pairs of one row -/
def mz_in (r1 : nq_Rw) (T2 : Option (List nq_Rw)) (p : Int32) : List (Nat → Int32) := match T2 with
  | none => [sx_env r1 sx_row0 p]
  | some T2 => T2.map (fun r2 => sx_env r1 r2 p)
theorem mz_envs (T1 : List nq_Rw) (T2 : Option (List nq_Rw)) (p : Int32) : sx_envs T1 T2 p = T1.flatMap (fun r => mz_in r T2 p) := by
  cases T2 with
  | none =>
    unfold sx_envs mz_in
    induction T1 with
    | nil => rfl
    | cons r T ih => simp only [List.map_cons, List.flatMap_cons, ih]; rfl
  | some T2 => rfl
theorem mz_loops {α : Type} {ST : (Nat → Int32) → mo_Ar → α → Prop} {st : (Nat → Int32) → α → String ⊕ α} {sz : α → Nat} {Q : String ⊕ α → nq_Q} {uv : Int32} {a0 : α} {two : Bool} (htwo : two = true ↔ (s.1 = 80 ∨ s.1 = 66)) (hk : s.1 ≠ 73) (hok : sp_ok s) (hh : h ≤ 1600) (hT : mo_tb (ar 2) (ar 3) tb) (huv : two = true → uv = nI s.2.2.1) (h7 : v 7 = 0) (hD : 7 ≤ d) (hS0 : ST v ar a0) (hz0 : sz a0 = 0)
    (hst : ∀ v ar a f, ST v ar a → ST v (ua ar 11 f) a) (hsz : ∀ ρ a a', st ρ a = .inr a' → sz a' ≤ sz a + 1)
    (hcol : ∀ σ1 v1 ar1 ρ a, mo_W σ1 v1 ar1 → mz_k v ar v1 ar1 → v1 7 = 0 → mn_E v1 ar1 s ρ → ST v1 ar1 a → sz a < 400 → nq_JM G d 0 0 m_Mod_collect [.ref 270, .int (nI h)] σ1 (mcl_Q ST σ1 v1 ar1 (st ρ a)))
    (hfin : ∀ σ1 v1 ar1 a (l6 l7 : Option Value), mo_fr σ σ1 → mo_W σ1 v1 ar1 → mz_k v ar v1 ar1 → v1 7 = 0 → ST v1 ar1 a → nq_J G (d + 1) 0 0 m_Mod_select 146 [some (.ref 270), some (.int (nI h)), some (.int (nI s.1)), some (.int (nI s.2.1)), some (.int uv), some (.int (if two then 1 else 0)), l6, l7] [] σ1 (Q (.inr a)))
    (hthr : ∀ e σ1 v1 ar1, mo_fr σ σ1 → mo_W σ1 v1 ar1 → mz_k v ar v1 ar1 → v1 7 = mo_thr e → Q (.inl e) (.inl (some (.int 0))) σ1) (hW : mo_W σ v ar) : nq_J G (d + 1) 0 0 m_Mod_select 58 [some (.ref 270), some (.int (nI h)), some (.int (nI s.1)), some (.int (nI s.2.1)), some (.int uv), some (.int (if two then 1 else 0)), some (.int (nI 0)), none] [] σ (Q (sx_fold st (sx_envs (tb.getD s.2.1 []) (sx_two tb s.2.2.1) (v 15)) a0)) := by
  have ht := hok.2.1
  obtain ⟨b1, b2, b3⟩ := hT.2 s.2.1 ht
  rw [mz_envs]
  generalize hT1 : tb.getD s.2.1 [] = T1 at b1 b2 b3 ⊢
  have hu2 : two = true → s.2.2.1 < 3 := fun h => by
    have := hok.2.2.1
    rw [if_pos (htwo.mp h)] at this
    exact this
  have hu3 : two = false → s.2.2.1 = 3 := fun h => by
    have := hok.2.2.1
    rw [if_neg (fun hh => by rw [htwo.mpr hh] at h; cases h)] at this
    exact this
  have hnc : sp_nc (sp_cols s.1) = if two then 6 else 3 := by
    have hk1 := hok.1
    unfold sp_cols
    rw [if_neg hk]
    cases ht2 : two with
    | true =>
      rw [if_pos (htwo.mp ht2)]
      rfl
    | false =>
      rw [if_neg (fun hh => by rw [htwo.mpr hh] at ht2; cases ht2)]
      rfl
  have thr146 : ∀ (e : String) (l6 l7 : Option Value) (σ1 : nq_S) (v1 : Nat → Int32) (ar1 : mo_Ar), mo_fr σ σ1 → mo_W σ1 v1 ar1 → mz_k v ar v1 ar1 → v1 7 = mo_thr e → nq_J G (d + 1) 0 0 m_Mod_select 146 [some (.ref 270), some (.int (nI h)), some (.int (nI s.1)), some (.int (nI s.2.1)), some (.int uv), some (.int (if two then 1 else 0)), l6, l7] [] σ1 (Q (.inl e)) := by
    intro e l6 l7 σ1 v1 ar1 F W K h71
    have w := W.1
    refine nq_aload_n (pc' := 147) d_Mod_select_146 rfl rfl rfl ?_
    refine nq_getf (pc' := 150) d_Mod_select_147 rfl fl_Mod_63 (by first | assumption | exact nq_ga (by assumption) | exact nq_gs (by first | assumption | exact nq_ga (by assumption) | exact nq_gs (by first | assumption | exact nq_gs (by assumption) | exact nq_gn (by first | assumption | decide | omega | exact nq_ne1 (by assumption) (by assumption) | exact nq_ne2 (by assumption) (by assumption)) (by assumption) | exact nq_ga (by assumption)) | exact nq_gn (by first | assumption | decide | omega | exact nq_ne1 (by assumption) (by assumption) | exact nq_ne2 (by assumption) (by assumption)) (by first | assumption | exact nq_gs (by assumption) | exact nq_gn (by first | assumption | decide | omega | exact nq_ne1 (by assumption) (by assumption) | exact nq_ne2 (by assumption) (by assumption)) (by assumption) | exact nq_ga (by assumption))) | exact nq_gn (by first | assumption | decide | omega | exact nq_ne1 (by assumption) (by assumption) | exact nq_ne2 (by assumption) (by assumption)) (by first | assumption | exact nq_ga (by assumption) | exact nq_gs (by first | assumption | exact nq_gs (by assumption) | exact nq_gn (by first | assumption | decide | omega | exact nq_ne1 (by assumption) (by assumption) | exact nq_ne2 (by assumption) (by assumption)) (by assumption) | exact nq_ga (by assumption)) | exact nq_gn (by first | assumption | decide | omega | exact nq_ne1 (by assumption) (by assumption) | exact nq_ne2 (by assumption) (by assumption)) (by first | assumption | exact nq_gs (by assumption) | exact nq_gn (by first | assumption | decide | omega | exact nq_ne1 (by assumption) (by assumption) | exact nq_ne2 (by assumption) (by assumption)) (by assumption) | exact nq_ga (by assumption)))) rfl ?_
    rw [h71]
    refine nq_if_le (pc' := 153) (tgt := 155) d_Mod_select_150 rfl (by decide) (fun h => absurd h (mo_thr_pos e).1) (fun _ => ?_)
    refine nq_iconst (v := 0) (pc' := 154) d_Mod_select_153 rfl (by decide) ?_
    refine nq_iret d_Mod_select_154 rfl rfl (hthr e σ1 v1 ar1 F W K h71)
  have thr140 : ∀ (e : String) (i : Nat) (l7 : Option Value) (σ1 : nq_S) (v1 : Nat → Int32) (ar1 : mo_Ar), i < 20 → mo_fr σ σ1 → mo_W σ1 v1 ar1 → mz_k v ar v1 ar1 → v1 7 = mo_thr e → nq_J G (d + 1) 0 0 m_Mod_select 140 [some (.ref 270), some (.int (nI h)), some (.int (nI s.1)), some (.int (nI s.2.1)), some (.int uv), some (.int (if two then 1 else 0)), some (.int (nI i)), l7] [] σ1 (Q (.inl e)) := by
    intro e i l7 σ1 v1 ar1 hi F W K h71
    have w := W.1
    have c3 : σ1[274]? = some (.inl (0, 3, .inl (ar 3))) := by rw [← K.2 3 (by decide) (by decide) (by decide) (by decide)]; exact W.2.2.2.2.1
    refine nq_iinc (pc' := 143) d_Mod_select_140 rfl rfl (v := nI (i + 1)) (nI_1 i) (by decide) rfl ?_
    refine nq_goto (tgt := 58) d_Mod_select_143 (by decide) ?_
    refine nq_iload (pc' := 60) d_Mod_select_58 rfl rfl ?_
    refine nq_aload_n (pc' := 61) d_Mod_select_60 rfl rfl rfl ?_
    refine nq_getf (pc' := 64) d_Mod_select_61 rfl fl_Mod_19 (by first | assumption | exact nq_ga (by assumption) | exact nq_gs (by first | assumption | exact nq_ga (by assumption) | exact nq_gs (by first | assumption | exact nq_gs (by assumption) | exact nq_gn (by first | assumption | decide | omega | exact nq_ne1 (by assumption) (by assumption) | exact nq_ne2 (by assumption) (by assumption)) (by assumption) | exact nq_ga (by assumption)) | exact nq_gn (by first | assumption | decide | omega | exact nq_ne1 (by assumption) (by assumption) | exact nq_ne2 (by assumption) (by assumption)) (by first | assumption | exact nq_gs (by assumption) | exact nq_gn (by first | assumption | decide | omega | exact nq_ne1 (by assumption) (by assumption) | exact nq_ne2 (by assumption) (by assumption)) (by assumption) | exact nq_ga (by assumption))) | exact nq_gn (by first | assumption | decide | omega | exact nq_ne1 (by assumption) (by assumption) | exact nq_ne2 (by assumption) (by assumption)) (by first | assumption | exact nq_ga (by assumption) | exact nq_gs (by first | assumption | exact nq_gs (by assumption) | exact nq_gn (by first | assumption | decide | omega | exact nq_ne1 (by assumption) (by assumption) | exact nq_ne2 (by assumption) (by assumption)) (by assumption) | exact nq_ga (by assumption)) | exact nq_gn (by first | assumption | decide | omega | exact nq_ne1 (by assumption) (by assumption) | exact nq_ne2 (by assumption) (by assumption)) (by first | assumption | exact nq_gs (by assumption) | exact nq_gn (by first | assumption | decide | omega | exact nq_ne1 (by assumption) (by assumption) | exact nq_ne2 (by assumption) (by assumption)) (by assumption) | exact nq_ga (by assumption)))) rfl ?_
    refine nq_iload_n (pc' := 65) d_Mod_select_64 rfl rfl rfl ?_
    refine nq_iald (pc' := 66) d_Mod_select_65 rfl (by first | assumption | exact nq_ga (by assumption) | exact nq_gs (by first | assumption | exact nq_ga (by assumption) | exact nq_gs (by first | assumption | exact nq_gs (by assumption) | exact nq_gn (by first | assumption | decide | omega | exact nq_ne1 (by assumption) (by assumption) | exact nq_ne2 (by assumption) (by assumption)) (by assumption) | exact nq_ga (by assumption)) | exact nq_gn (by first | assumption | decide | omega | exact nq_ne1 (by assumption) (by assumption) | exact nq_ne2 (by assumption) (by assumption)) (by first | assumption | exact nq_gs (by assumption) | exact nq_gn (by first | assumption | decide | omega | exact nq_ne1 (by assumption) (by assumption) | exact nq_ne2 (by assumption) (by assumption)) (by assumption) | exact nq_ga (by assumption))) | exact nq_gn (by first | assumption | decide | omega | exact nq_ne1 (by assumption) (by assumption) | exact nq_ne2 (by assumption) (by assumption)) (by first | assumption | exact nq_ga (by assumption) | exact nq_gs (by first | assumption | exact nq_gs (by assumption) | exact nq_gn (by first | assumption | decide | omega | exact nq_ne1 (by assumption) (by assumption) | exact nq_ne2 (by assumption) (by assumption)) (by assumption) | exact nq_ga (by assumption)) | exact nq_gn (by first | assumption | decide | omega | exact nq_ne1 (by assumption) (by assumption) | exact nq_ne2 (by assumption) (by assumption)) (by first | assumption | exact nq_gs (by assumption) | exact nq_gn (by first | assumption | decide | omega | exact nq_ne1 (by assumption) (by assumption) | exact nq_ne2 (by assumption) (by assumption)) (by assumption) | exact nq_ga (by assumption)))) rfl (j := s.2.1) rfl (by omega) (by decide) ?_
    rw [b2]
    by_cases hil : T1.length ≤ i + 1
    · refine nq_icmp_ge (pc' := 69) (tgt := 146) d_Mod_select_66 rfl (by decide) (fun _ => thr146 e _ _ σ1 v1 ar1 F W K h71) (fun h => absurd ((nI_leI (by omega) (by omega)).mpr hil) h)
    refine nq_icmp_ge (pc' := 69) (tgt := 146) d_Mod_select_66 rfl (by decide) (fun h => absurd ((nI_leI (by omega) (by omega)).mp h) hil) (fun _ => ?_)
    refine nq_aload_n (pc' := 70) d_Mod_select_69 rfl rfl rfl ?_
    refine nq_getf (pc' := 73) d_Mod_select_70 rfl fl_Mod_63 (by first | assumption | exact nq_ga (by assumption) | exact nq_gs (by first | assumption | exact nq_ga (by assumption) | exact nq_gs (by first | assumption | exact nq_gs (by assumption) | exact nq_gn (by first | assumption | decide | omega | exact nq_ne1 (by assumption) (by assumption) | exact nq_ne2 (by assumption) (by assumption)) (by assumption) | exact nq_ga (by assumption)) | exact nq_gn (by first | assumption | decide | omega | exact nq_ne1 (by assumption) (by assumption) | exact nq_ne2 (by assumption) (by assumption)) (by first | assumption | exact nq_gs (by assumption) | exact nq_gn (by first | assumption | decide | omega | exact nq_ne1 (by assumption) (by assumption) | exact nq_ne2 (by assumption) (by assumption)) (by assumption) | exact nq_ga (by assumption))) | exact nq_gn (by first | assumption | decide | omega | exact nq_ne1 (by assumption) (by assumption) | exact nq_ne2 (by assumption) (by assumption)) (by first | assumption | exact nq_ga (by assumption) | exact nq_gs (by first | assumption | exact nq_gs (by assumption) | exact nq_gn (by first | assumption | decide | omega | exact nq_ne1 (by assumption) (by assumption) | exact nq_ne2 (by assumption) (by assumption)) (by assumption) | exact nq_ga (by assumption)) | exact nq_gn (by first | assumption | decide | omega | exact nq_ne1 (by assumption) (by assumption) | exact nq_ne2 (by assumption) (by assumption)) (by first | assumption | exact nq_gs (by assumption) | exact nq_gn (by first | assumption | decide | omega | exact nq_ne1 (by assumption) (by assumption) | exact nq_ne2 (by assumption) (by assumption)) (by assumption) | exact nq_ga (by assumption)))) rfl ?_
    rw [h71]
    refine nq_if_ne (pc' := 76) (tgt := 146) d_Mod_select_73 rfl (by decide) (fun _ => thr146 e _ _ σ1 v1 ar1 F W K h71) (fun h => absurd h (mo_thr_pos e).2)
  /- one row of the first table, with what follows it -/
  have inner : ∀ (i : Nat) (r1 : nq_Rw) (rest : List (Nat → Int32)) (M : Nat), i < 20 → M ≤ 20 → M = (mz_in r1 (sx_two tb s.2.2.1) (v 15)).length → (∀ (a : α) (σ1 : nq_S) (v1 : Nat → Int32) (ar1 : mo_Ar) (l7 : Option Value), sz a ≤ i * 20 + M → mo_fr σ σ1 → mo_W σ1 v1 ar1 → mz_k v ar v1 ar1 → v1 7 = 0 → ST v1 ar1 a → nq_J G (d + 1) 0 0 m_Mod_select 140 [some (.ref 270), some (.int (nI h)), some (.int (nI s.1)), some (.int (nI s.2.1)), some (.int uv), some (.int (if two then 1 else 0)), some (.int (nI i)), l7] [] σ1 (Q (sx_fold st rest a))) → ∀ (m j : Nat) (a : α) (σ1 : nq_S) (v1 : Nat → Int32) (ar1 : mo_Ar), m + j = M → sz a ≤ i * 20 + j → mo_fr σ σ1 → mo_W σ1 v1 ar1 → mz_k v ar v1 ar1 → v1 7 = 0 → ST v1 ar1 a → (ar1 11 0 = r1.1 ∧ ar1 11 1 = r1.2.1 ∧ ar1 11 2 = r1.2.2) → nq_J G (d + 1) 0 0 m_Mod_select 87 [some (.ref 270), some (.int (nI h)), some (.int (nI s.1)), some (.int (nI s.2.1)), some (.int uv), some (.int (if two then 1 else 0)), some (.int (nI i)), some (.int (nI j))] [] σ1 (Q (sx_fold st ((mz_in r1 (sx_two tb s.2.2.1) (v 15)).drop j ++ rest) a)) := by
    intro i r1 rest M hi hM20 hM kont m
    /- the bound of the loop -/
    have bound : ∀ (j : Nat) (σ1 : nq_S) (v1 : Nat → Int32) (ar1 : mo_Ar) (R : nq_Q), mo_W σ1 v1 ar1 → mz_k v ar v1 ar1 → nq_J G (d + 1) 0 0 m_Mod_select 105 [some (.ref 270), some (.int (nI h)), some (.int (nI s.1)), some (.int (nI s.2.1)), some (.int uv), some (.int (if two then 1 else 0)), some (.int (nI i)), some (.int (nI j))] [.int (nI M), .int (nI j)] σ1 R → nq_J G (d + 1) 0 0 m_Mod_select 87 [some (.ref 270), some (.int (nI h)), some (.int (nI s.1)), some (.int (nI s.2.1)), some (.int uv), some (.int (if two then 1 else 0)), some (.int (nI i)), some (.int (nI j))] [] σ1 R := by
      intro j σ1 v1 ar1 R W K hJ
      have w := W.1
      have c3 : σ1[274]? = some (.inl (0, 3, .inl (ar 3))) := by rw [← K.2 3 (by decide) (by decide) (by decide) (by decide)]; exact W.2.2.2.2.1
      refine nq_iload (pc' := 89) d_Mod_select_87 rfl rfl ?_
      refine nq_iload (pc' := 91) d_Mod_select_89 rfl rfl ?_
      cases ht2 : two with
      | true =>
        have hu := hu2 ht2
        have huv' := huv ht2
        rw [ht2] at hJ
        have hM' : nI M = ar 3 s.2.2.1 := by
          rw [hM, (hT.2 s.2.2.1 hu).2.1]
          unfold mz_in sx_two
          rw [if_neg (by omega)]
          simp only [List.length_map]
        refine nq_if_eq (pc' := 94) (tgt := 104) d_Mod_select_91 rfl (by decide) (fun h => absurd h (by decide)) (fun _ => ?_)
        refine nq_aload_n (pc' := 95) d_Mod_select_94 rfl rfl rfl ?_
        refine nq_getf (pc' := 98) d_Mod_select_95 rfl fl_Mod_19 (by first | assumption | exact nq_ga (by assumption) | exact nq_gs (by first | assumption | exact nq_ga (by assumption) | exact nq_gs (by first | assumption | exact nq_gs (by assumption) | exact nq_gn (by first | assumption | decide | omega | exact nq_ne1 (by assumption) (by assumption) | exact nq_ne2 (by assumption) (by assumption)) (by assumption) | exact nq_ga (by assumption)) | exact nq_gn (by first | assumption | decide | omega | exact nq_ne1 (by assumption) (by assumption) | exact nq_ne2 (by assumption) (by assumption)) (by first | assumption | exact nq_gs (by assumption) | exact nq_gn (by first | assumption | decide | omega | exact nq_ne1 (by assumption) (by assumption) | exact nq_ne2 (by assumption) (by assumption)) (by assumption) | exact nq_ga (by assumption))) | exact nq_gn (by first | assumption | decide | omega | exact nq_ne1 (by assumption) (by assumption) | exact nq_ne2 (by assumption) (by assumption)) (by first | assumption | exact nq_ga (by assumption) | exact nq_gs (by first | assumption | exact nq_gs (by assumption) | exact nq_gn (by first | assumption | decide | omega | exact nq_ne1 (by assumption) (by assumption) | exact nq_ne2 (by assumption) (by assumption)) (by assumption) | exact nq_ga (by assumption)) | exact nq_gn (by first | assumption | decide | omega | exact nq_ne1 (by assumption) (by assumption) | exact nq_ne2 (by assumption) (by assumption)) (by first | assumption | exact nq_gs (by assumption) | exact nq_gn (by first | assumption | decide | omega | exact nq_ne1 (by assumption) (by assumption) | exact nq_ne2 (by assumption) (by assumption)) (by assumption) | exact nq_ga (by assumption)))) rfl ?_
        refine nq_iload (pc' := 100) d_Mod_select_98 rfl rfl ?_
        refine nq_iald (pc' := 101) d_Mod_select_100 rfl (by first | assumption | exact nq_ga (by assumption) | exact nq_gs (by first | assumption | exact nq_ga (by assumption) | exact nq_gs (by first | assumption | exact nq_gs (by assumption) | exact nq_gn (by first | assumption | decide | omega | exact nq_ne1 (by assumption) (by assumption) | exact nq_ne2 (by assumption) (by assumption)) (by assumption) | exact nq_ga (by assumption)) | exact nq_gn (by first | assumption | decide | omega | exact nq_ne1 (by assumption) (by assumption) | exact nq_ne2 (by assumption) (by assumption)) (by first | assumption | exact nq_gs (by assumption) | exact nq_gn (by first | assumption | decide | omega | exact nq_ne1 (by assumption) (by assumption) | exact nq_ne2 (by assumption) (by assumption)) (by assumption) | exact nq_ga (by assumption))) | exact nq_gn (by first | assumption | decide | omega | exact nq_ne1 (by assumption) (by assumption) | exact nq_ne2 (by assumption) (by assumption)) (by first | assumption | exact nq_ga (by assumption) | exact nq_gs (by first | assumption | exact nq_gs (by assumption) | exact nq_gn (by first | assumption | decide | omega | exact nq_ne1 (by assumption) (by assumption) | exact nq_ne2 (by assumption) (by assumption)) (by assumption) | exact nq_ga (by assumption)) | exact nq_gn (by first | assumption | decide | omega | exact nq_ne1 (by assumption) (by assumption) | exact nq_ne2 (by assumption) (by assumption)) (by first | assumption | exact nq_gs (by assumption) | exact nq_gn (by first | assumption | decide | omega | exact nq_ne1 (by assumption) (by assumption) | exact nq_ne2 (by assumption) (by assumption)) (by assumption) | exact nq_ga (by assumption)))) rfl (j := s.2.2.1) huv' (by omega) (by decide) ?_
        rw [← hM']
        refine nq_goto (tgt := 105) d_Mod_select_101 (by decide) ?_
        exact hJ
      | false =>
        rw [ht2] at hJ
        have hM' : M = 1 := by
          rw [hM]
          unfold mz_in sx_two
          rw [if_pos (hu3 ht2)]
          rfl
        rw [hM'] at hJ
        refine nq_if_eq (pc' := 94) (tgt := 104) d_Mod_select_91 rfl (by decide) (fun _ => ?_) (fun h => absurd rfl h)
        refine nq_iconst (v := 1) (pc' := 105) d_Mod_select_104 rfl (by decide) ?_
        exact hJ
    have thr87 : ∀ (e : String) (j : Nat) (σ1 : nq_S) (v1 : Nat → Int32) (ar1 : mo_Ar), j ≤ 20 → mo_fr σ σ1 → mo_W σ1 v1 ar1 → mz_k v ar v1 ar1 → v1 7 = mo_thr e → nq_J G (d + 1) 0 0 m_Mod_select 87 [some (.ref 270), some (.int (nI h)), some (.int (nI s.1)), some (.int (nI s.2.1)), some (.int uv), some (.int (if two then 1 else 0)), some (.int (nI i)), some (.int (nI j))] [] σ1 (Q (.inl e)) := by
      intro e j σ1 v1 ar1 hj F W K h71
      have w := W.1
      refine bound j σ1 v1 ar1 _ W K ?_
      by_cases hjM : M ≤ j
      · refine nq_icmp_ge (pc' := 108) (tgt := 140) d_Mod_select_105 rfl (by decide) (fun _ => thr140 e i _ σ1 v1 ar1 hi F W K h71) (fun h => absurd ((nI_leI (by omega) (by omega)).mpr hjM) h)
      refine nq_icmp_ge (pc' := 108) (tgt := 140) d_Mod_select_105 rfl (by decide) (fun h => absurd ((nI_leI (by omega) (by omega)).mp h) hjM) (fun _ => ?_)
      refine nq_aload_n (pc' := 109) d_Mod_select_108 rfl rfl rfl ?_
      refine nq_getf (pc' := 112) d_Mod_select_109 rfl fl_Mod_63 (by first | assumption | exact nq_ga (by assumption) | exact nq_gs (by first | assumption | exact nq_ga (by assumption) | exact nq_gs (by first | assumption | exact nq_gs (by assumption) | exact nq_gn (by first | assumption | decide | omega | exact nq_ne1 (by assumption) (by assumption) | exact nq_ne2 (by assumption) (by assumption)) (by assumption) | exact nq_ga (by assumption)) | exact nq_gn (by first | assumption | decide | omega | exact nq_ne1 (by assumption) (by assumption) | exact nq_ne2 (by assumption) (by assumption)) (by first | assumption | exact nq_gs (by assumption) | exact nq_gn (by first | assumption | decide | omega | exact nq_ne1 (by assumption) (by assumption) | exact nq_ne2 (by assumption) (by assumption)) (by assumption) | exact nq_ga (by assumption))) | exact nq_gn (by first | assumption | decide | omega | exact nq_ne1 (by assumption) (by assumption) | exact nq_ne2 (by assumption) (by assumption)) (by first | assumption | exact nq_ga (by assumption) | exact nq_gs (by first | assumption | exact nq_gs (by assumption) | exact nq_gn (by first | assumption | decide | omega | exact nq_ne1 (by assumption) (by assumption) | exact nq_ne2 (by assumption) (by assumption)) (by assumption) | exact nq_ga (by assumption)) | exact nq_gn (by first | assumption | decide | omega | exact nq_ne1 (by assumption) (by assumption) | exact nq_ne2 (by assumption) (by assumption)) (by first | assumption | exact nq_gs (by assumption) | exact nq_gn (by first | assumption | decide | omega | exact nq_ne1 (by assumption) (by assumption) | exact nq_ne2 (by assumption) (by assumption)) (by assumption) | exact nq_ga (by assumption)))) rfl ?_
      rw [h71]
      refine nq_if_ne (pc' := 115) (tgt := 140) d_Mod_select_112 rfl (by decide) (fun _ => thr140 e i _ σ1 v1 ar1 hi F W K h71) (fun h => absurd h (mo_thr_pos e).2)
    induction m with
    | zero =>
      intro j a σ1 v1 ar1 hm hz F W K h71 hS h11
      rw [List.drop_of_length_le (by omega), List.nil_append]
      refine bound j σ1 v1 ar1 _ W K ?_
      refine nq_icmp_ge (pc' := 108) (tgt := 140) d_Mod_select_105 rfl (by decide) (fun _ => ?_) (fun h => absurd ((nI_leI (by omega) (by omega)).mpr (by omega)) h)
      exact kont a σ1 v1 ar1 _ (by omega) F W K h71 hS
    | succ m ih =>
      intro j a σ1 v1 ar1 hm hz F W K h71 hS h11
      have hjl : j < (mz_in r1 (sx_two tb s.2.2.1) (v 15)).length := by omega
      have w := W.1
      rw [List.drop_eq_getElem_cons hjl, List.cons_append]
      unfold sx_fold
      refine bound j σ1 v1 ar1 _ W K ?_
      refine nq_icmp_ge (pc' := 108) (tgt := 140) d_Mod_select_105 rfl (by decide) (fun h => absurd ((nI_leI (by omega) (by omega)).mp h) (by omega)) (fun _ => ?_)
      refine nq_aload_n (pc' := 109) d_Mod_select_108 rfl rfl rfl ?_
      refine nq_getf (pc' := 112) d_Mod_select_109 rfl fl_Mod_63 (by first | assumption | exact nq_ga (by assumption) | exact nq_gs (by first | assumption | exact nq_ga (by assumption) | exact nq_gs (by first | assumption | exact nq_gs (by assumption) | exact nq_gn (by first | assumption | decide | omega | exact nq_ne1 (by assumption) (by assumption) | exact nq_ne2 (by assumption) (by assumption)) (by assumption) | exact nq_ga (by assumption)) | exact nq_gn (by first | assumption | decide | omega | exact nq_ne1 (by assumption) (by assumption) | exact nq_ne2 (by assumption) (by assumption)) (by first | assumption | exact nq_gs (by assumption) | exact nq_gn (by first | assumption | decide | omega | exact nq_ne1 (by assumption) (by assumption) | exact nq_ne2 (by assumption) (by assumption)) (by assumption) | exact nq_ga (by assumption))) | exact nq_gn (by first | assumption | decide | omega | exact nq_ne1 (by assumption) (by assumption) | exact nq_ne2 (by assumption) (by assumption)) (by first | assumption | exact nq_ga (by assumption) | exact nq_gs (by first | assumption | exact nq_gs (by assumption) | exact nq_gn (by first | assumption | decide | omega | exact nq_ne1 (by assumption) (by assumption) | exact nq_ne2 (by assumption) (by assumption)) (by assumption) | exact nq_ga (by assumption)) | exact nq_gn (by first | assumption | decide | omega | exact nq_ne1 (by assumption) (by assumption) | exact nq_ne2 (by assumption) (by assumption)) (by first | assumption | exact nq_gs (by assumption) | exact nq_gn (by first | assumption | decide | omega | exact nq_ne1 (by assumption) (by assumption) | exact nq_ne2 (by assumption) (by assumption)) (by assumption) | exact nq_ga (by assumption)))) rfl ?_
      rw [h71]
      refine nq_if_ne (pc' := 115) (tgt := 140) d_Mod_select_112 rfl (by decide) (fun h => absurd rfl h) (fun _ => ?_)
      refine nq_iload (pc' := 117) d_Mod_select_115 rfl rfl ?_
      have col : ∀ (σ2 : nq_S) (ar2 : mo_Ar), mo_fr σ σ2 → mo_W σ2 v1 ar2 → mz_k v ar v1 ar2 → ST v1 ar2 a → mn_E v1 ar2 s (mz_in r1 (sx_two tb s.2.2.1) (v 15))[j] → (ar2 11 0 = r1.1 ∧ ar2 11 1 = r1.2.1 ∧ ar2 11 2 = r1.2.2) → nq_J G (d + 1) 0 0 m_Mod_select 129 [some (.ref 270), some (.int (nI h)), some (.int (nI s.1)), some (.int (nI s.2.1)), some (.int uv), some (.int (if two then 1 else 0)), some (.int (nI i)), some (.int (nI j))] [] σ2 (Q (match st (mz_in r1 (sx_two tb s.2.2.1) (v 15))[j] a with
          | .inl e => .inl e
          | .inr a' => sx_fold st ((mz_in r1 (sx_two tb s.2.2.1) (v 15)).drop (j + 1) ++ rest) a')) := by
        intro σ2 ar2 F2 W2 K2 S2 hE h112
        have w2 := W2.1
        have hcc := hcol σ2 v1 ar2 _ a W2 K2 h71 hE S2 (by omega)
        refine nq_aload_n (pc' := 130) d_Mod_select_129 rfl rfl rfl ?_
        refine nq_iload_n (pc' := 131) d_Mod_select_130 rfl rfl rfl ?_
        refine nq_callV (pc' := 134) d_Mod_select_131 rfl cl_Mod_174 rfl (by first | assumption | exact nq_ga (by assumption) | exact nq_gs (by first | assumption | exact nq_ga (by assumption) | exact nq_gs (by first | assumption | exact nq_gs (by assumption) | exact nq_gn (by first | assumption | decide | omega | exact nq_ne1 (by assumption) (by assumption) | exact nq_ne2 (by assumption) (by assumption)) (by assumption) | exact nq_ga (by assumption)) | exact nq_gn (by first | assumption | decide | omega | exact nq_ne1 (by assumption) (by assumption) | exact nq_ne2 (by assumption) (by assumption)) (by first | assumption | exact nq_gs (by assumption) | exact nq_gn (by first | assumption | decide | omega | exact nq_ne1 (by assumption) (by assumption) | exact nq_ne2 (by assumption) (by assumption)) (by assumption) | exact nq_ga (by assumption))) | exact nq_gn (by first | assumption | decide | omega | exact nq_ne1 (by assumption) (by assumption) | exact nq_ne2 (by assumption) (by assumption)) (by first | assumption | exact nq_ga (by assumption) | exact nq_gs (by first | assumption | exact nq_gs (by assumption) | exact nq_gn (by first | assumption | decide | omega | exact nq_ne1 (by assumption) (by assumption) | exact nq_ne2 (by assumption) (by assumption)) (by assumption) | exact nq_ga (by assumption)) | exact nq_gn (by first | assumption | decide | omega | exact nq_ne1 (by assumption) (by assumption) | exact nq_ne2 (by assumption) (by assumption)) (by first | assumption | exact nq_gs (by assumption) | exact nq_gn (by first | assumption | decide | omega | exact nq_ne1 (by assumption) (by assumption) | exact nq_ne2 (by assumption) (by assumption)) (by assumption) | exact nq_ga (by assumption)))) rfl rfl (kc := 0) (ks := 0) (mc' := 0) (ms' := 0) (As := [.int (nI h)]) (rest := []) rfl rfl (by decide) hcc (fun E σ3 hq => by cases hq.1) (fun z σ3 hq => ?_)
        obtain ⟨e1, f3, v3, ar3, W3, K3, hq⟩ := hq
        cases e1
        have K3' := K2.tr K3.z
        cases hx : st (mz_in r1 (sx_two tb s.2.2.1) (v 15))[j] a with
        | inl e =>
          rw [hx] at hq
          refine nq_iinc (pc' := 137) d_Mod_select_134 rfl rfl (v := nI (j + 1)) (nI_1 j) (by decide) rfl ?_
          refine nq_goto (tgt := 87) d_Mod_select_137 (by decide) ?_
          exact thr87 e (j + 1) σ3 v3 ar3 (by omega) (F2.tr f3) W3 K3' hq
        | inr a' =>
          rw [hx] at hq
          refine nq_iinc (pc' := 137) d_Mod_select_134 rfl rfl (v := nI (j + 1)) (nI_1 j) (by decide) rfl ?_
          refine nq_goto (tgt := 87) d_Mod_select_137 (by decide) ?_
          have e11 : ar3 11 = ar2 11 := K3.2 11 (by decide) (by decide) (by decide)
          exact ih (j + 1) a' σ3 v3 ar3 (by omega) (by have := hsz _ _ _ hx; omega) (F2.tr f3) W3 K3' hq.1 hq.2 (by rw [e11]; exact h112)
      have hv15 : v1 15 = v 15 := K.1 15 (by decide) (by decide) (by decide) (by decide)
      cases ht2 : two with
      | false =>
        rw [ht2] at col
        refine nq_if_eq (pc' := 120) (tgt := 129) d_Mod_select_117 rfl (by decide) (fun _ => ?_) (fun h => absurd rfl h)
        refine col σ1 ar1 F W K hS ?_ h11
        have hg : (mz_in r1 (sx_two tb s.2.2.1) (v 15))[j] = sx_env r1 sx_row0 (v 15) := by
          have e : mz_in r1 (sx_two tb s.2.2.1) (v 15) = [sx_env r1 sx_row0 (v 15)] := by
            unfold mz_in sx_two
            rw [if_pos (hu3 ht2)]
          have hj0 : j = 0 := by
            rw [e] at hjl
            simp at hjl
            omega
          subst hj0
          simp only [e]
          rfl
        rw [hg]
        refine ⟨fun k hk => ?_, hv15⟩
        rw [hnc, ht2] at hk
        have : k = 0 ∨ k = 1 ∨ k = 2 := by
          simp at hk
          omega
        rcases this with rfl | rfl | rfl
        · exact h11.1
        · exact h11.2.1
        · exact h11.2.2
      | true =>
        rw [ht2] at col
        have hu := hu2 ht2
        have huv' := huv ht2
        have e : mz_in r1 (sx_two tb s.2.2.1) (v 15) = (tb.getD s.2.2.1 []).map (fun r2 => sx_env r1 r2 (v 15)) := by
          unfold mz_in sx_two
          rw [if_neg (by omega)]
        have hjl2 : j < (tb.getD s.2.2.1 []).length := by
          rw [e, List.length_map] at hjl
          exact hjl
        have hg : (mz_in r1 (sx_two tb s.2.2.1) (v 15))[j] = sx_env r1 (tb.getD s.2.2.1 [])[j] (v 15) := by
          simp only [e, List.getElem_map]
        obtain ⟨q1, q2, q3⟩ := hT.2 s.2.2.1 hu
        have hr2 := q3 j _ (List.getElem?_eq_getElem hjl2)
        generalize (tb.getD s.2.2.1 [])[j] = r2 at hg hr2
        have e2 : ar1 2 = ar 2 := K.2 2 (by decide) (by decide) (by decide) (by decide)
        refine nq_if_eq (pc' := 120) (tgt := 129) d_Mod_select_117 rfl (by decide) (fun h => absurd h (by decide)) (fun _ => ?_)
        refine nq_aload_n (pc' := 121) d_Mod_select_120 rfl rfl rfl ?_
        refine nq_iload (pc' := 123) d_Mod_select_121 rfl rfl ?_
        refine nq_iload (pc' := 125) d_Mod_select_123 rfl rfl ?_
        refine nq_iconst (v := 3) (pc' := 126) d_Mod_select_125 rfl (by decide) ?_
        rw [huv']
        refine nq_callVR (pc' := 129) d_Mod_select_126 rfl cl_Mod_170 rfl (by first | assumption | exact nq_ga (by assumption) | exact nq_gs (by first | assumption | exact nq_ga (by assumption) | exact nq_gs (by first | assumption | exact nq_gs (by assumption) | exact nq_gn (by first | assumption | decide | omega | exact nq_ne1 (by assumption) (by assumption) | exact nq_ne2 (by assumption) (by assumption)) (by assumption) | exact nq_ga (by assumption)) | exact nq_gn (by first | assumption | decide | omega | exact nq_ne1 (by assumption) (by assumption) | exact nq_ne2 (by assumption) (by assumption)) (by first | assumption | exact nq_gs (by assumption) | exact nq_gn (by first | assumption | decide | omega | exact nq_ne1 (by assumption) (by assumption) | exact nq_ne2 (by assumption) (by assumption)) (by assumption) | exact nq_ga (by assumption))) | exact nq_gn (by first | assumption | decide | omega | exact nq_ne1 (by assumption) (by assumption) | exact nq_ne2 (by assumption) (by assumption)) (by first | assumption | exact nq_ga (by assumption) | exact nq_gs (by first | assumption | exact nq_gs (by assumption) | exact nq_gn (by first | assumption | decide | omega | exact nq_ne1 (by assumption) (by assumption) | exact nq_ne2 (by assumption) (by assumption)) (by assumption) | exact nq_ga (by assumption)) | exact nq_gn (by first | assumption | decide | omega | exact nq_ne1 (by assumption) (by assumption) | exact nq_ne2 (by assumption) (by assumption)) (by first | assumption | exact nq_gs (by assumption) | exact nq_gn (by first | assumption | decide | omega | exact nq_ne1 (by assumption) (by assumption) | exact nq_ne2 (by assumption) (by assumption)) (by assumption) | exact nq_ga (by assumption)))) rfl rfl (kc := 0) (ks := 0) (mc' := 0) (ms' := 0) (As := [.int (nI s.2.2.1), .int (nI j), .int (nI 3)]) (rest := []) rfl rfl (by decide) (k_Mod_stand (T := []) (r := r2) (b := 3) W hu (by omega) (.inr rfl) (by rw [e2]; exact hr2)) ?_
        rw [← huv']
        refine col _ _ (F.tr (mo_fr.st (by decide))) W.a11 (K.tr mz_k.a11) (hst _ _ _ _ hS) ?_ ?_
        · rw [hg]
          refine ⟨fun k hk => ?_, hv15⟩
          rw [hnc, ht2] at hk
          rw [ua_at]
          have : k = 0 ∨ k = 1 ∨ k = 2 ∨ k = 3 ∨ k = 4 ∨ k = 5 := by
            simp at hk
            omega
          rcases this with rfl | rfl | rfl | rfl | rfl | rfl
          · exact h11.1
          · exact h11.2.1
          · exact h11.2.2
          · rfl
          · rfl
          · rfl
        · rw [ua_at]
          exact h11
  have outer : ∀ (m i : Nat) (a : α) (σ1 : nq_S) (v1 : Nat → Int32) (ar1 : mo_Ar) (l7 : Option Value), m + i = T1.length → sz a ≤ i * 20 → mo_fr σ σ1 → mo_W σ1 v1 ar1 → mz_k v ar v1 ar1 → v1 7 = 0 → ST v1 ar1 a → nq_J G (d + 1) 0 0 m_Mod_select 58 [some (.ref 270), some (.int (nI h)), some (.int (nI s.1)), some (.int (nI s.2.1)), some (.int uv), some (.int (if two then 1 else 0)), some (.int (nI i)), l7] [] σ1 (Q (sx_fold st ((T1.drop i).flatMap (fun r => mz_in r (sx_two tb s.2.2.1) (v 15))) a)) := by
    intro m
    induction m with
    | zero =>
      intro i a σ1 v1 ar1 l7 hm hz F W K h71 hS
      have w := W.1
      have c3 : σ1[274]? = some (.inl (0, 3, .inl (ar 3))) := by rw [← K.2 3 (by decide) (by decide) (by decide) (by decide)]; exact W.2.2.2.2.1
      rw [List.drop_of_length_le (by omega)]
      refine nq_iload (pc' := 60) d_Mod_select_58 rfl rfl ?_
      refine nq_aload_n (pc' := 61) d_Mod_select_60 rfl rfl rfl ?_
      refine nq_getf (pc' := 64) d_Mod_select_61 rfl fl_Mod_19 (by first | assumption | exact nq_ga (by assumption) | exact nq_gs (by first | assumption | exact nq_ga (by assumption) | exact nq_gs (by first | assumption | exact nq_gs (by assumption) | exact nq_gn (by first | assumption | decide | omega | exact nq_ne1 (by assumption) (by assumption) | exact nq_ne2 (by assumption) (by assumption)) (by assumption) | exact nq_ga (by assumption)) | exact nq_gn (by first | assumption | decide | omega | exact nq_ne1 (by assumption) (by assumption) | exact nq_ne2 (by assumption) (by assumption)) (by first | assumption | exact nq_gs (by assumption) | exact nq_gn (by first | assumption | decide | omega | exact nq_ne1 (by assumption) (by assumption) | exact nq_ne2 (by assumption) (by assumption)) (by assumption) | exact nq_ga (by assumption))) | exact nq_gn (by first | assumption | decide | omega | exact nq_ne1 (by assumption) (by assumption) | exact nq_ne2 (by assumption) (by assumption)) (by first | assumption | exact nq_ga (by assumption) | exact nq_gs (by first | assumption | exact nq_gs (by assumption) | exact nq_gn (by first | assumption | decide | omega | exact nq_ne1 (by assumption) (by assumption) | exact nq_ne2 (by assumption) (by assumption)) (by assumption) | exact nq_ga (by assumption)) | exact nq_gn (by first | assumption | decide | omega | exact nq_ne1 (by assumption) (by assumption) | exact nq_ne2 (by assumption) (by assumption)) (by first | assumption | exact nq_gs (by assumption) | exact nq_gn (by first | assumption | decide | omega | exact nq_ne1 (by assumption) (by assumption) | exact nq_ne2 (by assumption) (by assumption)) (by assumption) | exact nq_ga (by assumption)))) rfl ?_
      refine nq_iload_n (pc' := 65) d_Mod_select_64 rfl rfl rfl ?_
      refine nq_iald (pc' := 66) d_Mod_select_65 rfl (by first | assumption | exact nq_ga (by assumption) | exact nq_gs (by first | assumption | exact nq_ga (by assumption) | exact nq_gs (by first | assumption | exact nq_gs (by assumption) | exact nq_gn (by first | assumption | decide | omega | exact nq_ne1 (by assumption) (by assumption) | exact nq_ne2 (by assumption) (by assumption)) (by assumption) | exact nq_ga (by assumption)) | exact nq_gn (by first | assumption | decide | omega | exact nq_ne1 (by assumption) (by assumption) | exact nq_ne2 (by assumption) (by assumption)) (by first | assumption | exact nq_gs (by assumption) | exact nq_gn (by first | assumption | decide | omega | exact nq_ne1 (by assumption) (by assumption) | exact nq_ne2 (by assumption) (by assumption)) (by assumption) | exact nq_ga (by assumption))) | exact nq_gn (by first | assumption | decide | omega | exact nq_ne1 (by assumption) (by assumption) | exact nq_ne2 (by assumption) (by assumption)) (by first | assumption | exact nq_ga (by assumption) | exact nq_gs (by first | assumption | exact nq_gs (by assumption) | exact nq_gn (by first | assumption | decide | omega | exact nq_ne1 (by assumption) (by assumption) | exact nq_ne2 (by assumption) (by assumption)) (by assumption) | exact nq_ga (by assumption)) | exact nq_gn (by first | assumption | decide | omega | exact nq_ne1 (by assumption) (by assumption) | exact nq_ne2 (by assumption) (by assumption)) (by first | assumption | exact nq_gs (by assumption) | exact nq_gn (by first | assumption | decide | omega | exact nq_ne1 (by assumption) (by assumption) | exact nq_ne2 (by assumption) (by assumption)) (by assumption) | exact nq_ga (by assumption)))) rfl (j := s.2.1) rfl (by omega) (by decide) ?_
      rw [b2]
      refine nq_icmp_ge (pc' := 69) (tgt := 146) d_Mod_select_66 rfl (by decide) (fun _ => ?_) (fun h => absurd ((nI_leI (by omega) (by omega)).mpr (by omega)) h)
      exact hfin σ1 v1 ar1 a _ _ F W K h71 hS
    | succ m ih =>
      intro i a σ1 v1 ar1 l7 hm hz F W K h71 hS
      have hil : i < T1.length := by omega
      have w := W.1
      have c3 : σ1[274]? = some (.inl (0, 3, .inl (ar 3))) := by rw [← K.2 3 (by decide) (by decide) (by decide) (by decide)]; exact W.2.2.2.2.1
      have hr := b3 i _ (List.getElem?_eq_getElem hil)
      rw [List.drop_eq_getElem_cons hil, List.flatMap_cons]
      generalize T1[i] = r1 at hr ⊢
      have e2 : ar1 2 = ar 2 := K.2 2 (by decide) (by decide) (by decide) (by decide)
      have hM20 : (mz_in r1 (sx_two tb s.2.2.1) (v 15)).length ≤ 20 := by
        unfold mz_in sx_two
        cases ht2 : two with
        | true =>
          rw [if_neg (by have := hu2 ht2; omega)]
          simp only [List.length_map]
          exact (hT.2 s.2.2.1 (hu2 ht2)).1
        | false =>
          rw [if_pos (hu3 ht2)]
          simp
      refine nq_iload (pc' := 60) d_Mod_select_58 rfl rfl ?_
      refine nq_aload_n (pc' := 61) d_Mod_select_60 rfl rfl rfl ?_
      refine nq_getf (pc' := 64) d_Mod_select_61 rfl fl_Mod_19 (by first | assumption | exact nq_ga (by assumption) | exact nq_gs (by first | assumption | exact nq_ga (by assumption) | exact nq_gs (by first | assumption | exact nq_gs (by assumption) | exact nq_gn (by first | assumption | decide | omega | exact nq_ne1 (by assumption) (by assumption) | exact nq_ne2 (by assumption) (by assumption)) (by assumption) | exact nq_ga (by assumption)) | exact nq_gn (by first | assumption | decide | omega | exact nq_ne1 (by assumption) (by assumption) | exact nq_ne2 (by assumption) (by assumption)) (by first | assumption | exact nq_gs (by assumption) | exact nq_gn (by first | assumption | decide | omega | exact nq_ne1 (by assumption) (by assumption) | exact nq_ne2 (by assumption) (by assumption)) (by assumption) | exact nq_ga (by assumption))) | exact nq_gn (by first | assumption | decide | omega | exact nq_ne1 (by assumption) (by assumption) | exact nq_ne2 (by assumption) (by assumption)) (by first | assumption | exact nq_ga (by assumption) | exact nq_gs (by first | assumption | exact nq_gs (by assumption) | exact nq_gn (by first | assumption | decide | omega | exact nq_ne1 (by assumption) (by assumption) | exact nq_ne2 (by assumption) (by assumption)) (by assumption) | exact nq_ga (by assumption)) | exact nq_gn (by first | assumption | decide | omega | exact nq_ne1 (by assumption) (by assumption) | exact nq_ne2 (by assumption) (by assumption)) (by first | assumption | exact nq_gs (by assumption) | exact nq_gn (by first | assumption | decide | omega | exact nq_ne1 (by assumption) (by assumption) | exact nq_ne2 (by assumption) (by assumption)) (by assumption) | exact nq_ga (by assumption)))) rfl ?_
      refine nq_iload_n (pc' := 65) d_Mod_select_64 rfl rfl rfl ?_
      refine nq_iald (pc' := 66) d_Mod_select_65 rfl (by first | assumption | exact nq_ga (by assumption) | exact nq_gs (by first | assumption | exact nq_ga (by assumption) | exact nq_gs (by first | assumption | exact nq_gs (by assumption) | exact nq_gn (by first | assumption | decide | omega | exact nq_ne1 (by assumption) (by assumption) | exact nq_ne2 (by assumption) (by assumption)) (by assumption) | exact nq_ga (by assumption)) | exact nq_gn (by first | assumption | decide | omega | exact nq_ne1 (by assumption) (by assumption) | exact nq_ne2 (by assumption) (by assumption)) (by first | assumption | exact nq_gs (by assumption) | exact nq_gn (by first | assumption | decide | omega | exact nq_ne1 (by assumption) (by assumption) | exact nq_ne2 (by assumption) (by assumption)) (by assumption) | exact nq_ga (by assumption))) | exact nq_gn (by first | assumption | decide | omega | exact nq_ne1 (by assumption) (by assumption) | exact nq_ne2 (by assumption) (by assumption)) (by first | assumption | exact nq_ga (by assumption) | exact nq_gs (by first | assumption | exact nq_gs (by assumption) | exact nq_gn (by first | assumption | decide | omega | exact nq_ne1 (by assumption) (by assumption) | exact nq_ne2 (by assumption) (by assumption)) (by assumption) | exact nq_ga (by assumption)) | exact nq_gn (by first | assumption | decide | omega | exact nq_ne1 (by assumption) (by assumption) | exact nq_ne2 (by assumption) (by assumption)) (by first | assumption | exact nq_gs (by assumption) | exact nq_gn (by first | assumption | decide | omega | exact nq_ne1 (by assumption) (by assumption) | exact nq_ne2 (by assumption) (by assumption)) (by assumption) | exact nq_ga (by assumption)))) rfl (j := s.2.1) rfl (by omega) (by decide) ?_
      rw [b2]
      refine nq_icmp_ge (pc' := 69) (tgt := 146) d_Mod_select_66 rfl (by decide) (fun h => absurd ((nI_leI (by omega) (by omega)).mp h) (by omega)) (fun _ => ?_)
      refine nq_aload_n (pc' := 70) d_Mod_select_69 rfl rfl rfl ?_
      refine nq_getf (pc' := 73) d_Mod_select_70 rfl fl_Mod_63 (by first | assumption | exact nq_ga (by assumption) | exact nq_gs (by first | assumption | exact nq_ga (by assumption) | exact nq_gs (by first | assumption | exact nq_gs (by assumption) | exact nq_gn (by first | assumption | decide | omega | exact nq_ne1 (by assumption) (by assumption) | exact nq_ne2 (by assumption) (by assumption)) (by assumption) | exact nq_ga (by assumption)) | exact nq_gn (by first | assumption | decide | omega | exact nq_ne1 (by assumption) (by assumption) | exact nq_ne2 (by assumption) (by assumption)) (by first | assumption | exact nq_gs (by assumption) | exact nq_gn (by first | assumption | decide | omega | exact nq_ne1 (by assumption) (by assumption) | exact nq_ne2 (by assumption) (by assumption)) (by assumption) | exact nq_ga (by assumption))) | exact nq_gn (by first | assumption | decide | omega | exact nq_ne1 (by assumption) (by assumption) | exact nq_ne2 (by assumption) (by assumption)) (by first | assumption | exact nq_ga (by assumption) | exact nq_gs (by first | assumption | exact nq_gs (by assumption) | exact nq_gn (by first | assumption | decide | omega | exact nq_ne1 (by assumption) (by assumption) | exact nq_ne2 (by assumption) (by assumption)) (by assumption) | exact nq_ga (by assumption)) | exact nq_gn (by first | assumption | decide | omega | exact nq_ne1 (by assumption) (by assumption) | exact nq_ne2 (by assumption) (by assumption)) (by first | assumption | exact nq_gs (by assumption) | exact nq_gn (by first | assumption | decide | omega | exact nq_ne1 (by assumption) (by assumption) | exact nq_ne2 (by assumption) (by assumption)) (by assumption) | exact nq_ga (by assumption)))) rfl ?_
      rw [h71]
      refine nq_if_ne (pc' := 76) (tgt := 146) d_Mod_select_73 rfl (by decide) (fun h => absurd rfl h) (fun _ => ?_)
      refine nq_aload_n (pc' := 77) d_Mod_select_76 rfl rfl rfl ?_
      refine nq_iload_n (pc' := 78) d_Mod_select_77 rfl rfl rfl ?_
      refine nq_iload (pc' := 80) d_Mod_select_78 rfl rfl ?_
      refine nq_iconst (v := 0) (pc' := 81) d_Mod_select_80 rfl (by decide) ?_
      refine nq_callVR (pc' := 84) d_Mod_select_81 rfl cl_Mod_170 rfl (by first | assumption | exact nq_ga (by assumption) | exact nq_gs (by first | assumption | exact nq_ga (by assumption) | exact nq_gs (by first | assumption | exact nq_gs (by assumption) | exact nq_gn (by first | assumption | decide | omega | exact nq_ne1 (by assumption) (by assumption) | exact nq_ne2 (by assumption) (by assumption)) (by assumption) | exact nq_ga (by assumption)) | exact nq_gn (by first | assumption | decide | omega | exact nq_ne1 (by assumption) (by assumption) | exact nq_ne2 (by assumption) (by assumption)) (by first | assumption | exact nq_gs (by assumption) | exact nq_gn (by first | assumption | decide | omega | exact nq_ne1 (by assumption) (by assumption) | exact nq_ne2 (by assumption) (by assumption)) (by assumption) | exact nq_ga (by assumption))) | exact nq_gn (by first | assumption | decide | omega | exact nq_ne1 (by assumption) (by assumption) | exact nq_ne2 (by assumption) (by assumption)) (by first | assumption | exact nq_ga (by assumption) | exact nq_gs (by first | assumption | exact nq_gs (by assumption) | exact nq_gn (by first | assumption | decide | omega | exact nq_ne1 (by assumption) (by assumption) | exact nq_ne2 (by assumption) (by assumption)) (by assumption) | exact nq_ga (by assumption)) | exact nq_gn (by first | assumption | decide | omega | exact nq_ne1 (by assumption) (by assumption) | exact nq_ne2 (by assumption) (by assumption)) (by first | assumption | exact nq_gs (by assumption) | exact nq_gn (by first | assumption | decide | omega | exact nq_ne1 (by assumption) (by assumption) | exact nq_ne2 (by assumption) (by assumption)) (by assumption) | exact nq_ga (by assumption)))) rfl rfl (kc := 0) (ks := 0) (mc' := 0) (ms' := 0) (As := [.int (nI s.2.1), .int (nI i), .int (nI 0)]) (rest := []) rfl rfl (by decide) (k_Mod_stand (T := []) (r := r1) (b := 0) W ht (by omega) (.inl rfl) (by rw [e2]; exact hr)) ?_
      refine nq_iconst (v := 0) (pc' := 85) d_Mod_select_84 rfl (by decide) ?_
      refine nq_istore (pc' := 87) d_Mod_select_85 rfl (by decide) rfl ?_
      rw [← List.drop_zero (l := mz_in r1 (sx_two tb s.2.2.1) (v 15))]
      refine inner i r1 ((T1.drop (i + 1)).flatMap (fun r => mz_in r (sx_two tb s.2.2.1) (v 15))) (mz_in r1 (sx_two tb s.2.2.1) (v 15)).length (by omega) hM20 rfl (fun a2 σ2 v2 ar2 l72 hz2 F2 W2 K2 h72 S2 => by
        refine nq_iinc (pc' := 143) d_Mod_select_140 rfl rfl (v := nI (i + 1)) (nI_1 i) (by decide) rfl ?_
        refine nq_goto (tgt := 58) d_Mod_select_143 (by decide) ?_
        exact ih (i + 1) a2 σ2 v2 ar2 l72 (by omega) (by omega) F2 W2 K2 h72 S2) (mz_in r1 (sx_two tb s.2.2.1) (v 15)).length 0 a _ v1 _ (by omega) (by omega) (F.tr (mo_fr.st (by decide))) W.a11 (K.tr mz_k.a11) h71 (hst _ _ _ _ hS) ?_
      rw [ua_at]
      exact ⟨rfl, rfl, rfl⟩
  have := outer T1.length 0 a0 σ v ar none (by omega) (by omega) mo_fr.rf hW mz_k.rf h7 hS0
  rw [List.drop_zero] at this
  exact this
end MZ
