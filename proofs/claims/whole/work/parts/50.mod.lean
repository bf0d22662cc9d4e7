/-! THE OTHER STORE: its world -/
abbrev mo_F (v : Nat → Int32) : nq_C := .inr (7, [.ref 271, .ref 272, .ref 273, .ref 274, .ref 275, .ref 276, .ref 277, .int (v 0), .int (v 1), .int (v 2), .int (v 3), .int (v 4), .int (v 5), .int (v 6), .int (v 7), .int (v 8), .int (v 9), .int (v 10), .int (v 11), .int (v 12), .ref 278, .ref 279, .ref 280, .ref 281, .ref 282, .ref 283, .ref 284, .ref 285, .ref 286, .int (v 13), .int (v 14), .int (v 15), .int (v 16)])
abbrev mo_Ar : Type := Nat → Nat → Int32
def mo_W (σ : nq_S) (v : Nat → Int32) (ar : mo_Ar) : Prop := σ[270]? = some (mo_F v) ∧ σ[271]? = some (.inl (0, 48, .inl (ar 0))) ∧ σ[272]? = some (.inl (0, 2000, .inl (ar 1))) ∧ σ[273]? = some (.inl (0, 180, .inl (ar 2))) ∧ σ[274]? = some (.inl (0, 3, .inl (ar 3))) ∧ σ[275]? = some (.inl (0, 180, .inl (ar 4))) ∧ σ[276]? = some (.inl (0, 3, .inl (ar 5))) ∧ σ[277]? = some (.inl (1, 5, .inl (ar 6))) ∧ σ[278]? = some (.inl (0, 60, .inl (ar 7))) ∧ σ[279]? = some (.inl (0, 60, .inl (ar 8))) ∧ σ[280]? = some (.inl (0, 8, .inl (ar 9))) ∧ σ[281]? = some (.inl (0, 60, .inl (ar 10))) ∧ σ[282]? = some (.inl (0, 6, .inl (ar 11))) ∧ σ[283]? = some (.inl (0, 123, .inl (ar 12))) ∧ σ[284]? = some (.inl (0, 41, .inl (ar 13))) ∧ σ[285]? = some (.inl (0, 20, .inl (ar 14))) ∧ σ[286]? = some (.inl (0, 20, .inl (ar 15)))
def ua (ar : mo_Ar) (k : Nat) (f : Nat → Int32) : mo_Ar := fun j => if j = k then f else ar j
theorem ua_at {ar : mo_Ar} {k : Nat} {f : Nat → Int32} : ua ar k f k = f := if_pos rfl
theorem ua_ne {ar : mo_Ar} {k j : Nat} {f : Nat → Int32} (h : j ≠ k) : ua ar k f j = ar j := if_neg h
def mo_fr (σ σ' : nq_S) : Prop := σ'.length = σ.length ∧ ∀ i, (i < 270 ∨ 287 ≤ i) → σ'[i]? = σ[i]?
theorem mo_fr.rf {σ : nq_S} : mo_fr σ σ := ⟨rfl, fun _ _ => rfl⟩
theorem mo_fr.tr {σ σ1 σ2 : nq_S} (h : mo_fr σ σ1) (k : mo_fr σ1 σ2) : mo_fr σ σ2 := ⟨k.1.trans h.1, fun i hi => (k.2 i hi).trans (h.2 i hi)⟩
theorem mo_fr.st {σ : nq_S} {j : Nat} {x : nq_C} (hj : 270 ≤ j ∧ j < 287) : mo_fr σ (σ.set j x) := ⟨List.length_set .., fun i hi => List.getElem?_set_ne (by omega)⟩
section MW
variable {σ : nq_S} {v v' : Nat → Int32} {ar : mo_Ar} {f : Nat → Int32}
theorem mo_W.fi (h : mo_W σ v ar) : mo_W (σ.set 270 (mo_F v')) v' ar := by
  obtain ⟨w, a0, a1, a2, a3, a4, a5, a6, a7, a8, a9, a10, a11, a12, a13, a14, a15⟩ := h
  exact ⟨nq_gs w, nq_gn (by decide) a0, nq_gn (by decide) a1, nq_gn (by decide) a2, nq_gn (by decide) a3, nq_gn (by decide) a4, nq_gn (by decide) a5, nq_gn (by decide) a6, nq_gn (by decide) a7, nq_gn (by decide) a8, nq_gn (by decide) a9, nq_gn (by decide) a10, nq_gn (by decide) a11, nq_gn (by decide) a12, nq_gn (by decide) a13, nq_gn (by decide) a14, nq_gn (by decide) a15⟩
theorem mo_W.a0 (h : mo_W σ v ar) : mo_W (σ.set 271 (.inl (0, 48, .inl f))) v (ua ar 0 f) := by
  obtain ⟨w, a0, a1, a2, a3, a4, a5, a6, a7, a8, a9, a10, a11, a12, a13, a14, a15⟩ := h
  exact ⟨nq_gn (by decide) w, nq_gs a0, nq_gn (by decide) a1, nq_gn (by decide) a2, nq_gn (by decide) a3, nq_gn (by decide) a4, nq_gn (by decide) a5, nq_gn (by decide) a6, nq_gn (by decide) a7, nq_gn (by decide) a8, nq_gn (by decide) a9, nq_gn (by decide) a10, nq_gn (by decide) a11, nq_gn (by decide) a12, nq_gn (by decide) a13, nq_gn (by decide) a14, nq_gn (by decide) a15⟩
theorem mo_W.a1 (h : mo_W σ v ar) : mo_W (σ.set 272 (.inl (0, 2000, .inl f))) v (ua ar 1 f) := by
  obtain ⟨w, a0, a1, a2, a3, a4, a5, a6, a7, a8, a9, a10, a11, a12, a13, a14, a15⟩ := h
  exact ⟨nq_gn (by decide) w, nq_gn (by decide) a0, nq_gs a1, nq_gn (by decide) a2, nq_gn (by decide) a3, nq_gn (by decide) a4, nq_gn (by decide) a5, nq_gn (by decide) a6, nq_gn (by decide) a7, nq_gn (by decide) a8, nq_gn (by decide) a9, nq_gn (by decide) a10, nq_gn (by decide) a11, nq_gn (by decide) a12, nq_gn (by decide) a13, nq_gn (by decide) a14, nq_gn (by decide) a15⟩
theorem mo_W.a2 (h : mo_W σ v ar) : mo_W (σ.set 273 (.inl (0, 180, .inl f))) v (ua ar 2 f) := by
  obtain ⟨w, a0, a1, a2, a3, a4, a5, a6, a7, a8, a9, a10, a11, a12, a13, a14, a15⟩ := h
  exact ⟨nq_gn (by decide) w, nq_gn (by decide) a0, nq_gn (by decide) a1, nq_gs a2, nq_gn (by decide) a3, nq_gn (by decide) a4, nq_gn (by decide) a5, nq_gn (by decide) a6, nq_gn (by decide) a7, nq_gn (by decide) a8, nq_gn (by decide) a9, nq_gn (by decide) a10, nq_gn (by decide) a11, nq_gn (by decide) a12, nq_gn (by decide) a13, nq_gn (by decide) a14, nq_gn (by decide) a15⟩
theorem mo_W.a3 (h : mo_W σ v ar) : mo_W (σ.set 274 (.inl (0, 3, .inl f))) v (ua ar 3 f) := by
  obtain ⟨w, a0, a1, a2, a3, a4, a5, a6, a7, a8, a9, a10, a11, a12, a13, a14, a15⟩ := h
  exact ⟨nq_gn (by decide) w, nq_gn (by decide) a0, nq_gn (by decide) a1, nq_gn (by decide) a2, nq_gs a3, nq_gn (by decide) a4, nq_gn (by decide) a5, nq_gn (by decide) a6, nq_gn (by decide) a7, nq_gn (by decide) a8, nq_gn (by decide) a9, nq_gn (by decide) a10, nq_gn (by decide) a11, nq_gn (by decide) a12, nq_gn (by decide) a13, nq_gn (by decide) a14, nq_gn (by decide) a15⟩
theorem mo_W.a4 (h : mo_W σ v ar) : mo_W (σ.set 275 (.inl (0, 180, .inl f))) v (ua ar 4 f) := by
  obtain ⟨w, a0, a1, a2, a3, a4, a5, a6, a7, a8, a9, a10, a11, a12, a13, a14, a15⟩ := h
  exact ⟨nq_gn (by decide) w, nq_gn (by decide) a0, nq_gn (by decide) a1, nq_gn (by decide) a2, nq_gn (by decide) a3, nq_gs a4, nq_gn (by decide) a5, nq_gn (by decide) a6, nq_gn (by decide) a7, nq_gn (by decide) a8, nq_gn (by decide) a9, nq_gn (by decide) a10, nq_gn (by decide) a11, nq_gn (by decide) a12, nq_gn (by decide) a13, nq_gn (by decide) a14, nq_gn (by decide) a15⟩
theorem mo_W.a5 (h : mo_W σ v ar) : mo_W (σ.set 276 (.inl (0, 3, .inl f))) v (ua ar 5 f) := by
  obtain ⟨w, a0, a1, a2, a3, a4, a5, a6, a7, a8, a9, a10, a11, a12, a13, a14, a15⟩ := h
  exact ⟨nq_gn (by decide) w, nq_gn (by decide) a0, nq_gn (by decide) a1, nq_gn (by decide) a2, nq_gn (by decide) a3, nq_gn (by decide) a4, nq_gs a5, nq_gn (by decide) a6, nq_gn (by decide) a7, nq_gn (by decide) a8, nq_gn (by decide) a9, nq_gn (by decide) a10, nq_gn (by decide) a11, nq_gn (by decide) a12, nq_gn (by decide) a13, nq_gn (by decide) a14, nq_gn (by decide) a15⟩
theorem mo_W.a6 (h : mo_W σ v ar) : mo_W (σ.set 277 (.inl (1, 5, .inl f))) v (ua ar 6 f) := by
  obtain ⟨w, a0, a1, a2, a3, a4, a5, a6, a7, a8, a9, a10, a11, a12, a13, a14, a15⟩ := h
  exact ⟨nq_gn (by decide) w, nq_gn (by decide) a0, nq_gn (by decide) a1, nq_gn (by decide) a2, nq_gn (by decide) a3, nq_gn (by decide) a4, nq_gn (by decide) a5, nq_gs a6, nq_gn (by decide) a7, nq_gn (by decide) a8, nq_gn (by decide) a9, nq_gn (by decide) a10, nq_gn (by decide) a11, nq_gn (by decide) a12, nq_gn (by decide) a13, nq_gn (by decide) a14, nq_gn (by decide) a15⟩
theorem mo_W.a7 (h : mo_W σ v ar) : mo_W (σ.set 278 (.inl (0, 60, .inl f))) v (ua ar 7 f) := by
  obtain ⟨w, a0, a1, a2, a3, a4, a5, a6, a7, a8, a9, a10, a11, a12, a13, a14, a15⟩ := h
  exact ⟨nq_gn (by decide) w, nq_gn (by decide) a0, nq_gn (by decide) a1, nq_gn (by decide) a2, nq_gn (by decide) a3, nq_gn (by decide) a4, nq_gn (by decide) a5, nq_gn (by decide) a6, nq_gs a7, nq_gn (by decide) a8, nq_gn (by decide) a9, nq_gn (by decide) a10, nq_gn (by decide) a11, nq_gn (by decide) a12, nq_gn (by decide) a13, nq_gn (by decide) a14, nq_gn (by decide) a15⟩
theorem mo_W.a8 (h : mo_W σ v ar) : mo_W (σ.set 279 (.inl (0, 60, .inl f))) v (ua ar 8 f) := by
  obtain ⟨w, a0, a1, a2, a3, a4, a5, a6, a7, a8, a9, a10, a11, a12, a13, a14, a15⟩ := h
  exact ⟨nq_gn (by decide) w, nq_gn (by decide) a0, nq_gn (by decide) a1, nq_gn (by decide) a2, nq_gn (by decide) a3, nq_gn (by decide) a4, nq_gn (by decide) a5, nq_gn (by decide) a6, nq_gn (by decide) a7, nq_gs a8, nq_gn (by decide) a9, nq_gn (by decide) a10, nq_gn (by decide) a11, nq_gn (by decide) a12, nq_gn (by decide) a13, nq_gn (by decide) a14, nq_gn (by decide) a15⟩
theorem mo_W.a9 (h : mo_W σ v ar) : mo_W (σ.set 280 (.inl (0, 8, .inl f))) v (ua ar 9 f) := by
  obtain ⟨w, a0, a1, a2, a3, a4, a5, a6, a7, a8, a9, a10, a11, a12, a13, a14, a15⟩ := h
  exact ⟨nq_gn (by decide) w, nq_gn (by decide) a0, nq_gn (by decide) a1, nq_gn (by decide) a2, nq_gn (by decide) a3, nq_gn (by decide) a4, nq_gn (by decide) a5, nq_gn (by decide) a6, nq_gn (by decide) a7, nq_gn (by decide) a8, nq_gs a9, nq_gn (by decide) a10, nq_gn (by decide) a11, nq_gn (by decide) a12, nq_gn (by decide) a13, nq_gn (by decide) a14, nq_gn (by decide) a15⟩
theorem mo_W.a10 (h : mo_W σ v ar) : mo_W (σ.set 281 (.inl (0, 60, .inl f))) v (ua ar 10 f) := by
  obtain ⟨w, a0, a1, a2, a3, a4, a5, a6, a7, a8, a9, a10, a11, a12, a13, a14, a15⟩ := h
  exact ⟨nq_gn (by decide) w, nq_gn (by decide) a0, nq_gn (by decide) a1, nq_gn (by decide) a2, nq_gn (by decide) a3, nq_gn (by decide) a4, nq_gn (by decide) a5, nq_gn (by decide) a6, nq_gn (by decide) a7, nq_gn (by decide) a8, nq_gn (by decide) a9, nq_gs a10, nq_gn (by decide) a11, nq_gn (by decide) a12, nq_gn (by decide) a13, nq_gn (by decide) a14, nq_gn (by decide) a15⟩
theorem mo_W.a11 (h : mo_W σ v ar) : mo_W (σ.set 282 (.inl (0, 6, .inl f))) v (ua ar 11 f) := by
  obtain ⟨w, a0, a1, a2, a3, a4, a5, a6, a7, a8, a9, a10, a11, a12, a13, a14, a15⟩ := h
  exact ⟨nq_gn (by decide) w, nq_gn (by decide) a0, nq_gn (by decide) a1, nq_gn (by decide) a2, nq_gn (by decide) a3, nq_gn (by decide) a4, nq_gn (by decide) a5, nq_gn (by decide) a6, nq_gn (by decide) a7, nq_gn (by decide) a8, nq_gn (by decide) a9, nq_gn (by decide) a10, nq_gs a11, nq_gn (by decide) a12, nq_gn (by decide) a13, nq_gn (by decide) a14, nq_gn (by decide) a15⟩
theorem mo_W.a12 (h : mo_W σ v ar) : mo_W (σ.set 283 (.inl (0, 123, .inl f))) v (ua ar 12 f) := by
  obtain ⟨w, a0, a1, a2, a3, a4, a5, a6, a7, a8, a9, a10, a11, a12, a13, a14, a15⟩ := h
  exact ⟨nq_gn (by decide) w, nq_gn (by decide) a0, nq_gn (by decide) a1, nq_gn (by decide) a2, nq_gn (by decide) a3, nq_gn (by decide) a4, nq_gn (by decide) a5, nq_gn (by decide) a6, nq_gn (by decide) a7, nq_gn (by decide) a8, nq_gn (by decide) a9, nq_gn (by decide) a10, nq_gn (by decide) a11, nq_gs a12, nq_gn (by decide) a13, nq_gn (by decide) a14, nq_gn (by decide) a15⟩
theorem mo_W.a13 (h : mo_W σ v ar) : mo_W (σ.set 284 (.inl (0, 41, .inl f))) v (ua ar 13 f) := by
  obtain ⟨w, a0, a1, a2, a3, a4, a5, a6, a7, a8, a9, a10, a11, a12, a13, a14, a15⟩ := h
  exact ⟨nq_gn (by decide) w, nq_gn (by decide) a0, nq_gn (by decide) a1, nq_gn (by decide) a2, nq_gn (by decide) a3, nq_gn (by decide) a4, nq_gn (by decide) a5, nq_gn (by decide) a6, nq_gn (by decide) a7, nq_gn (by decide) a8, nq_gn (by decide) a9, nq_gn (by decide) a10, nq_gn (by decide) a11, nq_gn (by decide) a12, nq_gs a13, nq_gn (by decide) a14, nq_gn (by decide) a15⟩
theorem mo_W.a14 (h : mo_W σ v ar) : mo_W (σ.set 285 (.inl (0, 20, .inl f))) v (ua ar 14 f) := by
  obtain ⟨w, a0, a1, a2, a3, a4, a5, a6, a7, a8, a9, a10, a11, a12, a13, a14, a15⟩ := h
  exact ⟨nq_gn (by decide) w, nq_gn (by decide) a0, nq_gn (by decide) a1, nq_gn (by decide) a2, nq_gn (by decide) a3, nq_gn (by decide) a4, nq_gn (by decide) a5, nq_gn (by decide) a6, nq_gn (by decide) a7, nq_gn (by decide) a8, nq_gn (by decide) a9, nq_gn (by decide) a10, nq_gn (by decide) a11, nq_gn (by decide) a12, nq_gn (by decide) a13, nq_gs a14, nq_gn (by decide) a15⟩
theorem mo_W.a15 (h : mo_W σ v ar) : mo_W (σ.set 286 (.inl (0, 20, .inl f))) v (ua ar 15 f) := by
  obtain ⟨w, a0, a1, a2, a3, a4, a5, a6, a7, a8, a9, a10, a11, a12, a13, a14, a15⟩ := h
  exact ⟨nq_gn (by decide) w, nq_gn (by decide) a0, nq_gn (by decide) a1, nq_gn (by decide) a2, nq_gn (by decide) a3, nq_gn (by decide) a4, nq_gn (by decide) a5, nq_gn (by decide) a6, nq_gn (by decide) a7, nq_gn (by decide) a8, nq_gn (by decide) a9, nq_gn (by decide) a10, nq_gn (by decide) a11, nq_gn (by decide) a12, nq_gn (by decide) a13, nq_gn (by decide) a14, nq_gs a15⟩
theorem mo_W.of {σ' : nq_S} (h : mo_W σ v ar) (e : ∀ i, 270 ≤ i → i < 287 → σ'[i]? = σ[i]?) : mo_W σ' v ar := by
  obtain ⟨w, a0, a1, a2, a3, a4, a5, a6, a7, a8, a9, a10, a11, a12, a13, a14, a15⟩ := h
  exact ⟨(e 270 (by decide) (by decide)).trans w, (e 271 (by decide) (by decide)).trans a0, (e 272 (by decide) (by decide)).trans a1, (e 273 (by decide) (by decide)).trans a2, (e 274 (by decide) (by decide)).trans a3, (e 275 (by decide) (by decide)).trans a4, (e 276 (by decide) (by decide)).trans a5, (e 277 (by decide) (by decide)).trans a6, (e 278 (by decide) (by decide)).trans a7, (e 279 (by decide) (by decide)).trans a8, (e 280 (by decide) (by decide)).trans a9, (e 281 (by decide) (by decide)).trans a10, (e 282 (by decide) (by decide)).trans a11, (e 283 (by decide) (by decide)).trans a12, (e 284 (by decide) (by decide)).trans a13, (e 285 (by decide) (by decide)).trans a14, (e 286 (by decide) (by decide)).trans a15⟩
end MW
section MS
variable {G : nq_G} {d : Nat} {σ : nq_S} {v : Nat → Int32} {ar : mo_Ar}
theorem k_Mod_thrown (hW : mo_W σ v ar) : nq_JM G d 0 0 m_Mod_thrown [.ref 270] σ (nq_R (some (.int (v 7))) σ) := by
  have w := hW.1
  refine nq_mk' (lv := [some (.ref 270)]) (by decide +kernel) rfl (Nat.le_of_ble_eq_true rfl) rfl ?_
  refine nq_aload_n (pc' := 1) d_Mod_thrown_0 rfl rfl rfl ?_
  refine nq_getf (pc' := 4) d_Mod_thrown_1 rfl fl_Mod_63 (by first | assumption | exact nq_ga (by assumption) | exact nq_gs (by first | assumption | exact nq_ga (by assumption) | exact nq_gs (by first | assumption | exact nq_gs (by assumption) | exact nq_gn (by first | assumption | decide | omega | exact nq_ne1 (by assumption) (by assumption) | exact nq_ne2 (by assumption) (by assumption)) (by assumption) | exact nq_ga (by assumption)) | exact nq_gn (by first | assumption | decide | omega | exact nq_ne1 (by assumption) (by assumption) | exact nq_ne2 (by assumption) (by assumption)) (by first | assumption | exact nq_gs (by assumption) | exact nq_gn (by first | assumption | decide | omega | exact nq_ne1 (by assumption) (by assumption) | exact nq_ne2 (by assumption) (by assumption)) (by assumption) | exact nq_ga (by assumption))) | exact nq_gn (by first | assumption | decide | omega | exact nq_ne1 (by assumption) (by assumption) | exact nq_ne2 (by assumption) (by assumption)) (by first | assumption | exact nq_ga (by assumption) | exact nq_gs (by first | assumption | exact nq_gs (by assumption) | exact nq_gn (by first | assumption | decide | omega | exact nq_ne1 (by assumption) (by assumption) | exact nq_ne2 (by assumption) (by assumption)) (by assumption) | exact nq_ga (by assumption)) | exact nq_gn (by first | assumption | decide | omega | exact nq_ne1 (by assumption) (by assumption) | exact nq_ne2 (by assumption) (by assumption)) (by first | assumption | exact nq_gs (by assumption) | exact nq_gn (by first | assumption | decide | omega | exact nq_ne1 (by assumption) (by assumption) | exact nq_ne2 (by assumption) (by assumption)) (by assumption) | exact nq_ga (by assumption)))) rfl ?_
  refine nq_iret d_Mod_thrown_4 rfl rfl ⟨rfl, rfl⟩
theorem k_Mod_in {x lo hi : Int32} : nq_JM G d 0 0 m_Mod_in [.int x, .int lo, .int hi] σ (nq_R (some (.int (if lo ≤ x ∧ x ≤ hi then 1 else 0))) σ) := by
  refine nq_mk' (lv := [some (.int x), some (.int lo), some (.int hi)]) (by decide +kernel) rfl (Nat.le_of_ble_eq_true rfl) rfl ?_
  refine nq_iload_n (pc' := 1) d_Mod_in_0 rfl rfl rfl ?_
  refine nq_iload_n (pc' := 2) d_Mod_in_1 rfl rfl rfl ?_
  by_cases h1 : x < lo
  · rw [if_neg (fun h => absurd h1 (Int32.not_lt.mpr h.1))]
    refine nq_icmp_lt (pc' := 5) (tgt := 14) d_Mod_in_2 rfl (by decide) (fun _ => ?_) (fun h => absurd h1 h)
    refine nq_iconst (v := 0) (pc' := 15) d_Mod_in_14 rfl (by decide) ?_
    refine nq_iret d_Mod_in_15 rfl rfl ⟨rfl, rfl⟩
  · refine nq_icmp_lt (pc' := 5) (tgt := 14) d_Mod_in_2 rfl (by decide) (fun h => absurd h h1) (fun _ => ?_)
    refine nq_iload_n (pc' := 6) d_Mod_in_5 rfl rfl rfl ?_
    refine nq_iload_n (pc' := 7) d_Mod_in_6 rfl rfl rfl ?_
    by_cases h2 : hi < x
    · rw [if_neg (fun h => absurd h2 (Int32.not_lt.mpr h.2))]
      refine nq_icmp_gt (pc' := 10) (tgt := 14) d_Mod_in_7 rfl (by decide) (fun _ => ?_) (fun h => absurd h2 h)
      refine nq_iconst (v := 0) (pc' := 15) d_Mod_in_14 rfl (by decide) ?_
      refine nq_iret d_Mod_in_15 rfl rfl ⟨rfl, rfl⟩
    · rw [if_pos ⟨Int32.not_lt.mp h1, Int32.not_lt.mp h2⟩]
      refine nq_icmp_gt (pc' := 10) (tgt := 14) d_Mod_in_7 rfl (by decide) (fun h => absurd h h2) (fun _ => ?_)
      refine nq_iconst (v := 1) (pc' := 11) d_Mod_in_10 rfl (by decide) ?_
      refine nq_goto (tgt := 15) d_Mod_in_11 (by decide) ?_
      refine nq_iret d_Mod_in_15 rfl rfl ⟨rfl, rfl⟩
theorem k_Mod_bad {b : Bool} (hW : mo_W σ v ar) : nq_JM G d 0 0 m_Mod_bad [.ref 270, .int (if b then 1 else 0)] σ (nq_R (some (.int (if b then 0 else 1))) (σ.set 270 (mo_F (upd v 7 (if b then 0 else 1))))) := by
  have w := hW.1
  refine nq_mk' (lv := [some (.ref 270), some (.int (if b then 1 else 0))]) (by decide +kernel) rfl (Nat.le_of_ble_eq_true rfl) rfl ?_
  refine nq_aload_n (pc' := 1) d_Mod_bad_0 rfl rfl rfl ?_
  refine nq_iload_n (pc' := 2) d_Mod_bad_1 rfl rfl rfl ?_
  cases b with
  | false =>
    refine nq_if_eq (pc' := 5) (tgt := 9) d_Mod_bad_2 rfl (by decide) (fun _ => ?_) (fun h => absurd rfl h)
    refine nq_iconst (v := 1) (pc' := 10) d_Mod_bad_9 rfl (by decide) ?_
    refine nq_putf (pc' := 13) d_Mod_bad_10 rfl fl_Mod_63 (by first | assumption | exact nq_ga (by assumption) | exact nq_gs (by first | assumption | exact nq_ga (by assumption) | exact nq_gs (by first | assumption | exact nq_gs (by assumption) | exact nq_gn (by first | assumption | decide | omega | exact nq_ne1 (by assumption) (by assumption) | exact nq_ne2 (by assumption) (by assumption)) (by assumption) | exact nq_ga (by assumption)) | exact nq_gn (by first | assumption | decide | omega | exact nq_ne1 (by assumption) (by assumption) | exact nq_ne2 (by assumption) (by assumption)) (by first | assumption | exact nq_gs (by assumption) | exact nq_gn (by first | assumption | decide | omega | exact nq_ne1 (by assumption) (by assumption) | exact nq_ne2 (by assumption) (by assumption)) (by assumption) | exact nq_ga (by assumption))) | exact nq_gn (by first | assumption | decide | omega | exact nq_ne1 (by assumption) (by assumption) | exact nq_ne2 (by assumption) (by assumption)) (by first | assumption | exact nq_ga (by assumption) | exact nq_gs (by first | assumption | exact nq_gs (by assumption) | exact nq_gn (by first | assumption | decide | omega | exact nq_ne1 (by assumption) (by assumption) | exact nq_ne2 (by assumption) (by assumption)) (by assumption) | exact nq_ga (by assumption)) | exact nq_gn (by first | assumption | decide | omega | exact nq_ne1 (by assumption) (by assumption) | exact nq_ne2 (by assumption) (by assumption)) (by first | assumption | exact nq_gs (by assumption) | exact nq_gn (by first | assumption | decide | omega | exact nq_ne1 (by assumption) (by assumption) | exact nq_ne2 (by assumption) (by assumption)) (by assumption) | exact nq_ga (by assumption)))) (Nat.le_of_ble_eq_true rfl) rfl rfl ?_
    refine nq_iload_n (pc' := 14) d_Mod_bad_13 rfl rfl rfl ?_
    refine nq_if_ne (pc' := 17) (tgt := 21) d_Mod_bad_14 rfl (by decide) (fun h => absurd rfl h) (fun _ => ?_)
    refine nq_iconst (v := 1) (pc' := 18) d_Mod_bad_17 rfl (by decide) ?_
    refine nq_goto (tgt := 22) d_Mod_bad_18 (by decide) ?_
    refine nq_iret d_Mod_bad_22 rfl rfl ⟨rfl, rfl⟩
  | true =>
    refine nq_if_eq (pc' := 5) (tgt := 9) d_Mod_bad_2 rfl (by decide) (fun h => absurd h (by decide)) (fun _ => ?_)
    refine nq_iconst (v := 0) (pc' := 6) d_Mod_bad_5 rfl (by decide) ?_
    refine nq_goto (tgt := 10) d_Mod_bad_6 (by decide) ?_
    refine nq_putf (pc' := 13) d_Mod_bad_10 rfl fl_Mod_63 (by first | assumption | exact nq_ga (by assumption) | exact nq_gs (by first | assumption | exact nq_ga (by assumption) | exact nq_gs (by first | assumption | exact nq_gs (by assumption) | exact nq_gn (by first | assumption | decide | omega | exact nq_ne1 (by assumption) (by assumption) | exact nq_ne2 (by assumption) (by assumption)) (by assumption) | exact nq_ga (by assumption)) | exact nq_gn (by first | assumption | decide | omega | exact nq_ne1 (by assumption) (by assumption) | exact nq_ne2 (by assumption) (by assumption)) (by first | assumption | exact nq_gs (by assumption) | exact nq_gn (by first | assumption | decide | omega | exact nq_ne1 (by assumption) (by assumption) | exact nq_ne2 (by assumption) (by assumption)) (by assumption) | exact nq_ga (by assumption))) | exact nq_gn (by first | assumption | decide | omega | exact nq_ne1 (by assumption) (by assumption) | exact nq_ne2 (by assumption) (by assumption)) (by first | assumption | exact nq_ga (by assumption) | exact nq_gs (by first | assumption | exact nq_gs (by assumption) | exact nq_gn (by first | assumption | decide | omega | exact nq_ne1 (by assumption) (by assumption) | exact nq_ne2 (by assumption) (by assumption)) (by assumption) | exact nq_ga (by assumption)) | exact nq_gn (by first | assumption | decide | omega | exact nq_ne1 (by assumption) (by assumption) | exact nq_ne2 (by assumption) (by assumption)) (by first | assumption | exact nq_gs (by assumption) | exact nq_gn (by first | assumption | decide | omega | exact nq_ne1 (by assumption) (by assumption) | exact nq_ne2 (by assumption) (by assumption)) (by assumption) | exact nq_ga (by assumption)))) (Nat.le_of_ble_eq_true rfl) rfl rfl ?_
    refine nq_iload_n (pc' := 14) d_Mod_bad_13 rfl rfl rfl ?_
    refine nq_if_ne (pc' := 17) (tgt := 21) d_Mod_bad_14 rfl (by decide) (fun _ => ?_) (fun h => absurd h (by decide))
    refine nq_iconst (v := 0) (pc' := 22) d_Mod_bad_21 rfl (by decide) ?_
    refine nq_iret d_Mod_bad_22 rfl rfl ⟨rfl, rfl⟩
theorem k_Mod_fail {c : Int32} (hW : mo_W σ v ar) : nq_JM G d 0 0 m_Mod_fail [.ref 270, .int c] σ (nq_R (some (.int 0)) (σ.set 270 (mo_F (upd v 7 c)))) := by
  have w := hW.1
  refine nq_mk' (lv := [some (.ref 270), some (.int c)]) (by decide +kernel) rfl (Nat.le_of_ble_eq_true rfl) rfl ?_
  refine nq_aload_n (pc' := 1) d_Mod_fail_0 rfl rfl rfl ?_
  refine nq_iload_n (pc' := 2) d_Mod_fail_1 rfl rfl rfl ?_
  refine nq_putf (pc' := 5) d_Mod_fail_2 rfl fl_Mod_63 (by first | assumption | exact nq_ga (by assumption) | exact nq_gs (by first | assumption | exact nq_ga (by assumption) | exact nq_gs (by first | assumption | exact nq_gs (by assumption) | exact nq_gn (by first | assumption | decide | omega | exact nq_ne1 (by assumption) (by assumption) | exact nq_ne2 (by assumption) (by assumption)) (by assumption) | exact nq_ga (by assumption)) | exact nq_gn (by first | assumption | decide | omega | exact nq_ne1 (by assumption) (by assumption) | exact nq_ne2 (by assumption) (by assumption)) (by first | assumption | exact nq_gs (by assumption) | exact nq_gn (by first | assumption | decide | omega | exact nq_ne1 (by assumption) (by assumption) | exact nq_ne2 (by assumption) (by assumption)) (by assumption) | exact nq_ga (by assumption))) | exact nq_gn (by first | assumption | decide | omega | exact nq_ne1 (by assumption) (by assumption) | exact nq_ne2 (by assumption) (by assumption)) (by first | assumption | exact nq_ga (by assumption) | exact nq_gs (by first | assumption | exact nq_gs (by assumption) | exact nq_gn (by first | assumption | decide | omega | exact nq_ne1 (by assumption) (by assumption) | exact nq_ne2 (by assumption) (by assumption)) (by assumption) | exact nq_ga (by assumption)) | exact nq_gn (by first | assumption | decide | omega | exact nq_ne1 (by assumption) (by assumption) | exact nq_ne2 (by assumption) (by assumption)) (by first | assumption | exact nq_gs (by assumption) | exact nq_gn (by first | assumption | decide | omega | exact nq_ne1 (by assumption) (by assumption) | exact nq_ne2 (by assumption) (by assumption)) (by assumption) | exact nq_ga (by assumption)))) (Nat.le_of_ble_eq_true rfl) rfl rfl ?_
  refine nq_iconst (v := 0) (pc' := 6) d_Mod_fail_5 rfl (by decide) ?_
  refine nq_iret d_Mod_fail_6 rfl rfl ⟨rfl, rfl⟩
theorem k_Mod_rank {c : Nat} (hc : c < 128) : nq_JM G d 0 0 m_Mod_rank [.int (nI c)] σ (nq_R (some (.int (nI (me_rank c)))) σ) := by
  have kk : ∀ x, x < 128 → c ≠ x → ¬ nI c = nI x := fun x hx hn h => hn (nI_inj (by omega) (by omega) h)
  unfold me_rank
  refine nq_mk' (lv := [some (.int (nI c))]) (by decide +kernel) rfl (Nat.le_of_ble_eq_true rfl) rfl ?_
  refine nq_iload_n (pc' := 1) d_Mod_rank_0 rfl rfl rfl ?_
  refine nq_bipush (v := 43) (pc' := 3) d_Mod_rank_1 rfl (by decide) ?_
  have two : nq_J G d 0 0 m_Mod_rank 12 [some (.int (nI c))] [] σ (nq_R (some (.int (nI 2))) σ) := by
    refine nq_iconst (v := 2) (pc' := 13) d_Mod_rank_12 rfl (by decide) ?_
    refine nq_goto (tgt := 39) d_Mod_rank_13 (by decide) ?_
    refine nq_iret d_Mod_rank_39 rfl rfl ⟨rfl, rfl⟩
  have three : nq_J G d 0 0 m_Mod_rank 34 [some (.int (nI c))] [] σ (nq_R (some (.int (nI 3))) σ) := by
    refine nq_iconst (v := 3) (pc' := 35) d_Mod_rank_34 rfl (by decide) ?_
    refine nq_goto (tgt := 39) d_Mod_rank_35 (by decide) ?_
    refine nq_iret d_Mod_rank_39 rfl rfl ⟨rfl, rfl⟩
  by_cases c1 : c = 43
  · rw [if_pos (.inl c1)]
    refine nq_icmp_eq (pc' := 6) (tgt := 12) d_Mod_rank_3 rfl (by decide) (fun _ => two) (fun h => absurd (by rw [c1]; rfl) h)
  refine nq_icmp_eq (pc' := 6) (tgt := 12) d_Mod_rank_3 rfl (by decide) (fun h => absurd h (kk 43 (by decide) c1)) (fun _ => ?_)
  refine nq_iload_n (pc' := 7) d_Mod_rank_6 rfl rfl rfl ?_
  refine nq_bipush (v := 45) (pc' := 9) d_Mod_rank_7 rfl (by decide) ?_
  by_cases c2 : c = 45
  · rw [if_pos (.inr c2)]
    refine nq_icmp_ne (pc' := 12) (tgt := 16) d_Mod_rank_9 rfl (by decide) (fun h => absurd (by rw [c2]; rfl) h) (fun _ => two)
  rw [if_neg (by omega)]
  refine nq_icmp_ne (pc' := 12) (tgt := 16) d_Mod_rank_9 rfl (by decide) (fun _ => ?_) (fun h => absurd h (kk 45 (by decide) c2))
  refine nq_iload_n (pc' := 17) d_Mod_rank_16 rfl rfl rfl ?_
  refine nq_bipush (v := 42) (pc' := 19) d_Mod_rank_17 rfl (by decide) ?_
  by_cases c3 : c = 42
  · rw [if_pos (.inl c3)]
    refine nq_icmp_eq (pc' := 22) (tgt := 34) d_Mod_rank_19 rfl (by decide) (fun _ => three) (fun h => absurd (by rw [c3]; rfl) h)
  refine nq_icmp_eq (pc' := 22) (tgt := 34) d_Mod_rank_19 rfl (by decide) (fun h => absurd h (kk 42 (by decide) c3)) (fun _ => ?_)
  refine nq_iload_n (pc' := 23) d_Mod_rank_22 rfl rfl rfl ?_
  refine nq_bipush (v := 47) (pc' := 25) d_Mod_rank_23 rfl (by decide) ?_
  by_cases c4 : c = 47
  · rw [if_pos (.inr (.inl c4))]
    refine nq_icmp_eq (pc' := 28) (tgt := 34) d_Mod_rank_25 rfl (by decide) (fun _ => three) (fun h => absurd (by rw [c4]; rfl) h)
  refine nq_icmp_eq (pc' := 28) (tgt := 34) d_Mod_rank_25 rfl (by decide) (fun h => absurd h (kk 47 (by decide) c4)) (fun _ => ?_)
  refine nq_iload_n (pc' := 29) d_Mod_rank_28 rfl rfl rfl ?_
  refine nq_bipush (v := 37) (pc' := 31) d_Mod_rank_29 rfl (by decide) ?_
  by_cases c5 : c = 37
  · rw [if_pos (.inr (.inr c5))]
    refine nq_icmp_ne (pc' := 34) (tgt := 38) d_Mod_rank_31 rfl (by decide) (fun h => absurd (by rw [c5]; rfl) h) (fun _ => three)
  rw [if_neg (by omega)]
  refine nq_icmp_ne (pc' := 34) (tgt := 38) d_Mod_rank_31 rfl (by decide) (fun _ => ?_) (fun h => absurd h (kk 37 (by decide) c5))
  refine nq_iconst (v := 0) (pc' := 39) d_Mod_rank_38 rfl (by decide) ?_
  refine nq_iret d_Mod_rank_39 rfl rfl ⟨rfl, rfl⟩
end MS
