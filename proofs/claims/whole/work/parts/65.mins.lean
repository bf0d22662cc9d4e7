/-! THE OTHER STORE: what running a statement leaves; insert -/
def mo_tb (f g : Nat → Int32) (tb : sx_T) : Prop := tb.length = 3 ∧ ∀ t, t < 3 → (tb.getD t []).length ≤ 20 ∧ g t = nI (tb.getD t []).length ∧ ∀ i r, (tb.getD t [])[i]? = some r → f (60 * t + 3 * i) = r.1 ∧ f (60 * t + 3 * i + 1) = r.2.1 ∧ f (60 * t + 3 * i + 2) = r.2.2
def mo_fg (σ σ' : nq_S) : Prop := σ.length ≤ σ'.length ∧ σ'.length ≤ σ.length + 1 ∧ ∀ i, (i < 270 ∨ (287 ≤ i ∧ i < σ.length)) → σ'[i]? = σ[i]?
theorem mo_fr.g {σ σ' : nq_S} (h : mo_fr σ σ') : mo_fg σ σ' := ⟨by rw [h.1]; exact Nat.le_refl _, by rw [h.1]; omega, fun i hi => h.2 i (by omega)⟩
theorem mo_fg.fr {σ σ1 σ2 : nq_S} (h : mo_fg σ σ1) (k : mo_fr σ1 σ2) (hl : 288 ≤ σ.length) : mo_fg σ σ2 := ⟨by rw [k.1]; exact h.1, by rw [k.1]; exact h.2.1, fun i hi => (k.2 i (by omega)).trans (h.2.2 i hi)⟩
def mx_k (v : Nat → Int32) (ar : mo_Ar) (v' : Nat → Int32) (ar' : mo_Ar) : Prop := (∀ k, k ≠ 7 → k ≠ 11 → k ≠ 13 → k ≠ 14 → k ≠ 16 → v' k = v k) ∧ ∀ k, (k ≤ 1 ∨ (4 ≤ k ∧ k ≤ 9)) → ar' k = ar k
theorem mx_k.rf {v : Nat → Int32} {ar : mo_Ar} : mx_k v ar v ar := ⟨fun _ _ _ _ _ _ => rfl, fun _ _ => rfl⟩
theorem mx_k.tr {v v1 v2 : Nat → Int32} {ar ar1 ar2 : mo_Ar} (h : mx_k v ar v1 ar1) (k : mx_k v1 ar1 v2 ar2) : mx_k v ar v2 ar2 := ⟨fun i a b c e f => (k.1 i a b c e f).trans (h.1 i a b c e f), fun i hi => (k.2 i hi).trans (h.2 i hi)⟩
theorem mx_k.u {v : Nat → Int32} {ar : mo_Ar} {k : Nat} {x : Int32} (hk : k = 7 ∨ k = 11 ∨ k = 13 ∨ k = 14 ∨ k = 16) : mx_k v ar (upd v k x) ar := ⟨fun j a b c e f => upd_ne (by omega), fun _ _ => rfl⟩
theorem mx_k.a {v : Nat → Int32} {ar : mo_Ar} {k : Nat} {f : Nat → Int32} (hk : k = 2 ∨ k = 3 ∨ 10 ≤ k) : mx_k v ar v (ua ar k f) := ⟨fun _ _ _ _ _ _ => rfl, fun j hj => ua_ne (by omega)⟩
def mo_thr (e : String) : Int32 := if e = nq_NE then 2 else if e = nq_AE then 3 else if e = nq_IS then 4 else 5
def mo_rs (f : Nat → Int32) (xs : List sx_E) : Prop := ∀ i x, xs[i]? = some x → ∀ j y, x.2[j]? = some y → f (3 * i + j) = y
def xm_Q (σ : nq_S) (v : Nat → Int32) (ar : mo_Ar) (tb : sx_T) (res : String ⊕ (Int32 × sx_T × List sx_E × Nat)) : nq_Q := fun o σ' => mo_fg σ σ' ∧ ∃ v' ar' x, mo_W σ' v' ar' ∧ mx_k v ar v' ar' ∧ o = .inl (some (.int x)) ∧ match res with
  | .inl e => v' 7 = mo_thr e ∧ mo_tb (ar' 2) (ar' 3) tb
  | .inr (n, tb', res', w') => x = n ∧ v' 7 = 0 ∧ mo_tb (ar' 2) (ar' 3) tb' ∧ v' 13 = nI res'.length ∧ v' 14 = nI w' ∧ mo_rs (ar' 12) res'
def sx_pos (x : Int32) : List nq_Rw → Nat
  | [] => 0
  | r :: T => if r.1 < x then sx_pos x T + 1 else 0
theorem sx_pos_le (x : Int32) : ∀ T : List nq_Rw, sx_pos x T ≤ T.length
  | [] => Nat.le_refl _
  | r :: T => by
    unfold sx_pos
    split
    · have := sx_pos_le x T
      simp only [List.length_cons]
      omega
    · omega
theorem rw_ins_pos (r : nq_Rw) : ∀ T : List nq_Rw, rw_ins r T = T.take (sx_pos r.1 T) ++ r :: T.drop (sx_pos r.1 T)
  | [] => rfl
  | x :: T => by
    unfold rw_ins sx_pos
    split
    · rw [rw_ins_pos r T]
      rfl
    · rfl
theorem sx_pos_lt (x : Int32) : ∀ (T : List nq_Rw) (i : Nat) (r : nq_Rw), T[i]? = some r → i < sx_pos x T → r.1 < x
  | [], i, r, h, _ => by simp at h
  | y :: T, i, r, h, hi => by
    unfold sx_pos at hi
    split at hi
    · rename_i hy
      cases i with
      | zero => cases h; exact hy
      | succ i => exact sx_pos_lt x T i r (by simpa using h) (by omega)
    · omega
theorem sx_pos_at (x : Int32) : ∀ (T : List nq_Rw) (r : nq_Rw), T[sx_pos x T]? = some r → ¬ r.1 < x
  | [], r, h => by simp [sx_pos] at h
  | y :: T, r, h => by
    unfold sx_pos at h
    split at h
    · exact sx_pos_at x T r (by simpa using h)
    · rename_i hy
      cases h
      exact hy
/-- a key is there just if it stands at its place -/
theorem sx_any {x : Int32} {T : List nq_Rw} (hup : rw_up T) : T.any (fun r => r.1 == x) = true ↔ ∃ r, T[sx_pos x T]? = some r ∧ r.1 = x := by
  rw [List.any_eq_true]
  constructor
  · rintro ⟨r, hr, he⟩
    have he : r.1 = x := eq_of_beq he
    obtain ⟨i, hi, rfl⟩ := List.getElem_of_mem hr
    have hget := List.getElem?_eq_getElem hi
    have h1 : ¬ i < sx_pos x T := fun h => by
      have := sx_pos_lt x T i _ hget h
      rw [he] at this
      exact Int32.lt_irrefl this
    by_cases h2 : i = sx_pos x T
    · exact ⟨T[i], by rw [← h2]; exact hget, he⟩
    · have hlt : sx_pos x T < i := by omega
      have hp : sx_pos x T < T.length := by omega
      have hg2 := List.getElem?_eq_getElem hp
      have h3 := sx_pos_at x T _ hg2
      have h4 := List.pairwise_iff_getElem.mp hup (sx_pos x T) i hp hi hlt
      rw [he] at h4
      exact absurd h4 h3
  · rintro ⟨r, hr, he⟩
    exact ⟨r, List.mem_of_getElem? hr, by rw [he]; exact beq_self_eq_true _⟩
/-- the rows behind i moved on by one, down to the cell c -/
def mo_sf (f : Nat → Int32) (b lo c hi : Nat) : Nat → Int32 := fun j => if b + c + 3 ≤ j ∧ j < b + hi + 3 then f (j - 3) else f j
theorem mo_sf_st {f : Nat → Int32} {b lo c hi : Nat} (hc : c < hi) : upd (mo_sf f b lo (c + 1) hi) (b + c + 3) (mo_sf f b lo (c + 1) hi (b + c)) = mo_sf f b lo c hi := by
  funext j
  unfold upd mo_sf
  by_cases h : j = b + c + 3
  · subst h
    rw [if_pos rfl, if_neg (by omega), if_pos (by omega)]
    rfl
  · rw [if_neg h]
    by_cases h2 : b + (c + 1) + 3 ≤ j ∧ j < b + hi + 3
    · rw [if_pos h2, if_pos (by omega)]
    · rw [if_neg h2, if_neg (by omega)]
theorem mo_tb.ins {f g : Nat → Int32} {tb : sx_T} {t p : Nat} {r : nq_Rw} (h : mo_tb f g tb) (ht : t < 3) (hp : p ≤ (tb.getD t []).length) (hl : (tb.getD t []).length < 20) : mo_tb (upd (upd (upd (mo_sf f (60 * t) (3 * p) (3 * p) (3 * (tb.getD t []).length)) (60 * t + 3 * p) r.1) (60 * t + 3 * p + 1) r.2.1) (60 * t + 3 * p + 2) r.2.2) (upd g t (nI ((tb.getD t []).length + 1))) (tb.set t ((tb.getD t []).take p ++ r :: (tb.getD t []).drop p)) := by
  obtain ⟨h3, h⟩ := h
  refine ⟨by rw [List.length_set]; exact h3, fun t' ht' => ?_⟩
  by_cases htt : t = t'
  · subst htt
    rw [tb_get_set h3 ht]
    obtain ⟨a1, a2, a3⟩ := h t ht
    have hlen : ((tb.getD t []).take p ++ r :: (tb.getD t []).drop p).length = (tb.getD t []).length + 1 := by
      simp only [List.length_append, List.length_cons, List.length_take, List.length_drop]
      omega
    refine ⟨by rw [hlen]; omega, by rw [hlen, upd_at], fun i x hx => ?_⟩
    have hil := (List.getElem?_eq_some_iff.mp hx).1
    rw [hlen] at hil
    rw [sx_ins_at hp] at hx
    by_cases c1 : i < p
    · rw [if_pos c1] at hx
      have := a3 i x hx
      rw [upd_ne (by omega), upd_ne (by omega), upd_ne (by omega), upd_ne (by omega), upd_ne (by omega), upd_ne (by omega), upd_ne (by omega), upd_ne (by omega), upd_ne (by omega)]
      unfold mo_sf
      rw [if_neg (by omega), if_neg (by omega), if_neg (by omega)]
      exact this
    · rw [if_neg c1] at hx
      by_cases c2 : i = p
      · rw [if_pos c2] at hx
        cases hx
        subst c2
        refine ⟨?_, ?_, ?_⟩
        · rw [upd_ne (by omega), upd_ne (by omega), upd_at]
        · rw [upd_ne (by omega), upd_at]
        · rw [upd_at]
      · rw [if_neg c2] at hx
        have := a3 (i - 1) x hx
        rw [upd_ne (by omega), upd_ne (by omega), upd_ne (by omega), upd_ne (by omega), upd_ne (by omega), upd_ne (by omega), upd_ne (by omega), upd_ne (by omega), upd_ne (by omega)]
        unfold mo_sf
        rw [if_pos (by omega), if_pos (by omega), if_pos (by omega)]
        rw [show 60 * t + 3 * i - 3 = 60 * t + 3 * (i - 1) from by omega, show 60 * t + 3 * i + 1 - 3 = 60 * t + 3 * (i - 1) + 1 from by omega, show 60 * t + 3 * i + 2 - 3 = 60 * t + 3 * (i - 1) + 2 from by omega]
        exact this
  · rw [show (tb.set t ((tb.getD t []).take p ++ r :: (tb.getD t []).drop p)).getD t' [] = tb.getD t' [] from by simp [List.getD, List.getElem?_set_ne htt]]
    obtain ⟨a1, a2, a3⟩ := h t' ht'
    refine ⟨a1, by rw [upd_ne (Ne.symm htt)]; exact a2, fun i x hx => ?_⟩
    have hil := (List.getElem?_eq_some_iff.mp hx).1
    have := a3 i x hx
    rw [upd_ne (by omega), upd_ne (by omega), upd_ne (by omega), upd_ne (by omega), upd_ne (by omega), upd_ne (by omega), upd_ne (by omega), upd_ne (by omega), upd_ne (by omega)]
    unfold mo_sf
    rw [if_neg (by omega), if_neg (by omega), if_neg (by omega)]
    exact this
