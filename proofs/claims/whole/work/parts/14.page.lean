/-! PAGES: a page of four rows; its cells lie in an array of twelve -/
theorem nq_mk' {G : nq_G} {d kc ks : Nat} {y : nq_M} {σ : nq_S} {Q : nq_Q} {av : List Value} {lv : List (Option Value)} (hy : plainName y.1.cls = true) (hh : y.2.2.2.2 = []) (hn : (nq_ea av).length ≤ y.2.2.1) (hlv : nq_ent av y.2.2.1 = lv) (k : nq_J G d kc ks y 0 lv [] σ Q) : nq_JM G d kc ks y av σ Q := by
  subst hlv
  exact nq_mk hy hh hn k
theorem n3 (a b : Nat) : nI a * 3 + nI b = nI (a * 3 + b) := by
  rw [show (3 : Int32) = nI 3 from rfl, pk_mul, nI_add]
theorem n30 (a : Nat) : nI a * 3 = nI (a * 3) := by
  rw [show (3 : Int32) = nI 3 from rfl, pk_mul]
section PG
variable {G : nq_G} {d : Nat} {σ : nq_S} {p q n s c : Nat} {f : Nat → Int32} {v : Int32}
theorem k_Page_size (hp : σ[p]? = some (.inr (2, [.ref q, .int v]))) : nq_JM G d 0 0 m_Page_size [.ref p] σ (nq_R (some (.int v)) σ) := by
  refine nq_mk' (lv := [some (.ref p)]) (by decide +kernel) rfl (Nat.le_of_ble_eq_true rfl) rfl ?_
  refine nq_aload_n (pc' := 1) d_Page_size_0 rfl rfl rfl ?_
  refine nq_getf (pc' := 4) d_Page_size_1 rfl fl_Page_15 (by first | assumption | exact nq_gs (by assumption) | exact nq_gn (by first | assumption | decide | omega) (by first | assumption | exact nq_gs (by assumption) | exact nq_gn (by first | assumption | decide | omega) (by first | assumption | exact nq_gs (by assumption) | exact nq_gn (by first | assumption | decide | omega) (by assumption)))) rfl ?_
  refine nq_iret d_Page_size_4 rfl rfl ⟨rfl, rfl⟩
theorem k_Page_isFull (hp : σ[p]? = some (.inr (2, [.ref q, .int v]))) : nq_JM G d 0 0 m_Page_isFull [.ref p] σ (nq_R (some (.int (if v = 4 then 1 else 0))) σ) := by
  refine nq_mk' (lv := [some (.ref p)]) (by decide +kernel) rfl (Nat.le_of_ble_eq_true rfl) rfl ?_
  refine nq_aload_n (pc' := 1) d_Page_isFull_0 rfl rfl rfl ?_
  refine nq_getf (pc' := 4) d_Page_isFull_1 rfl fl_Page_15 (by first | assumption | exact nq_gs (by assumption) | exact nq_gn (by first | assumption | decide | omega) (by first | assumption | exact nq_gs (by assumption) | exact nq_gn (by first | assumption | decide | omega) (by first | assumption | exact nq_gs (by assumption) | exact nq_gn (by first | assumption | decide | omega) (by assumption)))) rfl ?_
  refine nq_iconst (v := 4) (pc' := 5) d_Page_isFull_4 rfl (by decide) ?_
  refine nq_icmp_ne (pc' := 8) (tgt := 12) d_Page_isFull_5 rfl (by decide) (fun h => ?_) (fun h => ?_)
  · @at 12
    refine nq_icmp_ne (pc' := 8) (tgt := 12) d_Page_isFull_5 rfl (by decide) rfl ⟨by rw [if_neg h], rfl⟩
  · @at 8
    refine nq_icmp_ne (pc' := 8) (tgt := 12) d_Page_isFull_5 rfl (by decide) rfl ⟨by rw [if_pos h], rfl⟩
theorem k_Page_get (hp : σ[p]? = some (.inr (2, [.ref q, .int v]))) (hq : σ[q]? = some (.inl (0, 12, .inl f))) (hs : s < 4) (hc : c < 3) : nq_JM G d 0 0 m_Page_get [.ref p, .int (nI s), .int (nI c)] σ (nq_R (some (.int (f (s * 3 + c)))) σ) := by
  refine nq_mk' (lv := [some (.ref p), some (.int (nI s)), some (.int (nI c))]) (by decide +kernel) rfl (Nat.le_of_ble_eq_true rfl) rfl ?_
  refine nq_aload_n (pc' := 1) d_Page_get_0 rfl rfl rfl ?_
  refine nq_getf (pc' := 4) d_Page_get_1 rfl fl_Page_9 (by first | assumption | exact nq_gs (by assumption) | exact nq_gn (by first | assumption | decide | omega) (by first | assumption | exact nq_gs (by assumption) | exact nq_gn (by first | assumption | decide | omega) (by first | assumption | exact nq_gs (by assumption) | exact nq_gn (by first | assumption | decide | omega) (by assumption)))) rfl ?_
  refine nq_iload_n (pc' := 5) d_Page_get_4 rfl rfl rfl ?_
  refine nq_iconst (v := 3) (pc' := 6) d_Page_get_5 rfl (by decide) ?_
  refine nq_imul (pc' := 7) d_Page_get_6 rfl ?_
  refine nq_iload_n (pc' := 8) d_Page_get_7 rfl rfl rfl ?_
  refine nq_iadd (pc' := 9) d_Page_get_8 rfl ?_
  refine nq_iald (pc' := 10) d_Page_get_9 rfl (by first | assumption | exact nq_gs (by assumption) | exact nq_gn (by first | assumption | decide | omega) (by first | assumption | exact nq_gs (by assumption) | exact nq_gn (by first | assumption | decide | omega) (by first | assumption | exact nq_gs (by assumption) | exact nq_gn (by first | assumption | decide | omega) (by assumption)))) rfl (j := s * 3 + c) (n3 s c) (by omega) (by decide) ?_
  refine nq_iret d_Page_get_10 rfl rfl ⟨rfl, rfl⟩
theorem k_Page_put {x : Int32} (hp : σ[p]? = some (.inr (2, [.ref q, .int v]))) (hq : σ[q]? = some (.inl (0, 12, .inl f))) (hs : s < 4) (hc : c < 3) : nq_JM G d 0 0 m_Page_put [.ref p, .int (nI s), .int (nI c), .int x] σ (nq_R none (σ.set q (.inl (0, 12, .inl (upd f (s * 3 + c) x))))) := by
  refine nq_mk' (lv := [some (.ref p), some (.int (nI s)), some (.int (nI c)), some (.int x)]) (by decide +kernel) rfl (Nat.le_of_ble_eq_true rfl) rfl ?_
  refine nq_aload_n (pc' := 1) d_Page_put_0 rfl rfl rfl ?_
  refine nq_getf (pc' := 4) d_Page_put_1 rfl fl_Page_9 (by first | assumption | exact nq_gs (by assumption) | exact nq_gn (by first | assumption | decide | omega) (by first | assumption | exact nq_gs (by assumption) | exact nq_gn (by first | assumption | decide | omega) (by first | assumption | exact nq_gs (by assumption) | exact nq_gn (by first | assumption | decide | omega) (by assumption)))) rfl ?_
  refine nq_iload_n (pc' := 5) d_Page_put_4 rfl rfl rfl ?_
  refine nq_iconst (v := 3) (pc' := 6) d_Page_put_5 rfl (by decide) ?_
  refine nq_imul (pc' := 7) d_Page_put_6 rfl ?_
  refine nq_iload_n (pc' := 8) d_Page_put_7 rfl rfl rfl ?_
  refine nq_iadd (pc' := 9) d_Page_put_8 rfl ?_
  refine nq_iload_n (pc' := 10) d_Page_put_9 rfl rfl rfl ?_
  refine nq_iast (pc' := 11) d_Page_put_10 rfl (by first | assumption | exact nq_gs (by assumption) | exact nq_gn (by first | assumption | decide | omega) (by first | assumption | exact nq_gs (by assumption) | exact nq_gn (by first | assumption | decide | omega) (by first | assumption | exact nq_gs (by assumption) | exact nq_gn (by first | assumption | decide | omega) (by assumption)))) rfl (j := s * 3 + c) (n3 s c) (by omega) (by decide) ?_
  refine nq_vret d_Page_put_11 rfl ⟨rfl, rfl⟩
theorem k_Page_copyRow {a m t : Nat} {g : Nat → Int32} (hp : σ[p]? = some (.inr (2, [.ref q, .int v]))) (hq : σ[q]? = some (.inl (0, 12, .inl f))) (hs : s < 4) (ha : σ[a]? = some (.inl (0, m, .inl g))) (ht : t + 3 ≤ m) (hm : m < 100000) : nq_JM G d 0 0 m_Page_copyRow [.ref p, .int (nI s), .ref a, .int (nI t)] σ (nq_R none (σ.set a (.inl (0, m, .inl (va_cpy f g (s * 3) t 3))))) := by
  refine nq_mk' (lv := [some (.ref p), some (.int (nI s)), some (.ref a), some (.int (nI t))]) (by decide +kernel) rfl (Nat.le_of_ble_eq_true rfl) rfl ?_
  refine nq_aload_n (pc' := 1) d_Page_copyRow_0 rfl rfl rfl ?_
  refine nq_getf (pc' := 4) d_Page_copyRow_1 rfl fl_Page_9 (by first | assumption | exact nq_gs (by assumption) | exact nq_gn (by first | assumption | decide | omega) (by first | assumption | exact nq_gs (by assumption) | exact nq_gn (by first | assumption | decide | omega) (by first | assumption | exact nq_gs (by assumption) | exact nq_gn (by first | assumption | decide | omega) (by assumption)))) rfl ?_
  refine nq_iload_n (pc' := 5) d_Page_copyRow_4 rfl rfl rfl ?_
  refine nq_iconst (v := 3) (pc' := 6) d_Page_copyRow_5 rfl (by decide) ?_
  refine nq_imul (pc' := 7) d_Page_copyRow_6 rfl ?_
  refine nq_aload_n (pc' := 8) d_Page_copyRow_7 rfl rfl rfl ?_
  refine nq_iload_n (pc' := 9) d_Page_copyRow_8 rfl rfl rfl ?_
  refine nq_iconst (v := 3) (pc' := 10) d_Page_copyRow_9 rfl (by decide) ?_
  refine nq_copy (pc' := 13) d_Page_copyRow_10 rfl cp_Page_19 cp_1 cp_2 cp_3 (by first | assumption | exact nq_gs (by assumption) | exact nq_gn (by first | assumption | decide | omega) (by first | assumption | exact nq_gs (by assumption) | exact nq_gn (by first | assumption | decide | omega) (by first | assumption | exact nq_gs (by assumption) | exact nq_gn (by first | assumption | decide | omega) (by assumption)))) (by first | assumption | exact nq_gs (by assumption) | exact nq_gn (by first | assumption | decide | omega) (by first | assumption | exact nq_gs (by assumption) | exact nq_gn (by first | assumption | decide | omega) (by first | assumption | exact nq_gs (by assumption) | exact nq_gn (by first | assumption | decide | omega) (by assumption)))) rfl (sp := s * 3) (dp := t) (n := 3) (n30 s) rfl rfl (by omega) ht (by decide) hm (by decide) ?_
  refine nq_vret d_Page_copyRow_13 rfl ⟨rfl, rfl⟩
theorem k_Page_moveRows {a b m : Nat} (hp : σ[p]? = some (.inr (2, [.ref q, .int v]))) (hq : σ[q]? = some (.inl (0, 12, .inl f))) (h1 : a + m ≤ 4) (h2 : b + m ≤ 4) : nq_JM G d 0 0 m_Page_moveRows [.ref p, .int (nI a), .int (nI b), .int (nI m)] σ (nq_R none (σ.set q (.inl (0, 12, .inl (va_cpy f f (a * 3) (b * 3) (m * 3)))))) := by
  refine nq_mk' (lv := [some (.ref p), some (.int (nI a)), some (.int (nI b)), some (.int (nI m))]) (by decide +kernel) rfl (Nat.le_of_ble_eq_true rfl) rfl ?_
  refine nq_aload_n (pc' := 1) d_Page_moveRows_0 rfl rfl rfl ?_
  refine nq_getf (pc' := 4) d_Page_moveRows_1 rfl fl_Page_9 (by first | assumption | exact nq_gs (by assumption) | exact nq_gn (by first | assumption | decide | omega) (by first | assumption | exact nq_gs (by assumption) | exact nq_gn (by first | assumption | decide | omega) (by first | assumption | exact nq_gs (by assumption) | exact nq_gn (by first | assumption | decide | omega) (by assumption)))) rfl ?_
  refine nq_iload_n (pc' := 5) d_Page_moveRows_4 rfl rfl rfl ?_
  refine nq_iconst (v := 3) (pc' := 6) d_Page_moveRows_5 rfl (by decide) ?_
  refine nq_imul (pc' := 7) d_Page_moveRows_6 rfl ?_
  refine nq_aload_n (pc' := 8) d_Page_moveRows_7 rfl rfl rfl ?_
  refine nq_getf (pc' := 11) d_Page_moveRows_8 rfl fl_Page_9 (by first | assumption | exact nq_gs (by assumption) | exact nq_gn (by first | assumption | decide | omega) (by first | assumption | exact nq_gs (by assumption) | exact nq_gn (by first | assumption | decide | omega) (by first | assumption | exact nq_gs (by assumption) | exact nq_gn (by first | assumption | decide | omega) (by assumption)))) rfl ?_
  refine nq_iload_n (pc' := 12) d_Page_moveRows_11 rfl rfl rfl ?_
  refine nq_iconst (v := 3) (pc' := 13) d_Page_moveRows_12 rfl (by decide) ?_
  refine nq_imul (pc' := 14) d_Page_moveRows_13 rfl ?_
  refine nq_iload_n (pc' := 15) d_Page_moveRows_14 rfl rfl rfl ?_
  refine nq_iconst (v := 3) (pc' := 16) d_Page_moveRows_15 rfl (by decide) ?_
  refine nq_imul (pc' := 17) d_Page_moveRows_16 rfl ?_
  refine nq_copy (pc' := 20) d_Page_moveRows_17 rfl cp_Page_19 cp_1 cp_2 cp_3 (by first | assumption | exact nq_gs (by assumption) | exact nq_gn (by first | assumption | decide | omega) (by first | assumption | exact nq_gs (by assumption) | exact nq_gn (by first | assumption | decide | omega) (by first | assumption | exact nq_gs (by assumption) | exact nq_gn (by first | assumption | decide | omega) (by assumption)))) (by first | assumption | exact nq_gs (by assumption) | exact nq_gn (by first | assumption | decide | omega) (by first | assumption | exact nq_gs (by assumption) | exact nq_gn (by first | assumption | decide | omega) (by first | assumption | exact nq_gs (by assumption) | exact nq_gn (by first | assumption | decide | omega) (by assumption)))) rfl (sp := a * 3) (dp := b * 3) (n := m * 3) (n30 a) (n30 b) (n30 m) (by omega) (by omega) (by decide) (by decide) (by decide) ?_
  refine nq_vret d_Page_moveRows_20 rfl ⟨rfl, rfl⟩
end PG
