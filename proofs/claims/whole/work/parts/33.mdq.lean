/-! The reference's small helps. -/
theorem a5 (j : Nat) : (5 : Int32) + nI j = nI (5 + j) := nI_add 5 j
theorem a11 (j : Nat) : (11 : Int32) + nI j = nI (11 + j) := nI_add 11 j
theorem a17 (j : Nat) : (17 : Int32) + nI j = nI (17 + j) := nI_add 17 j
theorem pred_toInt : ∀ p, p ≤ 9 → (nI p - 1).toInt = (p : Int) - 1 := by decide +kernel
theorem le_pred {p : Nat} (hp : p ≤ 9) (x : Int32) : (x ≤ nI p - 1) ↔ x < nI p := by
  rw [Int32.le_iff_toInt_le, Int32.lt_iff_toInt_lt, pred_toInt p hp, nI_toInt (by omega)]
  omega
theorem idx {p : Nat} (hp : p ≤ 9) {x : Int32} (h : 0 ≤ x ∧ x < nI p) : ∃ i, i < p ∧ x = nI i := by
  obtain ⟨i, hi, rfl⟩ := nI_of (Int32.not_lt.mpr h.1)
  exact ⟨i, (nI_ltI hi (by omega)).mp h.2, rfl⟩
theorem and1 (y : Int32) : y &&& 1 = 0 ∨ y &&& 1 = 1 := by
  by_cases h : bt y 0 = false
  · exact Or.inl ((b_and1 y).mpr h)
  · refine Or.inr (b_ext fun i hi => ?_)
    rw [b_and, b_1 i hi]
    by_cases q : i = 0
    · subst q
      cases hz : bt y 0
      · exact absurd hz h
      · rfl
    · simp [q]
section MQ
variable {h : xH} {σ τ : Nat → Nat → Int32} {v s : Nat} {q : Nat → Nat} {e1 e2 : Int64} {p t n : Nat}
theorem cM_price (s g : Int32) : xC M_Md_price [.int s, .int g] h = some (some (.int ((s + 1) * (g + 1))), h) := by
  simp only [k_Md_price, e_Md_price_0, e_Md_price_1, e_Md_price_2, e_Md_price_3, e_Md_price_4, e_Md_price_5, e_Md_price_6, e_Md_price_7]
theorem cM_prices (s g x : Int32) : xC M_Md_prices [.int s, .int g, .int x] h = some (some (.int (cst s g x.toNatClampNeg)), h) := by
  simp only [k_Md_prices, e_Md_prices_0, e_Md_prices_1, e_Md_prices_2, e_Md_prices_3]
  have key := loop_dn (t := x.toNatClampNeg) (P := fun i => xR none 1 M_Md_prices 5 [some (.int s), some (.int g), some (.int x), some (.int (cst s g i)), some (.int (nI i))] [] h = some (some (.int (cst s g x.toNatClampNeg)), h)) ?_ ?_ 0 (Nat.zero_le _)
  · rw [nI_0] at key
    exact key
  · have q : x ≤ nI x.toNatClampNeg := by
      by_cases hx : x < 0
      · rw [neg_clamp hx, nI_0]
        exact Int32.le_of_lt hx
      · rw [← (nI_of0 hx).1]
        exact Int32.le_refl _
    simp only [e_Md_prices_5, e_Md_prices_7, e_Md_prices_8, e_Md_prices_28, e_Md_prices_29, Option.isSome_some, Option.map_some, Option.map_none, Option.toList_some, Option.toList_none, List.nil_append, List.cons_append, List.singleton_append, if_true, if_false, ↓reduceIte, and_self, and_true, true_and, and_false, false_and, not_true, not_false_iff, reduceCtorEq, Nat.reduceEqDiff, Nat.reduceAdd, Nat.reduceSub, Nat.reduceMul, Nat.reduceLT, Nat.reduceLeDiff, Nat.reduceBEq, eq_self, ne_eq, Nat.add_eq_zero_iff, Nat.add_left_cancel_iff, Nat.add_right_cancel_iff, Nat.left_eq_add, Nat.add_eq_left, Bool.true_or, Bool.or_true, Bool.or_self, or_self, or_true, true_or, or_false, false_or, decide_true, decide_false, i_10, i_01, q]
  · intro i hi ih
    have q : ¬ x ≤ nI i := by
      have hx : ¬ x < 0 := fun hx => by rw [neg_clamp hx] at hi; omega
      rw [(nI_of0 hx).1]
      exact nI_ge hi (nI_of0 hx).2
    rw [← nI_1, cst] at ih
    have c1 := fun f => call_l (lv := 1) (cM_price (h := h) s (g + nI i)) (Nat.le_of_ble_eq_true rfl) f
    rw [e_Md_prices_5]
    simp only [e_Md_prices_7, e_Md_prices_8, e_Md_prices_11, e_Md_prices_12, e_Md_prices_13, e_Md_prices_14, e_Md_prices_16, e_Md_prices_17, e_Md_prices_20, e_Md_prices_21, e_Md_prices_22, e_Md_prices_25, Option.isSome_some, Option.map_some, Option.map_none, Option.toList_some, Option.toList_none, List.nil_append, List.cons_append, List.singleton_append, if_true, if_false, ↓reduceIte, and_self, and_true, true_and, and_false, false_and, not_true, not_false_iff, reduceCtorEq, Nat.reduceEqDiff, Nat.reduceAdd, Nat.reduceSub, Nat.reduceMul, Nat.reduceLT, Nat.reduceLeDiff, Nat.reduceBEq, eq_self, ne_eq, Nat.add_eq_zero_iff, Nat.add_left_cancel_iff, Nat.add_right_cancel_iff, Nat.left_eq_add, Nat.add_eq_left, Bool.true_or, Bool.or_true, Bool.or_self, or_self, or_true, true_or, or_false, false_or, decide_true, decide_false, i_10, i_01, q, c1]
    exact ih
theorem cM_isPerson (H : Hp h σ τ v s q e1 e2) (hp : τ 75 13 = nI p) (h5 : p ≤ 5) (x : Int32) : xC M_Md_isPerson [.ref 75, .int x] h = some (some (.int (if 0 ≤ x ∧ x < nI p then 1 else 0)), h) := by
  have c1 := fun f => call_l (lv := 1) (c_inI (h := h) x (y := 0) (z := nI p - 1) (yl := 0) (zl := (nI p - 1).toInt64) rfl rfl) (Nat.le_of_ble_eq_true rfl) f
  simp only [le_pred (show p ≤ 9 by omega)] at c1
  by_cases z : 0 ≤ x ∧ x < nI p
  · simp only [if_pos z] at c1
    simp only [k_Md_isPerson, e_Md_isPerson_0, e_Md_isPerson_1, e_Md_isPerson_2, e_Md_isPerson_3, e_Md_isPerson_4, e_Md_isPerson_7, e_Md_isPerson_8, e_Md_isPerson_9, e_Md_isPerson_10, e_Md_isPerson_13, m_get, m_put, m_ia, m_is, m_la, m_ls, fl_sf, fl_sa, fl_sl, fl_sq, ar_sf, ar_sa, ar_sl, ar_sq, lr_sf, lr_sa, lr_sl, lr_sq, qr_sf, qr_sa, qr_sl, qr_sq, sf_1, sf_2, sa_1, sa_2, sl_1, sl_2, Option.isSome_some, Option.map_some, Option.map_none, Option.toList_some, Option.toList_none, List.nil_append, List.cons_append, List.singleton_append, if_true, if_false, ↓reduceIte, and_self, and_true, true_and, and_false, false_and, not_true, not_false_iff, reduceCtorEq, Nat.reduceEqDiff, Nat.reduceAdd, Nat.reduceSub, Nat.reduceMul, Nat.reduceLT, Nat.reduceLeDiff, Nat.reduceBEq, eq_self, ne_eq, Nat.add_eq_zero_iff, Nat.add_left_cancel_iff, Nat.add_right_cancel_iff, Nat.left_eq_add, Nat.add_eq_left, Bool.true_or, Bool.or_true, Bool.or_self, or_self, or_true, true_or, or_false, false_or, decide_true, decide_false, i_10, i_01, hI H 75 9 13 rfl rfl, hp, c1, if_pos z]
  · simp only [if_neg z] at c1
    simp only [k_Md_isPerson, e_Md_isPerson_0, e_Md_isPerson_1, e_Md_isPerson_2, e_Md_isPerson_3, e_Md_isPerson_4, e_Md_isPerson_7, e_Md_isPerson_8, e_Md_isPerson_9, e_Md_isPerson_10, e_Md_isPerson_13, m_get, m_put, m_ia, m_is, m_la, m_ls, fl_sf, fl_sa, fl_sl, fl_sq, ar_sf, ar_sa, ar_sl, ar_sq, lr_sf, lr_sa, lr_sl, lr_sq, qr_sf, qr_sa, qr_sl, qr_sq, sf_1, sf_2, sa_1, sa_2, sl_1, sl_2, Option.isSome_some, Option.map_some, Option.map_none, Option.toList_some, Option.toList_none, List.nil_append, List.cons_append, List.singleton_append, if_true, if_false, ↓reduceIte, and_self, and_true, true_and, and_false, false_and, not_true, not_false_iff, reduceCtorEq, Nat.reduceEqDiff, Nat.reduceAdd, Nat.reduceSub, Nat.reduceMul, Nat.reduceLT, Nat.reduceLeDiff, Nat.reduceBEq, eq_self, ne_eq, Nat.add_eq_zero_iff, Nat.add_left_cancel_iff, Nat.add_right_cancel_iff, Nat.left_eq_add, Nat.add_eq_left, Bool.true_or, Bool.or_true, Bool.or_self, or_self, or_true, true_or, or_false, false_or, decide_true, decide_false, i_10, i_01, hI H 75 9 13 rfl rfl, hp, c1, if_neg z]
theorem cM_isThing (H : Hp h σ τ v s q e1 e2) (ht : τ 75 14 = nI t) (h6 : t ≤ 6) (x : Int32) : xC M_Md_isThing [.ref 75, .int x] h = some (some (.int (if 0 ≤ x ∧ x < nI t then 1 else 0)), h) := by
  have c1 := fun f => call_l (lv := 1) (c_inI (h := h) x (y := 0) (z := nI t - 1) (yl := 0) (zl := (nI t - 1).toInt64) rfl rfl) (Nat.le_of_ble_eq_true rfl) f
  simp only [le_pred (show t ≤ 9 by omega)] at c1
  by_cases z : 0 ≤ x ∧ x < nI t
  · simp only [if_pos z] at c1
    simp only [k_Md_isThing, e_Md_isThing_0, e_Md_isThing_1, e_Md_isThing_2, e_Md_isThing_3, e_Md_isThing_4, e_Md_isThing_7, e_Md_isThing_8, e_Md_isThing_9, e_Md_isThing_10, e_Md_isThing_13, m_get, m_put, m_ia, m_is, m_la, m_ls, fl_sf, fl_sa, fl_sl, fl_sq, ar_sf, ar_sa, ar_sl, ar_sq, lr_sf, lr_sa, lr_sl, lr_sq, qr_sf, qr_sa, qr_sl, qr_sq, sf_1, sf_2, sa_1, sa_2, sl_1, sl_2, Option.isSome_some, Option.map_some, Option.map_none, Option.toList_some, Option.toList_none, List.nil_append, List.cons_append, List.singleton_append, if_true, if_false, ↓reduceIte, and_self, and_true, true_and, and_false, false_and, not_true, not_false_iff, reduceCtorEq, Nat.reduceEqDiff, Nat.reduceAdd, Nat.reduceSub, Nat.reduceMul, Nat.reduceLT, Nat.reduceLeDiff, Nat.reduceBEq, eq_self, ne_eq, Nat.add_eq_zero_iff, Nat.add_left_cancel_iff, Nat.add_right_cancel_iff, Nat.left_eq_add, Nat.add_eq_left, Bool.true_or, Bool.or_true, Bool.or_self, or_self, or_true, true_or, or_false, false_or, decide_true, decide_false, i_10, i_01, hI H 75 9 14 rfl rfl, ht, c1, if_pos z]
  · simp only [if_neg z] at c1
    simp only [k_Md_isThing, e_Md_isThing_0, e_Md_isThing_1, e_Md_isThing_2, e_Md_isThing_3, e_Md_isThing_4, e_Md_isThing_7, e_Md_isThing_8, e_Md_isThing_9, e_Md_isThing_10, e_Md_isThing_13, m_get, m_put, m_ia, m_is, m_la, m_ls, fl_sf, fl_sa, fl_sl, fl_sq, ar_sf, ar_sa, ar_sl, ar_sq, lr_sf, lr_sa, lr_sl, lr_sq, qr_sf, qr_sa, qr_sl, qr_sq, sf_1, sf_2, sa_1, sa_2, sl_1, sl_2, Option.isSome_some, Option.map_some, Option.map_none, Option.toList_some, Option.toList_none, List.nil_append, List.cons_append, List.singleton_append, if_true, if_false, ↓reduceIte, and_self, and_true, true_and, and_false, false_and, not_true, not_false_iff, reduceCtorEq, Nat.reduceEqDiff, Nat.reduceAdd, Nat.reduceSub, Nat.reduceMul, Nat.reduceLT, Nat.reduceLeDiff, Nat.reduceBEq, eq_self, ne_eq, Nat.add_eq_zero_iff, Nat.add_left_cancel_iff, Nat.add_right_cancel_iff, Nat.left_eq_add, Nat.add_eq_left, Bool.true_or, Bool.or_true, Bool.or_self, or_self, or_true, true_or, or_false, false_or, decide_true, decide_false, i_10, i_01, hI H 75 9 14 rfl rfl, ht, c1, if_neg z]
theorem cM_doKnow (H : Hp h σ τ v s q e1 e2) {i : Nat} (hi : i < 5) (o : Int32) : xC M_Md_doKnow [.ref 75, .int (nI i), .int o] h = some (some (.int (if (σ 80 i >>> (o &&& 31)) &&& 1 = 0 then 0 else 1)), h) := by
  have i6 := xin_nI hi (by decide)
  have c6 := nI_clamp (show i < 2 ^ 31 by omega)
  rcases and1 (σ 80 i >>> (o &&& 31)) with z | z
  · simp only [k_Md_doKnow, e_Md_doKnow_0, e_Md_doKnow_1, e_Md_doKnow_4, e_Md_doKnow_5, e_Md_doKnow_6, e_Md_doKnow_7, e_Md_doKnow_8, e_Md_doKnow_9, e_Md_doKnow_10, e_Md_doKnow_11, e_Md_doKnow_14, e_Md_doKnow_15, e_Md_doKnow_18, e_Md_doKnow_19, m_get, m_put, m_ia, m_is, m_la, m_ls, fl_sf, fl_sa, fl_sl, fl_sq, ar_sf, ar_sa, ar_sl, ar_sq, lr_sf, lr_sa, lr_sl, lr_sq, qr_sf, qr_sa, qr_sl, qr_sq, sf_1, sf_2, sa_1, sa_2, sl_1, sl_2, Option.isSome_some, Option.map_some, Option.map_none, Option.toList_some, Option.toList_none, List.nil_append, List.cons_append, List.singleton_append, if_true, if_false, ↓reduceIte, and_self, and_true, true_and, and_false, false_and, not_true, not_false_iff, reduceCtorEq, Nat.reduceEqDiff, Nat.reduceAdd, Nat.reduceSub, Nat.reduceMul, Nat.reduceLT, Nat.reduceLeDiff, Nat.reduceBEq, eq_self, ne_eq, Nat.add_eq_zero_iff, Nat.add_left_cancel_iff, Nat.add_right_cancel_iff, Nat.left_eq_add, Nat.add_eq_left, Bool.true_or, Bool.or_true, Bool.or_self, or_self, or_true, true_or, or_false, false_or, decide_true, decide_false, i_10, i_01, hR H 75 9 9 80 rfl rfl, hA H 80 0 5 rfl rfl, i6, c6, z]
  · simp only [k_Md_doKnow, e_Md_doKnow_0, e_Md_doKnow_1, e_Md_doKnow_4, e_Md_doKnow_5, e_Md_doKnow_6, e_Md_doKnow_7, e_Md_doKnow_8, e_Md_doKnow_9, e_Md_doKnow_10, e_Md_doKnow_11, e_Md_doKnow_14, e_Md_doKnow_15, e_Md_doKnow_18, e_Md_doKnow_19, m_get, m_put, m_ia, m_is, m_la, m_ls, fl_sf, fl_sa, fl_sl, fl_sq, ar_sf, ar_sa, ar_sl, ar_sq, lr_sf, lr_sa, lr_sl, lr_sq, qr_sf, qr_sa, qr_sl, qr_sq, sf_1, sf_2, sa_1, sa_2, sl_1, sl_2, Option.isSome_some, Option.map_some, Option.map_none, Option.toList_some, Option.toList_none, List.nil_append, List.cons_append, List.singleton_append, if_true, if_false, ↓reduceIte, and_self, and_true, true_and, and_false, false_and, not_true, not_false_iff, reduceCtorEq, Nat.reduceEqDiff, Nat.reduceAdd, Nat.reduceSub, Nat.reduceMul, Nat.reduceLT, Nat.reduceLeDiff, Nat.reduceBEq, eq_self, ne_eq, Nat.add_eq_zero_iff, Nat.add_left_cancel_iff, Nat.add_right_cancel_iff, Nat.left_eq_add, Nat.add_eq_left, Bool.true_or, Bool.or_true, Bool.or_self, or_self, or_true, true_or, or_false, false_or, decide_true, decide_false, i_10, i_01, hR H 75 9 9 80 rfl rfl, hA H 80 0 5 rfl rfl, i6, c6, z]
theorem cM_worthOf (H : Hp h σ τ v s q e1 e2) {j : Nat} (hj : j < 6) : xC M_Md_worthOf [.ref 75, .int (nI j)] h = some (some (.int (cst (σ 82 j) 0 (σ 84 (5 + j)).toNatClampNeg)), h) := by
  have i6 := xin_nI hj (by decide)
  have c6 := nI_clamp (show j < 2 ^ 31 by omega)
  have i5 := xin_nI (show 5 + j < 24 by omega) (by decide)
  have c5 := nI_clamp (show 5 + j < 2 ^ 31 by omega)
  have c1 := fun f => call_l (lv := 2) (cM_prices (h := h) (σ 82 j) 0 (σ 84 (5 + j))) (Nat.le_of_ble_eq_true rfl) f
  simp only [k_Md_worthOf, e_Md_worthOf_0, e_Md_worthOf_1, e_Md_worthOf_4, e_Md_worthOf_5, e_Md_worthOf_6, e_Md_worthOf_7, e_Md_worthOf_8, e_Md_worthOf_11, e_Md_worthOf_12, e_Md_worthOf_13, e_Md_worthOf_14, e_Md_worthOf_15, e_Md_worthOf_18, m_get, m_put, m_ia, m_is, m_la, m_ls, fl_sf, fl_sa, fl_sl, fl_sq, ar_sf, ar_sa, ar_sl, ar_sq, lr_sf, lr_sa, lr_sl, lr_sq, qr_sf, qr_sa, qr_sl, qr_sq, sf_1, sf_2, sa_1, sa_2, sl_1, sl_2, Option.isSome_some, Option.map_some, Option.map_none, Option.toList_some, Option.toList_none, List.nil_append, List.cons_append, List.singleton_append, if_true, if_false, ↓reduceIte, and_self, and_true, true_and, and_false, false_and, not_true, not_false_iff, reduceCtorEq, Nat.reduceEqDiff, Nat.reduceAdd, Nat.reduceSub, Nat.reduceMul, Nat.reduceLT, Nat.reduceLeDiff, Nat.reduceBEq, eq_self, ne_eq, Nat.add_eq_zero_iff, Nat.add_left_cancel_iff, Nat.add_right_cancel_iff, Nat.left_eq_add, Nat.add_eq_left, Bool.true_or, Bool.or_true, Bool.or_self, or_self, or_true, true_or, or_false, false_or, decide_true, decide_false, i_10, i_01, hR H 75 9 11 82 rfl rfl, hR H 75 9 18 84 rfl rfl, hA H 82 0 6 rfl rfl, hA H 84 0 24 rfl rfl, i6, c6, i5, c5, a5, c1]
theorem cM_dueOf (H : Hp h σ τ v s q e1 e2) {j : Nat} (hj : j < 6) : xC M_Md_dueOf [.ref 75, .int (nI j)] h = some (some (.int (if σ 84 (11 + j) = σ 81 j then 0 else if τ 75 17 - σ 84 (5 + j) < τ 75 16 + σ 84 (17 + j) / 2 then τ 75 17 - σ 84 (5 + j) else τ 75 16 + σ 84 (17 + j) / 2)), h) := by
  have i6 := xin_nI hj (by decide)
  have c6 := nI_clamp (show j < 2 ^ 31 by omega)
  have i5 := xin_nI (show 5 + j < 24 by omega) (by decide)
  have c5 := nI_clamp (show 5 + j < 2 ^ 31 by omega)
  have i11 := xin_nI (show 11 + j < 24 by omega) (by decide)
  have c11 := nI_clamp (show 11 + j < 2 ^ 31 by omega)
  have i17 := xin_nI (show 17 + j < 24 by omega) (by decide)
  have c17 := nI_clamp (show 17 + j < 2 ^ 31 by omega)
  by_cases z : σ 84 (11 + j) = σ 81 j
  · simp only [k_Md_dueOf, e_Md_dueOf_0, e_Md_dueOf_1, e_Md_dueOf_4, e_Md_dueOf_5, e_Md_dueOf_8, e_Md_dueOf_9, e_Md_dueOf_10, e_Md_dueOf_11, e_Md_dueOf_12, e_Md_dueOf_13, e_Md_dueOf_14, e_Md_dueOf_15, e_Md_dueOf_18, e_Md_dueOf_19, e_Md_dueOf_22, e_Md_dueOf_24, e_Md_dueOf_25, e_Md_dueOf_26, e_Md_dueOf_27, e_Md_dueOf_28, e_Md_dueOf_29, e_Md_dueOf_30, e_Md_dueOf_31, e_Md_dueOf_32, e_Md_dueOf_35, e_Md_dueOf_37, e_Md_dueOf_38, e_Md_dueOf_39, e_Md_dueOf_40, e_Md_dueOf_41, e_Md_dueOf_44, e_Md_dueOf_45, e_Md_dueOf_46, e_Md_dueOf_49, e_Md_dueOf_50, e_Md_dueOf_53, e_Md_dueOf_54, e_Md_dueOf_55, e_Md_dueOf_58, e_Md_dueOf_59, e_Md_dueOf_62, e_Md_dueOf_63, m_get, m_put, m_ia, m_is, m_la, m_ls, fl_sf, fl_sa, fl_sl, fl_sq, ar_sf, ar_sa, ar_sl, ar_sq, lr_sf, lr_sa, lr_sl, lr_sq, qr_sf, qr_sa, qr_sl, qr_sq, sf_1, sf_2, sa_1, sa_2, sl_1, sl_2, Option.isSome_some, Option.map_some, Option.map_none, Option.toList_some, Option.toList_none, List.nil_append, List.cons_append, List.singleton_append, if_true, if_false, ↓reduceIte, and_self, and_true, true_and, and_false, false_and, not_true, not_false_iff, reduceCtorEq, Nat.reduceEqDiff, Nat.reduceAdd, Nat.reduceSub, Nat.reduceMul, Nat.reduceLT, Nat.reduceLeDiff, Nat.reduceBEq, eq_self, ne_eq, Nat.add_eq_zero_iff, Nat.add_left_cancel_iff, Nat.add_right_cancel_iff, Nat.left_eq_add, Nat.add_eq_left, Bool.true_or, Bool.or_true, Bool.or_self, or_self, or_true, true_or, or_false, false_or, decide_true, decide_false, i_10, i_01, hR H 75 9 10 81 rfl rfl, hR H 75 9 18 84 rfl rfl, hA H 81 0 6 rfl rfl, hA H 84 0 24 rfl rfl, hI H 75 9 17 rfl rfl, hI H 75 9 16 rfl rfl, i6, c6, i5, c5, i11, c11, i17, c17, a5, a11, a17, z, i_20]
  · by_cases z2 : τ 75 17 - σ 84 (5 + j) ≤ τ 75 16 + σ 84 (17 + j) / 2
    · simp only [k_Md_dueOf, e_Md_dueOf_0, e_Md_dueOf_1, e_Md_dueOf_4, e_Md_dueOf_5, e_Md_dueOf_8, e_Md_dueOf_9, e_Md_dueOf_10, e_Md_dueOf_11, e_Md_dueOf_12, e_Md_dueOf_13, e_Md_dueOf_14, e_Md_dueOf_15, e_Md_dueOf_18, e_Md_dueOf_19, e_Md_dueOf_22, e_Md_dueOf_24, e_Md_dueOf_25, e_Md_dueOf_26, e_Md_dueOf_27, e_Md_dueOf_28, e_Md_dueOf_29, e_Md_dueOf_30, e_Md_dueOf_31, e_Md_dueOf_32, e_Md_dueOf_35, e_Md_dueOf_37, e_Md_dueOf_38, e_Md_dueOf_39, e_Md_dueOf_40, e_Md_dueOf_41, e_Md_dueOf_44, e_Md_dueOf_45, e_Md_dueOf_46, e_Md_dueOf_49, e_Md_dueOf_50, e_Md_dueOf_53, e_Md_dueOf_54, e_Md_dueOf_55, e_Md_dueOf_58, e_Md_dueOf_59, e_Md_dueOf_62, e_Md_dueOf_63, m_get, m_put, m_ia, m_is, m_la, m_ls, fl_sf, fl_sa, fl_sl, fl_sq, ar_sf, ar_sa, ar_sl, ar_sq, lr_sf, lr_sa, lr_sl, lr_sq, qr_sf, qr_sa, qr_sl, qr_sq, sf_1, sf_2, sa_1, sa_2, sl_1, sl_2, Option.isSome_some, Option.map_some, Option.map_none, Option.toList_some, Option.toList_none, List.nil_append, List.cons_append, List.singleton_append, if_true, if_false, ↓reduceIte, and_self, and_true, true_and, and_false, false_and, not_true, not_false_iff, reduceCtorEq, Nat.reduceEqDiff, Nat.reduceAdd, Nat.reduceSub, Nat.reduceMul, Nat.reduceLT, Nat.reduceLeDiff, Nat.reduceBEq, eq_self, ne_eq, Nat.add_eq_zero_iff, Nat.add_left_cancel_iff, Nat.add_right_cancel_iff, Nat.left_eq_add, Nat.add_eq_left, Bool.true_or, Bool.or_true, Bool.or_self, or_self, or_true, true_or, or_false, false_or, decide_true, decide_false, i_10, i_01, hR H 75 9 10 81 rfl rfl, hR H 75 9 18 84 rfl rfl, hA H 81 0 6 rfl rfl, hA H 84 0 24 rfl rfl, hI H 75 9 17 rfl rfl, hI H 75 9 16 rfl rfl, i6, c6, i5, c5, i11, c11, i17, c17, a5, a11, a17, z, i_20, z2]
      by_cases z3 : τ 75 17 - σ 84 (5 + j) < τ 75 16 + σ 84 (17 + j) / 2
      · rw [if_pos z3]
      · rw [if_neg z3, Int32.le_antisymm z2 (Int32.not_lt.mp z3)]
    · have z3 : ¬ τ 75 17 - σ 84 (5 + j) < τ 75 16 + σ 84 (17 + j) / 2 := fun w => z2 (Int32.le_of_lt w)
      simp only [k_Md_dueOf, e_Md_dueOf_0, e_Md_dueOf_1, e_Md_dueOf_4, e_Md_dueOf_5, e_Md_dueOf_8, e_Md_dueOf_9, e_Md_dueOf_10, e_Md_dueOf_11, e_Md_dueOf_12, e_Md_dueOf_13, e_Md_dueOf_14, e_Md_dueOf_15, e_Md_dueOf_18, e_Md_dueOf_19, e_Md_dueOf_22, e_Md_dueOf_24, e_Md_dueOf_25, e_Md_dueOf_26, e_Md_dueOf_27, e_Md_dueOf_28, e_Md_dueOf_29, e_Md_dueOf_30, e_Md_dueOf_31, e_Md_dueOf_32, e_Md_dueOf_35, e_Md_dueOf_37, e_Md_dueOf_38, e_Md_dueOf_39, e_Md_dueOf_40, e_Md_dueOf_41, e_Md_dueOf_44, e_Md_dueOf_45, e_Md_dueOf_46, e_Md_dueOf_49, e_Md_dueOf_50, e_Md_dueOf_53, e_Md_dueOf_54, e_Md_dueOf_55, e_Md_dueOf_58, e_Md_dueOf_59, e_Md_dueOf_62, e_Md_dueOf_63, m_get, m_put, m_ia, m_is, m_la, m_ls, fl_sf, fl_sa, fl_sl, fl_sq, ar_sf, ar_sa, ar_sl, ar_sq, lr_sf, lr_sa, lr_sl, lr_sq, qr_sf, qr_sa, qr_sl, qr_sq, sf_1, sf_2, sa_1, sa_2, sl_1, sl_2, Option.isSome_some, Option.map_some, Option.map_none, Option.toList_some, Option.toList_none, List.nil_append, List.cons_append, List.singleton_append, if_true, if_false, ↓reduceIte, and_self, and_true, true_and, and_false, false_and, not_true, not_false_iff, reduceCtorEq, Nat.reduceEqDiff, Nat.reduceAdd, Nat.reduceSub, Nat.reduceMul, Nat.reduceLT, Nat.reduceLeDiff, Nat.reduceBEq, eq_self, ne_eq, Nat.add_eq_zero_iff, Nat.add_left_cancel_iff, Nat.add_right_cancel_iff, Nat.left_eq_add, Nat.add_eq_left, Bool.true_or, Bool.or_true, Bool.or_self, or_self, or_true, true_or, or_false, false_or, decide_true, decide_false, i_10, i_01, hR H 75 9 10 81 rfl rfl, hR H 75 9 18 84 rfl rfl, hA H 81 0 6 rfl rfl, hA H 84 0 24 rfl rfl, hI H 75 9 17 rfl rfl, hI H 75 9 16 rfl rfl, i6, c6, i5, c5, i11, c11, i17, c17, a5, a11, a17, z, i_20, z2, z3]
theorem cM_greatest (H : Hp h σ τ v s q e1 e2) (ht : τ 75 14 = nI t) (h6 : t ≤ 6) : xC M_Md_greatest [.ref 75] h = some (some (.int (ggr (fun j => σ 84 (5 + j)) t)), h) := by
  simp only [k_Md_greatest, e_Md_greatest_0, e_Md_greatest_1, e_Md_greatest_2, e_Md_greatest_3]
  have key := loop_dn (t := t) (P := fun i => xR none 0 M_Md_greatest 4 [some (.ref 75), some (.int (ggr (fun j => σ 84 (5 + j)) i)), some (.int (nI i))] [] h = some (some (.int (ggr (fun j => σ 84 (5 + j)) t)), h)) ?_ ?_ 0 (Nat.zero_le _)
  · rw [nI_0] at key
    exact key
  · simp only [e_Md_greatest_4, e_Md_greatest_5, e_Md_greatest_6, e_Md_greatest_9, e_Md_greatest_43, e_Md_greatest_44, m_get, m_put, m_ia, m_is, m_la, m_ls, fl_sf, fl_sa, fl_sl, fl_sq, ar_sf, ar_sa, ar_sl, ar_sq, lr_sf, lr_sa, lr_sl, lr_sq, qr_sf, qr_sa, qr_sl, qr_sq, sf_1, sf_2, sa_1, sa_2, sl_1, sl_2, Option.isSome_some, Option.map_some, Option.map_none, Option.toList_some, Option.toList_none, List.nil_append, List.cons_append, List.singleton_append, if_true, if_false, ↓reduceIte, and_self, and_true, true_and, and_false, false_and, not_true, not_false_iff, reduceCtorEq, Nat.reduceEqDiff, Nat.reduceAdd, Nat.reduceSub, Nat.reduceMul, Nat.reduceLT, Nat.reduceLeDiff, Nat.reduceBEq, eq_self, ne_eq, Nat.add_eq_zero_iff, Nat.add_left_cancel_iff, Nat.add_right_cancel_iff, Nat.left_eq_add, Nat.add_eq_left, Bool.true_or, Bool.or_true, Bool.or_self, or_self, or_true, true_or, or_false, false_or, decide_true, decide_false, i_10, i_01, hI H 75 9 14 rfl rfl, ht, Int32.le_refl]
  · intro i hi ih
    have q1 : ¬ nI t ≤ nI i := nI_ge hi (by omega)
    have i5 := xin_nI (show 5 + i < 24 by omega) (by decide)
    have c5 := nI_clamp (show 5 + i < 2 ^ 31 by omega)
    rw [← nI_1, ggr] at ih
    rw [e_Md_greatest_4]
    by_cases z : ggr (fun j => σ 84 (5 + j)) i < σ 84 (5 + i)
    · have z' : ¬ σ 84 (5 + i) ≤ ggr (fun j => σ 84 (5 + j)) i := Int32.not_le.mpr z
      rw [if_pos z] at ih
      simp only [e_Md_greatest_5, e_Md_greatest_6, e_Md_greatest_9, e_Md_greatest_12, e_Md_greatest_13, e_Md_greatest_16, e_Md_greatest_17, e_Md_greatest_18, e_Md_greatest_19, e_Md_greatest_20, e_Md_greatest_21, e_Md_greatest_24, e_Md_greatest_25, e_Md_greatest_28, e_Md_greatest_29, e_Md_greatest_30, e_Md_greatest_31, e_Md_greatest_32, e_Md_greatest_35, e_Md_greatest_36, e_Md_greatest_37, e_Md_greatest_40, m_get, m_put, m_ia, m_is, m_la, m_ls, fl_sf, fl_sa, fl_sl, fl_sq, ar_sf, ar_sa, ar_sl, ar_sq, lr_sf, lr_sa, lr_sl, lr_sq, qr_sf, qr_sa, qr_sl, qr_sq, sf_1, sf_2, sa_1, sa_2, sl_1, sl_2, Option.isSome_some, Option.map_some, Option.map_none, Option.toList_some, Option.toList_none, List.nil_append, List.cons_append, List.singleton_append, if_true, if_false, ↓reduceIte, and_self, and_true, true_and, and_false, false_and, not_true, not_false_iff, reduceCtorEq, Nat.reduceEqDiff, Nat.reduceAdd, Nat.reduceSub, Nat.reduceMul, Nat.reduceLT, Nat.reduceLeDiff, Nat.reduceBEq, eq_self, ne_eq, Nat.add_eq_zero_iff, Nat.add_left_cancel_iff, Nat.add_right_cancel_iff, Nat.left_eq_add, Nat.add_eq_left, Bool.true_or, Bool.or_true, Bool.or_self, or_self, or_true, true_or, or_false, false_or, decide_true, decide_false, i_10, i_01, hI H 75 9 14 rfl rfl, hR H 75 9 18 84 rfl rfl, hA H 84 0 24 rfl rfl, ht, q1, i5, c5, a5, z']
      exact ih
    · have z' : σ 84 (5 + i) ≤ ggr (fun j => σ 84 (5 + j)) i := Int32.not_lt.mp z
      rw [if_neg z] at ih
      simp only [e_Md_greatest_5, e_Md_greatest_6, e_Md_greatest_9, e_Md_greatest_12, e_Md_greatest_13, e_Md_greatest_16, e_Md_greatest_17, e_Md_greatest_18, e_Md_greatest_19, e_Md_greatest_20, e_Md_greatest_21, e_Md_greatest_24, e_Md_greatest_25, e_Md_greatest_28, e_Md_greatest_29, e_Md_greatest_30, e_Md_greatest_31, e_Md_greatest_32, e_Md_greatest_35, e_Md_greatest_36, e_Md_greatest_37, e_Md_greatest_40, m_get, m_put, m_ia, m_is, m_la, m_ls, fl_sf, fl_sa, fl_sl, fl_sq, ar_sf, ar_sa, ar_sl, ar_sq, lr_sf, lr_sa, lr_sl, lr_sq, qr_sf, qr_sa, qr_sl, qr_sq, sf_1, sf_2, sa_1, sa_2, sl_1, sl_2, Option.isSome_some, Option.map_some, Option.map_none, Option.toList_some, Option.toList_none, List.nil_append, List.cons_append, List.singleton_append, if_true, if_false, ↓reduceIte, and_self, and_true, true_and, and_false, false_and, not_true, not_false_iff, reduceCtorEq, Nat.reduceEqDiff, Nat.reduceAdd, Nat.reduceSub, Nat.reduceMul, Nat.reduceLT, Nat.reduceLeDiff, Nat.reduceBEq, eq_self, ne_eq, Nat.add_eq_zero_iff, Nat.add_left_cancel_iff, Nat.add_right_cancel_iff, Nat.left_eq_add, Nat.add_eq_left, Bool.true_or, Bool.or_true, Bool.or_self, or_self, or_true, true_or, or_false, false_or, decide_true, decide_false, i_10, i_01, hI H 75 9 14 rfl rfl, hR H 75 9 18 84 rfl rfl, hA H 84 0 24 rfl rfl, ht, q1, i5, c5, a5, z']
      exact ih
theorem ggr_cg {f g : Nat → Int32} : ∀ t, (∀ j, j < t → f j = g j) → ggr f t = ggr g t
  | 0, _ => rfl
  | t + 1, hh => by rw [ggr, ggr, ggr_cg t (fun j hj => hh j (by omega)), hh t (by omega)]
theorem sm_cg {f g : Nat → Int32} : ∀ t, (∀ j, j < t → f j = g j) → sm f t = sm g t
  | 0, _ => rfl
  | t + 1, hh => by rw [sm, sm, sm_cg t (fun j hj => hh j (by omega)), hh t (by omega)]
theorem bts_cg {f g : Nat → Int32} {x : Int32} : ∀ t, (∀ j, j < t → f j = g j) → bts f x t = bts g x t
  | 0, _ => rfl
  | t + 1, hh => by rw [bts, bts, bts_cg t (fun j hj => hh j (by omega)), hh t (by omega)]
theorem wt_cg {a b f g : Nat → Int32} : ∀ t, (∀ j, j < t → a j = b j ∧ f j = g j) → wt a f t = wt b g t
  | 0, _ => rfl
  | t + 1, hh => by rw [wt, wt, wt_cg t (fun j hj => hh j (by omega)), (hh t (by omega)).1, (hh t (by omega)).2]
theorem cno_cg {a b f g : Nat → Int32} : ∀ t, (∀ j, j < t → a j = b j ∧ f j = g j) → cno a f t = cno b g t
  | 0, _ => rfl
  | t + 1, hh => by rw [cno, cno, cno_cg t (fun j hj => hh j (by omega)), (hh t (by omega)).1, (hh t (by omega)).2]
end MQ
