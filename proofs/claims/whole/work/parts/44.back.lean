section BACK
variable {h : xH}
theorem op_back (R : Rel h) (x k : Int32) : Op h M_Sp_back M_Md_back [.int x, .int k] := by
  have R0 := R
  obtain ⟨σ, τ, v, s, q, e, p, t, n, len, A, X, z, H, rv, rt, ra, rk, rs, ry⟩ := R
  have rv0 := rv
  have ra0 := ra
  obtain ⟨⟨⟨vp, vt, vn⟩, p5, t6, n8⟩, ⟨vl, vc, vd, up, uu, un⟩, ⟨bl, bc⟩, ag1, ag2, ag3, bo, bn, ks, st⟩ := rv
  obtain ⟨⟨hA, hX, x26, x23, x24⟩, ⟨qb, qi⟩, hh⟩ := ra
  have m := H.2.2.2
  have hv := m.1.1
  have fh := m.1.2.1
  have V := Hp_vil H hv
  have c1 := call_v (lv := 2) (c_hasThing V x) (Vil_is V) (by decide) (Nat.le_of_ble_eq_true rfl)
  have d1 := call_v (lv := 2) (cM_isThing H vt t6 x) (Hp_75 H) (by decide) (Nat.le_of_ble_eq_true rfl)
  have d2 := fun f => call_l (lv := 2) (c_inI (h := h) k (y := 0) (z := 9) (yl := 0) (zl := 9) rfl rfl) (Nat.le_of_ble_eq_true rfl) f
  rw [uu] at c1
  by_cases zt : 0 ≤ x ∧ x < nI t
  case neg =>
    simp only [if_neg zt] at c1 d1
    exact ⟨.int (-1), h, h, by simp only [k_Sp_back, e_Sp_back_0, e_Sp_back_1, e_Sp_back_4, e_Sp_back_5, e_Sp_back_8, e_Sp_back_11, e_Sp_back_12, m_get, m_put, m_ia, m_is, m_la, m_ls, fl_sf, fl_sa, fl_sl, fl_sq, ar_sf, ar_sa, ar_sl, ar_sq, lr_sf, lr_sa, lr_sl, lr_sq, qr_sf, qr_sa, qr_sl, qr_sq, sf_1, sf_2, sa_1, sa_2, sl_1, sl_2, Option.isSome_some, Option.map_some, Option.map_none, Option.toList_some, Option.toList_none, List.nil_append, List.cons_append, List.singleton_append, if_true, if_false, ↓reduceIte, and_self, and_true, true_and, and_false, false_and, not_true, not_false_iff, reduceCtorEq, Nat.reduceEqDiff, Nat.reduceAdd, Nat.reduceSub, Nat.reduceMul, Nat.reduceLT, Nat.reduceLeDiff, Nat.reduceBEq, eq_self, ne_eq, Nat.add_eq_zero_iff, Nat.add_left_cancel_iff, Nat.add_right_cancel_iff, Nat.left_eq_add, Nat.add_eq_left, Bool.true_or, Bool.or_true, Bool.or_self, or_self, or_true, true_or, or_false, false_or, decide_true, decide_false, i_10, i_01, fh, c1], by simp only [k_Md_back, e_Md_back_0, e_Md_back_1, e_Md_back_2, e_Md_back_5, e_Md_back_8, e_Md_back_9, m_get, m_put, m_ia, m_is, m_la, m_ls, fl_sf, fl_sa, fl_sl, fl_sq, ar_sf, ar_sa, ar_sl, ar_sq, lr_sf, lr_sa, lr_sl, lr_sq, qr_sf, qr_sa, qr_sl, qr_sq, sf_1, sf_2, sa_1, sa_2, sl_1, sl_2, Option.isSome_some, Option.map_some, Option.map_none, Option.toList_some, Option.toList_none, List.nil_append, List.cons_append, List.singleton_append, if_true, if_false, ↓reduceIte, and_self, and_true, true_and, and_false, false_and, not_true, not_false_iff, reduceCtorEq, Nat.reduceEqDiff, Nat.reduceAdd, Nat.reduceSub, Nat.reduceMul, Nat.reduceLT, Nat.reduceLeDiff, Nat.reduceBEq, eq_self, ne_eq, Nat.add_eq_zero_iff, Nat.add_left_cancel_iff, Nat.add_right_cancel_iff, Nat.left_eq_add, Nat.add_eq_left, Bool.true_or, Bool.or_true, Bool.or_self, or_self, or_true, true_or, or_false, false_or, decide_true, decide_false, i_10, i_01, d1], R0, Hp_1 H, Hp_75 H⟩
  simp only [if_pos zt] at c1 d1
  by_cases zk : 0 ≤ k ∧ k ≤ 9
  case neg =>
    simp only [if_neg zk] at d2
    refine ⟨.int (-2), h, h, ?_, by simp only [k_Md_back, e_Md_back_0, e_Md_back_1, e_Md_back_2, e_Md_back_5, e_Md_back_8, e_Md_back_9, e_Md_back_10, e_Md_back_11, e_Md_back_12, e_Md_back_13, e_Md_back_16, e_Md_back_19, e_Md_back_22, e_Md_back_24, m_get, m_put, m_ia, m_is, m_la, m_ls, fl_sf, fl_sa, fl_sl, fl_sq, ar_sf, ar_sa, ar_sl, ar_sq, lr_sf, lr_sa, lr_sl, lr_sq, qr_sf, qr_sa, qr_sl, qr_sq, sf_1, sf_2, sa_1, sa_2, sl_1, sl_2, Option.isSome_some, Option.map_some, Option.map_none, Option.toList_some, Option.toList_none, List.nil_append, List.cons_append, List.singleton_append, if_true, if_false, ↓reduceIte, and_self, and_true, true_and, and_false, false_and, not_true, not_false_iff, reduceCtorEq, Nat.reduceEqDiff, Nat.reduceAdd, Nat.reduceSub, Nat.reduceMul, Nat.reduceLT, Nat.reduceLeDiff, Nat.reduceBEq, eq_self, ne_eq, Nat.add_eq_zero_iff, Nat.add_left_cancel_iff, Nat.add_right_cancel_iff, Nat.left_eq_add, Nat.add_eq_left, Bool.true_or, Bool.or_true, Bool.or_self, or_self, or_true, true_or, or_false, false_or, decide_true, decide_false, i_10, i_01, d1, d2], R0, Hp_1 H, Hp_75 H⟩
    by_cases k1 : k < 0
    · simp only [k_Sp_back, e_Sp_back_0, e_Sp_back_1, e_Sp_back_4, e_Sp_back_5, e_Sp_back_8, e_Sp_back_11, e_Sp_back_12, e_Sp_back_13, e_Sp_back_14, e_Sp_back_17, e_Sp_back_18, e_Sp_back_20, e_Sp_back_23, e_Sp_back_25, m_get, m_put, m_ia, m_is, m_la, m_ls, fl_sf, fl_sa, fl_sl, fl_sq, ar_sf, ar_sa, ar_sl, ar_sq, lr_sf, lr_sa, lr_sl, lr_sq, qr_sf, qr_sa, qr_sl, qr_sq, sf_1, sf_2, sa_1, sa_2, sl_1, sl_2, Option.isSome_some, Option.map_some, Option.map_none, Option.toList_some, Option.toList_none, List.nil_append, List.cons_append, List.singleton_append, if_true, if_false, ↓reduceIte, and_self, and_true, true_and, and_false, false_and, not_true, not_false_iff, reduceCtorEq, Nat.reduceEqDiff, Nat.reduceAdd, Nat.reduceSub, Nat.reduceMul, Nat.reduceLT, Nat.reduceLeDiff, Nat.reduceBEq, eq_self, ne_eq, Nat.add_eq_zero_iff, Nat.add_left_cancel_iff, Nat.add_right_cancel_iff, Nat.left_eq_add, Nat.add_eq_left, Bool.true_or, Bool.or_true, Bool.or_self, or_self, or_true, true_or, or_false, false_or, decide_true, decide_false, i_10, i_01, fh, c1, k1]
    · have k2 : ¬ k ≤ 9 := fun w => zk ⟨Int32.not_lt.mp k1, w⟩
      simp only [k_Sp_back, e_Sp_back_0, e_Sp_back_1, e_Sp_back_4, e_Sp_back_5, e_Sp_back_8, e_Sp_back_11, e_Sp_back_12, e_Sp_back_13, e_Sp_back_14, e_Sp_back_17, e_Sp_back_18, e_Sp_back_20, e_Sp_back_23, e_Sp_back_25, m_get, m_put, m_ia, m_is, m_la, m_ls, fl_sf, fl_sa, fl_sl, fl_sq, ar_sf, ar_sa, ar_sl, ar_sq, lr_sf, lr_sa, lr_sl, lr_sq, qr_sf, qr_sa, qr_sl, qr_sq, sf_1, sf_2, sa_1, sa_2, sl_1, sl_2, Option.isSome_some, Option.map_some, Option.map_none, Option.toList_some, Option.toList_none, List.nil_append, List.cons_append, List.singleton_append, if_true, if_false, ↓reduceIte, and_self, and_true, true_and, and_false, false_and, not_true, not_false_iff, reduceCtorEq, Nat.reduceEqDiff, Nat.reduceAdd, Nat.reduceSub, Nat.reduceMul, Nat.reduceLT, Nat.reduceLeDiff, Nat.reduceBEq, eq_self, ne_eq, Nat.add_eq_zero_iff, Nat.add_left_cancel_iff, Nat.add_right_cancel_iff, Nat.left_eq_add, Nat.add_eq_left, Bool.true_or, Bool.or_true, Bool.or_self, or_self, or_true, true_or, or_false, false_or, decide_true, decide_false, i_10, i_01, fh, c1, k1, k2]
  simp only [if_pos zk] at d2
  have k1 : ¬ k < 0 := Int32.not_lt.mpr zk.1
  have k2 : k ≤ 9 := zk.2
  obtain ⟨j, hj, rfl⟩ := idx (by omega) zt
  obtain ⟨kk, hkk, ek⟩ := nI_of2 (M := 9) (n := 9) rfl k1 k2
  obtain ⟨g1, g2, g3, g4, g5⟩ := ag2 j hj
  obtain ⟨⟨gg, hgg, eg⟩, ⟨y, hy, ey⟩, hom⟩ := st j hj
  have i6 := xin_nI (show j < 6 by omega) (by decide)
  have c6 := nI_clamp (show j < 2 ^ 31 by omega)
  have i5 := xin_nI (show 5 + j < 24 by omega) (by decide)
  have c5 := nI_clamp (show 5 + j < 2 ^ 31 by omega)
  have i11 := xin_nI (show 11 + j < 24 by omega) (by decide)
  have c11 := nI_clamp (show 11 + j < 2 ^ 31 by omega)
  have i17 := xin_nI (show 17 + j < 24 by omega) (by decide)
  have c17 := nI_clamp (show 17 + j < 2 ^ 31 by omega)
  have iy := xin_nI (show y < 5 by omega) (by decide)
  have iy24 := xin_nI (show y < 24 by omega) (by decide)
  have cy := nI_clamp (show y < 2 ^ 31 by omega)
  have f10 := hR H 75 9 10 81 rfl rfl
  have f11 := hR H 75 9 11 82 rfl rfl
  have f17 := hI H 75 9 17 rfl rfl
  have r81 := H.1 81 6 rfl
  rw [show rty 81 = 0 from rfl] at r81
  have r82 := H.1 82 6 rfl
  rw [show rty 82 = 0 from rfl] at r82
  have f18 := hR H 75 9 18 84 rfl rfl
  have r84 := H.1 84 24 rfl
  rw [show rty 84 = 0 from rfl] at r84
  have c3 := call_v (lv := 2) (c_isOut V (show j < 6 by omega)) (Vil_is V) (by decide) (Nat.le_of_ble_eq_true rfl)
  have c4 := call_v (lv := 2) (c_due V (show j < 6 by omega)) (Vil_is V) (by decide) (Nat.le_of_ble_eq_true rfl)
  have d4 := call_v (lv := 2) (cM_dueOf H (show j < 6 by omega)) (Hp_75 H) (by decide) (Nat.le_of_ble_eq_true rfl)
  rw [g4, g1] at c3
  rw [g1, g3, g4, g5, vl, vc] at c4
  generalize hdu : (if σ 84 (11 + j) = σ 81 j then 0 else if τ 75 17 - σ 84 (5 + j) < τ 75 16 + σ 84 (17 + j) / 2 then τ 75 17 - σ 84 (5 + j) else τ 75 16 + σ 84 (17 + j) / 2) = du at c4 d4
  have V0 := V
  obtain ⟨⟨v0, v1, v2, v3, v4, v5⟩, ⟨w1, w2, w3, w4, w5, w6, w7, w8, w9, w10⟩, ⟨a1, a2, a3, a4, a5', a6, a7, a8, a9, a10⟩⟩ := V
  by_cases w1' : σ 84 (11 + j) = σ 81 j
  · simp only [if_pos w1'] at c3
    exact ⟨.int (-3), h, h, by simp only [k_Sp_back, e_Sp_back_0, e_Sp_back_1, e_Sp_back_4, e_Sp_back_5, e_Sp_back_8, e_Sp_back_11, e_Sp_back_12, e_Sp_back_13, e_Sp_back_14, e_Sp_back_17, e_Sp_back_18, e_Sp_back_20, e_Sp_back_23, e_Sp_back_25, e_Sp_back_26, e_Sp_back_27, e_Sp_back_30, e_Sp_back_31, e_Sp_back_34, e_Sp_back_37, e_Sp_back_38, e_Sp_back_39, e_Sp_back_42, e_Sp_back_43, e_Sp_back_46, e_Sp_back_49, e_Sp_back_50, e_Sp_back_53, e_Sp_back_56, e_Sp_back_57, e_Sp_back_58, e_Sp_back_59, e_Sp_back_60, e_Sp_back_61, e_Sp_back_64, e_Sp_back_67, e_Sp_back_70, e_Sp_back_72, m_get, m_put, m_ia, m_is, m_la, m_ls, fl_sf, fl_sa, fl_sl, fl_sq, ar_sf, ar_sa, ar_sl, ar_sq, lr_sf, lr_sa, lr_sl, lr_sq, qr_sf, qr_sa, qr_sl, qr_sq, sf_1, sf_2, sa_1, sa_2, sl_1, sl_2, Option.isSome_some, Option.map_some, Option.map_none, Option.toList_some, Option.toList_none, List.nil_append, List.cons_append, List.singleton_append, if_true, if_false, ↓reduceIte, and_self, and_true, true_and, and_false, false_and, not_true, not_false_iff, reduceCtorEq, Nat.reduceEqDiff, Nat.reduceAdd, Nat.reduceSub, Nat.reduceMul, Nat.reduceLT, Nat.reduceLeDiff, Nat.reduceBEq, eq_self, ne_eq, Nat.add_eq_zero_iff, Nat.add_left_cancel_iff, Nat.add_right_cancel_iff, Nat.left_eq_add, Nat.add_eq_left, Bool.true_or, Bool.or_true, Bool.or_self, or_self, or_true, true_or, or_false, false_or, decide_true, decide_false, i_10, i_01, fh, c1, c3, k1, k2], by simp only [k_Md_back, e_Md_back_0, e_Md_back_1, e_Md_back_2, e_Md_back_5, e_Md_back_8, e_Md_back_9, e_Md_back_10, e_Md_back_11, e_Md_back_12, e_Md_back_13, e_Md_back_16, e_Md_back_19, e_Md_back_22, e_Md_back_24, e_Md_back_25, e_Md_back_26, e_Md_back_29, e_Md_back_31, e_Md_back_32, e_Md_back_33, e_Md_back_34, e_Md_back_35, e_Md_back_36, e_Md_back_37, e_Md_back_40, e_Md_back_41, e_Md_back_42, e_Md_back_45, e_Md_back_46, e_Md_back_47, e_Md_back_48, e_Md_back_51, e_Md_back_54, e_Md_back_55, e_Md_back_58, e_Md_back_59, e_Md_back_60, e_Md_back_61, e_Md_back_62, e_Md_back_63, e_Md_back_64, e_Md_back_65, e_Md_back_68, e_Md_back_71, e_Md_back_73, m_get, m_put, m_ia, m_is, m_la, m_ls, fl_sf, fl_sa, fl_sl, fl_sq, ar_sf, ar_sa, ar_sl, ar_sq, lr_sf, lr_sa, lr_sl, lr_sq, qr_sf, qr_sa, qr_sl, qr_sq, sf_1, sf_2, sa_1, sa_2, sl_1, sl_2, Option.isSome_some, Option.map_some, Option.map_none, Option.toList_some, Option.toList_none, List.nil_append, List.cons_append, List.singleton_append, if_true, if_false, ↓reduceIte, and_self, and_true, true_and, and_false, false_and, not_true, not_false_iff, reduceCtorEq, Nat.reduceEqDiff, Nat.reduceAdd, Nat.reduceSub, Nat.reduceMul, Nat.reduceLT, Nat.reduceLeDiff, Nat.reduceBEq, eq_self, ne_eq, Nat.add_eq_zero_iff, Nat.add_left_cancel_iff, Nat.add_right_cancel_iff, Nat.left_eq_add, Nat.add_eq_left, Bool.true_or, Bool.or_true, Bool.or_self, or_self, or_true, true_or, or_false, false_or, decide_true, decide_false, i_10, i_01, d1, d2, f10, r81, f18, r84, i6, c6, i11, c11, a11, w1'], R0, Hp_1 H, Hp_75 H⟩
  simp only [if_neg w1'] at c3
  by_cases w2' : k < du
  · exact ⟨.int (-3), h, h, by simp only [k_Sp_back, e_Sp_back_0, e_Sp_back_1, e_Sp_back_4, e_Sp_back_5, e_Sp_back_8, e_Sp_back_11, e_Sp_back_12, e_Sp_back_13, e_Sp_back_14, e_Sp_back_17, e_Sp_back_18, e_Sp_back_20, e_Sp_back_23, e_Sp_back_25, e_Sp_back_26, e_Sp_back_27, e_Sp_back_30, e_Sp_back_31, e_Sp_back_34, e_Sp_back_37, e_Sp_back_38, e_Sp_back_39, e_Sp_back_42, e_Sp_back_43, e_Sp_back_46, e_Sp_back_49, e_Sp_back_50, e_Sp_back_53, e_Sp_back_56, e_Sp_back_57, e_Sp_back_58, e_Sp_back_59, e_Sp_back_60, e_Sp_back_61, e_Sp_back_64, e_Sp_back_67, e_Sp_back_70, e_Sp_back_72, m_get, m_put, m_ia, m_is, m_la, m_ls, fl_sf, fl_sa, fl_sl, fl_sq, ar_sf, ar_sa, ar_sl, ar_sq, lr_sf, lr_sa, lr_sl, lr_sq, qr_sf, qr_sa, qr_sl, qr_sq, sf_1, sf_2, sa_1, sa_2, sl_1, sl_2, Option.isSome_some, Option.map_some, Option.map_none, Option.toList_some, Option.toList_none, List.nil_append, List.cons_append, List.singleton_append, if_true, if_false, ↓reduceIte, and_self, and_true, true_and, and_false, false_and, not_true, not_false_iff, reduceCtorEq, Nat.reduceEqDiff, Nat.reduceAdd, Nat.reduceSub, Nat.reduceMul, Nat.reduceLT, Nat.reduceLeDiff, Nat.reduceBEq, eq_self, ne_eq, Nat.add_eq_zero_iff, Nat.add_left_cancel_iff, Nat.add_right_cancel_iff, Nat.left_eq_add, Nat.add_eq_left, Bool.true_or, Bool.or_true, Bool.or_self, or_self, or_true, true_or, or_false, false_or, decide_true, decide_false, i_10, i_01, fh, c1, c3, c4, k1, k2, w2'], by simp only [k_Md_back, e_Md_back_0, e_Md_back_1, e_Md_back_2, e_Md_back_5, e_Md_back_8, e_Md_back_9, e_Md_back_10, e_Md_back_11, e_Md_back_12, e_Md_back_13, e_Md_back_16, e_Md_back_19, e_Md_back_22, e_Md_back_24, e_Md_back_25, e_Md_back_26, e_Md_back_29, e_Md_back_31, e_Md_back_32, e_Md_back_33, e_Md_back_34, e_Md_back_35, e_Md_back_36, e_Md_back_37, e_Md_back_40, e_Md_back_41, e_Md_back_42, e_Md_back_45, e_Md_back_46, e_Md_back_47, e_Md_back_48, e_Md_back_51, e_Md_back_54, e_Md_back_55, e_Md_back_58, e_Md_back_59, e_Md_back_60, e_Md_back_61, e_Md_back_62, e_Md_back_63, e_Md_back_64, e_Md_back_65, e_Md_back_68, e_Md_back_71, e_Md_back_73, m_get, m_put, m_ia, m_is, m_la, m_ls, fl_sf, fl_sa, fl_sl, fl_sq, ar_sf, ar_sa, ar_sl, ar_sq, lr_sf, lr_sa, lr_sl, lr_sq, qr_sf, qr_sa, qr_sl, qr_sq, sf_1, sf_2, sa_1, sa_2, sl_1, sl_2, Option.isSome_some, Option.map_some, Option.map_none, Option.toList_some, Option.toList_none, List.nil_append, List.cons_append, List.singleton_append, if_true, if_false, ↓reduceIte, and_self, and_true, true_and, and_false, false_and, not_true, not_false_iff, reduceCtorEq, Nat.reduceEqDiff, Nat.reduceAdd, Nat.reduceSub, Nat.reduceMul, Nat.reduceLT, Nat.reduceLeDiff, Nat.reduceBEq, eq_self, ne_eq, Nat.add_eq_zero_iff, Nat.add_left_cancel_iff, Nat.add_right_cancel_iff, Nat.left_eq_add, Nat.add_eq_left, Bool.true_or, Bool.or_true, Bool.or_self, or_self, or_true, true_or, or_false, false_or, decide_true, decide_false, i_10, i_01, d1, d2, d4, f10, r81, f18, r84, i6, c6, i11, c11, a11, w1', w2'], R0, Hp_1 H, Hp_75 H⟩
  by_cases w3' : σ 84 (5 + j) + k ≤ τ 75 17
  case neg =>
    exact ⟨.int (-3), h, h, by simp only [k_Sp_back, e_Sp_back_0, e_Sp_back_1, e_Sp_back_4, e_Sp_back_5, e_Sp_back_8, e_Sp_back_11, e_Sp_back_12, e_Sp_back_13, e_Sp_back_14, e_Sp_back_17, e_Sp_back_18, e_Sp_back_20, e_Sp_back_23, e_Sp_back_25, e_Sp_back_26, e_Sp_back_27, e_Sp_back_30, e_Sp_back_31, e_Sp_back_34, e_Sp_back_37, e_Sp_back_38, e_Sp_back_39, e_Sp_back_42, e_Sp_back_43, e_Sp_back_46, e_Sp_back_49, e_Sp_back_50, e_Sp_back_53, e_Sp_back_56, e_Sp_back_57, e_Sp_back_58, e_Sp_back_59, e_Sp_back_60, e_Sp_back_61, e_Sp_back_64, e_Sp_back_67, e_Sp_back_70, e_Sp_back_72, m_get, m_put, m_ia, m_is, m_la, m_ls, fl_sf, fl_sa, fl_sl, fl_sq, ar_sf, ar_sa, ar_sl, ar_sq, lr_sf, lr_sa, lr_sl, lr_sq, qr_sf, qr_sa, qr_sl, qr_sq, sf_1, sf_2, sa_1, sa_2, sl_1, sl_2, Option.isSome_some, Option.map_some, Option.map_none, Option.toList_some, Option.toList_none, List.nil_append, List.cons_append, List.singleton_append, if_true, if_false, ↓reduceIte, and_self, and_true, true_and, and_false, false_and, not_true, not_false_iff, reduceCtorEq, Nat.reduceEqDiff, Nat.reduceAdd, Nat.reduceSub, Nat.reduceMul, Nat.reduceLT, Nat.reduceLeDiff, Nat.reduceBEq, eq_self, ne_eq, Nat.add_eq_zero_iff, Nat.add_left_cancel_iff, Nat.add_right_cancel_iff, Nat.left_eq_add, Nat.add_eq_left, Bool.true_or, Bool.or_true, Bool.or_self, or_self, or_true, true_or, or_false, false_or, decide_true, decide_false, i_10, i_01, fh, c1, c3, c4, v0, v1, v2, v3, v4, v5, w1, w2, w3, w4, w5, w6, w7, w8, w9, w10, a1, a2, a3, a4, a5', a6, a7, a8, a9, a10, i6, c6, g3, vc, k1, k2, w2', w3'], by simp only [k_Md_back, e_Md_back_0, e_Md_back_1, e_Md_back_2, e_Md_back_5, e_Md_back_8, e_Md_back_9, e_Md_back_10, e_Md_back_11, e_Md_back_12, e_Md_back_13, e_Md_back_16, e_Md_back_19, e_Md_back_22, e_Md_back_24, e_Md_back_25, e_Md_back_26, e_Md_back_29, e_Md_back_31, e_Md_back_32, e_Md_back_33, e_Md_back_34, e_Md_back_35, e_Md_back_36, e_Md_back_37, e_Md_back_40, e_Md_back_41, e_Md_back_42, e_Md_back_45, e_Md_back_46, e_Md_back_47, e_Md_back_48, e_Md_back_51, e_Md_back_54, e_Md_back_55, e_Md_back_58, e_Md_back_59, e_Md_back_60, e_Md_back_61, e_Md_back_62, e_Md_back_63, e_Md_back_64, e_Md_back_65, e_Md_back_68, e_Md_back_71, e_Md_back_73, m_get, m_put, m_ia, m_is, m_la, m_ls, fl_sf, fl_sa, fl_sl, fl_sq, ar_sf, ar_sa, ar_sl, ar_sq, lr_sf, lr_sa, lr_sl, lr_sq, qr_sf, qr_sa, qr_sl, qr_sq, sf_1, sf_2, sa_1, sa_2, sl_1, sl_2, Option.isSome_some, Option.map_some, Option.map_none, Option.toList_some, Option.toList_none, List.nil_append, List.cons_append, List.singleton_append, if_true, if_false, ↓reduceIte, and_self, and_true, true_and, and_false, false_and, not_true, not_false_iff, reduceCtorEq, Nat.reduceEqDiff, Nat.reduceAdd, Nat.reduceSub, Nat.reduceMul, Nat.reduceLT, Nat.reduceLeDiff, Nat.reduceBEq, eq_self, ne_eq, Nat.add_eq_zero_iff, Nat.add_left_cancel_iff, Nat.add_right_cancel_iff, Nat.left_eq_add, Nat.add_eq_left, Bool.true_or, Bool.or_true, Bool.or_self, or_self, or_true, true_or, or_false, false_or, decide_true, decide_false, i_10, i_01, d1, d2, d4, f10, r81, f18, f17, r84, i6, c6, i5, c5, a5, i11, c11, a11, w1', w2', w3'], R0, Hp_1 H, Hp_75 H⟩
  have c7 := fun f => call_l (lv := 2) (c_costOf (h := h) (σ 82 j) (σ 84 (5 + j)) k) (Nat.le_of_ble_eq_true rfl) f
  have d7 := fun f => call_l (lv := 2) (cM_prices (h := h) (σ 82 j) (σ 84 (5 + j)) k) (Nat.le_of_ble_eq_true rfl) f
  generalize hcc : cst (σ 82 j) (σ 84 (5 + j)) k.toNatClampNeg = cc at c7 d7
  have gy := (ag1 y hy).1
  by_cases w4' : cc ≤ σ 84 y
  case neg =>
    rw [ey] at w1'
    exact ⟨.int (-3), h, h, by simp only [k_Sp_back, e_Sp_back_0, e_Sp_back_1, e_Sp_back_4, e_Sp_back_5, e_Sp_back_8, e_Sp_back_11, e_Sp_back_12, e_Sp_back_13, e_Sp_back_14, e_Sp_back_17, e_Sp_back_18, e_Sp_back_20, e_Sp_back_23, e_Sp_back_25, e_Sp_back_26, e_Sp_back_27, e_Sp_back_30, e_Sp_back_31, e_Sp_back_34, e_Sp_back_37, e_Sp_back_38, e_Sp_back_39, e_Sp_back_42, e_Sp_back_43, e_Sp_back_46, e_Sp_back_49, e_Sp_back_50, e_Sp_back_53, e_Sp_back_56, e_Sp_back_57, e_Sp_back_58, e_Sp_back_59, e_Sp_back_60, e_Sp_back_61, e_Sp_back_64, e_Sp_back_67, e_Sp_back_70, e_Sp_back_72, e_Sp_back_73, e_Sp_back_74, e_Sp_back_77, e_Sp_back_80, e_Sp_back_81, e_Sp_back_82, e_Sp_back_83, e_Sp_back_84, e_Sp_back_87, e_Sp_back_90, e_Sp_back_91, e_Sp_back_92, e_Sp_back_93, e_Sp_back_96, e_Sp_back_99, e_Sp_back_100, e_Sp_back_101, e_Sp_back_102, e_Sp_back_105, e_Sp_back_107, e_Sp_back_109, e_Sp_back_110, e_Sp_back_113, e_Sp_back_116, e_Sp_back_117, e_Sp_back_118, e_Sp_back_121, e_Sp_back_123, m_get, m_put, m_ia, m_is, m_la, m_ls, fl_sf, fl_sa, fl_sl, fl_sq, ar_sf, ar_sa, ar_sl, ar_sq, lr_sf, lr_sa, lr_sl, lr_sq, qr_sf, qr_sa, qr_sl, qr_sq, sf_1, sf_2, sa_1, sa_2, sl_1, sl_2, Option.isSome_some, Option.map_some, Option.map_none, Option.toList_some, Option.toList_none, List.nil_append, List.cons_append, List.singleton_append, if_true, if_false, ↓reduceIte, and_self, and_true, true_and, and_false, false_and, not_true, not_false_iff, reduceCtorEq, Nat.reduceEqDiff, Nat.reduceAdd, Nat.reduceSub, Nat.reduceMul, Nat.reduceLT, Nat.reduceLeDiff, Nat.reduceBEq, eq_self, ne_eq, Nat.add_eq_zero_iff, Nat.add_left_cancel_iff, Nat.add_right_cancel_iff, Nat.left_eq_add, Nat.add_eq_left, Bool.true_or, Bool.or_true, Bool.or_self, or_self, or_true, true_or, or_false, false_or, decide_true, decide_false, i_10, i_01, fh, c1, c3, c4, c7, v0, v1, v2, v3, v4, v5, w1, w2, w3, w4, w5, w6, w7, w8, w9, w10, a1, a2, a3, a4, a5', a6, a7, a8, a9, a10, i6, c6, g2, g3, g4, ey, iy, cy, gy, vc, k1, k2, w2', w3', w4'], by simp only [k_Md_back, e_Md_back_0, e_Md_back_1, e_Md_back_2, e_Md_back_5, e_Md_back_8, e_Md_back_9, e_Md_back_10, e_Md_back_11, e_Md_back_12, e_Md_back_13, e_Md_back_16, e_Md_back_19, e_Md_back_22, e_Md_back_24, e_Md_back_25, e_Md_back_26, e_Md_back_29, e_Md_back_31, e_Md_back_32, e_Md_back_33, e_Md_back_34, e_Md_back_35, e_Md_back_36, e_Md_back_37, e_Md_back_40, e_Md_back_41, e_Md_back_42, e_Md_back_45, e_Md_back_46, e_Md_back_47, e_Md_back_48, e_Md_back_51, e_Md_back_54, e_Md_back_55, e_Md_back_58, e_Md_back_59, e_Md_back_60, e_Md_back_61, e_Md_back_62, e_Md_back_63, e_Md_back_64, e_Md_back_65, e_Md_back_68, e_Md_back_71, e_Md_back_73, e_Md_back_74, e_Md_back_75, e_Md_back_78, e_Md_back_79, e_Md_back_80, e_Md_back_81, e_Md_back_84, e_Md_back_85, e_Md_back_86, e_Md_back_87, e_Md_back_88, e_Md_back_89, e_Md_back_92, e_Md_back_94, e_Md_back_96, e_Md_back_97, e_Md_back_100, e_Md_back_101, e_Md_back_102, e_Md_back_105, e_Md_back_107, m_get, m_put, m_ia, m_is, m_la, m_ls, fl_sf, fl_sa, fl_sl, fl_sq, ar_sf, ar_sa, ar_sl, ar_sq, lr_sf, lr_sa, lr_sl, lr_sq, qr_sf, qr_sa, qr_sl, qr_sq, sf_1, sf_2, sa_1, sa_2, sl_1, sl_2, Option.isSome_some, Option.map_some, Option.map_none, Option.toList_some, Option.toList_none, List.nil_append, List.cons_append, List.singleton_append, if_true, if_false, ↓reduceIte, and_self, and_true, true_and, and_false, false_and, not_true, not_false_iff, reduceCtorEq, Nat.reduceEqDiff, Nat.reduceAdd, Nat.reduceSub, Nat.reduceMul, Nat.reduceLT, Nat.reduceLeDiff, Nat.reduceBEq, eq_self, ne_eq, Nat.add_eq_zero_iff, Nat.add_left_cancel_iff, Nat.add_right_cancel_iff, Nat.left_eq_add, Nat.add_eq_left, Bool.true_or, Bool.or_true, Bool.or_self, or_self, or_true, true_or, or_false, false_or, decide_true, decide_false, i_10, i_01, d1, d2, d4, d7, f10, f11, r81, r82, f18, f17, r84, i6, c6, i5, c5, a5, i11, c11, a11, ey, iy24, cy, w1', w2', w3', w4'], R0, Hp_1 H, Hp_75 H⟩
  -- it is given back
  obtain ⟨h1, q', B, dn, H1, B15, BA, hB1, hB2, qb', qi', qo⟩ := c_next H hA x26 qb qi 1
  have qB := qb' B (by omega)
  have cn := call_v (lv := 2) dn (by rw [show xmo M_ActRow_next = 1 from rfl, hR H 26 1 0 27 rfl rfl]; rfl) (by decide) (Nat.le_of_ble_eq_true rfl)
  have V1 := Hp_vil H1 hv
  have ev : ∀ k, ut (ut τ 26 1 (nI (B + 1))) (q' B) 0 1 v k = τ v k := fun k => (by simp only [ut]; repeat rw [if_neg (by omega)])
  simp only [ev] at V1
  have oc : ocl (q' B) = 0 := (ocl_act _ (by omega) qB.1).1
  have oi : ∀ k, k < 6 → ifd (q' B) k = true := (ocl_act _ (by omega) qB.1).2
  have fo1 := hO H1 qB.1 qB.2 (k := 1) (by omega)
  have fo2 := hO H1 qB.1 qB.2 (k := 2) (by omega)
  have fo3 := hO H1 qB.1 qB.2 (k := 3) (by omega)
  have fo4 := hO H1 qB.1 qB.2 (k := 4) (by omega)
  have fo5 := hO H1 qB.1 qB.2 (k := 5) (by omega)
  have H2 := Hp_sf (c := 0) (Hp_sf (c := 0) (Hp_sf (c := 0) (Hp_sf (c := 0) (Hp_sf (c := 0) H1 (a := q' B) (k := 1) oc (oi 1 (by omega)) (nI j)) (a := q' B) (k := 2) oc (oi 2 (by omega)) (nI y)) (a := q' B) (k := 3) oc (oi 3 (by omega)) (σ 84 (17 + j))) (a := q' B) (k := 4) oc (oi 4 (by omega)) k) (a := q' B) (k := 5) oc (oi 5 (by omega)) cc
  have H3 := Hp_sa (t := 0) (n := 6) (Hp_sa (t := 0) (n := 5) H2 (a := v + 1) (by rcases hv with rfl | rfl <;> rfl) (by rcases hv with rfl | rfl <;> rfl) (upd (σ (v + 1)) y (σ 84 y - cc))) (a := v + 5) (by rcases hv with rfl | rfl <;> rfl) (by rcases hv with rfl | rfl <;> rfl) (upd (σ (v + 5)) j (σ 84 (5 + j) + k))
  have H4 := Hp_sa (t := 0) (n := 6) (Hp_sa (t := 0) (n := 6) H3 (a := v + 6) (by rcases hv with rfl | rfl <;> rfl) (by rcases hv with rfl | rfl <;> rfl) (upd (σ (v + 6)) j (σ 81 j))) (a := v + 7) (by rcases hv with rfl | rfl <;> rfl) (by rcases hv with rfl | rfl <;> rfl) (upd (σ (v + 7)) j 0)
  have V3 := Hp_vil H3 hv
  have cbh := c_bringHome V3 (show j < 6 by omega)
  have s6 : us (us σ (v + 1) (upd (σ (v + 1)) y (σ 84 y - cc))) (v + 5) (upd (σ (v + 5)) j (σ 84 (5 + j) + k)) (v + 6) = σ (v + 6) := (by first | rfl | (simp only [us, ut]; repeat rw [if_neg (by omega)]))
  have s7 : us (us σ (v + 1) (upd (σ (v + 1)) y (σ 84 y - cc))) (v + 5) (upd (σ (v + 5)) j (σ 84 (5 + j) + k)) (v + 7) = σ (v + 7) := (by first | rfl | (simp only [us, ut]; repeat rw [if_neg (by omega)]))
  have s3 : us (us σ (v + 1) (upd (σ (v + 1)) y (σ 84 y - cc))) (v + 5) (upd (σ (v + 5)) j (σ 84 (5 + j) + k)) (v + 3) = σ (v + 3) := (by first | rfl | (simp only [us, ut]; repeat rw [if_neg (by omega)]))
  rw [s6, s7, s3, g1] at cbh
  have cb := call_v (lv := 2) cbh (Vil_is V3) (by decide) (Nat.le_of_ble_eq_true rfl)
  -- the reference
  have tt : ∀ b l, b < 26 ∨ 43 < b → ut (ut (ut (ut (ut (ut (ut τ 26 1 (nI (B + 1))) (q' B) 0 1) (q' B) 1 (nI j)) (q' B) 2 (nI y)) (q' B) 3 (σ 84 (17 + j))) (q' B) 4 k) (q' B) 5 cc b l = τ b l := fun b l hn => (by simp only [ut]; repeat rw [if_neg (by omega)])
  have ss : ∀ a, ¬ (a = v + 1 ∨ (v + 5 ≤ a ∧ a ≤ v + 7)) → us (us (us (us σ (v + 1) (upd (σ (v + 1)) y (σ 84 y - cc))) (v + 5) (upd (σ (v + 5)) j (σ 84 (5 + j) + k))) (v + 6) (upd (σ (v + 6)) j (σ 81 j))) (v + 7) (upd (σ (v + 7)) j 0) a = σ a := fun a hn => (by first | rfl | (simp only [us, ut]; repeat rw [if_neg (by omega)]))
  have k1' := call_v (lv := 2) (cM_isThing H4 (t := t) (by rw [tt _ _ (by omega)]; exact vt) t6 (nI j)) (Hp_75 H4) (by decide) (Nat.le_of_ble_eq_true rfl)
  simp only [if_pos zt] at k1'
  have k4' := call_v (lv := 2) (cM_dueOf H4 (show j < 6 by omega)) (Hp_75 H4) (by decide) (Nat.le_of_ble_eq_true rfl)
  rw [ss 84 (by omega), ss 81 (by omega), tt _ 16 (by omega), tt _ 17 (by omega), hdu] at k4'
  obtain ⟨h5, d5, H5⟩ := cM_keepAct H4 hX hA (B := B) (by rw [tt _ _ (by omega)]; exact x24) (by rw [tt _ _ (by omega)]; exact x23) hB1 hB2
  have k5 := call_v (lv := 2) d5 (Hp_75 H4) (by decide) (Nat.le_of_ble_eq_true rfl)
  rw [ss 84 (by omega), ss 86 (by omega)] at H5
  have H6 := Hp_sa (t := 0) (n := 24) H5 (a := 84) rfl rfl (upd (upd (upd (upd (σ 84) y (σ 84 y - cc)) (5 + j) (σ 84 (5 + j) + k)) (11 + j) (σ 81 j)) (17 + j) 0)
  have tt4 : ∀ b l, ¬ (b = 75 ∧ (l = 23 ∨ l = 24)) → ut (ut (ut (ut (ut (ut (ut (ut (ut τ 26 1 (nI (B + 1))) (q' B) 0 1) (q' B) 1 (nI j)) (q' B) 2 (nI y)) (q' B) 3 (σ 84 (17 + j))) (q' B) 4 k) (q' B) 5 cc) 75 24 (nI ((X + 1) % 16))) 75 23 (nI (B + 1)) b l = ut (ut (ut (ut (ut (ut (ut τ 26 1 (nI (B + 1))) (q' B) 0 1) (q' B) 1 (nI j)) (q' B) 2 (nI y)) (q' B) 3 (σ 84 (17 + j))) (q' B) 4 k) (q' B) 5 cc b l := fun b l hn => by
    rw [ut, if_neg (by omega), ut, if_neg (by omega)]
  have ss5 : ∀ a, ¬ (a = v + 1 ∨ (v + 5 ≤ a ∧ a ≤ v + 7) ∨ a = 84 ∨ a = 86) → us (us (us (us (us (us σ (v + 1) (upd (σ (v + 1)) y (σ 84 y - cc))) (v + 5) (upd (σ (v + 5)) j (σ 84 (5 + j) + k))) (v + 6) (upd (σ (v + 6)) j (σ 81 j))) (v + 7) (upd (σ (v + 7)) j 0)) 86 (cpI (σ 86) (σ 84) (24 * X) 24)) 84 (upd (upd (upd (upd (σ 84) y (σ 84 y - cc)) (5 + j) (σ 84 (5 + j) + k)) (11 + j) (σ 81 j)) (17 + j) 0) a = σ a := fun a hn => by rw [us, if_neg (by omega), us, if_neg (by omega), ss a (by omega)]
  have y10 := hR H4 75 9 10 81 rfl rfl
  have y11 := hR H4 75 9 11 82 rfl rfl
  have y18 := hR H4 75 9 18 84 rfl rfl
  have y17 := hI H4 75 9 17 rfl rfl
  rw [tt _ _ (by omega)] at y17
  have z81 := H4.1 81 6 rfl
  rw [show rty 81 = 0 from rfl, ss 81 (by omega)] at z81
  have z82 := H4.1 82 6 rfl
  rw [show rty 82 = 0 from rfl, ss 82 (by omega)] at z82
  have z84 := H4.1 84 24 rfl
  rw [show rty 84 = 0 from rfl, ss 84 (by omega)] at z84
  have y18' := hR H5 75 9 18 84 rfl rfl
  have y10' := hR H5 75 9 10 81 rfl rfl
  have z84' := H5.1 84 24 rfl
  rw [show rty 84 = 0 from rfl, us, if_neg (by omega), ss 84 (by omega)] at z84'
  have z81' := H5.1 81 6 rfl
  rw [show rty 81 = 0 from rfl, us, if_neg (by omega), ss 81 (by omega)] at z81'
  refine ⟨.int cc, _, _, ?_, ?_, ⟨_, _, v, s, q', e, p, t, n, len, B + 1, (X + 1) % 16, z, H6, ?_, rlT_cg rt ⟨by rw [ss5 _ (by omega)], by rw [ss5 _ (by omega)]⟩ ⟨by rw [tt4 _ _ (by omega), tt _ _ (by omega)], by rw [tt4 _ _ (by omega), tt _ _ (by omega)]⟩, ?_, rlK_cg rk (fun a ha => by rw [ss5 _ (by omega)]) (fun b l hk => by rw [tt4 _ _ (by omega), tt _ _ (by omega)]), rlS_cg rs (fun a ha => by rw [ss5 _ (by omega)]) ⟨by rw [tt4 _ _ (by omega), tt _ _ (by omega)], by rw [tt4 _ _ (by omega), tt _ _ (by omega)]⟩, rlY_cg ry (by rw [ss5 _ (by omega)])⟩, Hp_1 H, Hp_75 H4⟩
  · have f5 := hR H 1 8 5 26 rfl rfl
    have fh1 := H1.2.2.2.1.2.1
    obtain ⟨⟨x0, x1, x2, x3, x4, x5⟩, ⟨t1, t2, t3, t4, t5, t6', t7, t8, t9, t10⟩, b1, b2, b3, b4, b5, b6, b7, b8, b9, b10⟩ := V1
    simp only [k_Sp_back, e_Sp_back_0, e_Sp_back_1, e_Sp_back_4, e_Sp_back_5, e_Sp_back_8, e_Sp_back_11, e_Sp_back_12, e_Sp_back_13, e_Sp_back_14, e_Sp_back_17, e_Sp_back_18, e_Sp_back_20, e_Sp_back_23, e_Sp_back_25, e_Sp_back_26, e_Sp_back_27, e_Sp_back_30, e_Sp_back_31, e_Sp_back_34, e_Sp_back_37, e_Sp_back_38, e_Sp_back_39, e_Sp_back_42, e_Sp_back_43, e_Sp_back_46, e_Sp_back_49, e_Sp_back_50, e_Sp_back_53, e_Sp_back_56, e_Sp_back_57, e_Sp_back_58, e_Sp_back_59, e_Sp_back_60, e_Sp_back_61, e_Sp_back_64, e_Sp_back_67, e_Sp_back_70, e_Sp_back_72, e_Sp_back_73, e_Sp_back_74, e_Sp_back_77, e_Sp_back_80, e_Sp_back_81, e_Sp_back_82, e_Sp_back_83, e_Sp_back_84, e_Sp_back_87, e_Sp_back_90, e_Sp_back_91, e_Sp_back_92, e_Sp_back_93, e_Sp_back_96, e_Sp_back_99, e_Sp_back_100, e_Sp_back_101, e_Sp_back_102, e_Sp_back_105, e_Sp_back_107, e_Sp_back_109, e_Sp_back_110, e_Sp_back_113, e_Sp_back_116, e_Sp_back_117, e_Sp_back_118, e_Sp_back_121, e_Sp_back_123, e_Sp_back_124, e_Sp_back_125, e_Sp_back_128, e_Sp_back_129, e_Sp_back_132, e_Sp_back_134, e_Sp_back_136, e_Sp_back_137, e_Sp_back_140, e_Sp_back_142, e_Sp_back_143, e_Sp_back_146, e_Sp_back_148, e_Sp_back_149, e_Sp_back_152, e_Sp_back_155, e_Sp_back_156, e_Sp_back_157, e_Sp_back_160, e_Sp_back_162, e_Sp_back_163, e_Sp_back_166, e_Sp_back_168, e_Sp_back_170, e_Sp_back_173, e_Sp_back_174, e_Sp_back_177, e_Sp_back_180, e_Sp_back_181, e_Sp_back_182, e_Sp_back_183, e_Sp_back_185, e_Sp_back_186, e_Sp_back_187, e_Sp_back_188, e_Sp_back_191, e_Sp_back_194, e_Sp_back_195, e_Sp_back_196, e_Sp_back_197, e_Sp_back_198, e_Sp_back_199, e_Sp_back_200, e_Sp_back_201, e_Sp_back_204, e_Sp_back_205, e_Sp_back_208, e_Sp_back_210, m_get, m_put, m_ia, m_is, m_la, m_ls, fl_sf, fl_sa, fl_sl, fl_sq, ar_sf, ar_sa, ar_sl, ar_sq, lr_sf, lr_sa, lr_sl, lr_sq, qr_sf, qr_sa, qr_sl, qr_sq, sf_1, sf_2, sa_1, sa_2, sl_1, sl_2, Option.isSome_some, Option.map_some, Option.map_none, Option.toList_some, Option.toList_none, List.nil_append, List.cons_append, List.singleton_append, if_true, if_false, ↓reduceIte, and_self, and_true, true_and, and_false, false_and, not_true, not_false_iff, reduceCtorEq, Nat.reduceEqDiff, Nat.reduceAdd, Nat.reduceSub, Nat.reduceMul, Nat.reduceLT, Nat.reduceLeDiff, Nat.reduceBEq, eq_self, ne_eq, Nat.add_eq_zero_iff, Nat.add_left_cancel_iff, Nat.add_right_cancel_iff, Nat.left_eq_add, Nat.add_eq_left, Bool.true_or, Bool.or_true, Bool.or_self, or_self, or_true, true_or, or_false, false_or, decide_true, decide_false, i_10, i_01, fh, f5, c1, c3, c4, c7, v0, v1, v2, v3, v4, v5, w1, w2, w3, w4, w5, w6, w7, w8, w9, w10, a1, a2, a3, a4, a5', a6, a7, a8, a9, a10, i6, c6, g2, g3, g4, g5, ey, iy, cy, gy, vc, k1, k2, w2', w3', w4', cn, fo1, fo2, fo3, fo4, fo5, fh1, t1, t5, t7, b1, b5, b7, cb]
  · have w1 := w1'
    rw [ey] at w1
    clear cb cbh V3 H6 H5
    generalize sa (sa (sa (sa (sf (sf (sf (sf (sf h1 (q' B) 0 1 (.int (nI j))) (q' B) 0 2 (.int (nI y))) (q' B) 0 3 (.int (σ 84 (17 + j)))) (q' B) 0 4 (.int k)) (q' B) 0 5 (.int cc)) (v + 1) 0 (upd (σ (v + 1)) y (σ 84 y - cc))) (v + 5) 0 (upd (σ (v + 5)) j (σ 84 (5 + j) + k))) (v + 6) 0 (upd (σ (v + 6)) j (σ 81 j))) (v + 7) 0 (upd (σ (v + 7)) j 0) = g at *
    have d2 := fun f => call_l (lv := 2) (c_inI (h := g) k (y := 0) (z := 9) (yl := 0) (zl := 9) rfl rfl) (Nat.le_of_ble_eq_true rfl) f
    simp only [if_pos zk] at d2
    have d7 := fun f => call_l (lv := 2) (cM_prices (h := g) (σ 82 j) (σ 84 (5 + j)) k) (Nat.le_of_ble_eq_true rfl) f
    rw [hcc] at d7
    have n1 : ¬ 5 + j = y := by omega
    have e5 : upd (σ 84) y (σ 84 y - cc) (5 + j) = σ 84 (5 + j) := up_lt n1
    simp only [k_Md_back, e_Md_back_0, e_Md_back_1, e_Md_back_2, e_Md_back_5, e_Md_back_8, e_Md_back_9, e_Md_back_10, e_Md_back_11, e_Md_back_12, e_Md_back_13, e_Md_back_16, e_Md_back_19, e_Md_back_22, e_Md_back_24, e_Md_back_25, e_Md_back_26, e_Md_back_29, e_Md_back_31, e_Md_back_32, e_Md_back_33, e_Md_back_34, e_Md_back_35, e_Md_back_36, e_Md_back_37, e_Md_back_40, e_Md_back_41, e_Md_back_42, e_Md_back_45, e_Md_back_46, e_Md_back_47, e_Md_back_48, e_Md_back_51, e_Md_back_54, e_Md_back_55, e_Md_back_58, e_Md_back_59, e_Md_back_60, e_Md_back_61, e_Md_back_62, e_Md_back_63, e_Md_back_64, e_Md_back_65, e_Md_back_68, e_Md_back_71, e_Md_back_73, e_Md_back_74, e_Md_back_75, e_Md_back_78, e_Md_back_79, e_Md_back_80, e_Md_back_81, e_Md_back_84, e_Md_back_85, e_Md_back_86, e_Md_back_87, e_Md_back_88, e_Md_back_89, e_Md_back_92, e_Md_back_94, e_Md_back_96, e_Md_back_97, e_Md_back_100, e_Md_back_101, e_Md_back_102, e_Md_back_105, e_Md_back_107, e_Md_back_108, e_Md_back_109, e_Md_back_112, e_Md_back_113, e_Md_back_116, e_Md_back_117, e_Md_back_118, e_Md_back_119, e_Md_back_121, e_Md_back_122, e_Md_back_123, e_Md_back_124, e_Md_back_127, e_Md_back_128, e_Md_back_129, e_Md_back_130, e_Md_back_131, e_Md_back_132, e_Md_back_133, e_Md_back_134, e_Md_back_135, e_Md_back_136, e_Md_back_139, e_Md_back_141, e_Md_back_142, e_Md_back_143, e_Md_back_144, e_Md_back_147, e_Md_back_148, e_Md_back_149, e_Md_back_150, e_Md_back_151, e_Md_back_154, e_Md_back_156, e_Md_back_157, e_Md_back_158, e_Md_back_159, e_Md_back_160, e_Md_back_162, m_get, m_put, m_ia, m_is, m_la, m_ls, fl_sf, fl_sa, fl_sl, fl_sq, ar_sf, ar_sa, ar_sl, ar_sq, lr_sf, lr_sa, lr_sl, lr_sq, qr_sf, qr_sa, qr_sl, qr_sq, sf_1, sf_2, sa_1, sa_2, sl_1, sl_2, sa_sa, Option.isSome_some, Option.map_some, Option.map_none, Option.toList_some, Option.toList_none, List.nil_append, List.cons_append, List.singleton_append, if_true, if_false, ↓reduceIte, and_self, and_true, true_and, and_false, false_and, not_true, not_false_iff, reduceCtorEq, Nat.reduceEqDiff, Nat.reduceAdd, Nat.reduceSub, Nat.reduceMul, Nat.reduceLT, Nat.reduceLeDiff, Nat.reduceBEq, eq_self, ne_eq, Nat.add_eq_zero_iff, Nat.add_left_cancel_iff, Nat.add_right_cancel_iff, Nat.left_eq_add, Nat.add_eq_left, Bool.true_or, Bool.or_true, Bool.or_self, or_self, or_true, true_or, or_false, false_or, decide_true, decide_false, i_10, i_01, k1', k4', k5, d2, d7, y10, y11, z81, z82, y18, z84, y17, y18', y10', z84', z81', i6, c6, i5, c5, i11, c11, i17, c17, iy24, cy, a5, a11, a17, ey, w1, w2', w3', w4', e5]
  · refine rlV_new rv0 (fun a ha => by rw [ss5 _ (by omega)]) (fun l hk => by rw [tt4 _ _ (by omega), tt _ _ (by omega)]) (fun l hk => by rw [tt4 _ _ (by omega), tt _ _ (by omega)]) (S := upd (upd (upd (upd (σ 84) y (σ 84 y - cc)) (5 + j) (σ 84 (5 + j) + k)) (11 + j) (σ 81 j)) (17 + j) 0) (by rw [us, if_pos rfl]) (by rw [tt4 _ _ (by omega), tt _ _ (by omega), up_lt (by omega), up_lt (by omega), up_lt (by omega), up_lt (by omega)]; exact vd) (fun i' hi' => ?_) (fun l hl => ?_) (fun l hl => ?_)
    · rw [up_lt (by omega), up_lt (by omega), up_lt (by omega)]
      simp only [us, if_true]
      rw [if_neg (by omega), if_neg (by omega), if_neg (by omega), if_neg (by omega), if_neg (by omega)]
      by_cases wo : i' = y
      · rw [wo, up_eq, up_eq]
      · rw [up_lt wo, up_lt wo]
        exact (ag1 i' hi').1
    · obtain ⟨z1, z2, z3, z4, z5⟩ := ag2 l hl
      rw [up_lt (k := 17 + j) (i := 5 + l) (by omega), up_lt (k := 11 + j) (i := 5 + l) (by omega), up_lt (k := 17 + j) (i := 11 + l) (by omega)]
      simp only [us, if_true]
      rw [if_neg (by omega), if_neg (by omega), if_neg (by omega), if_neg (by omega), if_neg (by omega), if_neg (by omega), if_neg (by omega), if_neg (by omega), if_neg (by omega)]
      refine ⟨?_, ?_, ?_⟩
      · by_cases wo : l = j
        · rw [wo, up_eq, up_eq]
        · rw [up_lt wo, up_lt (by omega), up_lt (by omega), z3]
      · by_cases wo : l = j
        · rw [wo, up_eq, up_eq]
        · rw [up_lt wo, up_lt (by omega), up_lt (by omega), up_lt (by omega), z4]
      · by_cases wo : l = j
        · rw [wo, up_eq, up_eq]
        · rw [up_lt wo, up_lt (by omega), up_lt (by omega), up_lt (by omega), up_lt (by omega), z5]
    · obtain ⟨z1, z2, z3⟩ := st l hl
      by_cases wo : l = j
      · subst wo
        rw [up_lt (k := 17 + l) (i := 5 + l) (by omega), up_lt (k := 11 + l) (i := 5 + l) (by omega), up_lt (k := 17 + l) (i := 11 + l) (by omega), up_eq, up_eq, up_eq]
        refine ⟨?_, (bo l hl).1, fun _ => rfl⟩
        obtain ⟨c, hc1, hc2, ec⟩ := bc
        rw [ec, eg, ek, nI_add] at w3'
        have := (nI_leI (by omega) (by omega)).mp w3'
        exact ⟨gg + kk, by omega, by rw [eg, ek, nI_add]⟩
      · rw [up_lt (k := 17 + j) (i := 5 + l) (by omega), up_lt (k := 11 + j) (i := 5 + l) (by omega), up_lt (k := 5 + j) (i := 5 + l) (by omega), up_lt (k := y) (i := 5 + l) (by omega), up_lt (k := 17 + j) (i := 11 + l) (by omega), up_lt (k := 11 + j) (i := 11 + l) (by omega), up_lt (k := 5 + j) (i := 11 + l) (by omega), up_lt (k := y) (i := 11 + l) (by omega), up_lt (k := 17 + j) (i := 17 + l) (by omega), up_lt (k := 11 + j) (i := 17 + l) (by omega), up_lt (k := 5 + j) (i := 17 + l) (by omega), up_lt (k := y) (i := 17 + l) (by omega)]
        exact ⟨z1, z2, z3⟩
  · refine rlA_push p5 t6 ra0 hB1 hB2 (by rw [ss5 _ (by omega)]) ?_ ?_ ?_ ?_ qb' qi' qo ?_ st ?_
    · rw [us, if_neg (by omega), us, if_pos rfl]
    · rw [tt4 _ _ (by omega)]
      simp only [ut]
      rw [if_neg (by omega), if_neg (by omega), if_neg (by omega), if_neg (by omega), if_neg (by omega), if_neg (by omega), if_pos ⟨trivial, trivial⟩]
    · rw [ut, if_pos ⟨rfl, rfl⟩]
    · rw [ut, if_neg (by omega), ut, if_pos ⟨rfl, rfl⟩]
    · intro l hk hne
      have b1 := qb' l hk
      have n1 : q' l ≠ q' B := fun w => hne (qi' l B hk (by omega) w)
      funext l'
      exact (by simp only [ut]; repeat rw [if_neg (by omega)])
    · have F : ∀ l, ut (ut (ut (ut (ut (ut (ut (ut (ut τ 26 1 (nI (B + 1))) (q' B) 0 1) (q' B) 1 (nI j)) (q' B) 2 (nI y)) (q' B) 3 (σ 84 (17 + j))) (q' B) 4 k) (q' B) 5 cc) 75 24 (nI ((X + 1) % 16))) 75 23 (nI (B + 1)) (q' B) l = ut (ut (ut (ut (ut (ut (ut τ 26 1 (nI (B + 1))) (q' B) 0 1) (q' B) 1 (nI j)) (q' B) 2 (nI y)) (q' B) 3 (σ 84 (17 + j))) (q' B) 4 k) (q' B) 5 cc (q' B) l := fun l => tt4 _ _ (by omega)
      have F0 : ut (ut (ut (ut (ut (ut (ut τ 26 1 (nI (B + 1))) (q' B) 0 1) (q' B) 1 (nI j)) (q' B) 2 (nI y)) (q' B) 3 (σ 84 (17 + j))) (q' B) 4 k) (q' B) 5 cc (q' B) 0 = 1 := by simp only [ut]; rw [if_neg (by omega), if_neg (by omega), if_neg (by omega), if_neg (by omega), if_neg (by omega), if_pos ⟨trivial, trivial⟩]
      have F1 : ut (ut (ut (ut (ut (ut (ut τ 26 1 (nI (B + 1))) (q' B) 0 1) (q' B) 1 (nI j)) (q' B) 2 (nI y)) (q' B) 3 (σ 84 (17 + j))) (q' B) 4 k) (q' B) 5 cc (q' B) 1 = nI j := by simp only [ut]; rw [if_neg (by omega), if_neg (by omega), if_neg (by omega), if_neg (by omega), if_pos ⟨trivial, trivial⟩]
      have F2 : ut (ut (ut (ut (ut (ut (ut τ 26 1 (nI (B + 1))) (q' B) 0 1) (q' B) 1 (nI j)) (q' B) 2 (nI y)) (q' B) 3 (σ 84 (17 + j))) (q' B) 4 k) (q' B) 5 cc (q' B) 2 = nI y := by simp only [ut]; rw [if_neg (by omega), if_neg (by omega), if_neg (by omega), if_pos ⟨trivial, trivial⟩]
      have F3 : ut (ut (ut (ut (ut (ut (ut τ 26 1 (nI (B + 1))) (q' B) 0 1) (q' B) 1 (nI j)) (q' B) 2 (nI y)) (q' B) 3 (σ 84 (17 + j))) (q' B) 4 k) (q' B) 5 cc (q' B) 3 = σ 84 (17 + j) := by simp only [ut]; rw [if_neg (by omega), if_neg (by omega), if_pos ⟨trivial, trivial⟩]
      have F4 : ut (ut (ut (ut (ut (ut (ut τ 26 1 (nI (B + 1))) (q' B) 0 1) (q' B) 1 (nI j)) (q' B) 2 (nI y)) (q' B) 3 (σ 84 (17 + j))) (q' B) 4 k) (q' B) 5 cc (q' B) 4 = k := by simp only [ut]; rw [if_neg (by omega), if_pos ⟨trivial, trivial⟩]
      have F5 : ut (ut (ut (ut (ut (ut (ut τ 26 1 (nI (B + 1))) (q' B) 0 1) (q' B) 1 (nI j)) (q' B) 2 (nI y)) (q' B) 3 (σ 84 (17 + j))) (q' B) 4 k) (q' B) 5 cc (q' B) 5 = cc := by simp only [ut]; rw [if_pos ⟨trivial, trivial⟩]
      refine Or.inr (Or.inr ⟨by rw [F, F0], j, y, hj, hy, by rw [F, F1], by rw [F, F2], fun l hl => ?_⟩)
      rw [F 2, F 3, F 4, F 5, F2, F3, F4, F5, us, if_pos rfl]
      by_cases l17 : l = 17 + j
      · rw [l17, up_eq]
      · rw [up_lt l17]
        by_cases l11 : l = 11 + j
        · rw [l11, up_eq, ey]
        · rw [up_lt l11]
          by_cases l5 : l = 5 + j
          · rw [l5, up_eq, up_lt (by omega), up_lt (by omega), up_eq, Int32.add_sub_cancel]
          · rw [up_lt l5]
            by_cases ly : l = y
            · rw [ly, up_eq, up_lt (by omega), up_lt (by omega), up_lt (by omega), up_eq, Int32.sub_add_cancel]
            · rw [up_lt ly, up_lt l17, up_lt l11, up_lt l5, up_lt ly]
end BACK
