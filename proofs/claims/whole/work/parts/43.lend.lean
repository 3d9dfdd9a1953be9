
def us1 (y : Int32) (k : Int32) : Int32 := (y.toUInt32 >>> (k.toUInt32 &&& Int32.toUInt32 31)).toInt32
def bc1 (x : Int32) : Int32 := x - (us1 x 1 &&& 1431655765)
def bc2 (y : Int32) : Int32 := (y &&& 858993459) + (us1 y 2 &&& 858993459)
def bc3 (y : Int32) : Int32 := (y + us1 y 4) &&& 252645135
def bc4 (y : Int32) : Int32 := y + us1 y 8
def bc5 (y : Int32) : Int32 := y + us1 y 16
theorem c_bitCount (x : Int32) (h : xH) : xC M_Int_bitCount [.int x] h = some (some (.int (bc5 (bc4 (bc3 (bc2 (bc1 x)))) &&& 63)), h) := by
  simp only [k_Int_bitCount, e_Int_bitCount_0, e_Int_bitCount_1, e_Int_bitCount_2, e_Int_bitCount_3, e_Int_bitCount_4, e_Int_bitCount_7, e_Int_bitCount_8, e_Int_bitCount_9, e_Int_bitCount_10, e_Int_bitCount_11, e_Int_bitCount_14, e_Int_bitCount_15, e_Int_bitCount_16, e_Int_bitCount_17, e_Int_bitCount_18, e_Int_bitCount_21, e_Int_bitCount_22, e_Int_bitCount_23, e_Int_bitCount_24, e_Int_bitCount_25, e_Int_bitCount_26, e_Int_bitCount_27, e_Int_bitCount_28, e_Int_bitCount_29, e_Int_bitCount_32, e_Int_bitCount_33, e_Int_bitCount_34, e_Int_bitCount_35, e_Int_bitCount_36, e_Int_bitCount_38, e_Int_bitCount_39, e_Int_bitCount_40, e_Int_bitCount_41, e_Int_bitCount_42, e_Int_bitCount_43, e_Int_bitCount_45, e_Int_bitCount_46, e_Int_bitCount_47, e_Int_bitCount_48, e_Int_bitCount_49, e_Int_bitCount_51, e_Int_bitCount_52, Option.isSome_some, Option.map_some, Option.map_none, Option.toList_some, Option.toList_none, List.nil_append, List.cons_append, List.singleton_append, if_true, if_false, ↓reduceIte, and_self, and_true, true_and, and_false, false_and, not_true, not_false_iff, reduceCtorEq, Nat.reduceEqDiff, Nat.reduceAdd, Nat.reduceSub, Nat.reduceMul, Nat.reduceLT, Nat.reduceLeDiff, Nat.reduceBEq, eq_self, ne_eq, Nat.add_eq_zero_iff, Nat.add_left_cancel_iff, Nat.add_right_cancel_iff, Nat.left_eq_add, Nat.add_eq_left, Bool.true_or, Bool.or_true, Bool.or_self, or_self, or_true, true_or, or_false, false_or, decide_true, decide_false, i_10, i_01]
  rfl
def pc6 (m : Nat) : Nat := m % 2 + m / 2 % 2 + m / 4 % 2 + m / 8 % 2 + m / 16 % 2 + m / 32 % 2
theorem bc_pc : ∀ m, m < 64 → bc5 (bc4 (bc3 (bc2 (bc1 (nI m))))) &&& 63 = nI (pc6 m) := by decide +kernel
def cnq (f : Nat → Int32) (x : Int32) : Nat → Int32
  | 0 => 0
  | n + 1 => cnq f x n + (if f n = x then 1 else 0)
theorem cnq_cg {f g : Nat → Int32} {x : Int32} : ∀ t, (∀ j, j < t → f j = g j) → cnq f x t = cnq g x t
  | 0, _ => rfl
  | t + 1, hh => by rw [cnq, cnq, cnq_cg t (fun j hj => hh j (by omega)), hh t (by omega)]
theorem or_pw : ∀ t, t < 6 → ∀ m, m < 64 → m < 2 ^ t → nI m ||| ((1 : Int32) <<< (nI t &&& 31)) = nI (m + 2 ^ t) ∧ pc6 (m + 2 ^ t) = pc6 m + 1 := by decide +kernel
theorem bts_pc {f : Nat → Int32} {x : Int32} : ∀ t, t ≤ 6 → ∃ m, m < 2 ^ t ∧ bts f x t = nI m ∧ cnq f x t = nI (pc6 m)
  | 0, _ => ⟨0, by decide, rfl, rfl⟩
  | t + 1, ht => by
    obtain ⟨m, h1, h2, h3⟩ := bts_pc (f := f) (x := x) t (by omega)
    have h64 : m < 64 := Nat.lt_of_lt_of_le h1 (Nat.pow_le_pow_right (n := 2) (by omega) (show t ≤ 6 by omega))
    have hp : 2 ^ (t + 1) = 2 * 2 ^ t := by rw [Nat.pow_succ]; omega
    rw [bts, cnq, h2, h3]
    by_cases w : f t = x
    · rw [if_pos w, if_pos w]
      obtain ⟨o1, o2⟩ := or_pw t (by omega) m h64 h1
      exact ⟨m + 2 ^ t, by omega, o1, by rw [o2, nI_1]⟩
    · rw [if_neg w, if_neg w]
      exact ⟨m, by omega, Int32.or_zero, by rw [Int32.add_zero]⟩
section LEND
variable {h : xH} {σ τ : Nat → Nat → Int32} {v s : Nat} {q : Nat → Nat} {e1 e2 : Int64} {p t n A X : Nat}
theorem cM_lendTail (H : Hp h σ τ v s q e1 e2) (ht : τ 75 14 = nI t) (t6 : t ≤ 6) (x1 x : Int32) : xR none 2 M_Md_lend 95 [some (.ref 75), some (.int x1), some (.int x), some (.int 0), some (.int 0)] [] h = some (some (.int (cnq (fun o => σ 84 (11 + o)) x t)), h) := by
  have f18 := hR H 75 9 18 84 rfl rfl
  have f14 := hI H 75 9 14 rfl rfl
  rw [ht] at f14
  have r84 := hA H 84 0 24 rfl rfl
  have key := loop_dn (t := t) (P := fun i => xR none 2 M_Md_lend 95 [some (.ref 75), some (.int x1), some (.int x), some (.int (cnq (fun o => σ 84 (11 + o)) x i)), some (.int (nI i))] [] h = some (some (.int (cnq (fun o => σ 84 (11 + o)) x t)), h)) ?_ ?_ 0 (Nat.zero_le _)
  · rw [nI_0] at key
    exact key
  · simp only [e_Md_lend_95, e_Md_lend_97, e_Md_lend_98, e_Md_lend_101, e_Md_lend_132, e_Md_lend_133, m_get, m_put, m_ia, m_is, m_la, m_ls, fl_sf, fl_sa, fl_sl, fl_sq, ar_sf, ar_sa, ar_sl, ar_sq, lr_sf, lr_sa, lr_sl, lr_sq, qr_sf, qr_sa, qr_sl, qr_sq, sf_1, sf_2, sa_1, sa_2, sl_1, sl_2, Option.isSome_some, Option.map_some, Option.map_none, Option.toList_some, Option.toList_none, List.nil_append, List.cons_append, List.singleton_append, if_true, if_false, ↓reduceIte, and_self, and_true, true_and, and_false, false_and, not_true, not_false_iff, reduceCtorEq, Nat.reduceEqDiff, Nat.reduceAdd, Nat.reduceSub, Nat.reduceMul, Nat.reduceLT, Nat.reduceLeDiff, Nat.reduceBEq, eq_self, ne_eq, Nat.add_eq_zero_iff, Nat.add_left_cancel_iff, Nat.add_right_cancel_iff, Nat.left_eq_add, Nat.add_eq_left, Bool.true_or, Bool.or_true, Bool.or_self, or_self, or_true, true_or, or_false, false_or, decide_true, decide_false, i_10, i_01, f14, Int32.le_refl]
  · intro i hi ih
    have q1 : ¬ nI t ≤ nI i := nI_ge hi (by omega)
    have i11 := xin_nI (show 11 + i < 24 by omega) (by decide)
    have c11 := nI_clamp (show 11 + i < 2 ^ 31 by omega)
    rw [← nI_1, cnq] at ih
    rw [e_Md_lend_95]
    by_cases w : σ 84 (11 + i) = x
    · rw [if_pos w] at ih
      simp only [e_Md_lend_97, e_Md_lend_98, e_Md_lend_101, e_Md_lend_104, e_Md_lend_105, e_Md_lend_106, e_Md_lend_109, e_Md_lend_111, e_Md_lend_113, e_Md_lend_114, e_Md_lend_115, e_Md_lend_116, e_Md_lend_119, e_Md_lend_120, e_Md_lend_123, e_Md_lend_124, e_Md_lend_125, e_Md_lend_126, e_Md_lend_129, m_get, m_put, m_ia, m_is, m_la, m_ls, fl_sf, fl_sa, fl_sl, fl_sq, ar_sf, ar_sa, ar_sl, ar_sq, lr_sf, lr_sa, lr_sl, lr_sq, qr_sf, qr_sa, qr_sl, qr_sq, sf_1, sf_2, sa_1, sa_2, sl_1, sl_2, Option.isSome_some, Option.map_some, Option.map_none, Option.toList_some, Option.toList_none, List.nil_append, List.cons_append, List.singleton_append, if_true, if_false, ↓reduceIte, and_self, and_true, true_and, and_false, false_and, not_true, not_false_iff, reduceCtorEq, Nat.reduceEqDiff, Nat.reduceAdd, Nat.reduceSub, Nat.reduceMul, Nat.reduceLT, Nat.reduceLeDiff, Nat.reduceBEq, eq_self, ne_eq, Nat.add_eq_zero_iff, Nat.add_left_cancel_iff, Nat.add_right_cancel_iff, Nat.left_eq_add, Nat.add_eq_left, Bool.true_or, Bool.or_true, Bool.or_self, or_self, or_true, true_or, or_false, false_or, decide_true, decide_false, i_10, i_01, f14, f18, r84, q1, i11, c11, a11, w]
      exact ih
    · rw [if_neg w] at ih
      simp only [e_Md_lend_97, e_Md_lend_98, e_Md_lend_101, e_Md_lend_104, e_Md_lend_105, e_Md_lend_106, e_Md_lend_109, e_Md_lend_111, e_Md_lend_113, e_Md_lend_114, e_Md_lend_115, e_Md_lend_116, e_Md_lend_119, e_Md_lend_120, e_Md_lend_123, e_Md_lend_124, e_Md_lend_125, e_Md_lend_126, e_Md_lend_129, m_get, m_put, m_ia, m_is, m_la, m_ls, fl_sf, fl_sa, fl_sl, fl_sq, ar_sf, ar_sa, ar_sl, ar_sq, lr_sf, lr_sa, lr_sl, lr_sq, qr_sf, qr_sa, qr_sl, qr_sq, sf_1, sf_2, sa_1, sa_2, sl_1, sl_2, Option.isSome_some, Option.map_some, Option.map_none, Option.toList_some, Option.toList_none, List.nil_append, List.cons_append, List.singleton_append, if_true, if_false, ↓reduceIte, and_self, and_true, true_and, and_false, false_and, not_true, not_false_iff, reduceCtorEq, Nat.reduceEqDiff, Nat.reduceAdd, Nat.reduceSub, Nat.reduceMul, Nat.reduceLT, Nat.reduceLeDiff, Nat.reduceBEq, eq_self, ne_eq, Nat.add_eq_zero_iff, Nat.add_left_cancel_iff, Nat.add_right_cancel_iff, Nat.left_eq_add, Nat.add_eq_left, Bool.true_or, Bool.or_true, Bool.or_self, or_self, or_true, true_or, or_false, false_or, decide_true, decide_false, i_10, i_01, f14, f18, r84, q1, i11, c11, a11, w]
      exact ih
theorem op_lend (R : Rel h) (x y : Int32) : Op h M_Sp_lend M_Md_lend [.int x, .int y] := by
  have R0 := R
  obtain ⟨σ, τ, v, s, q, e, p, t, n, len, A, X, z, H, rv, rt, ra, rk, rs, ry⟩ := R
  have rv0 := rv
  have ra0 := ra
  obtain ⟨⟨⟨vp, vt, vn⟩, p5, t6, n8⟩, ⟨vl, vc, vd, up, uu, un⟩, ⟨bl, bc⟩, ag1, ag2, ag3, bo, bn, ks, st⟩ := rv
  obtain ⟨⟨hA, hX, x26, x23, x24⟩, ⟨qb, qi⟩, hh⟩ := ra
  have m := H.2.2.2
  have hv := m.1.1
  have fh := m.1.2.1
  have V := Hp_vil H hv
  have c1 := call_v (lv := 2) (c_hasThing V x) (Vil_is V) (by decide) (Nat.le_of_ble_eq_true rfl)
  have c2 := call_v (lv := 2) (c_hasPerson V y) (Vil_is V) (by decide) (Nat.le_of_ble_eq_true rfl)
  have d1 := call_v (lv := 2) (cM_isThing H vt t6 x) (Hp_75 H) (by decide) (Nat.le_of_ble_eq_true rfl)
  have d2 := call_v (lv := 2) (cM_isPerson H vp p5 y) (Hp_75 H) (by decide) (Nat.le_of_ble_eq_true rfl)
  rw [uu] at c1
  rw [up] at c2
  by_cases zt : 0 ≤ x ∧ x < nI t
  case neg =>
    simp only [if_neg zt] at c1 d1
    exact ⟨.int (-1), h, h, by simp only [k_Sp_lend, e_Sp_lend_0, e_Sp_lend_1, e_Sp_lend_4, e_Sp_lend_5, e_Sp_lend_8, e_Sp_lend_11, e_Sp_lend_12, e_Sp_lend_15, e_Sp_lend_16, e_Sp_lend_19, e_Sp_lend_22, e_Sp_lend_23, m_get, m_put, m_ia, m_is, m_la, m_ls, fl_sf, fl_sa, fl_sl, fl_sq, ar_sf, ar_sa, ar_sl, ar_sq, lr_sf, lr_sa, lr_sl, lr_sq, qr_sf, qr_sa, qr_sl, qr_sq, sf_1, sf_2, sa_1, sa_2, sl_1, sl_2, Option.isSome_some, Option.map_some, Option.map_none, Option.toList_some, Option.toList_none, List.nil_append, List.cons_append, List.singleton_append, if_true, if_false, ↓reduceIte, and_self, and_true, true_and, and_false, false_and, not_true, not_false_iff, reduceCtorEq, Nat.reduceEqDiff, Nat.reduceAdd, Nat.reduceSub, Nat.reduceMul, Nat.reduceLT, Nat.reduceLeDiff, Nat.reduceBEq, eq_self, ne_eq, Nat.add_eq_zero_iff, Nat.add_left_cancel_iff, Nat.add_right_cancel_iff, Nat.left_eq_add, Nat.add_eq_left, Bool.true_or, Bool.or_true, Bool.or_self, or_self, or_true, true_or, or_false, false_or, decide_true, decide_false, i_10, i_01, fh, c1], by simp only [k_Md_lend, e_Md_lend_0, e_Md_lend_1, e_Md_lend_2, e_Md_lend_5, e_Md_lend_8, e_Md_lend_9, e_Md_lend_10, e_Md_lend_13, e_Md_lend_16, e_Md_lend_17, m_get, m_put, m_ia, m_is, m_la, m_ls, fl_sf, fl_sa, fl_sl, fl_sq, ar_sf, ar_sa, ar_sl, ar_sq, lr_sf, lr_sa, lr_sl, lr_sq, qr_sf, qr_sa, qr_sl, qr_sq, sf_1, sf_2, sa_1, sa_2, sl_1, sl_2, Option.isSome_some, Option.map_some, Option.map_none, Option.toList_some, Option.toList_none, List.nil_append, List.cons_append, List.singleton_append, if_true, if_false, ↓reduceIte, and_self, and_true, true_and, and_false, false_and, not_true, not_false_iff, reduceCtorEq, Nat.reduceEqDiff, Nat.reduceAdd, Nat.reduceSub, Nat.reduceMul, Nat.reduceLT, Nat.reduceLeDiff, Nat.reduceBEq, eq_self, ne_eq, Nat.add_eq_zero_iff, Nat.add_left_cancel_iff, Nat.add_right_cancel_iff, Nat.left_eq_add, Nat.add_eq_left, Bool.true_or, Bool.or_true, Bool.or_self, or_self, or_true, true_or, or_false, false_or, decide_true, decide_false, i_10, i_01, d1], R0, Hp_1 H, Hp_75 H⟩
  simp only [if_pos zt] at c1 d1
  by_cases zp : 0 ≤ y ∧ y < nI p
  case neg =>
    simp only [if_neg zp] at c2 d2
    exact ⟨.int (-1), h, h, by simp only [k_Sp_lend, e_Sp_lend_0, e_Sp_lend_1, e_Sp_lend_4, e_Sp_lend_5, e_Sp_lend_8, e_Sp_lend_11, e_Sp_lend_12, e_Sp_lend_15, e_Sp_lend_16, e_Sp_lend_19, e_Sp_lend_22, e_Sp_lend_23, m_get, m_put, m_ia, m_is, m_la, m_ls, fl_sf, fl_sa, fl_sl, fl_sq, ar_sf, ar_sa, ar_sl, ar_sq, lr_sf, lr_sa, lr_sl, lr_sq, qr_sf, qr_sa, qr_sl, qr_sq, sf_1, sf_2, sa_1, sa_2, sl_1, sl_2, Option.isSome_some, Option.map_some, Option.map_none, Option.toList_some, Option.toList_none, List.nil_append, List.cons_append, List.singleton_append, if_true, if_false, ↓reduceIte, and_self, and_true, true_and, and_false, false_and, not_true, not_false_iff, reduceCtorEq, Nat.reduceEqDiff, Nat.reduceAdd, Nat.reduceSub, Nat.reduceMul, Nat.reduceLT, Nat.reduceLeDiff, Nat.reduceBEq, eq_self, ne_eq, Nat.add_eq_zero_iff, Nat.add_left_cancel_iff, Nat.add_right_cancel_iff, Nat.left_eq_add, Nat.add_eq_left, Bool.true_or, Bool.or_true, Bool.or_self, or_self, or_true, true_or, or_false, false_or, decide_true, decide_false, i_10, i_01, fh, c1, c2], by simp only [k_Md_lend, e_Md_lend_0, e_Md_lend_1, e_Md_lend_2, e_Md_lend_5, e_Md_lend_8, e_Md_lend_9, e_Md_lend_10, e_Md_lend_13, e_Md_lend_16, e_Md_lend_17, m_get, m_put, m_ia, m_is, m_la, m_ls, fl_sf, fl_sa, fl_sl, fl_sq, ar_sf, ar_sa, ar_sl, ar_sq, lr_sf, lr_sa, lr_sl, lr_sq, qr_sf, qr_sa, qr_sl, qr_sq, sf_1, sf_2, sa_1, sa_2, sl_1, sl_2, Option.isSome_some, Option.map_some, Option.map_none, Option.toList_some, Option.toList_none, List.nil_append, List.cons_append, List.singleton_append, if_true, if_false, ↓reduceIte, and_self, and_true, true_and, and_false, false_and, not_true, not_false_iff, reduceCtorEq, Nat.reduceEqDiff, Nat.reduceAdd, Nat.reduceSub, Nat.reduceMul, Nat.reduceLT, Nat.reduceLeDiff, Nat.reduceBEq, eq_self, ne_eq, Nat.add_eq_zero_iff, Nat.add_left_cancel_iff, Nat.add_right_cancel_iff, Nat.left_eq_add, Nat.add_eq_left, Bool.true_or, Bool.or_true, Bool.or_self, or_self, or_true, true_or, or_false, false_or, decide_true, decide_false, i_10, i_01, d1, d2], R0, Hp_1 H, Hp_75 H⟩
  simp only [if_pos zp] at c2 d2
  obtain ⟨j, hj, rfl⟩ := idx (by omega) zt
  obtain ⟨i, hi, rfl⟩ := idx (by omega) zp
  obtain ⟨g1, g2, g3, g4, g5⟩ := ag2 j hj
  obtain ⟨w, hw, ew⟩ := (bo j hj).1
  have i6 := xin_nI (show j < 6 by omega) (by decide)
  have c6 := nI_clamp (show j < 2 ^ 31 by omega)
  have i11 := xin_nI (show 11 + j < 24 by omega) (by decide)
  have c11 := nI_clamp (show 11 + j < 2 ^ 31 by omega)
  have i17 := xin_nI (show 17 + j < 24 by omega) (by decide)
  have c17 := nI_clamp (show 17 + j < 2 ^ 31 by omega)
  have f10 := hR H 75 9 10 81 rfl rfl
  have r81 := H.1 81 6 rfl
  rw [show rty 81 = 0 from rfl] at r81
  have f18 := hR H 75 9 18 84 rfl rfl
  have r84 := H.1 84 24 rfl
  rw [show rty 84 = 0 from rfl] at r84
  have c3 := call_v (lv := 2) (c_isOut V (show j < 6 by omega)) (Vil_is V) (by decide) (Nat.le_of_ble_eq_true rfl)
  have c4 := call_v (lv := 2) (c_know V (i := w) (by omega) (nI i)) (Vil_is V) (by decide) (Nat.le_of_ble_eq_true rfl)
  have d4 := call_v (lv := 2) (cM_doKnow H (i := w) (by omega) (nI i)) (Hp_75 H) (by decide) (Nat.le_of_ble_eq_true rfl)
  rw [g4, g1] at c3
  rw [(ag1 w hw).2] at c4
  have V0 := V
  obtain ⟨⟨v0, v1, v2, v3, v4, v5⟩, ⟨w1, w2, w3, w4, w5, w6, w7, w8, w9, w10⟩, ⟨a1, a2, a3, a4, a5', a6, a7, a8, a9, a10⟩⟩ := V
  by_cases w1' : nI w = nI i
  · exact ⟨.int (-2), h, h, by simp only [k_Sp_lend, e_Sp_lend_0, e_Sp_lend_1, e_Sp_lend_4, e_Sp_lend_5, e_Sp_lend_8, e_Sp_lend_11, e_Sp_lend_12, e_Sp_lend_15, e_Sp_lend_16, e_Sp_lend_19, e_Sp_lend_22, e_Sp_lend_23, e_Sp_lend_24, e_Sp_lend_25, e_Sp_lend_28, e_Sp_lend_31, e_Sp_lend_32, e_Sp_lend_33, e_Sp_lend_34, e_Sp_lend_35, e_Sp_lend_36, e_Sp_lend_39, e_Sp_lend_41, m_get, m_put, m_ia, m_is, m_la, m_ls, fl_sf, fl_sa, fl_sl, fl_sq, ar_sf, ar_sa, ar_sl, ar_sq, lr_sf, lr_sa, lr_sl, lr_sq, qr_sf, qr_sa, qr_sl, qr_sq, sf_1, sf_2, sa_1, sa_2, sl_1, sl_2, Option.isSome_some, Option.map_some, Option.map_none, Option.toList_some, Option.toList_none, List.nil_append, List.cons_append, List.singleton_append, if_true, if_false, ↓reduceIte, and_self, and_true, true_and, and_false, false_and, not_true, not_false_iff, reduceCtorEq, Nat.reduceEqDiff, Nat.reduceAdd, Nat.reduceSub, Nat.reduceMul, Nat.reduceLT, Nat.reduceLeDiff, Nat.reduceBEq, eq_self, ne_eq, Nat.add_eq_zero_iff, Nat.add_left_cancel_iff, Nat.add_right_cancel_iff, Nat.left_eq_add, Nat.add_eq_left, Bool.true_or, Bool.or_true, Bool.or_self, or_self, or_true, true_or, or_false, false_or, decide_true, decide_false, i_10, i_01, fh, c1, c2, v0, v1, v2, v3, v4, v5, w1, w2, w3, w4, w5, w6, w7, w8, w9, w10, a1, a2, a3, a4, a5', a6, a7, a8, a9, a10, i6, c6, g1, ew, w1'], by simp only [k_Md_lend, e_Md_lend_0, e_Md_lend_1, e_Md_lend_2, e_Md_lend_5, e_Md_lend_8, e_Md_lend_9, e_Md_lend_10, e_Md_lend_13, e_Md_lend_16, e_Md_lend_17, e_Md_lend_18, e_Md_lend_19, e_Md_lend_22, e_Md_lend_23, e_Md_lend_24, e_Md_lend_25, e_Md_lend_28, e_Md_lend_30, m_get, m_put, m_ia, m_is, m_la, m_ls, fl_sf, fl_sa, fl_sl, fl_sq, ar_sf, ar_sa, ar_sl, ar_sq, lr_sf, lr_sa, lr_sl, lr_sq, qr_sf, qr_sa, qr_sl, qr_sq, sf_1, sf_2, sa_1, sa_2, sl_1, sl_2, Option.isSome_some, Option.map_some, Option.map_none, Option.toList_some, Option.toList_none, List.nil_append, List.cons_append, List.singleton_append, if_true, if_false, ↓reduceIte, and_self, and_true, true_and, and_false, false_and, not_true, not_false_iff, reduceCtorEq, Nat.reduceEqDiff, Nat.reduceAdd, Nat.reduceSub, Nat.reduceMul, Nat.reduceLT, Nat.reduceLeDiff, Nat.reduceBEq, eq_self, ne_eq, Nat.add_eq_zero_iff, Nat.add_left_cancel_iff, Nat.add_right_cancel_iff, Nat.left_eq_add, Nat.add_eq_left, Bool.true_or, Bool.or_true, Bool.or_self, or_self, or_true, true_or, or_false, false_or, decide_true, decide_false, i_10, i_01, d1, d2, f10, r81, i6, c6, ew, w1'], R0, Hp_1 H, Hp_75 H⟩
  by_cases w2' : σ 84 (11 + j) = σ 81 j
  case neg =>
    simp only [if_neg w2'] at c3
    rw [ew] at w2'
    exact ⟨.int (-3), h, h, by simp only [k_Sp_lend, e_Sp_lend_0, e_Sp_lend_1, e_Sp_lend_4, e_Sp_lend_5, e_Sp_lend_8, e_Sp_lend_11, e_Sp_lend_12, e_Sp_lend_15, e_Sp_lend_16, e_Sp_lend_19, e_Sp_lend_22, e_Sp_lend_23, e_Sp_lend_24, e_Sp_lend_25, e_Sp_lend_28, e_Sp_lend_31, e_Sp_lend_32, e_Sp_lend_33, e_Sp_lend_34, e_Sp_lend_35, e_Sp_lend_36, e_Sp_lend_39, e_Sp_lend_41, e_Sp_lend_42, e_Sp_lend_43, e_Sp_lend_46, e_Sp_lend_47, e_Sp_lend_50, e_Sp_lend_53, e_Sp_lend_54, e_Sp_lend_57, e_Sp_lend_58, e_Sp_lend_59, e_Sp_lend_62, e_Sp_lend_65, e_Sp_lend_67, m_get, m_put, m_ia, m_is, m_la, m_ls, fl_sf, fl_sa, fl_sl, fl_sq, ar_sf, ar_sa, ar_sl, ar_sq, lr_sf, lr_sa, lr_sl, lr_sq, qr_sf, qr_sa, qr_sl, qr_sq, sf_1, sf_2, sa_1, sa_2, sl_1, sl_2, Option.isSome_some, Option.map_some, Option.map_none, Option.toList_some, Option.toList_none, List.nil_append, List.cons_append, List.singleton_append, if_true, if_false, ↓reduceIte, and_self, and_true, true_and, and_false, false_and, not_true, not_false_iff, reduceCtorEq, Nat.reduceEqDiff, Nat.reduceAdd, Nat.reduceSub, Nat.reduceMul, Nat.reduceLT, Nat.reduceLeDiff, Nat.reduceBEq, eq_self, ne_eq, Nat.add_eq_zero_iff, Nat.add_left_cancel_iff, Nat.add_right_cancel_iff, Nat.left_eq_add, Nat.add_eq_left, Bool.true_or, Bool.or_true, Bool.or_self, or_self, or_true, true_or, or_false, false_or, decide_true, decide_false, i_10, i_01, fh, c1, c2, c3, v0, v1, v2, v3, v4, v5, w1, w2, w3, w4, w5, w6, w7, w8, w9, w10, a1, a2, a3, a4, a5', a6, a7, a8, a9, a10, i6, c6, g1, ew, w1'], by simp only [k_Md_lend, e_Md_lend_0, e_Md_lend_1, e_Md_lend_2, e_Md_lend_5, e_Md_lend_8, e_Md_lend_9, e_Md_lend_10, e_Md_lend_13, e_Md_lend_16, e_Md_lend_17, e_Md_lend_18, e_Md_lend_19, e_Md_lend_22, e_Md_lend_23, e_Md_lend_24, e_Md_lend_25, e_Md_lend_28, e_Md_lend_30, e_Md_lend_31, e_Md_lend_32, e_Md_lend_35, e_Md_lend_37, e_Md_lend_38, e_Md_lend_39, e_Md_lend_40, e_Md_lend_41, e_Md_lend_44, e_Md_lend_45, e_Md_lend_46, e_Md_lend_49, e_Md_lend_50, e_Md_lend_51, e_Md_lend_54, e_Md_lend_55, e_Md_lend_56, e_Md_lend_57, e_Md_lend_60, e_Md_lend_63, e_Md_lend_65, m_get, m_put, m_ia, m_is, m_la, m_ls, fl_sf, fl_sa, fl_sl, fl_sq, ar_sf, ar_sa, ar_sl, ar_sq, lr_sf, lr_sa, lr_sl, lr_sq, qr_sf, qr_sa, qr_sl, qr_sq, sf_1, sf_2, sa_1, sa_2, sl_1, sl_2, Option.isSome_some, Option.map_some, Option.map_none, Option.toList_some, Option.toList_none, List.nil_append, List.cons_append, List.singleton_append, if_true, if_false, ↓reduceIte, and_self, and_true, true_and, and_false, false_and, not_true, not_false_iff, reduceCtorEq, Nat.reduceEqDiff, Nat.reduceAdd, Nat.reduceSub, Nat.reduceMul, Nat.reduceLT, Nat.reduceLeDiff, Nat.reduceBEq, eq_self, ne_eq, Nat.add_eq_zero_iff, Nat.add_left_cancel_iff, Nat.add_right_cancel_iff, Nat.left_eq_add, Nat.add_eq_left, Bool.true_or, Bool.or_true, Bool.or_self, or_self, or_true, true_or, or_false, false_or, decide_true, decide_false, i_10, i_01, d1, d2, f10, r81, f18, r84, i6, c6, i11, c11, a11, ew, w1', w2'], R0, Hp_1 H, Hp_75 H⟩
  simp only [if_pos w2'] at c3
  by_cases w3' : (σ 80 w >>> (nI i &&& 31)) &&& 1 = 0
  · simp only [if_pos w3'] at c4 d4
    rw [ew] at w2'
    exact ⟨.int (-3), h, h, by simp only [k_Sp_lend, e_Sp_lend_0, e_Sp_lend_1, e_Sp_lend_4, e_Sp_lend_5, e_Sp_lend_8, e_Sp_lend_11, e_Sp_lend_12, e_Sp_lend_15, e_Sp_lend_16, e_Sp_lend_19, e_Sp_lend_22, e_Sp_lend_23, e_Sp_lend_24, e_Sp_lend_25, e_Sp_lend_28, e_Sp_lend_31, e_Sp_lend_32, e_Sp_lend_33, e_Sp_lend_34, e_Sp_lend_35, e_Sp_lend_36, e_Sp_lend_39, e_Sp_lend_41, e_Sp_lend_42, e_Sp_lend_43, e_Sp_lend_46, e_Sp_lend_47, e_Sp_lend_50, e_Sp_lend_53, e_Sp_lend_54, e_Sp_lend_57, e_Sp_lend_58, e_Sp_lend_59, e_Sp_lend_62, e_Sp_lend_65, e_Sp_lend_67, m_get, m_put, m_ia, m_is, m_la, m_ls, fl_sf, fl_sa, fl_sl, fl_sq, ar_sf, ar_sa, ar_sl, ar_sq, lr_sf, lr_sa, lr_sl, lr_sq, qr_sf, qr_sa, qr_sl, qr_sq, sf_1, sf_2, sa_1, sa_2, sl_1, sl_2, Option.isSome_some, Option.map_some, Option.map_none, Option.toList_some, Option.toList_none, List.nil_append, List.cons_append, List.singleton_append, if_true, if_false, ↓reduceIte, and_self, and_true, true_and, and_false, false_and, not_true, not_false_iff, reduceCtorEq, Nat.reduceEqDiff, Nat.reduceAdd, Nat.reduceSub, Nat.reduceMul, Nat.reduceLT, Nat.reduceLeDiff, Nat.reduceBEq, eq_self, ne_eq, Nat.add_eq_zero_iff, Nat.add_left_cancel_iff, Nat.add_right_cancel_iff, Nat.left_eq_add, Nat.add_eq_left, Bool.true_or, Bool.or_true, Bool.or_self, or_self, or_true, true_or, or_false, false_or, decide_true, decide_false, i_10, i_01, fh, c1, c2, c3, c4, v0, v1, v2, v3, v4, v5, w1, w2, w3, w4, w5, w6, w7, w8, w9, w10, a1, a2, a3, a4, a5', a6, a7, a8, a9, a10, i6, c6, g1, ew, w1'], by simp only [k_Md_lend, e_Md_lend_0, e_Md_lend_1, e_Md_lend_2, e_Md_lend_5, e_Md_lend_8, e_Md_lend_9, e_Md_lend_10, e_Md_lend_13, e_Md_lend_16, e_Md_lend_17, e_Md_lend_18, e_Md_lend_19, e_Md_lend_22, e_Md_lend_23, e_Md_lend_24, e_Md_lend_25, e_Md_lend_28, e_Md_lend_30, e_Md_lend_31, e_Md_lend_32, e_Md_lend_35, e_Md_lend_37, e_Md_lend_38, e_Md_lend_39, e_Md_lend_40, e_Md_lend_41, e_Md_lend_44, e_Md_lend_45, e_Md_lend_46, e_Md_lend_49, e_Md_lend_50, e_Md_lend_51, e_Md_lend_54, e_Md_lend_55, e_Md_lend_56, e_Md_lend_57, e_Md_lend_60, e_Md_lend_63, e_Md_lend_65, m_get, m_put, m_ia, m_is, m_la, m_ls, fl_sf, fl_sa, fl_sl, fl_sq, ar_sf, ar_sa, ar_sl, ar_sq, lr_sf, lr_sa, lr_sl, lr_sq, qr_sf, qr_sa, qr_sl, qr_sq, sf_1, sf_2, sa_1, sa_2, sl_1, sl_2, Option.isSome_some, Option.map_some, Option.map_none, Option.toList_some, Option.toList_none, List.nil_append, List.cons_append, List.singleton_append, if_true, if_false, ↓reduceIte, and_self, and_true, true_and, and_false, false_and, not_true, not_false_iff, reduceCtorEq, Nat.reduceEqDiff, Nat.reduceAdd, Nat.reduceSub, Nat.reduceMul, Nat.reduceLT, Nat.reduceLeDiff, Nat.reduceBEq, eq_self, ne_eq, Nat.add_eq_zero_iff, Nat.add_left_cancel_iff, Nat.add_right_cancel_iff, Nat.left_eq_add, Nat.add_eq_left, Bool.true_or, Bool.or_true, Bool.or_self, or_self, or_true, true_or, or_false, false_or, decide_true, decide_false, i_10, i_01, d1, d2, d4, f10, r81, f18, r84, i6, c6, i11, c11, a11, ew, w1', w2'], R0, Hp_1 H, Hp_75 H⟩
  simp only [if_neg w3'] at c4 d4
  -- it is lent
  obtain ⟨h1, q', B, dn, H1, B15, BA, hB1, hB2, qb', qi', qo⟩ := c_next H hA x26 qb qi 0
  have qB := qb' B (by omega)
  have cn := call_v (lv := 2) dn (by rw [show xmo M_ActRow_next = 1 from rfl, hR H 26 1 0 27 rfl rfl]; rfl) (by decide) (Nat.le_of_ble_eq_true rfl)
  have V1 := Hp_vil H1 hv
  have ev : ∀ k, ut (ut τ 26 1 (nI (B + 1))) (q' B) 0 0 v k = τ v k := fun k => (by simp only [ut]; repeat rw [if_neg (by omega)])
  simp only [ev] at V1
  have fo := hO H1 qB.1 qB.2 (k := 1) (by omega)
  have H2 := Hp_sf (c := 0) H1 (a := q' B) (k := 1) (ocl_act _ (by omega) qB.1).1 ((ocl_act _ (by omega) qB.1).2 1 (by omega)) (nI j)
  have H3 := Hp_sa (t := 0) (n := 6) H2 (a := v + 6) (by rcases hv with rfl | rfl <;> rfl) (by rcases hv with rfl | rfl <;> rfl) (upd (σ (v + 6)) j (nI i))
  have hrow : ar (sa (sf h1 (q' B) 0 1 (.int (nI j))) (v + 6) 0 (upd (σ (v + 6)) j (nI i))) (v + 6) 0 = some (6, upd (σ (v + 6)) j (nI i)) := by
    have := H3.1 (v + 6) 6 (by rcases hv with rfl | rfl <;> rfl)
    rw [show rty (v + 6) = 0 from (by rcases hv with rfl | rfl <;> rfl)] at this
    rw [this]
    simp only [us, if_true]
  have cb := call_l (lv := 2) (c_bitsOf (a := v + 6) (by omega) hrow t6 (nI i)) (Nat.le_of_ble_eq_true rfl)
  obtain ⟨mm, m1, m2, m3⟩ := bts_pc (f := upd (σ (v + 6)) j (nI i)) (x := nI i) t t6
  have mm64 : mm < 64 := Nat.lt_of_lt_of_le m1 (Nat.pow_le_pow_right (n := 2) (by omega) t6)
  rw [m2] at cb
  have cc := fun f => call_l (lv := 2) (c_bitCount (nI mm) (sa (sf h1 (q' B) 0 1 (.int (nI j))) (v + 6) 0 (upd (σ (v + 6)) j (nI i)))) (Nat.le_of_ble_eq_true rfl) f
  rw [bc_pc mm mm64] at cc
  -- the reference
  have ss : ∀ a, a ≠ v + 6 → us σ (v + 6) (upd (σ (v + 6)) j (nI i)) a = σ a := fun a hn => by rw [us, if_neg hn]
  have tt : ∀ b k, b < 26 ∨ 43 < b → ut (ut (ut τ 26 1 (nI (B + 1))) (q' B) 0 0) (q' B) 1 (nI j) b k = τ b k := fun b k hn => (by simp only [ut]; repeat rw [if_neg (by omega)])
  have k1 := call_v (lv := 2) (cM_isThing H3 (t := t) (by rw [tt _ _ (by omega)]; exact vt) t6 (nI j)) (Hp_75 H3) (by decide) (Nat.le_of_ble_eq_true rfl)
  have k2 := call_v (lv := 2) (cM_isPerson H3 (p := p) (by rw [tt _ _ (by omega)]; exact vp) p5 (nI i)) (Hp_75 H3) (by decide) (Nat.le_of_ble_eq_true rfl)
  have k4 := call_v (lv := 2) (cM_doKnow H3 (i := w) (by omega) (nI i)) (Hp_75 H3) (by decide) (Nat.le_of_ble_eq_true rfl)
  simp only [if_pos zt] at k1
  simp only [if_pos zp] at k2
  rw [ss 80 (by omega), if_neg w3'] at k4
  obtain ⟨h4, d5, H4⟩ := cM_keepAct H3 hX hA (B := B) (by rw [tt _ _ (by omega)]; exact x24) (by rw [tt _ _ (by omega)]; exact x23) hB1 hB2
  have k5 := call_v (lv := 2) d5 (Hp_75 H3) (by decide) (Nat.le_of_ble_eq_true rfl)
  rw [ss 84 (by omega), ss 86 (by omega)] at H4
  have H5 := Hp_sa (t := 0) (n := 24) H4 (a := 84) rfl rfl (upd (upd (σ 84) (11 + j) (nI i)) (17 + j) 0)
  have tt4 : ∀ b k, ¬ (b = 75 ∧ (k = 23 ∨ k = 24)) → ut (ut (ut (ut (ut τ 26 1 (nI (B + 1))) (q' B) 0 0) (q' B) 1 (nI j)) 75 24 (nI ((X + 1) % 16))) 75 23 (nI (B + 1)) b k = ut (ut (ut τ 26 1 (nI (B + 1))) (q' B) 0 0) (q' B) 1 (nI j) b k := fun b k hn => by
    rw [ut, if_neg (by omega), ut, if_neg (by omega)]
  have kt := cM_lendTail H5 (t := t) (by rw [tt4 _ _ (by omega), tt _ _ (by omega)]; exact vt) t6 (nI j) (nI i)
  have ece : cnq (fun o => us (us (us σ (v + 6) (upd (σ (v + 6)) j (nI i))) 86 (cpI (σ 86) (σ 84) (24 * X) 24)) 84 (upd (upd (σ 84) (11 + j) (nI i)) (17 + j) 0) 84 (11 + o)) (nI i) t = nI (pc6 mm) := by
    rw [← m3]
    refine cnq_cg t (fun o ho => ?_)
    simp only [us, if_true]
    rw [up_lt (by omega)]
    by_cases wo : o = j
    · rw [wo, up_eq, up_eq]
    · rw [up_lt (by omega), up_lt wo, (ag2 o ho).2.2.2.1]
  rw [ece] at kt
  have y10 := hR H3 75 9 10 81 rfl rfl
  have y18 := hR H3 75 9 18 84 rfl rfl
  have z81 := H3.1 81 6 rfl
  rw [show rty 81 = 0 from rfl, ss 81 (by omega)] at z81
  have z84 := H3.1 84 24 rfl
  rw [show rty 84 = 0 from rfl, ss 84 (by omega)] at z84
  have y18' := hR H4 75 9 18 84 rfl rfl
  have z84' := H4.1 84 24 rfl
  rw [show rty 84 = 0 from rfl, show us (us σ (v + 6) (upd (σ (v + 6)) j (nI i))) 86 (cpI (σ 86) (σ 84) (24 * X) 24) 84 = σ 84 from (by first | rfl | (simp only [us, ut]; repeat rw [if_neg (by omega)]))] at z84'
  have w2 := w2'
  rw [ew] at w2'
  refine ⟨.int (nI (pc6 mm)), _, _, ?_, ?_, ⟨_, _, v, s, q', e, p, t, n, len, B + 1, (X + 1) % 16, z, H5, ?_, rlT_cg rt ⟨(by first | rfl | (simp only [us, ut]; repeat rw [if_neg (by omega)])), (by first | rfl | (simp only [us, ut]; repeat rw [if_neg (by omega)]))⟩ ⟨by rw [tt4 _ _ (by omega), tt _ _ (by omega)], by rw [tt4 _ _ (by omega), tt _ _ (by omega)]⟩, ?_, rlK_cg rk (fun a ha => by first | rfl | (simp only [us]; repeat rw [if_neg (by omega)])) (fun b k hk => by rw [tt4 _ _ (by omega), tt _ _ (by omega)]), rlS_cg rs (fun a ha => by first | rfl | (simp only [us]; repeat rw [if_neg (by omega)])) ⟨by rw [tt4 _ _ (by omega), tt _ _ (by omega)], by rw [tt4 _ _ (by omega), tt _ _ (by omega)]⟩, rlY_cg ry (by first | rfl | (simp only [us, ut]; repeat rw [if_neg (by omega)]))⟩, Hp_1 H, Hp_75 H3⟩
  · have f5 := hR H 1 8 5 26 rfl rfl
    have fh1 := H1.2.2.2.1.2.1
    rw [uu] at V1
    have bb : (v4 : fl h v 7 4 = some (.int (τ v 4))) = v4 := rfl
    clear bb
    obtain ⟨⟨x0, x1, x2, x3, x4, x5⟩, ⟨t1, t2, t3, t4, t5, t6', t7, t8, t9, t10⟩, b1, b2, b3, b4, b5, b6, b7, b8, b9, b10⟩ := V1
    simp only [k_Sp_lend, e_Sp_lend_0, e_Sp_lend_1, e_Sp_lend_4, e_Sp_lend_5, e_Sp_lend_8, e_Sp_lend_11, e_Sp_lend_12, e_Sp_lend_15, e_Sp_lend_16, e_Sp_lend_19, e_Sp_lend_22, e_Sp_lend_23, e_Sp_lend_24, e_Sp_lend_25, e_Sp_lend_28, e_Sp_lend_31, e_Sp_lend_32, e_Sp_lend_33, e_Sp_lend_34, e_Sp_lend_35, e_Sp_lend_36, e_Sp_lend_39, e_Sp_lend_41, e_Sp_lend_42, e_Sp_lend_43, e_Sp_lend_46, e_Sp_lend_47, e_Sp_lend_50, e_Sp_lend_53, e_Sp_lend_54, e_Sp_lend_57, e_Sp_lend_58, e_Sp_lend_59, e_Sp_lend_62, e_Sp_lend_65, e_Sp_lend_67, e_Sp_lend_68, e_Sp_lend_69, e_Sp_lend_72, e_Sp_lend_73, e_Sp_lend_76, e_Sp_lend_77, e_Sp_lend_80, e_Sp_lend_81, e_Sp_lend_84, e_Sp_lend_87, e_Sp_lend_88, e_Sp_lend_89, e_Sp_lend_90, e_Sp_lend_91, e_Sp_lend_94, e_Sp_lend_97, e_Sp_lend_98, e_Sp_lend_101, e_Sp_lend_104, e_Sp_lend_105, e_Sp_lend_108, e_Sp_lend_111, m_get, m_put, m_ia, m_is, m_la, m_ls, fl_sf, fl_sa, fl_sl, fl_sq, ar_sf, ar_sa, ar_sl, ar_sq, lr_sf, lr_sa, lr_sl, lr_sq, qr_sf, qr_sa, qr_sl, qr_sq, sf_1, sf_2, sa_1, sa_2, sl_1, sl_2, Option.isSome_some, Option.map_some, Option.map_none, Option.toList_some, Option.toList_none, List.nil_append, List.cons_append, List.singleton_append, if_true, if_false, ↓reduceIte, and_self, and_true, true_and, and_false, false_and, not_true, not_false_iff, reduceCtorEq, Nat.reduceEqDiff, Nat.reduceAdd, Nat.reduceSub, Nat.reduceMul, Nat.reduceLT, Nat.reduceLeDiff, Nat.reduceBEq, eq_self, ne_eq, Nat.add_eq_zero_iff, Nat.add_left_cancel_iff, Nat.add_right_cancel_iff, Nat.left_eq_add, Nat.add_eq_left, Bool.true_or, Bool.or_true, Bool.or_self, or_self, or_true, true_or, or_false, false_or, decide_true, decide_false, i_10, i_01, fh, f5, c1, c2, c3, c4, v0, v1, v2, v3, v4, v5, w1, w2, w3, w4, w5, w6, w7, w8, w9, w10, a1, a2, a3, a4, a5', a6, a7, a8, a9, a10, i6, c6, g1, ew, w1', cn, fo, fh1, x4, t6', b6, cb, cc]
  · generalize sa (sf h1 (q' B) 0 1 (.int (nI j))) (v + 6) 0 (upd (σ (v + 6)) j (nI i)) = g at *
    simp only [k_Md_lend, e_Md_lend_0, e_Md_lend_1, e_Md_lend_2, e_Md_lend_5, e_Md_lend_8, e_Md_lend_9, e_Md_lend_10, e_Md_lend_13, e_Md_lend_16, e_Md_lend_17, e_Md_lend_18, e_Md_lend_19, e_Md_lend_22, e_Md_lend_23, e_Md_lend_24, e_Md_lend_25, e_Md_lend_28, e_Md_lend_30, e_Md_lend_31, e_Md_lend_32, e_Md_lend_35, e_Md_lend_37, e_Md_lend_38, e_Md_lend_39, e_Md_lend_40, e_Md_lend_41, e_Md_lend_44, e_Md_lend_45, e_Md_lend_46, e_Md_lend_49, e_Md_lend_50, e_Md_lend_51, e_Md_lend_54, e_Md_lend_55, e_Md_lend_56, e_Md_lend_57, e_Md_lend_60, e_Md_lend_63, e_Md_lend_65, e_Md_lend_66, e_Md_lend_67, e_Md_lend_70, e_Md_lend_71, e_Md_lend_74, e_Md_lend_76, e_Md_lend_77, e_Md_lend_78, e_Md_lend_79, e_Md_lend_80, e_Md_lend_81, e_Md_lend_84, e_Md_lend_86, e_Md_lend_87, e_Md_lend_88, e_Md_lend_89, e_Md_lend_90, e_Md_lend_91, e_Md_lend_92, e_Md_lend_93, m_get, m_put, m_ia, m_is, m_la, m_ls, fl_sf, fl_sa, fl_sl, fl_sq, ar_sf, ar_sa, ar_sl, ar_sq, lr_sf, lr_sa, lr_sl, lr_sq, qr_sf, qr_sa, qr_sl, qr_sq, sf_1, sf_2, sa_1, sa_2, sl_1, sl_2, sa_sa, Option.isSome_some, Option.map_some, Option.map_none, Option.toList_some, Option.toList_none, List.nil_append, List.cons_append, List.singleton_append, if_true, if_false, ↓reduceIte, and_self, and_true, true_and, and_false, false_and, not_true, not_false_iff, reduceCtorEq, Nat.reduceEqDiff, Nat.reduceAdd, Nat.reduceSub, Nat.reduceMul, Nat.reduceLT, Nat.reduceLeDiff, Nat.reduceBEq, eq_self, ne_eq, Nat.add_eq_zero_iff, Nat.add_left_cancel_iff, Nat.add_right_cancel_iff, Nat.left_eq_add, Nat.add_eq_left, Bool.true_or, Bool.or_true, Bool.or_self, or_self, or_true, true_or, or_false, false_or, decide_true, decide_false, i_10, i_01, k1, k2, k4, k5, y10, z81, y18, z84, y18', z84', i6, c6, i11, c11, i17, c17, a11, a17, ew, w1', w2']
    exact kt
  · refine rlV_new rv0 (fun a ha => by first | rfl | (simp only [us]; repeat rw [if_neg (by omega)])) (fun k hk => by rw [tt4 _ _ (by omega), tt _ _ (by omega)]) (fun k hk => by rw [tt4 _ _ (by omega), tt _ _ (by omega)]) (S := upd (upd (σ 84) (11 + j) (nI i)) (17 + j) 0) (by simp only [us, if_true]) (by rw [tt4 _ _ (by omega), tt _ _ (by omega), up_lt (by omega), up_lt (by omega)]; exact vd) (fun i' hi' => ?_) (fun k hk => ?_) (fun k hk => ?_)
    · rw [up_lt (by omega), up_lt (by omega)]
      simp only [us]
      rw [if_neg (by omega), if_neg (by omega), if_neg (by omega)]
      exact (ag1 i' hi').1
    · obtain ⟨z1, z2, z3, z4, z5⟩ := ag2 k hk
      rw [up_lt (k := 17 + j) (i := 5 + k) (by omega), up_lt (k := 11 + j) (i := 5 + k) (by omega), up_lt (k := 17 + j) (i := 11 + k) (by omega)]
      simp only [us, if_true]
      rw [if_neg (by omega), if_neg (by omega), if_neg (by omega), if_neg (by omega), if_neg (by omega), if_neg (by omega), if_neg (by omega), if_neg (by omega)]
      refine ⟨z3, ?_, ?_⟩
      · by_cases wo : k = j
        · rw [wo, up_eq, up_eq]
        · rw [up_lt wo, up_lt (by omega), z4]
      · by_cases wo : k = j
        · rw [wo, up_eq, g5]
          exact (st j hj).2.2 w2
        · rw [up_lt (by omega), up_lt (by omega), z5]
    · obtain ⟨z1, z2, z3⟩ := st k hk
      rw [up_lt (k := 17 + j) (i := 5 + k) (by omega), up_lt (k := 11 + j) (i := 5 + k) (by omega), up_lt (k := 17 + j) (i := 11 + k) (by omega)]
      refine ⟨z1, ?_, ?_⟩
      · by_cases wo : k = j
        · rw [wo, up_eq]
          exact ⟨i, hi, rfl⟩
        · rw [up_lt (by omega)]
          exact z2
      · by_cases wo : k = j
        · intro _
          rw [wo, up_eq]
        · rw [up_lt (k := 11 + j) (by omega), up_lt (k := 17 + j) (by omega), up_lt (k := 11 + j) (by omega)]
          exact z3
  · refine rlA_push p5 t6 ra0 hB1 hB2 (by first | rfl | (simp only [us, ut]; repeat rw [if_neg (by omega)])) ?_ ?_ ?_ ?_ qb' qi' qo ?_ st ?_
    · simp only [us, if_true]
      rw [if_neg (by omega)]
    · rw [tt4 _ _ (by omega), ut, if_neg (by omega), ut, if_neg (by omega), ut, if_pos ⟨rfl, rfl⟩]
    · rw [ut, if_pos ⟨rfl, rfl⟩]
    · rw [ut, if_neg (by omega), ut, if_pos ⟨rfl, rfl⟩]
    · intro k hk hne
      have b1 := qb' k hk
      have n1 : q' k ≠ q' B := fun w => hne (qi' k B hk (by omega) w)
      funext l
      exact (by simp only [ut]; repeat rw [if_neg (by omega)])
    · refine Or.inr (Or.inl ⟨?_, j, hj, ?_, fun k hk => ?_⟩)
      · rw [tt4 _ _ (by omega), ut, if_neg (by omega), ut, if_pos ⟨rfl, rfl⟩]
      · rw [tt4 _ _ (by omega), ut, if_pos ⟨rfl, rfl⟩]
      · simp only [us, if_true]
        by_cases w17 : k = 17 + j
        · rw [w17, up_eq]
          exact (st j hj).2.2 w2
        · rw [up_lt w17]
          by_cases w11 : k = 11 + j
          · rw [w11, up_eq, w2]
          · rw [up_lt w11, up_lt w17, up_lt w11]
end LEND
