def cst (s g : Int32) : Nat → Int32
  | 0 => 0
  | n + 1 => cst s g n + (s + 1) * (g + nI n + 1)
def sm (f : Nat → Int32) : Nat → Int32
  | 0 => 0
  | n + 1 => sm f n + f n
def wt (so gr : Nat → Int32) : Nat → Int32
  | 0 => 0
  | n + 1 => wt so gr n + cst (so n) 0 (gr n).toNatClampNeg
def cno (ho ow : Nat → Int32) : Nat → Int32
  | 0 => 0
  | n + 1 => cno ho ow n + (if ho n = ow n then 0 else 1)
def ggr (gr : Nat → Int32) : Nat → Int32
  | 0 => 0
  | n + 1 => if ggr gr n < gr n then gr n else ggr gr n
def bts (f : Nat → Int32) (x : Int32) : Nat → Int32
  | 0 => 0
  | n + 1 => bts f x n ||| (if f n = x then 1 <<< (nI n &&& 31) else 0)
theorem i_20 : ((2 : Int32) = 0) = False := by decide
theorem nI_of0 {x : Int32} (hx : ¬ x < 0) : x = nI x.toNatClampNeg ∧ x.toNatClampNeg < 2 ^ 31 := by
  obtain ⟨j, hj, rfl⟩ := nI_of hx
  rw [nI_clamp hj]
  exact ⟨rfl, hj⟩
theorem neg_clamp {x : Int32} (hx : x < 0) : x.toNatClampNeg = 0 := by
  have h1 : x.toInt < 0 := by simpa using Int32.lt_iff_toInt_lt.mp hx
  show x.toInt.toNat = 0
  omega
theorem c_costOf {h : xH} (s g x : Int32) : xC M_Sp_costOf [.int s, .int g, .int x] h = some (some (.int (cst s g x.toNatClampNeg)), h) := by
  simp only [k_Sp_costOf, e_Sp_costOf_0, e_Sp_costOf_1, e_Sp_costOf_2, e_Sp_costOf_3]
  have key := loop_dn (t := x.toNatClampNeg) (P := fun i => xR none 0 M_Sp_costOf 5 [some (.int s), some (.int g), some (.int x), some (.int (cst s g i)), some (.int (nI i))] [] h = some (some (.int (cst s g x.toNatClampNeg)), h)) ?_ ?_ 0 (Nat.zero_le _)
  · rw [nI_0] at key
    exact key
  · have q : x ≤ nI x.toNatClampNeg := by
      by_cases hx : x < 0
      · rw [neg_clamp hx, nI_0]
        exact Int32.le_of_lt hx
      · rw [← (nI_of0 hx).1]
        exact Int32.le_refl _
    simp only [e_Sp_costOf_5, e_Sp_costOf_7, e_Sp_costOf_8, e_Sp_costOf_30, e_Sp_costOf_31, Option.isSome_some, Option.map_some, Option.map_none, Option.toList_some, Option.toList_none, List.nil_append, List.cons_append, List.singleton_append, if_true, if_false, ↓reduceIte, and_self, and_true, true_and, and_false, false_and, not_true, not_false_iff, reduceCtorEq, Nat.reduceEqDiff, Nat.reduceAdd, Nat.reduceSub, Nat.reduceMul, Nat.reduceLT, Nat.reduceLeDiff, Nat.reduceBEq, eq_self, ne_eq, Nat.add_eq_zero_iff, Nat.add_left_cancel_iff, Nat.add_right_cancel_iff, Nat.left_eq_add, Nat.add_eq_left, Bool.true_or, Bool.or_true, Bool.or_self, or_self, or_true, true_or, or_false, false_or, decide_true, decide_false, i_10, i_01, q]
  · intro i hi ih
    have q : ¬ x ≤ nI i := by
      have hx : ¬ x < 0 := fun hx => by rw [neg_clamp hx] at hi; omega
      rw [(nI_of0 hx).1]
      exact nI_ge hi (nI_of0 hx).2
    rw [← nI_1, cst] at ih
    rw [e_Sp_costOf_5]
    simp only [e_Sp_costOf_7, e_Sp_costOf_8, e_Sp_costOf_11, e_Sp_costOf_12, e_Sp_costOf_13, e_Sp_costOf_14, e_Sp_costOf_15, e_Sp_costOf_16, e_Sp_costOf_18, e_Sp_costOf_19, e_Sp_costOf_20, e_Sp_costOf_21, e_Sp_costOf_22, e_Sp_costOf_23, e_Sp_costOf_24, e_Sp_costOf_27, Option.isSome_some, Option.map_some, Option.map_none, Option.toList_some, Option.toList_none, List.nil_append, List.cons_append, List.singleton_append, if_true, if_false, ↓reduceIte, and_self, and_true, true_and, and_false, false_and, not_true, not_false_iff, reduceCtorEq, Nat.reduceEqDiff, Nat.reduceAdd, Nat.reduceSub, Nat.reduceMul, Nat.reduceLT, Nat.reduceLeDiff, Nat.reduceBEq, eq_self, ne_eq, Nat.add_eq_zero_iff, Nat.add_left_cancel_iff, Nat.add_right_cancel_iff, Nat.left_eq_add, Nat.add_eq_left, Bool.true_or, Bool.or_true, Bool.or_self, or_self, or_true, true_or, or_false, false_or, decide_true, decide_false, i_10, i_01, q]
    exact ih
theorem c_bitsOf {h : xH} {a : Nat} (ha : a ≠ 0) {f : Nat → Int32} (hf : ar h a 0 = some (6, f)) {t : Nat} (ht : t ≤ 6) (x : Int32) : xC M_Sp_bitsOf [.ref a, .int (nI t), .int x] h = some (some (.int (bts f x t)), h) := by
  have hln : ∀ k : Int32 → xQ, rln h a k = k 6 := fun k => m_lnI h a k hf ha
  simp only [k_Sp_bitsOf, e_Sp_bitsOf_0, e_Sp_bitsOf_1, e_Sp_bitsOf_2, e_Sp_bitsOf_3]
  have key := loop_dn (t := t) (P := fun i => xR none 0 M_Sp_bitsOf 5 [some (.ref a), some (.int (nI t)), some (.int x), some (.int (bts f x i)), some (.int (nI i))] [] h = some (some (.int (bts f x t)), h)) ?_ ?_ 0 (Nat.zero_le _)
  · rw [nI_0] at key
    exact key
  · have q : nI t ≤ nI t := Int32.le_refl _
    simp only [e_Sp_bitsOf_5, e_Sp_bitsOf_7, e_Sp_bitsOf_8, e_Sp_bitsOf_39, e_Sp_bitsOf_40, Option.isSome_some, Option.map_some, Option.map_none, Option.toList_some, Option.toList_none, List.nil_append, List.cons_append, List.singleton_append, if_true, if_false, ↓reduceIte, and_self, and_true, true_and, and_false, false_and, not_true, not_false_iff, reduceCtorEq, Nat.reduceEqDiff, Nat.reduceAdd, Nat.reduceSub, Nat.reduceMul, Nat.reduceLT, Nat.reduceLeDiff, Nat.reduceBEq, eq_self, ne_eq, Nat.add_eq_zero_iff, Nat.add_left_cancel_iff, Nat.add_right_cancel_iff, Nat.left_eq_add, Nat.add_eq_left, Bool.true_or, Bool.or_true, Bool.or_self, or_self, or_true, true_or, or_false, false_or, decide_true, decide_false, i_10, i_01, q]
  · intro i hi ih
    have q : ¬ nI t ≤ nI i := nI_ge hi (by omega)
    have q2 : ¬ (6 : Int32) ≤ nI i := nI_ge (b := 6) (show i < 6 by omega) (by decide)
    have i6 := xin_nI (show i < 6 by omega) (by decide)
    have c6 := nI_clamp (show i < 2 ^ 31 by omega)
    rw [← nI_1, bts] at ih
    rw [e_Sp_bitsOf_5]
    by_cases q3 : f i = x
    · simp only [q3, if_true] at ih
      simp only [e_Sp_bitsOf_7, e_Sp_bitsOf_8, e_Sp_bitsOf_11, e_Sp_bitsOf_13, e_Sp_bitsOf_14, e_Sp_bitsOf_15, e_Sp_bitsOf_18, e_Sp_bitsOf_19, e_Sp_bitsOf_21, e_Sp_bitsOf_22, e_Sp_bitsOf_23, e_Sp_bitsOf_26, e_Sp_bitsOf_27, e_Sp_bitsOf_28, e_Sp_bitsOf_30, e_Sp_bitsOf_31, e_Sp_bitsOf_32, e_Sp_bitsOf_33, e_Sp_bitsOf_36, m_get, m_put, m_ia, m_is, m_la, m_ls, fl_sf, fl_sa, fl_sl, fl_sq, ar_sf, ar_sa, ar_sl, ar_sq, lr_sf, lr_sa, lr_sl, lr_sq, qr_sf, qr_sa, qr_sl, qr_sq, sf_1, sf_2, sa_1, sa_2, sl_1, sl_2, Option.isSome_some, Option.map_some, Option.map_none, Option.toList_some, Option.toList_none, List.nil_append, List.cons_append, List.singleton_append, if_true, if_false, ↓reduceIte, and_self, and_true, true_and, and_false, false_and, not_true, not_false_iff, reduceCtorEq, Nat.reduceEqDiff, Nat.reduceAdd, Nat.reduceSub, Nat.reduceMul, Nat.reduceLT, Nat.reduceLeDiff, Nat.reduceBEq, eq_self, ne_eq, Nat.add_eq_zero_iff, Nat.add_left_cancel_iff, Nat.add_right_cancel_iff, Nat.left_eq_add, Nat.add_eq_left, Bool.true_or, Bool.or_true, Bool.or_self, or_self, or_true, true_or, or_false, false_or, decide_true, decide_false, i_10, i_01, q, q2, hln, hf, ha, i6, c6, q3]
      exact ih
    · simp only [q3, if_false, Int32.or_zero] at ih
      simp only [e_Sp_bitsOf_7, e_Sp_bitsOf_8, e_Sp_bitsOf_11, e_Sp_bitsOf_13, e_Sp_bitsOf_14, e_Sp_bitsOf_15, e_Sp_bitsOf_18, e_Sp_bitsOf_19, e_Sp_bitsOf_21, e_Sp_bitsOf_22, e_Sp_bitsOf_23, e_Sp_bitsOf_26, e_Sp_bitsOf_27, e_Sp_bitsOf_28, e_Sp_bitsOf_30, e_Sp_bitsOf_31, e_Sp_bitsOf_32, e_Sp_bitsOf_33, e_Sp_bitsOf_36, m_get, m_put, m_ia, m_is, m_la, m_ls, fl_sf, fl_sa, fl_sl, fl_sq, ar_sf, ar_sa, ar_sl, ar_sq, lr_sf, lr_sa, lr_sl, lr_sq, qr_sf, qr_sa, qr_sl, qr_sq, sf_1, sf_2, sa_1, sa_2, sl_1, sl_2, Option.isSome_some, Option.map_some, Option.map_none, Option.toList_some, Option.toList_none, List.nil_append, List.cons_append, List.singleton_append, if_true, if_false, ↓reduceIte, and_self, and_true, true_and, and_false, false_and, not_true, not_false_iff, reduceCtorEq, Nat.reduceEqDiff, Nat.reduceAdd, Nat.reduceSub, Nat.reduceMul, Nat.reduceLT, Nat.reduceLeDiff, Nat.reduceBEq, eq_self, ne_eq, Nat.add_eq_zero_iff, Nat.add_left_cancel_iff, Nat.add_right_cancel_iff, Nat.left_eq_add, Nat.add_eq_left, Bool.true_or, Bool.or_true, Bool.or_self, or_self, or_true, true_or, or_false, false_or, decide_true, decide_false, i_10, i_01, q, q2, hln, hf, ha, i6, c6, q3]
      exact ih
section VIL2
variable {h : xH} {v : Nat} {la ca da pe th ne : Int32} {co kn ow so gr ho ou np ns nd : Nat → Int32}
theorem c_worth (hV : Vil h v la ca da pe th ne co kn ow so gr ho ou np ns nd) {j : Nat} (hj : j < 6) : xC M_Village_worth [.ref v, .int (nI j)] h = some (some (.int (cst (so j) 0 (gr j).toNatClampNeg)), h) := by
  obtain ⟨⟨v0, v1, v2, v3, v4, v5⟩, ⟨w1, w2, w3, w4, w5, w6, w7, w8, w9, w10⟩, ⟨a1, a2, a3, a4, a5, a6, a7, a8, a9, a10⟩⟩ := hV
  have i6 := xin_nI hj (by decide)
  have c6 := nI_clamp (show j < 2 ^ 31 by omega)
  have c1 := call_l (lv := 1) (c_costOf (h := h) (so j) 0 (gr j)) (Nat.le_of_ble_eq_true rfl)
  simp only [k_Village_worth, e_Village_worth_0, e_Village_worth_1, e_Village_worth_4, e_Village_worth_5, e_Village_worth_6, e_Village_worth_7, e_Village_worth_8, e_Village_worth_11, e_Village_worth_12, e_Village_worth_13, e_Village_worth_16, m_get, m_put, m_ia, m_is, m_la, m_ls, fl_sf, fl_sa, fl_sl, fl_sq, ar_sf, ar_sa, ar_sl, ar_sq, lr_sf, lr_sa, lr_sl, lr_sq, qr_sf, qr_sa, qr_sl, qr_sq, sf_1, sf_2, sa_1, sa_2, sl_1, sl_2, Option.isSome_some, Option.map_some, Option.map_none, Option.toList_some, Option.toList_none, List.nil_append, List.cons_append, List.singleton_append, if_true, if_false, ↓reduceIte, and_self, and_true, true_and, and_false, false_and, not_true, not_false_iff, reduceCtorEq, Nat.reduceEqDiff, Nat.reduceAdd, Nat.reduceSub, Nat.reduceMul, Nat.reduceLT, Nat.reduceLeDiff, Nat.reduceBEq, eq_self, ne_eq, Nat.add_eq_zero_iff, Nat.add_left_cancel_iff, Nat.add_right_cancel_iff, Nat.left_eq_add, Nat.add_eq_left, Bool.true_or, Bool.or_true, Bool.or_self, or_self, or_true, true_or, or_false, false_or, decide_true, decide_false, i_10, i_01, v0, v1, v2, v3, v4, v5, w1, w2, w3, w4, w5, w6, w7, w8, w9, w10, a1, a2, a3, a4, a5, a6, a7, a8, a9, a10, i6, c6, c1]
theorem c_due (hV : Vil h v la ca da pe th ne co kn ow so gr ho ou np ns nd) {j : Nat} (hj : j < 6) : xC M_Village_due [.ref v, .int (nI j)] h = some (some (.int (if ho j = ow j then 0 else if ca - gr j < la + ou j / 2 then ca - gr j else la + ou j / 2)), h) := by
  have c1 := call_v (lv := 1) (c_isOut hV hj) (Vil_is hV) (by decide) (Nat.le_of_ble_eq_true rfl)
  obtain ⟨⟨v0, v1, v2, v3, v4, v5⟩, ⟨w1, w2, w3, w4, w5, w6, w7, w8, w9, w10⟩, ⟨a1, a2, a3, a4, a5, a6, a7, a8, a9, a10⟩⟩ := hV
  have i6 := xin_nI hj (by decide)
  have c6 := nI_clamp (show j < 2 ^ 31 by omega)
  by_cases q : ho j = ow j
  · simp only [q, if_true] at c1
    simp only [k_Village_due, e_Village_due_0, e_Village_due_1, e_Village_due_2, e_Village_due_5, e_Village_due_8, e_Village_due_9, e_Village_due_10, e_Village_due_11, e_Village_due_14, e_Village_due_15, e_Village_due_18, e_Village_due_19, e_Village_due_20, e_Village_due_21, e_Village_due_22, e_Village_due_23, e_Village_due_24, e_Village_due_27, e_Village_due_28, e_Village_due_31, e_Village_due_32, e_Village_due_33, e_Village_due_34, e_Village_due_37, m_get, m_put, m_ia, m_is, m_la, m_ls, fl_sf, fl_sa, fl_sl, fl_sq, ar_sf, ar_sa, ar_sl, ar_sq, lr_sf, lr_sa, lr_sl, lr_sq, qr_sf, qr_sa, qr_sl, qr_sq, sf_1, sf_2, sa_1, sa_2, sl_1, sl_2, Option.isSome_some, Option.map_some, Option.map_none, Option.toList_some, Option.toList_none, List.nil_append, List.cons_append, List.singleton_append, if_true, if_false, ↓reduceIte, and_self, and_true, true_and, and_false, false_and, not_true, not_false_iff, reduceCtorEq, Nat.reduceEqDiff, Nat.reduceAdd, Nat.reduceSub, Nat.reduceMul, Nat.reduceLT, Nat.reduceLeDiff, Nat.reduceBEq, eq_self, ne_eq, Nat.add_eq_zero_iff, Nat.add_left_cancel_iff, Nat.add_right_cancel_iff, Nat.left_eq_add, Nat.add_eq_left, Bool.true_or, Bool.or_true, Bool.or_self, or_self, or_true, true_or, or_false, false_or, decide_true, decide_false, i_10, i_01, v0, v1, v2, v3, v4, v5, w1, w2, w3, w4, w5, w6, w7, w8, w9, w10, a1, a2, a3, a4, a5, a6, a7, a8, a9, a10, i6, c6, c1, q]
  · simp only [q, if_false] at c1
    simp only [k_Village_due, e_Village_due_0, e_Village_due_1, e_Village_due_2, e_Village_due_5, e_Village_due_8, e_Village_due_9, e_Village_due_10, e_Village_due_11, e_Village_due_14, e_Village_due_15, e_Village_due_18, e_Village_due_19, e_Village_due_20, e_Village_due_21, e_Village_due_22, e_Village_due_23, e_Village_due_24, e_Village_due_27, e_Village_due_28, e_Village_due_31, e_Village_due_32, e_Village_due_33, e_Village_due_34, e_Village_due_37, m_get, m_put, m_ia, m_is, m_la, m_ls, fl_sf, fl_sa, fl_sl, fl_sq, ar_sf, ar_sa, ar_sl, ar_sq, lr_sf, lr_sa, lr_sl, lr_sq, qr_sf, qr_sa, qr_sl, qr_sq, sf_1, sf_2, sa_1, sa_2, sl_1, sl_2, Option.isSome_some, Option.map_some, Option.map_none, Option.toList_some, Option.toList_none, List.nil_append, List.cons_append, List.singleton_append, if_true, if_false, ↓reduceIte, and_self, and_true, true_and, and_false, false_and, not_true, not_false_iff, reduceCtorEq, Nat.reduceEqDiff, Nat.reduceAdd, Nat.reduceSub, Nat.reduceMul, Nat.reduceLT, Nat.reduceLeDiff, Nat.reduceBEq, eq_self, ne_eq, Nat.add_eq_zero_iff, Nat.add_left_cancel_iff, Nat.add_right_cancel_iff, Nat.left_eq_add, Nat.add_eq_left, Bool.true_or, Bool.or_true, Bool.or_self, or_self, or_true, true_or, or_false, false_or, decide_true, decide_false, i_10, i_01, v0, v1, v2, v3, v4, v5, w1, w2, w3, w4, w5, w6, w7, w8, w9, w10, a1, a2, a3, a4, a5, a6, a7, a8, a9, a10, i6, c6, c1, q, i_20]
theorem c_coinsOfAll {p : Nat} (hp : p ≤ 5) (hV : Vil h v la ca da (nI p) th ne co kn ow so gr ho ou np ns nd) : xC M_Village_coinsOfAll [.ref v] h = some (some (.int (sm co p)), h) := by
  obtain ⟨⟨v0, v1, v2, v3, v4, v5⟩, ⟨w1, w2, w3, w4, w5, w6, w7, w8, w9, w10⟩, ⟨a1, a2, a3, a4, a5, a6, a7, a8, a9, a10⟩⟩ := hV
  simp only [k_Village_coinsOfAll, e_Village_coinsOfAll_0, e_Village_coinsOfAll_1, e_Village_coinsOfAll_2, e_Village_coinsOfAll_3]
  have key := loop_dn (t := p) (P := fun i => xR none 0 M_Village_coinsOfAll 4 [some (.ref v), some (.int (sm co i)), some (.int (nI i))] [] h = some (some (.int (sm co p)), h)) ?_ ?_ 0 (Nat.zero_le _)
  · rw [nI_0] at key
    exact key
  · have q : nI p ≤ nI p := Int32.le_refl _
    simp only [e_Village_coinsOfAll_4, e_Village_coinsOfAll_5, e_Village_coinsOfAll_6, e_Village_coinsOfAll_9, e_Village_coinsOfAll_27, e_Village_coinsOfAll_28, m_get, m_put, m_ia, m_is, m_la, m_ls, fl_sf, fl_sa, fl_sl, fl_sq, ar_sf, ar_sa, ar_sl, ar_sq, lr_sf, lr_sa, lr_sl, lr_sq, qr_sf, qr_sa, qr_sl, qr_sq, sf_1, sf_2, sa_1, sa_2, sl_1, sl_2, Option.isSome_some, Option.map_some, Option.map_none, Option.toList_some, Option.toList_none, List.nil_append, List.cons_append, List.singleton_append, if_true, if_false, ↓reduceIte, and_self, and_true, true_and, and_false, false_and, not_true, not_false_iff, reduceCtorEq, Nat.reduceEqDiff, Nat.reduceAdd, Nat.reduceSub, Nat.reduceMul, Nat.reduceLT, Nat.reduceLeDiff, Nat.reduceBEq, eq_self, ne_eq, Nat.add_eq_zero_iff, Nat.add_left_cancel_iff, Nat.add_right_cancel_iff, Nat.left_eq_add, Nat.add_eq_left, Bool.true_or, Bool.or_true, Bool.or_self, or_self, or_true, true_or, or_false, false_or, decide_true, decide_false, i_10, i_01, v0, v1, v2, v3, v4, v5, w1, w2, w3, w4, w5, w6, w7, w8, w9, w10, a1, a2, a3, a4, a5, a6, a7, a8, a9, a10, q]
  · intro i hi ih
    have q : ¬ nI p ≤ nI i := nI_ge hi (by omega)
    have i6 := xin_nI (show i < 5 by omega) (by decide)
    have c6 := nI_clamp (show i < 2 ^ 31 by omega)
    rw [← nI_1, sm] at ih
    rw [e_Village_coinsOfAll_4]
    simp only [e_Village_coinsOfAll_5, e_Village_coinsOfAll_6, e_Village_coinsOfAll_9, e_Village_coinsOfAll_12, e_Village_coinsOfAll_13, e_Village_coinsOfAll_14, e_Village_coinsOfAll_17, e_Village_coinsOfAll_18, e_Village_coinsOfAll_19, e_Village_coinsOfAll_20, e_Village_coinsOfAll_21, e_Village_coinsOfAll_24, m_get, m_put, m_ia, m_is, m_la, m_ls, fl_sf, fl_sa, fl_sl, fl_sq, ar_sf, ar_sa, ar_sl, ar_sq, lr_sf, lr_sa, lr_sl, lr_sq, qr_sf, qr_sa, qr_sl, qr_sq, sf_1, sf_2, sa_1, sa_2, sl_1, sl_2, Option.isSome_some, Option.map_some, Option.map_none, Option.toList_some, Option.toList_none, List.nil_append, List.cons_append, List.singleton_append, if_true, if_false, ↓reduceIte, and_self, and_true, true_and, and_false, false_and, not_true, not_false_iff, reduceCtorEq, Nat.reduceEqDiff, Nat.reduceAdd, Nat.reduceSub, Nat.reduceMul, Nat.reduceLT, Nat.reduceLeDiff, Nat.reduceBEq, eq_self, ne_eq, Nat.add_eq_zero_iff, Nat.add_left_cancel_iff, Nat.add_right_cancel_iff, Nat.left_eq_add, Nat.add_eq_left, Bool.true_or, Bool.or_true, Bool.or_self, or_self, or_true, true_or, or_false, false_or, decide_true, decide_false, i_10, i_01, v0, v1, v2, v3, v4, v5, w1, w2, w3, w4, w5, w6, w7, w8, w9, w10, a1, a2, a3, a4, a5, a6, a7, a8, a9, a10, q, i6, c6]
    exact ih
theorem c_thingsOut {t : Nat} (ht : t ≤ 6) (hV : Vil h v la ca da pe (nI t) ne co kn ow so gr ho ou np ns nd) : xC M_Village_thingsOut [.ref v] h = some (some (.int (cno ho ow t)), h) := by
  have hV0 := hV
  obtain ⟨⟨v0, v1, v2, v3, v4, v5⟩, ⟨w1, w2, w3, w4, w5, w6, w7, w8, w9, w10⟩, ⟨a1, a2, a3, a4, a5, a6, a7, a8, a9, a10⟩⟩ := hV
  simp only [k_Village_thingsOut, e_Village_thingsOut_0, e_Village_thingsOut_1, e_Village_thingsOut_2, e_Village_thingsOut_3]
  have key := loop_dn (t := t) (P := fun i => xR none 1 M_Village_thingsOut 4 [some (.ref v), some (.int (cno ho ow i)), some (.int (nI i))] [] h = some (some (.int (cno ho ow t)), h)) ?_ ?_ 0 (Nat.zero_le _)
  · rw [nI_0] at key
    exact key
  · have q : nI t ≤ nI t := Int32.le_refl _
    simp only [e_Village_thingsOut_4, e_Village_thingsOut_5, e_Village_thingsOut_6, e_Village_thingsOut_9, e_Village_thingsOut_29, e_Village_thingsOut_30, m_get, m_put, m_ia, m_is, m_la, m_ls, fl_sf, fl_sa, fl_sl, fl_sq, ar_sf, ar_sa, ar_sl, ar_sq, lr_sf, lr_sa, lr_sl, lr_sq, qr_sf, qr_sa, qr_sl, qr_sq, sf_1, sf_2, sa_1, sa_2, sl_1, sl_2, Option.isSome_some, Option.map_some, Option.map_none, Option.toList_some, Option.toList_none, List.nil_append, List.cons_append, List.singleton_append, if_true, if_false, ↓reduceIte, and_self, and_true, true_and, and_false, false_and, not_true, not_false_iff, reduceCtorEq, Nat.reduceEqDiff, Nat.reduceAdd, Nat.reduceSub, Nat.reduceMul, Nat.reduceLT, Nat.reduceLeDiff, Nat.reduceBEq, eq_self, ne_eq, Nat.add_eq_zero_iff, Nat.add_left_cancel_iff, Nat.add_right_cancel_iff, Nat.left_eq_add, Nat.add_eq_left, Bool.true_or, Bool.or_true, Bool.or_self, or_self, or_true, true_or, or_false, false_or, decide_true, decide_false, i_10, i_01, v0, v1, v2, v3, v4, v5, w1, w2, w3, w4, w5, w6, w7, w8, w9, w10, a1, a2, a3, a4, a5, a6, a7, a8, a9, a10, q]
  · intro i hi ih
    have q : ¬ nI t ≤ nI i := nI_ge hi (by omega)
    have c1 := call_v (lv := 1) (c_isOut hV0 (show i < 6 by omega)) (Vil_is hV0) (by decide) (Nat.le_of_ble_eq_true rfl)
    rw [← nI_1, cno] at ih
    rw [e_Village_thingsOut_4]
    by_cases q2 : ho i = ow i
    · simp only [q2, if_true, Int32.add_zero] at ih c1
      simp only [e_Village_thingsOut_5, e_Village_thingsOut_6, e_Village_thingsOut_9, e_Village_thingsOut_12, e_Village_thingsOut_13, e_Village_thingsOut_14, e_Village_thingsOut_17, e_Village_thingsOut_20, e_Village_thingsOut_23, e_Village_thingsOut_26, m_get, m_put, m_ia, m_is, m_la, m_ls, fl_sf, fl_sa, fl_sl, fl_sq, ar_sf, ar_sa, ar_sl, ar_sq, lr_sf, lr_sa, lr_sl, lr_sq, qr_sf, qr_sa, qr_sl, qr_sq, sf_1, sf_2, sa_1, sa_2, sl_1, sl_2, Option.isSome_some, Option.map_some, Option.map_none, Option.toList_some, Option.toList_none, List.nil_append, List.cons_append, List.singleton_append, if_true, if_false, ↓reduceIte, and_self, and_true, true_and, and_false, false_and, not_true, not_false_iff, reduceCtorEq, Nat.reduceEqDiff, Nat.reduceAdd, Nat.reduceSub, Nat.reduceMul, Nat.reduceLT, Nat.reduceLeDiff, Nat.reduceBEq, eq_self, ne_eq, Nat.add_eq_zero_iff, Nat.add_left_cancel_iff, Nat.add_right_cancel_iff, Nat.left_eq_add, Nat.add_eq_left, Bool.true_or, Bool.or_true, Bool.or_self, or_self, or_true, true_or, or_false, false_or, decide_true, decide_false, i_10, i_01, v0, v1, v2, v3, v4, v5, w1, w2, w3, w4, w5, w6, w7, w8, w9, w10, a1, a2, a3, a4, a5, a6, a7, a8, a9, a10, q, c1]
      exact ih
    · simp only [q2, if_false] at ih c1
      simp only [e_Village_thingsOut_5, e_Village_thingsOut_6, e_Village_thingsOut_9, e_Village_thingsOut_12, e_Village_thingsOut_13, e_Village_thingsOut_14, e_Village_thingsOut_17, e_Village_thingsOut_20, e_Village_thingsOut_23, e_Village_thingsOut_26, m_get, m_put, m_ia, m_is, m_la, m_ls, fl_sf, fl_sa, fl_sl, fl_sq, ar_sf, ar_sa, ar_sl, ar_sq, lr_sf, lr_sa, lr_sl, lr_sq, qr_sf, qr_sa, qr_sl, qr_sq, sf_1, sf_2, sa_1, sa_2, sl_1, sl_2, Option.isSome_some, Option.map_some, Option.map_none, Option.toList_some, Option.toList_none, List.nil_append, List.cons_append, List.singleton_append, if_true, if_false, ↓reduceIte, and_self, and_true, true_and, and_false, false_and, not_true, not_false_iff, reduceCtorEq, Nat.reduceEqDiff, Nat.reduceAdd, Nat.reduceSub, Nat.reduceMul, Nat.reduceLT, Nat.reduceLeDiff, Nat.reduceBEq, eq_self, ne_eq, Nat.add_eq_zero_iff, Nat.add_left_cancel_iff, Nat.add_right_cancel_iff, Nat.left_eq_add, Nat.add_eq_left, Bool.true_or, Bool.or_true, Bool.or_self, or_self, or_true, true_or, or_false, false_or, decide_true, decide_false, i_10, i_01, v0, v1, v2, v3, v4, v5, w1, w2, w3, w4, w5, w6, w7, w8, w9, w10, a1, a2, a3, a4, a5, a6, a7, a8, a9, a10, q, c1]
      exact ih
theorem c_greatestGrade {t : Nat} (ht : t ≤ 6) (hV : Vil h v la ca da pe (nI t) ne co kn ow so gr ho ou np ns nd) : xC M_Village_greatestGrade [.ref v] h = some (some (.int (ggr gr t)), h) := by
  obtain ⟨⟨v0, v1, v2, v3, v4, v5⟩, ⟨w1, w2, w3, w4, w5, w6, w7, w8, w9, w10⟩, ⟨a1, a2, a3, a4, a5, a6, a7, a8, a9, a10⟩⟩ := hV
  simp only [k_Village_greatestGrade, e_Village_greatestGrade_0, e_Village_greatestGrade_1, e_Village_greatestGrade_2, e_Village_greatestGrade_3]
  have key := loop_dn (t := t) (P := fun i => xR none 1 M_Village_greatestGrade 4 [some (.ref v), some (.int (ggr gr i)), some (.int (nI i))] [] h = some (some (.int (ggr gr t)), h)) ?_ ?_ 0 (Nat.zero_le _)
  · rw [nI_0] at key
    exact key
  · have q : nI t ≤ nI t := Int32.le_refl _
    simp only [e_Village_greatestGrade_4, e_Village_greatestGrade_5, e_Village_greatestGrade_6, e_Village_greatestGrade_9, e_Village_greatestGrade_29, e_Village_greatestGrade_30, m_get, m_put, m_ia, m_is, m_la, m_ls, fl_sf, fl_sa, fl_sl, fl_sq, ar_sf, ar_sa, ar_sl, ar_sq, lr_sf, lr_sa, lr_sl, lr_sq, qr_sf, qr_sa, qr_sl, qr_sq, sf_1, sf_2, sa_1, sa_2, sl_1, sl_2, Option.isSome_some, Option.map_some, Option.map_none, Option.toList_some, Option.toList_none, List.nil_append, List.cons_append, List.singleton_append, if_true, if_false, ↓reduceIte, and_self, and_true, true_and, and_false, false_and, not_true, not_false_iff, reduceCtorEq, Nat.reduceEqDiff, Nat.reduceAdd, Nat.reduceSub, Nat.reduceMul, Nat.reduceLT, Nat.reduceLeDiff, Nat.reduceBEq, eq_self, ne_eq, Nat.add_eq_zero_iff, Nat.add_left_cancel_iff, Nat.add_right_cancel_iff, Nat.left_eq_add, Nat.add_eq_left, Bool.true_or, Bool.or_true, Bool.or_self, or_self, or_true, true_or, or_false, false_or, decide_true, decide_false, i_10, i_01, v0, v1, v2, v3, v4, v5, w1, w2, w3, w4, w5, w6, w7, w8, w9, w10, a1, a2, a3, a4, a5, a6, a7, a8, a9, a10, q]
  · intro i hi ih
    have q : ¬ nI t ≤ nI i := nI_ge hi (by omega)
    have i6 := xin_nI (show i < 6 by omega) (by decide)
    have c6 := nI_clamp (show i < 2 ^ 31 by omega)
    rw [← nI_1, ggr] at ih
    rw [e_Village_greatestGrade_4]
    simp only [e_Village_greatestGrade_5, e_Village_greatestGrade_6, e_Village_greatestGrade_9, e_Village_greatestGrade_12, e_Village_greatestGrade_13, e_Village_greatestGrade_14, e_Village_greatestGrade_17, e_Village_greatestGrade_18, e_Village_greatestGrade_19, e_Village_greatestGrade_22, e_Village_greatestGrade_23, e_Village_greatestGrade_26, m_get, m_put, m_ia, m_is, m_la, m_ls, fl_sf, fl_sa, fl_sl, fl_sq, ar_sf, ar_sa, ar_sl, ar_sq, lr_sf, lr_sa, lr_sl, lr_sq, qr_sf, qr_sa, qr_sl, qr_sq, sf_1, sf_2, sa_1, sa_2, sl_1, sl_2, Option.isSome_some, Option.map_some, Option.map_none, Option.toList_some, Option.toList_none, List.nil_append, List.cons_append, List.singleton_append, if_true, if_false, ↓reduceIte, and_self, and_true, true_and, and_false, false_and, not_true, not_false_iff, reduceCtorEq, Nat.reduceEqDiff, Nat.reduceAdd, Nat.reduceSub, Nat.reduceMul, Nat.reduceLT, Nat.reduceLeDiff, Nat.reduceBEq, eq_self, ne_eq, Nat.add_eq_zero_iff, Nat.add_left_cancel_iff, Nat.add_right_cancel_iff, Nat.left_eq_add, Nat.add_eq_left, Bool.true_or, Bool.or_true, Bool.or_self, or_self, or_true, true_or, or_false, false_or, decide_true, decide_false, i_10, i_01, v0, v1, v2, v3, v4, v5, w1, w2, w3, w4, w5, w6, w7, w8, w9, w10, a1, a2, a3, a4, a5, a6, a7, a8, a9, a10, q, i6, c6]
    exact ih
theorem c_worthOfAll {t : Nat} (ht : t ≤ 6) (hV : Vil h v la ca da pe (nI t) ne co kn ow so gr ho ou np ns nd) {a : Nat} (ha : a ≠ 0) {f : Nat → Int32} (hf : ar h a 0 = some (6, f)) : xC M_Village_worthOfAll [.ref v, .ref a] h = some (some (.int (wt so f t)), h) := by
  have hln : ∀ k : Int32 → xQ, rln h a k = k 6 := fun k => m_lnI h a k hf ha
  obtain ⟨⟨v0, v1, v2, v3, v4, v5⟩, ⟨w1, w2, w3, w4, w5, w6, w7, w8, w9, w10⟩, ⟨a1, a2, a3, a4, a5, a6, a7, a8, a9, a10⟩⟩ := hV
  simp only [k_Village_worthOfAll, e_Village_worthOfAll_0, e_Village_worthOfAll_1, e_Village_worthOfAll_2, e_Village_worthOfAll_3]
  have key := loop_dn (t := t) (P := fun i => xR none 1 M_Village_worthOfAll 4 [some (.ref v), some (.ref a), some (.int (wt so f i)), some (.int (nI i))] [] h = some (some (.int (wt so f t)), h)) ?_ ?_ 0 (Nat.zero_le _)
  · rw [nI_0] at key
    exact key
  · have q : nI t ≤ nI t := Int32.le_refl _
    simp only [e_Village_worthOfAll_4, e_Village_worthOfAll_5, e_Village_worthOfAll_6, e_Village_worthOfAll_9, e_Village_worthOfAll_40, e_Village_worthOfAll_41, m_get, m_put, m_ia, m_is, m_la, m_ls, fl_sf, fl_sa, fl_sl, fl_sq, ar_sf, ar_sa, ar_sl, ar_sq, lr_sf, lr_sa, lr_sl, lr_sq, qr_sf, qr_sa, qr_sl, qr_sq, sf_1, sf_2, sa_1, sa_2, sl_1, sl_2, Option.isSome_some, Option.map_some, Option.map_none, Option.toList_some, Option.toList_none, List.nil_append, List.cons_append, List.singleton_append, if_true, if_false, ↓reduceIte, and_self, and_true, true_and, and_false, false_and, not_true, not_false_iff, reduceCtorEq, Nat.reduceEqDiff, Nat.reduceAdd, Nat.reduceSub, Nat.reduceMul, Nat.reduceLT, Nat.reduceLeDiff, Nat.reduceBEq, eq_self, ne_eq, Nat.add_eq_zero_iff, Nat.add_left_cancel_iff, Nat.add_right_cancel_iff, Nat.left_eq_add, Nat.add_eq_left, Bool.true_or, Bool.or_true, Bool.or_self, or_self, or_true, true_or, or_false, false_or, decide_true, decide_false, i_10, i_01, v0, v1, v2, v3, v4, v5, w1, w2, w3, w4, w5, w6, w7, w8, w9, w10, a1, a2, a3, a4, a5, a6, a7, a8, a9, a10, q]
  · intro i hi ih
    have q : ¬ nI t ≤ nI i := nI_ge hi (by omega)
    have q2 : ¬ (6 : Int32) ≤ nI i := nI_ge (b := 6) (show i < 6 by omega) (by decide)
    have i6 := xin_nI (show i < 6 by omega) (by decide)
    have c6 := nI_clamp (show i < 2 ^ 31 by omega)
    have c1 := call_l (lv := 1) (c_costOf (h := h) (so i) 0 (f i)) (Nat.le_of_ble_eq_true rfl)
    rw [← nI_1, wt] at ih
    rw [e_Village_worthOfAll_4]
    simp only [e_Village_worthOfAll_5, e_Village_worthOfAll_6, e_Village_worthOfAll_9, e_Village_worthOfAll_12, e_Village_worthOfAll_13, e_Village_worthOfAll_14, e_Village_worthOfAll_15, e_Village_worthOfAll_18, e_Village_worthOfAll_19, e_Village_worthOfAll_20, e_Village_worthOfAll_23, e_Village_worthOfAll_24, e_Village_worthOfAll_25, e_Village_worthOfAll_26, e_Village_worthOfAll_27, e_Village_worthOfAll_28, e_Village_worthOfAll_29, e_Village_worthOfAll_32, e_Village_worthOfAll_33, e_Village_worthOfAll_34, e_Village_worthOfAll_37, m_get, m_put, m_ia, m_is, m_la, m_ls, fl_sf, fl_sa, fl_sl, fl_sq, ar_sf, ar_sa, ar_sl, ar_sq, lr_sf, lr_sa, lr_sl, lr_sq, qr_sf, qr_sa, qr_sl, qr_sq, sf_1, sf_2, sa_1, sa_2, sl_1, sl_2, Option.isSome_some, Option.map_some, Option.map_none, Option.toList_some, Option.toList_none, List.nil_append, List.cons_append, List.singleton_append, if_true, if_false, ↓reduceIte, and_self, and_true, true_and, and_false, false_and, not_true, not_false_iff, reduceCtorEq, Nat.reduceEqDiff, Nat.reduceAdd, Nat.reduceSub, Nat.reduceMul, Nat.reduceLT, Nat.reduceLeDiff, Nat.reduceBEq, eq_self, ne_eq, Nat.add_eq_zero_iff, Nat.add_left_cancel_iff, Nat.add_right_cancel_iff, Nat.left_eq_add, Nat.add_eq_left, Bool.true_or, Bool.or_true, Bool.or_self, or_self, or_true, true_or, or_false, false_or, decide_true, decide_false, i_10, i_01, v0, v1, v2, v3, v4, v5, w1, w2, w3, w4, w5, w6, w7, w8, w9, w10, a1, a2, a3, a4, a5, a6, a7, a8, a9, a10, q, q2, hln, hf, ha, i6, c6, c1]
    exact ih
theorem c_addPerson {p : Nat} (hp : p < 5) (hV : Vil h v la ca da (nI p) th ne co kn ow so gr ho ou np ns nd) (x : Int32) : xC M_Village_addPerson [.ref v, .int x] h = some (none, sf (sa (sa h (v + 1) 0 (upd co p x)) (v + 2) 0 (upd kn p 0)) v 7 3 (.int (nI p + 1))) := by
  obtain ⟨⟨v0, v1, v2, v3, v4, v5⟩, ⟨w1, w2, w3, w4, w5, w6, w7, w8, w9, w10⟩, ⟨a1, a2, a3, a4, a5, a6, a7, a8, a9, a10⟩⟩ := hV
  have q : ¬ (5 : Int32) ≤ nI p := nI_ge (b := 5) hp (by decide)
  have i6 := xin_nI hp (by decide)
  have c6 := nI_clamp (show p < 2 ^ 31 by omega)
  simp only [k_Village_addPerson, e_Village_addPerson_0, e_Village_addPerson_1, e_Village_addPerson_4, e_Village_addPerson_5, e_Village_addPerson_8, e_Village_addPerson_9, e_Village_addPerson_12, e_Village_addPerson_13, e_Village_addPerson_16, e_Village_addPerson_17, e_Village_addPerson_18, e_Village_addPerson_19, e_Village_addPerson_22, e_Village_addPerson_23, e_Village_addPerson_26, e_Village_addPerson_27, e_Village_addPerson_28, e_Village_addPerson_29, e_Village_addPerson_30, e_Village_addPerson_33, e_Village_addPerson_34, e_Village_addPerson_35, e_Village_addPerson_38, m_get, m_put, m_ia, m_is, m_la, m_ls, fl_sf, fl_sa, fl_sl, fl_sq, ar_sf, ar_sa, ar_sl, ar_sq, lr_sf, lr_sa, lr_sl, lr_sq, qr_sf, qr_sa, qr_sl, qr_sq, sf_1, sf_2, sa_1, sa_2, sl_1, sl_2, Option.isSome_some, Option.map_some, Option.map_none, Option.toList_some, Option.toList_none, List.nil_append, List.cons_append, List.singleton_append, if_true, if_false, ↓reduceIte, and_self, and_true, true_and, and_false, false_and, not_true, not_false_iff, reduceCtorEq, Nat.reduceEqDiff, Nat.reduceAdd, Nat.reduceSub, Nat.reduceMul, Nat.reduceLT, Nat.reduceLeDiff, Nat.reduceBEq, eq_self, ne_eq, Nat.add_eq_zero_iff, Nat.add_left_cancel_iff, Nat.add_right_cancel_iff, Nat.left_eq_add, Nat.add_eq_left, Bool.true_or, Bool.or_true, Bool.or_self, or_self, or_true, true_or, or_false, false_or, decide_true, decide_false, i_10, i_01, v0, v1, v2, v3, v4, v5, w1, w2, w3, w4, w5, w6, w7, w8, w9, w10, a1, a2, a3, a4, a5, a6, a7, a8, a9, a10, q, i6, c6]
theorem c_addNeed {n : Nat} (hn : n < 8) (hV : Vil h v la ca da pe th (nI n) co kn ow so gr ho ou np ns nd) (x y z : Int32) : xC M_Village_addNeed [.ref v, .int x, .int y, .int z] h = some (none, sf (sa (sa (sa h (v + 8) 0 (upd np n x)) (v + 9) 0 (upd ns n y)) (v + 10) 0 (upd nd n z)) v 7 5 (.int (nI n + 1))) := by
  obtain ⟨⟨v0, v1, v2, v3, v4, v5⟩, ⟨w1, w2, w3, w4, w5, w6, w7, w8, w9, w10⟩, ⟨a1, a2, a3, a4, a5, a6, a7, a8, a9, a10⟩⟩ := hV
  have q : ¬ (8 : Int32) ≤ nI n := nI_ge (b := 8) hn (by decide)
  have i6 := xin_nI hn (by decide)
  have c6 := nI_clamp (show n < 2 ^ 31 by omega)
  simp only [k_Village_addNeed, e_Village_addNeed_0, e_Village_addNeed_1, e_Village_addNeed_4, e_Village_addNeed_6, e_Village_addNeed_9, e_Village_addNeed_10, e_Village_addNeed_13, e_Village_addNeed_14, e_Village_addNeed_17, e_Village_addNeed_18, e_Village_addNeed_19, e_Village_addNeed_20, e_Village_addNeed_23, e_Village_addNeed_24, e_Village_addNeed_27, e_Village_addNeed_28, e_Village_addNeed_29, e_Village_addNeed_30, e_Village_addNeed_33, e_Village_addNeed_34, e_Village_addNeed_37, e_Village_addNeed_38, e_Village_addNeed_39, e_Village_addNeed_40, e_Village_addNeed_41, e_Village_addNeed_44, e_Village_addNeed_45, e_Village_addNeed_46, e_Village_addNeed_49, m_get, m_put, m_ia, m_is, m_la, m_ls, fl_sf, fl_sa, fl_sl, fl_sq, ar_sf, ar_sa, ar_sl, ar_sq, lr_sf, lr_sa, lr_sl, lr_sq, qr_sf, qr_sa, qr_sl, qr_sq, sf_1, sf_2, sa_1, sa_2, sl_1, sl_2, Option.isSome_some, Option.map_some, Option.map_none, Option.toList_some, Option.toList_none, List.nil_append, List.cons_append, List.singleton_append, if_true, if_false, ↓reduceIte, and_self, and_true, true_and, and_false, false_and, not_true, not_false_iff, reduceCtorEq, Nat.reduceEqDiff, Nat.reduceAdd, Nat.reduceSub, Nat.reduceMul, Nat.reduceLT, Nat.reduceLeDiff, Nat.reduceBEq, eq_self, ne_eq, Nat.add_eq_zero_iff, Nat.add_left_cancel_iff, Nat.add_right_cancel_iff, Nat.left_eq_add, Nat.add_eq_left, Bool.true_or, Bool.or_true, Bool.or_self, or_self, or_true, true_or, or_false, false_or, decide_true, decide_false, i_10, i_01, v0, v1, v2, v3, v4, v5, w1, w2, w3, w4, w5, w6, w7, w8, w9, w10, a1, a2, a3, a4, a5, a6, a7, a8, a9, a10, q, i6, c6]
theorem c_addThing {t : Nat} (ht : t < 6) (hV : Vil h v la ca da pe (nI t) ne co kn ow so gr ho ou np ns nd) (x y z : Int32) : ∃ h', xC M_Village_addThing [.ref v, .int x, .int y, .int z] h = some (none, h') ∧ Vil h' v la ca da pe (nI t + 1) ne co kn (upd ow t x) (upd so t y) (upd gr t z) (upd ho t x) (upd ou t 0) np ns nd ∧ fr (fun j => v ≤ j ∧ j ≤ v + 10) h h' := by
  have hW := Vil_a5 (Vil_a4 (Vil_a3 hV (upd ow t x)) (upd so t y)) (upd gr t z)
  have c1 := call_v (lv := 1) (c_bringHome hW (show t < 6 by omega)) (Vil_is hW) (by decide) (Nat.le_of_ble_eq_true rfl)
  have hW2 := Vil_f4 (Vil_a7 (Vil_a6 hW (upd ho t (upd ow t x t))) (upd ou t 0)) (nI t + 1)
  have e1 : upd ow t x t = x := by simp [upd]
  rw [e1] at hW2 c1
  refine ⟨_, ?_, hW2, ?_⟩
  · obtain ⟨⟨v0, v1, v2, v3, v4, v5⟩, ⟨w1, w2, w3, w4, w5, w6, w7, w8, w9, w10⟩, ⟨a1, a2, a3, a4, a5, a6, a7, a8, a9, a10⟩⟩ := hV
    have q : ¬ (6 : Int32) ≤ nI t := nI_ge (b := 6) ht (by decide)
    have i6 := xin_nI ht (by decide)
    have c6 := nI_clamp (show t < 2 ^ 31 by omega)
    simp only [k_Village_addThing, e_Village_addThing_0, e_Village_addThing_1, e_Village_addThing_4, e_Village_addThing_6, e_Village_addThing_9, e_Village_addThing_10, e_Village_addThing_13, e_Village_addThing_14, e_Village_addThing_17, e_Village_addThing_18, e_Village_addThing_19, e_Village_addThing_20, e_Village_addThing_23, e_Village_addThing_24, e_Village_addThing_27, e_Village_addThing_28, e_Village_addThing_29, e_Village_addThing_30, e_Village_addThing_33, e_Village_addThing_34, e_Village_addThing_37, e_Village_addThing_38, e_Village_addThing_39, e_Village_addThing_40, e_Village_addThing_41, e_Village_addThing_44, e_Village_addThing_47, e_Village_addThing_48, e_Village_addThing_49, e_Village_addThing_52, e_Village_addThing_53, e_Village_addThing_54, e_Village_addThing_57, m_get, m_put, m_ia, m_is, m_la, m_ls, fl_sf, fl_sa, fl_sl, fl_sq, ar_sf, ar_sa, ar_sl, ar_sq, lr_sf, lr_sa, lr_sl, lr_sq, qr_sf, qr_sa, qr_sl, qr_sq, sf_1, sf_2, sa_1, sa_2, sl_1, sl_2, Option.isSome_some, Option.map_some, Option.map_none, Option.toList_some, Option.toList_none, List.nil_append, List.cons_append, List.singleton_append, if_true, if_false, ↓reduceIte, and_self, and_true, true_and, and_false, false_and, not_true, not_false_iff, reduceCtorEq, Nat.reduceEqDiff, Nat.reduceAdd, Nat.reduceSub, Nat.reduceMul, Nat.reduceLT, Nat.reduceLeDiff, Nat.reduceBEq, eq_self, ne_eq, Nat.add_eq_zero_iff, Nat.add_left_cancel_iff, Nat.add_right_cancel_iff, Nat.left_eq_add, Nat.add_eq_left, Bool.true_or, Bool.or_true, Bool.or_self, or_self, or_true, true_or, or_false, false_or, decide_true, decide_false, i_10, i_01, v0, v1, v2, v3, v4, v5, w1, w2, w3, w4, w5, w6, w7, w8, w9, w10, a1, a2, a3, a4, a5, a6, a7, a8, a9, a10, q, i6, c6, c1]
  · exact fr_sf (fr_sa (fr_sa (fr_sa (fr_sa (fr_sa (fr_refl _ _) (by omega)) (by omega)) (by omega)) (by omega)) (by omega)) (by omega)
end VIL2
