section BW
variable {h : xH} {σ τ : Nat → Nat → Int32} {v s : Nat} {q : Nat → Nat} {e1 e2 : Int64} {p t n z : Nat}
theorem c_gd1 {lv : Nat} {x0 x2 : Int64} {i x y : Nat} {l9 l10 : Option Value} (hi : i < 128) (hx : x < 2 ^ 63) (hy : y < 2 ^ 63) (y0 : 0 < y) : xR none lv M_Sp_greatestDivisor 9 [some (.long x0), none, some (.long x2), none, some (.long (lN x)), none, some (.long (lN y)), none, some (.int (nI i)), l9, l10] [] h = xR none lv M_Sp_greatestDivisor 9 [some (.long x0), none, some (.long x2), none, some (.long (lN y)), none, some (.long (lN (x % y))), none, some (.int (nI (i + 1))), some (.long (lN (x % y))), none] [] h := by
  have q1 : ¬ (128 : Int32) ≤ nI i := nI_ge (b := 128) hi (by omega)
  have q2 : ¬ lN y = 0 := fun w => by
    have := (pk_lEQ hy (show 0 < 2 ^ 63 by omega)).mp w
    omega
  have q3 : ¬ lg_cmp (lN y) 0 = 0 := fun w => q2 ((lg0 _ _).mp w)
  rw [← nI_1, ← pk_lRem hx y0 hy]
  rw [e_Sp_greatestDivisor_9]
  simp only [e_Sp_greatestDivisor_11, e_Sp_greatestDivisor_14, e_Sp_greatestDivisor_17, e_Sp_greatestDivisor_19, e_Sp_greatestDivisor_20, e_Sp_greatestDivisor_21, e_Sp_greatestDivisor_24, e_Sp_greatestDivisor_26, e_Sp_greatestDivisor_28, e_Sp_greatestDivisor_29, e_Sp_greatestDivisor_31, e_Sp_greatestDivisor_33, e_Sp_greatestDivisor_35, e_Sp_greatestDivisor_37, e_Sp_greatestDivisor_39, e_Sp_greatestDivisor_42, Option.isSome_some, Option.map_some, Option.map_none, Option.toList_some, Option.toList_none, List.nil_append, List.cons_append, List.singleton_append, if_true, if_false, ↓reduceIte, and_self, and_true, true_and, and_false, false_and, not_true, not_false_iff, reduceCtorEq, Nat.reduceEqDiff, Nat.reduceAdd, Nat.reduceSub, Nat.reduceMul, Nat.reduceLT, Nat.reduceLeDiff, Nat.reduceBEq, eq_self, ne_eq, Nat.add_eq_zero_iff, Nat.add_left_cancel_iff, Nat.add_right_cancel_iff, Nat.left_eq_add, Nat.add_eq_left, Bool.true_or, Bool.or_true, Bool.or_self, or_self, or_true, true_or, or_false, false_or, decide_true, decide_false, i_10, i_01, q1, q2, q3]
theorem c_gd0 {lv : Nat} {x0 x2 : Int64} {i x : Nat} {l9 l10 : Option Value} : xR none lv M_Sp_greatestDivisor 9 [some (.long x0), none, some (.long x2), none, some (.long (lN x)), none, some (.long (lN 0)), none, some (.int (nI i)), l9, l10] [] h = some (some (.long (lN x)), h) := by
  have q3 : lg_cmp (lN 0) 0 = 0 := (lg0 _ _).mpr rfl
  by_cases q1 : (128 : Int32) ≤ nI i
  · simp only [e_Sp_greatestDivisor_0, e_Sp_greatestDivisor_1, e_Sp_greatestDivisor_3, e_Sp_greatestDivisor_4, e_Sp_greatestDivisor_6, e_Sp_greatestDivisor_7, e_Sp_greatestDivisor_9, e_Sp_greatestDivisor_11, e_Sp_greatestDivisor_14, e_Sp_greatestDivisor_17, e_Sp_greatestDivisor_19, e_Sp_greatestDivisor_20, e_Sp_greatestDivisor_21, e_Sp_greatestDivisor_24, e_Sp_greatestDivisor_26, e_Sp_greatestDivisor_28, e_Sp_greatestDivisor_29, e_Sp_greatestDivisor_31, e_Sp_greatestDivisor_33, e_Sp_greatestDivisor_35, e_Sp_greatestDivisor_37, e_Sp_greatestDivisor_39, e_Sp_greatestDivisor_42, e_Sp_greatestDivisor_45, e_Sp_greatestDivisor_47, Option.isSome_some, Option.map_some, Option.map_none, Option.toList_some, Option.toList_none, List.nil_append, List.cons_append, List.singleton_append, if_true, if_false, ↓reduceIte, and_self, and_true, true_and, and_false, false_and, not_true, not_false_iff, reduceCtorEq, Nat.reduceEqDiff, Nat.reduceAdd, Nat.reduceSub, Nat.reduceMul, Nat.reduceLT, Nat.reduceLeDiff, Nat.reduceBEq, eq_self, ne_eq, Nat.add_eq_zero_iff, Nat.add_left_cancel_iff, Nat.add_right_cancel_iff, Nat.left_eq_add, Nat.add_eq_left, Bool.true_or, Bool.or_true, Bool.or_self, or_self, or_true, true_or, or_false, false_or, decide_true, decide_false, i_10, i_01, q1]
  · simp only [e_Sp_greatestDivisor_0, e_Sp_greatestDivisor_1, e_Sp_greatestDivisor_3, e_Sp_greatestDivisor_4, e_Sp_greatestDivisor_6, e_Sp_greatestDivisor_7, e_Sp_greatestDivisor_9, e_Sp_greatestDivisor_11, e_Sp_greatestDivisor_14, e_Sp_greatestDivisor_17, e_Sp_greatestDivisor_19, e_Sp_greatestDivisor_20, e_Sp_greatestDivisor_21, e_Sp_greatestDivisor_24, e_Sp_greatestDivisor_26, e_Sp_greatestDivisor_28, e_Sp_greatestDivisor_29, e_Sp_greatestDivisor_31, e_Sp_greatestDivisor_33, e_Sp_greatestDivisor_35, e_Sp_greatestDivisor_37, e_Sp_greatestDivisor_39, e_Sp_greatestDivisor_42, e_Sp_greatestDivisor_45, e_Sp_greatestDivisor_47, Option.isSome_some, Option.map_some, Option.map_none, Option.toList_some, Option.toList_none, List.nil_append, List.cons_append, List.singleton_append, if_true, if_false, ↓reduceIte, and_self, and_true, true_and, and_false, false_and, not_true, not_false_iff, reduceCtorEq, Nat.reduceEqDiff, Nat.reduceAdd, Nat.reduceSub, Nat.reduceMul, Nat.reduceLT, Nat.reduceLeDiff, Nat.reduceBEq, eq_self, ne_eq, Nat.add_eq_zero_iff, Nat.add_left_cancel_iff, Nat.add_right_cancel_iff, Nat.left_eq_add, Nat.add_eq_left, Bool.true_or, Bool.or_true, Bool.or_self, or_self, or_true, true_or, or_false, false_or, decide_true, decide_false, i_10, i_01, q1, q3]
theorem c_gd {lv : Nat} {x0 x2 : Int64} : ∀ j i x y (l9 l10 : Option Value), i + 2 * j ≤ 128 → x < 2 ^ 63 → y < 2 ^ 63 → y < 2 ^ j → xR none lv M_Sp_greatestDivisor 9 [some (.long x0), none, some (.long x2), none, some (.long (lN x)), none, some (.long (lN y)), none, some (.int (nI i)), l9, l10] [] h = some (some (.long (lN (Nat.gcd x y))), h)
  | 0, i, x, y, l9, l10, hi, hx, hy, hj => by
    have : y = 0 := by omega
    subst this
    rw [c_gd0, Nat.gcd_zero_right]
  | j + 1, i, x, y, l9, l10, hi, hx, hy, hj => by
    rcases Nat.eq_zero_or_pos y with w | w
    · subst w
      rw [c_gd0, Nat.gcd_zero_right]
    · have r1 : x % y < y := Nat.mod_lt _ w
      rw [c_gd1 (by omega) hx hy w, Nat.gcd_comm x y, Nat.gcd_rec y x]
      rcases Nat.eq_zero_or_pos (x % y) with w2 | w2
      · rw [w2, c_gd0, Nat.gcd_zero_left]
      · have r2 : y % (x % y) < x % y := Nat.mod_lt _ w2
        have r3 : 2 * (y % (x % y)) < y := by
          have e := Nat.div_add_mod y (x % y)
          have : 1 ≤ y / (x % y) := (Nat.one_le_div_iff w2).mpr (by omega)
          have : x % y ≤ (x % y) * (y / (x % y)) := Nat.le_mul_of_pos_right _ this
          omega
        rw [c_gd1 (by omega) hy (by omega) w2, c_gd j _ _ _ _ _ (by omega) (by omega) (by omega) (by omega), Nat.gcd_rec (x % y) y, Nat.gcd_comm]
theorem cM_part {x0 x2 : Int64} {x4 : Int32} {lv : Nat} : ∀ y x (l9 l10 : Option Value), x < 2 ^ 63 → y < 2 ^ 63 → ∃ (a7 : Int64) (a9 a10 : Option Value), xR none lv M_Md_part 6 [some (.long x0), none, some (.long x2), none, some (.int x4), some (.long (lN x)), none, some (.long (lN y)), none, l9, l10] [] h = xR none lv M_Md_part 31 [some (.long x0), none, some (.long x2), none, some (.int x4), some (.long (lN (Nat.gcd x y))), none, some (.long a7), none, a9, a10] [] h := by
  intro y
  induction y using Nat.strongRecOn with
  | ind y ih =>
    intro x l9 l10 hx hy
    rcases Nat.eq_zero_or_pos y with w | w
    · subst w
      have q3 : lg_cmp (lN 0) 0 = 0 := (lg0 _ _).mpr rfl
      exact ⟨lN 0, l9, l10, by
        rw [Nat.gcd_zero_right]
        simp only [e_Md_part_6, e_Md_part_8, e_Md_part_9, e_Md_part_10, Option.isSome_some, Option.map_some, Option.map_none, Option.toList_some, Option.toList_none, List.nil_append, List.cons_append, List.singleton_append, if_true, if_false, ↓reduceIte, and_self, and_true, true_and, and_false, false_and, not_true, not_false_iff, reduceCtorEq, Nat.reduceEqDiff, Nat.reduceAdd, Nat.reduceSub, Nat.reduceMul, Nat.reduceLT, Nat.reduceLeDiff, Nat.reduceBEq, eq_self, ne_eq, Nat.add_eq_zero_iff, Nat.add_left_cancel_iff, Nat.add_right_cancel_iff, Nat.left_eq_add, Nat.add_eq_left, Bool.true_or, Bool.or_true, Bool.or_self, or_self, or_true, true_or, or_false, false_or, decide_true, decide_false, i_10, i_01, q3]⟩
    · have q2 : ¬ lN y = 0 := fun w => by
        have := (pk_lEQ hy (show 0 < 2 ^ 63 by omega)).mp w
        omega
      have q3 : ¬ lg_cmp (lN y) 0 = 0 := fun w => q2 ((lg0 _ _).mp w)
      have r1 : x % y < y := Nat.mod_lt _ w
      obtain ⟨a, c, d, e⟩ := ih (x % y) r1 y (some (.long (lN (x % y)))) none hy (by omega)
      refine ⟨a, c, d, ?_⟩
      rw [Nat.gcd_comm x y, Nat.gcd_rec y x, Nat.gcd_comm, ← e, ← pk_lRem hx w hy, e_Md_part_6]
      simp only [e_Md_part_8, e_Md_part_9, e_Md_part_10, e_Md_part_13, e_Md_part_15, e_Md_part_17, e_Md_part_18, e_Md_part_20, e_Md_part_22, e_Md_part_24, e_Md_part_26, e_Md_part_28, Option.isSome_some, Option.map_some, Option.map_none, Option.toList_some, Option.toList_none, List.nil_append, List.cons_append, List.singleton_append, if_true, if_false, ↓reduceIte, and_self, and_true, true_and, and_false, false_and, not_true, not_false_iff, reduceCtorEq, Nat.reduceEqDiff, Nat.reduceAdd, Nat.reduceSub, Nat.reduceMul, Nat.reduceLT, Nat.reduceLeDiff, Nat.reduceBEq, eq_self, ne_eq, Nat.add_eq_zero_iff, Nat.add_left_cancel_iff, Nat.add_right_cancel_iff, Nat.left_eq_add, Nat.add_eq_left, Bool.true_or, Bool.or_true, Bool.or_self, or_self, or_true, true_or, or_false, false_or, decide_true, decide_false, i_10, i_01, q2, q3]
theorem c_ways {m : Nat} (hm : m ≤ 8) {a : Nat} : xC M_Chances_waysInAll [.ref a, .int (nI m)] h = some (some (.long (lN (10 ^ m))), h) := by
  simp only [k_Chances_waysInAll, e_Chances_waysInAll_0, e_Chances_waysInAll_1, e_Chances_waysInAll_2, e_Chances_waysInAll_3]
  have key := loop_dn (t := m) (P := fun i => xR none 0 M_Chances_waysInAll 5 [some (.ref a), some (.int (nI m)), some (.long (lN (10 ^ i))), none, some (.int (nI i))] [] h = some (some (.long (lN (10 ^ m))), h)) ?_ ?_ 0 (Nat.zero_le _)
  · exact key
  · simp only [e_Chances_waysInAll_5, e_Chances_waysInAll_7, e_Chances_waysInAll_8, e_Chances_waysInAll_23, e_Chances_waysInAll_24, Option.isSome_some, Option.map_some, Option.map_none, Option.toList_some, Option.toList_none, List.nil_append, List.cons_append, List.singleton_append, if_true, if_false, ↓reduceIte, and_self, and_true, true_and, and_false, false_and, not_true, not_false_iff, reduceCtorEq, Nat.reduceEqDiff, Nat.reduceAdd, Nat.reduceSub, Nat.reduceMul, Nat.reduceLT, Nat.reduceLeDiff, Nat.reduceBEq, eq_self, ne_eq, Nat.add_eq_zero_iff, Nat.add_left_cancel_iff, Nat.add_right_cancel_iff, Nat.left_eq_add, Nat.add_eq_left, Bool.true_or, Bool.or_true, Bool.or_self, or_self, or_true, true_or, or_false, false_or, decide_true, decide_false, i_10, i_01, Int32.le_refl]
  · intro i hi ih
    have q1 : ¬ nI m ≤ nI i := nI_ge hi (by omega)
    rw [Nat.pow_succ, ← lN_mul, ← nI_1] at ih
    rw [e_Chances_waysInAll_5]
    simp only [e_Chances_waysInAll_7, e_Chances_waysInAll_8, e_Chances_waysInAll_11, e_Chances_waysInAll_12, e_Chances_waysInAll_15, e_Chances_waysInAll_16, e_Chances_waysInAll_17, e_Chances_waysInAll_20, Option.isSome_some, Option.map_some, Option.map_none, Option.toList_some, Option.toList_none, List.nil_append, List.cons_append, List.singleton_append, if_true, if_false, ↓reduceIte, and_self, and_true, true_and, and_false, false_and, not_true, not_false_iff, reduceCtorEq, Nat.reduceEqDiff, Nat.reduceAdd, Nat.reduceSub, Nat.reduceMul, Nat.reduceLT, Nat.reduceLeDiff, Nat.reduceBEq, eq_self, ne_eq, Nat.add_eq_zero_iff, Nat.add_left_cancel_iff, Nat.add_right_cancel_iff, Nat.left_eq_add, Nat.add_eq_left, Bool.true_or, Bool.or_true, Bool.or_self, or_self, or_true, true_or, or_false, false_or, decide_true, decide_false, i_10, i_01, q1]
    exact ih
theorem vl_eq {f : Nat → Int64} {k : Nat} {x : Int64} : vp_updL f k x k = x := by simp [vp_updL]
theorem vl_lt {f : Nat → Int64} {k i : Nat} {x : Int64} (h : i ≠ k) : vp_updL f k x i = f i := by simp [vp_updL, h]
theorem c_spread {g0 : Nat → Int64} (h0 : lr h 73 = some (9, g0)) (f0 : fl h 72 2 0 = some (.ref 73)) {m x : Nat} (hm : m ≤ 8) (hx : x ≤ 10) : ∃ g, xC M_Chances_spread [.ref 72, .int (nI m), .int (nI x)] h = some (none, sl h 73 g) ∧ ∀ k, k ≤ 8 → g k = lN (wy x m k) := by
  have tx := ten_sub x hx
  have lx := nI_l (show x < 2 ^ 31 by omega)
  have l10 := nI_l (show 10 - x < 2 ^ 31 by omega)
  have days : ∀ i, i ≤ m → ∀ (g : Nat → Int64) (l4 : Option Value), (∀ k, k ≤ 8 → g k = lN (wy x i k)) → ∃ g', xR none 0 M_Chances_spread 30 [some (.ref 72), some (.int (nI m)), some (.int (nI x)), some (.int (nI i)), l4] [] (sl h 73 g) = some (none, sl h 73 g') ∧ ∀ k, k ≤ 8 → g' k = lN (wy x m k) := by
    refine loop_dn (P := fun i => ∀ (g : Nat → Int64) (l4 : Option Value), (∀ k, k ≤ 8 → g k = lN (wy x i k)) → ∃ g', xR none 0 M_Chances_spread 30 [some (.ref 72), some (.int (nI m)), some (.int (nI x)), some (.int (nI i)), l4] [] (sl h 73 g) = some (none, sl h 73 g') ∧ ∀ k, k ≤ 8 → g' k = lN (wy x m k)) ?_ ?_
    · intro g l4 hg
      exact ⟨g, by simp only [e_Chances_spread_30, e_Chances_spread_31, e_Chances_spread_32, e_Chances_spread_103, Option.isSome_some, Option.map_some, Option.map_none, Option.toList_some, Option.toList_none, List.nil_append, List.cons_append, List.singleton_append, if_true, if_false, ↓reduceIte, and_self, and_true, true_and, and_false, false_and, not_true, not_false_iff, reduceCtorEq, Nat.reduceEqDiff, Nat.reduceAdd, Nat.reduceSub, Nat.reduceMul, Nat.reduceLT, Nat.reduceLeDiff, Nat.reduceBEq, eq_self, ne_eq, Nat.add_eq_zero_iff, Nat.add_left_cancel_iff, Nat.add_right_cancel_iff, Nat.left_eq_add, Nat.add_eq_left, Bool.true_or, Bool.or_true, Bool.or_self, or_self, or_true, true_or, or_false, false_or, decide_true, decide_false, i_10, i_01, Int32.le_refl], hg⟩
    · intro i hi ih g l4 hg
      have q1 : ¬ nI m ≤ nI i := nI_ge hi (by omega)
      have inn : ∀ a, a ≤ 8 → ∀ g1 : Nat → Int64, (∀ k, k ≤ 8 → g1 k = if a < k then lN (wy x (i + 1) k) else lN (wy x i k)) → ∃ g', xR none 0 M_Chances_spread 39 [some (.ref 72), some (.int (nI m)), some (.int (nI x)), some (.int (nI i)), some (.int (nI a))] [] (sl h 73 g1) = some (none, sl h 73 g') ∧ ∀ k, k ≤ 8 → g' k = lN (wy x m k) := by
        intro a
        induction a with
        | zero =>
          intro ha g1 hg1
          have y0 : nI 0 ≤ 0 := by decide
          have in0 : xinB 0 9 = true := by decide
          obtain ⟨g', c, hc⟩ := ih (vp_updL g1 0 (g1 0 * lN (10 - x))) (some (.int (nI 0))) (fun k hk => by
            rcases Nat.eq_zero_or_pos k with w | w
            · subst w
              rw [vl_eq, hg1 0 (by omega), if_neg (by omega), lN_mul, wy]
            · rw [vl_lt (by omega), hg1 k hk, if_pos w])
          refine ⟨g', ?_, hc⟩
          rw [← nI_1] at c
          rw [e_Chances_spread_39]
          simp only [e_Chances_spread_41, e_Chances_spread_83, e_Chances_spread_84, e_Chances_spread_87, e_Chances_spread_88, e_Chances_spread_89, e_Chances_spread_90, e_Chances_spread_92, e_Chances_spread_93, e_Chances_spread_94, e_Chances_spread_95, e_Chances_spread_96, e_Chances_spread_97, e_Chances_spread_100, m_get, m_put, m_ia, m_is, m_la, m_ls, fl_sf, fl_sa, fl_sl, fl_sq, ar_sf, ar_sa, ar_sl, ar_sq, lr_sf, lr_sa, lr_sl, lr_sq, qr_sf, qr_sa, qr_sl, qr_sq, sf_1, sf_2, sa_1, sa_2, sl_1, sl_2, Option.isSome_some, Option.map_some, Option.map_none, Option.toList_some, Option.toList_none, List.nil_append, List.cons_append, List.singleton_append, if_true, if_false, ↓reduceIte, and_self, and_true, true_and, and_false, false_and, not_true, not_false_iff, reduceCtorEq, Nat.reduceEqDiff, Nat.reduceAdd, Nat.reduceSub, Nat.reduceMul, Nat.reduceLT, Nat.reduceLeDiff, Nat.reduceBEq, eq_self, ne_eq, Nat.add_eq_zero_iff, Nat.add_left_cancel_iff, Nat.add_right_cancel_iff, Nat.left_eq_add, Nat.add_eq_left, Bool.true_or, Bool.or_true, Bool.or_self, or_self, or_true, true_or, or_false, false_or, decide_true, decide_false, i_10, i_01, f0, h0, y0, in0, cl0, tx, l10, sl_sl]
          exact c
        | succ a iha =>
          intro ha g1 hg1
          have y0 : ¬ nI (a + 1) ≤ 0 := nI_nle (by omega) (by omega)
          have i1 := xin_nI (show a + 1 < 9 by omega) (by decide)
          have c1 := nI_clamp (show a + 1 < 2 ^ 31 by omega)
          have i2 := xin_nI (show a < 9 by omega) (by decide)
          have c2 := nI_clamp (show a < 2 ^ 31 by omega)
          have pr := nI_pred a
          have pr2 : nI (a + 1) + (-1) = nI a := by
            rw [← Int32.sub_eq_add_neg]
            exact pr
          obtain ⟨g', c, hc⟩ := iha (by omega) (vp_updL g1 (a + 1) (g1 (a + 1) * lN (10 - x) + g1 a * lN x)) (fun k hk => by
            by_cases w : k = a + 1
            · subst w
              rw [vl_eq, hg1 (a + 1) hk, if_neg (by omega), hg1 a (by omega), if_neg (by omega), if_pos (by omega), lN_mul, lN_mul, lN_add, wy]
            · rw [vl_lt w, hg1 k hk]
              by_cases w2 : a < k
              · rw [if_pos w2, if_pos (by omega)]
              · rw [if_neg w2, if_neg (by omega)])
          refine ⟨g', ?_, hc⟩
          rw [e_Chances_spread_39]
          simp only [e_Chances_spread_41, e_Chances_spread_44, e_Chances_spread_45, e_Chances_spread_48, e_Chances_spread_50, e_Chances_spread_51, e_Chances_spread_54, e_Chances_spread_56, e_Chances_spread_57, e_Chances_spread_59, e_Chances_spread_60, e_Chances_spread_61, e_Chances_spread_62, e_Chances_spread_63, e_Chances_spread_64, e_Chances_spread_67, e_Chances_spread_69, e_Chances_spread_70, e_Chances_spread_71, e_Chances_spread_72, e_Chances_spread_73, e_Chances_spread_74, e_Chances_spread_75, e_Chances_spread_76, e_Chances_spread_77, e_Chances_spread_80, m_get, m_put, m_ia, m_is, m_la, m_ls, fl_sf, fl_sa, fl_sl, fl_sq, ar_sf, ar_sa, ar_sl, ar_sq, lr_sf, lr_sa, lr_sl, lr_sq, qr_sf, qr_sa, qr_sl, qr_sq, sf_1, sf_2, sa_1, sa_2, sl_1, sl_2, Option.isSome_some, Option.map_some, Option.map_none, Option.toList_some, Option.toList_none, List.nil_append, List.cons_append, List.singleton_append, if_true, if_false, ↓reduceIte, and_self, and_true, true_and, and_false, false_and, not_true, not_false_iff, reduceCtorEq, Nat.reduceEqDiff, Nat.reduceAdd, Nat.reduceSub, Nat.reduceMul, Nat.reduceLT, Nat.reduceLeDiff, Nat.reduceBEq, eq_self, ne_eq, Nat.add_eq_zero_iff, Nat.add_left_cancel_iff, Nat.add_right_cancel_iff, Nat.left_eq_add, Nat.add_eq_left, Bool.true_or, Bool.or_true, Bool.or_self, or_self, or_true, true_or, or_false, false_or, decide_true, decide_false, i_10, i_01, f0, h0, y0, i1, c1, pr, pr2, i2, c2, tx, l10, lx, sl_sl]
          exact c
      obtain ⟨g', c, hc⟩ := inn 8 (Nat.le_refl _) g (fun k hk => by rw [hg k hk, if_neg (by omega)])
      refine ⟨g', ?_, hc⟩
      rw [e_Chances_spread_30]
      simp only [e_Chances_spread_31, e_Chances_spread_32, e_Chances_spread_35, e_Chances_spread_37, Option.isSome_some, Option.map_some, Option.map_none, Option.toList_some, Option.toList_none, List.nil_append, List.cons_append, List.singleton_append, if_true, if_false, ↓reduceIte, and_self, and_true, true_and, and_false, false_and, not_true, not_false_iff, reduceCtorEq, Nat.reduceEqDiff, Nat.reduceAdd, Nat.reduceSub, Nat.reduceMul, Nat.reduceLT, Nat.reduceLeDiff, Nat.reduceBEq, eq_self, ne_eq, Nat.add_eq_zero_iff, Nat.add_left_cancel_iff, Nat.add_right_cancel_iff, Nat.left_eq_add, Nat.add_eq_left, Bool.true_or, Bool.or_true, Bool.or_self, or_self, or_true, true_or, or_false, false_or, decide_true, decide_false, i_10, i_01, q1]
      exact c
  have zer : ∀ i, i ≤ 9 → ∀ g : Nat → Int64, (∀ k, k < i → g k = 0) → ∃ g', xR none 0 M_Chances_spread 2 [some (.ref 72), some (.int (nI m)), some (.int (nI x)), some (.int (nI i)), none] [] (sl h 73 g) = some (none, sl h 73 g') ∧ ∀ k, k ≤ 8 → g' k = lN (wy x m k) := by
    refine loop_dn (P := fun i => ∀ g : Nat → Int64, (∀ k, k < i → g k = 0) → ∃ g', xR none 0 M_Chances_spread 2 [some (.ref 72), some (.int (nI m)), some (.int (nI x)), some (.int (nI i)), none] [] (sl h 73 g) = some (none, sl h 73 g') ∧ ∀ k, k ≤ 8 → g' k = lN (wy x m k)) ?_ ?_
    · intro g hg
      have y : (8 : Int32) < nI 9 := by decide
      have in0 : xinB 0 9 = true := by decide
      obtain ⟨g', c, hc⟩ := days 0 (Nat.zero_le _) (vp_updL g 0 1) none (fun k hk => by
        rcases Nat.eq_zero_or_pos k with w | w
        · subst w
          rw [vl_eq, wy]
          rfl
        · rw [vl_lt (by omega), hg k (by omega), wy, if_neg (by omega)]
          rfl)
      refine ⟨g', ?_, hc⟩
      rw [nI_0] at c
      simp only [e_Chances_spread_2, e_Chances_spread_3, e_Chances_spread_5, e_Chances_spread_21, e_Chances_spread_22, e_Chances_spread_25, e_Chances_spread_26, e_Chances_spread_27, e_Chances_spread_28, e_Chances_spread_29, m_get, m_put, m_ia, m_is, m_la, m_ls, fl_sf, fl_sa, fl_sl, fl_sq, ar_sf, ar_sa, ar_sl, ar_sq, lr_sf, lr_sa, lr_sl, lr_sq, qr_sf, qr_sa, qr_sl, qr_sq, sf_1, sf_2, sa_1, sa_2, sl_1, sl_2, Option.isSome_some, Option.map_some, Option.map_none, Option.toList_some, Option.toList_none, List.nil_append, List.cons_append, List.singleton_append, if_true, if_false, ↓reduceIte, and_self, and_true, true_and, and_false, false_and, not_true, not_false_iff, reduceCtorEq, Nat.reduceEqDiff, Nat.reduceAdd, Nat.reduceSub, Nat.reduceMul, Nat.reduceLT, Nat.reduceLeDiff, Nat.reduceBEq, eq_self, ne_eq, Nat.add_eq_zero_iff, Nat.add_left_cancel_iff, Nat.add_right_cancel_iff, Nat.left_eq_add, Nat.add_eq_left, Bool.true_or, Bool.or_true, Bool.or_self, or_self, or_true, true_or, or_false, false_or, decide_true, decide_false, i_10, i_01, f0, h0, y, in0, cl0, sl_sl]
      exact c
    · intro i hi ih g hg
      have y : ¬ (8 : Int32) < nI i := nI_nlt (a := 8) (by omega) (by omega)
      have i1 := xin_nI hi (by decide)
      have c1 := nI_clamp (show i < 2 ^ 31 by omega)
      obtain ⟨g', c, hc⟩ := ih (vp_updL g i 0) (fun k hk => by
        by_cases w : k = i
        · rw [w, vl_eq]
        · rw [vl_lt w, hg k (by omega)])
      refine ⟨g', ?_, hc⟩
      rw [← nI_1] at c
      rw [e_Chances_spread_2]
      simp only [e_Chances_spread_3, e_Chances_spread_5, e_Chances_spread_8, e_Chances_spread_9, e_Chances_spread_12, e_Chances_spread_13, e_Chances_spread_14, e_Chances_spread_15, e_Chances_spread_18, m_get, m_put, m_ia, m_is, m_la, m_ls, fl_sf, fl_sa, fl_sl, fl_sq, ar_sf, ar_sa, ar_sl, ar_sq, lr_sf, lr_sa, lr_sl, lr_sq, qr_sf, qr_sa, qr_sl, qr_sq, sf_1, sf_2, sa_1, sa_2, sl_1, sl_2, Option.isSome_some, Option.map_some, Option.map_none, Option.toList_some, Option.toList_none, List.nil_append, List.cons_append, List.singleton_append, if_true, if_false, ↓reduceIte, and_self, and_true, true_and, and_false, false_and, not_true, not_false_iff, reduceCtorEq, Nat.reduceEqDiff, Nat.reduceAdd, Nat.reduceSub, Nat.reduceMul, Nat.reduceLT, Nat.reduceLeDiff, Nat.reduceBEq, eq_self, ne_eq, Nat.add_eq_zero_iff, Nat.add_left_cancel_iff, Nat.add_right_cancel_iff, Nat.left_eq_add, Nat.add_eq_left, Bool.true_or, Bool.or_true, Bool.or_self, or_self, or_true, true_or, or_false, false_or, decide_true, decide_false, i_10, i_01, f0, h0, y, i1, c1, sl_sl]
      exact c
  obtain ⟨g', c, hc⟩ := zer 0 (Nat.zero_le _) g0 (fun k hk => by omega)
  refine ⟨g', ?_, hc⟩
  have ss : sl h 73 g0 = h := by
    unfold sl
    unfold lr at h0
    rcases hz : h.2.2 73 with _ | (⟨t0, n, (f | f | f | f | f)⟩ | ⟨c0, fs⟩) <;> rw [hz] at h0 <;> simp only [reduceCtorEq] at h0
    simp only
    by_cases q : t0 = 1
    · rw [if_pos q] at h0 ⊢
      cases h0
      unfold xup
      refine Prod.ext rfl (Prod.ext rfl ?_)
      funext j
      simp only
      by_cases w : j = 73
      · rw [if_pos w, w, hz]
      · rw [if_neg w]
    · rw [if_neg q]
  rw [ss, nI_0] at c
  simp only [k_Chances_spread, e_Chances_spread_0, e_Chances_spread_1]
  exact c
theorem nI_min {a b : Nat} (ha : a < 2 ^ 31) (hb : b < 2 ^ 31) : (if nI b < nI a then nI b else nI a) = nI (min a b) := by
  have := nI_ltI hb ha
  by_cases w : b < a
  · rw [if_pos (this.mpr w), Nat.min_eq_right (by omega)]
  · rw [if_neg (fun y => w (this.mp y)), Nat.min_eq_left (by omega)]
theorem c_costAll {g : Nat → Int64} (h0 : lr h 73 = some (9, g)) (f0 : fl h 72 2 0 = some (.ref 73)) {W : Nat → Nat} (hg : ∀ k, k ≤ 8 → g k = lN (W k)) {s g c : Nat} (hs : s ≤ 2) (hgc : g ≤ c) (hc : c ≤ 9) : xC M_Chances_costInAll [.ref 72, .int (nI s), .int (nI g), .int (nI c)] h = some (some (.long (lN (sN (fun k => W k * cN s g (min k (c - g))) 9))), h) := by
  simp only [k_Chances_costInAll, e_Chances_costInAll_0, e_Chances_costInAll_1, e_Chances_costInAll_3, e_Chances_costInAll_4]
  have key := loop_dn (t := 9) (P := fun i => xR none 1 M_Chances_costInAll 6 [some (.ref 72), some (.int (nI s)), some (.int (nI g)), some (.int (nI c)), some (.long (lN (sN (fun k => W k * cN s g (min k (c - g))) i))), none, some (.int (nI i))] [] h = some (some (.long (lN (sN (fun k => W k * cN s g (min k (c - g))) 9))), h)) ?_ ?_ 0 (Nat.zero_le _)
  · exact key
  · have y : (8 : Int32) < nI 9 := by decide
    simp only [e_Chances_costInAll_6, e_Chances_costInAll_8, e_Chances_costInAll_10, e_Chances_costInAll_46, e_Chances_costInAll_48, Option.isSome_some, Option.map_some, Option.map_none, Option.toList_some, Option.toList_none, List.nil_append, List.cons_append, List.singleton_append, if_true, if_false, ↓reduceIte, and_self, and_true, true_and, and_false, false_and, not_true, not_false_iff, reduceCtorEq, Nat.reduceEqDiff, Nat.reduceAdd, Nat.reduceSub, Nat.reduceMul, Nat.reduceLT, Nat.reduceLeDiff, Nat.reduceBEq, eq_self, ne_eq, Nat.add_eq_zero_iff, Nat.add_left_cancel_iff, Nat.add_right_cancel_iff, Nat.left_eq_add, Nat.add_eq_left, Bool.true_or, Bool.or_true, Bool.or_self, or_self, or_true, true_or, or_false, false_or, decide_true, decide_false, i_10, i_01, y]
  · intro i hi ih
    have y : ¬ (8 : Int32) < nI i := nI_nlt (a := 8) (by omega) (by omega)
    have i1 := xin_nI hi (by decide)
    have c1 := nI_clamp (show i < 2 ^ 31 by omega)
    have ms := nI_sub hgc
    have mm := nI_min (a := i) (b := c - g) (by omega) (by omega)
    have cc := fun f => call_l (lv := 1) (c_costOf (h := h) (nI s) (nI g) (nI (min i (c - g)))) (Nat.le_of_ble_eq_true rfl) f
    have cm := nI_clamp (show min i (c - g) < 2 ^ 31 by omega)
    rw [cm, cst_N] at cc
    have hb := cN_le hs (show g ≤ 9 by omega) (min i (c - g)) (by omega)
    have l1 := nI_l (show cN s g (min i (c - g)) < 2 ^ 31 by omega)
    have gi := hg i (by omega)
    rw [sN, ← lN_add, ← lN_mul, ← nI_1] at ih
    rw [e_Chances_costInAll_6]
    simp only [e_Chances_costInAll_8, e_Chances_costInAll_10, e_Chances_costInAll_13, e_Chances_costInAll_15, e_Chances_costInAll_16, e_Chances_costInAll_19, e_Chances_costInAll_21, e_Chances_costInAll_22, e_Chances_costInAll_23, e_Chances_costInAll_24, e_Chances_costInAll_26, e_Chances_costInAll_27, e_Chances_costInAll_28, e_Chances_costInAll_29, e_Chances_costInAll_32, e_Chances_costInAll_35, e_Chances_costInAll_36, e_Chances_costInAll_37, e_Chances_costInAll_38, e_Chances_costInAll_40, e_Chances_costInAll_43, m_get, m_put, m_ia, m_is, m_la, m_ls, fl_sf, fl_sa, fl_sl, fl_sq, ar_sf, ar_sa, ar_sl, ar_sq, lr_sf, lr_sa, lr_sl, lr_sq, qr_sf, qr_sa, qr_sl, qr_sq, sf_1, sf_2, sa_1, sa_2, sl_1, sl_2, Option.isSome_some, Option.map_some, Option.map_none, Option.toList_some, Option.toList_none, List.nil_append, List.cons_append, List.singleton_append, if_true, if_false, ↓reduceIte, and_self, and_true, true_and, and_false, false_and, not_true, not_false_iff, reduceCtorEq, Nat.reduceEqDiff, Nat.reduceAdd, Nat.reduceSub, Nat.reduceMul, Nat.reduceLT, Nat.reduceLeDiff, Nat.reduceBEq, eq_self, ne_eq, Nat.add_eq_zero_iff, Nat.add_left_cancel_iff, Nat.add_right_cancel_iff, Nat.left_eq_add, Nat.add_eq_left, Bool.true_or, Bool.or_true, Bool.or_self, or_self, or_true, true_or, or_false, false_or, decide_true, decide_false, i_10, i_01, f0, h0, y, i1, c1, ms, mm, cc, l1, gi]
    exact ih
end BW
