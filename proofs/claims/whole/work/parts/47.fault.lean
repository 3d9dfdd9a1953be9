
section WR2
variable {h : xH} {σ τ : Nat → Nat → Int32} {v s : Nat} {q : Nat → Nat} {e1 e2 : Int64} {p t n A X len : Nat}
theorem cM_write (H : Hp h σ τ v s q e1 e2) {k : Nat} (k1 : 1 ≤ k) (k8 : k ≤ 8) (hl : len + k ≤ 90) (ht : τ 75 20 = nI len) (x : Int64) : ∃ h', xC M_Md_write [.ref 75, .int (nI k), .long x] h = some (some (.int (nI (len + k))), h') ∧ Hp h' (us σ 85 (cpI (σ 85) (fun d => bM x (nI (8 * (k - 1 - d)))) len k)) (ut τ 75 20 (nI (len + k))) v s q e1 e2 := by
  have H1 := Hp_sf (c := 9) (Hp_sa (t := 0) (n := 90) H (a := 85) rfl rfl (cpI (σ 85) (fun d => bM x (nI (8 * (k - 1 - d)))) len k)) (a := 75) (k := 20) rfl rfl (nI (len + k))
  refine ⟨_, ?_, H1⟩
  have f0 := hR H 75 9 19 85 rfl rfl
  have f1 := hI H 75 9 20 rfl rfl
  rw [ht] at f1
  have r2 := hA H 85 0 90 rfl rfl
  have zk : 1 ≤ nI k ∧ nI k ≤ 8 := ⟨nI_le (a := 1) k1 (by omega), nI_le (b := 8) k8 (by decide)⟩
  have d1 := fun f => call_l (lv := 1) (c_inI (h := h) (nI k) (y := 1) (z := 8) (yl := 1) (zl := 8) rfl rfl) (Nat.le_of_ble_eq_true rfl) f
  simp only [if_pos zk] at d1
  have y3 : nI (len + k) ≤ 90 := nI_le (b := 90) hl (by decide)
  obtain ⟨z0, z1⟩ := lfv_0 k (by omega) k1
  simp only [k_Md_write, e_Md_write_0, e_Md_write_1, e_Md_write_2, e_Md_write_3, e_Md_write_6, e_Md_write_9, e_Md_write_12, e_Md_write_14, e_Md_write_15, e_Md_write_16, e_Md_write_19, e_Md_write_20, e_Md_write_21, e_Md_write_23, e_Md_write_26, e_Md_write_28, e_Md_write_29, e_Md_write_30, e_Md_write_31, e_Md_write_32, m_get, m_put, m_ia, m_is, m_la, m_ls, fl_sf, fl_sa, fl_sl, fl_sq, ar_sf, ar_sa, ar_sl, ar_sq, lr_sf, lr_sa, lr_sl, lr_sq, qr_sf, qr_sa, qr_sl, qr_sq, sf_1, sf_2, sa_1, sa_2, sl_1, sl_2, Option.isSome_some, Option.map_some, Option.map_none, Option.toList_some, Option.toList_none, List.nil_append, List.cons_append, List.singleton_append, if_true, if_false, ↓reduceIte, and_self, and_true, true_and, and_false, false_and, not_true, not_false_iff, reduceCtorEq, Nat.reduceEqDiff, Nat.reduceAdd, Nat.reduceSub, Nat.reduceMul, Nat.reduceLT, Nat.reduceLeDiff, Nat.reduceBEq, eq_self, ne_eq, Nat.add_eq_zero_iff, Nat.add_left_cancel_iff, Nat.add_right_cancel_iff, Nat.left_eq_add, Nat.add_eq_left, Bool.true_or, Bool.or_true, Bool.or_self, or_self, or_true, true_or, or_false, false_or, decide_true, decide_false, i_10, i_01, f1, d1, nI_add, y3]
  have key := loop_dn (t := k) (P := fun i => xR none 1 M_Md_write 34 [some (.ref 75), some (.int (nI k)), some (.long x), none, some (.int (lfv k i))] [] (sf (sa h 85 0 (cpI (σ 85) (fun d => bM x (nI (8 * (k - 1 - d)))) len i)) 75 9 20 (.int (nI (len + i)))) = some (some (.int (nI (len + k))), sf (sa h 85 0 (cpI (σ 85) (fun d => bM x (nI (8 * (k - 1 - d)))) len k)) 75 9 20 (.int (nI (len + k))))) ?_ ?_ 0 (Nat.zero_le _)
  · rw [cpI_0, sa_self r2, z0, Nat.add_zero, sf_id f1] at key
    exact key
  · simp only [e_Md_write_34, e_Md_write_36, e_Md_write_76, e_Md_write_77, e_Md_write_80, m_get, m_put, m_ia, m_is, m_la, m_ls, fl_sf, fl_sa, fl_sl, fl_sq, ar_sf, ar_sa, ar_sl, ar_sq, lr_sf, lr_sa, lr_sl, lr_sq, qr_sf, qr_sa, qr_sl, qr_sq, sf_1, sf_2, sa_1, sa_2, sl_1, sl_2, Option.isSome_some, Option.map_some, Option.map_none, Option.toList_some, Option.toList_none, List.nil_append, List.cons_append, List.singleton_append, if_true, if_false, ↓reduceIte, and_self, and_true, true_and, and_false, false_and, not_true, not_false_iff, reduceCtorEq, Nat.reduceEqDiff, Nat.reduceAdd, Nat.reduceSub, Nat.reduceMul, Nat.reduceLT, Nat.reduceLeDiff, Nat.reduceBEq, eq_self, ne_eq, Nat.add_eq_zero_iff, Nat.add_left_cancel_iff, Nat.add_right_cancel_iff, Nat.left_eq_add, Nat.add_eq_left, Bool.true_or, Bool.or_true, Bool.or_self, or_self, or_true, true_or, or_false, false_or, decide_true, decide_false, i_10, i_01, z1, f1]
  · intro i hi ih
    obtain ⟨w1, w2, w3⟩ := lfv_1 k (by omega) i hi
    have il := xin_nI (show len + i < 90 by omega) (by decide)
    have cl := nI_clamp (show len + i < 2 ^ 31 by omega)
    have ee : bM x (nI (8 * (k - 1 - i))) = ((x >>> ((nI (8 * (k - 1 - i))).toInt64 &&& 63)) &&& 255).toInt32 := rfl
    have hh : sf (sa (sf (sa h 85 0 (cpI (σ 85) (fun d => bM x (nI (8 * (k - 1 - d)))) len i)) 75 9 20 (.int (nI (len + i)))) 85 0 (upd (cpI (σ 85) (fun d => bM x (nI (8 * (k - 1 - d)))) len i) (len + i) (bM x (nI (8 * (k - 1 - i)))))) 75 9 20 (.int (nI (len + i + 1))) = sf (sa h 85 0 (cpI (σ 85) (fun d => bM x (nI (8 * (k - 1 - d)))) len (i + 1))) 75 9 20 (.int (nI (len + (i + 1)))) := by
      rw [sa_sf _ (by omega), sf_sf, sa_sa, cpI_s (σ 85) (fun d => bM x (nI (8 * (k - 1 - d)))) len i]
      rfl
    rw [← hh, ← w1] at ih
    rw [e_Md_write_34]
    simp only [e_Md_write_36, e_Md_write_39, e_Md_write_40, e_Md_write_43, e_Md_write_44, e_Md_write_47, e_Md_write_48, e_Md_write_50, e_Md_write_52, e_Md_write_53, e_Md_write_54, e_Md_write_57, e_Md_write_58, e_Md_write_59, e_Md_write_60, e_Md_write_61, e_Md_write_62, e_Md_write_65, e_Md_write_66, e_Md_write_67, e_Md_write_70, e_Md_write_73, m_get, m_put, m_ia, m_is, m_la, m_ls, fl_sf, fl_sa, fl_sl, fl_sq, ar_sf, ar_sa, ar_sl, ar_sq, lr_sf, lr_sa, lr_sl, lr_sq, qr_sf, qr_sa, qr_sl, qr_sq, sf_1, sf_2, sa_1, sa_2, sl_1, sl_2, Option.isSome_some, Option.map_some, Option.map_none, Option.toList_some, Option.toList_none, List.nil_append, List.cons_append, List.singleton_append, if_true, if_false, ↓reduceIte, and_self, and_true, true_and, and_false, false_and, not_true, not_false_iff, reduceCtorEq, Nat.reduceEqDiff, Nat.reduceAdd, Nat.reduceSub, Nat.reduceMul, Nat.reduceLT, Nat.reduceLeDiff, Nat.reduceBEq, eq_self, ne_eq, Nat.add_eq_zero_iff, Nat.add_left_cancel_iff, Nat.add_right_cancel_iff, Nat.left_eq_add, Nat.add_eq_left, Bool.true_or, Bool.or_true, Bool.or_self, or_self, or_true, true_or, or_false, false_or, decide_true, decide_false, i_10, i_01, w2, w3, f0, f1, r2, il, cl, nI_1]
    rw [ee] at ih
    exact ih
theorem op_write (R : Rel h) (x : Int32) (w : Int64) : Op h M_Sp_write M_Md_write [.int x, .long w] := by
  have R0 := R
  obtain ⟨σ, τ, v, s, q, e, p, t, n, len, A, X, z, H, rv, rt, ra, rk, rs, ry⟩ := R
  have hv := H.2.2.2.1.1
  have f1 := hI H 1 8 1 rfl rfl
  rw [rt.2.1] at f1
  have k20 := hI H 75 9 20 rfl rfl
  rw [rt.2.2.1] at k20
  have d1 := fun f => call_l (lv := 1) (c_inI (h := h) x (y := 1) (z := 8) (yl := 1) (zl := 8) rfl rfl) (Nat.le_of_ble_eq_true rfl) f
  by_cases zx : 1 ≤ x ∧ x ≤ 8
  case neg =>
    simp only [if_neg zx] at d1
    refine ⟨.int (-2), h, h, ?_, by simp only [k_Md_write, e_Md_write_0, e_Md_write_1, e_Md_write_2, e_Md_write_3, e_Md_write_6, e_Md_write_9, e_Md_write_12, e_Md_write_14, m_get, m_put, m_ia, m_is, m_la, m_ls, fl_sf, fl_sa, fl_sl, fl_sq, ar_sf, ar_sa, ar_sl, ar_sq, lr_sf, lr_sa, lr_sl, lr_sq, qr_sf, qr_sa, qr_sl, qr_sq, sf_1, sf_2, sa_1, sa_2, sl_1, sl_2, Option.isSome_some, Option.map_some, Option.map_none, Option.toList_some, Option.toList_none, List.nil_append, List.cons_append, List.singleton_append, if_true, if_false, ↓reduceIte, and_self, and_true, true_and, and_false, false_and, not_true, not_false_iff, reduceCtorEq, Nat.reduceEqDiff, Nat.reduceAdd, Nat.reduceSub, Nat.reduceMul, Nat.reduceLT, Nat.reduceLeDiff, Nat.reduceBEq, eq_self, ne_eq, Nat.add_eq_zero_iff, Nat.add_left_cancel_iff, Nat.add_right_cancel_iff, Nat.left_eq_add, Nat.add_eq_left, Bool.true_or, Bool.or_true, Bool.or_self, or_self, or_true, true_or, or_false, false_or, decide_true, decide_false, i_10, i_01, d1], R0, Hp_1 H, Hp_75 H⟩
    by_cases k1 : x < 1
    · simp only [k_Sp_write, e_Sp_write_0, e_Sp_write_1, e_Sp_write_2, e_Sp_write_5, e_Sp_write_6, e_Sp_write_8, e_Sp_write_11, e_Sp_write_13, m_get, m_put, m_ia, m_is, m_la, m_ls, fl_sf, fl_sa, fl_sl, fl_sq, ar_sf, ar_sa, ar_sl, ar_sq, lr_sf, lr_sa, lr_sl, lr_sq, qr_sf, qr_sa, qr_sl, qr_sq, sf_1, sf_2, sa_1, sa_2, sl_1, sl_2, Option.isSome_some, Option.map_some, Option.map_none, Option.toList_some, Option.toList_none, List.nil_append, List.cons_append, List.singleton_append, if_true, if_false, ↓reduceIte, and_self, and_true, true_and, and_false, false_and, not_true, not_false_iff, reduceCtorEq, Nat.reduceEqDiff, Nat.reduceAdd, Nat.reduceSub, Nat.reduceMul, Nat.reduceLT, Nat.reduceLeDiff, Nat.reduceBEq, eq_self, ne_eq, Nat.add_eq_zero_iff, Nat.add_left_cancel_iff, Nat.add_right_cancel_iff, Nat.left_eq_add, Nat.add_eq_left, Bool.true_or, Bool.or_true, Bool.or_self, or_self, or_true, true_or, or_false, false_or, decide_true, decide_false, i_10, i_01, k1]
    · have k2 : ¬ x ≤ 8 := fun w => zx ⟨Int32.not_lt.mp k1, w⟩
      simp only [k_Sp_write, e_Sp_write_0, e_Sp_write_1, e_Sp_write_2, e_Sp_write_5, e_Sp_write_6, e_Sp_write_8, e_Sp_write_11, e_Sp_write_13, m_get, m_put, m_ia, m_is, m_la, m_ls, fl_sf, fl_sa, fl_sl, fl_sq, ar_sf, ar_sa, ar_sl, ar_sq, lr_sf, lr_sa, lr_sl, lr_sq, qr_sf, qr_sa, qr_sl, qr_sq, sf_1, sf_2, sa_1, sa_2, sl_1, sl_2, Option.isSome_some, Option.map_some, Option.map_none, Option.toList_some, Option.toList_none, List.nil_append, List.cons_append, List.singleton_append, if_true, if_false, ↓reduceIte, and_self, and_true, true_and, and_false, false_and, not_true, not_false_iff, reduceCtorEq, Nat.reduceEqDiff, Nat.reduceAdd, Nat.reduceSub, Nat.reduceMul, Nat.reduceLT, Nat.reduceLeDiff, Nat.reduceBEq, eq_self, ne_eq, Nat.add_eq_zero_iff, Nat.add_left_cancel_iff, Nat.add_right_cancel_iff, Nat.left_eq_add, Nat.add_eq_left, Bool.true_or, Bool.or_true, Bool.or_self, or_self, or_true, true_or, or_false, false_or, decide_true, decide_false, i_10, i_01, k1, k2]
  simp only [if_pos zx] at d1
  have k1 : ¬ x < 1 := Int32.not_lt.mpr zx.1
  have k2 : x ≤ 8 := zx.2
  obtain ⟨k, hk, rfl⟩ := nI_of2 (M := 8) (n := 8) rfl (fun w => k1 (Int32.lt_trans w (by decide))) zx.2
  have k0 : 1 ≤ k := by
    rcases Nat.eq_zero_or_pos k with z0 | z0
    · subst z0
      exact absurd zx.1 (by decide)
    · exact z0
  rcases Nat.lt_or_ge 90 (len + k) with wl | wl
  · have y3 : ¬ nI (len + k) ≤ 90 := nI_ge (a := 90) wl (by have := rt.1; omega)
    exact ⟨.int (-4), h, h, by simp only [k_Sp_write, e_Sp_write_0, e_Sp_write_1, e_Sp_write_2, e_Sp_write_5, e_Sp_write_6, e_Sp_write_8, e_Sp_write_11, e_Sp_write_13, e_Sp_write_14, e_Sp_write_15, e_Sp_write_18, e_Sp_write_19, e_Sp_write_20, e_Sp_write_22, e_Sp_write_25, e_Sp_write_27, m_get, m_put, m_ia, m_is, m_la, m_ls, fl_sf, fl_sa, fl_sl, fl_sq, ar_sf, ar_sa, ar_sl, ar_sq, lr_sf, lr_sa, lr_sl, lr_sq, qr_sf, qr_sa, qr_sl, qr_sq, sf_1, sf_2, sa_1, sa_2, sl_1, sl_2, Option.isSome_some, Option.map_some, Option.map_none, Option.toList_some, Option.toList_none, List.nil_append, List.cons_append, List.singleton_append, if_true, if_false, ↓reduceIte, and_self, and_true, true_and, and_false, false_and, not_true, not_false_iff, reduceCtorEq, Nat.reduceEqDiff, Nat.reduceAdd, Nat.reduceSub, Nat.reduceMul, Nat.reduceLT, Nat.reduceLeDiff, Nat.reduceBEq, eq_self, ne_eq, Nat.add_eq_zero_iff, Nat.add_left_cancel_iff, Nat.add_right_cancel_iff, Nat.left_eq_add, Nat.add_eq_left, Bool.true_or, Bool.or_true, Bool.or_self, or_self, or_true, true_or, or_false, false_or, decide_true, decide_false, i_10, i_01, k1, k2, f1, nI_add, y3], by simp only [k_Md_write, e_Md_write_0, e_Md_write_1, e_Md_write_2, e_Md_write_3, e_Md_write_6, e_Md_write_9, e_Md_write_12, e_Md_write_14, e_Md_write_15, e_Md_write_16, e_Md_write_19, e_Md_write_20, e_Md_write_21, e_Md_write_23, e_Md_write_26, e_Md_write_28, m_get, m_put, m_ia, m_is, m_la, m_ls, fl_sf, fl_sa, fl_sl, fl_sq, ar_sf, ar_sa, ar_sl, ar_sq, lr_sf, lr_sa, lr_sl, lr_sq, qr_sf, qr_sa, qr_sl, qr_sq, sf_1, sf_2, sa_1, sa_2, sl_1, sl_2, Option.isSome_some, Option.map_some, Option.map_none, Option.toList_some, Option.toList_none, List.nil_append, List.cons_append, List.singleton_append, if_true, if_false, ↓reduceIte, and_self, and_true, true_and, and_false, false_and, not_true, not_false_iff, reduceCtorEq, Nat.reduceEqDiff, Nat.reduceAdd, Nat.reduceSub, Nat.reduceMul, Nat.reduceLT, Nat.reduceLeDiff, Nat.reduceBEq, eq_self, ne_eq, Nat.add_eq_zero_iff, Nat.add_left_cancel_iff, Nat.add_right_cancel_iff, Nat.left_eq_add, Nat.add_eq_left, Bool.true_or, Bool.or_true, Bool.or_self, or_self, or_true, true_or, or_false, false_or, decide_true, decide_false, i_10, i_01, d1, k20, nI_add, y3], R0, Hp_1 H, Hp_75 H⟩
  obtain ⟨h1, c1, H1⟩ := c_write H k0 hk wl rt.2.1 w
  obtain ⟨h2, c2, H2⟩ := cM_write H1 k0 hk wl (by rw [← rt.2.2.1]; exact (by simp only [ut]; repeat rw [if_neg (by omega)])) w
  rw [show us σ 2 (cpI (σ 2) (fun d => bC w (nI (8 * (k - 1 - d)))) len k) 85 = σ 85 from (by simp only [us, Nat.reduceEqDiff, if_false, and_self])] at H2
  refine ⟨.int (nI (len + k)), h1, h2, c1, c2, ⟨_, _, v, s, q, e, p, t, n, len + k, A, X, z, H2, rlV_cg rv (fun a ha => by first | rfl | (simp only [us]; repeat rw [if_neg (by omega)])) (fun k hk => by first | rfl | (simp only [ut]; repeat rw [if_neg (by omega)])) (fun k hk => by first | rfl | (simp only [ut]; repeat rw [if_neg (by omega)])), ⟨wl, ?_, ?_, ?_⟩, rlA_cg ra (by simp only [us, Nat.reduceEqDiff, if_false, and_self]) (by simp only [ut, Nat.reduceEqDiff, false_and, and_false, if_false, and_self]) (fun o ho => by first | rfl | (funext k; simp only [ut]; repeat rw [if_neg (by omega)])), rlK_cg rk (fun a ha => by first | rfl | (simp only [us]; repeat rw [if_neg (by omega)])) (fun b k hk => by first | rfl | (simp only [ut]; repeat rw [if_neg (by omega)])), rlS_cg rs (fun a ha => by first | rfl | (simp only [us]; repeat rw [if_neg (by omega)])) (by simp only [ut, Nat.reduceEqDiff, false_and, and_false, if_false, and_self]), rlY_cg ry (by simp only [us, Nat.reduceEqDiff, if_false, and_self])⟩, Hp_1 H, Hp_75 H1⟩
  · rfl
  · rfl
  · simp only [us, Nat.reduceEqDiff, if_true, if_false]
    rw [rt.2.2.2]
    congr 1
    funext d
    exact byte_eq w (by omega)
theorem VilA_rows {w : Nat} (hw : w = 4 ∨ w = 15) (hV : VilA h w) {a n : Nat} (h1 : w ≤ a) (h2 : a ≤ w + 10) (hn : rsz a = some n) : ∃ g, ar h a (rty a) = some (n, g) := by
  obtain ⟨la, ca, da, pe, th, ne, co, kn, ow, so, gr, ho, ou, np, ns, nd, V⟩ := hV
  obtain ⟨⟨v0, v1, v2, v3, v4, v5⟩, ⟨w1, w2, w3, w4, w5, w6, w7, w8, w9, w10⟩, ⟨a1, a2, a3, a4, a5', a6, a7, a8, a9, a10⟩⟩ := V
  rcases hw with rfl | rfl
  · rcases (show a = 4 ∨ a = 5 ∨ a = 6 ∨ a = 7 ∨ a = 8 ∨ a = 9 ∨ a = 10 ∨ a = 11 ∨ a = 12 ∨ a = 13 ∨ a = 14 by omega) with rfl | rfl | rfl | rfl | rfl | rfl | rfl | rfl | rfl | rfl | rfl <;> cases hn <;> exact ⟨_, by assumption⟩
  · rcases (show a = 15 ∨ a = 16 ∨ a = 17 ∨ a = 18 ∨ a = 19 ∨ a = 20 ∨ a = 21 ∨ a = 22 ∨ a = 23 ∨ a = 24 ∨ a = 25 by omega) with rfl | rfl | rfl | rfl | rfl | rfl | rfl | rfl | rfl | rfl | rfl <;> cases hn <;> exact ⟨_, by assumption⟩
theorem ifd_v4 : ∀ a, a < 26 → ∀ k, k < 41 → (decide (4 ≤ a ∧ a ≤ 14) && ifd a k) = true → a = 4 ∧ k < 6 := by decide +kernel
theorem ifd_v15 : ∀ a, a < 26 → ∀ k, k < 41 → (decide (15 ≤ a ∧ a ≤ 25) && ifd a k) = true → a = 15 ∧ k < 6 := by decide +kernel
theorem ifd_v {w a k : Nat} (hw : w = 4 ∨ w = 15) (h1 : w ≤ a) (h2 : a ≤ w + 10) (hk : ifd a k = true) : a = w ∧ k < 6 := by
  rcases hw with rfl | rfl
  · exact ifd_v4 a (by omega) k (ifd_lt hk).2 (by rw [hk, decide_eq_true (by omega)]; rfl)
  · exact ifd_v15 a (by omega) k (ifd_lt hk).2 (by rw [hk, decide_eq_true (by omega)]; rfl)
theorem rfd_v4 : ∀ a, a < 26 → ∀ k, k < 16 → (decide (4 ≤ a ∧ a ≤ 14) && (rfd a k).isSome) = true → a = 4 ∧ 6 ≤ k ∧ rfd a k = some (4 + (k - 5)) := by decide +kernel
theorem rfd_v15 : ∀ a, a < 26 → ∀ k, k < 16 → (decide (15 ≤ a ∧ a ≤ 25) && (rfd a k).isSome) = true → a = 15 ∧ 6 ≤ k ∧ rfd a k = some (15 + (k - 5)) := by decide +kernel
theorem rfd_v {w a k : Nat} (hw : w = 4 ∨ w = 15) (h1 : w ≤ a) (h2 : a ≤ w + 10) (hk : k < 16) (hr : (rfd a k).isSome = true) : a = w ∧ 6 ≤ k ∧ rfd a k = some (w + (k - 5)) := by
  rcases hw with rfl | rfl
  · exact rfd_v4 a (by omega) k hk (by rw [hr, decide_eq_true (by omega)]; rfl)
  · exact rfd_v15 a (by omega) k hk (by rw [hr, decide_eq_true (by omega)]; rfl)
theorem rfd_k {a k r : Nat} (hr : rfd a k = some r) (ha : a < 26) (ha2 : 4 ≤ a) : k < 16 := by
  refine Classical.byContradiction fun hk => ?_
  unfold rfd at hr
  rw [if_neg (by omega)] at hr
  by_cases w4 : a = 4
  · rw [if_pos w4, if_neg (by omega)] at hr
    cases hr
  · rw [if_neg w4] at hr
    by_cases w5 : a = 15
    · rw [if_pos w5, if_neg (by omega)] at hr
      cases hr
    · rw [if_neg w5, if_neg (by omega), if_neg (by omega), if_neg (by omega), if_neg (by omega), if_neg (by omega), if_neg (by omega), if_neg (by omega)] at hr
      cases hr
/-- after a reading into the draft -/
theorem Hp_rd {h1 : xH} {w : Nat} (H : Hp h σ τ v s q e1 e2) (hw : w = 19 - v) (hR : RdA h1) (hV : VilA h1 w) (f : fr (PP w) h h1) : ∃ σ' τ', Hp h1 σ' τ' v s q e1 e2 ∧ (∀ a, ¬ PP w a → σ' a = σ a) ∧ (∀ a, ¬ PP w a → τ' a = τ a) := by
  have m := H.2.2.2
  have hv := m.1.1
  have hw' : w = 4 ∨ w = 15 := by omega
  have hV0 := hV
  have np : ∀ j, ¬ (j = 3 ∨ (w ≤ j ∧ j ≤ w + 10)) → ¬ PP w j := fun j hj => hj
  have mm : Hm h1 v s q e1 e2 := by
    obtain ⟨y0, y1, y2, y3, y4, r0, r1, r2, r3, r4⟩ := hR
    unfold Hm at *
    rw [fr_fl f (np 1 (by omega)), fr_fl f (np 1 (by omega)), fr_fl f (np 1 (by omega)), fr_fl f (np 66 (by omega)), fr_fl f (np 66 (by omega)), fr_qr f (np 27 (by omega)), fr_qr f (np 44 (by omega)), fr_fl f (np 75 (by omega)), fr_fl f (np 55 (by omega)), fr_fl f (np 55 (by omega)), fr_lr f (np 73 (by omega)), f.1, f.2.1]
    exact ⟨m.1, m.2.1, m.2.2.1, m.2.2.2.1, ⟨m.2.2.2.2.1.1, m.2.2.2.2.1.2.1, m.2.2.2.2.1.2.2.1, ⟨y0, r0⟩, ⟨y1, r1⟩, ⟨y2, r2⟩, ⟨y3, r3⟩, ⟨y4, r4⟩⟩, m.2.2.2.2.2⟩
  obtain ⟨la, ca, da, pe, th, ne, co, kn, ow, so, gr, ho, ou, np', ns, nd, V⟩ := hV
  obtain ⟨⟨v0, v1, v2, v3, v4, v5⟩, ⟨w1, w2, w3, w4, w5, w6, w7, w8, w9, w10⟩, ⟨a1, a2, a3, a4, a5', a6, a7, a8, a9, a10⟩⟩ := V
  have hr' : ∀ a n, rsz a = some n → ∃ g, ar h1 a (rty a) = some (n, g) := by
    intro a n hn
    by_cases pa : PP w a
    · rcases pa with rfl | ⟨p1, p2⟩
      · cases hn
      · exact VilA_rows hw' hV0 p1 p2 hn
    · exact ⟨_, by rw [fr_ar f pa]; exact H.1 a n hn⟩
  have hi' : ∀ a k, ifd a k = true → ∃ x, fl h1 a (ocl a) k = some (.int x) := by
    intro a k hk
    by_cases pa : PP w a
    · rcases pa with rfl | ⟨p1, p2⟩
      · exact absurd hk (by have := ifd_lt hk; revert hk; unfold ifd; simp)
      · obtain ⟨rfl, hk6⟩ := ifd_v hw' p1 p2 hk
        have oc : ocl a = 7 := by rcases hw' with rfl | rfl <;> rfl
        rw [oc]
        rcases (show k = 0 ∨ k = 1 ∨ k = 2 ∨ k = 3 ∨ k = 4 ∨ k = 5 by omega) with rfl | rfl | rfl | rfl | rfl | rfl <;> exact ⟨_, by assumption⟩
    · exact ⟨_, by rw [fr_fl f pa]; exact H.2.1 a k hk⟩
  have hc' : ∀ a k r, rfd a k = some r → fl h1 a (ocl a) k = some (.ref r) := by
    intro a k r hr
    by_cases pa : PP w a
    · rcases pa with rfl | ⟨p1, p2⟩
      · exact absurd hr (by unfold rfd; simp)
      · obtain ⟨rfl, hk6, he⟩ := rfd_v hw' p1 p2 (rfd_k hr (by omega) (by omega)) (by rw [hr]; rfl)
        have hk16 := rfd_k hr (by omega) (by omega)
        have oc : ocl a = 7 := by rcases hw' with rfl | rfl <;> rfl
        rw [oc]
        rw [he] at hr
        cases hr
        rcases (show k = 6 ∨ k = 7 ∨ k = 8 ∨ k = 9 ∨ k = 10 ∨ k = 11 ∨ k = 12 ∨ k = 13 ∨ k = 14 ∨ k = 15 by omega) with rfl | rfl | rfl | rfl | rfl | rfl | rfl | rfl | rfl | rfl <;> assumption
    · rw [fr_fl f pa]
      exact H.2.2.1 a k r hr
  obtain ⟨σ', τ', H1, hs, ht⟩ := Hp_fr (h' := h1) (v' := v) (s' := s) (q' := q) (d1 := e1) (d2 := e2) σ τ H hr' hi' hc' mm
  exact ⟨σ', τ', H1, fun a ha => hs a (fr_ar f ha _), fun a ha => funext fun k => ht a k (fr_fl f ha _ _)⟩
theorem kr_dec : ∀ k, k < 41 → KR k → ifd 75 k = true ∧ rfd 75 k = none := by
  intro k _ hk
  unfold KR at hk
  rcases hk with rfl | rfl | rfl | rfl | rfl | rfl | rfl <;> exact ⟨rfl, rfl⟩
theorem ar75 {h : xH} {σ τ : Nat → Nat → Int32} {v s : Nat} {q : Nat → Nat} {e1 e2 : Int64} (H : Hp h σ τ v s q e1 e2) : ar h 75 (rty 75) = none := by
  have z := Hp_75 H
  unfold fl at z
  unfold ar
  rcases hz : h.2.2 75 with _ | (⟨t0, n0, (f | f | f | f | f)⟩ | ⟨c0, fs⟩) <;> rw [hz] at z <;> first | rfl | cases z
/-- after the reference's reading -/
theorem Hp_md {h1 : xH} {tx : Nat → Int32} (H : Hp h σ τ v s q e1 e2) (hM : MrA h1 len tx) (f : frM KR PR h h1) : ∃ σ' τ', Hp h1 σ' τ' v s q e1 e2 ∧ (∀ a, ¬ PR a → σ' a = σ a) ∧ (∀ a k, ¬ (a = 75 ∧ KR k) → τ' a k = τ a k) := by
  have m := H.2.2.2
  obtain ⟨a0, ft, pe, th, ne, ru, hi, rc, rk, rt, rn, ⟨z0, z1, z2, z3, z19⟩, ⟨z4, z5, z6, z7, z8, z20, z21, z22⟩, y76, y77, y78, y79, y85⟩ := hM
  have fr1 := f.1
  have n1 : ∀ j, ¬ (j = 75 ∨ (76 ≤ j ∧ j ≤ 79)) → ¬ (j = 75 ∨ PR j) := fun j hj => hj
  have ff : ∀ a k, ¬ (a = 75 ∧ KR k) → ¬ PR a → fl h1 a (ocl a) k = fl h a (ocl a) k := fun a k hk hp => by
    by_cases wa : a = 75
    · subst wa
      exact f.2 k (fun z => hk ⟨rfl, z⟩)
    · exact fr_fl fr1 (fun z => z.elim wa hp) _ _
  have mm : Hm h1 v s q e1 e2 := by
    unfold Hm at *
    rw [fr_fl fr1 (n1 1 (by omega)), fr_fl fr1 (n1 1 (by omega)), fr_fl fr1 (n1 1 (by omega)), fr_fl fr1 (n1 66 (by omega)), fr_fl fr1 (n1 66 (by omega)), fr_qr fr1 (n1 27 (by omega)), fr_qr fr1 (n1 44 (by omega)), f.2 38 (by unfold KR; omega), fr_fl fr1 (n1 55 (by omega)), fr_fl fr1 (n1 55 (by omega)), fr_lr fr1 (n1 73 (by omega)), fr_fl fr1 (n1 3 (by omega)), fr_fl fr1 (n1 3 (by omega)), fr_fl fr1 (n1 3 (by omega)), fr_fl fr1 (n1 3 (by omega)), fr_fl fr1 (n1 3 (by omega)), fr1.1, fr1.2.1]
    exact m
  have hr' : ∀ a n, rsz a = some n → ∃ g, ar h1 a (rty a) = some (n, g) := by
    intro a n hn
    by_cases pa : PR a
    · unfold PR at pa
      rcases (show a = 76 ∨ a = 77 ∨ a = 78 ∨ a = 79 by omega) with rfl | rfl | rfl | rfl <;> cases hn <;> exact ⟨_, by assumption⟩
    · by_cases wa : a = 75
      · subst wa
        cases hn
      · exact ⟨_, by rw [fr_ar fr1 (fun z => z.elim wa pa)]; exact H.1 a n hn⟩
  have hi' : ∀ a k, ifd a k = true → ∃ x, fl h1 a (ocl a) k = some (.int x) := by
    intro a k hk
    by_cases pk : a = 75 ∧ KR k
    · obtain ⟨rfl, pk⟩ := pk
      unfold KR at pk
      rcases pk with rfl | rfl | rfl | rfl | rfl | rfl | rfl <;> exact ⟨_, by assumption⟩
    · by_cases pa : PR a
      · unfold PR at pa
        rcases (show a = 76 ∨ a = 77 ∨ a = 78 ∨ a = 79 by omega) with rfl | rfl | rfl | rfl <;> exact absurd hk (by unfold ifd; simp)
      · exact ⟨_, by rw [ff a k pk pa]; exact H.2.1 a k hk⟩
  have hc' : ∀ a k r, rfd a k = some r → fl h1 a (ocl a) k = some (.ref r) := by
    intro a k r hr
    by_cases pk : a = 75 ∧ KR k
    · obtain ⟨rfl, pk⟩ := pk
      rw [(kr_dec k (by unfold KR at pk; omega) pk).2] at hr
      cases hr
    · by_cases pa : PR a
      · unfold PR at pa
        rcases (show a = 76 ∨ a = 77 ∨ a = 78 ∨ a = 79 by omega) with rfl | rfl | rfl | rfl <;> exact absurd hr (by unfold rfd; simp)
      · rw [ff a k pk pa]
        exact H.2.2.1 a k r hr
  obtain ⟨σ', τ', H1, hs, ht⟩ := Hp_fr (h' := h1) (v' := v) (s' := s) (q' := q) (d1 := e1) (d2 := e2) σ τ H hr' hi' hc' mm
  refine ⟨σ', τ', H1, fun a ha => ?_, fun a k hk => ?_⟩
  · by_cases wa : a = 75
    · subst wa
      refine hs 75 ?_
      rw [ar75 H, ar75 H1]
    · exact hs a (fr_ar fr1 (fun z => z.elim wa ha) _)
  · by_cases pa : PR a
    · refine ht a k ?_
      unfold PR at pa
      have oc : ocl a = 0 := by rcases (show a = 76 ∨ a = 77 ∨ a = 78 ∨ a = 79 by omega) with rfl | rfl | rfl | rfl <;> rfl
      have nf : ∀ {g : xH} {n : Nat} {f : Nat → Int32}, ar g a 0 = some (n, f) → fl g a (ocl a) k = none := fun {g n f} hg => by
        unfold ar at hg
        unfold fl
        rcases hz : g.2.2 a with _ | (⟨t0, n0, (f | f | f | f | f)⟩ | ⟨c0, fs⟩) <;> rw [hz] at hg <;> first | rfl | cases hg
      rcases (show a = 76 ∨ a = 77 ∨ a = 78 ∨ a = 79 by omega) with rfl | rfl | rfl | rfl
      · rw [nf y76, nf (hA H 76 0 5 rfl rfl)]
      · rw [nf y77, nf (hA H 77 0 5 rfl rfl)]
      · rw [nf y78, nf (hA H 78 0 18 rfl rfl)]
      · rw [nf y79, nf (hA H 79 0 24 rfl rfl)]
    · exact ht a k (ff a k hk pa)
end WR2
