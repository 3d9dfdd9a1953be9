
def mya (k : Int32) (f : Nat → Int32) (c : Int32) : Nat → Int32
  | 0 => k
  | n + 1 => if mya k f c n = 0 then 0 else if f n ≤ c then 1 else 0
theorem mya_no {k : Int32} {f : Nat → Int32} {c : Int32} : ∀ n, ¬ (¬ k = 0 ∧ ∀ j, j < n → f j ≤ c) → mya k f c n = 0
  | 0, hn => by
    rw [mya]
    by_cases q : k = 0
    · exact q
    · exact absurd ⟨q, fun j hj => by omega⟩ hn
  | n + 1, hn => by
    rw [mya]
    by_cases q : ¬ k = 0 ∧ ∀ j, j < n → f j ≤ c
    · by_cases q2 : f n ≤ c
      · refine absurd ⟨q.1, fun j hj => ?_⟩ hn
        rcases Nat.lt_or_ge j n with w | w
        · exact q.2 j w
        · rw [show j = n by omega]; exact q2
      · rw [if_neg q2]; simp
    · rw [if_pos (mya_no n q)]
theorem mya_yes {k : Int32} {f : Nat → Int32} {c : Int32} (hk : ¬ k = 0) : ∀ n, (∀ j, j < n → f j ≤ c) → ¬ mya k f c n = 0
  | 0, _ => hk
  | n + 1, hn => by
    rw [mya, if_neg (mya_yes hk n (fun j hj => hn j (by omega))), if_pos (hn n (by omega))]
    decide
theorem m245 (i j : Nat) : (24 : Int32) * nI i + 5 + nI j = nI (24 * i + (5 + j)) := by
  rw [show (24 : Int32) * nI i + 5 = nI (24 * i + 5) from m24 i 5, nI_add]
  congr 1
  omega
section AG
variable {h : xH} {σ τ : Nat → Nat → Int32} {v s : Nat} {q : Nat → Nat} {e1 e2 : Int64} {p t n b : Nat}
theorem c_fits0 (H : Hp h σ τ v s q e1 e2) (hb : b = 45 ∨ b = 50) (h0 : τ b 0 = 0) : xC M_Kept_fits [.ref b, .ref v] h = some (some (.int 0), h) := by
  have x0 := (Hp_kpt H hb).1.1
  simp only [k_Kept_fits, e_Kept_fits_0, e_Kept_fits_1, e_Kept_fits_4, e_Kept_fits_7, e_Kept_fits_8, e_Kept_fits_9, e_Kept_fits_10, e_Kept_fits_11, e_Kept_fits_12, e_Kept_fits_13, e_Kept_fits_16, e_Kept_fits_19, e_Kept_fits_20, e_Kept_fits_23, e_Kept_fits_24, e_Kept_fits_25, e_Kept_fits_26, e_Kept_fits_29, e_Kept_fits_32, e_Kept_fits_33, e_Kept_fits_34, e_Kept_fits_37, e_Kept_fits_40, e_Kept_fits_41, m_get, m_put, m_ia, m_is, m_la, m_ls, fl_sf, fl_sa, fl_sl, fl_sq, ar_sf, ar_sa, ar_sl, ar_sq, lr_sf, lr_sa, lr_sl, lr_sq, qr_sf, qr_sa, qr_sl, qr_sq, sf_1, sf_2, sa_1, sa_2, sl_1, sl_2, Option.isSome_some, Option.map_some, Option.map_none, Option.toList_some, Option.toList_none, List.nil_append, List.cons_append, List.singleton_append, if_true, if_false, ↓reduceIte, and_self, and_true, true_and, and_false, false_and, not_true, not_false_iff, reduceCtorEq, Nat.reduceEqDiff, Nat.reduceAdd, Nat.reduceSub, Nat.reduceMul, Nat.reduceLT, Nat.reduceLeDiff, Nat.reduceBEq, eq_self, ne_eq, Nat.add_eq_zero_iff, Nat.add_left_cancel_iff, Nat.add_right_cancel_iff, Nat.left_eq_add, Nat.add_eq_left, Bool.true_or, Bool.or_true, Bool.or_self, or_self, or_true, true_or, or_false, false_or, decide_true, decide_false, i_10, i_01, x0, h0]
theorem c_fits1 (H : Hp h σ τ v s q e1 e2) (hb : b = 45 ∨ b = 50) (h0 : ¬ τ b 0 = 0) (ht : τ v 4 = nI t) (t6 : t ≤ 6) (ho : ∀ j, j < t → σ (b + 2) j ≤ τ v 1) : xC M_Kept_fits [.ref b, .ref v] h = some (some (.int 1), h) := by
  have hv := H.2.2.2.1.1
  obtain ⟨⟨x0, x1⟩, ⟨y1, y2, y3, y4⟩, z1, z2, z3, z4⟩ := Hp_kpt H hb
  obtain ⟨⟨v0, v1, v2, v3, v4, v5⟩, ⟨w1, w2, w3, w4, w5, w6, w7, w8, w9, w10⟩, ⟨a1, a2, a3, a4, a5', a6, a7, a8, a9, a10⟩⟩ := Hp_vil H hv
  simp only [k_Kept_fits, e_Kept_fits_0, e_Kept_fits_1, e_Kept_fits_4, e_Kept_fits_7, e_Kept_fits_8, e_Kept_fits_9, e_Kept_fits_10, m_get, m_put, m_ia, m_is, m_la, m_ls, fl_sf, fl_sa, fl_sl, fl_sq, ar_sf, ar_sa, ar_sl, ar_sq, lr_sf, lr_sa, lr_sl, lr_sq, qr_sf, qr_sa, qr_sl, qr_sq, sf_1, sf_2, sa_1, sa_2, sl_1, sl_2, Option.isSome_some, Option.map_some, Option.map_none, Option.toList_some, Option.toList_none, List.nil_append, List.cons_append, List.singleton_append, if_true, if_false, ↓reduceIte, and_self, and_true, true_and, and_false, false_and, not_true, not_false_iff, reduceCtorEq, Nat.reduceEqDiff, Nat.reduceAdd, Nat.reduceSub, Nat.reduceMul, Nat.reduceLT, Nat.reduceLeDiff, Nat.reduceBEq, eq_self, ne_eq, Nat.add_eq_zero_iff, Nat.add_left_cancel_iff, Nat.add_right_cancel_iff, Nat.left_eq_add, Nat.add_eq_left, Bool.true_or, Bool.or_true, Bool.or_self, or_self, or_true, true_or, or_false, false_or, decide_true, decide_false, i_10, i_01, x0, h0]
  have key := loop_dn (t := t) (P := fun i => xR none 0 M_Kept_fits 11 [some (.ref b), some (.ref v), some (.int (nI i))] [] h = some (some (.int 1), h)) ?_ ?_ 0 (Nat.zero_le _)
  · rw [nI_0] at key
    exact key
  · simp only [e_Kept_fits_11, e_Kept_fits_12, e_Kept_fits_13, e_Kept_fits_16, e_Kept_fits_40, e_Kept_fits_41, m_get, m_put, m_ia, m_is, m_la, m_ls, fl_sf, fl_sa, fl_sl, fl_sq, ar_sf, ar_sa, ar_sl, ar_sq, lr_sf, lr_sa, lr_sl, lr_sq, qr_sf, qr_sa, qr_sl, qr_sq, sf_1, sf_2, sa_1, sa_2, sl_1, sl_2, Option.isSome_some, Option.map_some, Option.map_none, Option.toList_some, Option.toList_none, List.nil_append, List.cons_append, List.singleton_append, if_true, if_false, ↓reduceIte, and_self, and_true, true_and, and_false, false_and, not_true, not_false_iff, reduceCtorEq, Nat.reduceEqDiff, Nat.reduceAdd, Nat.reduceSub, Nat.reduceMul, Nat.reduceLT, Nat.reduceLeDiff, Nat.reduceBEq, eq_self, ne_eq, Nat.add_eq_zero_iff, Nat.add_left_cancel_iff, Nat.add_right_cancel_iff, Nat.left_eq_add, Nat.add_eq_left, Bool.true_or, Bool.or_true, Bool.or_self, or_self, or_true, true_or, or_false, false_or, decide_true, decide_false, i_10, i_01, v4, ht, Int32.le_refl]
  · intro i hi ih
    have q1 : ¬ nI t ≤ nI i := nI_ge hi (by omega)
    have i6 := xin_nI (show i < 6 by omega) (by decide)
    have c6 := nI_clamp (show i < 2 ^ 31 by omega)
    have hl := ho i hi
    rw [← nI_1] at ih
    rw [e_Kept_fits_11]
    simp only [e_Kept_fits_12, e_Kept_fits_13, e_Kept_fits_16, e_Kept_fits_19, e_Kept_fits_20, e_Kept_fits_23, e_Kept_fits_24, e_Kept_fits_25, e_Kept_fits_26, e_Kept_fits_29, e_Kept_fits_32, e_Kept_fits_33, e_Kept_fits_34, e_Kept_fits_37, m_get, m_put, m_ia, m_is, m_la, m_ls, fl_sf, fl_sa, fl_sl, fl_sq, ar_sf, ar_sa, ar_sl, ar_sq, lr_sf, lr_sa, lr_sl, lr_sq, qr_sf, qr_sa, qr_sl, qr_sq, sf_1, sf_2, sa_1, sa_2, sl_1, sl_2, Option.isSome_some, Option.map_some, Option.map_none, Option.toList_some, Option.toList_none, List.nil_append, List.cons_append, List.singleton_append, if_true, if_false, ↓reduceIte, and_self, and_true, true_and, and_false, false_and, not_true, not_false_iff, reduceCtorEq, Nat.reduceEqDiff, Nat.reduceAdd, Nat.reduceSub, Nat.reduceMul, Nat.reduceLT, Nat.reduceLeDiff, Nat.reduceBEq, eq_self, ne_eq, Nat.add_eq_zero_iff, Nat.add_left_cancel_iff, Nat.add_right_cancel_iff, Nat.left_eq_add, Nat.add_eq_left, Bool.true_or, Bool.or_true, Bool.or_self, or_self, or_true, true_or, or_false, false_or, decide_true, decide_false, i_10, i_01, v1, v4, ht, q1, y2, z2, i6, c6, hl]
    exact ih
theorem c_fits2 (H : Hp h σ τ v s q e1 e2) (hb : b = 45 ∨ b = 50) (h0 : ¬ τ b 0 = 0) (ht : τ v 4 = nI t) (t6 : t ≤ 6) {k : Nat} (hk : k < t) (ho : ¬ σ (b + 2) k ≤ τ v 1) : xC M_Kept_fits [.ref b, .ref v] h = some (some (.int 0), h) := by
  have hv := H.2.2.2.1.1
  obtain ⟨⟨x0, x1⟩, ⟨y1, y2, y3, y4⟩, z1, z2, z3, z4⟩ := Hp_kpt H hb
  obtain ⟨⟨v0, v1, v2, v3, v4, v5⟩, ⟨w1, w2, w3, w4, w5, w6, w7, w8, w9, w10⟩, ⟨a1, a2, a3, a4, a5', a6, a7, a8, a9, a10⟩⟩ := Hp_vil H hv
  simp only [k_Kept_fits, e_Kept_fits_0, e_Kept_fits_1, e_Kept_fits_4, e_Kept_fits_7, e_Kept_fits_8, e_Kept_fits_9, e_Kept_fits_10, m_get, m_put, m_ia, m_is, m_la, m_ls, fl_sf, fl_sa, fl_sl, fl_sq, ar_sf, ar_sa, ar_sl, ar_sq, lr_sf, lr_sa, lr_sl, lr_sq, qr_sf, qr_sa, qr_sl, qr_sq, sf_1, sf_2, sa_1, sa_2, sl_1, sl_2, Option.isSome_some, Option.map_some, Option.map_none, Option.toList_some, Option.toList_none, List.nil_append, List.cons_append, List.singleton_append, if_true, if_false, ↓reduceIte, and_self, and_true, true_and, and_false, false_and, not_true, not_false_iff, reduceCtorEq, Nat.reduceEqDiff, Nat.reduceAdd, Nat.reduceSub, Nat.reduceMul, Nat.reduceLT, Nat.reduceLeDiff, Nat.reduceBEq, eq_self, ne_eq, Nat.add_eq_zero_iff, Nat.add_left_cancel_iff, Nat.add_right_cancel_iff, Nat.left_eq_add, Nat.add_eq_left, Bool.true_or, Bool.or_true, Bool.or_self, or_self, or_true, true_or, or_false, false_or, decide_true, decide_false, i_10, i_01, x0, h0]
  have one : ∀ i, i < t → ¬ σ (b + 2) i ≤ τ v 1 → xR none 0 M_Kept_fits 11 [some (.ref b), some (.ref v), some (.int (nI i))] [] h = some (some (.int 0), h) := fun i hi ho => by
    have q1 : ¬ nI t ≤ nI i := nI_ge hi (by omega)
    have i6 := xin_nI (show i < 6 by omega) (by decide)
    have c6 := nI_clamp (show i < 2 ^ 31 by omega)
    simp only [e_Kept_fits_11, e_Kept_fits_12, e_Kept_fits_13, e_Kept_fits_16, e_Kept_fits_19, e_Kept_fits_20, e_Kept_fits_23, e_Kept_fits_24, e_Kept_fits_25, e_Kept_fits_26, e_Kept_fits_29, e_Kept_fits_32, e_Kept_fits_33, m_get, m_put, m_ia, m_is, m_la, m_ls, fl_sf, fl_sa, fl_sl, fl_sq, ar_sf, ar_sa, ar_sl, ar_sq, lr_sf, lr_sa, lr_sl, lr_sq, qr_sf, qr_sa, qr_sl, qr_sq, sf_1, sf_2, sa_1, sa_2, sl_1, sl_2, Option.isSome_some, Option.map_some, Option.map_none, Option.toList_some, Option.toList_none, List.nil_append, List.cons_append, List.singleton_append, if_true, if_false, ↓reduceIte, and_self, and_true, true_and, and_false, false_and, not_true, not_false_iff, reduceCtorEq, Nat.reduceEqDiff, Nat.reduceAdd, Nat.reduceSub, Nat.reduceMul, Nat.reduceLT, Nat.reduceLeDiff, Nat.reduceBEq, eq_self, ne_eq, Nat.add_eq_zero_iff, Nat.add_left_cancel_iff, Nat.add_right_cancel_iff, Nat.left_eq_add, Nat.add_eq_left, Bool.true_or, Bool.or_true, Bool.or_self, or_self, or_true, true_or, or_false, false_or, decide_true, decide_false, i_10, i_01, v1, v4, ht, q1, y2, z2, i6, c6, ho]
  have key := loop_dn (t := k) (P := fun i => xR none 0 M_Kept_fits 11 [some (.ref b), some (.ref v), some (.int (nI i))] [] h = some (some (.int 0), h)) (one k hk ho) ?_ 0 (Nat.zero_le _)
  · rw [nI_0] at key
    exact key
  · intro i hi ih
    by_cases hl : σ (b + 2) i ≤ τ v 1
    · have q1 : ¬ nI t ≤ nI i := nI_ge (by omega) (by omega)
      have i6 := xin_nI (show i < 6 by omega) (by decide)
      have c6 := nI_clamp (show i < 2 ^ 31 by omega)
      rw [← nI_1] at ih
      rw [e_Kept_fits_11]
      simp only [e_Kept_fits_12, e_Kept_fits_13, e_Kept_fits_16, e_Kept_fits_19, e_Kept_fits_20, e_Kept_fits_23, e_Kept_fits_24, e_Kept_fits_25, e_Kept_fits_26, e_Kept_fits_29, e_Kept_fits_32, e_Kept_fits_33, e_Kept_fits_34, e_Kept_fits_37, m_get, m_put, m_ia, m_is, m_la, m_ls, fl_sf, fl_sa, fl_sl, fl_sq, ar_sf, ar_sa, ar_sl, ar_sq, lr_sf, lr_sa, lr_sl, lr_sq, qr_sf, qr_sa, qr_sl, qr_sq, sf_1, sf_2, sa_1, sa_2, sl_1, sl_2, Option.isSome_some, Option.map_some, Option.map_none, Option.toList_some, Option.toList_none, List.nil_append, List.cons_append, List.singleton_append, if_true, if_false, ↓reduceIte, and_self, and_true, true_and, and_false, false_and, not_true, not_false_iff, reduceCtorEq, Nat.reduceEqDiff, Nat.reduceAdd, Nat.reduceSub, Nat.reduceMul, Nat.reduceLT, Nat.reduceLeDiff, Nat.reduceBEq, eq_self, ne_eq, Nat.add_eq_zero_iff, Nat.add_left_cancel_iff, Nat.add_right_cancel_iff, Nat.left_eq_add, Nat.add_eq_left, Bool.true_or, Bool.or_true, Bool.or_self, or_self, or_true, true_or, or_false, false_or, decide_true, decide_false, i_10, i_01, v1, v4, ht, q1, y2, z2, i6, c6, hl]
      exact ih
    · exact one i (by omega) hl
/-- the reference's look at a slot -/
theorem cM_may (H : Hp h σ τ v s q e1 e2) (ht : τ 75 14 = nI t) (t6 : t ≤ 6) {i : Nat} (hi : i < 2) (hz : σ 96 i = 0 ∨ σ 96 i = 1) : xC M_Md_again [.ref 75, .int (nI i)] h = xR none 1 M_Md_again 65 [some (.ref 75), some (.int (nI i)), some (.int (mya (σ 96 i) (fun j => σ 97 (24 * i + (5 + j))) (τ 75 17) t)), some (.int (nI t))] [] h := by
  have i2 := xin_nI hi (by decide)
  have c2 := nI_clamp (show i < 2 ^ 31 by omega)
  have z1 : 0 ≤ nI i ∧ nI i ≤ 1 := ⟨nI_pos' (by omega), nI_le (b := 1) (by omega) (by decide)⟩
  have d1 := fun f => call_l (lv := 1) (c_inI (h := h) (nI i) (y := 0) (z := 1) (yl := 0) (zl := 1) rfl rfl) (Nat.le_of_ble_eq_true rfl) f
  simp only [if_pos z1] at d1
  have hs := hA H 96 2 2 rfl rfl
  have f39 := hR H 75 9 39 96 rfl rfl
  have r97 := hA H 97 0 48 rfl rfl
  have f40 := hR H 75 9 40 97 rfl rfl
  have f14 := hI H 75 9 14 rfl rfl
  have f17 := hI H 75 9 17 rfl rfl
  rw [ht] at f14
  simp only [k_Md_again, e_Md_again_0, e_Md_again_1, e_Md_again_2, e_Md_again_3, e_Md_again_4, e_Md_again_7, e_Md_again_10, e_Md_again_11, e_Md_again_12, e_Md_again_13, e_Md_again_16, e_Md_again_17, e_Md_again_18, e_Md_again_19, e_Md_again_20, m_get, m_put, m_ia, m_is, m_la, m_ls, fl_sf, fl_sa, fl_sl, fl_sq, ar_sf, ar_sa, ar_sl, ar_sq, lr_sf, lr_sa, lr_sl, lr_sq, qr_sf, qr_sa, qr_sl, qr_sq, sf_1, sf_2, sa_1, sa_2, sl_1, sl_2, Option.isSome_some, Option.map_some, Option.map_none, Option.toList_some, Option.toList_none, List.nil_append, List.cons_append, List.singleton_append, if_true, if_false, ↓reduceIte, and_self, and_true, true_and, and_false, false_and, not_true, not_false_iff, reduceCtorEq, Nat.reduceEqDiff, Nat.reduceAdd, Nat.reduceSub, Nat.reduceMul, Nat.reduceLT, Nat.reduceLeDiff, Nat.reduceBEq, eq_self, ne_eq, Nat.add_eq_zero_iff, Nat.add_left_cancel_iff, Nat.add_right_cancel_iff, Nat.left_eq_add, Nat.add_eq_left, Bool.true_or, Bool.or_true, Bool.or_self, or_self, or_true, true_or, or_false, false_or, decide_true, decide_false, i_10, i_01, d1, i2, c2, hs, f39]
  have key := loop_dn (t := t) (P := fun j => xR none 1 M_Md_again 21 [some (.ref 75), some (.int (nI i)), some (.int (mya (σ 96 i) (fun j => σ 97 (24 * i + (5 + j))) (τ 75 17) j)), some (.int (nI j))] [] h = xR none 1 M_Md_again 65 [some (.ref 75), some (.int (nI i)), some (.int (mya (σ 96 i) (fun j => σ 97 (24 * i + (5 + j))) (τ 75 17) t)), some (.int (nI t))] [] h) ?_ ?_ 0 (Nat.zero_le _)
  · rw [nI_0] at key
    exact key
  · simp only [e_Md_again_21, e_Md_again_22, e_Md_again_23, e_Md_again_26, m_get, m_put, m_ia, m_is, m_la, m_ls, fl_sf, fl_sa, fl_sl, fl_sq, ar_sf, ar_sa, ar_sl, ar_sq, lr_sf, lr_sa, lr_sl, lr_sq, qr_sf, qr_sa, qr_sl, qr_sq, sf_1, sf_2, sa_1, sa_2, sl_1, sl_2, Option.isSome_some, Option.map_some, Option.map_none, Option.toList_some, Option.toList_none, List.nil_append, List.cons_append, List.singleton_append, if_true, if_false, ↓reduceIte, and_self, and_true, true_and, and_false, false_and, not_true, not_false_iff, reduceCtorEq, Nat.reduceEqDiff, Nat.reduceAdd, Nat.reduceSub, Nat.reduceMul, Nat.reduceLT, Nat.reduceLeDiff, Nat.reduceBEq, eq_self, ne_eq, Nat.add_eq_zero_iff, Nat.add_left_cancel_iff, Nat.add_right_cancel_iff, Nat.left_eq_add, Nat.add_eq_left, Bool.true_or, Bool.or_true, Bool.or_self, or_self, or_true, true_or, or_false, false_or, decide_true, decide_false, i_10, i_01, f14, Int32.le_refl]
  · intro j hj ih
    have q1 : ¬ nI t ≤ nI j := nI_ge hj (by omega)
    have im := xin_nI (show 24 * i + (5 + j) < 48 by omega) (by decide)
    have cm := nI_clamp (show 24 * i + (5 + j) < 2 ^ 31 by omega)
    rw [← nI_1, mya] at ih
    rw [← ih, e_Md_again_21]
    by_cases w1 : mya (σ 96 i) (fun j => σ 97 (24 * i + (5 + j))) (τ 75 17) j = 0
    · simp only [e_Md_again_22, e_Md_again_23, e_Md_again_26, e_Md_again_29, e_Md_again_30, e_Md_again_33, e_Md_again_34, e_Md_again_37, e_Md_again_39, e_Md_again_40, e_Md_again_41, e_Md_again_42, e_Md_again_43, e_Md_again_44, e_Md_again_45, e_Md_again_46, e_Md_again_47, e_Md_again_50, e_Md_again_53, e_Md_again_54, e_Md_again_57, e_Md_again_58, e_Md_again_59, e_Md_again_62, m_get, m_put, m_ia, m_is, m_la, m_ls, fl_sf, fl_sa, fl_sl, fl_sq, ar_sf, ar_sa, ar_sl, ar_sq, lr_sf, lr_sa, lr_sl, lr_sq, qr_sf, qr_sa, qr_sl, qr_sq, sf_1, sf_2, sa_1, sa_2, sl_1, sl_2, Option.isSome_some, Option.map_some, Option.map_none, Option.toList_some, Option.toList_none, List.nil_append, List.cons_append, List.singleton_append, if_true, if_false, ↓reduceIte, and_self, and_true, true_and, and_false, false_and, not_true, not_false_iff, reduceCtorEq, Nat.reduceEqDiff, Nat.reduceAdd, Nat.reduceSub, Nat.reduceMul, Nat.reduceLT, Nat.reduceLeDiff, Nat.reduceBEq, eq_self, ne_eq, Nat.add_eq_zero_iff, Nat.add_left_cancel_iff, Nat.add_right_cancel_iff, Nat.left_eq_add, Nat.add_eq_left, Bool.true_or, Bool.or_true, Bool.or_self, or_self, or_true, true_or, or_false, false_or, decide_true, decide_false, i_10, i_01, f14, f17, f40, r97, q1, im, cm, m245, w1]
    · by_cases w2 : σ 97 (24 * i + (5 + j)) ≤ τ 75 17
      · have w3 : ¬ τ 75 17 < σ 97 (24 * i + (5 + j)) := Int32.not_lt.mpr w2
        simp only [e_Md_again_22, e_Md_again_23, e_Md_again_26, e_Md_again_29, e_Md_again_30, e_Md_again_33, e_Md_again_34, e_Md_again_37, e_Md_again_39, e_Md_again_40, e_Md_again_41, e_Md_again_42, e_Md_again_43, e_Md_again_44, e_Md_again_45, e_Md_again_46, e_Md_again_47, e_Md_again_50, e_Md_again_53, e_Md_again_54, e_Md_again_57, e_Md_again_58, e_Md_again_59, e_Md_again_62, m_get, m_put, m_ia, m_is, m_la, m_ls, fl_sf, fl_sa, fl_sl, fl_sq, ar_sf, ar_sa, ar_sl, ar_sq, lr_sf, lr_sa, lr_sl, lr_sq, qr_sf, qr_sa, qr_sl, qr_sq, sf_1, sf_2, sa_1, sa_2, sl_1, sl_2, Option.isSome_some, Option.map_some, Option.map_none, Option.toList_some, Option.toList_none, List.nil_append, List.cons_append, List.singleton_append, if_true, if_false, ↓reduceIte, and_self, and_true, true_and, and_false, false_and, not_true, not_false_iff, reduceCtorEq, Nat.reduceEqDiff, Nat.reduceAdd, Nat.reduceSub, Nat.reduceMul, Nat.reduceLT, Nat.reduceLeDiff, Nat.reduceBEq, eq_self, ne_eq, Nat.add_eq_zero_iff, Nat.add_left_cancel_iff, Nat.add_right_cancel_iff, Nat.left_eq_add, Nat.add_eq_left, Bool.true_or, Bool.or_true, Bool.or_self, or_self, or_true, true_or, or_false, false_or, decide_true, decide_false, i_10, i_01, f14, f17, f40, r97, q1, im, cm, m245, w1, w2, w3]
      · have w3 : τ 75 17 < σ 97 (24 * i + (5 + j)) := Int32.not_le.mp w2
        simp only [e_Md_again_22, e_Md_again_23, e_Md_again_26, e_Md_again_29, e_Md_again_30, e_Md_again_33, e_Md_again_34, e_Md_again_37, e_Md_again_39, e_Md_again_40, e_Md_again_41, e_Md_again_42, e_Md_again_43, e_Md_again_44, e_Md_again_45, e_Md_again_46, e_Md_again_47, e_Md_again_50, e_Md_again_53, e_Md_again_54, e_Md_again_57, e_Md_again_58, e_Md_again_59, e_Md_again_62, m_get, m_put, m_ia, m_is, m_la, m_ls, fl_sf, fl_sa, fl_sl, fl_sq, ar_sf, ar_sa, ar_sl, ar_sq, lr_sf, lr_sa, lr_sl, lr_sq, qr_sf, qr_sa, qr_sl, qr_sq, sf_1, sf_2, sa_1, sa_2, sl_1, sl_2, Option.isSome_some, Option.map_some, Option.map_none, Option.toList_some, Option.toList_none, List.nil_append, List.cons_append, List.singleton_append, if_true, if_false, ↓reduceIte, and_self, and_true, true_and, and_false, false_and, not_true, not_false_iff, reduceCtorEq, Nat.reduceEqDiff, Nat.reduceAdd, Nat.reduceSub, Nat.reduceMul, Nat.reduceLT, Nat.reduceLeDiff, Nat.reduceBEq, eq_self, ne_eq, Nat.add_eq_zero_iff, Nat.add_left_cancel_iff, Nat.add_right_cancel_iff, Nat.left_eq_add, Nat.add_eq_left, Bool.true_or, Bool.or_true, Bool.or_self, or_self, or_true, true_or, or_false, false_or, decide_true, decide_false, i_10, i_01, f14, f17, f40, r97, q1, im, cm, m245, w1, w2, w3]
theorem cM_again (H : Hp h σ τ v s q e1 e2) {i : Nat} (hi : i < 2) {m x3 : Int32} (hm : ¬ m = 0) : ∃ h', xR none 1 M_Md_again 65 [some (.ref 75), some (.int (nI i)), some (.int m), some (.int x3)] [] h = some (some (.int (σ 97 (24 * i + 23))), h') ∧ Hp h' (us σ 84 (cpI (σ 84) (fun k => σ 97 (24 * i + k)) 0 24)) (ut τ 75 23 0) v s q e1 e2 := by
  have r97 := hA H 97 0 48 rfl rfl
  have f40 := hR H 75 9 40 97 rfl rfl
  have r84 := hA H 84 0 24 rfl rfl
  have f18 := hR H 75 9 18 84 rfl rfl
  have f23 := hI H 75 9 23 rfl rfl
  have H1 := Hp_sf (c := 9) (Hp_sa (t := 0) (n := 24) H (a := 84) rfl rfl (cpI (σ 84) (fun k => σ 97 (24 * i + k)) 0 24)) (a := 75) (k := 23) rfl rfl 0
  refine ⟨_, ?_, H1⟩
  simp only [e_Md_again_65, e_Md_again_66, e_Md_again_69, e_Md_again_71, e_Md_again_72, e_Md_again_73, Option.isSome_some, Option.map_some, Option.map_none, Option.toList_some, Option.toList_none, List.nil_append, List.cons_append, List.singleton_append, if_true, if_false, ↓reduceIte, and_self, and_true, true_and, and_false, false_and, not_true, not_false_iff, reduceCtorEq, Nat.reduceEqDiff, Nat.reduceAdd, Nat.reduceSub, Nat.reduceMul, Nat.reduceLT, Nat.reduceLeDiff, Nat.reduceBEq, eq_self, ne_eq, Nat.add_eq_zero_iff, Nat.add_left_cancel_iff, Nat.add_right_cancel_iff, Nat.left_eq_add, Nat.add_eq_left, Bool.true_or, Bool.or_true, Bool.or_self, or_self, or_true, true_or, or_false, false_or, decide_true, decide_false, i_10, i_01, hm]
  have key := loop_dn (t := 24) (P := fun k => xR none 1 M_Md_again 74 [some (.ref 75), some (.int (nI i)), some (.int m), some (.int (nI k))] [] (sa h 84 0 (cpI (σ 84) (fun k => σ 97 (24 * i + k)) 0 k)) = some (some (.int (σ 97 (24 * i + 23))), sf (sa h 84 0 (cpI (σ 84) (fun k => σ 97 (24 * i + k)) 0 24)) 75 9 23 (.int 0))) ?_ ?_ 0 (Nat.zero_le _)
  · rw [nI_0, cpI_0, sa_self r84] at key
    exact key
  · have k24 : (24 : Int32) ≤ nI 24 := Int32.le_refl _
    have z23 : cpI (σ 84) (fun k => σ 97 (24 * i + k)) 0 24 23 = σ 97 (24 * i + 23) := cpI_in (o := 0) (k := 23) (by omega)
    simp only [e_Md_again_74, e_Md_again_75, e_Md_again_77, e_Md_again_103, e_Md_again_104, e_Md_again_105, e_Md_again_108, e_Md_again_109, e_Md_again_112, e_Md_again_114, e_Md_again_115, m_get, m_put, m_ia, m_is, m_la, m_ls, fl_sf, fl_sa, fl_sl, fl_sq, ar_sf, ar_sa, ar_sl, ar_sq, lr_sf, lr_sa, lr_sl, lr_sq, qr_sf, qr_sa, qr_sl, qr_sq, sf_1, sf_2, sa_1, sa_2, sl_1, sl_2, Option.isSome_some, Option.map_some, Option.map_none, Option.toList_some, Option.toList_none, List.nil_append, List.cons_append, List.singleton_append, if_true, if_false, ↓reduceIte, and_self, and_true, true_and, and_false, false_and, not_true, not_false_iff, reduceCtorEq, Nat.reduceEqDiff, Nat.reduceAdd, Nat.reduceSub, Nat.reduceMul, Nat.reduceLT, Nat.reduceLeDiff, Nat.reduceBEq, eq_self, ne_eq, Nat.add_eq_zero_iff, Nat.add_left_cancel_iff, Nat.add_right_cancel_iff, Nat.left_eq_add, Nat.add_eq_left, Bool.true_or, Bool.or_true, Bool.or_self, or_self, or_true, true_or, or_false, false_or, decide_true, decide_false, i_10, i_01, k24, r84, f18, f23, in23, cl23, z23]
  · intro k hk ih
    have q1 : ¬ (24 : Int32) ≤ nI k := nI_ge (b := 24) hk (by decide)
    have ik := xin_nI hk (by decide)
    have ck := nI_clamp (show k < 2 ^ 31 by omega)
    have im := xin_nI (show 24 * i + k < 48 by omega) (by decide)
    have cm := nI_clamp (show 24 * i + k < 2 ^ 31 by omega)
    have zz := cpI_s (σ 84) (fun k => σ 97 (24 * i + k)) 0 k
    rw [Nat.zero_add] at zz
    rw [← nI_1, ← zz, ← sa_sa h 84 0 (cpI (σ 84) (fun k => σ 97 (24 * i + k)) 0 k)] at ih
    rw [e_Md_again_74]
    simp only [e_Md_again_75, e_Md_again_77, e_Md_again_80, e_Md_again_81, e_Md_again_84, e_Md_again_85, e_Md_again_86, e_Md_again_89, e_Md_again_91, e_Md_again_92, e_Md_again_93, e_Md_again_94, e_Md_again_95, e_Md_again_96, e_Md_again_97, e_Md_again_100, m_get, m_put, m_ia, m_is, m_la, m_ls, fl_sf, fl_sa, fl_sl, fl_sq, ar_sf, ar_sa, ar_sl, ar_sq, lr_sf, lr_sa, lr_sl, lr_sq, qr_sf, qr_sa, qr_sl, qr_sq, sf_1, sf_2, sa_1, sa_2, sl_1, sl_2, Option.isSome_some, Option.map_some, Option.map_none, Option.toList_some, Option.toList_none, List.nil_append, List.cons_append, List.singleton_append, if_true, if_false, ↓reduceIte, and_self, and_true, true_and, and_false, false_and, not_true, not_false_iff, reduceCtorEq, Nat.reduceEqDiff, Nat.reduceAdd, Nat.reduceSub, Nat.reduceMul, Nat.reduceLT, Nat.reduceLeDiff, Nat.reduceBEq, eq_self, ne_eq, Nat.add_eq_zero_iff, Nat.add_left_cancel_iff, Nat.add_right_cancel_iff, Nat.left_eq_add, Nat.add_eq_left, Bool.true_or, Bool.or_true, Bool.or_self, or_self, or_true, true_or, or_false, false_or, decide_true, decide_false, i_10, i_01, q1, r84, r97, f18, f40, ik, ck, im, cm, m24]
    exact ih
theorem c_clear (H : Hp h σ τ v s q e1 e2) : xC M_ActRow_clear [.ref 26] h = some (none, sf h 26 1 1 (.int 0)) := by
  simp only [k_ActRow_clear, e_ActRow_clear_0, e_ActRow_clear_1, e_ActRow_clear_2, e_ActRow_clear_5, m_get, m_put, m_ia, m_is, m_la, m_ls, fl_sf, fl_sa, fl_sl, fl_sq, ar_sf, ar_sa, ar_sl, ar_sq, lr_sf, lr_sa, lr_sl, lr_sq, qr_sf, qr_sa, qr_sl, qr_sq, sf_1, sf_2, sa_1, sa_2, sl_1, sl_2, Option.isSome_some, Option.map_some, Option.map_none, Option.toList_some, Option.toList_none, List.nil_append, List.cons_append, List.singleton_append, if_true, if_false, ↓reduceIte, and_self, and_true, true_and, and_false, false_and, not_true, not_false_iff, reduceCtorEq, Nat.reduceEqDiff, Nat.reduceAdd, Nat.reduceSub, Nat.reduceMul, Nat.reduceLT, Nat.reduceLeDiff, Nat.reduceBEq, eq_self, ne_eq, Nat.add_eq_zero_iff, Nat.add_left_cancel_iff, Nat.add_right_cancel_iff, Nat.left_eq_add, Nat.add_eq_left, Bool.true_or, Bool.or_true, Bool.or_self, or_self, or_true, true_or, or_false, false_or, decide_true, decide_false, i_10, i_01, hI H 26 1 1 rfl rfl]
theorem again_run (R : Rel h) {b i : Nat} (hbi : (b = 45 ∧ i = 0) ∨ (b = 50 ∧ i = 1)) : Op h M_Sp_again M_Md_again [.int (nI i)] := by
  have R0 := R
  obtain ⟨σ, τ, v, s, q, e, p, t, n, len, A, X, z, H, rv, rt, ra, rk, rs, ry⟩ := R
  have rv0 := rv
  obtain ⟨⟨⟨vp, vt, vn⟩, p5, t6, n8⟩, ⟨vl, vc, vd, up, uu, un⟩, ⟨bl, bc⟩, ag1, ag2, ag3, bo, bn, ks, st⟩ := rv
  have m := H.2.2.2
  have hv := m.1.1
  have fh := m.1.2.1
  have hb : b = 45 ∨ b = 50 := by omega
  obtain ⟨g44, gq, g0, g1⟩ := m.2.2.1.2
  have gi : g44 i = some b := by rcases hbi with ⟨rfl, rfl⟩ | ⟨rfl, rfl⟩ <;> assumption
  have gq3 := qr_3 gq
  have i2 := xin_nI (show i < 2 by omega) (by decide)
  have c2 := nI_clamp (show i < 2 ^ 31 by omega)
  have y1 : ¬ nI i < 0 := nI_pos (by omega)
  have y2 : nI i < 2 := nI_lt (b := 2) (by omega) (by decide)
  have f6 := hR H 1 8 6 44 rfl rfl
  have f5 := hR H 1 8 5 26 rfl rfl
  have r1 : rlK1 b i p t σ τ := by rcases hbi with ⟨rfl, rfl⟩ | ⟨rfl, rfl⟩ <;> first | exact rk.1 | exact rk.2
  obtain ⟨⟨k1, k2⟩, k3⟩ := r1
  have dM := cM_may H vt t6 (i := i) (by omega) k2
  have no : ¬ (¬ σ 96 i = 0 ∧ ∀ j, j < t → σ 97 (24 * i + (5 + j)) ≤ τ 75 17) → xC M_Kept_fits [.ref b, .ref v] h = some (some (.int 0), h) → Op h M_Sp_again M_Md_again [.int (nI i)] := fun hn hc => by
    have cc := call_v (lv := 1) hc (Hp_kis H hb) (by decide) (Nat.le_of_ble_eq_true rfl)
    refine ⟨.int (-3), h, h, ?_, ?_, R0, Hp_1 H, Hp_75 H⟩
    · simp only [k_Sp_again, e_Sp_again_0, e_Sp_again_1, e_Sp_again_4, e_Sp_again_5, e_Sp_again_6, e_Sp_again_9, e_Sp_again_10, e_Sp_again_11, e_Sp_again_12, e_Sp_again_15, e_Sp_again_16, e_Sp_again_17, e_Sp_again_18, e_Sp_again_21, e_Sp_again_24, e_Sp_again_27, e_Sp_again_29, e_Sp_again_30, e_Sp_again_31, e_Sp_again_34, e_Sp_again_35, e_Sp_again_36, e_Sp_again_37, e_Sp_again_40, e_Sp_again_43, e_Sp_again_44, e_Sp_again_47, e_Sp_again_50, e_Sp_again_51, e_Sp_again_54, e_Sp_again_57, m_aa, m_get, m_put, m_ia, m_is, m_la, m_ls, fl_sf, fl_sa, fl_sl, fl_sq, ar_sf, ar_sa, ar_sl, ar_sq, lr_sf, lr_sa, lr_sl, lr_sq, qr_sf, qr_sa, qr_sl, qr_sq, sf_1, sf_2, sa_1, sa_2, sl_1, sl_2, Option.isSome_some, Option.map_some, Option.map_none, Option.toList_some, Option.toList_none, List.nil_append, List.cons_append, List.singleton_append, if_true, if_false, ↓reduceIte, and_self, and_true, true_and, and_false, false_and, not_true, not_false_iff, reduceCtorEq, Nat.reduceEqDiff, Nat.reduceAdd, Nat.reduceSub, Nat.reduceMul, Nat.reduceLT, Nat.reduceLeDiff, Nat.reduceBEq, eq_self, ne_eq, Nat.add_eq_zero_iff, Nat.add_left_cancel_iff, Nat.add_right_cancel_iff, Nat.left_eq_add, Nat.add_eq_left, Bool.true_or, Bool.or_true, Bool.or_self, or_self, or_true, true_or, or_false, false_or, decide_true, decide_false, i_10, i_01, y1, y2, f6, gq, gq3, i2, c2, gi, fh, cc]
    · rw [dM, mya_no t hn]
      simp only [e_Md_again_65, e_Md_again_66, e_Md_again_69, e_Md_again_71, Option.isSome_some, Option.map_some, Option.map_none, Option.toList_some, Option.toList_none, List.nil_append, List.cons_append, List.singleton_append, if_true, if_false, ↓reduceIte, and_self, and_true, true_and, and_false, false_and, not_true, not_false_iff, reduceCtorEq, Nat.reduceEqDiff, Nat.reduceAdd, Nat.reduceSub, Nat.reduceMul, Nat.reduceLT, Nat.reduceLeDiff, Nat.reduceBEq, eq_self, ne_eq, Nat.add_eq_zero_iff, Nat.add_left_cancel_iff, Nat.add_right_cancel_iff, Nat.left_eq_add, Nat.add_eq_left, Bool.true_or, Bool.or_true, Bool.or_self, or_self, or_true, true_or, or_false, false_or, decide_true, decide_false, i_10, i_01]
  by_cases w0 : σ 96 i = 0
  · exact no (fun w => w.1 w0) (c_fits0 H hb (by rw [k1, w0]))
  · obtain ⟨s1, s2, s3, s4⟩ := k3 w0
    by_cases w1 : ∀ j, j < t → σ 97 (24 * i + (5 + j)) ≤ τ 75 17
    · have cc := call_v (lv := 1) (c_fits1 H hb (by rw [k1]; exact w0) uu t6 (fun j hj => by rw [(s4 j hj).1, vc]; exact w1 j hj)) (Hp_kis H hb) (by decide) (Nat.le_of_ble_eq_true rfl)
      obtain ⟨h1, d1, H1⟩ := c_giveTo H hb
      have cg := call_v (lv := 1) d1 (Hp_kis H hb) (by decide) (Nat.le_of_ble_eq_true rfl)
      have cl := call_v (lv := 1) (c_clear H1) (by rw [show xmo M_ActRow_clear = 1 from rfl, hR H1 26 1 0 27 rfl rfl]; rfl) (by decide) (Nat.le_of_ble_eq_true rfl)
      have H2 := Hp_sf (c := 1) H1 (a := 26) (k := 1) rfl rfl 0
      have fh1 := H1.2.2.2.1.2.1
      have f51 := hR H1 1 8 5 26 rfl rfl
      have fh2 := H2.2.2.2.1.2.1
      have fd := (Hp_vil H2 hv).1.2.2.1
      have ed : ut (ut τ v 2 (τ b 1)) 26 1 0 v 2 = σ 97 (24 * i + 23) := by
        rw [← s2]
        simp only [ut]
        rw [if_neg (by omega), if_pos ⟨trivial, trivial⟩]
      rw [ed] at fd
      have dM2 := cM_may H2 (t := t) (i := i) (by rw [← vt]; exact (by first | rfl | (simp only [us, ut]; repeat rw [if_neg (by omega)]))) t6 (by omega) (by rw [show us (us (us (us σ (v + 1) (va_cpy (σ (b + 1)) (σ (v + 1)) 0 0 5)) (v + 5) (va_cpy (σ (b + 2)) (σ (v + 5)) 0 0 6)) (v + 6) (va_cpy (σ (b + 3)) (σ (v + 6)) 0 0 6)) (v + 7) (va_cpy (σ (b + 4)) (σ (v + 7)) 0 0 6) 96 = σ 96 from (by first | rfl | (simp only [us, ut]; repeat rw [if_neg (by omega)]))]; exact k2)
      have e96 : us (us (us (us σ (v + 1) (va_cpy (σ (b + 1)) (σ (v + 1)) 0 0 5)) (v + 5) (va_cpy (σ (b + 2)) (σ (v + 5)) 0 0 6)) (v + 6) (va_cpy (σ (b + 3)) (σ (v + 6)) 0 0 6)) (v + 7) (va_cpy (σ (b + 4)) (σ (v + 7)) 0 0 6) 96 = σ 96 := (by first | rfl | (simp only [us, ut]; repeat rw [if_neg (by omega)]))
      have e97 : us (us (us (us σ (v + 1) (va_cpy (σ (b + 1)) (σ (v + 1)) 0 0 5)) (v + 5) (va_cpy (σ (b + 2)) (σ (v + 5)) 0 0 6)) (v + 6) (va_cpy (σ (b + 3)) (σ (v + 6)) 0 0 6)) (v + 7) (va_cpy (σ (b + 4)) (σ (v + 7)) 0 0 6) 97 = σ 97 := (by first | rfl | (simp only [us, ut]; repeat rw [if_neg (by omega)]))
      have e84 : us (us (us (us σ (v + 1) (va_cpy (σ (b + 1)) (σ (v + 1)) 0 0 5)) (v + 5) (va_cpy (σ (b + 2)) (σ (v + 5)) 0 0 6)) (v + 6) (va_cpy (σ (b + 3)) (σ (v + 6)) 0 0 6)) (v + 7) (va_cpy (σ (b + 4)) (σ (v + 7)) 0 0 6) 84 = σ 84 := (by first | rfl | (simp only [us, ut]; repeat rw [if_neg (by omega)]))
      have e17 : ut (ut τ v 2 (τ b 1)) 26 1 0 75 17 = τ 75 17 := (by first | rfl | (simp only [us, ut]; repeat rw [if_neg (by omega)]))
      rw [e96, e97, e17] at dM2
      obtain ⟨h3, d3, H3⟩ := cM_again H2 (i := i) (x3 := nI t) (by omega) (mya_yes w0 t w1)
      rw [e97] at d3
      rw [e97, e84] at H3
      refine ⟨.int (σ 97 (24 * i + 23)), _, h3, ?_, by rw [dM2, d3], ⟨_, _, v, s, q, e, p, t, n, len, 0, X, z, H3, ?_, rlT_cg rt ⟨(by first | rfl | (simp only [us, ut]; repeat rw [if_neg (by omega)])), (by first | rfl | (simp only [us, ut]; repeat rw [if_neg (by omega)]))⟩ ⟨(by first | rfl | (simp only [us, ut]; repeat rw [if_neg (by omega)])), (by first | rfl | (simp only [us, ut]; repeat rw [if_neg (by omega)]))⟩, ?_, rlK_cg rk (fun a ha => by first | rfl | (simp only [us]; repeat rw [if_neg (by omega)])) (fun b k hk => by first | rfl | (simp only [ut]; repeat rw [if_neg (by omega)])), rlS_cg rs (fun a ha => by first | rfl | (simp only [us]; repeat rw [if_neg (by omega)])) ⟨(by first | rfl | (simp only [us, ut]; repeat rw [if_neg (by omega)])), (by first | rfl | (simp only [us, ut]; repeat rw [if_neg (by omega)]))⟩, rlY_cg ry (by first | rfl | (simp only [us, ut]; repeat rw [if_neg (by omega)]))⟩, Hp_1 H, Hp_75 H2⟩
      · simp only [k_Sp_again, e_Sp_again_0, e_Sp_again_1, e_Sp_again_4, e_Sp_again_5, e_Sp_again_6, e_Sp_again_9, e_Sp_again_10, e_Sp_again_11, e_Sp_again_12, e_Sp_again_15, e_Sp_again_16, e_Sp_again_17, e_Sp_again_18, e_Sp_again_21, e_Sp_again_24, e_Sp_again_27, e_Sp_again_29, e_Sp_again_30, e_Sp_again_31, e_Sp_again_34, e_Sp_again_35, e_Sp_again_36, e_Sp_again_37, e_Sp_again_40, e_Sp_again_43, e_Sp_again_44, e_Sp_again_47, e_Sp_again_50, e_Sp_again_51, e_Sp_again_54, e_Sp_again_57, m_aa, m_get, m_put, m_ia, m_is, m_la, m_ls, fl_sf, fl_sa, fl_sl, fl_sq, ar_sf, ar_sa, ar_sl, ar_sq, lr_sf, lr_sa, lr_sl, lr_sq, qr_sf, qr_sa, qr_sl, qr_sq, sf_1, sf_2, sa_1, sa_2, sl_1, sl_2, Option.isSome_some, Option.map_some, Option.map_none, Option.toList_some, Option.toList_none, List.nil_append, List.cons_append, List.singleton_append, if_true, if_false, ↓reduceIte, and_self, and_true, true_and, and_false, false_and, not_true, not_false_iff, reduceCtorEq, Nat.reduceEqDiff, Nat.reduceAdd, Nat.reduceSub, Nat.reduceMul, Nat.reduceLT, Nat.reduceLeDiff, Nat.reduceBEq, eq_self, ne_eq, Nat.add_eq_zero_iff, Nat.add_left_cancel_iff, Nat.add_right_cancel_iff, Nat.left_eq_add, Nat.add_eq_left, Bool.true_or, Bool.or_true, Bool.or_self, or_self, or_true, true_or, or_false, false_or, decide_true, decide_false, i_10, i_01, y1, y2, f6, f5, gq, gq3, i2, c2, gi, fh, cc, cg, cl, fh1, f51, fh2, fd]
      · have E84 : ∀ k, k < 24 → cpI (σ 84) (fun k => σ 97 (24 * i + k)) 0 24 k = σ 97 (24 * i + k) := fun k hk => by
          have := cpI_in (g := σ 84) (f := fun k => σ 97 (24 * i + k)) (o := 0) hk
          rw [Nat.zero_add] at this
          exact this
        rcases hv with rfl | rfl
        all_goals
          refine ⟨⟨⟨vp, vt, vn⟩, p5, t6, n8⟩, ⟨vl, vc, ?_, up, uu, un⟩, ⟨bl, bc⟩, fun i' hi' => ?_, fun j hj => ?_, ag3, bo, bn, ks, fun j hj => ?_⟩
          · simp only [us, ut, Nat.reduceEqDiff, Nat.reduceAdd, if_false, if_true, and_false, false_and, and_true, true_and, and_self]
            rw [E84 23 (by omega), s2]
          · obtain ⟨x1, x2⟩ := ag1 i' hi'
            simp only [Nat.reduceAdd] at x2
            simp only [us, ut, Nat.reduceEqDiff, Nat.reduceAdd, if_false, if_true]
            rw [E84 i' (by omega), cpy_in (by omega)]
            exact ⟨s3 i' hi', x2⟩
          · obtain ⟨x1, x2, x3⟩ := ag2 j hj
            simp only [Nat.reduceAdd] at x1 x2
            simp only [us, ut, Nat.reduceEqDiff, Nat.reduceAdd, if_false, if_true]
            rw [E84 _ (by omega), E84 _ (by omega), E84 _ (by omega), cpy_in (by omega), cpy_in (by omega), cpy_in (by omega)]
            exact ⟨x1, x2, s4 j hj⟩
          · simp only [us, ut, Nat.reduceEqDiff, Nat.reduceAdd, if_false, if_true]
            rw [E84 _ (by omega), E84 _ (by omega), E84 _ (by omega)]
            exact s1 j hj
      · refine ⟨⟨by omega, ra.1.2.1, rfl, rfl, ?_⟩, ra.2.1, fun a ha => by omega⟩
        rw [← ra.1.2.2.2.2]
        exact (by first | rfl | (simp only [us, ut]; repeat rw [if_neg (by omega)]))
    · have w2 : ∃ k, k < t ∧ ¬ σ 97 (24 * i + (5 + k)) ≤ τ 75 17 := by
        refine Classical.byContradiction fun hc => w1 fun j hj => ?_
        exact Classical.byContradiction fun hd => hc ⟨j, hj, hd⟩
      obtain ⟨k, hk, w3⟩ := w2
      exact no (fun w => w3 (w.2 k hk)) (c_fits2 H hb (by rw [k1]; exact w0) uu t6 hk (by rw [(s4 k hk).1, vc]; exact w3))
theorem op_again (R : Rel h) (x : Int32) : Op h M_Sp_again M_Md_again [.int x] := by
  by_cases z1 : 0 ≤ x ∧ x ≤ 1
  · obtain ⟨k, hk, rfl⟩ := nI_of2 (M := 1) (n := 1) rfl (Int32.not_lt.mpr z1.1) z1.2
    exact again_run R (b := if k = 0 then 45 else 50) (by split <;> omega)
  · have R0 := R
    obtain ⟨σ, τ, v, s, q, e, p, t, n, len, A, X, z, H, rv, rt, ra, rk, rs, ry⟩ := R
    have d1 := fun f => call_l (lv := 1) (c_inI (h := h) x (y := 0) (z := 1) (yl := 0) (zl := 1) rfl rfl) (Nat.le_of_ble_eq_true rfl) f
    simp only [if_neg z1] at d1
    refine ⟨.int (-1), h, h, ?_, by simp only [k_Md_again, e_Md_again_0, e_Md_again_1, e_Md_again_2, e_Md_again_3, e_Md_again_4, e_Md_again_7, e_Md_again_10, e_Md_again_11, m_get, m_put, m_ia, m_is, m_la, m_ls, fl_sf, fl_sa, fl_sl, fl_sq, ar_sf, ar_sa, ar_sl, ar_sq, lr_sf, lr_sa, lr_sl, lr_sq, qr_sf, qr_sa, qr_sl, qr_sq, sf_1, sf_2, sa_1, sa_2, sl_1, sl_2, Option.isSome_some, Option.map_some, Option.map_none, Option.toList_some, Option.toList_none, List.nil_append, List.cons_append, List.singleton_append, if_true, if_false, ↓reduceIte, and_self, and_true, true_and, and_false, false_and, not_true, not_false_iff, reduceCtorEq, Nat.reduceEqDiff, Nat.reduceAdd, Nat.reduceSub, Nat.reduceMul, Nat.reduceLT, Nat.reduceLeDiff, Nat.reduceBEq, eq_self, ne_eq, Nat.add_eq_zero_iff, Nat.add_left_cancel_iff, Nat.add_right_cancel_iff, Nat.left_eq_add, Nat.add_eq_left, Bool.true_or, Bool.or_true, Bool.or_self, or_self, or_true, true_or, or_false, false_or, decide_true, decide_false, i_10, i_01, d1], R0, Hp_1 H, Hp_75 H⟩
    by_cases y1 : x < 0
    · simp only [k_Sp_again, e_Sp_again_0, e_Sp_again_1, e_Sp_again_4, e_Sp_again_5, e_Sp_again_6, e_Sp_again_9, e_Sp_again_10, e_Sp_again_11, e_Sp_again_12, e_Sp_again_15, e_Sp_again_16, e_Sp_again_17, e_Sp_again_18, e_Sp_again_21, e_Sp_again_24, e_Sp_again_27, e_Sp_again_29, e_Sp_again_30, e_Sp_again_31, e_Sp_again_34, e_Sp_again_35, e_Sp_again_36, e_Sp_again_37, e_Sp_again_40, e_Sp_again_43, e_Sp_again_44, e_Sp_again_47, e_Sp_again_50, e_Sp_again_51, e_Sp_again_54, e_Sp_again_57, m_get, m_put, m_ia, m_is, m_la, m_ls, fl_sf, fl_sa, fl_sl, fl_sq, ar_sf, ar_sa, ar_sl, ar_sq, lr_sf, lr_sa, lr_sl, lr_sq, qr_sf, qr_sa, qr_sl, qr_sq, sf_1, sf_2, sa_1, sa_2, sl_1, sl_2, Option.isSome_some, Option.map_some, Option.map_none, Option.toList_some, Option.toList_none, List.nil_append, List.cons_append, List.singleton_append, if_true, if_false, ↓reduceIte, and_self, and_true, true_and, and_false, false_and, not_true, not_false_iff, reduceCtorEq, Nat.reduceEqDiff, Nat.reduceAdd, Nat.reduceSub, Nat.reduceMul, Nat.reduceLT, Nat.reduceLeDiff, Nat.reduceBEq, eq_self, ne_eq, Nat.add_eq_zero_iff, Nat.add_left_cancel_iff, Nat.add_right_cancel_iff, Nat.left_eq_add, Nat.add_eq_left, Bool.true_or, Bool.or_true, Bool.or_self, or_self, or_true, true_or, or_false, false_or, decide_true, decide_false, i_10, i_01, y1]
    · have y2 : ¬ x < 2 := fun w => z1 ⟨Int32.not_lt.mp y1, by
        have a1 := Int32.lt_iff_toInt_lt.mp w
        have a2 : (2 : Int32).toInt = 2 := rfl
        have a3 : (1 : Int32).toInt = 1 := rfl
        rw [Int32.le_iff_toInt_le]
        omega⟩
      simp only [k_Sp_again, e_Sp_again_0, e_Sp_again_1, e_Sp_again_4, e_Sp_again_5, e_Sp_again_6, e_Sp_again_9, e_Sp_again_10, e_Sp_again_11, e_Sp_again_12, e_Sp_again_15, e_Sp_again_16, e_Sp_again_17, e_Sp_again_18, e_Sp_again_21, e_Sp_again_24, e_Sp_again_27, e_Sp_again_29, e_Sp_again_30, e_Sp_again_31, e_Sp_again_34, e_Sp_again_35, e_Sp_again_36, e_Sp_again_37, e_Sp_again_40, e_Sp_again_43, e_Sp_again_44, e_Sp_again_47, e_Sp_again_50, e_Sp_again_51, e_Sp_again_54, e_Sp_again_57, m_get, m_put, m_ia, m_is, m_la, m_ls, fl_sf, fl_sa, fl_sl, fl_sq, ar_sf, ar_sa, ar_sl, ar_sq, lr_sf, lr_sa, lr_sl, lr_sq, qr_sf, qr_sa, qr_sl, qr_sq, sf_1, sf_2, sa_1, sa_2, sl_1, sl_2, Option.isSome_some, Option.map_some, Option.map_none, Option.toList_some, Option.toList_none, List.nil_append, List.cons_append, List.singleton_append, if_true, if_false, ↓reduceIte, and_self, and_true, true_and, and_false, false_and, not_true, not_false_iff, reduceCtorEq, Nat.reduceEqDiff, Nat.reduceAdd, Nat.reduceSub, Nat.reduceMul, Nat.reduceLT, Nat.reduceLeDiff, Nat.reduceBEq, eq_self, ne_eq, Nat.add_eq_zero_iff, Nat.add_left_cancel_iff, Nat.add_right_cancel_iff, Nat.left_eq_add, Nat.add_eq_left, Bool.true_or, Bool.or_true, Bool.or_self, or_self, or_true, true_or, or_false, false_or, decide_true, decide_false, i_10, i_01, y1, y2]
end AG
