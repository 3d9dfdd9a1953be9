
/-- f laid into g from o on, i places -/
def cpI (g f : Nat → Int32) (o i : Nat) : Nat → Int32 := fun m => if o ≤ m ∧ m < o + i then f (m - o) else g m
theorem cpI_0 (g f : Nat → Int32) (o : Nat) : cpI g f o 0 = g := by
  funext m
  unfold cpI
  rw [if_neg (by omega)]
theorem cpI_s (g f : Nat → Int32) (o i : Nat) : upd (cpI g f o i) (o + i) (f i) = cpI g f o (i + 1) := by
  funext m
  unfold upd cpI
  by_cases q : m = o + i
  · rw [if_pos q, if_pos (by omega), show m - o = i by omega]
  · rw [if_neg q]
    by_cases q2 : o ≤ m ∧ m < o + i
    · rw [if_pos q2, if_pos (by omega)]
    · rw [if_neg q2, if_neg (by omega)]
theorem cpI_in {g f : Nat → Int32} {o i k : Nat} (hk : k < i) : cpI g f o i (o + k) = f k := by
  unfold cpI
  rw [if_pos (by omega), show o + k - o = k by omega]
theorem cpI_out {g f : Nat → Int32} {o i m : Nat} (hm : ¬ (o ≤ m ∧ m < o + i)) : cpI g f o i m = g m := by
  unfold cpI
  rw [if_neg hm]
theorem cpy_in {f g : Nat → Int32} {n i : Nat} (hi : i < n) : va_cpy f g 0 0 n i = f i := by
  unfold va_cpy
  rw [if_pos (by omega)]
  congr 1
  omega
theorem m24 (s k : Nat) : (24 : Int32) * nI s + nI k = nI (24 * s + k) := by
  rw [← nI_add]
  congr 1
  exact (Int32.ofNat_mul 24 s).symm
theorem nar1 : vp_nar .boolean 1 = 1 := by decide +kernel
theorem nar0 : vp_nar .boolean 0 = 0 := by decide +kernel
theorem qr_3 {h : xH} {a n : Nat} {g : Nat → Option Nat} (hq : qr h a 4 = some (n, g)) : qr h a 3 = none := by
  unfold qr at *
  rcases hz : h.2.2 a with _ | (⟨t0, n0, (f | f | f | f | f)⟩ | ⟨c0, fs⟩) <;> rw [hz] at hq <;> simp only at hq <;> try cases hq
  split at hq
  · rename_i q
    subst q
    simp
  · cases hq
theorem k23 : (23 : Int32) = nI 23 := rfl
theorem cl5 : (5 : Int32).toNatClampNeg = 5 := rfl
theorem cl6 : (6 : Int32).toNatClampNeg = 6 := rfl
theorem cl0 : (0 : Int32).toNatClampNeg = 0 := rfl
theorem cl1 : (1 : Int32).toNatClampNeg = 1 := rfl
theorem cl23 : (23 : Int32).toNatClampNeg = 23 := rfl
theorem n50 : ¬ (5 : Int32) < 0 := by decide
theorem n60 : ¬ (6 : Int32) < 0 := by decide
theorem n00 : ¬ (0 : Int32) < 0 := by decide
theorem in0_2 : xinB 0 2 = true := by decide
theorem in1_2 : xinB 1 2 = true := by decide
theorem in23 : xinB 23 24 = true := by decide
section KEEP
variable {h : xH} {σ τ : Nat → Nat → Int32} {v s : Nat} {q : Nat → Nat} {e1 e2 : Int64} {p t n b : Nat}
theorem Hp_kpt (H : Hp h σ τ v s q e1 e2) (hb : b = 45 ∨ b = 50) : (fl h b 3 0 = some (.int (τ b 0)) ∧ fl h b 3 1 = some (.int (τ b 1))) ∧ (fl h b 3 2 = some (.ref (b + 1)) ∧ fl h b 3 3 = some (.ref (b + 2)) ∧ fl h b 3 4 = some (.ref (b + 3)) ∧ fl h b 3 5 = some (.ref (b + 4))) ∧ (ar h (b + 1) 0 = some (5, σ (b + 1)) ∧ ar h (b + 2) 0 = some (6, σ (b + 2)) ∧ ar h (b + 3) 0 = some (6, σ (b + 3)) ∧ ar h (b + 4) 0 = some (6, σ (b + 4))) := by
  rcases hb with rfl | rfl
  · exact ⟨⟨hI H 45 3 0 rfl rfl, hI H 45 3 1 rfl rfl⟩, ⟨hR H 45 3 2 46 rfl rfl, hR H 45 3 3 47 rfl rfl, hR H 45 3 4 48 rfl rfl, hR H 45 3 5 49 rfl rfl⟩, ⟨hA H 46 0 5 rfl rfl, hA H 47 0 6 rfl rfl, hA H 48 0 6 rfl rfl, hA H 49 0 6 rfl rfl⟩⟩
  · exact ⟨⟨hI H 50 3 0 rfl rfl, hI H 50 3 1 rfl rfl⟩, ⟨hR H 50 3 2 51 rfl rfl, hR H 50 3 3 52 rfl rfl, hR H 50 3 4 53 rfl rfl, hR H 50 3 5 54 rfl rfl⟩, ⟨hA H 51 0 5 rfl rfl, hA H 52 0 6 rfl rfl, hA H 53 0 6 rfl rfl, hA H 54 0 6 rfl rfl⟩⟩
theorem c_take (H : Hp h σ τ v s q e1 e2) (hb : b = 45 ∨ b = 50) : ∃ h', xC M_Kept_take [.ref b, .ref v] h = some (none, h') ∧ Hp h' (us (us (us (us σ (b + 1) (va_cpy (σ (v + 1)) (σ (b + 1)) 0 0 5)) (b + 2) (va_cpy (σ (v + 5)) (σ (b + 2)) 0 0 6)) (b + 3) (va_cpy (σ (v + 6)) (σ (b + 3)) 0 0 6)) (b + 4) (va_cpy (σ (v + 7)) (σ (b + 4)) 0 0 6)) (ut (ut τ b 0 1) b 1 (τ v 2)) v s q e1 e2 := by
  have hv := H.2.2.2.1.1
  have V := Hp_vil H hv
  obtain ⟨⟨x0, x1⟩, ⟨y1, y2, y3, y4⟩, z1, z2, z3, z4⟩ := Hp_kpt H hb
  have H1 := Hp_sf (c := 3) (Hp_sf (c := 3) H (a := b) (k := 0) (by rcases hb with rfl | rfl <;> rfl) (by rcases hb with rfl | rfl <;> rfl) 1) (a := b) (k := 1) (by rcases hb with rfl | rfl <;> rfl) (by rcases hb with rfl | rfl <;> rfl) (τ v 2)
  have H2 := Hp_sa (t := 0) (n := 5) H1 (a := b + 1) (by rcases hb with rfl | rfl <;> rfl) (by rcases hb with rfl | rfl <;> rfl) (va_cpy (σ (v + 1)) (σ (b + 1)) 0 0 5)
  have H3 := Hp_sa (t := 0) (n := 6) H2 (a := b + 2) (by rcases hb with rfl | rfl <;> rfl) (by rcases hb with rfl | rfl <;> rfl) (va_cpy (σ (v + 5)) (σ (b + 2)) 0 0 6)
  have H4 := Hp_sa (t := 0) (n := 6) H3 (a := b + 3) (by rcases hb with rfl | rfl <;> rfl) (by rcases hb with rfl | rfl <;> rfl) (va_cpy (σ (v + 6)) (σ (b + 3)) 0 0 6)
  have H5 := Hp_sa (t := 0) (n := 6) H4 (a := b + 4) (by rcases hb with rfl | rfl <;> rfl) (by rcases hb with rfl | rfl <;> rfl) (va_cpy (σ (v + 7)) (σ (b + 4)) 0 0 6)
  refine ⟨_, ?_, H5⟩
  obtain ⟨⟨v0, v1, v2, v3, v4, v5⟩, ⟨w1, w2, w3, w4, w5, w6, w7, w8, w9, w10⟩, ⟨a1, a2, a3, a4, a5', a6, a7, a8, a9, a10⟩⟩ := V
  have n1 : ∀ i j, i ≤ 10 → j ≤ 4 → ¬ v + i = b + j := by omega
  have n2 : ∀ j, j ≤ 4 → ¬ v = b + j := by omega
  have n3 : ∀ i, i ≤ 10 → ¬ v + i = b := by omega
  have n4 : ¬ v = b := by omega
  simp only [k_Kept_take, e_Kept_take_0, e_Kept_take_1, e_Kept_take_2, e_Kept_take_5, e_Kept_take_6, e_Kept_take_7, e_Kept_take_10, e_Kept_take_13, e_Kept_take_14, e_Kept_take_17, e_Kept_take_18, e_Kept_take_19, e_Kept_take_22, e_Kept_take_23, e_Kept_take_24, e_Kept_take_27, e_Kept_take_28, e_Kept_take_31, e_Kept_take_32, e_Kept_take_33, e_Kept_take_36, e_Kept_take_37, e_Kept_take_39, e_Kept_take_42, e_Kept_take_43, e_Kept_take_46, e_Kept_take_47, e_Kept_take_48, e_Kept_take_51, e_Kept_take_52, e_Kept_take_54, e_Kept_take_57, e_Kept_take_58, e_Kept_take_61, e_Kept_take_62, e_Kept_take_63, e_Kept_take_66, e_Kept_take_67, e_Kept_take_69, e_Kept_take_72, m_get, m_put, m_ia, m_is, m_la, m_ls, fl_sf, fl_sa, fl_sl, fl_sq, ar_sf, ar_sa, ar_sl, ar_sq, lr_sf, lr_sa, lr_sl, lr_sq, qr_sf, qr_sa, qr_sl, qr_sq, sf_1, sf_2, sa_1, sa_2, sl_1, sl_2, m_cp, Option.isSome_some, Option.map_some, Option.map_none, Option.toList_some, Option.toList_none, List.nil_append, List.cons_append, List.singleton_append, if_true, if_false, ↓reduceIte, and_self, and_true, true_and, and_false, false_and, not_true, not_false_iff, reduceCtorEq, Nat.reduceEqDiff, Nat.reduceAdd, Nat.reduceSub, Nat.reduceMul, Nat.reduceLT, Nat.reduceLeDiff, Nat.reduceBEq, eq_self, ne_eq, Nat.add_eq_zero_iff, Nat.add_left_cancel_iff, Nat.add_right_cancel_iff, Nat.left_eq_add, Nat.add_eq_left, Bool.true_or, Bool.or_true, Bool.or_self, or_self, or_true, true_or, or_false, false_or, decide_true, decide_false, i_10, i_01, v0, v1, v2, v3, v4, v5, w1, w2, w3, w4, w5, w6, w7, w8, w9, w10, a1, a2, a3, a4, a5', a6, a7, a8, a9, a10, x0, x1, y1, y2, y3, y4, z1, z2, z3, z4, beq_self_eq_true, cl0, cl5, cl6, n50, n60, n00, n4, n1 1 1 (by omega) (by omega), n1 1 2 (by omega) (by omega), n1 5 1 (by omega) (by omega), n1 5 2 (by omega) (by omega), n1 6 1 (by omega) (by omega), n1 6 2 (by omega) (by omega), n1 6 3 (by omega) (by omega), n1 7 1 (by omega) (by omega), n1 7 2 (by omega) (by omega), n1 7 3 (by omega) (by omega), n1 7 4 (by omega) (by omega), Nat.le_refl]
theorem c_giveTo (H : Hp h σ τ v s q e1 e2) (hb : b = 45 ∨ b = 50) : ∃ h', xC M_Kept_giveTo [.ref b, .ref v] h = some (none, h') ∧ Hp h' (us (us (us (us σ (v + 1) (va_cpy (σ (b + 1)) (σ (v + 1)) 0 0 5)) (v + 5) (va_cpy (σ (b + 2)) (σ (v + 5)) 0 0 6)) (v + 6) (va_cpy (σ (b + 3)) (σ (v + 6)) 0 0 6)) (v + 7) (va_cpy (σ (b + 4)) (σ (v + 7)) 0 0 6)) (ut τ v 2 (τ b 1)) v s q e1 e2 := by
  have hv := H.2.2.2.1.1
  have V := Hp_vil H hv
  obtain ⟨⟨x0, x1⟩, ⟨y1, y2, y3, y4⟩, z1, z2, z3, z4⟩ := Hp_kpt H hb
  have H1 := Hp_sf (c := 7) H (a := v) (k := 2) (by rcases hv with rfl | rfl <;> rfl) (by rcases hv with rfl | rfl <;> rfl) (τ b 1)
  have H2 := Hp_sa (t := 0) (n := 5) H1 (a := v + 1) (by rcases hv with rfl | rfl <;> rfl) (by rcases hv with rfl | rfl <;> rfl) (va_cpy (σ (b + 1)) (σ (v + 1)) 0 0 5)
  have H3 := Hp_sa (t := 0) (n := 6) H2 (a := v + 5) (by rcases hv with rfl | rfl <;> rfl) (by rcases hv with rfl | rfl <;> rfl) (va_cpy (σ (b + 2)) (σ (v + 5)) 0 0 6)
  have H4 := Hp_sa (t := 0) (n := 6) H3 (a := v + 6) (by rcases hv with rfl | rfl <;> rfl) (by rcases hv with rfl | rfl <;> rfl) (va_cpy (σ (b + 3)) (σ (v + 6)) 0 0 6)
  have H5 := Hp_sa (t := 0) (n := 6) H4 (a := v + 7) (by rcases hv with rfl | rfl <;> rfl) (by rcases hv with rfl | rfl <;> rfl) (va_cpy (σ (b + 4)) (σ (v + 7)) 0 0 6)
  refine ⟨_, ?_, H5⟩
  obtain ⟨⟨v0, v1, v2, v3, v4, v5⟩, ⟨w1, w2, w3, w4, w5, w6, w7, w8, w9, w10⟩, ⟨a1, a2, a3, a4, a5', a6, a7, a8, a9, a10⟩⟩ := V
  have n1 : ∀ i j, i ≤ 10 → j ≤ 4 → ¬ b + j = v + i := by omega
  have n4 : ¬ b = v := by omega
  simp only [k_Kept_giveTo, e_Kept_giveTo_0, e_Kept_giveTo_1, e_Kept_giveTo_2, e_Kept_giveTo_5, e_Kept_giveTo_8, e_Kept_giveTo_9, e_Kept_giveTo_12, e_Kept_giveTo_13, e_Kept_giveTo_14, e_Kept_giveTo_17, e_Kept_giveTo_18, e_Kept_giveTo_19, e_Kept_giveTo_22, e_Kept_giveTo_23, e_Kept_giveTo_26, e_Kept_giveTo_27, e_Kept_giveTo_28, e_Kept_giveTo_31, e_Kept_giveTo_32, e_Kept_giveTo_34, e_Kept_giveTo_37, e_Kept_giveTo_38, e_Kept_giveTo_41, e_Kept_giveTo_42, e_Kept_giveTo_43, e_Kept_giveTo_46, e_Kept_giveTo_47, e_Kept_giveTo_49, e_Kept_giveTo_52, e_Kept_giveTo_53, e_Kept_giveTo_56, e_Kept_giveTo_57, e_Kept_giveTo_58, e_Kept_giveTo_61, e_Kept_giveTo_62, e_Kept_giveTo_64, e_Kept_giveTo_67, m_get, m_put, m_ia, m_is, m_la, m_ls, fl_sf, fl_sa, fl_sl, fl_sq, ar_sf, ar_sa, ar_sl, ar_sq, lr_sf, lr_sa, lr_sl, lr_sq, qr_sf, qr_sa, qr_sl, qr_sq, sf_1, sf_2, sa_1, sa_2, sl_1, sl_2, m_cp, Option.isSome_some, Option.map_some, Option.map_none, Option.toList_some, Option.toList_none, List.nil_append, List.cons_append, List.singleton_append, if_true, if_false, ↓reduceIte, and_self, and_true, true_and, and_false, false_and, not_true, not_false_iff, reduceCtorEq, Nat.reduceEqDiff, Nat.reduceAdd, Nat.reduceSub, Nat.reduceMul, Nat.reduceLT, Nat.reduceLeDiff, Nat.reduceBEq, eq_self, ne_eq, Nat.add_eq_zero_iff, Nat.add_left_cancel_iff, Nat.add_right_cancel_iff, Nat.left_eq_add, Nat.add_eq_left, Bool.true_or, Bool.or_true, Bool.or_self, or_self, or_true, true_or, or_false, false_or, decide_true, decide_false, i_10, i_01, v0, v1, v2, v3, v4, v5, w1, w2, w3, w4, w5, w6, w7, w8, w9, w10, a1, a2, a3, a4, a5', a6, a7, a8, a9, a10, x0, x1, y1, y2, y3, y4, z1, z2, z3, z4, beq_self_eq_true, cl0, cl5, cl6, n50, n60, n00, n4, n1 1 1 (by omega) (by omega), n1 1 2 (by omega) (by omega), n1 1 3 (by omega) (by omega), n1 1 4 (by omega) (by omega), n1 5 2 (by omega) (by omega), n1 5 3 (by omega) (by omega), n1 5 4 (by omega) (by omega), n1 6 3 (by omega) (by omega), n1 6 4 (by omega) (by omega), n1 7 4 (by omega) (by omega), Nat.le_refl]
theorem cM_keep (H : Hp h σ τ v s q e1 e2) {i : Nat} (hi : i < 2) : ∃ h', xC M_Md_keep [.ref 75, .int (nI i)] h = some (some (.int (σ 84 23)), h') ∧ Hp h' (us (us σ 96 (upd (σ 96) i 1)) 97 (cpI (σ 97) (σ 84) (24 * i) 24)) τ v s q e1 e2 := by
  have H1 := Hp_sa (t := 2) (n := 2) H (a := 96) rfl rfl (upd (σ 96) i 1)
  have i2 := xin_nI hi (by decide)
  have c2 := nI_clamp (show i < 2 ^ 31 by omega)
  have z1 : 0 ≤ nI i ∧ nI i ≤ 1 := ⟨nI_pos' (by omega), nI_le (b := 1) (by omega) (by decide)⟩
  have d1 := fun f => call_l (lv := 1) (c_inI (h := h) (nI i) (y := 0) (z := 1) (yl := 0) (zl := 1) rfl rfl) (Nat.le_of_ble_eq_true rfl) f
  simp only [if_pos z1] at d1
  have r84 := hA H1 84 0 24 rfl rfl
  have r97 := hA H1 97 0 48 rfl rfl
  have f18 := hR H1 75 9 18 84 rfl rfl
  have f40 := hR H1 75 9 40 97 rfl rfl
  have e84 : us σ 96 (upd (σ 96) i 1) 84 = σ 84 := (by simp only [us, Nat.reduceEqDiff, if_false, and_self])
  have e97 : us σ 96 (upd (σ 96) i 1) 97 = σ 97 := (by simp only [us, Nat.reduceEqDiff, if_false, and_self])
  rw [e84] at r84
  rw [e97] at r97
  have H2 := Hp_sa (t := 0) (n := 48) H1 (a := 97) rfl rfl (cpI (σ 97) (σ 84) (24 * i) 24)
  refine ⟨_, ?_, H2⟩
  have hs := hA H 96 2 2 rfl rfl
  have f39 := hR H 75 9 39 96 rfl rfl
  simp only [k_Md_keep, e_Md_keep_0, e_Md_keep_1, e_Md_keep_2, e_Md_keep_3, e_Md_keep_4, e_Md_keep_7, e_Md_keep_10, e_Md_keep_11, e_Md_keep_12, e_Md_keep_13, e_Md_keep_16, e_Md_keep_17, e_Md_keep_18, e_Md_keep_19, e_Md_keep_20, m_get, m_put, m_ia, m_is, m_la, m_ls, fl_sf, fl_sa, fl_sl, fl_sq, ar_sf, ar_sa, ar_sl, ar_sq, lr_sf, lr_sa, lr_sl, lr_sq, qr_sf, qr_sa, qr_sl, qr_sq, sf_1, sf_2, sa_1, sa_2, sl_1, sl_2, Option.isSome_some, Option.map_some, Option.map_none, Option.toList_some, Option.toList_none, List.nil_append, List.cons_append, List.singleton_append, if_true, if_false, ↓reduceIte, and_self, and_true, true_and, and_false, false_and, not_true, not_false_iff, reduceCtorEq, Nat.reduceEqDiff, Nat.reduceAdd, Nat.reduceSub, Nat.reduceMul, Nat.reduceLT, Nat.reduceLeDiff, Nat.reduceBEq, eq_self, ne_eq, Nat.add_eq_zero_iff, Nat.add_left_cancel_iff, Nat.add_right_cancel_iff, Nat.left_eq_add, Nat.add_eq_left, Bool.true_or, Bool.or_true, Bool.or_self, or_self, or_true, true_or, or_false, false_or, decide_true, decide_false, i_10, i_01, d1, i2, c2, hs, f39, nar1]
  generalize sa h 96 2 (upd (σ 96) i 1) = g at r84 r97 f18 f40
  have key := loop_dn (t := 24) (P := fun k => xR none 1 M_Md_keep 21 [some (.ref 75), some (.int (nI i)), some (.int (nI k))] [] (sa g 97 0 (cpI (σ 97) (σ 84) (24 * i) k)) = some (some (.int (σ 84 23)), sa g 97 0 (cpI (σ 97) (σ 84) (24 * i) 24))) ?_ ?_ 0 (Nat.zero_le _)
  · rw [nI_0, cpI_0, sa_self r97] at key
    exact key
  · have k24 : (24 : Int32) ≤ nI 24 := Int32.le_refl _
    simp only [e_Md_keep_21, e_Md_keep_22, e_Md_keep_24, e_Md_keep_50, e_Md_keep_51, e_Md_keep_54, e_Md_keep_56, e_Md_keep_57, m_get, m_put, m_ia, m_is, m_la, m_ls, fl_sf, fl_sa, fl_sl, fl_sq, ar_sf, ar_sa, ar_sl, ar_sq, lr_sf, lr_sa, lr_sl, lr_sq, qr_sf, qr_sa, qr_sl, qr_sq, sf_1, sf_2, sa_1, sa_2, sl_1, sl_2, Option.isSome_some, Option.map_some, Option.map_none, Option.toList_some, Option.toList_none, List.nil_append, List.cons_append, List.singleton_append, if_true, if_false, ↓reduceIte, and_self, and_true, true_and, and_false, false_and, not_true, not_false_iff, reduceCtorEq, Nat.reduceEqDiff, Nat.reduceAdd, Nat.reduceSub, Nat.reduceMul, Nat.reduceLT, Nat.reduceLeDiff, Nat.reduceBEq, eq_self, ne_eq, Nat.add_eq_zero_iff, Nat.add_left_cancel_iff, Nat.add_right_cancel_iff, Nat.left_eq_add, Nat.add_eq_left, Bool.true_or, Bool.or_true, Bool.or_self, or_self, or_true, true_or, or_false, false_or, decide_true, decide_false, i_10, i_01, k24, r84, f18, in23, cl23]
  · intro k hk ih
    have q1 : ¬ (24 : Int32) ≤ nI k := nI_ge (b := 24) hk (by decide)
    have ik := xin_nI hk (by decide)
    have ck := nI_clamp (show k < 2 ^ 31 by omega)
    have im := xin_nI (show 24 * i + k < 48 by omega) (by decide)
    have cm := nI_clamp (show 24 * i + k < 2 ^ 31 by omega)
    rw [← nI_1, ← cpI_s, ← sa_sa g 97 0 (cpI (σ 97) (σ 84) (24 * i) k)] at ih
    rw [e_Md_keep_21]
    simp only [e_Md_keep_22, e_Md_keep_24, e_Md_keep_27, e_Md_keep_28, e_Md_keep_31, e_Md_keep_33, e_Md_keep_34, e_Md_keep_35, e_Md_keep_36, e_Md_keep_37, e_Md_keep_38, e_Md_keep_41, e_Md_keep_42, e_Md_keep_43, e_Md_keep_44, e_Md_keep_47, m_get, m_put, m_ia, m_is, m_la, m_ls, fl_sf, fl_sa, fl_sl, fl_sq, ar_sf, ar_sa, ar_sl, ar_sq, lr_sf, lr_sa, lr_sl, lr_sq, qr_sf, qr_sa, qr_sl, qr_sq, sf_1, sf_2, sa_1, sa_2, sl_1, sl_2, Option.isSome_some, Option.map_some, Option.map_none, Option.toList_some, Option.toList_none, List.nil_append, List.cons_append, List.singleton_append, if_true, if_false, ↓reduceIte, and_self, and_true, true_and, and_false, false_and, not_true, not_false_iff, reduceCtorEq, Nat.reduceEqDiff, Nat.reduceAdd, Nat.reduceSub, Nat.reduceMul, Nat.reduceLT, Nat.reduceLeDiff, Nat.reduceBEq, eq_self, ne_eq, Nat.add_eq_zero_iff, Nat.add_left_cancel_iff, Nat.add_right_cancel_iff, Nat.left_eq_add, Nat.add_eq_left, Bool.true_or, Bool.or_true, Bool.or_self, or_self, or_true, true_or, or_false, false_or, decide_true, decide_false, i_10, i_01, q1, r84, r97, f18, f40, ik, ck, im, cm, m24]
    exact ih
end KEEP
