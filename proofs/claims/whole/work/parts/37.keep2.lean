
theorem rlK1_new {b i p t : Nat} {σ τ : Nat → Nat → Int32} {ow S : Nat → Int32} (t6 : t ≤ 6) (p5 : p ≤ 5) (e96 : σ 96 i = 1) (e0 : τ b 0 = 1) (e1 : τ b 1 = S 23) (e81 : σ 81 = ow) (e97 : ∀ k, k < 24 → σ 97 (24 * i + k) = S k) (st : St p t ow S) (r1 : ∀ i, i < p → σ (b + 1) i = S i) (r2 : ∀ j, j < t → σ (b + 2) j = S (5 + j) ∧ σ (b + 3) j = S (11 + j) ∧ σ (b + 4) j = S (17 + j)) : rlK1 b i p t σ τ := by
  refine ⟨⟨by rw [e0, e96], Or.inr e96⟩, fun _ => ⟨fun j hj => ?_, by rw [e1, e97 23 (by omega)], fun i hi => by rw [r1 i hi, e97 i (by omega)], fun j hj => ?_⟩⟩
  · simp only
    rw [e97 _ (by omega), e97 _ (by omega), e97 _ (by omega), e81]
    exact st j hj
  · rw [e97 _ (by omega), e97 _ (by omega), e97 _ (by omega)]
    exact r2 j hj
theorem rlK1_old {b i p t : Nat} {σ τ σ' τ' : Nat → Nat → Int32} (t6 : t ≤ 6) (p5 : p ≤ 5) (R : rlK1 b i p t σ τ) (e96 : σ' 96 i = σ 96 i) (e0 : τ' b 0 = τ b 0) (e1 : τ' b 1 = τ b 1) (e81 : σ' 81 = σ 81) (e97 : ∀ k, k < 24 → σ' 97 (24 * i + k) = σ 97 (24 * i + k)) (r : σ' (b + 1) = σ (b + 1) ∧ σ' (b + 2) = σ (b + 2) ∧ σ' (b + 3) = σ (b + 3) ∧ σ' (b + 4) = σ (b + 4)) : rlK1 b i p t σ' τ' := by
  obtain ⟨⟨x1, x2⟩, x3⟩ := R
  refine ⟨⟨by rw [e0, e96, x1], by rw [e96]; exact x2⟩, fun hn => ?_⟩
  rw [e96] at hn
  obtain ⟨y1, y2, y3, y4⟩ := x3 hn
  refine ⟨fun j hj => ?_, by rw [e1, e97 23 (by omega), y2], fun i hi => by rw [r.1, e97 i (by omega), y3 i hi], fun j hj => ?_⟩
  · simp only
    rw [e97 _ (by omega), e97 _ (by omega), e97 _ (by omega), e81]
    exact y1 j hj
  · rw [e97 _ (by omega), e97 _ (by omega), e97 _ (by omega), r.2.1, r.2.2.1, r.2.2.2]
    exact y4 j hj
section KP2
variable {h : xH}
theorem Hp_kis {σ τ : Nat → Nat → Int32} {v s b : Nat} {q : Nat → Nat} {e1 e2 : Int64} (H : Hp h σ τ v s q e1 e2) (hb : b = 45 ∨ b = 50) : (fl h b 3 0).isSome = true := by
  rw [(Hp_kpt H hb).1.1]
  rfl
theorem keep_run (R : Rel h) {b i : Nat} (hbi : (b = 45 ∧ i = 0) ∨ (b = 50 ∧ i = 1)) : Op h M_Sp_keep M_Md_keep [.int (nI i)] := by
  obtain ⟨σ, τ, v, s, q, e, p, t, n, len, A, X, z, H, rv, rt, ra, rk, rs, ry⟩ := R
  have rv0 := rv
  obtain ⟨⟨⟨vp, vt, vn⟩, p5, t6, n8⟩, ⟨vl, vc, vd, up, uu, un⟩, ⟨bl, bc⟩, ag1, ag2, ag3, bo, bn, ks, st⟩ := rv
  have m := H.2.2.2
  have hv := m.1.1
  have fh := m.1.2.1
  have hb : b = 45 ∨ b = 50 := by omega
  obtain ⟨g44, gq, g0, g1⟩ := m.2.2.1.2
  have gi : g44 i = some b := by rcases hbi with ⟨rfl, rfl⟩ | ⟨rfl, rfl⟩ <;> assumption
  have gq3 := qr_3 gq
  have i2 := xin_nI (show i < 2 by omega) (by decide)
  have c2 := nI_clamp (show i < 2 ^ 31 by omega)
  have y1 : ¬ nI i < 0 := nI_pos (by omega)
  have y2 : nI i < 2 := nI_lt (b := 2) (by omega) (by decide)
  obtain ⟨h1, d1, H1⟩ := c_take H hb
  have cc := call_v (lv := 1) d1 (Hp_kis H hb) (by decide) (Nat.le_of_ble_eq_true rfl)
  obtain ⟨h2, d2, H2⟩ := cM_keep H1 (i := i) (by omega)
  have f6 := hR H 1 8 6 44 rfl rfl
  have fh' := H1.2.2.2.1.2.1
  have fd := (Hp_vil H1 hv).1.2.2.1
  have ed : ut (ut τ b 0 1) b 1 (τ v 2) v 2 = σ 84 23 := by
    rw [← vd]
    simp only [ut]
    rw [if_neg (by omega), if_neg (by omega)]
  rw [ed] at fd
  have e84 : us (us (us (us σ (b + 1) (va_cpy (σ (v + 1)) (σ (b + 1)) 0 0 5)) (b + 2) (va_cpy (σ (v + 5)) (σ (b + 2)) 0 0 6)) (b + 3) (va_cpy (σ (v + 6)) (σ (b + 3)) 0 0 6)) (b + 4) (va_cpy (σ (v + 7)) (σ (b + 4)) 0 0 6) 84 = σ 84 := by simp only [us]; repeat rw [if_neg (by omega)]
  have e96 : us (us (us (us σ (b + 1) (va_cpy (σ (v + 1)) (σ (b + 1)) 0 0 5)) (b + 2) (va_cpy (σ (v + 5)) (σ (b + 2)) 0 0 6)) (b + 3) (va_cpy (σ (v + 6)) (σ (b + 3)) 0 0 6)) (b + 4) (va_cpy (σ (v + 7)) (σ (b + 4)) 0 0 6) 96 = σ 96 := by simp only [us]; repeat rw [if_neg (by omega)]
  have e97 : us (us (us (us σ (b + 1) (va_cpy (σ (v + 1)) (σ (b + 1)) 0 0 5)) (b + 2) (va_cpy (σ (v + 5)) (σ (b + 2)) 0 0 6)) (b + 3) (va_cpy (σ (v + 6)) (σ (b + 3)) 0 0 6)) (b + 4) (va_cpy (σ (v + 7)) (σ (b + 4)) 0 0 6) 97 = σ 97 := by simp only [us]; repeat rw [if_neg (by omega)]
  rw [e84] at d2
  rw [e84, e96, e97] at H2
  refine ⟨.int (σ 84 23), h1, h2, ?_, d2, ⟨_, _, v, s, q, e, p, t, n, len, A, X, z, H2, rlV_cg rv0 (fun a ha => by first | rfl | (simp only [us]; repeat rw [if_neg (by omega)])) (fun k hk => by first | rfl | (simp only [ut]; repeat rw [if_neg (by omega)])) (fun k hk => by first | rfl | (simp only [ut]; repeat rw [if_neg (by omega)])), rlT_cg rt ⟨?_, ?_⟩ ⟨?_, ?_⟩, rlA_cg ra ⟨?_, ?_, ?_⟩ ⟨?_, ?_, ?_⟩ (fun o ho => by first | rfl | (funext k; simp only [ut]; repeat rw [if_neg (by omega)])), ?_, rlS_cg rs (fun a ha => by first | rfl | (simp only [us]; repeat rw [if_neg (by omega)])) ⟨?_, ?_⟩, rlY_cg ry ?_⟩, Hp_1 H, Hp_75 H1⟩
  · simp only [k_Sp_keep, e_Sp_keep_0, e_Sp_keep_1, e_Sp_keep_4, e_Sp_keep_5, e_Sp_keep_6, e_Sp_keep_9, e_Sp_keep_10, e_Sp_keep_11, e_Sp_keep_12, e_Sp_keep_15, e_Sp_keep_16, e_Sp_keep_17, e_Sp_keep_18, e_Sp_keep_21, e_Sp_keep_24, e_Sp_keep_25, e_Sp_keep_28, e_Sp_keep_31, m_aa, m_get, m_put, m_ia, m_is, m_la, m_ls, fl_sf, fl_sa, fl_sl, fl_sq, ar_sf, ar_sa, ar_sl, ar_sq, lr_sf, lr_sa, lr_sl, lr_sq, qr_sf, qr_sa, qr_sl, qr_sq, sf_1, sf_2, sa_1, sa_2, sl_1, sl_2, Option.isSome_some, Option.map_some, Option.map_none, Option.toList_some, Option.toList_none, List.nil_append, List.cons_append, List.singleton_append, if_true, if_false, ↓reduceIte, and_self, and_true, true_and, and_false, false_and, not_true, not_false_iff, reduceCtorEq, Nat.reduceEqDiff, Nat.reduceAdd, Nat.reduceSub, Nat.reduceMul, Nat.reduceLT, Nat.reduceLeDiff, Nat.reduceBEq, eq_self, ne_eq, Nat.add_eq_zero_iff, Nat.add_left_cancel_iff, Nat.add_right_cancel_iff, Nat.left_eq_add, Nat.add_eq_left, Bool.true_or, Bool.or_true, Bool.or_self, or_self, or_true, true_or, or_false, false_or, decide_true, decide_false, i_10, i_01, y1, y2, f6, gq, gq3, i2, c2, gi, fh, cc, fh', fd]
  case _ => simp only [us]; repeat rw [if_neg (by omega)]
  case _ => simp only [us]; repeat rw [if_neg (by omega)]
  case _ => simp only [ut]; repeat rw [if_neg (by omega)]
  case _ => simp only [ut]; repeat rw [if_neg (by omega)]
  case _ => simp only [us]; repeat rw [if_neg (by omega)]
  case _ => simp only [us]; repeat rw [if_neg (by omega)]
  case _ => simp only [us]; repeat rw [if_neg (by omega)]
  case _ => simp only [ut]; repeat rw [if_neg (by omega)]
  case _ => simp only [ut]; repeat rw [if_neg (by omega)]
  case _ => simp only [ut]; repeat rw [if_neg (by omega)]
  · rcases hbi with ⟨rfl, rfl⟩ | ⟨rfl, rfl⟩
    · refine ⟨rlK1_new (ow := σ 81) (S := σ 84) t6 p5 ?_ ?_ ?_ ?_ ?_ st ?_ ?_, rlK1_old t6 p5 rk.2 ?_ ?_ ?_ ?_ ?_ ?_⟩
      · simp only [us, ut, Nat.reduceEqDiff, Nat.reduceAdd, if_false, if_true, up_eq]
      · simp only [us, ut, Nat.reduceEqDiff, Nat.reduceAdd, if_false, if_true, and_false, and_true, and_self]; try rfl
      · rw [← vd]; simp only [us, ut, Nat.reduceEqDiff, Nat.reduceAdd, if_false, if_true, and_false, and_true, and_self]
      · simp only [us, ut, Nat.reduceEqDiff, Nat.reduceAdd, if_false, if_true]
      · intro k hk
        simp only [us, ut, Nat.reduceEqDiff, Nat.reduceAdd, if_false, if_true]
        exact cpI_in hk
      · intro i hi
        simp only [us, ut, Nat.reduceEqDiff, Nat.reduceAdd, if_false, if_true]
        rw [cpy_in (by omega)]
        exact (ag1 i hi).1
      · intro j hj
        simp only [us, ut, Nat.reduceEqDiff, Nat.reduceAdd, if_false, if_true]
        rw [cpy_in (by omega), cpy_in (by omega), cpy_in (by omega)]
        exact (ag2 j hj).2.2
      · simp only [us, ut, Nat.reduceEqDiff, Nat.reduceAdd, if_false, if_true]
        exact up_lt (by omega)
      · simp only [us, ut, Nat.reduceEqDiff, Nat.reduceAdd, if_false, if_true, and_false, false_and]
      · simp only [us, ut, Nat.reduceEqDiff, Nat.reduceAdd, if_false, if_true, and_false, false_and]
      · simp only [us, ut, Nat.reduceEqDiff, Nat.reduceAdd, if_false, if_true]
      · intro k hk
        simp only [us, ut, Nat.reduceEqDiff, Nat.reduceAdd, if_false, if_true]
        exact cpI_out (by omega)
      · simp only [us, ut, Nat.reduceEqDiff, Nat.reduceAdd, if_false, if_true, and_self]
    · refine ⟨rlK1_old t6 p5 rk.1 ?_ ?_ ?_ ?_ ?_ ?_, rlK1_new (ow := σ 81) (S := σ 84) t6 p5 ?_ ?_ ?_ ?_ ?_ st ?_ ?_⟩
      · simp only [us, ut, Nat.reduceEqDiff, Nat.reduceAdd, if_false, if_true]
        exact up_lt (by omega)
      · simp only [us, ut, Nat.reduceEqDiff, Nat.reduceAdd, if_false, if_true, and_false, false_and]
      · simp only [us, ut, Nat.reduceEqDiff, Nat.reduceAdd, if_false, if_true, and_false, false_and]
      · simp only [us, ut, Nat.reduceEqDiff, Nat.reduceAdd, if_false, if_true]
      · intro k hk
        simp only [us, ut, Nat.reduceEqDiff, Nat.reduceAdd, if_false, if_true]
        exact cpI_out (by omega)
      · simp only [us, ut, Nat.reduceEqDiff, Nat.reduceAdd, if_false, if_true, and_self]
      · simp only [us, ut, Nat.reduceEqDiff, Nat.reduceAdd, if_false, if_true, up_eq]
      · simp only [us, ut, Nat.reduceEqDiff, Nat.reduceAdd, if_false, if_true, and_false, and_true, and_self]; try rfl
      · rw [← vd]; simp only [us, ut, Nat.reduceEqDiff, Nat.reduceAdd, if_false, if_true, and_false, and_true, and_self]
      · simp only [us, ut, Nat.reduceEqDiff, Nat.reduceAdd, if_false, if_true]
      · intro k hk
        simp only [us, ut, Nat.reduceEqDiff, Nat.reduceAdd, if_false, if_true]
        exact cpI_in hk
      · intro i hi
        simp only [us, ut, Nat.reduceEqDiff, Nat.reduceAdd, if_false, if_true]
        rw [cpy_in (by omega)]
        exact (ag1 i hi).1
      · intro j hj
        simp only [us, ut, Nat.reduceEqDiff, Nat.reduceAdd, if_false, if_true]
        rw [cpy_in (by omega), cpy_in (by omega), cpy_in (by omega)]
        exact (ag2 j hj).2.2
  all_goals first | (simp only [ut]; repeat rw [if_neg (by omega)]) | (simp only [us]; repeat rw [if_neg (by omega)])
theorem op_keep (R : Rel h) (x : Int32) : Op h M_Sp_keep M_Md_keep [.int x] := by
  by_cases z1 : 0 ≤ x ∧ x ≤ 1
  · obtain ⟨k, hk, rfl⟩ := nI_of2 (M := 1) (n := 1) rfl (Int32.not_lt.mpr z1.1) z1.2
    exact keep_run R (b := if k = 0 then 45 else 50) (by split <;> omega)
  · have R0 := R
    obtain ⟨σ, τ, v, s, q, e, p, t, n, len, A, X, z, H, rv, rt, ra, rk, rs, ry⟩ := R
    have d1 := fun f => call_l (lv := 1) (c_inI (h := h) x (y := 0) (z := 1) (yl := 0) (zl := 1) rfl rfl) (Nat.le_of_ble_eq_true rfl) f
    simp only [if_neg z1] at d1
    refine ⟨.int (-1), h, h, ?_, by simp only [k_Md_keep, e_Md_keep_0, e_Md_keep_1, e_Md_keep_2, e_Md_keep_3, e_Md_keep_4, e_Md_keep_7, e_Md_keep_10, e_Md_keep_11, m_get, m_put, m_ia, m_is, m_la, m_ls, fl_sf, fl_sa, fl_sl, fl_sq, ar_sf, ar_sa, ar_sl, ar_sq, lr_sf, lr_sa, lr_sl, lr_sq, qr_sf, qr_sa, qr_sl, qr_sq, sf_1, sf_2, sa_1, sa_2, sl_1, sl_2, Option.isSome_some, Option.map_some, Option.map_none, Option.toList_some, Option.toList_none, List.nil_append, List.cons_append, List.singleton_append, if_true, if_false, ↓reduceIte, and_self, and_true, true_and, and_false, false_and, not_true, not_false_iff, reduceCtorEq, Nat.reduceEqDiff, Nat.reduceAdd, Nat.reduceSub, Nat.reduceMul, Nat.reduceLT, Nat.reduceLeDiff, Nat.reduceBEq, eq_self, ne_eq, Nat.add_eq_zero_iff, Nat.add_left_cancel_iff, Nat.add_right_cancel_iff, Nat.left_eq_add, Nat.add_eq_left, Bool.true_or, Bool.or_true, Bool.or_self, or_self, or_true, true_or, or_false, false_or, decide_true, decide_false, i_10, i_01, d1], R0, Hp_1 H, Hp_75 H⟩
    by_cases y1 : x < 0
    · simp only [k_Sp_keep, e_Sp_keep_0, e_Sp_keep_1, e_Sp_keep_4, e_Sp_keep_5, e_Sp_keep_6, e_Sp_keep_9, e_Sp_keep_10, e_Sp_keep_11, e_Sp_keep_12, e_Sp_keep_15, e_Sp_keep_16, e_Sp_keep_17, e_Sp_keep_18, e_Sp_keep_21, e_Sp_keep_24, e_Sp_keep_25, e_Sp_keep_28, e_Sp_keep_31, m_get, m_put, m_ia, m_is, m_la, m_ls, fl_sf, fl_sa, fl_sl, fl_sq, ar_sf, ar_sa, ar_sl, ar_sq, lr_sf, lr_sa, lr_sl, lr_sq, qr_sf, qr_sa, qr_sl, qr_sq, sf_1, sf_2, sa_1, sa_2, sl_1, sl_2, Option.isSome_some, Option.map_some, Option.map_none, Option.toList_some, Option.toList_none, List.nil_append, List.cons_append, List.singleton_append, if_true, if_false, ↓reduceIte, and_self, and_true, true_and, and_false, false_and, not_true, not_false_iff, reduceCtorEq, Nat.reduceEqDiff, Nat.reduceAdd, Nat.reduceSub, Nat.reduceMul, Nat.reduceLT, Nat.reduceLeDiff, Nat.reduceBEq, eq_self, ne_eq, Nat.add_eq_zero_iff, Nat.add_left_cancel_iff, Nat.add_right_cancel_iff, Nat.left_eq_add, Nat.add_eq_left, Bool.true_or, Bool.or_true, Bool.or_self, or_self, or_true, true_or, or_false, false_or, decide_true, decide_false, i_10, i_01, y1]
    · have y2 : ¬ x < 2 := fun w => z1 ⟨Int32.not_lt.mp y1, by
        have a1 := Int32.lt_iff_toInt_lt.mp w
        have a2 : (2 : Int32).toInt = 2 := rfl
        have a3 : (1 : Int32).toInt = 1 := rfl
        rw [Int32.le_iff_toInt_le]
        omega⟩
      simp only [k_Sp_keep, e_Sp_keep_0, e_Sp_keep_1, e_Sp_keep_4, e_Sp_keep_5, e_Sp_keep_6, e_Sp_keep_9, e_Sp_keep_10, e_Sp_keep_11, e_Sp_keep_12, e_Sp_keep_15, e_Sp_keep_16, e_Sp_keep_17, e_Sp_keep_18, e_Sp_keep_21, e_Sp_keep_24, e_Sp_keep_25, e_Sp_keep_28, e_Sp_keep_31, m_get, m_put, m_ia, m_is, m_la, m_ls, fl_sf, fl_sa, fl_sl, fl_sq, ar_sf, ar_sa, ar_sl, ar_sq, lr_sf, lr_sa, lr_sl, lr_sq, qr_sf, qr_sa, qr_sl, qr_sq, sf_1, sf_2, sa_1, sa_2, sl_1, sl_2, Option.isSome_some, Option.map_some, Option.map_none, Option.toList_some, Option.toList_none, List.nil_append, List.cons_append, List.singleton_append, if_true, if_false, ↓reduceIte, and_self, and_true, true_and, and_false, false_and, not_true, not_false_iff, reduceCtorEq, Nat.reduceEqDiff, Nat.reduceAdd, Nat.reduceSub, Nat.reduceMul, Nat.reduceLT, Nat.reduceLeDiff, Nat.reduceBEq, eq_self, ne_eq, Nat.add_eq_zero_iff, Nat.add_left_cancel_iff, Nat.add_right_cancel_iff, Nat.left_eq_add, Nat.add_eq_left, Bool.true_or, Bool.or_true, Bool.or_self, or_self, or_true, true_or, or_false, false_or, decide_true, decide_false, i_10, i_01, y1, y2]
end KP2
