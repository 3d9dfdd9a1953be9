def srl (f : Nat → Int32) : Nat → Int32
  | 0 => 0
  | i + 1 => if f i = 0 then srl f i ||| ((1 : Int32) <<< (nI i &&& 31)) else srl f i
section SI5
variable {h : xH} {σ τ : Nat → Nat → Int32} {v s : Nat} {q : Nat → Nat} {e1 e2 : Int64} {p t n z : Nat}
theorem c_rows2 (H : Hp h σ τ v s q e1 e2) (p5 : p ≤ 5) (hp : τ v 3 = nI p) (z6 : z ≤ 6) (hz : τ 66 0 = nI z) (ag : ∀ i, i < p → σ (v + 2) i = σ 80 i) (es : (∀ i, i < z → σ 67 i = σ 91 i ∧ σ 68 i = σ 92 i ∧ σ 69 i = σ 93 i ∧ (σ 93 i = 0 ∨ σ 93 i = 1) ∧ ∃ w, w < 5 ∧ σ 92 i = nI w)) {j w m : Nat} (hj : j < 6) (hw : w < p) (ew : σ (v + 3) j = nI w) (m1 : 1 ≤ m) (m8 : m ≤ 8) {br but : Int32} (hbr : ∀ pn, pn < p → bt br pn = decide (nI pn = but)) : ∃ h' σ' s', xC M_Sight_rowsWithout [.ref 66, .int br, .ref v, .int (nI j), .int (nI m)] h = some (some (.int (sm ((Wv (fun o pn => bt (σ 80 o) pn) (fun pn => bt (σ 80 w) pn) (fun a pn => decide (¬ nI pn = but) && decide (¬ fiv (σ 91) (σ 92) (σ 93) p (nI a) (nI pn) z = 0)) p) (m - 1)) p)), h') ∧ Hp h' σ' τ v s' q e1 e2 ∧ (∀ b, b ≠ 70 → b ≠ 71 → σ' b = σ b) := by
  obtain ⟨h', σ', s', c, H', hb⟩ := c_rows H p5 hp z6 hz hj (show w < 5 by omega) ew m1 m8 br rfl
  refine ⟨h', σ', s', ?_, H', hb⟩
  rw [c, sm_cg p (Wv_cg (fun o pn ho hpn => by rw [ag o ho]) (fun pn hpn => by rw [ag w hw]) (m - 1) (fun b pn hb hpn => ?_))]
  rw [b_and, b_and, b_mask p p5 pn (by omega), b_xor, b_m1 pn (by omega), hbr pn hpn, ftg_fiv p5 hpn z es, decide_eq_true hpn]
  by_cases w1 : nI pn = but
  · simp [w1]
  · simp [w1]
theorem is66 (H : Hp h σ τ v s q e1 e2) : (fl h 66 6 0).isSome = true := by rw [hI H 66 6 0 rfl rfl]; rfl
theorem op_hands (R : Rel h) (x y : Int32) : Op h M_Sp_hands M_Md_hands [.int x, .int y] := by
  have R0 := R
  obtain ⟨σ, τ, v, s, q, e, p, t, n, len, A, X, z, H, rv, rt, ra, rk, rs, ry⟩ := R
  have rv0 := rv
  obtain ⟨⟨⟨vp, vt, vn⟩, p5, t6, n8⟩, ⟨vl, vc, vd, up, uu, un⟩, ⟨bl, bc⟩, ag1, ag2, ag3, bo, bn, ks, st⟩ := rv
  have hv := H.2.2.2.1.1
  have fh := H.2.2.2.1.2.1
  have f9 := hR H 1 8 9 66 rfl rfl
  have V := Hp_vil H hv
  have c1 := call_v (lv := 3) (c_hasThing V x) (Vil_is V) (by decide) (Nat.le_of_ble_eq_true rfl)
  have d1 := call_v (lv := 4) (cM_isThing H vt t6 x) (Hp_75 H) (by decide) (Nat.le_of_ble_eq_true rfl)
  rw [uu] at c1
  by_cases zz : 0 ≤ x ∧ x < nI t
  case neg =>
    simp only [if_neg zz] at c1 d1
    exact ⟨.int (-1), h, h, by simp only [k_Sp_hands, e_Sp_hands_0, e_Sp_hands_1, e_Sp_hands_4, e_Sp_hands_5, e_Sp_hands_8, e_Sp_hands_11, e_Sp_hands_12, e_Sp_hands_13, e_Sp_hands_14, e_Sp_hands_15, e_Sp_hands_18, e_Sp_hands_19, e_Sp_hands_21, e_Sp_hands_24, e_Sp_hands_26, e_Sp_hands_27, e_Sp_hands_28, e_Sp_hands_31, e_Sp_hands_32, e_Sp_hands_33, e_Sp_hands_36, e_Sp_hands_37, e_Sp_hands_38, e_Sp_hands_41, m_get, m_put, m_ia, m_is, m_la, m_ls, fl_sf, fl_sa, fl_sl, fl_sq, ar_sf, ar_sa, ar_sl, ar_sq, lr_sf, lr_sa, lr_sl, lr_sq, qr_sf, qr_sa, qr_sl, qr_sq, sf_1, sf_2, sa_1, sa_2, sl_1, sl_2, Option.isSome_some, Option.map_some, Option.map_none, Option.toList_some, Option.toList_none, List.nil_append, List.cons_append, List.singleton_append, if_true, if_false, ↓reduceIte, and_self, and_true, true_and, and_false, false_and, not_true, not_false_iff, reduceCtorEq, Nat.reduceEqDiff, Nat.reduceAdd, Nat.reduceSub, Nat.reduceMul, Nat.reduceLT, Nat.reduceLeDiff, Nat.reduceBEq, eq_self, ne_eq, Nat.add_eq_zero_iff, Nat.add_left_cancel_iff, Nat.add_right_cancel_iff, Nat.left_eq_add, Nat.add_eq_left, Bool.true_or, Bool.or_true, Bool.or_self, or_self, or_true, true_or, or_false, false_or, decide_true, decide_false, i_10, i_01, fh, c1], by simp only [k_Md_hands, e_Md_hands_0, e_Md_hands_1, e_Md_hands_2, e_Md_hands_5, e_Md_hands_8, e_Md_hands_9, e_Md_hands_10, e_Md_hands_11, e_Md_hands_12, e_Md_hands_13, e_Md_hands_16, e_Md_hands_19, e_Md_hands_22, e_Md_hands_23, e_Md_hands_24, e_Md_hands_25, e_Md_hands_27, e_Md_hands_30, e_Md_hands_33, e_Md_hands_35, m_get, m_put, m_ia, m_is, m_la, m_ls, fl_sf, fl_sa, fl_sl, fl_sq, ar_sf, ar_sa, ar_sl, ar_sq, lr_sf, lr_sa, lr_sl, lr_sq, qr_sf, qr_sa, qr_sl, qr_sq, sf_1, sf_2, sa_1, sa_2, sl_1, sl_2, Option.isSome_some, Option.map_some, Option.map_none, Option.toList_some, Option.toList_none, List.nil_append, List.cons_append, List.singleton_append, if_true, if_false, ↓reduceIte, and_self, and_true, true_and, and_false, false_and, not_true, not_false_iff, reduceCtorEq, Nat.reduceEqDiff, Nat.reduceAdd, Nat.reduceSub, Nat.reduceMul, Nat.reduceLT, Nat.reduceLeDiff, Nat.reduceBEq, eq_self, ne_eq, Nat.add_eq_zero_iff, Nat.add_left_cancel_iff, Nat.add_right_cancel_iff, Nat.left_eq_add, Nat.add_eq_left, Bool.true_or, Bool.or_true, Bool.or_self, or_self, or_true, true_or, or_false, false_or, decide_true, decide_false, i_10, i_01, d1], R0, Hp_1 H, Hp_75 H⟩
  simp only [if_pos zz] at c1 d1
  obtain ⟨j, hj, rfl⟩ := idx (by omega) zz
  have d2 := fun f => call_l (lv := 4) (c_inI (h := h) y (y := 1) (z := 8) (yl := 1) (zl := 8) rfl rfl) (Nat.le_of_ble_eq_true rfl) f
  by_cases zy : 1 ≤ y ∧ y ≤ 8
  case neg =>
    simp only [if_neg zy] at d2
    refine ⟨.int (-2), h, h, ?_, by simp only [k_Md_hands, e_Md_hands_0, e_Md_hands_1, e_Md_hands_2, e_Md_hands_5, e_Md_hands_8, e_Md_hands_9, e_Md_hands_10, e_Md_hands_11, e_Md_hands_12, e_Md_hands_13, e_Md_hands_16, e_Md_hands_19, e_Md_hands_22, e_Md_hands_23, e_Md_hands_24, e_Md_hands_25, e_Md_hands_27, e_Md_hands_30, e_Md_hands_33, e_Md_hands_35, m_get, m_put, m_ia, m_is, m_la, m_ls, fl_sf, fl_sa, fl_sl, fl_sq, ar_sf, ar_sa, ar_sl, ar_sq, lr_sf, lr_sa, lr_sl, lr_sq, qr_sf, qr_sa, qr_sl, qr_sq, sf_1, sf_2, sa_1, sa_2, sl_1, sl_2, Option.isSome_some, Option.map_some, Option.map_none, Option.toList_some, Option.toList_none, List.nil_append, List.cons_append, List.singleton_append, if_true, if_false, ↓reduceIte, and_self, and_true, true_and, and_false, false_and, not_true, not_false_iff, reduceCtorEq, Nat.reduceEqDiff, Nat.reduceAdd, Nat.reduceSub, Nat.reduceMul, Nat.reduceLT, Nat.reduceLeDiff, Nat.reduceBEq, eq_self, ne_eq, Nat.add_eq_zero_iff, Nat.add_left_cancel_iff, Nat.add_right_cancel_iff, Nat.left_eq_add, Nat.add_eq_left, Bool.true_or, Bool.or_true, Bool.or_self, or_self, or_true, true_or, or_false, false_or, decide_true, decide_false, i_10, i_01, d1, d2], R0, Hp_1 H, Hp_75 H⟩
    by_cases k1 : y < 1
    · simp only [k_Sp_hands, e_Sp_hands_0, e_Sp_hands_1, e_Sp_hands_4, e_Sp_hands_5, e_Sp_hands_8, e_Sp_hands_11, e_Sp_hands_12, e_Sp_hands_13, e_Sp_hands_14, e_Sp_hands_15, e_Sp_hands_18, e_Sp_hands_19, e_Sp_hands_21, e_Sp_hands_24, e_Sp_hands_26, e_Sp_hands_27, e_Sp_hands_28, e_Sp_hands_31, e_Sp_hands_32, e_Sp_hands_33, e_Sp_hands_36, e_Sp_hands_37, e_Sp_hands_38, e_Sp_hands_41, m_get, m_put, m_ia, m_is, m_la, m_ls, fl_sf, fl_sa, fl_sl, fl_sq, ar_sf, ar_sa, ar_sl, ar_sq, lr_sf, lr_sa, lr_sl, lr_sq, qr_sf, qr_sa, qr_sl, qr_sq, sf_1, sf_2, sa_1, sa_2, sl_1, sl_2, Option.isSome_some, Option.map_some, Option.map_none, Option.toList_some, Option.toList_none, List.nil_append, List.cons_append, List.singleton_append, if_true, if_false, ↓reduceIte, and_self, and_true, true_and, and_false, false_and, not_true, not_false_iff, reduceCtorEq, Nat.reduceEqDiff, Nat.reduceAdd, Nat.reduceSub, Nat.reduceMul, Nat.reduceLT, Nat.reduceLeDiff, Nat.reduceBEq, eq_self, ne_eq, Nat.add_eq_zero_iff, Nat.add_left_cancel_iff, Nat.add_right_cancel_iff, Nat.left_eq_add, Nat.add_eq_left, Bool.true_or, Bool.or_true, Bool.or_self, or_self, or_true, true_or, or_false, false_or, decide_true, decide_false, i_10, i_01, fh, c1, k1]
    · have k2 : ¬ y ≤ 8 := fun w => zy ⟨Int32.not_lt.mp k1, w⟩
      simp only [k_Sp_hands, e_Sp_hands_0, e_Sp_hands_1, e_Sp_hands_4, e_Sp_hands_5, e_Sp_hands_8, e_Sp_hands_11, e_Sp_hands_12, e_Sp_hands_13, e_Sp_hands_14, e_Sp_hands_15, e_Sp_hands_18, e_Sp_hands_19, e_Sp_hands_21, e_Sp_hands_24, e_Sp_hands_26, e_Sp_hands_27, e_Sp_hands_28, e_Sp_hands_31, e_Sp_hands_32, e_Sp_hands_33, e_Sp_hands_36, e_Sp_hands_37, e_Sp_hands_38, e_Sp_hands_41, m_get, m_put, m_ia, m_is, m_la, m_ls, fl_sf, fl_sa, fl_sl, fl_sq, ar_sf, ar_sa, ar_sl, ar_sq, lr_sf, lr_sa, lr_sl, lr_sq, qr_sf, qr_sa, qr_sl, qr_sq, sf_1, sf_2, sa_1, sa_2, sl_1, sl_2, Option.isSome_some, Option.map_some, Option.map_none, Option.toList_some, Option.toList_none, List.nil_append, List.cons_append, List.singleton_append, if_true, if_false, ↓reduceIte, and_self, and_true, true_and, and_false, false_and, not_true, not_false_iff, reduceCtorEq, Nat.reduceEqDiff, Nat.reduceAdd, Nat.reduceSub, Nat.reduceMul, Nat.reduceLT, Nat.reduceLeDiff, Nat.reduceBEq, eq_self, ne_eq, Nat.add_eq_zero_iff, Nat.add_left_cancel_iff, Nat.add_right_cancel_iff, Nat.left_eq_add, Nat.add_eq_left, Bool.true_or, Bool.or_true, Bool.or_self, or_self, or_true, true_or, or_false, false_or, decide_true, decide_false, i_10, i_01, fh, c1, k1, k2]
  have k1 : ¬ y < 1 := Int32.not_lt.mpr zy.1
  have k2 : y ≤ 8 := zy.2
  obtain ⟨m, m8, rfl⟩ := nI_of2 (M := 8) (n := 8) rfl (fun w => k1 (Int32.lt_trans w (by decide))) k2
  have m1 : 1 ≤ m := by
    rcases Nat.eq_zero_or_pos m with k0 | k0
    · subst k0
      exact absurd (by decide) k1
    · exact k0
  obtain ⟨⟨w, hw, ew⟩, -⟩ := bo j hj
  obtain ⟨h1, σ1, s1, cr, H1, hb1⟩ := c_rows2 H p5 up rs.1.1 rs.1.2.1 (fun i hi => (ag1 i hi).2) rs.2 (show j < 6 by omega) hw (by rw [(ag2 j hj).1]; exact ew) m1 m8 (br := 0) (but := -9) (fun pn hpn => by
    rw [b_0]
    exact ((by decide : ∀ pn, pn < 5 → false = decide (nI pn = -9)) pn (by omega)))
  obtain ⟨h2, σ2, dr, H2, hb2⟩ := cM_rowsBut H1 p5 vp rs.1.1 rs.1.2.2 (show j < 6 by omega) (show w < 5 by omega) (by rw [hb1 81 (by omega) (by omega)]; exact ew) m1 m8 (-9)
  rw [hb1 80 (by omega) (by omega), hb1 91 (by omega) (by omega), hb1 92 (by omega) (by omega), hb1 93 (by omega) (by omega)] at dr
  have cr' := call_v (lv := 3) cr (is66 H) (by decide) (Nat.le_of_ble_eq_true rfl)
  have dr' := call_v (lv := 4) dr (Hp_75 H1) (by decide) (Nat.le_of_ble_eq_true rfl)
  have d1 := call_v (lv := 4) (cM_isThing H1 vt t6 (nI j)) (Hp_75 H1) (by decide) (Nat.le_of_ble_eq_true rfl)
  have d2 := fun f => call_l (lv := 4) (c_inI (h := h1) (nI m) (y := 1) (z := 8) (yl := 1) (zl := 8) rfl rfl) (Nat.le_of_ble_eq_true rfl) f
  simp only [if_pos zz] at d1
  simp only [if_pos zy] at d2
  have hb : ∀ b, b ≠ 70 → b ≠ 71 → b ≠ 94 → b ≠ 95 → σ2 b = σ b := fun b n1 n2 n3 n4 => by rw [hb2 b n3 n4, hb1 b n1 n2]
  refine ⟨_, h1, h2, ?_, ?_, ⟨σ2, τ, v, s1, q, e, p, t, n, len, A, X, z, H2, rlV_cg rv0 (fun a ha => hb a (by omega) (by omega) (by omega) (by omega)) (fun _ _ => rfl) (fun _ _ => rfl), rlT_cg rt ⟨hb 2 (by omega) (by omega) (by omega) (by omega), hb 85 (by omega) (by omega) (by omega) (by omega)⟩ ⟨rfl, rfl⟩, rlA_cg ra ⟨hb 81 (by omega) (by omega) (by omega) (by omega), hb 84 (by omega) (by omega) (by omega) (by omega), hb 86 (by omega) (by omega) (by omega) (by omega)⟩ ⟨rfl, rfl, rfl⟩ (fun _ _ => rfl), rlK_cg rk (fun a ha => hb a (by omega) (by omega) (by omega) (by omega)) (fun _ _ _ => rfl), rlS_cg rs (fun a ha => hb a (by omega) (by omega) (by omega) (by omega)) ⟨rfl, rfl⟩, rlY_cg ry (hb 61 (by omega) (by omega) (by omega) (by omega))⟩, Hp_1 H, Hp_75 H1⟩
  · simp only [k_Sp_hands, e_Sp_hands_0, e_Sp_hands_1, e_Sp_hands_4, e_Sp_hands_5, e_Sp_hands_8, e_Sp_hands_11, e_Sp_hands_12, e_Sp_hands_13, e_Sp_hands_14, e_Sp_hands_15, e_Sp_hands_18, e_Sp_hands_19, e_Sp_hands_21, e_Sp_hands_24, e_Sp_hands_26, e_Sp_hands_27, e_Sp_hands_28, e_Sp_hands_31, e_Sp_hands_32, e_Sp_hands_33, e_Sp_hands_36, e_Sp_hands_37, e_Sp_hands_38, e_Sp_hands_41, m_get, m_put, m_ia, m_is, m_la, m_ls, fl_sf, fl_sa, fl_sl, fl_sq, ar_sf, ar_sa, ar_sl, ar_sq, lr_sf, lr_sa, lr_sl, lr_sq, qr_sf, qr_sa, qr_sl, qr_sq, sf_1, sf_2, sa_1, sa_2, sl_1, sl_2, Option.isSome_some, Option.map_some, Option.map_none, Option.toList_some, Option.toList_none, List.nil_append, List.cons_append, List.singleton_append, if_true, if_false, ↓reduceIte, and_self, and_true, true_and, and_false, false_and, not_true, not_false_iff, reduceCtorEq, Nat.reduceEqDiff, Nat.reduceAdd, Nat.reduceSub, Nat.reduceMul, Nat.reduceLT, Nat.reduceLeDiff, Nat.reduceBEq, eq_self, ne_eq, Nat.add_eq_zero_iff, Nat.add_left_cancel_iff, Nat.add_right_cancel_iff, Nat.left_eq_add, Nat.add_eq_left, Bool.true_or, Bool.or_true, Bool.or_self, or_self, or_true, true_or, or_false, false_or, decide_true, decide_false, i_10, i_01, fh, f9, c1, k1, k2, cr']
    rfl
  · simp only [k_Md_hands, e_Md_hands_0, e_Md_hands_1, e_Md_hands_2, e_Md_hands_5, e_Md_hands_8, e_Md_hands_9, e_Md_hands_10, e_Md_hands_11, e_Md_hands_12, e_Md_hands_13, e_Md_hands_16, e_Md_hands_19, e_Md_hands_22, e_Md_hands_23, e_Md_hands_24, e_Md_hands_25, e_Md_hands_27, e_Md_hands_30, e_Md_hands_33, e_Md_hands_35, m_get, m_put, m_ia, m_is, m_la, m_ls, fl_sf, fl_sa, fl_sl, fl_sq, ar_sf, ar_sa, ar_sl, ar_sq, lr_sf, lr_sa, lr_sl, lr_sq, qr_sf, qr_sa, qr_sl, qr_sq, sf_1, sf_2, sa_1, sa_2, sl_1, sl_2, Option.isSome_some, Option.map_some, Option.map_none, Option.toList_some, Option.toList_none, List.nil_append, List.cons_append, List.singleton_append, if_true, if_false, ↓reduceIte, and_self, and_true, true_and, and_false, false_and, not_true, not_false_iff, reduceCtorEq, Nat.reduceEqDiff, Nat.reduceAdd, Nat.reduceSub, Nat.reduceMul, Nat.reduceLT, Nat.reduceLeDiff, Nat.reduceBEq, eq_self, ne_eq, Nat.add_eq_zero_iff, Nat.add_left_cancel_iff, Nat.add_right_cancel_iff, Nat.left_eq_add, Nat.add_eq_left, Bool.true_or, Bool.or_true, Bool.or_self, or_self, or_true, true_or, or_false, false_or, decide_true, decide_false, i_10, i_01, d1, d2, dr']
/-- the class's loop over all -/
theorem c_sure (p5 : p ≤ 5) (hp : τ v 3 = nI p) (z6 : z ≤ 6) (hz : τ 66 0 = nI z) (ag : ∀ i, i < p → σ (v + 2) i = σ 80 i) (es : (∀ i, i < z → σ 67 i = σ 91 i ∧ σ 68 i = σ 92 i ∧ σ 69 i = σ 93 i ∧ (σ 93 i = 0 ∨ σ 93 i = 1) ∧ ∃ w, w < 5 ∧ σ 92 i = nI w)) {j w m : Nat} (hj : j < 6) (hw : w < p) (ew : σ (v + 3) j = nI w) (m1 : 1 ≤ m) (m8 : m ≤ 8) : ∀ i, i ≤ p → ∀ (g : xH) (σa : Nat → Nat → Int32) (sa' : Nat), Hp g σa τ v sa' q e1 e2 → (∀ b, b ≠ 70 → b ≠ 71 → σa b = σ b) → ∃ h' σ' s', xR none 3 M_Sp_surely 52 [some (.ref 1), some (.int (nI j)), some (.int (nI m)), some (.int (srl (fun i => sm ((Wv (fun o pn => bt (σ 80 o) pn) (fun pn => bt (σ 80 w) pn) (fun a pn => decide (¬ nI pn = nI i) && decide (¬ fiv (σ 91) (σ 92) (σ 93) p (nI a) (nI pn) z = 0)) p) (m - 1)) p) i)), some (.int (nI i))] [] g = some (some (.int (srl (fun i => sm ((Wv (fun o pn => bt (σ 80 o) pn) (fun pn => bt (σ 80 w) pn) (fun a pn => decide (¬ nI pn = nI i) && decide (¬ fiv (σ 91) (σ 92) (σ 93) p (nI a) (nI pn) z = 0)) p) (m - 1)) p) p)), h') ∧ Hp h' σ' τ v s' q e1 e2 ∧ (∀ b, b ≠ 70 → b ≠ 71 → σ' b = σ b) := by
  generalize hF : (fun i => sm ((Wv (fun o pn => bt (σ 80 o) pn) (fun pn => bt (σ 80 w) pn) (fun a pn => decide (¬ nI pn = nI i) && decide (¬ fiv (σ 91) (σ 92) (σ 93) p (nI a) (nI pn) z = 0)) p) (m - 1)) p) = F
  refine loop_dn (P := fun i => ∀ (g : xH) (σa : Nat → Nat → Int32) (sa' : Nat), Hp g σa τ v sa' q e1 e2 → (∀ b, b ≠ 70 → b ≠ 71 → σa b = σ b) → ∃ h' σ' s', xR none 3 M_Sp_surely 52 [some (.ref 1), some (.int (nI j)), some (.int (nI m)), some (.int (srl F i)), some (.int (nI i))] [] g = some (some (.int (srl F p)), h') ∧ Hp h' σ' τ v s' q e1 e2 ∧ (∀ b, b ≠ 70 → b ≠ 71 → σ' b = σ b)) ?_ ?_
  · intro g σa sa' H hb
    have hv := H.2.2.2.1.1
    have fh := H.2.2.2.1.2.1
    have v3 := (Hp_vil H hv).1.2.2.2.1
    rw [hp] at v3
    exact ⟨g, σa, sa', by simp only [e_Sp_surely_52, e_Sp_surely_54, e_Sp_surely_55, e_Sp_surely_58, e_Sp_surely_61, e_Sp_surely_97, e_Sp_surely_98, m_get, m_put, m_ia, m_is, m_la, m_ls, fl_sf, fl_sa, fl_sl, fl_sq, ar_sf, ar_sa, ar_sl, ar_sq, lr_sf, lr_sa, lr_sl, lr_sq, qr_sf, qr_sa, qr_sl, qr_sq, sf_1, sf_2, sa_1, sa_2, sl_1, sl_2, Option.isSome_some, Option.map_some, Option.map_none, Option.toList_some, Option.toList_none, List.nil_append, List.cons_append, List.singleton_append, if_true, if_false, ↓reduceIte, and_self, and_true, true_and, and_false, false_and, not_true, not_false_iff, reduceCtorEq, Nat.reduceEqDiff, Nat.reduceAdd, Nat.reduceSub, Nat.reduceMul, Nat.reduceLT, Nat.reduceLeDiff, Nat.reduceBEq, eq_self, ne_eq, Nat.add_eq_zero_iff, Nat.add_left_cancel_iff, Nat.add_right_cancel_iff, Nat.left_eq_add, Nat.add_eq_left, Bool.true_or, Bool.or_true, Bool.or_self, or_self, or_true, true_or, or_false, false_or, decide_true, decide_false, i_10, i_01, fh, v3, Int32.le_refl], H, hb⟩
  · intro i hi ih g σa sa' H hb
    have hv := H.2.2.2.1.1
    have fh := H.2.2.2.1.2.1
    have f9 := hR H 1 8 9 66 rfl rfl
    have v3 := (Hp_vil H hv).1.2.2.2.1
    rw [hp] at v3
    have q1 : ¬ nI p ≤ nI i := nI_ge hi (by omega)
    obtain ⟨h1, σ1, s1, cr, H1, hb1⟩ := c_rows2 H p5 hp z6 hz (fun i hi => by rw [hb (v + 2) (by omega) (by omega), hb 80 (by omega) (by omega)]; exact ag i hi) (by rw [hb 67 (by omega) (by omega), hb 68 (by omega) (by omega), hb 69 (by omega) (by omega), hb 91 (by omega) (by omega), hb 92 (by omega) (by omega), hb 93 (by omega) (by omega)]; exact es) hj hw (by rw [hb (v + 3) (by omega) (by omega)]; exact ew) m1 m8 (br := (1 : Int32) <<< (nI i &&& 31)) (but := nI i) (fun pn hpn => by
      rw [b_pw (by omega) (by omega)]
      have : (nI pn = nI i) ↔ pn = i := nI_eq (by omega) (by omega)
      simp [this])
    rw [hb 80 (by omega) (by omega), hb 91 (by omega) (by omega), hb 92 (by omega) (by omega), hb 93 (by omega) (by omega)] at cr
    have fi := congrFun hF i
    simp only at fi
    rw [fi] at cr
    have cr' := call_v (lv := 3) cr (is66 H) (by decide) (Nat.le_of_ble_eq_true rfl)
    obtain ⟨h', σ', s', d, H', hb'⟩ := ih h1 σ1 s1 H1 (fun b n1 n2 => by rw [hb1 b n1 n2, hb b n1 n2])
    refine ⟨h', σ', s', ?_, H', hb'⟩
    rw [← nI_1, srl] at d
    rw [e_Sp_surely_52]
    by_cases w1 : F i = 0
    · rw [if_pos w1] at d
      rw [w1] at cr'
      simp only [e_Sp_surely_54, e_Sp_surely_55, e_Sp_surely_58, e_Sp_surely_61, e_Sp_surely_64, e_Sp_surely_65, e_Sp_surely_68, e_Sp_surely_69, e_Sp_surely_71, e_Sp_surely_72, e_Sp_surely_73, e_Sp_surely_76, e_Sp_surely_77, e_Sp_surely_78, e_Sp_surely_81, e_Sp_surely_84, e_Sp_surely_85, e_Sp_surely_86, e_Sp_surely_88, e_Sp_surely_89, e_Sp_surely_90, e_Sp_surely_91, e_Sp_surely_94, m_get, m_put, m_ia, m_is, m_la, m_ls, fl_sf, fl_sa, fl_sl, fl_sq, ar_sf, ar_sa, ar_sl, ar_sq, lr_sf, lr_sa, lr_sl, lr_sq, qr_sf, qr_sa, qr_sl, qr_sq, sf_1, sf_2, sa_1, sa_2, sl_1, sl_2, Option.isSome_some, Option.map_some, Option.map_none, Option.toList_some, Option.toList_none, List.nil_append, List.cons_append, List.singleton_append, if_true, if_false, ↓reduceIte, and_self, and_true, true_and, and_false, false_and, not_true, not_false_iff, reduceCtorEq, Nat.reduceEqDiff, Nat.reduceAdd, Nat.reduceSub, Nat.reduceMul, Nat.reduceLT, Nat.reduceLeDiff, Nat.reduceBEq, eq_self, ne_eq, Nat.add_eq_zero_iff, Nat.add_left_cancel_iff, Nat.add_right_cancel_iff, Nat.left_eq_add, Nat.add_eq_left, Bool.true_or, Bool.or_true, Bool.or_self, or_self, or_true, true_or, or_false, false_or, decide_true, decide_false, i_10, i_01, fh, f9, v3, q1, cr']
      exact d
    · rw [if_neg w1] at d
      simp only [e_Sp_surely_54, e_Sp_surely_55, e_Sp_surely_58, e_Sp_surely_61, e_Sp_surely_64, e_Sp_surely_65, e_Sp_surely_68, e_Sp_surely_69, e_Sp_surely_71, e_Sp_surely_72, e_Sp_surely_73, e_Sp_surely_76, e_Sp_surely_77, e_Sp_surely_78, e_Sp_surely_81, e_Sp_surely_84, e_Sp_surely_85, e_Sp_surely_86, e_Sp_surely_88, e_Sp_surely_89, e_Sp_surely_90, e_Sp_surely_91, e_Sp_surely_94, m_get, m_put, m_ia, m_is, m_la, m_ls, fl_sf, fl_sa, fl_sl, fl_sq, ar_sf, ar_sa, ar_sl, ar_sq, lr_sf, lr_sa, lr_sl, lr_sq, qr_sf, qr_sa, qr_sl, qr_sq, sf_1, sf_2, sa_1, sa_2, sl_1, sl_2, Option.isSome_some, Option.map_some, Option.map_none, Option.toList_some, Option.toList_none, List.nil_append, List.cons_append, List.singleton_append, if_true, if_false, ↓reduceIte, and_self, and_true, true_and, and_false, false_and, not_true, not_false_iff, reduceCtorEq, Nat.reduceEqDiff, Nat.reduceAdd, Nat.reduceSub, Nat.reduceMul, Nat.reduceLT, Nat.reduceLeDiff, Nat.reduceBEq, eq_self, ne_eq, Nat.add_eq_zero_iff, Nat.add_left_cancel_iff, Nat.add_right_cancel_iff, Nat.left_eq_add, Nat.add_eq_left, Bool.true_or, Bool.or_true, Bool.or_self, or_self, or_true, true_or, or_false, false_or, decide_true, decide_false, i_10, i_01, fh, f9, v3, q1, cr', w1]
      exact d
theorem cM_sure (p5 : p ≤ 5) (hp : τ 75 13 = nI p) (z6 : z ≤ 6) (hz : τ 75 32 = nI z) {j w m : Nat} (hj : j < 6) (hw : w < p) (ew : σ 81 j = nI w) (m1 : 1 ≤ m) (m8 : m ≤ 8) : ∀ i, i ≤ p → ∀ (g : xH) (σa : Nat → Nat → Int32), Hp g σa τ v s q e1 e2 → (∀ b, b ≠ 94 → b ≠ 95 → σa b = σ b) → ∃ h' σ', xR none 4 M_Md_surely 44 [some (.ref 75), some (.int (nI j)), some (.int (nI m)), some (.int (srl (fun i => sm ((Wv (fun o pn => bt (σ 80 o) pn) (fun pn => bt (σ 80 w) pn) (fun a pn => decide (¬ nI pn = nI i) && decide (¬ fiv (σ 91) (σ 92) (σ 93) p (nI a) (nI pn) z = 0)) p) (m - 1)) p) i)), some (.int (nI i))] [] g = some (some (.int (srl (fun i => sm ((Wv (fun o pn => bt (σ 80 o) pn) (fun pn => bt (σ 80 w) pn) (fun a pn => decide (¬ nI pn = nI i) && decide (¬ fiv (σ 91) (σ 92) (σ 93) p (nI a) (nI pn) z = 0)) p) (m - 1)) p) p)), h') ∧ Hp h' σ' τ v s q e1 e2 ∧ (∀ b, b ≠ 94 → b ≠ 95 → σ' b = σ b) := by
  generalize hF : (fun i => sm ((Wv (fun o pn => bt (σ 80 o) pn) (fun pn => bt (σ 80 w) pn) (fun a pn => decide (¬ nI pn = nI i) && decide (¬ fiv (σ 91) (σ 92) (σ 93) p (nI a) (nI pn) z = 0)) p) (m - 1)) p) = F
  refine loop_dn (P := fun i => ∀ (g : xH) (σa : Nat → Nat → Int32), Hp g σa τ v s q e1 e2 → (∀ b, b ≠ 94 → b ≠ 95 → σa b = σ b) → ∃ h' σ', xR none 4 M_Md_surely 44 [some (.ref 75), some (.int (nI j)), some (.int (nI m)), some (.int (srl F i)), some (.int (nI i))] [] g = some (some (.int (srl F p)), h') ∧ Hp h' σ' τ v s q e1 e2 ∧ (∀ b, b ≠ 94 → b ≠ 95 → σ' b = σ b)) ?_ ?_
  · intro g σa H hb
    have f13 := hI H 75 9 13 rfl rfl
    rw [hp] at f13
    exact ⟨g, σa, by simp only [e_Md_surely_44, e_Md_surely_46, e_Md_surely_47, e_Md_surely_50, e_Md_surely_81, e_Md_surely_82, m_get, m_put, m_ia, m_is, m_la, m_ls, fl_sf, fl_sa, fl_sl, fl_sq, ar_sf, ar_sa, ar_sl, ar_sq, lr_sf, lr_sa, lr_sl, lr_sq, qr_sf, qr_sa, qr_sl, qr_sq, sf_1, sf_2, sa_1, sa_2, sl_1, sl_2, Option.isSome_some, Option.map_some, Option.map_none, Option.toList_some, Option.toList_none, List.nil_append, List.cons_append, List.singleton_append, if_true, if_false, ↓reduceIte, and_self, and_true, true_and, and_false, false_and, not_true, not_false_iff, reduceCtorEq, Nat.reduceEqDiff, Nat.reduceAdd, Nat.reduceSub, Nat.reduceMul, Nat.reduceLT, Nat.reduceLeDiff, Nat.reduceBEq, eq_self, ne_eq, Nat.add_eq_zero_iff, Nat.add_left_cancel_iff, Nat.add_right_cancel_iff, Nat.left_eq_add, Nat.add_eq_left, Bool.true_or, Bool.or_true, Bool.or_self, or_self, or_true, true_or, or_false, false_or, decide_true, decide_false, i_10, i_01, f13, Int32.le_refl], H, hb⟩
  · intro i hi ih g σa H hb
    have f13 := hI H 75 9 13 rfl rfl
    rw [hp] at f13
    have q1 : ¬ nI p ≤ nI i := nI_ge hi (by omega)
    obtain ⟨h1, σ1, cr, H1, hb1⟩ := cM_rowsBut H p5 hp z6 hz hj (show w < 5 by omega) (by rw [hb 81 (by omega) (by omega)]; exact ew) m1 m8 (nI i)
    rw [hb 80 (by omega) (by omega), hb 91 (by omega) (by omega), hb 92 (by omega) (by omega), hb 93 (by omega) (by omega)] at cr
    have fi := congrFun hF i
    simp only at fi
    rw [fi] at cr
    have cr' := call_v (lv := 4) cr (Hp_75 H) (by decide) (Nat.le_of_ble_eq_true rfl)
    obtain ⟨h', σ', d, H', hb'⟩ := ih h1 σ1 H1 (fun b n1 n2 => by rw [hb1 b n1 n2, hb b n1 n2])
    refine ⟨h', σ', ?_, H', hb'⟩
    rw [← nI_1, srl] at d
    rw [e_Md_surely_44]
    by_cases w1 : F i = 0
    · rw [if_pos w1] at d
      rw [w1] at cr'
      simp only [e_Md_surely_46, e_Md_surely_47, e_Md_surely_50, e_Md_surely_53, e_Md_surely_54, e_Md_surely_55, e_Md_surely_56, e_Md_surely_57, e_Md_surely_59, e_Md_surely_62, e_Md_surely_65, e_Md_surely_66, e_Md_surely_68, e_Md_surely_69, e_Md_surely_72, e_Md_surely_73, e_Md_surely_74, e_Md_surely_75, e_Md_surely_78, m_get, m_put, m_ia, m_is, m_la, m_ls, fl_sf, fl_sa, fl_sl, fl_sq, ar_sf, ar_sa, ar_sl, ar_sq, lr_sf, lr_sa, lr_sl, lr_sq, qr_sf, qr_sa, qr_sl, qr_sq, sf_1, sf_2, sa_1, sa_2, sl_1, sl_2, Option.isSome_some, Option.map_some, Option.map_none, Option.toList_some, Option.toList_none, List.nil_append, List.cons_append, List.singleton_append, if_true, if_false, ↓reduceIte, and_self, and_true, true_and, and_false, false_and, not_true, not_false_iff, reduceCtorEq, Nat.reduceEqDiff, Nat.reduceAdd, Nat.reduceSub, Nat.reduceMul, Nat.reduceLT, Nat.reduceLeDiff, Nat.reduceBEq, eq_self, ne_eq, Nat.add_eq_zero_iff, Nat.add_left_cancel_iff, Nat.add_right_cancel_iff, Nat.left_eq_add, Nat.add_eq_left, Bool.true_or, Bool.or_true, Bool.or_self, or_self, or_true, true_or, or_false, false_or, decide_true, decide_false, i_10, i_01, f13, q1, cr']
      exact d
    · rw [if_neg w1] at d
      simp only [e_Md_surely_46, e_Md_surely_47, e_Md_surely_50, e_Md_surely_53, e_Md_surely_54, e_Md_surely_55, e_Md_surely_56, e_Md_surely_57, e_Md_surely_59, e_Md_surely_62, e_Md_surely_65, e_Md_surely_66, e_Md_surely_68, e_Md_surely_69, e_Md_surely_72, e_Md_surely_73, e_Md_surely_74, e_Md_surely_75, e_Md_surely_78, m_get, m_put, m_ia, m_is, m_la, m_ls, fl_sf, fl_sa, fl_sl, fl_sq, ar_sf, ar_sa, ar_sl, ar_sq, lr_sf, lr_sa, lr_sl, lr_sq, qr_sf, qr_sa, qr_sl, qr_sq, sf_1, sf_2, sa_1, sa_2, sl_1, sl_2, Option.isSome_some, Option.map_some, Option.map_none, Option.toList_some, Option.toList_none, List.nil_append, List.cons_append, List.singleton_append, if_true, if_false, ↓reduceIte, and_self, and_true, true_and, and_false, false_and, not_true, not_false_iff, reduceCtorEq, Nat.reduceEqDiff, Nat.reduceAdd, Nat.reduceSub, Nat.reduceMul, Nat.reduceLT, Nat.reduceLeDiff, Nat.reduceBEq, eq_self, ne_eq, Nat.add_eq_zero_iff, Nat.add_left_cancel_iff, Nat.add_right_cancel_iff, Nat.left_eq_add, Nat.add_eq_left, Bool.true_or, Bool.or_true, Bool.or_self, or_self, or_true, true_or, or_false, false_or, decide_true, decide_false, i_10, i_01, f13, q1, cr', w1, Int32.or_zero]
      exact d
theorem op_surely (R : Rel h) (x y : Int32) : Op h M_Sp_surely M_Md_surely [.int x, .int y] := by
  have R0 := R
  obtain ⟨σ, τ, v, s, q, e, p, t, n, len, A, X, z, H, rv, rt, ra, rk, rs, ry⟩ := R
  have rv0 := rv
  obtain ⟨⟨⟨vp, vt, vn⟩, p5, t6, n8⟩, ⟨vl, vc, vd, up, uu, un⟩, ⟨bl, bc⟩, ag1, ag2, ag3, bo, bn, ks, st⟩ := rv
  have hv := H.2.2.2.1.1
  have fh := H.2.2.2.1.2.1
  have f9 := hR H 1 8 9 66 rfl rfl
  have V := Hp_vil H hv
  have c1 := call_v (lv := 3) (c_hasThing V x) (Vil_is V) (by decide) (Nat.le_of_ble_eq_true rfl)
  have d1 := call_v (lv := 4) (cM_isThing H vt t6 x) (Hp_75 H) (by decide) (Nat.le_of_ble_eq_true rfl)
  rw [uu] at c1
  by_cases zz : 0 ≤ x ∧ x < nI t
  case neg =>
    simp only [if_neg zz] at c1 d1
    exact ⟨.int (-1), h, h, by simp only [k_Sp_surely, e_Sp_surely_0, e_Sp_surely_1, e_Sp_surely_4, e_Sp_surely_5, e_Sp_surely_8, e_Sp_surely_11, e_Sp_surely_12, m_get, m_put, m_ia, m_is, m_la, m_ls, fl_sf, fl_sa, fl_sl, fl_sq, ar_sf, ar_sa, ar_sl, ar_sq, lr_sf, lr_sa, lr_sl, lr_sq, qr_sf, qr_sa, qr_sl, qr_sq, sf_1, sf_2, sa_1, sa_2, sl_1, sl_2, Option.isSome_some, Option.map_some, Option.map_none, Option.toList_some, Option.toList_none, List.nil_append, List.cons_append, List.singleton_append, if_true, if_false, ↓reduceIte, and_self, and_true, true_and, and_false, false_and, not_true, not_false_iff, reduceCtorEq, Nat.reduceEqDiff, Nat.reduceAdd, Nat.reduceSub, Nat.reduceMul, Nat.reduceLT, Nat.reduceLeDiff, Nat.reduceBEq, eq_self, ne_eq, Nat.add_eq_zero_iff, Nat.add_left_cancel_iff, Nat.add_right_cancel_iff, Nat.left_eq_add, Nat.add_eq_left, Bool.true_or, Bool.or_true, Bool.or_self, or_self, or_true, true_or, or_false, false_or, decide_true, decide_false, i_10, i_01, fh, c1], by simp only [k_Md_surely, e_Md_surely_0, e_Md_surely_1, e_Md_surely_2, e_Md_surely_5, e_Md_surely_8, e_Md_surely_9, m_get, m_put, m_ia, m_is, m_la, m_ls, fl_sf, fl_sa, fl_sl, fl_sq, ar_sf, ar_sa, ar_sl, ar_sq, lr_sf, lr_sa, lr_sl, lr_sq, qr_sf, qr_sa, qr_sl, qr_sq, sf_1, sf_2, sa_1, sa_2, sl_1, sl_2, Option.isSome_some, Option.map_some, Option.map_none, Option.toList_some, Option.toList_none, List.nil_append, List.cons_append, List.singleton_append, if_true, if_false, ↓reduceIte, and_self, and_true, true_and, and_false, false_and, not_true, not_false_iff, reduceCtorEq, Nat.reduceEqDiff, Nat.reduceAdd, Nat.reduceSub, Nat.reduceMul, Nat.reduceLT, Nat.reduceLeDiff, Nat.reduceBEq, eq_self, ne_eq, Nat.add_eq_zero_iff, Nat.add_left_cancel_iff, Nat.add_right_cancel_iff, Nat.left_eq_add, Nat.add_eq_left, Bool.true_or, Bool.or_true, Bool.or_self, or_self, or_true, true_or, or_false, false_or, decide_true, decide_false, i_10, i_01, d1], R0, Hp_1 H, Hp_75 H⟩
  simp only [if_pos zz] at c1 d1
  obtain ⟨j, hj, rfl⟩ := idx (by omega) zz
  have d2 := fun f => call_l (lv := 4) (c_inI (h := h) y (y := 1) (z := 8) (yl := 1) (zl := 8) rfl rfl) (Nat.le_of_ble_eq_true rfl) f
  by_cases zy : 1 ≤ y ∧ y ≤ 8
  case neg =>
    simp only [if_neg zy] at d2
    refine ⟨.int (-2), h, h, ?_, by simp only [k_Md_surely, e_Md_surely_0, e_Md_surely_1, e_Md_surely_2, e_Md_surely_5, e_Md_surely_8, e_Md_surely_9, e_Md_surely_10, e_Md_surely_11, e_Md_surely_12, e_Md_surely_13, e_Md_surely_16, e_Md_surely_19, e_Md_surely_22, e_Md_surely_24, m_get, m_put, m_ia, m_is, m_la, m_ls, fl_sf, fl_sa, fl_sl, fl_sq, ar_sf, ar_sa, ar_sl, ar_sq, lr_sf, lr_sa, lr_sl, lr_sq, qr_sf, qr_sa, qr_sl, qr_sq, sf_1, sf_2, sa_1, sa_2, sl_1, sl_2, Option.isSome_some, Option.map_some, Option.map_none, Option.toList_some, Option.toList_none, List.nil_append, List.cons_append, List.singleton_append, if_true, if_false, ↓reduceIte, and_self, and_true, true_and, and_false, false_and, not_true, not_false_iff, reduceCtorEq, Nat.reduceEqDiff, Nat.reduceAdd, Nat.reduceSub, Nat.reduceMul, Nat.reduceLT, Nat.reduceLeDiff, Nat.reduceBEq, eq_self, ne_eq, Nat.add_eq_zero_iff, Nat.add_left_cancel_iff, Nat.add_right_cancel_iff, Nat.left_eq_add, Nat.add_eq_left, Bool.true_or, Bool.or_true, Bool.or_self, or_self, or_true, true_or, or_false, false_or, decide_true, decide_false, i_10, i_01, d1, d2], R0, Hp_1 H, Hp_75 H⟩
    by_cases k1 : y < 1
    · simp only [k_Sp_surely, e_Sp_surely_0, e_Sp_surely_1, e_Sp_surely_4, e_Sp_surely_5, e_Sp_surely_8, e_Sp_surely_11, e_Sp_surely_12, e_Sp_surely_13, e_Sp_surely_14, e_Sp_surely_15, e_Sp_surely_18, e_Sp_surely_19, e_Sp_surely_21, e_Sp_surely_24, e_Sp_surely_26, m_get, m_put, m_ia, m_is, m_la, m_ls, fl_sf, fl_sa, fl_sl, fl_sq, ar_sf, ar_sa, ar_sl, ar_sq, lr_sf, lr_sa, lr_sl, lr_sq, qr_sf, qr_sa, qr_sl, qr_sq, sf_1, sf_2, sa_1, sa_2, sl_1, sl_2, Option.isSome_some, Option.map_some, Option.map_none, Option.toList_some, Option.toList_none, List.nil_append, List.cons_append, List.singleton_append, if_true, if_false, ↓reduceIte, and_self, and_true, true_and, and_false, false_and, not_true, not_false_iff, reduceCtorEq, Nat.reduceEqDiff, Nat.reduceAdd, Nat.reduceSub, Nat.reduceMul, Nat.reduceLT, Nat.reduceLeDiff, Nat.reduceBEq, eq_self, ne_eq, Nat.add_eq_zero_iff, Nat.add_left_cancel_iff, Nat.add_right_cancel_iff, Nat.left_eq_add, Nat.add_eq_left, Bool.true_or, Bool.or_true, Bool.or_self, or_self, or_true, true_or, or_false, false_or, decide_true, decide_false, i_10, i_01, fh, c1, k1]
    · have k2 : ¬ y ≤ 8 := fun w => zy ⟨Int32.not_lt.mp k1, w⟩
      simp only [k_Sp_surely, e_Sp_surely_0, e_Sp_surely_1, e_Sp_surely_4, e_Sp_surely_5, e_Sp_surely_8, e_Sp_surely_11, e_Sp_surely_12, e_Sp_surely_13, e_Sp_surely_14, e_Sp_surely_15, e_Sp_surely_18, e_Sp_surely_19, e_Sp_surely_21, e_Sp_surely_24, e_Sp_surely_26, m_get, m_put, m_ia, m_is, m_la, m_ls, fl_sf, fl_sa, fl_sl, fl_sq, ar_sf, ar_sa, ar_sl, ar_sq, lr_sf, lr_sa, lr_sl, lr_sq, qr_sf, qr_sa, qr_sl, qr_sq, sf_1, sf_2, sa_1, sa_2, sl_1, sl_2, Option.isSome_some, Option.map_some, Option.map_none, Option.toList_some, Option.toList_none, List.nil_append, List.cons_append, List.singleton_append, if_true, if_false, ↓reduceIte, and_self, and_true, true_and, and_false, false_and, not_true, not_false_iff, reduceCtorEq, Nat.reduceEqDiff, Nat.reduceAdd, Nat.reduceSub, Nat.reduceMul, Nat.reduceLT, Nat.reduceLeDiff, Nat.reduceBEq, eq_self, ne_eq, Nat.add_eq_zero_iff, Nat.add_left_cancel_iff, Nat.add_right_cancel_iff, Nat.left_eq_add, Nat.add_eq_left, Bool.true_or, Bool.or_true, Bool.or_self, or_self, or_true, true_or, or_false, false_or, decide_true, decide_false, i_10, i_01, fh, c1, k1, k2]
  have k1 : ¬ y < 1 := Int32.not_lt.mpr zy.1
  have k2 : y ≤ 8 := zy.2
  obtain ⟨m, m8, rfl⟩ := nI_of2 (M := 8) (n := 8) rfl (fun w => k1 (Int32.lt_trans w (by decide))) k2
  have m1 : 1 ≤ m := by
    rcases Nat.eq_zero_or_pos m with k0 | k0
    · subst k0
      exact absurd (by decide) k1
    · exact k0
  obtain ⟨⟨w, hw, ew⟩, -⟩ := bo j hj
  have ag : ∀ i, i < p → σ (v + 2) i = σ 80 i := fun i hi => (ag1 i hi).2
  have ew' : σ (v + 3) j = nI w := by rw [(ag2 j hj).1]; exact ew
  obtain ⟨h1, σ1, s1, cr, H1, hb1⟩ := c_rows2 H p5 up rs.1.1 rs.1.2.1 ag rs.2 (show j < 6 by omega) hw ew' m1 m8 (br := 0) (but := -9) (fun pn hpn => by
    rw [b_0]
    exact ((by decide : ∀ pn, pn < 5 → false = decide (nI pn = -9)) pn (by omega)))
  have cr' := call_v (lv := 3) cr (is66 H) (by decide) (Nat.le_of_ble_eq_true rfl)
  obtain ⟨h2, σ2, s2, cs, H2, hb2⟩ := c_sure (σ := σ) p5 up rs.1.1 rs.1.2.1 ag rs.2 (show j < 6 by omega) hw ew' m1 m8 0 (Nat.zero_le _) h1 σ1 s1 H1 hb1
  generalize hr0 : sm (Wv (fun o pn => bt (σ 80 o) pn) (fun pn => bt (σ 80 w) pn) (fun a pn => decide (¬ nI pn = -9) && decide (¬ fiv (σ 91) (σ 92) (σ 93) p (nI a) (nI pn) z = 0)) p (m - 1)) p = r0 at cr cr'
  have fin : ∀ (g g' : xH) (σa σb : Nat → Nat → Int32) (sa' : Nat), Hp g σa τ v sa' q e e → (∀ b, b ≠ 70 → b ≠ 71 → σa b = σ b) → Hp g' σb τ v sa' q e e → (∀ b, b ≠ 94 → b ≠ 95 → σb b = σa b) → Rel g' := fun g g' σa σb sa' Ha ha Hb hbb => by
    have hb : ∀ b, b ≠ 70 → b ≠ 71 → b ≠ 94 → b ≠ 95 → σb b = σ b := fun b n1 n2 n3 n4 => by rw [hbb b n3 n4, ha b n1 n2]
    exact ⟨σb, τ, v, sa', q, e, p, t, n, len, A, X, z, Hb, rlV_cg rv0 (fun a ha => hb a (by omega) (by omega) (by omega) (by omega)) (fun _ _ => rfl) (fun _ _ => rfl), rlT_cg rt ⟨hb 2 (by omega) (by omega) (by omega) (by omega), hb 85 (by omega) (by omega) (by omega) (by omega)⟩ ⟨rfl, rfl⟩, rlA_cg ra ⟨hb 81 (by omega) (by omega) (by omega) (by omega), hb 84 (by omega) (by omega) (by omega) (by omega), hb 86 (by omega) (by omega) (by omega) (by omega)⟩ ⟨rfl, rfl, rfl⟩ (fun _ _ => rfl), rlK_cg rk (fun a ha => hb a (by omega) (by omega) (by omega) (by omega)) (fun _ _ _ => rfl), rlS_cg rs (fun a ha => hb a (by omega) (by omega) (by omega) (by omega)) ⟨rfl, rfl⟩, rlY_cg ry (hb 61 (by omega) (by omega) (by omega) (by omega))⟩
  have mid : ∀ (g : xH) (σa : Nat → Nat → Int32) (sa' : Nat), Hp g σa τ v sa' q e e → (∀ b, b ≠ 70 → b ≠ 71 → σa b = σ b) → ∃ g' σb, xC M_Md_rowsBut [.ref 75, .int (nI j), .int (nI m), .int (-9)] g = some (some (.int r0), g') ∧ Hp g' σb τ v sa' q e e ∧ (∀ b, b ≠ 94 → b ≠ 95 → σb b = σa b) := fun g σa sa' Ha ha => by
    obtain ⟨g', σb, dr, Hb, hbb⟩ := cM_rowsBut Ha p5 vp rs.1.1 rs.1.2.2 (show j < 6 by omega) (show w < 5 by omega) (by rw [ha 81 (by omega) (by omega)]; exact ew) m1 m8 (-9)
    rw [ha 80 (by omega) (by omega), ha 91 (by omega) (by omega), ha 92 (by omega) (by omega), ha 93 (by omega) (by omega), hr0] at dr
    exact ⟨g', σb, dr, Hb, hbb⟩
  by_cases r00 : r0 = 0
  · obtain ⟨g', σb, dr, Hb, hbb⟩ := mid h1 σ1 s1 H1 hb1
    have dr' := call_v (lv := 4) dr (Hp_75 H1) (by decide) (Nat.le_of_ble_eq_true rfl)
    have d1 := call_v (lv := 4) (cM_isThing H1 vt t6 (nI j)) (Hp_75 H1) (by decide) (Nat.le_of_ble_eq_true rfl)
    have d2 := fun f => call_l (lv := 4) (c_inI (h := h1) (nI m) (y := 1) (z := 8) (yl := 1) (zl := 8) rfl rfl) (Nat.le_of_ble_eq_true rfl) f
    simp only [if_pos zz] at d1
    simp only [if_pos zy] at d2
    rw [r00] at dr' cr'
    refine ⟨.int (-9), h1, g', ?_, ?_, fin h1 g' σ1 σb s1 H1 hb1 Hb hbb, Hp_1 H, Hp_75 H1⟩
    · simp only [k_Sp_surely, e_Sp_surely_0, e_Sp_surely_1, e_Sp_surely_4, e_Sp_surely_5, e_Sp_surely_8, e_Sp_surely_11, e_Sp_surely_12, e_Sp_surely_13, e_Sp_surely_14, e_Sp_surely_15, e_Sp_surely_18, e_Sp_surely_19, e_Sp_surely_21, e_Sp_surely_24, e_Sp_surely_26, e_Sp_surely_27, e_Sp_surely_28, e_Sp_surely_31, e_Sp_surely_32, e_Sp_surely_33, e_Sp_surely_36, e_Sp_surely_37, e_Sp_surely_38, e_Sp_surely_41, e_Sp_surely_44, e_Sp_surely_46, m_get, m_put, m_ia, m_is, m_la, m_ls, fl_sf, fl_sa, fl_sl, fl_sq, ar_sf, ar_sa, ar_sl, ar_sq, lr_sf, lr_sa, lr_sl, lr_sq, qr_sf, qr_sa, qr_sl, qr_sq, sf_1, sf_2, sa_1, sa_2, sl_1, sl_2, Option.isSome_some, Option.map_some, Option.map_none, Option.toList_some, Option.toList_none, List.nil_append, List.cons_append, List.singleton_append, if_true, if_false, ↓reduceIte, and_self, and_true, true_and, and_false, false_and, not_true, not_false_iff, reduceCtorEq, Nat.reduceEqDiff, Nat.reduceAdd, Nat.reduceSub, Nat.reduceMul, Nat.reduceLT, Nat.reduceLeDiff, Nat.reduceBEq, eq_self, ne_eq, Nat.add_eq_zero_iff, Nat.add_left_cancel_iff, Nat.add_right_cancel_iff, Nat.left_eq_add, Nat.add_eq_left, Bool.true_or, Bool.or_true, Bool.or_self, or_self, or_true, true_or, or_false, false_or, decide_true, decide_false, i_10, i_01, fh, f9, c1, k1, k2, cr']
    · simp only [k_Md_surely, e_Md_surely_0, e_Md_surely_1, e_Md_surely_2, e_Md_surely_5, e_Md_surely_8, e_Md_surely_9, e_Md_surely_10, e_Md_surely_11, e_Md_surely_12, e_Md_surely_13, e_Md_surely_16, e_Md_surely_19, e_Md_surely_22, e_Md_surely_24, e_Md_surely_25, e_Md_surely_26, e_Md_surely_27, e_Md_surely_28, e_Md_surely_30, e_Md_surely_33, e_Md_surely_36, e_Md_surely_38, m_get, m_put, m_ia, m_is, m_la, m_ls, fl_sf, fl_sa, fl_sl, fl_sq, ar_sf, ar_sa, ar_sl, ar_sq, lr_sf, lr_sa, lr_sl, lr_sq, qr_sf, qr_sa, qr_sl, qr_sq, sf_1, sf_2, sa_1, sa_2, sl_1, sl_2, Option.isSome_some, Option.map_some, Option.map_none, Option.toList_some, Option.toList_none, List.nil_append, List.cons_append, List.singleton_append, if_true, if_false, ↓reduceIte, and_self, and_true, true_and, and_false, false_and, not_true, not_false_iff, reduceCtorEq, Nat.reduceEqDiff, Nat.reduceAdd, Nat.reduceSub, Nat.reduceMul, Nat.reduceLT, Nat.reduceLeDiff, Nat.reduceBEq, eq_self, ne_eq, Nat.add_eq_zero_iff, Nat.add_left_cancel_iff, Nat.add_right_cancel_iff, Nat.left_eq_add, Nat.add_eq_left, Bool.true_or, Bool.or_true, Bool.or_self, or_self, or_true, true_or, or_false, false_or, decide_true, decide_false, i_10, i_01, d1, d2, dr']
  · obtain ⟨g', σb, dr, Hb, hbb⟩ := mid h2 σ2 s2 H2 hb2
    have dr' := call_v (lv := 4) dr (Hp_75 H2) (by decide) (Nat.le_of_ble_eq_true rfl)
    have d1 := call_v (lv := 4) (cM_isThing H2 vt t6 (nI j)) (Hp_75 H2) (by decide) (Nat.le_of_ble_eq_true rfl)
    have d2 := fun f => call_l (lv := 4) (c_inI (h := h2) (nI m) (y := 1) (z := 8) (yl := 1) (zl := 8) rfl rfl) (Nat.le_of_ble_eq_true rfl) f
    simp only [if_pos zz] at d1
    simp only [if_pos zy] at d2
    obtain ⟨h3, σ3, ds, H3, hb3⟩ := cM_sure (σ := σ2) p5 vp rs.1.1 rs.1.2.2 (show j < 6 by omega) hw (by rw [hb2 81 (by omega) (by omega)]; exact ew) m1 m8 0 (Nat.zero_le _) g' σb Hb hbb
    rw [hb2 80 (by omega) (by omega), hb2 91 (by omega) (by omega), hb2 92 (by omega) (by omega), hb2 93 (by omega) (by omega)] at ds
    rw [srl, nI_0] at ds cs
    refine ⟨_, h2, h3, ?_, ?_, fin h2 h3 σ2 σ3 s2 H2 hb2 H3 hb3, Hp_1 H, Hp_75 H2⟩
    · simp only [k_Sp_surely, e_Sp_surely_0, e_Sp_surely_1, e_Sp_surely_4, e_Sp_surely_5, e_Sp_surely_8, e_Sp_surely_11, e_Sp_surely_12, e_Sp_surely_13, e_Sp_surely_14, e_Sp_surely_15, e_Sp_surely_18, e_Sp_surely_19, e_Sp_surely_21, e_Sp_surely_24, e_Sp_surely_26, e_Sp_surely_27, e_Sp_surely_28, e_Sp_surely_31, e_Sp_surely_32, e_Sp_surely_33, e_Sp_surely_36, e_Sp_surely_37, e_Sp_surely_38, e_Sp_surely_41, e_Sp_surely_44, e_Sp_surely_46, e_Sp_surely_47, e_Sp_surely_48, e_Sp_surely_49, e_Sp_surely_50, m_get, m_put, m_ia, m_is, m_la, m_ls, fl_sf, fl_sa, fl_sl, fl_sq, ar_sf, ar_sa, ar_sl, ar_sq, lr_sf, lr_sa, lr_sl, lr_sq, qr_sf, qr_sa, qr_sl, qr_sq, sf_1, sf_2, sa_1, sa_2, sl_1, sl_2, Option.isSome_some, Option.map_some, Option.map_none, Option.toList_some, Option.toList_none, List.nil_append, List.cons_append, List.singleton_append, if_true, if_false, ↓reduceIte, and_self, and_true, true_and, and_false, false_and, not_true, not_false_iff, reduceCtorEq, Nat.reduceEqDiff, Nat.reduceAdd, Nat.reduceSub, Nat.reduceMul, Nat.reduceLT, Nat.reduceLeDiff, Nat.reduceBEq, eq_self, ne_eq, Nat.add_eq_zero_iff, Nat.add_left_cancel_iff, Nat.add_right_cancel_iff, Nat.left_eq_add, Nat.add_eq_left, Bool.true_or, Bool.or_true, Bool.or_self, or_self, or_true, true_or, or_false, false_or, decide_true, decide_false, i_10, i_01, fh, f9, c1, k1, k2, cr', r00]
      exact cs
    · simp only [k_Md_surely, e_Md_surely_0, e_Md_surely_1, e_Md_surely_2, e_Md_surely_5, e_Md_surely_8, e_Md_surely_9, e_Md_surely_10, e_Md_surely_11, e_Md_surely_12, e_Md_surely_13, e_Md_surely_16, e_Md_surely_19, e_Md_surely_22, e_Md_surely_24, e_Md_surely_25, e_Md_surely_26, e_Md_surely_27, e_Md_surely_28, e_Md_surely_30, e_Md_surely_33, e_Md_surely_36, e_Md_surely_38, e_Md_surely_39, e_Md_surely_40, e_Md_surely_41, e_Md_surely_42, m_get, m_put, m_ia, m_is, m_la, m_ls, fl_sf, fl_sa, fl_sl, fl_sq, ar_sf, ar_sa, ar_sl, ar_sq, lr_sf, lr_sa, lr_sl, lr_sq, qr_sf, qr_sa, qr_sl, qr_sq, sf_1, sf_2, sa_1, sa_2, sl_1, sl_2, Option.isSome_some, Option.map_some, Option.map_none, Option.toList_some, Option.toList_none, List.nil_append, List.cons_append, List.singleton_append, if_true, if_false, ↓reduceIte, and_self, and_true, true_and, and_false, false_and, not_true, not_false_iff, reduceCtorEq, Nat.reduceEqDiff, Nat.reduceAdd, Nat.reduceSub, Nat.reduceMul, Nat.reduceLT, Nat.reduceLeDiff, Nat.reduceBEq, eq_self, ne_eq, Nat.add_eq_zero_iff, Nat.add_left_cancel_iff, Nat.add_right_cancel_iff, Nat.left_eq_add, Nat.add_eq_left, Bool.true_or, Bool.or_true, Bool.or_self, or_self, or_true, true_or, or_false, false_or, decide_true, decide_false, i_10, i_01, d1, d2, dr', r00]
      exact ds
end SI5
