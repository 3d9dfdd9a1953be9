
section VL3
variable {h : xH} {σ τ : Nat → Nat → Int32} {v s : Nat} {q : Nat → Nat} {e1 e2 : Int64} {p t n : Nat}
theorem Hp_swap (H : Hp h σ τ v s q e1 e2) : Hp (sf (sf h 1 8 3 (.ref (19 - v))) 1 8 4 (.ref v)) σ τ (19 - v) s q e1 e2 := by
  have m := H.2.2.2
  have hv := m.1.1
  refine ⟨fun b k hb => by rw [ar_sf, ar_sf]; exact H.1 b k hb, fun b j hj => ?_, fun b j r hj => ?_, ?_⟩
  · rw [fl_sf, if_neg, fl_sf, if_neg, H.2.1 b j hj]
    · rintro ⟨rfl, _, rfl⟩
      exact absurd hj (by decide)
    · rintro ⟨rfl, _, rfl⟩
      exact absurd hj (by decide)
  · rw [fl_sf, if_neg, fl_sf, if_neg, H.2.2.1 b j r hj]
    · rintro ⟨rfl, _, rfl⟩
      rw [show rfd 1 3 = none from rfl] at hj
      cases hj
    · rintro ⟨rfl, _, rfl⟩
      rw [show rfd 1 4 = none from rfl] at hj
      cases hj
  · have x1 := m.1.2.1
    have x2 := m.1.2.2
    have hw : 19 - v = 4 ∨ 19 - v = 15 := by omega
    have hw2 : 19 - (19 - v) = v := by omega
    unfold Hm at *
    simp only [m_get, m_put, m_ia, m_is, m_la, m_ls, fl_sf, fl_sa, fl_sl, fl_sq, ar_sf, ar_sa, ar_sl, ar_sq, lr_sf, lr_sa, lr_sl, lr_sq, qr_sf, qr_sa, qr_sl, qr_sq, sf_1, sf_2, sa_1, sa_2, sl_1, sl_2, Option.isSome_some, Option.map_some, Option.map_none, Option.toList_some, Option.toList_none, List.nil_append, List.cons_append, List.singleton_append, if_true, if_false, ↓reduceIte, and_self, and_true, true_and, and_false, false_and, not_true, not_false_iff, reduceCtorEq, Nat.reduceEqDiff, Nat.reduceAdd, Nat.reduceSub, Nat.reduceMul, Nat.reduceLT, Nat.reduceLeDiff, Nat.reduceBEq, eq_self, ne_eq, Nat.add_eq_zero_iff, Nat.add_left_cancel_iff, Nat.add_right_cancel_iff, Nat.left_eq_add, Nat.add_eq_left, Bool.true_or, Bool.or_true, Bool.or_self, or_self, or_true, true_or, or_false, false_or, decide_true, decide_false, i_10, i_01, x1, x2, hw2, m.2.1, m.2.2.1, m.2.2.2.1, m.2.2.2.2]
    exact hw
theorem c_drop (H : Hp h σ τ v s q e1 e2) {b : Nat} (hb : b = 45 ∨ b = 50) : xC M_Kept_drop [.ref b] h = some (none, sf h b 3 0 (.int 0)) := by
  have x0 := (Hp_kpt H hb).1.1
  simp only [k_Kept_drop, e_Kept_drop_0, e_Kept_drop_1, e_Kept_drop_2, e_Kept_drop_5, m_get, m_put, m_ia, m_is, m_la, m_ls, fl_sf, fl_sa, fl_sl, fl_sq, ar_sf, ar_sa, ar_sl, ar_sq, lr_sf, lr_sa, lr_sl, lr_sq, qr_sf, qr_sa, qr_sl, qr_sq, sf_1, sf_2, sa_1, sa_2, sl_1, sl_2, Option.isSome_some, Option.map_some, Option.map_none, Option.toList_some, Option.toList_none, List.nil_append, List.cons_append, List.singleton_append, if_true, if_false, ↓reduceIte, and_self, and_true, true_and, and_false, false_and, not_true, not_false_iff, reduceCtorEq, Nat.reduceEqDiff, Nat.reduceAdd, Nat.reduceSub, Nat.reduceMul, Nat.reduceLT, Nat.reduceLeDiff, Nat.reduceBEq, eq_self, ne_eq, Nat.add_eq_zero_iff, Nat.add_left_cancel_iff, Nat.add_right_cancel_iff, Nat.left_eq_add, Nat.add_eq_left, Bool.true_or, Bool.or_true, Bool.or_self, or_self, or_true, true_or, or_false, false_or, decide_true, decide_false, i_10, i_01, x0, beq_self_eq_true]
theorem l20 : ¬ (Int32.ofNat 2 : Int32) ≤ 0 := by decide
theorem l21 : ¬ (Int32.ofNat 2 : Int32) ≤ 0 + 1 := by decide
theorem l22 : (Int32.ofNat 2 : Int32) ≤ 0 + 1 + 1 := by decide
theorem i01 : xinB (0 + 1) 2 = true := by decide
theorem c01 : ((0 : Int32) + 1).toNatClampNeg = 1 := rfl
theorem op_village (R : Rel h) : Op h M_Sp_village M_Md_village [] := by
  obtain ⟨σ, τ, v, s, q, e, p, t, n, len, A, X, z, H, rv, rt, ra, rk, rs, ry⟩ := R
  have m := H.2.2.2
  have hv := m.1.1
  obtain ⟨r, h1, σ1, τ1, c1, H1, s1, t1, hm⟩ := rd_all H rt (w := 19 - v) rfl
  have np : ∀ j, ¬ (j = 3 ∨ (19 - v ≤ j ∧ j ≤ 19 - v + 10)) → ¬ PP (19 - v) j := fun j hj => hj
  have cc := call_v (lv := 6) c1 (Hp_3 H) (by decide) (Nat.le_of_ble_eq_true rfl)
  have f0 := hR H 1 8 0 2 rfl rfl
  have f2 := hR H 1 8 2 3 rfl rfl
  have f1 := hI H 1 8 1 rfl rfl
  rw [rt.2.1] at f1
  have f4 := m.1.2.2
  by_cases hr : r = -9
  case neg =>
    obtain ⟨h2, σ2, τ2, c2, H2, s2, t2, _⟩ := hm h1 σ1 τ1 v s q e e H1 (fun a ha => s1 a (np a (by omega))) (fun k hk => by rw [t1 75 (np 75 (by omega))])
    have dd := call_v (lv := 5) c2 (Hp_75 H1) (by decide) (Nat.le_of_ble_eq_true rfl)
    have S : ∀ a, ¬ (a = 3 ∨ (19 - v ≤ a ∧ a ≤ 19 - v + 10) ∨ (76 ≤ a ∧ a ≤ 79)) → σ2 a = σ a := fun a ha => by rw [s2 a (fun z => ha (Or.inr (Or.inr z))), s1 a (np a (by omega))]
    have T : ∀ a k, ¬ (a = 3 ∨ (19 - v ≤ a ∧ a ≤ 19 - v + 10) ∨ (a = 75 ∧ (k = 4 ∨ k = 5 ∨ k = 6 ∨ k = 7 ∨ k = 8 ∨ k = 21 ∨ k = 22))) → τ2 a k = τ a k := fun a k ha => by rw [t2 a k (fun z => ha (Or.inr (Or.inr z))), t1 a (np a (by omega))]
    refine ⟨.int (-3), h1, h2, ?_, ?_, ⟨σ2, τ2, v, s, q, e, p, t, n, len, A, X, z, H2, rlV_cg rv (fun a ha => S a (by omega)) (fun k hk => T _ _ (by omega)) (fun k hk => T _ _ (by omega)), rlT_cg rt ⟨S _ (by omega), S _ (by omega)⟩ ⟨T _ _ (by omega), T _ _ (by omega)⟩, rlA_cg ra ⟨S _ (by omega), S _ (by omega), S _ (by omega)⟩ ⟨T _ _ (by omega), T _ _ (by omega), T _ _ (by omega)⟩ (fun o ho => funext fun k => T _ _ (by omega)), rlK_cg rk (fun a ha => S a (by omega)) (fun b k hk => T _ _ (by omega)), rlS_cg rs (fun a ha => S a (by omega)) ⟨T _ _ (by omega), T _ _ (by omega)⟩, rlY_cg ry (S _ (by omega))⟩, Hp_1 H, Hp_75 H1⟩
    · simp only [k_Sp_village, e_Sp_village_0, e_Sp_village_1, e_Sp_village_4, e_Sp_village_5, e_Sp_village_8, e_Sp_village_9, e_Sp_village_12, e_Sp_village_13, e_Sp_village_16, e_Sp_village_19, e_Sp_village_21, e_Sp_village_24, e_Sp_village_26, m_get, m_put, m_ia, m_is, m_la, m_ls, fl_sf, fl_sa, fl_sl, fl_sq, ar_sf, ar_sa, ar_sl, ar_sq, lr_sf, lr_sa, lr_sl, lr_sq, qr_sf, qr_sa, qr_sl, qr_sq, sf_1, sf_2, sa_1, sa_2, sl_1, sl_2, Option.isSome_some, Option.map_some, Option.map_none, Option.toList_some, Option.toList_none, List.nil_append, List.cons_append, List.singleton_append, if_true, if_false, ↓reduceIte, and_self, and_true, true_and, and_false, false_and, not_true, not_false_iff, reduceCtorEq, Nat.reduceEqDiff, Nat.reduceAdd, Nat.reduceSub, Nat.reduceMul, Nat.reduceLT, Nat.reduceLeDiff, Nat.reduceBEq, eq_self, ne_eq, Nat.add_eq_zero_iff, Nat.add_left_cancel_iff, Nat.add_right_cancel_iff, Nat.left_eq_add, Nat.add_eq_left, Bool.true_or, Bool.or_true, Bool.or_self, or_self, or_true, true_or, or_false, false_or, decide_true, decide_false, i_10, i_01, f0, f1, f2, f4, cc, hr]
    · simp only [k_Md_village, e_Md_village_0, e_Md_village_1, e_Md_village_4, e_Md_village_6, e_Md_village_9, e_Md_village_11, m_get, m_put, m_ia, m_is, m_la, m_ls, fl_sf, fl_sa, fl_sl, fl_sq, ar_sf, ar_sa, ar_sl, ar_sq, lr_sf, lr_sa, lr_sl, lr_sq, qr_sf, qr_sa, qr_sl, qr_sq, sf_1, sf_2, sa_1, sa_2, sl_1, sl_2, Option.isSome_some, Option.map_some, Option.map_none, Option.toList_some, Option.toList_none, List.nil_append, List.cons_append, List.singleton_append, if_true, if_false, ↓reduceIte, and_self, and_true, true_and, and_false, false_and, not_true, not_false_iff, reduceCtorEq, Nat.reduceEqDiff, Nat.reduceAdd, Nat.reduceSub, Nat.reduceMul, Nat.reduceLT, Nat.reduceLeDiff, Nat.reduceBEq, eq_self, ne_eq, Nat.add_eq_zero_iff, Nat.add_left_cancel_iff, Nat.add_right_cancel_iff, Nat.left_eq_add, Nat.add_eq_left, Bool.true_or, Bool.or_true, Bool.or_self, or_self, or_true, true_or, or_false, false_or, decide_true, decide_false, i_10, i_01, dd, hr]
  subst hr
  have H2 := Hp_swap H1
  have H3 := Hp_sf (c := 1) H2 (a := 26) (k := 1) rfl rfl 0
  have H4 := Hp_sf (c := 3) H3 (a := 45) (k := 0) rfl rfl 0
  have H5 := Hp_sf (c := 3) H4 (a := 50) (k := 0) rfl rfl 0
  have cl := call_v (lv := 6) (c_clear H2) (by rw [show xmo M_ActRow_clear = 1 from rfl, hR H2 26 1 0 27 rfl rfl]; rfl) (by decide) (Nat.le_of_ble_eq_true rfl)
  have k1 := call_v (lv := 6) (c_drop H3 (b := 45) (Or.inl rfl)) (Hp_kis H3 (Or.inl rfl)) (by decide) (Nat.le_of_ble_eq_true rfl)
  have k2 := call_v (lv := 6) (c_drop H4 (b := 50) (Or.inr rfl)) (Hp_kis H4 (Or.inr rfl)) (by decide) (Nat.le_of_ble_eq_true rfl)
  have tq : ∀ a k, ¬ ((a = 26 ∧ k = 1) ∨ (a = 45 ∧ k = 0) ∨ (a = 50 ∧ k = 0)) → ut (ut (ut τ1 26 1 0) 45 0 0) 50 0 0 a k = τ1 a k := fun a k ha => (by simp only [ut]; repeat rw [if_neg (by omega)])
  obtain ⟨g', σ2, τ2, c2, H6, s2, t2, hrp⟩ := hm _ σ1 _ (19 - v) s q e e H5 (fun a ha => s1 a (np a (by omega))) (fun k hk => by rw [tq _ _ (by omega), t1 75 (np 75 (by omega))])
  obtain ⟨p', t', n', rp, ⟨w2, w3, w4, w5⟩, k4, k5, k6⟩ := hrp rfl
  have rp0 := rp
  obtain ⟨⟨p5, t6, n8⟩, ⟨rl1, rl2, rl3, rl4⟩, rpp, rpt, rpn, rks⟩ := rp
  obtain ⟨h7, c7, H7⟩ := cM_village c2 (Hp_75 H5) H6 p5 t6 k4 k5 k6
  have S2 : ∀ a, ¬ (76 ≤ a ∧ a ≤ 79) → σ2 a = σ1 a := fun a ha => s2 a ha
  have T2 : ∀ a k, ¬ ((a = 26 ∧ k = 1) ∨ (a = 45 ∧ k = 0) ∨ (a = 50 ∧ k = 0) ∨ (a = 75 ∧ (k = 4 ∨ k = 5 ∨ k = 6 ∨ k = 7 ∨ k = 8 ∨ k = 21 ∨ k = 22))) → τ2 a k = τ1 a k := fun a k ha => by
    rw [t2 a k (fun z => ha (Or.inr (Or.inr (Or.inr z)))), tq a k (by omega)]
  have T0 : ∀ a k, ¬ (a = 3 ∨ (19 - v ≤ a ∧ a ≤ 19 - v + 10)) → τ1 a k = τ a k := fun a k ha => by rw [t1 a (np a ha)]
  have S0 : ∀ a, ¬ (a = 3 ∨ (19 - v ≤ a ∧ a ≤ 19 - v + 10)) → σ1 a = σ a := fun a ha => s1 a (np a ha)
  -- the rows afterwards
  have Z : ∀ a, ¬ (80 ≤ a ∧ a ≤ 84) → a ≠ 96 → us (sV3 σ2 p' t') 96 (upd (upd (σ2 96) 0 0) 1 0) a = σ2 a := fun a h1 h2 => by
    unfold sV3 sV2 sV1
    simp only [us]
    repeat rw [if_neg (by omega)]
  have Y : ∀ a k, ¬ (a = 75 ∧ ((13 ≤ k ∧ k ≤ 17) ∨ k = 23)) → ut (tV τ2 p' t' n') 75 23 0 a k = τ2 a k := fun a k hn => by
    unfold tV
    exact (by simp only [ut]; repeat rw [if_neg (by omega)])
  have NW : us (sV3 σ2 p' t') 96 (upd (upd (σ2 96) 0 0) 1 0) 84 = nV3 σ2 p' t' := by unfold sV3; simp only [us, Nat.reduceEqDiff, if_true, if_false]
  have OW : us (sV3 σ2 p' t') 96 (upd (upd (σ2 96) 0 0) 1 0) 81 = cpI (σ2 81) (fun j => σ2 78 (3 * j)) 0 t' := by unfold sV3; simp only [us, Nat.reduceEqDiff, if_true, if_false]
  have SO : us (sV3 σ2 p' t') 96 (upd (upd (σ2 96) 0 0) 1 0) 82 = cpI (σ2 82) (fun j => σ2 78 (3 * j + 1)) 0 t' := by unfold sV3; simp only [us, Nat.reduceEqDiff, if_true, if_false]
  have KN : us (sV3 σ2 p' t') 96 (upd (upd (σ2 96) 0 0) 1 0) 80 = cpI (σ2 80) (σ2 77) 0 p' := by unfold sV3 sV2; simp only [us, Nat.reduceEqDiff, if_true, if_false]
  have NE : us (sV3 σ2 p' t') 96 (upd (upd (σ2 96) 0 0) 1 0) 83 = cpI (σ2 83) (σ2 79) 0 24 := by unfold sV3 sV2 sV1; simp only [us, Nat.reduceEqDiff, if_true, if_false]
  have z0 : ∀ {g f : Nat → Int32} {i k : Nat}, k < i → cpI g f 0 i k = f k := fun {g f i k} hk => by
    have := cpI_in (g := g) (f := f) (o := 0) hk
    rw [Nat.zero_add] at this
    exact this
  have n23 : nV3 σ2 p' t' 23 = 0 := by
    unfold nV3
    rw [cpI_out (by omega), cpI_out (by omega), cpI_out (by omega), z0 (by omega)]
  have ni : ∀ i, i < p' → nV3 σ2 p' t' i = σ2 76 i := fun i hi => by
    unfold nV3
    rw [cpI_out (by omega), cpI_out (by omega), z0 hi]
  have n5 : ∀ j, j < t' → nV3 σ2 p' t' (5 + j) = σ2 78 (3 * j + 2) := fun j hj => by
    unfold nV3
    rw [cpI_out (by omega), cpI_in hj]
  have n11 : ∀ j, j < t' → nV3 σ2 p' t' (11 + j) = σ2 78 (3 * j) := fun j hj => by
    unfold nV3
    rw [cpI_in hj]
  have n17 : ∀ j, j < t' → nV3 σ2 p' t' (17 + j) = 0 := fun j hj => by
    unfold nV3
    rw [cpI_out (by omega), cpI_out (by omega), cpI_out (by omega), z0 (by omega)]
  refine ⟨.int (10 * nI p' + nI t'), _, h7, ?_, c7, ⟨_, _, 19 - v, s, q, e, p', t', n', len, 0, X, z, H7, ?_, rlT_cg rt ⟨by rw [Z _ (by omega) (by omega), S2 _ (by omega), S0 _ (by omega)], by rw [Z _ (by omega) (by omega), S2 _ (by omega), S0 _ (by omega)]⟩ ⟨by rw [Y _ _ (by omega), T2 _ _ (by omega), T0 _ _ (by omega)], by rw [Y _ _ (by omega), T2 _ _ (by omega), T0 _ _ (by omega)]⟩, ?_, ?_, rlS_cg rs (fun a ha => by rw [Z _ (by omega) (by omega), S2 _ (by omega), S0 _ (by omega)]) ⟨by rw [Y _ _ (by omega), T2 _ _ (by omega), T0 _ _ (by omega)], by rw [Y _ _ (by omega), T2 _ _ (by omega), T0 _ _ (by omega)]⟩, rlY_cg ry (by rw [Z _ (by omega) (by omega), S2 _ (by omega), S0 _ (by omega)])⟩, Hp_1 H, Hp_75 H5⟩
  · have y3 := H1.2.2.2.1.2.1
    have y4 := H1.2.2.2.1.2.2
    have g5 := hR H1 1 8 5 26 rfl rfl
    have g6 := hR H1 1 8 6 44 rfl rfl
    obtain ⟨g44, gq, g0, g1⟩ := H1.2.2.2.2.2.1.2
    have gq3 := qr_3 gq
    have ln : ∀ {g : xH} k, qr g 44 4 = some (2, g44) → rln g 44 k = k (Int32.ofNat 2) := fun {g} k hg => m_lnQ (n := 2) _ 44 4 (by decide) k hg (by decide)
    have q3 := H3.2.2.2.2.2.1.2
    have V5 := Hp_vil H5 (show 19 - v = 4 ∨ 19 - v = 15 by omega)
    have u3 := V5.1.2.2.2.1
    have u4 := V5.1.2.2.2.2.1
    rw [tq _ _ (by omega), w3] at u3
    rw [tq _ _ (by omega), w4] at u4
    have p3 := H5.2.2.2.1.2.1
    have ln3 : ∀ k, rln (sf (sf (sf h1 1 8 3 (.ref (19 - v))) 1 8 4 (.ref v)) 26 1 1 (.int 0)) 44 k = k (Int32.ofNat 2) := fun k => ln k (by simp only [m_get, m_put, m_ia, m_is, m_la, m_ls, fl_sf, fl_sa, fl_sl, fl_sq, ar_sf, ar_sa, ar_sl, ar_sq, lr_sf, lr_sa, lr_sl, lr_sq, qr_sf, qr_sa, qr_sl, qr_sq, sf_1, sf_2, sa_1, sa_2, sl_1, sl_2, Option.isSome_some, Option.map_some, Option.map_none, Option.toList_some, Option.toList_none, List.nil_append, List.cons_append, List.singleton_append, if_true, if_false, ↓reduceIte, and_self, and_true, true_and, and_false, false_and, not_true, not_false_iff, reduceCtorEq, Nat.reduceEqDiff, Nat.reduceAdd, Nat.reduceSub, Nat.reduceMul, Nat.reduceLT, Nat.reduceLeDiff, Nat.reduceBEq, eq_self, ne_eq, Nat.add_eq_zero_iff, Nat.add_left_cancel_iff, Nat.add_right_cancel_iff, Nat.left_eq_add, Nat.add_eq_left, Bool.true_or, Bool.or_true, Bool.or_self, or_self, or_true, true_or, or_false, false_or, decide_true, decide_false, i_10, i_01, gq])
    have ln4 : ∀ k, rln (sf (sf (sf (sf h1 1 8 3 (.ref (19 - v))) 1 8 4 (.ref v)) 26 1 1 (.int 0)) 45 3 0 (.int 0)) 44 k = k (Int32.ofNat 2) := fun k => ln k (by simp only [m_get, m_put, m_ia, m_is, m_la, m_ls, fl_sf, fl_sa, fl_sl, fl_sq, ar_sf, ar_sa, ar_sl, ar_sq, lr_sf, lr_sa, lr_sl, lr_sq, qr_sf, qr_sa, qr_sl, qr_sq, sf_1, sf_2, sa_1, sa_2, sl_1, sl_2, Option.isSome_some, Option.map_some, Option.map_none, Option.toList_some, Option.toList_none, List.nil_append, List.cons_append, List.singleton_append, if_true, if_false, ↓reduceIte, and_self, and_true, true_and, and_false, false_and, not_true, not_false_iff, reduceCtorEq, Nat.reduceEqDiff, Nat.reduceAdd, Nat.reduceSub, Nat.reduceMul, Nat.reduceLT, Nat.reduceLeDiff, Nat.reduceBEq, eq_self, ne_eq, Nat.add_eq_zero_iff, Nat.add_left_cancel_iff, Nat.add_right_cancel_iff, Nat.left_eq_add, Nat.add_eq_left, Bool.true_or, Bool.or_true, Bool.or_self, or_self, or_true, true_or, or_false, false_or, decide_true, decide_false, i_10, i_01, gq])
    have ln5 : ∀ k, rln (sf (sf (sf (sf (sf h1 1 8 3 (.ref (19 - v))) 1 8 4 (.ref v)) 26 1 1 (.int 0)) 45 3 0 (.int 0)) 50 3 0 (.int 0)) 44 k = k (Int32.ofNat 2) := fun k => ln k (by simp only [m_get, m_put, m_ia, m_is, m_la, m_ls, fl_sf, fl_sa, fl_sl, fl_sq, ar_sf, ar_sa, ar_sl, ar_sq, lr_sf, lr_sa, lr_sl, lr_sq, qr_sf, qr_sa, qr_sl, qr_sq, sf_1, sf_2, sa_1, sa_2, sl_1, sl_2, Option.isSome_some, Option.map_some, Option.map_none, Option.toList_some, Option.toList_none, List.nil_append, List.cons_append, List.singleton_append, if_true, if_false, ↓reduceIte, and_self, and_true, true_and, and_false, false_and, not_true, not_false_iff, reduceCtorEq, Nat.reduceEqDiff, Nat.reduceAdd, Nat.reduceSub, Nat.reduceMul, Nat.reduceLT, Nat.reduceLeDiff, Nat.reduceBEq, eq_self, ne_eq, Nat.add_eq_zero_iff, Nat.add_left_cancel_iff, Nat.add_right_cancel_iff, Nat.left_eq_add, Nat.add_eq_left, Bool.true_or, Bool.or_true, Bool.or_self, or_self, or_true, true_or, or_false, false_or, decide_true, decide_false, i_10, i_01, gq])
    simp only [m_get, m_put, m_ia, m_is, m_la, m_ls, fl_sf, fl_sa, fl_sl, fl_sq, ar_sf, ar_sa, ar_sl, ar_sq, lr_sf, lr_sa, lr_sl, lr_sq, qr_sf, qr_sa, qr_sl, qr_sq, sf_1, sf_2, sa_1, sa_2, sl_1, sl_2, Option.isSome_some, Option.map_some, Option.map_none, Option.toList_some, Option.toList_none, List.nil_append, List.cons_append, List.singleton_append, if_true, if_false, ↓reduceIte, and_self, and_true, true_and, and_false, false_and, not_true, not_false_iff, reduceCtorEq, Nat.reduceEqDiff, Nat.reduceAdd, Nat.reduceSub, Nat.reduceMul, Nat.reduceLT, Nat.reduceLeDiff, Nat.reduceBEq, eq_self, ne_eq, Nat.add_eq_zero_iff, Nat.add_left_cancel_iff, Nat.add_right_cancel_iff, Nat.left_eq_add, Nat.add_eq_left, Bool.true_or, Bool.or_true, Bool.or_self, or_self, or_true, true_or, or_false, false_or, decide_true, decide_false, i_10, i_01] at u3 u4 p3
    simp only [k_Sp_village, e_Sp_village_0, e_Sp_village_1, e_Sp_village_4, e_Sp_village_5, e_Sp_village_8, e_Sp_village_9, e_Sp_village_12, e_Sp_village_13, e_Sp_village_16, e_Sp_village_19, e_Sp_village_21, e_Sp_village_24, e_Sp_village_26, e_Sp_village_27, e_Sp_village_28, e_Sp_village_31, e_Sp_village_32, e_Sp_village_33, e_Sp_village_34, e_Sp_village_37, e_Sp_village_40, e_Sp_village_41, e_Sp_village_42, e_Sp_village_45, e_Sp_village_46, e_Sp_village_49, e_Sp_village_52, e_Sp_village_53, e_Sp_village_54, e_Sp_village_55, e_Sp_village_56, e_Sp_village_59, e_Sp_village_60, e_Sp_village_63, e_Sp_village_64, e_Sp_village_67, e_Sp_village_68, e_Sp_village_69, e_Sp_village_72, e_Sp_village_75, e_Sp_village_78, e_Sp_village_80, e_Sp_village_81, e_Sp_village_84, e_Sp_village_87, e_Sp_village_88, e_Sp_village_89, e_Sp_village_92, e_Sp_village_95, e_Sp_village_96, m_aa, m_get, m_put, m_ia, m_is, m_la, m_ls, fl_sf, fl_sa, fl_sl, fl_sq, ar_sf, ar_sa, ar_sl, ar_sq, lr_sf, lr_sa, lr_sl, lr_sq, qr_sf, qr_sa, qr_sl, qr_sq, sf_1, sf_2, sa_1, sa_2, sl_1, sl_2, Option.isSome_some, Option.map_some, Option.map_none, Option.toList_some, Option.toList_none, List.nil_append, List.cons_append, List.singleton_append, if_true, if_false, ↓reduceIte, and_self, and_true, true_and, and_false, false_and, not_true, not_false_iff, reduceCtorEq, Nat.reduceEqDiff, Nat.reduceAdd, Nat.reduceSub, Nat.reduceMul, Nat.reduceLT, Nat.reduceLeDiff, Nat.reduceBEq, eq_self, ne_eq, Nat.add_eq_zero_iff, Nat.add_left_cancel_iff, Nat.add_right_cancel_iff, Nat.left_eq_add, Nat.add_eq_left, Bool.true_or, Bool.or_true, Bool.or_self, or_self, or_true, true_or, or_false, false_or, decide_true, decide_false, i_10, i_01, f0, f1, f2, f4, cc, y3, y4, g5, g6, cl, ln3, ln4, ln5, l20, l21, l22, in0_2, i01, cl0, c01, gq, gq3, g0, g1, k1, k2, u3, u4, p3]
  · obtain ⟨l, hl, el⟩ := rl3
    obtain ⟨c, hc1, hc2, ec⟩ := rl4
    have e13 : ut (tV τ2 p' t' n') 75 23 0 75 13 = nI p' := rfl
    have e14 : ut (tV τ2 p' t' n') 75 23 0 75 14 = nI t' := rfl
    have e15 : ut (tV τ2 p' t' n') 75 23 0 75 15 = nI n' := rfl
    have e16 : ut (tV τ2 p' t' n') 75 23 0 75 16 = τ2 75 7 := rfl
    have e17 : ut (tV τ2 p' t' n') 75 23 0 75 17 = τ2 75 8 := rfl
    have Wσ : ∀ a, 19 - v ≤ a → a ≤ 19 - v + 10 → us (sV3 σ2 p' t') 96 (upd (upd (σ2 96) 0 0) 1 0) a = σ1 a := fun a h1 h2 => by rw [Z _ (by omega) (by omega), S2 _ (by omega)]
    have Wτ : ∀ k, ut (tV τ2 p' t' n') 75 23 0 (19 - v) k = τ1 (19 - v) k := fun k => by rw [Y _ _ (by omega), T2 _ _ (by omega)]
    refine ⟨⟨⟨e13, e14, e15⟩, p5, t6, n8⟩, ⟨by rw [Wτ, e16, rl1], by rw [Wτ, e17, rl2], by rw [Wτ, NW, n23, w2], by rw [Wτ, w3], by rw [Wτ, w4], by rw [Wτ, w5]⟩, ⟨⟨l, hl, by rw [e16, rl1, el]⟩, ⟨c, hc1, hc2, by rw [e17, rl2, ec]⟩⟩, fun i hi => ?_, fun j hj => ?_, fun k hk => ?_, fun j hj => ?_, fun k hk => ?_, fun i j hi hj hb => ?_, fun j hj => ?_⟩
    · obtain ⟨x1, x2⟩ := rpp i hi
      rw [Wσ (19 - v + 1) (by omega) (by omega), Wσ (19 - v + 2) (by omega) (by omega), NW, KN, ni i hi, z0 hi, x1, x2]
      exact ⟨rfl, rfl⟩
    · obtain ⟨⟨x1, x2, x3⟩, _, _, _, x7, x8⟩ := rpt j hj
      rw [Wσ (19 - v + 3) (by omega) (by omega), Wσ (19 - v + 4) (by omega) (by omega), Wσ (19 - v + 5) (by omega) (by omega), Wσ (19 - v + 6) (by omega) (by omega), Wσ (19 - v + 7) (by omega) (by omega), OW, SO, NW, z0 hj, z0 hj, n5 j hj, n11 j hj, n17 j hj, x7, x8, ← x1, ← x2, ← x3]
      exact ⟨rfl, rfl, rfl, rfl, rfl⟩
    · obtain ⟨⟨x1, x2, x3⟩, _⟩ := rpn k hk
      rw [Wσ (19 - v + 8) (by omega) (by omega), Wσ (19 - v + 9) (by omega) (by omega), Wσ (19 - v + 10) (by omega) (by omega), NE, z0 (by omega), z0 (by omega), z0 (by omega), ← x1, ← x2, ← x3]
      exact ⟨rfl, rfl, rfl⟩
    · obtain ⟨⟨x1, x2, x3⟩, x4, x5, _⟩ := rpt j hj
      rw [OW, SO, z0 hj, z0 hj]
      exact ⟨by rw [← x1] at x4; exact x4, by rw [← x2] at x5; exact x5⟩
    · obtain ⟨⟨x1, x2, x3⟩, x4, x5, x6⟩ := rpn k hk
      rw [NE, z0 (by omega), z0 (by omega), z0 (by omega), x1, x2, x3]
      exact ⟨x4, x5, x6⟩
    · rw [KN] at hb ⊢
      rw [z0 hi, (rpp i hi).2] at hb
      obtain ⟨y1, y2⟩ := rks i j hi hj hb
      rw [z0 y1, (rpp j y1).2]
      exact ⟨y1, y2⟩
    · obtain ⟨⟨x1, x2, x3⟩, x4, x5, x6, x7, x8⟩ := rpt j hj
      rw [NW, n5 j hj, n11 j hj, n17 j hj, x3]
      refine ⟨x6, ?_, fun _ => rfl⟩
      rw [← x1] at x4
      exact x4
  · refine ⟨⟨by omega, ra.1.2.1, ?_, rfl, ?_⟩, ra.2.1, fun a ha => by omega⟩
    · rw [Y _ _ (by omega), t2 _ _ (by unfold KR; omega)]
      rfl
    · rw [Y _ _ (by omega), T2 _ _ (by omega), T0 _ _ (by omega)]
      exact ra.1.2.2.2.2
  · have e96 : us (sV3 σ2 p' t') 96 (upd (upd (σ2 96) 0 0) 1 0) 96 = upd (upd (σ2 96) 0 0) 1 0 := by simp only [us, if_true]
    have b0 : upd (upd (σ2 96) 0 0) 1 0 0 = 0 := by rw [up_lt (by omega), up_eq]
    have b1 : upd (upd (σ2 96) 0 0) 1 0 1 = 0 := up_eq
    refine ⟨⟨⟨?_, Or.inl (by rw [e96, b0])⟩, fun hn => absurd (by rw [e96, b0]) hn⟩, ⟨⟨?_, Or.inl (by rw [e96, b1])⟩, fun hn => absurd (by rw [e96, b1]) hn⟩⟩
    · rw [e96, b0, Y _ _ (by omega), t2 _ _ (by omega)]
      rfl
    · rw [e96, b1, Y _ _ (by omega), t2 _ _ (by omega)]
      rfl
end VL3
