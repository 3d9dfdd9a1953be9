/-! leastAt. -/
theorem best_u {V : (Nat → Nat) → Prop} {m : Nat} {co : (Nat → Nat) → Nat} {b b' : Nat → Nat} (vb : V b) (vb' : V b') (hb : ∀ a', V a' → co b ≤ co a' ∧ (co a' = co b → ¬ lxl a' b 0 m)) (hb' : ∀ a', V a' → co b' ≤ co a' ∧ (co a' = co b' → ¬ lxl a' b' 0 m)) : ∀ i, i < m → b i = b' i := by
  intro i hi
  by_cases w : b i = b' i
  · exact w
  exfalso
  obtain ⟨k, ⟨k1, k2⟩, kl⟩ := pk_least (fun k => k < m ∧ b k ≠ b' k) ⟨i, hi, w⟩
  have ag : ∀ j, j < k → b j = b' j := fun j hj => by
    by_cases y : b j = b' j
    · exact y
    · exact absurd ⟨by omega, y⟩ (kl j hj)
  have e : co b = co b' := Nat.le_antisymm (hb b' vb').1 (hb' b vb).1
  rcases Nat.lt_or_ge (b k) (b' k) with y | y
  · exact (hb' b vb).2 e ⟨k, Nat.zero_le _, k1, fun j _ hj => ag j hj, y⟩
  · exact (hb b' vb').2 e.symm ⟨k, Nat.zero_le _, k1, fun j _ hj => (ag j hj).symm, by omega⟩
section LA
variable {h : xH}
theorem op_leastAt (R : Rel h) (x i : Int32) : Op h M_Sp_leastAt M_Md_leastAt [.int x, .int i] := by
  have R0 := R
  obtain ⟨σ, τ, v, s, q, e, p, t, n, len, A, X, z, H, rv, rt, ra, rk, rs, ry⟩ := R
  have hv := H.2.2.2.1.1
  have fh := H.2.2.2.1.2.1
  have f7 := hR H 1 8 7 55 rfl rfl
  have d1 := fun (g : xH) f => call_l (lv := 3) (c_inI (h := g) x (y := 0) (z := 2) (yl := 0) (zl := 2) rfl rfl) (Nat.le_of_ble_eq_true rfl) f
  by_cases z1 : 0 ≤ x ∧ x ≤ 2
  case neg =>
    simp only [if_neg z1] at d1
    refine ⟨.int (-2), h, h, ?_, by simp only [k_Md_leastAt, e_Md_leastAt_0, e_Md_leastAt_1, e_Md_leastAt_2, e_Md_leastAt_3, e_Md_leastAt_6, e_Md_leastAt_9, e_Md_leastAt_12, e_Md_leastAt_14, m_get, m_put, m_ia, m_is, m_la, m_ls, fl_sf, fl_sa, fl_sl, fl_sq, ar_sf, ar_sa, ar_sl, ar_sq, lr_sf, lr_sa, lr_sl, lr_sq, qr_sf, qr_sa, qr_sl, qr_sq, sf_1, sf_2, sa_1, sa_2, sl_1, sl_2, Option.isSome_some, Option.map_some, Option.map_none, Option.toList_some, Option.toList_none, List.nil_append, List.cons_append, List.singleton_append, if_true, if_false, ↓reduceIte, and_self, and_true, true_and, and_false, false_and, not_true, not_false_iff, reduceCtorEq, Nat.reduceEqDiff, Nat.reduceAdd, Nat.reduceSub, Nat.reduceMul, Nat.reduceLT, Nat.reduceLeDiff, Nat.reduceBEq, eq_self, ne_eq, Nat.add_eq_zero_iff, Nat.add_left_cancel_iff, Nat.add_right_cancel_iff, Nat.left_eq_add, Nat.add_eq_left, Bool.true_or, Bool.or_true, Bool.or_self, or_self, or_true, true_or, or_false, false_or, decide_true, decide_false, i_10, i_01, d1], R0, Hp_1 H, Hp_75 H⟩
    by_cases y1 : x < 0
    · simp only [k_Sp_leastAt, e_Sp_leastAt_0, e_Sp_leastAt_1, e_Sp_leastAt_4, e_Sp_leastAt_5, e_Sp_leastAt_6, e_Sp_leastAt_9, e_Sp_leastAt_11, m_get, m_put, m_ia, m_is, m_la, m_ls, fl_sf, fl_sa, fl_sl, fl_sq, ar_sf, ar_sa, ar_sl, ar_sq, lr_sf, lr_sa, lr_sl, lr_sq, qr_sf, qr_sa, qr_sl, qr_sq, sf_1, sf_2, sa_1, sa_2, sl_1, sl_2, Option.isSome_some, Option.map_some, Option.map_none, Option.toList_some, Option.toList_none, List.nil_append, List.cons_append, List.singleton_append, if_true, if_false, ↓reduceIte, and_self, and_true, true_and, and_false, false_and, not_true, not_false_iff, reduceCtorEq, Nat.reduceEqDiff, Nat.reduceAdd, Nat.reduceSub, Nat.reduceMul, Nat.reduceLT, Nat.reduceLeDiff, Nat.reduceBEq, eq_self, ne_eq, Nat.add_eq_zero_iff, Nat.add_left_cancel_iff, Nat.add_right_cancel_iff, Nat.left_eq_add, Nat.add_eq_left, Bool.true_or, Bool.or_true, Bool.or_self, or_self, or_true, true_or, or_false, false_or, decide_true, decide_false, i_10, i_01, y1]
    · have y2 : ¬ x < (3 : Int32) := fun w => z1 ⟨Int32.not_lt.mp y1, by
        obtain ⟨i, hi, rfl⟩ := nI_of y1
        have := (nI_ltI (b := 3) hi (by omega)).mp w
        exact nI_le (b := 2) (by omega) (by omega)⟩
      simp only [k_Sp_leastAt, e_Sp_leastAt_0, e_Sp_leastAt_1, e_Sp_leastAt_4, e_Sp_leastAt_5, e_Sp_leastAt_6, e_Sp_leastAt_9, e_Sp_leastAt_11, m_get, m_put, m_ia, m_is, m_la, m_ls, fl_sf, fl_sa, fl_sl, fl_sq, ar_sf, ar_sa, ar_sl, ar_sq, lr_sf, lr_sa, lr_sl, lr_sq, qr_sf, qr_sa, qr_sl, qr_sq, sf_1, sf_2, sa_1, sa_2, sl_1, sl_2, Option.isSome_some, Option.map_some, Option.map_none, Option.toList_some, Option.toList_none, List.nil_append, List.cons_append, List.singleton_append, if_true, if_false, ↓reduceIte, and_self, and_true, true_and, and_false, false_and, not_true, not_false_iff, reduceCtorEq, Nat.reduceEqDiff, Nat.reduceAdd, Nat.reduceSub, Nat.reduceMul, Nat.reduceLT, Nat.reduceLeDiff, Nat.reduceBEq, eq_self, ne_eq, Nat.add_eq_zero_iff, Nat.add_left_cancel_iff, Nat.add_right_cancel_iff, Nat.left_eq_add, Nat.add_eq_left, Bool.true_or, Bool.or_true, Bool.or_self, or_self, or_true, true_or, or_false, false_or, decide_true, decide_false, i_10, i_01, y1, y2]
  simp only [if_pos z1] at d1
  obtain ⟨sr, hs, rfl⟩ := nI_of2 (M := 2) (n := 2) rfl (Int32.not_lt.mpr z1.1) z1.2
  have y1 : ¬ nI sr < 0 := Int32.not_lt.mpr z1.1
  have y2 : nI sr < (3 : Int32) := nI_lt (b := 3) (by omega) (by omega)
  obtain ⟨cp, cp1, cp9, ec⟩ := rv.2.2.1.2
  have evc := rv.2.1.2.1
  obtain ⟨h1, σ1, τ1, c1, G⟩ := GA_0 (sr := sr) H (rlV_VW rv)
  have c1' := call_v (lv := 18) c1 (by rw [show xmo M_Planner_gather = 4 from rfl]; obtain ⟨w, e⟩ := H.2.2.2.2.2.2.2.1.2.2.1; rw [e]; rfl) (by decide) (Nat.le_of_ble_eq_true rfl)
  have gh1 := G.1.1.2.2.2.1.2.1
  have gf7 := hR G.1.1 1 8 7 55 rfl rfl
  have gv1 := (Hp_vil G.1.1 hv).1.2.1
  rw [G.2.2.2.2.2.2 v 1 (by omega), evc, ec] at gv1
  obtain ⟨k2, egr, hg⟩ := GA_gr G rv
  obtain ⟨G1, G2, G3, G4, G5, G6, G7⟩ := G
  have T := Tr_0 (sr := sr) (cp := cp) rv
  have dm : dsW σ v n (nI sr) 4 = (odR σ n (nI sr) 4).1 := T.2.2.2.2.1.1
  have mn : (odR σ n (nI sr) 4).1 ≤ 8 := by rw [← dm]; exact G2.2.1.1
  have B := best_ex (sr := sr) (cp := cp) H (rlV_VR rv) hs cp9
  /- the reference from any heap that the class leaves -/
  have ref : ∀ (y : Int32) (h2 : xH) (σ2 τ2 : Nat → Nat → Int32), Pg h2 σ2 τ2 v s q e e → (∀ b, b < 56 ∨ b = 61 ∨ 65 < b → σ2 b = σ b) → (∀ a k, a ≠ 55 → τ2 a k = τ a k) → ((y = -9 ∧ ((¬ ∃ a, VA t (okR (σ 82) (σ 80) (nI sr) (owR σ) (npR σ n (nI sr))) (dd (σ 83) (odR σ n (nI sr) 4).2) (odR σ n (nI sr) 4).1 a) ∨ ¬ (0 ≤ i ∧ i < nI (odR σ n (nI sr) 4).1))) ∨ ∃ j b', j < (odR σ n (nI sr) 4).1 ∧ i = nI j ∧ y = nI (b' j) ∧ VA t (okR (σ 82) (σ 80) (nI sr) (owR σ) (npR σ n (nI sr))) (dd (σ 83) (odR σ n (nI sr) 4).2) (odR σ n (nI sr) 4).1 b' ∧ ∀ a', VA t (okR (σ 82) (σ 80) (nI sr) (owR σ) (npR σ n (nI sr))) (dd (σ 83) (odR σ n (nI sr) 4).2) (odR σ n (nI sr) 4).1 a' → coC (prP (grR σ) (fun k => k) sr cp) (lnP (owR σ) (npR σ n (nI sr)) (fun k => k)) b' (odR σ n (nI sr) 4).1 ≤ coC (prP (grR σ) (fun k => k) sr cp) (lnP (owR σ) (npR σ n (nI sr)) (fun k => k)) a' (odR σ n (nI sr) 4).1 ∧ (coC (prP (grR σ) (fun k => k) sr cp) (lnP (owR σ) (npR σ n (nI sr)) (fun k => k)) a' (odR σ n (nI sr) 4).1 = coC (prP (grR σ) (fun k => k) sr cp) (lnP (owR σ) (npR σ n (nI sr)) (fun k => k)) b' (odR σ n (nI sr) 4).1 → ¬ lxl a' b' 0 (odR σ n (nI sr) 4).1)) → ∃ h3, xC M_Md_leastAt [.ref 75, .int (nI sr), .int i] h2 = some (some (.int y), h3) ∧ Rel h3 := by
    intro y h2 σ2 τ2 P s2 t2 hy
    obtain ⟨h3, σ3, τ3, c3, H3, s3, t3, e27, post⟩ := cM_leastV (sr := sr) (cp := cp) P.1 rv (fun b hb => s2 b (by omega)) ⟨t2 75 14 (by omega), t2 75 15 (by omega)⟩ hs cp9
    have c3' := call_v (lv := 3) c3 (Hp_75 P.1) (by decide) (Nat.le_of_ble_eq_true rfl)
    have f17 := hI P.1 75 9 17 rfl rfl
    rw [t2 75 17 (by omega), ec] at f17
    have f31 := hI H3 75 9 31 rfl rfl
    have f27 := hI H3 75 9 27 rfl rfl
    rw [e27] at f27
    have f29 := hR H3 75 9 29 89 rfl rfl
    have r89 := hA H3 89 0 8 rfl rfl
    refine ⟨h3, ?_, Rel_fr ⟨H, rv, rt, ra, rk, rs, ry⟩ H3 (fun b hb => by rw [s3 b (by omega)]; exact s2 b (by omega)) (fun a k hk => by rw [t3 a k (by omega)]; exact t2 a k (by omega))⟩
    have di := fun (g : xH) f => call_l (lv := 3) (c_inI (h := g) i (y := 0) (z := nI (odR σ n (nI sr) 4).1 - 1) (yl := 0) (zl := (nI (odR σ n (nI sr) 4).1 - 1).toInt64) rfl rfl) (Nat.le_of_ble_eq_true rfl) f
    have lp := le_pred (p := (odR σ n (nI sr) 4).1) (by omega) i
    by_cases w9 : τ3 75 31 = -9
    · have y9 : y = -9 := by
        rcases hy with ⟨a, _⟩ | ⟨j, b', _, _, _, vb, _⟩
        · exact a
        · rcases post with ⟨_, no⟩ | ⟨b, _, b2, _⟩
          · exact absurd ⟨b', vb⟩ no
          · rw [b2] at w9
            have := co_bd (ln := (lnP (owR σ) (npR σ n (nI sr)) (fun k => k))) (a := b) (prP_le (gr := grR σ) (ch := fun k => k) hs cp9) (odR σ n (nI sr) 4).1
            exact absurd w9 (nm9 (by omega))
      rw [w9] at f31
      rw [y9]
      simp only [k_Md_leastAt, e_Md_leastAt_0, e_Md_leastAt_1, e_Md_leastAt_2, e_Md_leastAt_3, e_Md_leastAt_6, e_Md_leastAt_9, e_Md_leastAt_12, e_Md_leastAt_14, e_Md_leastAt_15, e_Md_leastAt_16, e_Md_leastAt_17, e_Md_leastAt_18, e_Md_leastAt_21, e_Md_leastAt_24, e_Md_leastAt_25, e_Md_leastAt_28, e_Md_leastAt_30, e_Md_leastAt_33, e_Md_leastAt_34, e_Md_leastAt_35, e_Md_leastAt_36, e_Md_leastAt_37, e_Md_leastAt_40, e_Md_leastAt_41, e_Md_leastAt_42, e_Md_leastAt_43, e_Md_leastAt_46, e_Md_leastAt_49, e_Md_leastAt_51, e_Md_leastAt_54, e_Md_leastAt_55, e_Md_leastAt_58, e_Md_leastAt_59, e_Md_leastAt_60, m_get, m_put, m_ia, m_is, m_la, m_ls, fl_sf, fl_sa, fl_sl, fl_sq, ar_sf, ar_sa, ar_sl, ar_sq, lr_sf, lr_sa, lr_sl, lr_sq, qr_sf, qr_sa, qr_sl, qr_sq, sf_1, sf_2, sa_1, sa_2, sl_1, sl_2, Option.isSome_some, Option.map_some, Option.map_none, Option.toList_some, Option.toList_none, List.nil_append, List.cons_append, List.singleton_append, if_true, if_false, ↓reduceIte, and_self, and_true, true_and, and_false, false_and, not_true, not_false_iff, reduceCtorEq, Nat.reduceEqDiff, Nat.reduceAdd, Nat.reduceSub, Nat.reduceMul, Nat.reduceLT, Nat.reduceLeDiff, Nat.reduceBEq, eq_self, ne_eq, Nat.add_eq_zero_iff, Nat.add_left_cancel_iff, Nat.add_right_cancel_iff, Nat.left_eq_add, Nat.add_eq_left, Bool.true_or, Bool.or_true, Bool.or_self, or_self, or_true, true_or, or_false, false_or, decide_true, decide_false, i_10, i_01, d1, f17, c3', f31]
    · rcases post with ⟨p9, _⟩ | ⟨b, b1, b2, b3, b4⟩
      · exact absurd p9 w9
      · rcases hy with ⟨y9, no⟩ | ⟨j, b', hj, rfl, ey, vb, bb⟩
        · have nr : ¬ (0 ≤ i ∧ i ≤ nI (odR σ n (nI sr) 4).1 - 1) := by
            rw [lp]
            exact no.resolve_left (fun u => u ⟨b, b1⟩)
          simp only [if_neg nr] at di
          rw [y9]
          simp only [k_Md_leastAt, e_Md_leastAt_0, e_Md_leastAt_1, e_Md_leastAt_2, e_Md_leastAt_3, e_Md_leastAt_6, e_Md_leastAt_9, e_Md_leastAt_12, e_Md_leastAt_14, e_Md_leastAt_15, e_Md_leastAt_16, e_Md_leastAt_17, e_Md_leastAt_18, e_Md_leastAt_21, e_Md_leastAt_24, e_Md_leastAt_25, e_Md_leastAt_28, e_Md_leastAt_30, e_Md_leastAt_33, e_Md_leastAt_34, e_Md_leastAt_35, e_Md_leastAt_36, e_Md_leastAt_37, e_Md_leastAt_40, e_Md_leastAt_41, e_Md_leastAt_42, e_Md_leastAt_43, e_Md_leastAt_46, e_Md_leastAt_49, e_Md_leastAt_51, e_Md_leastAt_54, e_Md_leastAt_55, e_Md_leastAt_58, e_Md_leastAt_59, e_Md_leastAt_60, m_get, m_put, m_ia, m_is, m_la, m_ls, fl_sf, fl_sa, fl_sl, fl_sq, ar_sf, ar_sa, ar_sl, ar_sq, lr_sf, lr_sa, lr_sl, lr_sq, qr_sf, qr_sa, qr_sl, qr_sq, sf_1, sf_2, sa_1, sa_2, sl_1, sl_2, Option.isSome_some, Option.map_some, Option.map_none, Option.toList_some, Option.toList_none, List.nil_append, List.cons_append, List.singleton_append, if_true, if_false, ↓reduceIte, and_self, and_true, true_and, and_false, false_and, not_true, not_false_iff, reduceCtorEq, Nat.reduceEqDiff, Nat.reduceAdd, Nat.reduceSub, Nat.reduceMul, Nat.reduceLT, Nat.reduceLeDiff, Nat.reduceBEq, eq_self, ne_eq, Nat.add_eq_zero_iff, Nat.add_left_cancel_iff, Nat.add_right_cancel_iff, Nat.left_eq_add, Nat.add_eq_left, Bool.true_or, Bool.or_true, Bool.or_self, or_self, or_true, true_or, or_false, false_or, decide_true, decide_false, i_10, i_01, d1, f17, c3', f31, w9, f27, di]
        · have nr : 0 ≤ nI j ∧ nI j ≤ nI (odR σ n (nI sr) 4).1 - 1 := ⟨nI_pos' (by omega), by rw [lp]; exact nI_lt hj (by omega)⟩
          simp only [if_pos nr] at di
          have eb := best_u (V := fun a => VA t (okR (σ 82) (σ 80) (nI sr) (owR σ) (npR σ n (nI sr))) (dd (σ 83) (odR σ n (nI sr) 4).2) (odR σ n (nI sr) 4).1 a) (co := fun a => coC (prP (grR σ) (fun k => k) sr cp) (lnP (owR σ) (npR σ n (nI sr)) (fun k => k)) a (odR σ n (nI sr) 4).1) vb b1 bb b4 j hj
          have i8 := xin_nI (show j < 8 by omega) (by decide)
          have cj := nI_clamp (show j < 2 ^ 31 by omega)
          have e89 := b3 j hj
          rw [ey, eb]
          simp only [k_Md_leastAt, e_Md_leastAt_0, e_Md_leastAt_1, e_Md_leastAt_2, e_Md_leastAt_3, e_Md_leastAt_6, e_Md_leastAt_9, e_Md_leastAt_12, e_Md_leastAt_14, e_Md_leastAt_15, e_Md_leastAt_16, e_Md_leastAt_17, e_Md_leastAt_18, e_Md_leastAt_21, e_Md_leastAt_24, e_Md_leastAt_25, e_Md_leastAt_28, e_Md_leastAt_30, e_Md_leastAt_33, e_Md_leastAt_34, e_Md_leastAt_35, e_Md_leastAt_36, e_Md_leastAt_37, e_Md_leastAt_40, e_Md_leastAt_41, e_Md_leastAt_42, e_Md_leastAt_43, e_Md_leastAt_46, e_Md_leastAt_49, e_Md_leastAt_51, e_Md_leastAt_54, e_Md_leastAt_55, e_Md_leastAt_58, e_Md_leastAt_59, e_Md_leastAt_60, m_get, m_put, m_ia, m_is, m_la, m_ls, fl_sf, fl_sa, fl_sl, fl_sq, ar_sf, ar_sa, ar_sl, ar_sq, lr_sf, lr_sa, lr_sl, lr_sq, qr_sf, qr_sa, qr_sl, qr_sq, sf_1, sf_2, sa_1, sa_2, sl_1, sl_2, Option.isSome_some, Option.map_some, Option.map_none, Option.toList_some, Option.toList_none, List.nil_append, List.cons_append, List.singleton_append, if_true, if_false, ↓reduceIte, and_self, and_true, true_and, and_false, false_and, not_true, not_false_iff, reduceCtorEq, Nat.reduceEqDiff, Nat.reduceAdd, Nat.reduceSub, Nat.reduceMul, Nat.reduceLT, Nat.reduceLeDiff, Nat.reduceBEq, eq_self, ne_eq, Nat.add_eq_zero_iff, Nat.add_left_cancel_iff, Nat.add_right_cancel_iff, Nat.left_eq_add, Nat.add_eq_left, Bool.true_or, Bool.or_true, Bool.or_self, or_self, or_true, true_or, or_false, false_or, decide_true, decide_false, i_10, i_01, d1, f17, c3', f31, w9, f27, di, f29, r89, i8, cj, e89]
  have fin : ∀ (y : Int32) (h2 : xH) (σ2 τ2 : Nat → Nat → Int32), xC M_Planner_firstPlanAt [.ref 55, .int (nI cp), .int i] h1 = some (some (.int y), h2) → Pg h2 σ2 τ2 v s q e e → (∀ b, b < 56 ∨ b = 61 ∨ 65 < b → σ2 b = σ b) → (∀ a k, a ≠ 55 → τ2 a k = τ a k) → ((y = -9 ∧ ((¬ ∃ a, VA t (okR (σ 82) (σ 80) (nI sr) (owR σ) (npR σ n (nI sr))) (dd (σ 83) (odR σ n (nI sr) 4).2) (odR σ n (nI sr) 4).1 a) ∨ ¬ (0 ≤ i ∧ i < nI (odR σ n (nI sr) 4).1))) ∨ ∃ j b', j < (odR σ n (nI sr) 4).1 ∧ i = nI j ∧ y = nI (b' j) ∧ VA t (okR (σ 82) (σ 80) (nI sr) (owR σ) (npR σ n (nI sr))) (dd (σ 83) (odR σ n (nI sr) 4).2) (odR σ n (nI sr) 4).1 b' ∧ ∀ a', VA t (okR (σ 82) (σ 80) (nI sr) (owR σ) (npR σ n (nI sr))) (dd (σ 83) (odR σ n (nI sr) 4).2) (odR σ n (nI sr) 4).1 a' → coC (prP (grR σ) (fun k => k) sr cp) (lnP (owR σ) (npR σ n (nI sr)) (fun k => k)) b' (odR σ n (nI sr) 4).1 ≤ coC (prP (grR σ) (fun k => k) sr cp) (lnP (owR σ) (npR σ n (nI sr)) (fun k => k)) a' (odR σ n (nI sr) 4).1 ∧ (coC (prP (grR σ) (fun k => k) sr cp) (lnP (owR σ) (npR σ n (nI sr)) (fun k => k)) a' (odR σ n (nI sr) 4).1 = coC (prP (grR σ) (fun k => k) sr cp) (lnP (owR σ) (npR σ n (nI sr)) (fun k => k)) b' (odR σ n (nI sr) 4).1 → ¬ lxl a' b' 0 (odR σ n (nI sr) 4).1)) → Op h M_Sp_leastAt M_Md_leastAt [.int (nI sr), .int i] := by
    intro y h2 σ2 τ2 c2 P s2 t2 hy
    obtain ⟨h3, c3, R3⟩ := ref y h2 σ2 τ2 P s2 t2 hy
    have c2' := call_v (lv := 18) c2 (Pg_is G1) (by decide) (Nat.le_of_ble_eq_true rfl)
    refine ⟨.int y, h2, h3, ?_, c3, R3, Hp_1 H, Hp_75 P.1⟩
    simp only [k_Sp_leastAt, e_Sp_leastAt_0, e_Sp_leastAt_1, e_Sp_leastAt_4, e_Sp_leastAt_5, e_Sp_leastAt_6, e_Sp_leastAt_9, e_Sp_leastAt_11, e_Sp_leastAt_12, e_Sp_leastAt_13, e_Sp_leastAt_16, e_Sp_leastAt_17, e_Sp_leastAt_20, e_Sp_leastAt_21, e_Sp_leastAt_24, e_Sp_leastAt_25, e_Sp_leastAt_28, e_Sp_leastAt_29, e_Sp_leastAt_32, e_Sp_leastAt_35, e_Sp_leastAt_36, e_Sp_leastAt_39, m_get, m_put, m_ia, m_is, m_la, m_ls, fl_sf, fl_sa, fl_sl, fl_sq, ar_sf, ar_sa, ar_sl, ar_sq, lr_sf, lr_sa, lr_sl, lr_sq, qr_sf, qr_sa, qr_sl, qr_sq, sf_1, sf_2, sa_1, sa_2, sl_1, sl_2, Option.isSome_some, Option.map_some, Option.map_none, Option.toList_some, Option.toList_none, List.nil_append, List.cons_append, List.singleton_append, if_true, if_false, ↓reduceIte, and_self, and_true, true_and, and_false, false_and, not_true, not_false_iff, reduceCtorEq, Nat.reduceEqDiff, Nat.reduceAdd, Nat.reduceSub, Nat.reduceMul, Nat.reduceLT, Nat.reduceLeDiff, Nat.reduceBEq, eq_self, ne_eq, Nat.add_eq_zero_iff, Nat.add_left_cancel_iff, Nat.add_right_cancel_iff, Nat.left_eq_add, Nat.add_eq_left, Bool.true_or, Bool.or_true, Bool.or_self, or_self, or_true, true_or, or_false, false_or, decide_true, decide_false, i_10, i_01, y1, y2, f7, fh, c1', gf7, gh1, gv1, c2']
  rcases B with no | ⟨b', vb, bb⟩
  · have z7 : τ1 55 7 = 0 := by
      rcases G5 with ⟨_, pa⟩ | ⟨p0, _⟩
      · obtain ⟨a, fa⟩ := FF_ex G2.2.2.1.2 pa
        exact absurd ⟨_, Tr_1 T fa⟩ no
      · exact p0
    exact fin (-9) h1 σ1 τ1 (c_firstNone G1 G2 (Or.inl z7)) G1 G6 G7 (Or.inl ⟨rfl, Or.inl no⟩)
  · obtain ⟨b, Bb, eb, _⟩ := Tr_Bst T vb bb
    have z7 : τ1 55 7 = 1 := by
      rcases G5 with ⟨p1, _⟩ | ⟨_, d, hd, nd⟩
      · exact p1
      · exact absurd ⟨_, mks_SF (Bb.1 d hd)⟩ nd
    by_cases w : 0 ≤ i ∧ i < nI (odR σ n (nI sr) 4).1
    · obtain ⟨j, hj, rfl⟩ := idx (p := (odR σ n (nI sr) 4).1) (by omega) w
      obtain ⟨h2, σ2, τ2, c2, P2, s2, t2⟩ := c_firstPlan (sr := sr) (cp := cp) (j := j) (b := b) G1 G2 hs G3 cp9 hg (by rw [k2]; exact G4) z7 (by rw [G6 61 (by omega)]; exact ry) (by rw [dm]; exact hj) (by rw [k2, egr]; exact Bb)
      refine fin _ h2 σ2 τ2 c2 P2 (fun b hb => by rw [s2 b (by omega) (by omega) (by omega)]; exact G6 b hb) (fun a k ha => by rw [t2 a k ha]; exact G7 a k ha) (Or.inr ⟨j, b', hj, rfl, by rw [eb j hj], vb, bb⟩)
    · exact fin (-9) h1 σ1 τ1 (c_firstNone G1 G2 (Or.inr ⟨z7, by rw [dm]; exact w⟩)) G1 G6 G7 (Or.inl ⟨rfl, Or.inr w⟩)
end LA
