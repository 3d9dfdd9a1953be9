
section UNDO
variable {h : xH} {σ τ : Nat → Nat → Int32} {v s : Nat} {q : Nat → Nat} {e1 e2 : Int64} {p t n A X : Nat}
theorem c_undo2 (H : Hp h σ τ v s q e1 e2) {o : Nat} (o1 : 28 ≤ o) (o2 : o ≤ 43) (k0 : τ o 0 = 2) (ht : τ v 4 = nI t) (t6 : t ≤ 6) : xC M_Act_undoIn [.ref o, .ref v] h = some (none, sa (sf h v 7 2 (.int (τ v 2 + (-1)))) (v + 7) 0 (ouD (σ (v + 6)) (σ (v + 3)) (σ (v + 7)) (-1) t)) := by
  have hv := H.2.2.2.1.1
  have V := Hp_vil H hv
  rw [ht] at V
  have c1 := call_v (lv := 2) (c_passDays t6 V (-1)) (Vil_is V) (by decide) (Nat.le_of_ble_eq_true rfl)
  have f0 := hO H o1 o2 (k := 0) (by omega)
  rw [k0] at f0
  simp only [k_Act_undoIn, e_Act_undoIn_0, e_Act_undoIn_1, e_Act_undoIn_4, e_Act_undoIn_5, e_Act_undoIn_8, e_Act_undoIn_9, e_Act_undoIn_10, e_Act_undoIn_13, e_Act_undoIn_16, e_Act_undoIn_17, e_Act_undoIn_20, e_Act_undoIn_23, e_Act_undoIn_24, e_Act_undoIn_25, e_Act_undoIn_28, e_Act_undoIn_31, e_Act_undoIn_34, e_Act_undoIn_35, e_Act_undoIn_38, e_Act_undoIn_39, e_Act_undoIn_42, e_Act_undoIn_43, e_Act_undoIn_44, e_Act_undoIn_45, e_Act_undoIn_48, e_Act_undoIn_49, e_Act_undoIn_50, e_Act_undoIn_51, e_Act_undoIn_54, e_Act_undoIn_55, e_Act_undoIn_58, e_Act_undoIn_59, e_Act_undoIn_60, e_Act_undoIn_61, e_Act_undoIn_64, e_Act_undoIn_65, e_Act_undoIn_66, e_Act_undoIn_67, e_Act_undoIn_70, e_Act_undoIn_71, e_Act_undoIn_74, e_Act_undoIn_75, e_Act_undoIn_78, e_Act_undoIn_79, e_Act_undoIn_80, e_Act_undoIn_83, e_Act_undoIn_84, e_Act_undoIn_87, e_Act_undoIn_88, e_Act_undoIn_91, e_Act_undoIn_92, m_get, m_put, m_ia, m_is, m_la, m_ls, fl_sf, fl_sa, fl_sl, fl_sq, ar_sf, ar_sa, ar_sl, ar_sq, lr_sf, lr_sa, lr_sl, lr_sq, qr_sf, qr_sa, qr_sl, qr_sq, sf_1, sf_2, sa_1, sa_2, sl_1, sl_2, Option.isSome_some, Option.map_some, Option.map_none, Option.toList_some, Option.toList_none, List.nil_append, List.cons_append, List.singleton_append, if_true, if_false, ↓reduceIte, and_self, and_true, true_and, and_false, false_and, not_true, not_false_iff, reduceCtorEq, Nat.reduceEqDiff, Nat.reduceAdd, Nat.reduceSub, Nat.reduceMul, Nat.reduceLT, Nat.reduceLeDiff, Nat.reduceBEq, eq_self, ne_eq, Nat.add_eq_zero_iff, Nat.add_left_cancel_iff, Nat.add_right_cancel_iff, Nat.left_eq_add, Nat.add_eq_left, Bool.true_or, Bool.or_true, Bool.or_self, or_self, or_true, true_or, or_false, false_or, decide_true, decide_false, i_10, i_01, f0, c1]
theorem c_undo0 (H : Hp h σ τ v s q e1 e2) {o : Nat} (o1 : 28 ≤ o) (o2 : o ≤ 43) (k0 : τ o 0 = 0) {x : Nat} (hx : x < 6) (k1 : τ o 1 = nI x) : xC M_Act_undoIn [.ref o, .ref v] h = some (none, sa (sa h (v + 6) 0 (upd (σ (v + 6)) x (σ (v + 3) x))) (v + 7) 0 (upd (σ (v + 7)) x 0)) := by
  have hv := H.2.2.2.1.1
  have V := Hp_vil H hv
  have c1 := call_v (lv := 2) (c_bringHome V hx) (Vil_is V) (by decide) (Nat.le_of_ble_eq_true rfl)
  have f0 := hO H o1 o2 (k := 0) (by omega)
  have f1 := hO H o1 o2 (k := 1) (by omega)
  rw [k0] at f0
  rw [k1] at f1
  have w02 : ((0 : Int32) = 2) = False := by decide
  simp only [k_Act_undoIn, e_Act_undoIn_0, e_Act_undoIn_1, e_Act_undoIn_4, e_Act_undoIn_5, e_Act_undoIn_8, e_Act_undoIn_9, e_Act_undoIn_10, e_Act_undoIn_13, e_Act_undoIn_16, e_Act_undoIn_17, e_Act_undoIn_20, e_Act_undoIn_23, e_Act_undoIn_24, e_Act_undoIn_25, e_Act_undoIn_28, e_Act_undoIn_31, e_Act_undoIn_34, e_Act_undoIn_35, e_Act_undoIn_38, e_Act_undoIn_39, e_Act_undoIn_42, e_Act_undoIn_43, e_Act_undoIn_44, e_Act_undoIn_45, e_Act_undoIn_48, e_Act_undoIn_49, e_Act_undoIn_50, e_Act_undoIn_51, e_Act_undoIn_54, e_Act_undoIn_55, e_Act_undoIn_58, e_Act_undoIn_59, e_Act_undoIn_60, e_Act_undoIn_61, e_Act_undoIn_64, e_Act_undoIn_65, e_Act_undoIn_66, e_Act_undoIn_67, e_Act_undoIn_70, e_Act_undoIn_71, e_Act_undoIn_74, e_Act_undoIn_75, e_Act_undoIn_78, e_Act_undoIn_79, e_Act_undoIn_80, e_Act_undoIn_83, e_Act_undoIn_84, e_Act_undoIn_87, e_Act_undoIn_88, e_Act_undoIn_91, e_Act_undoIn_92, m_get, m_put, m_ia, m_is, m_la, m_ls, fl_sf, fl_sa, fl_sl, fl_sq, ar_sf, ar_sa, ar_sl, ar_sq, lr_sf, lr_sa, lr_sl, lr_sq, qr_sf, qr_sa, qr_sl, qr_sq, sf_1, sf_2, sa_1, sa_2, sl_1, sl_2, Option.isSome_some, Option.map_some, Option.map_none, Option.toList_some, Option.toList_none, List.nil_append, List.cons_append, List.singleton_append, if_true, if_false, ↓reduceIte, and_self, and_true, true_and, and_false, false_and, not_true, not_false_iff, reduceCtorEq, Nat.reduceEqDiff, Nat.reduceAdd, Nat.reduceSub, Nat.reduceMul, Nat.reduceLT, Nat.reduceLeDiff, Nat.reduceBEq, eq_self, ne_eq, Nat.add_eq_zero_iff, Nat.add_left_cancel_iff, Nat.add_right_cancel_iff, Nat.left_eq_add, Nat.add_eq_left, Bool.true_or, Bool.or_true, Bool.or_self, or_self, or_true, true_or, or_false, false_or, decide_true, decide_false, i_10, i_01, f0, f1, c1, w02]
theorem c_undo1 (H : Hp h σ τ v s q e1 e2) {o : Nat} (o1 : 28 ≤ o) (o2 : o ≤ 43) (k0 : τ o 0 = 1) {x y : Nat} (hx : x < 6) (hy : y < 5) (k1 : τ o 1 = nI x) (k2 : τ o 2 = nI y) : xC M_Act_undoIn [.ref o, .ref v] h = some (none, sa (sa (sa (sa h (v + 1) 0 (upd (σ (v + 1)) y (σ (v + 1) y + τ o 5))) (v + 5) 0 (upd (σ (v + 5)) x (σ (v + 5) x - τ o 4))) (v + 6) 0 (upd (σ (v + 6)) x (τ o 2))) (v + 7) 0 (upd (σ (v + 7)) x (τ o 3))) := by
  have hv := H.2.2.2.1.1
  have V := Hp_vil H hv
  have f0 := hO H o1 o2 (k := 0) (by omega)
  have f1 := hO H o1 o2 (k := 1) (by omega)
  have f2 := hO H o1 o2 (k := 2) (by omega)
  have f3 := hO H o1 o2 (k := 3) (by omega)
  have f4 := hO H o1 o2 (k := 4) (by omega)
  have f5 := hO H o1 o2 (k := 5) (by omega)
  rw [k0] at f0
  rw [k1] at f1
  rw [k2] at f2
  rw [k2]
  have w12 : ((1 : Int32) = 2) = False := by decide
  have ix := xin_nI hx (by decide)
  have cx := nI_clamp (show x < 2 ^ 31 by omega)
  have iy := xin_nI hy (by decide)
  have cy := nI_clamp (show y < 2 ^ 31 by omega)
  obtain ⟨⟨v0, v1, v2, v3, v4, v5⟩, ⟨w1, w2, w3, w4, w5, w6, w7, w8, w9, w10⟩, ⟨a1, a2, a3, a4, a5', a6, a7, a8, a9, a10⟩⟩ := V
  simp only [k_Act_undoIn, e_Act_undoIn_0, e_Act_undoIn_1, e_Act_undoIn_4, e_Act_undoIn_5, e_Act_undoIn_8, e_Act_undoIn_9, e_Act_undoIn_10, e_Act_undoIn_13, e_Act_undoIn_16, e_Act_undoIn_17, e_Act_undoIn_20, e_Act_undoIn_23, e_Act_undoIn_24, e_Act_undoIn_25, e_Act_undoIn_28, e_Act_undoIn_31, e_Act_undoIn_34, e_Act_undoIn_35, e_Act_undoIn_38, e_Act_undoIn_39, e_Act_undoIn_42, e_Act_undoIn_43, e_Act_undoIn_44, e_Act_undoIn_45, e_Act_undoIn_48, e_Act_undoIn_49, e_Act_undoIn_50, e_Act_undoIn_51, e_Act_undoIn_54, e_Act_undoIn_55, e_Act_undoIn_58, e_Act_undoIn_59, e_Act_undoIn_60, e_Act_undoIn_61, e_Act_undoIn_64, e_Act_undoIn_65, e_Act_undoIn_66, e_Act_undoIn_67, e_Act_undoIn_70, e_Act_undoIn_71, e_Act_undoIn_74, e_Act_undoIn_75, e_Act_undoIn_78, e_Act_undoIn_79, e_Act_undoIn_80, e_Act_undoIn_83, e_Act_undoIn_84, e_Act_undoIn_87, e_Act_undoIn_88, e_Act_undoIn_91, e_Act_undoIn_92, m_get, m_put, m_ia, m_is, m_la, m_ls, fl_sf, fl_sa, fl_sl, fl_sq, ar_sf, ar_sa, ar_sl, ar_sq, lr_sf, lr_sa, lr_sl, lr_sq, qr_sf, qr_sa, qr_sl, qr_sq, sf_1, sf_2, sa_1, sa_2, sl_1, sl_2, Option.isSome_some, Option.map_some, Option.map_none, Option.toList_some, Option.toList_none, List.nil_append, List.cons_append, List.singleton_append, if_true, if_false, ↓reduceIte, and_self, and_true, true_and, and_false, false_and, not_true, not_false_iff, reduceCtorEq, Nat.reduceEqDiff, Nat.reduceAdd, Nat.reduceSub, Nat.reduceMul, Nat.reduceLT, Nat.reduceLeDiff, Nat.reduceBEq, eq_self, ne_eq, Nat.add_eq_zero_iff, Nat.add_left_cancel_iff, Nat.add_right_cancel_iff, Nat.left_eq_add, Nat.add_eq_left, Bool.true_or, Bool.or_true, Bool.or_self, or_self, or_true, true_or, or_false, false_or, decide_true, decide_false, i_10, i_01, f0, f1, f2, f3, f4, f5, v0, v1, v2, v3, v4, v5, w1, w2, w3, w4, w5, w6, w7, w8, w9, w10, a1, a2, a3, a4, a5', a6, a7, a8, a9, a10, w12, ix, cx, iy, cy]
theorem nI_m1 {A : Nat} (hA : 0 < A) : nI A - 1 = nI (A - 1) := by
  have := nI_pred (A - 1)
  rw [show A - 1 + 1 = A by omega] at this
  exact this
theorem c_undoLast (H : Hp h σ τ v s q e1 e2) (hA : A ≤ 16) (h0 : 0 < A) (hs : τ 26 1 = nI A) {h' : xH} (o1 : 28 ≤ q (A - 1)) (o2 : q (A - 1) ≤ 43) (hc : xC M_Act_undoIn [.ref (q (A - 1)), .ref v] (sf h 26 1 1 (.int (nI (A - 1)))) = some (none, h')) : xC M_ActRow_undoLast [.ref 26, .ref v] h = some (none, h') := by
  have H1 := Hp_sf (c := 1) H (a := 26) (k := 1) rfl rfl (nI (A - 1))
  have f0 := hR H 26 1 0 27 rfl rfl
  have f1 := hI H 26 1 1 rfl rfl
  rw [hs] at f1
  have m := H.2.2.2.2.2.1.1
  have y1 : ¬ nI A ≤ 0 := nI_nle h0 (by omega)
  have ia := xin_nI (show A - 1 < 16 by omega) (by decide)
  have ca := nI_clamp (show A - 1 < 2 ^ 31 by omega)
  have c1 := call_v (lv := 3) hc (by rw [show xmo M_Act_undoIn = 0 from rfl, hO H1 o1 o2 (k := 0) (by omega)]; rfl) (by decide) (Nat.le_of_ble_eq_true rfl)
  have qA : qf q (A - 1) = some (q (A - 1)) := if_pos (by omega)
  simp only [k_ActRow_undoLast, e_ActRow_undoLast_0, e_ActRow_undoLast_1, e_ActRow_undoLast_4, e_ActRow_undoLast_7, e_ActRow_undoLast_8, e_ActRow_undoLast_9, e_ActRow_undoLast_12, e_ActRow_undoLast_13, e_ActRow_undoLast_14, e_ActRow_undoLast_17, e_ActRow_undoLast_18, e_ActRow_undoLast_21, e_ActRow_undoLast_22, e_ActRow_undoLast_25, e_ActRow_undoLast_26, e_ActRow_undoLast_27, e_ActRow_undoLast_30, m_aa, m_get, m_put, m_ia, m_is, m_la, m_ls, fl_sf, fl_sa, fl_sl, fl_sq, ar_sf, ar_sa, ar_sl, ar_sq, lr_sf, lr_sa, lr_sl, lr_sq, qr_sf, qr_sa, qr_sl, qr_sq, sf_1, sf_2, sa_1, sa_2, sl_1, sl_2, Option.isSome_some, Option.map_some, Option.map_none, Option.toList_some, Option.toList_none, List.nil_append, List.cons_append, List.singleton_append, if_true, if_false, ↓reduceIte, and_self, and_true, true_and, and_false, false_and, not_true, not_false_iff, reduceCtorEq, Nat.reduceEqDiff, Nat.reduceAdd, Nat.reduceSub, Nat.reduceMul, Nat.reduceLT, Nat.reduceLeDiff, Nat.reduceBEq, eq_self, ne_eq, Nat.add_eq_zero_iff, Nat.add_left_cancel_iff, Nat.add_right_cancel_iff, Nat.left_eq_add, Nat.add_eq_left, Bool.true_or, Bool.or_true, Bool.or_self, or_self, or_true, true_or, or_false, false_or, decide_true, decide_false, i_10, i_01, f0, f1, y1, nI_m1 h0, m, ia, ca, qA, c1]
theorem rem15 : ∀ X, X < 16 → nI X + 15 - (nI X + 15) / 16 * 16 = nI ((X + 15) % 16) := by decide +kernel
theorem cM_undo (H : Hp h σ τ v s q e1 e2) (hX : X < 16) (hA : A ≤ 16) (h0 : 0 < A) (x24 : τ 75 24 = nI X) (x23 : τ 75 23 = nI A) : ∃ h', xC M_Md_undo [.ref 75] h = some (some (.int (nI (A - 1))), h') ∧ Hp h' (us σ 84 (cpI (σ 84) (fun k => σ 86 (24 * ((X + 15) % 16) + k)) 0 24)) (ut (ut τ 75 23 (nI (A - 1))) 75 24 (nI ((X + 15) % 16))) v s q e1 e2 := by
  have H1 := Hp_sf (c := 9) (Hp_sf (c := 9) H (a := 75) (k := 23) rfl rfl (nI (A - 1))) (a := 75) (k := 24) rfl rfl (nI ((X + 15) % 16))
  have f24 := hI H 75 9 24 rfl rfl
  have f23 := hI H 75 9 23 rfl rfl
  rw [x24] at f24
  rw [x23] at f23
  have y1 : ¬ nI A = 0 := nI_ne0 h0 (by omega)
  have H2 := Hp_sa (t := 0) (n := 24) H1 (a := 84) rfl rfl (cpI (σ 84) (fun k => σ 86 (24 * ((X + 15) % 16) + k)) 0 24)
  refine ⟨_, ?_, H2⟩
  simp only [k_Md_undo, e_Md_undo_0, e_Md_undo_1, e_Md_undo_4, e_Md_undo_7, e_Md_undo_9, e_Md_undo_10, e_Md_undo_11, e_Md_undo_12, e_Md_undo_15, e_Md_undo_16, e_Md_undo_17, e_Md_undo_20, e_Md_undo_21, e_Md_undo_22, e_Md_undo_25, e_Md_undo_27, e_Md_undo_28, e_Md_undo_30, e_Md_undo_31, e_Md_undo_34, e_Md_undo_35, m_get, m_put, m_ia, m_is, m_la, m_ls, fl_sf, fl_sa, fl_sl, fl_sq, ar_sf, ar_sa, ar_sl, ar_sq, lr_sf, lr_sa, lr_sl, lr_sq, qr_sf, qr_sa, qr_sl, qr_sq, sf_1, sf_2, sa_1, sa_2, sl_1, sl_2, Option.isSome_some, Option.map_some, Option.map_none, Option.toList_some, Option.toList_none, List.nil_append, List.cons_append, List.singleton_append, if_true, if_false, ↓reduceIte, and_self, and_true, true_and, and_false, false_and, not_true, not_false_iff, reduceCtorEq, Nat.reduceEqDiff, Nat.reduceAdd, Nat.reduceSub, Nat.reduceMul, Nat.reduceLT, Nat.reduceLeDiff, Nat.reduceBEq, eq_self, ne_eq, Nat.add_eq_zero_iff, Nat.add_left_cancel_iff, Nat.add_right_cancel_iff, Nat.left_eq_add, Nat.add_eq_left, Bool.true_or, Bool.or_true, Bool.or_self, or_self, or_true, true_or, or_false, false_or, decide_true, decide_false, i_10, i_01, f24, f23, y1, nI_m1 h0, rem15 X hX, n160]
  have r84 := H1.1 84 24 rfl
  have r86 := H1.1 86 384 rfl
  rw [show rty 84 = 0 from rfl] at r84
  rw [show rty 86 = 0 from rfl] at r86
  have g18 := hR H1 75 9 18 84 rfl rfl
  have g25 := hR H1 75 9 25 86 rfl rfl
  have g24 := hI H1 75 9 24 rfl rfl
  have g23 := hI H1 75 9 23 rfl rfl
  rw [show ut (ut τ 75 23 (nI (A - 1))) 75 24 (nI ((X + 15) % 16)) 75 24 = nI ((X + 15) % 16) from rfl] at g24
  rw [show ut (ut τ 75 23 (nI (A - 1))) 75 24 (nI ((X + 15) % 16)) 75 23 = nI (A - 1) from rfl] at g23
  generalize sf (sf h 75 9 23 (.int (nI (A - 1)))) 75 9 24 (.int (nI ((X + 15) % 16))) = g at *
  have Y := (X + 15) % 16
  have key := loop_dn (t := 24) (P := fun k => xR none 0 M_Md_undo 36 [some (.ref 75), some (.int (nI k))] [] (sa g 84 0 (cpI (σ 84) (fun k => σ 86 (24 * ((X + 15) % 16) + k)) 0 k)) = some (some (.int (nI (A - 1))), sa g 84 0 (cpI (σ 84) (fun k => σ 86 (24 * ((X + 15) % 16) + k)) 0 24))) ?_ ?_ 0 (Nat.zero_le _)
  · rw [nI_0, cpI_0, sa_self r84] at key
    exact key
  · have k24 : (24 : Int32) ≤ nI 24 := Int32.le_refl _
    simp only [e_Md_undo_36, e_Md_undo_37, e_Md_undo_39, e_Md_undo_68, e_Md_undo_69, e_Md_undo_72, m_get, m_put, m_ia, m_is, m_la, m_ls, fl_sf, fl_sa, fl_sl, fl_sq, ar_sf, ar_sa, ar_sl, ar_sq, lr_sf, lr_sa, lr_sl, lr_sq, qr_sf, qr_sa, qr_sl, qr_sq, sf_1, sf_2, sa_1, sa_2, sl_1, sl_2, Option.isSome_some, Option.map_some, Option.map_none, Option.toList_some, Option.toList_none, List.nil_append, List.cons_append, List.singleton_append, if_true, if_false, ↓reduceIte, and_self, and_true, true_and, and_false, false_and, not_true, not_false_iff, reduceCtorEq, Nat.reduceEqDiff, Nat.reduceAdd, Nat.reduceSub, Nat.reduceMul, Nat.reduceLT, Nat.reduceLeDiff, Nat.reduceBEq, eq_self, ne_eq, Nat.add_eq_zero_iff, Nat.add_left_cancel_iff, Nat.add_right_cancel_iff, Nat.left_eq_add, Nat.add_eq_left, Bool.true_or, Bool.or_true, Bool.or_self, or_self, or_true, true_or, or_false, false_or, decide_true, decide_false, i_10, i_01, k24, g23]
  · intro k hk ih
    have q1 : ¬ (24 : Int32) ≤ nI k := nI_ge (b := 24) hk (by decide)
    have ik := xin_nI hk (by decide)
    have ck := nI_clamp (show k < 2 ^ 31 by omega)
    have im := xin_nI (show 24 * ((X + 15) % 16) + k < 384 by omega) (by decide)
    have cm := nI_clamp (show 24 * ((X + 15) % 16) + k < 2 ^ 31 by omega)
    have zz := cpI_s (σ 84) (fun k => σ 86 (24 * ((X + 15) % 16) + k)) 0 k
    rw [Nat.zero_add] at zz
    rw [← nI_1, ← zz, ← sa_sa g 84 0 (cpI (σ 84) (fun k => σ 86 (24 * ((X + 15) % 16) + k)) 0 k)] at ih
    rw [e_Md_undo_36]
    simp only [e_Md_undo_37, e_Md_undo_39, e_Md_undo_42, e_Md_undo_43, e_Md_undo_46, e_Md_undo_47, e_Md_undo_48, e_Md_undo_51, e_Md_undo_53, e_Md_undo_54, e_Md_undo_57, e_Md_undo_58, e_Md_undo_59, e_Md_undo_60, e_Md_undo_61, e_Md_undo_62, e_Md_undo_65, m_get, m_put, m_ia, m_is, m_la, m_ls, fl_sf, fl_sa, fl_sl, fl_sq, ar_sf, ar_sa, ar_sl, ar_sq, lr_sf, lr_sa, lr_sl, lr_sq, qr_sf, qr_sa, qr_sl, qr_sq, sf_1, sf_2, sa_1, sa_2, sl_1, sl_2, Option.isSome_some, Option.map_some, Option.map_none, Option.toList_some, Option.toList_none, List.nil_append, List.cons_append, List.singleton_append, if_true, if_false, ↓reduceIte, and_self, and_true, true_and, and_false, false_and, not_true, not_false_iff, reduceCtorEq, Nat.reduceEqDiff, Nat.reduceAdd, Nat.reduceSub, Nat.reduceMul, Nat.reduceLT, Nat.reduceLeDiff, Nat.reduceBEq, eq_self, ne_eq, Nat.add_eq_zero_iff, Nat.add_left_cancel_iff, Nat.add_right_cancel_iff, Nat.left_eq_add, Nat.add_eq_left, Bool.true_or, Bool.or_true, Bool.or_self, or_self, or_true, true_or, or_false, false_or, decide_true, decide_false, i_10, i_01, q1, r84, r86, g18, g25, g24, ik, ck, im, cm, m24]
    exact ih
theorem undo_fin {e : Int64} {len z : Nat} {h1 : xH} {σ1 τ1 : Nat → Nat → Int32} (H : Hp h σ τ v s q e e) (rv : rlV p t n v σ τ) (rt : rlT len σ τ) (ra : rlA A X p t σ τ q) (rk : rlK p t σ τ) (rs : rlS z σ τ) (ry : rlY σ) (h0 : 0 < A) (H1 : Hp h1 σ1 τ1 v s q e e) (run : xC M_Sp_undo [.ref 1] h = some (some (.int (nI (A - 1))), h1)) (c1 : ∀ a, ¬ (a = v + 1 ∨ (v + 5 ≤ a ∧ a ≤ v + 7)) → σ1 a = σ a) (c2 : ∀ b k, ¬ ((b = v ∧ k = 2) ∨ (b = 26 ∧ k = 1)) → τ1 b k = τ b k) (t26 : τ1 26 1 = nI (A - 1)) (g0 : τ1 v 2 = sn σ X 1 23) (g1 : ∀ i, i < p → σ1 (v + 1) i = sn σ X 1 i) (g2 : ∀ j, j < t → σ1 (v + 5) j = sn σ X 1 (5 + j) ∧ σ1 (v + 6) j = sn σ X 1 (11 + j) ∧ σ1 (v + 7) j = sn σ X 1 (17 + j)) : Op h M_Sp_undo M_Md_undo [] := by
  have rv0 := rv
  have ra0 := ra
  obtain ⟨⟨⟨vp, vt, vn⟩, p5, t6, n8⟩, ⟨vl, vc, vd, up, uu, un⟩, ⟨bl, bc⟩, ag1, ag2, ag3, bo, bn, ks, st⟩ := rv
  obtain ⟨⟨hA, hX, x26, x23, x24⟩, ⟨qb, qi⟩, hh⟩ := ra
  have hv := H.2.2.2.1.1
  obtain ⟨h2, d2, H2⟩ := cM_undo H1 hX hA h0 (by rw [c2 75 24 (by omega), x24]) (by rw [c2 75 23 (by omega), x23])
  rw [c1 84 (by omega), c1 86 (by omega)] at H2
  have E : ∀ k, k < 24 → cpI (σ 84) (fun k => σ 86 (24 * ((X + 15) % 16) + k)) 0 24 k = sn σ X 1 k := fun k hk => by
    have := cpI_in (g := σ 84) (f := fun k => σ 86 (24 * ((X + 15) % 16) + k)) (o := 0) hk
    rw [Nat.zero_add] at this
    rw [this]
    unfold sn
    rw [if_neg (by omega)]
    rfl
  have tt : ∀ b k, ¬ (b = 75 ∧ (k = 23 ∨ k = 24)) → ut (ut τ1 75 23 (nI (A - 1))) 75 24 (nI ((X + 15) % 16)) b k = τ1 b k := fun b k hn => by
    simp only [ut]
    rw [if_neg (by omega), if_neg (by omega)]
  have ss : ∀ a, a ≠ 84 → us σ1 84 (cpI (σ 84) (fun k => σ 86 (24 * ((X + 15) % 16) + k)) 0 24) a = σ1 a := fun a hn => by
    simp only [us]
    rw [if_neg hn]
  have s84 : us σ1 84 (cpI (σ 84) (fun k => σ 86 (24 * ((X + 15) % 16) + k)) 0 24) 84 = cpI (σ 84) (fun k => σ 86 (24 * ((X + 15) % 16) + k)) 0 24 := by simp only [us, if_true]
  refine ⟨.int (nI (A - 1)), h1, h2, run, d2, ⟨_, _, v, s, q, e, p, t, n, len, A - 1, (X + 15) % 16, z, H2, ?_, rlT_cg rt ⟨by rw [ss _ (by omega), c1 _ (by omega)], by rw [ss _ (by omega), c1 _ (by omega)]⟩ ⟨by rw [tt _ _ (by omega), c2 _ _ (by omega)], by rw [tt _ _ (by omega), c2 _ _ (by omega)]⟩, ?_, rlK_cg rk (fun a ha => by rw [ss _ (by omega), c1 _ (by omega)]) (fun b k hk => by rw [tt _ _ (by omega), c2 _ _ (by omega)]), rlS_cg rs (fun a ha => by rw [ss _ (by omega), c1 _ (by omega)]) ⟨by rw [tt _ _ (by omega), c2 _ _ (by omega)], by rw [tt _ _ (by omega), c2 _ _ (by omega)]⟩, rlY_cg ry (by rw [ss _ (by omega), c1 _ (by omega)])⟩, Hp_1 H, Hp_75 H1⟩
  · refine rlV_new rv0 (fun a ha => by rw [ss _ (by omega), c1 _ (by omega)]) (fun k hk => by rw [tt _ _ (by omega), c2 _ _ (by omega)]) (fun k hk => by rw [tt _ _ (by omega), c2 _ _ (by omega)]) s84 (by rw [tt _ _ (by omega), g0, E 23 (by omega)]) (fun i hi => by rw [ss _ (by omega), E i (by omega)]; exact g1 i hi) (fun j hj => ?_) (St_cg t6 E (hh 0 h0).1)
    rw [ss _ (by omega), ss _ (by omega), ss _ (by omega), E _ (by omega), E _ (by omega), E _ (by omega)]
    exact g2 j hj
  · refine rlA_pop p5 t6 ra0 h0 (by rw [ss _ (by omega), c1 _ (by omega)]) (by rw [ss _ (by omega), c1 _ (by omega)]) (fun k hk => by rw [s84]; exact E k hk) (by rw [tt _ _ (by omega), t26]) (by rw [ut, if_neg (by omega), ut, if_pos ⟨rfl, rfl⟩]) (by rw [ut, if_pos ⟨rfl, rfl⟩]) (fun i hi => ?_)
    have := qb i hi
    funext k
    rw [tt _ _ (by omega), c2 _ _ (by omega)]
theorem op_undo (R : Rel h) : Op h M_Sp_undo M_Md_undo [] := by
  have R0 := R
  obtain ⟨σ, τ, v, s, q, e, p, t, n, len, A, X, z, H, rv, rt, ra, rk, rs, ry⟩ := R
  have rv0 := rv
  have ra0 := ra
  obtain ⟨⟨⟨vp, vt, vn⟩, p5, t6, n8⟩, ⟨vl, vc, vd, up, uu, un⟩, ⟨bl, bc⟩, ag1, ag2, ag3, bo, bn, ks, st⟩ := rv
  obtain ⟨⟨hA, hX, x26, x23, x24⟩, ⟨qb, qi⟩, hh⟩ := ra
  have m := H.2.2.2
  have hv := m.1.1
  have fh := m.1.2.1
  have f5 := hR H 1 8 5 26 rfl rfl
  have f1 := hI H 26 1 1 rfl rfl
  rw [x26] at f1
  rcases Nat.eq_zero_or_pos A with w | h0
  · subst w
    have f23 := hI H 75 9 23 rfl rfl
    rw [x23] at f23
    exact ⟨.int (-3), h, h, by simp only [k_Sp_undo, e_Sp_undo_0, e_Sp_undo_1, e_Sp_undo_4, e_Sp_undo_7, e_Sp_undo_10, e_Sp_undo_12, e_Sp_undo_13, e_Sp_undo_14, e_Sp_undo_17, e_Sp_undo_18, e_Sp_undo_21, e_Sp_undo_24, e_Sp_undo_25, e_Sp_undo_28, e_Sp_undo_31, m_get, m_put, m_ia, m_is, m_la, m_ls, fl_sf, fl_sa, fl_sl, fl_sq, ar_sf, ar_sa, ar_sl, ar_sq, lr_sf, lr_sa, lr_sl, lr_sq, qr_sf, qr_sa, qr_sl, qr_sq, sf_1, sf_2, sa_1, sa_2, sl_1, sl_2, Option.isSome_some, Option.map_some, Option.map_none, Option.toList_some, Option.toList_none, List.nil_append, List.cons_append, List.singleton_append, if_true, if_false, ↓reduceIte, and_self, and_true, true_and, and_false, false_and, not_true, not_false_iff, reduceCtorEq, Nat.reduceEqDiff, Nat.reduceAdd, Nat.reduceSub, Nat.reduceMul, Nat.reduceLT, Nat.reduceLeDiff, Nat.reduceBEq, eq_self, ne_eq, Nat.add_eq_zero_iff, Nat.add_left_cancel_iff, Nat.add_right_cancel_iff, Nat.left_eq_add, Nat.add_eq_left, Bool.true_or, Bool.or_true, Bool.or_self, or_self, or_true, true_or, or_false, false_or, decide_true, decide_false, i_10, i_01, f5, f1, nI_0], by simp only [k_Md_undo, e_Md_undo_0, e_Md_undo_1, e_Md_undo_4, e_Md_undo_7, e_Md_undo_9, m_get, m_put, m_ia, m_is, m_la, m_ls, fl_sf, fl_sa, fl_sl, fl_sq, ar_sf, ar_sa, ar_sl, ar_sq, lr_sf, lr_sa, lr_sl, lr_sq, qr_sf, qr_sa, qr_sl, qr_sq, sf_1, sf_2, sa_1, sa_2, sl_1, sl_2, Option.isSome_some, Option.map_some, Option.map_none, Option.toList_some, Option.toList_none, List.nil_append, List.cons_append, List.singleton_append, if_true, if_false, ↓reduceIte, and_self, and_true, true_and, and_false, false_and, not_true, not_false_iff, reduceCtorEq, Nat.reduceEqDiff, Nat.reduceAdd, Nat.reduceSub, Nat.reduceMul, Nat.reduceLT, Nat.reduceLeDiff, Nat.reduceBEq, eq_self, ne_eq, Nat.add_eq_zero_iff, Nat.add_left_cancel_iff, Nat.add_right_cancel_iff, Nat.left_eq_add, Nat.add_eq_left, Bool.true_or, Bool.or_true, Bool.or_self, or_self, or_true, true_or, or_false, false_or, decide_true, decide_false, i_10, i_01, f23, nI_0], R0, Hp_1 H, Hp_75 H⟩
  · have y1 : ¬ nI A = 0 := nI_ne0 h0 (by omega)
    obtain ⟨o1, o2⟩ := qb (A - 1) (by omega)
    have Ha := Hp_sf (c := 1) H (a := 26) (k := 1) rfl rfl (nI (A - 1))
    have ev : ∀ b k, ¬ (b = 26 ∧ k = 1) → ut τ 26 1 (nI (A - 1)) b k = τ b k := fun b k hn => by
      simp only [ut]
      rw [if_neg hn]
    have run : ∀ {h1 : xH} {σ1 τ1 : Nat → Nat → Int32}, xC M_Act_undoIn [.ref (q (A - 1)), .ref v] (sf h 26 1 1 (.int (nI (A - 1)))) = some (none, h1) → Hp h1 σ1 τ1 v s q e e → τ1 26 1 = nI (A - 1) → xC M_Sp_undo [.ref 1] h = some (some (.int (nI (A - 1))), h1) := fun {h1 σ1 τ1} hc H1 t26 => by
      have c1 := call_v (lv := 4) (c_undoLast H hA h0 x26 o1 o2 hc) (by rw [show xmo M_ActRow_undoLast = 1 from rfl, hR H 26 1 0 27 rfl rfl]; rfl) (by decide) (Nat.le_of_ble_eq_true rfl)
      have g5 := hR H1 1 8 5 26 rfl rfl
      have g1 := hI H1 26 1 1 rfl rfl
      rw [t26] at g1
      simp only [k_Sp_undo, e_Sp_undo_0, e_Sp_undo_1, e_Sp_undo_4, e_Sp_undo_7, e_Sp_undo_10, e_Sp_undo_12, e_Sp_undo_13, e_Sp_undo_14, e_Sp_undo_17, e_Sp_undo_18, e_Sp_undo_21, e_Sp_undo_24, e_Sp_undo_25, e_Sp_undo_28, e_Sp_undo_31, m_get, m_put, m_ia, m_is, m_la, m_ls, fl_sf, fl_sa, fl_sl, fl_sq, ar_sf, ar_sa, ar_sl, ar_sq, lr_sf, lr_sa, lr_sl, lr_sq, qr_sf, qr_sa, qr_sl, qr_sq, sf_1, sf_2, sa_1, sa_2, sl_1, sl_2, Option.isSome_some, Option.map_some, Option.map_none, Option.toList_some, Option.toList_none, List.nil_append, List.cons_append, List.singleton_append, if_true, if_false, ↓reduceIte, and_self, and_true, true_and, and_false, false_and, not_true, not_false_iff, reduceCtorEq, Nat.reduceEqDiff, Nat.reduceAdd, Nat.reduceSub, Nat.reduceMul, Nat.reduceLT, Nat.reduceLeDiff, Nat.reduceBEq, eq_self, ne_eq, Nat.add_eq_zero_iff, Nat.add_left_cancel_iff, Nat.add_right_cancel_iff, Nat.left_eq_add, Nat.add_eq_left, Bool.true_or, Bool.or_true, Bool.or_self, or_self, or_true, true_or, or_false, false_or, decide_true, decide_false, i_10, i_01, f5, f1, y1, fh, c1, g5, g1]
    obtain ⟨s1, u⟩ := hh 0 h0
    rw [show A - 1 - 0 = A - 1 by omega, show sn σ X 0 = σ 84 from rfl] at u
    have b26 : ut τ 26 1 (nI (A - 1)) 26 1 = nI (A - 1) := by rw [ut, if_pos ⟨rfl, rfl⟩]
    rcases u with ⟨u1, u2⟩ | ⟨u1, x, hx, u2, u3⟩ | ⟨u1, x, y, hx, hy, u2, u3, u4⟩
    · have d := c_undo2 Ha o1 o2 (by rw [ev _ _ (by omega)]; exact u1) (t := t) (by rw [ev _ _ (by omega)]; exact uu) t6
      rw [ev v 2 (by omega)] at d
      have H1 := Hp_sa (t := 0) (n := 6) (Hp_sf (c := 7) Ha (a := v) (k := 2) (by rcases hv with rfl | rfl <;> rfl) (by rcases hv with rfl | rfl <;> rfl) (τ v 2 + (-1))) (a := v + 7) (by rcases hv with rfl | rfl <;> rfl) (by rcases hv with rfl | rfl <;> rfl) (ouD (σ (v + 6)) (σ (v + 3)) (σ (v + 7)) (-1) t)
      have t26 : ut (ut τ 26 1 (nI (A - 1))) v 2 (τ v 2 + (-1)) 26 1 = nI (A - 1) := by rw [ut, if_neg (by omega), b26]
      refine undo_fin H rv0 rt ra0 rk rs ry h0 H1 (run d H1 t26) (fun a ha => (by first | rfl | (simp only [us, ut]; repeat rw [if_neg (by omega)]))) (fun b k hn => (by simp only [ut]; repeat rw [if_neg (by omega)])) t26 ?_ (fun i hi => ?_) (fun j hj => ?_)
      · rw [ut, if_pos ⟨rfl, rfl⟩, u2 23 (by unfold rl; omega), vd]
        rfl
      · rw [u2 i (by unfold rl; omega)]
        unfold dyb
        rw [if_neg (by omega), if_neg (by omega), us, if_neg (by omega)]
        exact (ag1 i hi).1
      · obtain ⟨z1, z2, z3, z4, z5⟩ := ag2 j hj
        rw [u2 (5 + j) (by unfold rl; omega), u2 (11 + j) (by unfold rl; omega), u2 (17 + j) (by unfold rl; omega)]
        unfold dyb
        rw [if_neg (by omega), if_neg (by omega), if_neg (by omega), if_neg (by omega), if_neg (by omega), show 17 + j - 6 = 11 + j by omega, show 17 + j - 17 = j by omega]
        simp only [us]
        rw [if_neg (by omega), if_neg (by omega), if_true]
        refine ⟨z3, z4, ?_⟩
        show ouD _ _ _ _ _ j = _
        unfold ouD
        rw [if_pos hj, z4, z1, z5]
        by_cases w : σ 84 (11 + j) = σ 81 j
        · rw [if_pos w, if_neg (fun y => y.2 w)]
        · rw [if_neg w, if_pos ⟨by omega, w⟩]
    · have d := c_undo0 Ha o1 o2 (by rw [ev _ _ (by omega)]; exact u1) (x := x) (by omega) (by rw [ev _ _ (by omega)]; exact u2)
      have H1 := Hp_sa (t := 0) (n := 6) (Hp_sa (t := 0) (n := 6) Ha (a := v + 6) (by rcases hv with rfl | rfl <;> rfl) (by rcases hv with rfl | rfl <;> rfl) (upd (σ (v + 6)) x (σ (v + 3) x))) (a := v + 7) (by rcases hv with rfl | rfl <;> rfl) (by rcases hv with rfl | rfl <;> rfl) (upd (σ (v + 7)) x 0)
      refine undo_fin H rv0 rt ra0 rk rs ry h0 H1 (run d H1 b26) (fun a ha => (by first | rfl | (simp only [us, ut]; repeat rw [if_neg (by omega)]))) (fun b k hn => (by simp only [ut]; repeat rw [if_neg (by omega)])) b26 ?_ (fun i hi => ?_) (fun j hj => ?_)
      · rw [ev _ _ (by omega), u3 23 (by unfold rl; omega), up_lt (by omega), up_lt (by omega), vd]
      · rw [u3 i (by unfold rl; omega), up_lt (by omega), up_lt (by omega)]
        simp only [us]
        rw [if_neg (by omega), if_neg (by omega)]
        exact (ag1 i hi).1
      · obtain ⟨z1, z2, z3, z4, z5⟩ := ag2 j hj
        have zx := (ag2 x hx).1
        rw [u3 (5 + j) (by unfold rl; omega), u3 (11 + j) (by unfold rl; omega), u3 (17 + j) (by unfold rl; omega), up_lt (k := 17 + x) (by omega), up_lt (by omega), up_lt (k := 17 + x) (by omega)]
        simp only [us]
        rw [if_neg (by omega), if_neg (by omega), if_neg (by omega), if_true, if_true]
        refine ⟨z3, ?_, ?_⟩
        · by_cases w : j = x
          · rw [w, up_eq, up_eq, zx]
          · rw [up_lt w, up_lt (by omega), z4]
        · by_cases w : j = x
          · rw [w, up_eq, up_eq]
          · rw [up_lt w, up_lt (by omega), up_lt (by omega), z5]
    · have d := c_undo1 Ha o1 o2 (by rw [ev _ _ (by omega)]; exact u1) (x := x) (y := y) (by omega) (by omega) (by rw [ev _ _ (by omega)]; exact u2) (by rw [ev _ _ (by omega)]; exact u3)
      rw [ev _ 2 (by omega), ev _ 3 (by omega), ev _ 4 (by omega), ev _ 5 (by omega)] at d
      have H1 := Hp_sa (t := 0) (n := 6) (Hp_sa (t := 0) (n := 6) (Hp_sa (t := 0) (n := 6) (Hp_sa (t := 0) (n := 5) Ha (a := v + 1) (by rcases hv with rfl | rfl <;> rfl) (by rcases hv with rfl | rfl <;> rfl) (upd (σ (v + 1)) y (σ (v + 1) y + τ (q (A - 1)) 5))) (a := v + 5) (by rcases hv with rfl | rfl <;> rfl) (by rcases hv with rfl | rfl <;> rfl) (upd (σ (v + 5)) x (σ (v + 5) x - τ (q (A - 1)) 4))) (a := v + 6) (by rcases hv with rfl | rfl <;> rfl) (by rcases hv with rfl | rfl <;> rfl) (upd (σ (v + 6)) x (τ (q (A - 1)) 2))) (a := v + 7) (by rcases hv with rfl | rfl <;> rfl) (by rcases hv with rfl | rfl <;> rfl) (upd (σ (v + 7)) x (τ (q (A - 1)) 3))
      refine undo_fin H rv0 rt ra0 rk rs ry h0 H1 (run d H1 b26) (fun a ha => (by first | rfl | (simp only [us, ut]; repeat rw [if_neg (by omega)]))) (fun b k hn => (by simp only [ut]; repeat rw [if_neg (by omega)])) b26 ?_ (fun i hi => ?_) (fun j hj => ?_)
      · rw [ev _ _ (by omega), u4 23 (by unfold rl; omega), up_lt (by omega), up_lt (by omega), up_lt (by omega), up_lt (by omega), vd]
      · rw [u4 i (by unfold rl; omega), up_lt (by omega), up_lt (by omega), up_lt (by omega)]
        simp only [us]
        rw [if_neg (by omega), if_neg (by omega), if_neg (by omega), if_true]
        by_cases w : i = y
        · rw [w, up_eq, up_eq, (ag1 y hy).1]
        · rw [up_lt w, up_lt w]
          exact (ag1 i hi).1
      · obtain ⟨z1, z2, z3, z4, z5⟩ := ag2 j hj
        have zx := (ag2 x hx).2.2.1
        rw [u4 (5 + j) (by unfold rl; omega), u4 (11 + j) (by unfold rl; omega), u4 (17 + j) (by unfold rl; omega), up_lt (k := 17 + x) (i := 5 + j) (by omega), up_lt (k := 11 + x) (i := 5 + j) (by omega), up_lt (k := 17 + x) (i := 11 + j) (by omega)]
        simp only [us, if_true]
        rw [if_neg (by omega), if_neg (by omega), if_neg (by omega)]
        refine ⟨?_, ?_, ?_⟩
        · by_cases w : j = x
          · rw [w, up_eq, up_eq, zx]
          · rw [up_lt w, up_lt (by omega), up_lt (by omega), z3]
        · by_cases w : j = x
          · rw [w, up_eq, up_eq]
          · rw [up_lt w, up_lt (by omega), up_lt (by omega), up_lt (by omega), z4]
        · by_cases w : j = x
          · rw [w, up_eq, up_eq]
          · rw [up_lt w, up_lt (by omega), up_lt (by omega), up_lt (by omega), up_lt (by omega), z5]
end UNDO
