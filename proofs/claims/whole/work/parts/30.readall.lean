def RdA (h : xH) : Prop := ∃ y0 y1 y2 y3 y4 : Value, fl h 3 5 0 = some y0 ∧ fl h 3 5 1 = some y1 ∧ fl h 3 5 2 = some y2 ∧ fl h 3 5 3 = some y3 ∧ fl h 3 5 4 = some y4
def VilA (h : xH) (v : Nat) : Prop := ∃ (la ca da pe th ne : Int32) (co kn ow so gr ho ou np ns nd : Nat → Int32), Vil h v la ca da pe th ne co kn ow so gr ho ou np ns nd
def MrA (h : xH) (len : Nat) (tx : Nat → Int32) : Prop := ∃ (a : Nat) (ft pe th ne ru hi : Int32) (rc rk rt rn : Nat → Int32), Mrd h len a ft pe th ne ru hi rc rk rt rn tx
theorem Rdr_A {h : xH} {v len a : Nat} {st : Int32} {tx : Nat → Int32} (hR : Rdr h v len a st tx) : RdA h := ⟨_, _, _, _, _, hR.1, hR.2.1, hR.2.2.1, hR.2.2.2.1, hR.2.2.2.2.1⟩
theorem b_1022 : ∀ k, k < 32 → bt 1022 k = decide (1 ≤ k ∧ k ≤ 9) := by decide +kernel
section RA
variable {v len : Nat} {tx : Nat → Int32}
/-- the beginning of the class's reading -/
theorem ri_begin (hv : 4 ≤ v) (hl : len ≤ 90) {h : xH} (hA : RdA h) (h2 : ar h 2 0 = some (90, tx)) (hV : VilA h v) : ∃ (h1 : xH) (la ca : Int32) (co kn ow so gr ho ou np ns nd : Nat → Int32), Rdr h1 v len 0 0 tx ∧ Vil h1 v la ca 0 (nI 0) (nI 0) (nI 0) co kn ow so gr ho ou np ns nd ∧ fr (PP v) h h1 ∧
    ∀ h2, xC M_Reader_readHead [.ref 3] h1 = some (none, h2) → xC M_Reader_readInto [.ref 3, .ref v, .ref 2, .int (nI len)] h = xR none 5 M_Reader_readInto 44 [some (.ref 3), some (.ref v), some (.ref 2), some (.int (nI len)), some (.int (nI 0))] [] h2 := by
  obtain ⟨y0, y1, y2, y3, y4, r0, r1, r2, r3, r4⟩ := hA
  obtain ⟨la, ca, da, pe, th, ne, co, kn, ow, so, gr, ho, ou, np, ns, nd, hV⟩ := hV
  have hln : ∀ k : Int32 → xQ, rln (sf (sf h 3 5 0 (.ref v)) 3 5 1 (.ref 2)) 2 k = k 90 := fun k => m_lnI (g := tx) _ 2 k (by simp only [m_get, m_put, m_ia, m_is, m_la, m_ls, fl_sf, fl_sa, fl_sl, fl_sq, ar_sf, ar_sa, ar_sl, ar_sq, lr_sf, lr_sa, lr_sl, lr_sq, qr_sf, qr_sa, qr_sl, qr_sq, sf_1, sf_2, sa_1, sa_2, sl_1, sl_2, h2]) (by decide)
  have qm : ¬ (90 : Int32) < nI len := nI_nlt (a := 90) (b := len) hl (by decide)
  have R1 : Rdr (sf (sf (sf (sf (sf h 3 5 0 (.ref v)) 3 5 1 (.ref 2)) 3 5 2 (.int (nI len))) 3 5 3 (.int 0)) 3 5 4 (.int 0)) v len 0 0 tx := by
    simp only [Rdr, m_get, m_put, m_ia, m_is, m_la, m_ls, fl_sf, fl_sa, fl_sl, fl_sq, ar_sf, ar_sa, ar_sl, ar_sq, lr_sf, lr_sa, lr_sl, lr_sq, qr_sf, qr_sa, qr_sl, qr_sq, sf_1, sf_2, sa_1, sa_2, sl_1, sl_2, Option.isSome_some, Option.map_some, Option.map_none, Option.toList_some, Option.toList_none, List.nil_append, List.cons_append, List.singleton_append, if_true, if_false, ↓reduceIte, and_self, and_true, true_and, and_false, false_and, not_true, not_false_iff, reduceCtorEq, Nat.reduceEqDiff, Nat.reduceAdd, Nat.reduceSub, Nat.reduceMul, Nat.reduceLT, Nat.reduceLeDiff, Nat.reduceBEq, eq_self, ne_eq, Nat.add_eq_zero_iff, Nat.add_left_cancel_iff, Nat.add_right_cancel_iff, Nat.left_eq_add, Nat.add_eq_left, Bool.true_or, Bool.or_true, Bool.or_self, or_self, or_true, true_or, or_false, false_or, decide_true, decide_false, i_10, i_01, r0, r1, r2, r3, r4, h2, nI_0]
  have f1 : fr (fun j => j = 3) h (sf (sf (sf (sf (sf h 3 5 0 (.ref v)) 3 5 1 (.ref 2)) 3 5 2 (.int (nI len))) 3 5 3 (.int 0)) 3 5 4 (.int 0)) := fr_sf (fr_sf (fr_sf (fr_sf (fr_sf (fr_refl _ _) rfl) rfl) rfl) rfl) rfl
  have V1 := V3 hv hV f1
  generalize hg : sf (sf (sf (sf (sf h 3 5 0 (.ref v)) 3 5 1 (.ref 2)) 3 5 2 (.int (nI len))) 3 5 3 (.int 0)) 3 5 4 (.int 0) = h1 at R1 f1 V1
  have c1 := call_v (lv := 5) (c_empty V1) (Vil_is V1) (by decide) (Nat.le_of_ble_eq_true rfl)
  have V2 := Vil_f5 (Vil_f4 (Vil_f3 (Vil_f2 V1 0) 0) 0) 0
  have g2 : fr (PV v) h1 (sf (sf (sf (sf h1 v 7 2 (.int 0)) v 7 3 (.int 0)) v 7 4 (.int 0)) v 7 5 (.int 0)) := fr_sf (fr_sf (fr_sf (fr_sf (fr_refl _ _) ⟨by omega, by omega⟩) ⟨by omega, by omega⟩) ⟨by omega, by omega⟩) ⟨by omega, by omega⟩
  have R2 := RV hv R1 g2
  refine ⟨_, _, _, _, _, _, _, _, _, _, _, _, _, R2, by rw [nI_0]; exact V2, fr_trans (f3P f1) (fVP g2), fun h3 hc => ?_⟩
  have c2 := call_v (lv := 5) hc (Rdr_is R2) (by decide) (Nat.le_of_ble_eq_true rfl)
  have z0 := R1.1
  simp only [k_Reader_readInto, e_Reader_readInto_0, e_Reader_readInto_1, e_Reader_readInto_2, e_Reader_readInto_5, e_Reader_readInto_6, e_Reader_readInto_7, e_Reader_readInto_10, e_Reader_readInto_11, e_Reader_readInto_12, e_Reader_readInto_13, e_Reader_readInto_14, e_Reader_readInto_17, e_Reader_readInto_20, e_Reader_readInto_21, e_Reader_readInto_22, e_Reader_readInto_25, e_Reader_readInto_26, e_Reader_readInto_27, e_Reader_readInto_30, e_Reader_readInto_31, e_Reader_readInto_34, e_Reader_readInto_37, e_Reader_readInto_38, e_Reader_readInto_41, e_Reader_readInto_42, m_get, m_put, m_ia, m_is, m_la, m_ls, fl_sf, fl_sa, fl_sl, fl_sq, ar_sf, ar_sa, ar_sl, ar_sq, lr_sf, lr_sa, lr_sl, lr_sq, qr_sf, qr_sa, qr_sl, qr_sq, sf_1, sf_2, sa_1, sa_2, sl_1, sl_2, Option.isSome_some, Option.map_some, Option.map_none, Option.toList_some, Option.toList_none, List.nil_append, List.cons_append, List.singleton_append, if_true, if_false, ↓reduceIte, and_self, and_true, true_and, and_false, false_and, not_true, not_false_iff, reduceCtorEq, Nat.reduceEqDiff, Nat.reduceAdd, Nat.reduceSub, Nat.reduceMul, Nat.reduceLT, Nat.reduceLeDiff, Nat.reduceBEq, eq_self, ne_eq, Nat.add_eq_zero_iff, Nat.add_left_cancel_iff, Nat.add_right_cancel_iff, Nat.left_eq_add, Nat.add_eq_left, Bool.true_or, Bool.or_true, Bool.or_self, or_self, or_true, true_or, or_false, false_or, decide_true, decide_false, i_10, i_01, r0, r1, r2, r3, r4, hln, qm, beq_self_eq_true, nI_0, hg, c1, c2, z0]
/-- the beginning of the reference's reading, where the text doesn't begin as a village -/
theorem mt_f0 (hl : len ≤ 90) {h : xH} {a : Nat} {ft pe th ne ru hi : Int32} {rc rk rt rn : Nat → Int32} (hM : Mrd h len a ft pe th ne ru hi rc rk rt rn tx) (hL : ¬ (0 < len ∧ tx 0 = 86)) : ∃ h', xC M_Md_readText [.ref 75] h = some (some (.int 0), h') ∧ MrA h' len tx ∧ frM KR PR h h' := by
  have M1 : Mrd (sf (sf (sf (sf (sf h 75 9 21 (.int 0)) 75 9 22 (.int (-9))) 75 9 4 (.int 0)) 75 9 5 (.int 0)) 75 9 6 (.int 0)) len 0 (-9) 0 0 0 ru hi rc rk rt rn tx := by
    obtain ⟨⟨m0, m1, m2, m3, m19⟩, ⟨m4, m5, m6, m7, m8, m20, m21, m22⟩, ⟨z76, z77, z78, z79, z85⟩⟩ := hM
    simp only [Mrd, m_get, m_put, m_ia, m_is, m_la, m_ls, fl_sf, fl_sa, fl_sl, fl_sq, ar_sf, ar_sa, ar_sl, ar_sq, lr_sf, lr_sa, lr_sl, lr_sq, qr_sf, qr_sa, qr_sl, qr_sq, sf_1, sf_2, sa_1, sa_2, sl_1, sl_2, Option.isSome_some, Option.map_some, Option.map_none, Option.toList_some, Option.toList_none, List.nil_append, List.cons_append, List.singleton_append, if_true, if_false, ↓reduceIte, and_self, and_true, true_and, and_false, false_and, not_true, not_false_iff, reduceCtorEq, Nat.reduceEqDiff, Nat.reduceAdd, Nat.reduceSub, Nat.reduceMul, Nat.reduceLT, Nat.reduceLeDiff, Nat.reduceBEq, eq_self, ne_eq, Nat.add_eq_zero_iff, Nat.add_left_cancel_iff, Nat.add_right_cancel_iff, Nat.left_eq_add, Nat.add_eq_left, Bool.true_or, Bool.or_true, Bool.or_self, or_self, or_true, true_or, or_false, false_or, decide_true, decide_false, i_10, i_01, m0, m1, m2, m3, m19, m4, m5, m6, m7, m8, m20, m21, m22, z76, z77, z78, z79, z85, nI_0]
  refine ⟨sf (sf (sf (sf (sf h 75 9 21 (.int 0)) 75 9 22 (.int (-9))) 75 9 4 (.int 0)) 75 9 5 (.int 0)) 75 9 6 (.int 0), ?_, ⟨_, _, _, _, _, _, _, _, _, _, _, M1⟩, ?_⟩
  · obtain ⟨⟨m0, m1, m2, m3, m19⟩, ⟨m4, m5, m6, m7, m8, m20, m21, m22⟩, ⟨z76, z77, z78, z79, z85⟩⟩ := hM
    have i6 := xin_nI (show 0 < 90 by omega) (by decide)
    have c6 := nI_clamp (show 0 < 2 ^ 31 by omega)
    simp only [nI_0] at i6 c6
    by_cases h0 : 0 < len
    · have q1 : ¬ nI len = 0 := nI_ne0 h0 (by omega)
      have q2 : ¬ tx 0 = 86 := fun z => hL ⟨h0, z⟩
      simp only [k_Md_readText, e_Md_readText_0, e_Md_readText_1, e_Md_readText_2, e_Md_readText_5, e_Md_readText_6, e_Md_readText_8, e_Md_readText_11, e_Md_readText_12, e_Md_readText_13, e_Md_readText_16, e_Md_readText_17, e_Md_readText_18, e_Md_readText_21, e_Md_readText_22, e_Md_readText_23, e_Md_readText_26, e_Md_readText_27, e_Md_readText_30, e_Md_readText_33, e_Md_readText_34, e_Md_readText_37, e_Md_readText_38, e_Md_readText_39, e_Md_readText_41, e_Md_readText_44, e_Md_readText_45, m_get, m_put, m_ia, m_is, m_la, m_ls, fl_sf, fl_sa, fl_sl, fl_sq, ar_sf, ar_sa, ar_sl, ar_sq, lr_sf, lr_sa, lr_sl, lr_sq, qr_sf, qr_sa, qr_sl, qr_sq, sf_1, sf_2, sa_1, sa_2, sl_1, sl_2, Option.isSome_some, Option.map_some, Option.map_none, Option.toList_some, Option.toList_none, List.nil_append, List.cons_append, List.singleton_append, if_true, if_false, ↓reduceIte, and_self, and_true, true_and, and_false, false_and, not_true, not_false_iff, reduceCtorEq, Nat.reduceEqDiff, Nat.reduceAdd, Nat.reduceSub, Nat.reduceMul, Nat.reduceLT, Nat.reduceLeDiff, Nat.reduceBEq, eq_self, ne_eq, Nat.add_eq_zero_iff, Nat.add_left_cancel_iff, Nat.add_right_cancel_iff, Nat.left_eq_add, Nat.add_eq_left, Bool.true_or, Bool.or_true, Bool.or_self, or_self, or_true, true_or, or_false, false_or, decide_true, decide_false, i_10, i_01, m0, m1, m2, m3, m19, m4, m5, m6, m7, m8, m20, m21, m22, z76, z77, z78, z79, z85, q1, q2, i6, c6]
    · have q1 : nI len = 0 := by rw [show len = 0 by omega]; exact nI_0
      simp only [k_Md_readText, e_Md_readText_0, e_Md_readText_1, e_Md_readText_2, e_Md_readText_5, e_Md_readText_6, e_Md_readText_8, e_Md_readText_11, e_Md_readText_12, e_Md_readText_13, e_Md_readText_16, e_Md_readText_17, e_Md_readText_18, e_Md_readText_21, e_Md_readText_22, e_Md_readText_23, e_Md_readText_26, e_Md_readText_27, e_Md_readText_30, e_Md_readText_33, e_Md_readText_34, e_Md_readText_37, e_Md_readText_38, e_Md_readText_39, e_Md_readText_41, e_Md_readText_44, e_Md_readText_45, m_get, m_put, m_ia, m_is, m_la, m_ls, fl_sf, fl_sa, fl_sl, fl_sq, ar_sf, ar_sa, ar_sl, ar_sq, lr_sf, lr_sa, lr_sl, lr_sq, qr_sf, qr_sa, qr_sl, qr_sq, sf_1, sf_2, sa_1, sa_2, sl_1, sl_2, Option.isSome_some, Option.map_some, Option.map_none, Option.toList_some, Option.toList_none, List.nil_append, List.cons_append, List.singleton_append, if_true, if_false, ↓reduceIte, and_self, and_true, true_and, and_false, false_and, not_true, not_false_iff, reduceCtorEq, Nat.reduceEqDiff, Nat.reduceAdd, Nat.reduceSub, Nat.reduceMul, Nat.reduceLT, Nat.reduceLeDiff, Nat.reduceBEq, eq_self, ne_eq, Nat.add_eq_zero_iff, Nat.add_left_cancel_iff, Nat.add_right_cancel_iff, Nat.left_eq_add, Nat.add_eq_left, Bool.true_or, Bool.or_true, Bool.or_self, or_self, or_true, true_or, or_false, false_or, decide_true, decide_false, i_10, i_01, m0, m1, m2, m3, m19, m4, m5, m6, m7, m8, m20, m21, m22, z76, z77, z78, z79, z85, q1]
  · exact frM_sf (frM_sf (frM_sf (frM_sf (frM_sf (frM_refl _ _ _) (by unfold KR; omega)) (by unfold KR; omega)) (by unfold KR; omega)) (by unfold KR; omega)) (by unfold KR; omega)
/-- where it does: up to its loop -/
theorem mt_begin (hl : len ≤ 90) (h0 : 0 < len) (hL : tx 0 = 86) {h : xH} {a : Nat} {ft pe th ne ru hi : Int32} {rc rk rt rn : Nat → Int32} (hM : Mrd h len a ft pe th ne ru hi rc rk rt rn tx) : ∃ (h1 : xH), Mrd h1 len 1 (-9) (nI 0) (nI 0) (nI 0) ru hi rc rk rt rn tx ∧ frM KR PR h h1 ∧
    ∀ (x y : Int32) (h2 h3 : xH) (a2 a3 : Nat) (f2 f3 : Int32), xC M_Md_figure [.ref 75, .int 15] h1 = some (some (.int x), h2) → Mrd h2 len a2 f2 (nI 0) (nI 0) (nI 0) ru hi rc rk rt rn tx → xC M_Md_figure [.ref 75, .int 1022] (sf h2 75 9 7 (.int x)) = some (some (.int y), h3) → Mrd h3 len a3 f3 (nI 0) (nI 0) (nI 0) x hi rc rk rt rn tx → xC M_Md_readText [.ref 75] h = xR none 4 M_Md_readText 72 [some (.ref 75)] [] (sf h3 75 9 8 (.int y)) := by
  have M1 : Mrd (sf (sf (sf (sf (sf (sf h 75 9 21 (.int 0)) 75 9 22 (.int (-9))) 75 9 4 (.int 0)) 75 9 5 (.int 0)) 75 9 6 (.int 0)) 75 9 21 (.int 1)) len 1 (-9) (nI 0) (nI 0) (nI 0) ru hi rc rk rt rn tx := by
    obtain ⟨⟨m0, m1, m2, m3, m19⟩, ⟨m4, m5, m6, m7, m8, m20, m21, m22⟩, ⟨z76, z77, z78, z79, z85⟩⟩ := hM
    have e1 : nI 1 = 1 := rfl
    simp only [Mrd, m_get, m_put, m_ia, m_is, m_la, m_ls, fl_sf, fl_sa, fl_sl, fl_sq, ar_sf, ar_sa, ar_sl, ar_sq, lr_sf, lr_sa, lr_sl, lr_sq, qr_sf, qr_sa, qr_sl, qr_sq, sf_1, sf_2, sa_1, sa_2, sl_1, sl_2, Option.isSome_some, Option.map_some, Option.map_none, Option.toList_some, Option.toList_none, List.nil_append, List.cons_append, List.singleton_append, if_true, if_false, ↓reduceIte, and_self, and_true, true_and, and_false, false_and, not_true, not_false_iff, reduceCtorEq, Nat.reduceEqDiff, Nat.reduceAdd, Nat.reduceSub, Nat.reduceMul, Nat.reduceLT, Nat.reduceLeDiff, Nat.reduceBEq, eq_self, ne_eq, Nat.add_eq_zero_iff, Nat.add_left_cancel_iff, Nat.add_right_cancel_iff, Nat.left_eq_add, Nat.add_eq_left, Bool.true_or, Bool.or_true, Bool.or_self, or_self, or_true, true_or, or_false, false_or, decide_true, decide_false, i_10, i_01, m0, m1, m2, m3, m19, m4, m5, m6, m7, m8, m20, m21, m22, z76, z77, z78, z79, z85, nI_0, e1]
  have f1 : frM KR PR h (sf (sf (sf (sf (sf (sf h 75 9 21 (.int 0)) 75 9 22 (.int (-9))) 75 9 4 (.int 0)) 75 9 5 (.int 0)) 75 9 6 (.int 0)) 75 9 21 (.int 1)) := frM_sf (frM_sf (frM_sf (frM_sf (frM_sf (frM_sf (frM_refl _ _ _) (by unfold KR; omega)) (by unfold KR; omega)) (by unfold KR; omega)) (by unfold KR; omega)) (by unfold KR; omega)) (by unfold KR; omega)
  refine ⟨_, M1, f1, fun x y h2 h3 a2 a3 f2 f3 d2 M2 d3 M3 => ?_⟩
  have M2' : Mrd (sf h2 75 9 7 (.int x)) len a2 f2 (nI 0) (nI 0) (nI 0) x hi rc rk rt rn tx := by
    obtain ⟨⟨m0, m1, m2, m3, m19⟩, ⟨m4, m5, m6, m7, m8, m20, m21, m22⟩, ⟨z76, z77, z78, z79, z85⟩⟩ := M2
    simp only [Mrd, m_get, m_put, m_ia, m_is, m_la, m_ls, fl_sf, fl_sa, fl_sl, fl_sq, ar_sf, ar_sa, ar_sl, ar_sq, lr_sf, lr_sa, lr_sl, lr_sq, qr_sf, qr_sa, qr_sl, qr_sq, sf_1, sf_2, sa_1, sa_2, sl_1, sl_2, Option.isSome_some, Option.map_some, Option.map_none, Option.toList_some, Option.toList_none, List.nil_append, List.cons_append, List.singleton_append, if_true, if_false, ↓reduceIte, and_self, and_true, true_and, and_false, false_and, not_true, not_false_iff, reduceCtorEq, Nat.reduceEqDiff, Nat.reduceAdd, Nat.reduceSub, Nat.reduceMul, Nat.reduceLT, Nat.reduceLeDiff, Nat.reduceBEq, eq_self, ne_eq, Nat.add_eq_zero_iff, Nat.add_left_cancel_iff, Nat.add_right_cancel_iff, Nat.left_eq_add, Nat.add_eq_left, Bool.true_or, Bool.or_true, Bool.or_self, or_self, or_true, true_or, or_false, false_or, decide_true, decide_false, i_10, i_01, m0, m1, m2, m3, m19, m4, m5, m6, m7, m8, m20, m21, m22, z76, z77, z78, z79, z85]
  have c1 := call_v (lv := 4) d2 (Mrd_is M1) (by decide) (Nat.le_of_ble_eq_true rfl)
  have c2 := call_v (lv := 4) d3 (Mrd_is M2') (by decide) (Nat.le_of_ble_eq_true rfl)
  have y7 := M2.2.1.2.2.2.1
  have y8 := M3.2.1.2.2.2.2.1
  obtain ⟨⟨m0, m1, m2, m3, m19⟩, ⟨m4, m5, m6, m7, m8, m20, m21, m22⟩, ⟨z76, z77, z78, z79, z85⟩⟩ := hM
  have i6 := xin_nI (show 0 < 90 by omega) (by decide)
  have c6 := nI_clamp (show 0 < 2 ^ 31 by omega)
  simp only [nI_0] at i6 c6
  have q1 : ¬ nI len = 0 := nI_ne0 h0 (by omega)
  simp only [k_Md_readText, e_Md_readText_0, e_Md_readText_1, e_Md_readText_2, e_Md_readText_5, e_Md_readText_6, e_Md_readText_8, e_Md_readText_11, e_Md_readText_12, e_Md_readText_13, e_Md_readText_16, e_Md_readText_17, e_Md_readText_18, e_Md_readText_21, e_Md_readText_22, e_Md_readText_23, e_Md_readText_26, e_Md_readText_27, e_Md_readText_30, e_Md_readText_33, e_Md_readText_34, e_Md_readText_37, e_Md_readText_38, e_Md_readText_39, e_Md_readText_41, e_Md_readText_44, e_Md_readText_45, e_Md_readText_46, e_Md_readText_47, e_Md_readText_48, e_Md_readText_51, e_Md_readText_52, e_Md_readText_53, e_Md_readText_55, e_Md_readText_58, e_Md_readText_61, e_Md_readText_62, e_Md_readText_63, e_Md_readText_66, e_Md_readText_69, m_get, m_put, m_ia, m_is, m_la, m_ls, fl_sf, fl_sa, fl_sl, fl_sq, ar_sf, ar_sa, ar_sl, ar_sq, lr_sf, lr_sa, lr_sl, lr_sq, qr_sf, qr_sa, qr_sl, qr_sq, sf_1, sf_2, sa_1, sa_2, sl_1, sl_2, Option.isSome_some, Option.map_some, Option.map_none, Option.toList_some, Option.toList_none, List.nil_append, List.cons_append, List.singleton_append, if_true, if_false, ↓reduceIte, and_self, and_true, true_and, and_false, false_and, not_true, not_false_iff, reduceCtorEq, Nat.reduceEqDiff, Nat.reduceAdd, Nat.reduceSub, Nat.reduceMul, Nat.reduceLT, Nat.reduceLeDiff, Nat.reduceBEq, eq_self, ne_eq, Nat.add_eq_zero_iff, Nat.add_left_cancel_iff, Nat.add_right_cancel_iff, Nat.left_eq_add, Nat.add_eq_left, Bool.true_or, Bool.or_true, Bool.or_self, or_self, or_true, true_or, or_false, false_or, decide_true, decide_false, i_10, i_01, m0, m1, m2, m3, m19, m4, m5, m6, m7, m8, m20, m21, m22, z76, z77, z78, z79, z85, q1, hL, i6, c6, c1, c2, y7, y8]
theorem Mrd_78' {h : xH} {a : Nat} {ft pe th ne ru hi : Int32} {rc rk rt rn : Nat → Int32} (hM : Mrd h len a ft pe th ne ru hi rc rk rt rn tx) (x : Int32) : Mrd (sf h 75 9 7 (.int x)) len a ft pe th ne x hi rc rk rt rn tx ∧ frM KR PR h (sf h 75 9 7 (.int x)) := by
  obtain ⟨⟨m0, m1, m2, m3, m19⟩, ⟨m4, m5, m6, m7, m8, m20, m21, m22⟩, ⟨z76, z77, z78, z79, z85⟩⟩ := hM
  exact ⟨by simp only [Mrd, m_get, m_put, m_ia, m_is, m_la, m_ls, fl_sf, fl_sa, fl_sl, fl_sq, ar_sf, ar_sa, ar_sl, ar_sq, lr_sf, lr_sa, lr_sl, lr_sq, qr_sf, qr_sa, qr_sl, qr_sq, sf_1, sf_2, sa_1, sa_2, sl_1, sl_2, Option.isSome_some, Option.map_some, Option.map_none, Option.toList_some, Option.toList_none, List.nil_append, List.cons_append, List.singleton_append, if_true, if_false, ↓reduceIte, and_self, and_true, true_and, and_false, false_and, not_true, not_false_iff, reduceCtorEq, Nat.reduceEqDiff, Nat.reduceAdd, Nat.reduceSub, Nat.reduceMul, Nat.reduceLT, Nat.reduceLeDiff, Nat.reduceBEq, eq_self, ne_eq, Nat.add_eq_zero_iff, Nat.add_left_cancel_iff, Nat.add_right_cancel_iff, Nat.left_eq_add, Nat.add_eq_left, Bool.true_or, Bool.or_true, Bool.or_self, or_self, or_true, true_or, or_false, false_or, decide_true, decide_false, i_10, i_01, m0, m1, m2, m3, m19, m4, m5, m6, m7, m8, m20, m21, m22, z76, z77, z78, z79, z85], frM_sf (frM_refl _ _ _) (by unfold KR; omega)⟩
theorem Mrd_8 {h : xH} {a : Nat} {ft pe th ne ru hi : Int32} {rc rk rt rn : Nat → Int32} (hM : Mrd h len a ft pe th ne ru hi rc rk rt rn tx) (x : Int32) : Mrd (sf h 75 9 8 (.int x)) len a ft pe th ne ru x rc rk rt rn tx ∧ frM KR PR h (sf h 75 9 8 (.int x)) := by
  obtain ⟨⟨m0, m1, m2, m3, m19⟩, ⟨m4, m5, m6, m7, m8, m20, m21, m22⟩, ⟨z76, z77, z78, z79, z85⟩⟩ := hM
  exact ⟨by simp only [Mrd, m_get, m_put, m_ia, m_is, m_la, m_ls, fl_sf, fl_sa, fl_sl, fl_sq, ar_sf, ar_sa, ar_sl, ar_sq, lr_sf, lr_sa, lr_sl, lr_sq, qr_sf, qr_sa, qr_sl, qr_sq, sf_1, sf_2, sa_1, sa_2, sl_1, sl_2, Option.isSome_some, Option.map_some, Option.map_none, Option.toList_some, Option.toList_none, List.nil_append, List.cons_append, List.singleton_append, if_true, if_false, ↓reduceIte, and_self, and_true, true_and, and_false, false_and, not_true, not_false_iff, reduceCtorEq, Nat.reduceEqDiff, Nat.reduceAdd, Nat.reduceSub, Nat.reduceMul, Nat.reduceLT, Nat.reduceLeDiff, Nat.reduceBEq, eq_self, ne_eq, Nat.add_eq_zero_iff, Nat.add_left_cancel_iff, Nat.add_right_cancel_iff, Nat.left_eq_add, Nat.add_eq_left, Bool.true_or, Bool.or_true, Bool.or_self, or_self, or_true, true_or, or_false, false_or, decide_true, decide_false, i_10, i_01, m0, m1, m2, m3, m19, m4, m5, m6, m7, m8, m20, m21, m22, z76, z77, z78, z79, z85], frM_sf (frM_refl _ _ _) (by unfold KR; omega)⟩
/-- what both readers give for a text -/
def RB (v len : Nat) (tx : Nat → Int32) (h : xH) (a : Nat) (ft pe th ne ru hi : Int32) (rc rk rt rn : Nat → Int32) : Prop :=
  ∃ (r : Int32) (h1 : xH), xC M_Reader_readInto [.ref 3, .ref v, .ref 2, .int (nI len)] h = some (some (.int r), h1) ∧ RdA h1 ∧ VilA h1 v ∧ fr (PP v) h h1 ∧
    ∀ g, Mrd g len a ft pe th ne ru hi rc rk rt rn tx → ∃ g', xC M_Md_readText [.ref 75] g = some (some (.int r), g') ∧ MrA g' len tx ∧ frM KR PR g g' ∧
      (r = -9 → ∃ (la ca : Int32) (p t n : Nat) (co kn ow so gr ho ou np ns nd : Nat → Int32) (a' : Nat) (f' ru' hi' : Int32) (rc' rk' rt' rn' : Nat → Int32),
        Vil h1 v la ca 0 (nI p) (nI t) (nI n) co kn ow so gr ho ou np ns nd ∧ Mrd g' len a' f' (nI p) (nI t) (nI n) ru' hi' rc' rk' rt' rn' tx ∧ RP la ca p t n co kn ow so gr ho ou np ns nd ru' hi' rc' rk' rt' rn')
theorem read_fail (hv : 4 ≤ v) (hl : len ≤ 90) {e : Nat} (he : e ≤ 100) {h0 : xH} (hA : RdA h0) (h2 : ar h0 2 0 = some (90, tx)) (hV : VilA h0 v) {a : Nat} {ft pe th ne ru hi : Int32} {rc rk rt rn : Nat → Int32} (hc : ∀ h (la ca : Int32) (co kn ow so gr ho ou np ns nd : Nat → Int32), Rdr h v len 0 0 tx → Vil h v la ca 0 (nI 0) (nI 0) (nI 0) co kn ow so gr ho ou np ns nd → ∃ (h' : xH) (x y : Int32), xC M_Reader_readHead [.ref 3] h = some (none, h') ∧ Rdr h' v len e 1 tx ∧ Vil h' v x y 0 (nI 0) (nI 0) (nI 0) co kn ow so gr ho ou np ns nd ∧ fr (PP v) h h') (hm : ∀ h, Mrd h len a ft pe th ne ru hi rc rk rt rn tx → ∃ h', xC M_Md_readText [.ref 75] h = some (some (.int (nI e)), h') ∧ MrA h' len tx ∧ frM KR PR h h') : RB v len tx h0 a ft pe th ne ru hi rc rk rt rn := by
  obtain ⟨h1, la, ca, co, kn, ow, so, gr, ho, ou, np, ns, nd, R1, V1, f1, run⟩ := ri_begin hv hl hA h2 hV
  obtain ⟨h', x, y, d, R2, V2, f2⟩ := hc h1 _ _ _ _ _ _ _ _ _ _ _ _ R1 V1
  refine ⟨nI e, h', by rw [run h' d]; exact rl_stop R2, Rdr_A R2, ⟨_, _, _, _, _, _, _, _, _, _, _, _, _, _, _, _, V2⟩, fr_trans f1 f2, fun g hM => ?_⟩
  obtain ⟨h', d, M1, f1⟩ := hm g hM
  exact ⟨h', d, M1, f1, fun z => absurd z (n9 e he)⟩
theorem read_both (hv : 4 ≤ v) (hl : len ≤ 90) {h0 : xH} (hA : RdA h0) (h2 : ar h0 2 0 = some (90, tx)) (hV : VilA h0 v) {a : Nat} {ft pe th ne ru hi : Int32} {rc rk rt rn : Nat → Int32} : RB v len tx h0 a ft pe th ne ru hi rc rk rt rn := by
  by_cases q0 : 0 < len ∧ tx 0 = 86
  · obtain ⟨hl0, hL⟩ := q0
    by_cases k1 : fgk tx len 1 15
    · have l1 := k1.1
      by_cases k2 : fgk tx len 2 1022
      · have l2 := k2.1
        have hla : fg tx 1 ≤ 3 := by
          have z := (b_z1 (by have := (fgk_nI k1).2.1; omega)).mp (fgk_nI k1).2.2
          rw [b_15 _ (by have := (fgk_nI k1).2.1; omega)] at z
          have := of_decide_eq_true z
          omega
        have hca : 1 ≤ fg tx 2 ∧ fg tx 2 ≤ 9 := by
          have z := (b_z1 (by have := (fgk_nI k2).2.1; omega)).mp (fgk_nI k2).2.2
          rw [b_1022 _ (by have := (fgk_nI k2).2.1; omega)] at z
          exact of_decide_eq_true z
        have hrp : ∀ (co kn ow so gr ho ou np ns nd rc rk rt rn : Nat → Int32), RP (nI (fg tx 1)) (nI (fg tx 2)) 0 0 0 co kn ow so gr ho ou np ns nd (nI (fg tx 1)) (nI (fg tx 2)) rc rk rt rn := fun co kn ow so gr ho ou np ns nd rc rk rt rn => ⟨⟨by omega, by omega, by omega⟩, ⟨rfl, rfl, ⟨_, hla, rfl⟩, ⟨_, hca.1, hca.2, rfl⟩⟩, fun i hi => by omega, fun i hi => by omega, fun i hi => by omega, fun i j hi => by omega⟩
        obtain ⟨h1, la, ca, co, kn, ow, so, gr, ho, ou, np, ns, nd, R1, V1, f1, run⟩ := ri_begin hv hl hA h2 hV
        obtain ⟨hh, d, R2, V2, f2⟩ := rh_ok hv R1 V1 hl hl0 hL k1 k2
        obtain ⟨r, p2, t2, n2, co2, kn2', ow2, so2, gr2, ho2, ou2, np2, ns2, nd2, rc2, rk2, rt2, rn2, c1, c2, c3⟩ := parse_all (v := v) (da := 0) hv hl (len - 3) 3 0 0 0 co kn ow so gr ho ou np ns nd rc rk rt rn (by omega) (by omega) (hrp co kn ow so gr ho ou np ns nd rc rk rt rn)
        obtain ⟨h3, e3, V3', ⟨a3, s3, R3⟩, f3⟩ := c1 hh (nI len) 0 (by omega) R2 V2
        refine ⟨r, h3, by rw [run hh d]; exact e3, Rdr_A R3, ⟨_, _, _, _, _, _, _, _, _, _, _, _, _, _, _, _, V3'⟩, fr_trans (fr_trans f1 f2) f3, fun g hM => ?_⟩
        obtain ⟨g1, M1, m1, mrun⟩ := mt_begin hl hl0 hL hM
        obtain ⟨g2, d2, M2, m2⟩ := figM_ok M1 hl k1
        obtain ⟨M2', m2'⟩ := Mrd_78' M2 (nI (fg tx 1))
        obtain ⟨g3, d3, M3, m3⟩ := figM_ok M2' hl k2
        obtain ⟨M3', m3'⟩ := Mrd_8 M3 (nI (fg tx 2))
        obtain ⟨g4, e4, M4, M5, m4⟩ := c2 _ M3'
        refine ⟨g4, by rw [mrun _ _ _ _ _ _ _ _ d2 M2 d3 M3]; exact e4, M4, frM_trans (frM_trans (frM_trans (frM_trans (frM_trans m1 m2) m2') m3) m3') m4, fun hr => ?_⟩
        obtain ⟨a5, f5, M6⟩ := M5 hr
        exact ⟨_, _, _, _, _, _, _, _, _, _, _, _, _, _, _, _, _, _, _, _, _, _, _, V3', M6, c3 hr⟩
      · refine read_fail hv hl (e := 2) (by omega) hA h2 hV (fun h la ca co kn ow so gr ho ou np ns nd R1 V1 => rh_f3 hv R1 V1 hl hl0 hL k1 k2) (fun h hM => ?_)
        obtain ⟨h1, M1, f1, run⟩ := mt_begin hl hl0 hL hM
        obtain ⟨h2, d2, M2, f2⟩ := figM_ok M1 hl k1
        obtain ⟨M2', f2'⟩ := Mrd_78' M2 (nI (fg tx 1))
        obtain ⟨h3, d3, M3, f3⟩ := figM_no M2' hl (by omega) k2
        obtain ⟨M3', f3'⟩ := Mrd_8 M3 0
        exact ⟨_, by rw [run _ _ _ _ _ _ _ _ d2 M2 d3 M3]; exact ml_stop (by omega) M3', ⟨_, _, _, _, _, _, _, _, _, _, _, M3'⟩, frM_trans (frM_trans (frM_trans (frM_trans f1 f2) f2') f3) f3'⟩
    · refine read_fail hv hl (e := 1) (by omega) hA h2 hV (fun h la ca co kn ow so gr ho ou np ns nd R1 V1 => rh_f2 hv R1 V1 hl hl0 hL k1) (fun h hM => ?_)
      obtain ⟨h1, M1, f1, run⟩ := mt_begin hl hl0 hL hM
      obtain ⟨h2, d2, M2, f2⟩ := figM_no M1 hl (by omega) k1
      obtain ⟨M2', f2'⟩ := Mrd_78' M2 0
      obtain ⟨h3, d3, M3, f3⟩ := figM_st (al := 1022) (by omega) M2'
      obtain ⟨M3', f3'⟩ := Mrd_8 M3 0
      exact ⟨_, by rw [run _ _ _ _ _ _ _ _ d2 M2 d3 M3]; exact ml_stop (by omega) M3', ⟨_, _, _, _, _, _, _, _, _, _, _, M3'⟩, frM_trans (frM_trans (frM_trans (frM_trans f1 f2) f2') f3) f3'⟩
  · refine read_fail hv hl (e := 0) (by omega) hA h2 hV (fun h la ca co kn ow so gr ho ou np ns nd R1 V1 => ?_) (fun h hM => by rw [nI_0]; exact mt_f0 hl hM q0)
    obtain ⟨h', d, R2, V2, f2⟩ := rh_f1 hv R1 V1 hl q0
    exact ⟨h', _, _, d, R2, V2, f2⟩
end RA
