/-! What a row of the reference costs. -/
def gvN (g cp c : Nat) : Nat := if cp ≤ g then g else if g + c < cp then g + c else cp
theorem gvN_0 (g cp : Nat) : gvN g cp 0 = g := by unfold gvN; split; rfl; split <;> omega
theorem gvN_lt {g cp c : Nat} : gvN g cp c < cp ↔ g + c < cp := by unfold gvN; split; omega; split <;> omega
theorem gvN_eq {g cp c : Nat} (h : g + c < cp) : gvN g cp c = g + c := by unfold gvN; rw [if_neg (by omega), if_pos h]
theorem gvN_s1 {g cp c : Nat} (h : g + c < cp) : gvN g cp (c + 1) = gvN g cp c + 1 := by rw [gvN_eq h]; unfold gvN; rw [if_neg (by omega)]; split <;> omega
theorem gvN_s2 {g cp c : Nat} (h : ¬ g + c < cp) : gvN g cp (c + 1) = gvN g cp c := by
  unfold gvN
  repeat' split
  all_goals omega
theorem gvN_up {g cp c : Nat} (hg : g ≤ 9) (hc : cp ≤ 9) : gvN g cp c ≤ 9 := by unfold gvN; split; exact hg; split <;> omega
def grR (σ : Nat → Nat → Int32) (j : Nat) : Nat := (σ 84 (5 + j)).toNatClampNeg
section MC
variable {h : xH} {σ τ : Nat → Nat → Int32} {v s : Nat} {q : Nat → Nat} {e1 e2 : Int64} {t m : Nat} {od ow np : Nat → Nat}
theorem cM_costOf (H : Hp h σ τ v s q e1 e2) (Q : Mq σ τ t m od ow np) {sr cp k : Nat} (hs : sr ≤ 2) (hcp : cp ≤ 9) (hg : ∀ j, j < t → ∃ g, g ≤ 9 ∧ σ 84 (5 + j) = nI g) {a : Nat → Nat} (hk : k ≤ m) (ha : ∀ i, i < k → a i < t ∧ σ 88 i = nI (a i)) : ∃ h' σ', xC M_Md_costOf [.ref 75, .int (nI k), .int (nI sr), .int (nI cp)] h = some (some (.int (nI (coC (prP (grR σ) (fun k => k) sr cp) (lnP ow np (fun k => k)) a k))), h') ∧ Hp h' σ' τ v s q e1 e2 ∧ (∀ b, b ≠ 90 → σ' b = σ b) := by
  obtain ⟨⟨t6, et⟩, ⟨m8, em⟩, hod, how, hsy⟩ := Q
  have gg : ∀ j, j < t → grR σ j ≤ 9 ∧ σ 84 (5 + j) = nI (grR σ j) := fun j hj => by
    obtain ⟨g, g9, e⟩ := hg j hj
    have : grR σ j = g := by rw [grR, e, nI_clamp (by omega)]
    rw [this]
    exact ⟨g9, e⟩
  have key := loop_dn (t := k) (P := fun i => ∀ g σg (l6 l7 : Option Value), Hp g σg τ v s q e1 e2 → (∀ b, b ≠ 90 → σg b = σ b) → (∀ j, j < t → σg 90 j = nI (gvN (grR σ j) cp (cnt (lnP ow np (fun k => k)) a j i))) → ∃ h' σ', xR none 1 M_Md_costOf 40 [some (.ref 75), some (.int (nI k)), some (.int (nI sr)), some (.int (nI cp)), some (.int (nI (coC (prP (grR σ) (fun k => k) sr cp) (lnP ow np (fun k => k)) a i))), some (.int (nI i)), l6, l7] [] g = some (some (.int (nI (coC (prP (grR σ) (fun k => k) sr cp) (lnP ow np (fun k => k)) a k))), h') ∧ Hp h' σ' τ v s q e1 e2 ∧ (∀ b, b ≠ 90 → σ' b = σ b)) ?_ ?_ 0 (Nat.zero_le _)
  · have H1 := Hp_sa (t := 0) (n := 6) H (a := 90) rfl rfl (cpI (σ 90) (fun j => σ 84 (5 + j)) 0 t)
    obtain ⟨h', σ', c, rest⟩ := key _ _ none none H1 (fun b hb => by rw [us, if_neg hb]) (fun j hj => by
      have := cpI_in (g := σ 90) (f := fun j => σ 84 (5 + j)) (o := 0) hj
      rw [Nat.zero_add] at this
      rw [us, if_pos rfl, this, show cnt (lnP ow np (fun k => k)) a j 0 = 0 from rfl, gvN_0]
      exact (gg j hj).2)
    refine ⟨h', σ', ?_, rest⟩
    have f14 := hI H 75 9 14 rfl rfl
    rw [et] at f14
    have f18 := hR H 75 9 18 84 rfl rfl
    have r84 := hA H 84 0 24 rfl rfl
    have f30 := hR H 75 9 30 90 rfl rfl
    have r90 := hA H 90 0 6 rfl rfl
    have first := loop_dn (t := t) (P := fun j => xR none 1 M_Md_costOf 3 [some (.ref 75), some (.int (nI k)), some (.int (nI sr)), some (.int (nI cp)), some (.int (nI j)), none, none, none] [] (sa h 90 0 (cpI (σ 90) (fun j => σ 84 (5 + j)) 0 j)) = some (some (.int (nI (coC (prP (grR σ) (fun k => k) sr cp) (lnP ow np (fun k => k)) a k))), h')) ?_ ?_ 0 (Nat.zero_le _)
    · rw [nI_0, cpI_0, sa_self r90] at first
      simp only [k_Md_costOf, e_Md_costOf_0, e_Md_costOf_1]
      exact first
    · rw [show coC (prP (grR σ) (fun k => k) sr cp) (lnP ow np (fun k => k)) a 0 = 0 from rfl, nI_0] at c
      simp only [e_Md_costOf_3, e_Md_costOf_5, e_Md_costOf_6, e_Md_costOf_9, e_Md_costOf_34, e_Md_costOf_35, e_Md_costOf_37, e_Md_costOf_38, m_get, m_put, m_ia, m_is, m_la, m_ls, fl_sf, fl_sa, fl_sl, fl_sq, ar_sf, ar_sa, ar_sl, ar_sq, lr_sf, lr_sa, lr_sl, lr_sq, qr_sf, qr_sa, qr_sl, qr_sq, sf_1, sf_2, sa_1, sa_2, sl_1, sl_2, Option.isSome_some, Option.map_some, Option.map_none, Option.toList_some, Option.toList_none, List.nil_append, List.cons_append, List.singleton_append, if_true, if_false, ↓reduceIte, and_self, and_true, true_and, and_false, false_and, not_true, not_false_iff, reduceCtorEq, Nat.reduceEqDiff, Nat.reduceAdd, Nat.reduceSub, Nat.reduceMul, Nat.reduceLT, Nat.reduceLeDiff, Nat.reduceBEq, eq_self, ne_eq, Nat.add_eq_zero_iff, Nat.add_left_cancel_iff, Nat.add_right_cancel_iff, Nat.left_eq_add, Nat.add_eq_left, Bool.true_or, Bool.or_true, Bool.or_self, or_self, or_true, true_or, or_false, false_or, decide_true, decide_false, i_10, i_01, f14, Int32.le_refl]
      exact c
    · intro j hj ih
      have q1 : ¬ nI t ≤ nI j := nI_ge hj (by omega)
      have i6 := xin_nI (show j < 6 by omega) (by decide)
      have c6 := nI_clamp (show j < 2 ^ 31 by omega)
      have i24 := xin_nI (show 5 + j < 24 by omega) (by decide)
      have c24 := nI_clamp (show 5 + j < 2 ^ 31 by omega)
      have zz := cpI_s (σ 90) (fun j => σ 84 (5 + j)) 0 j
      rw [Nat.zero_add] at zz
      rw [← nI_1, ← zz, ← sa_sa h 90 0 (cpI (σ 90) (fun j => σ 84 (5 + j)) 0 j)] at ih
      rw [e_Md_costOf_3]
      simp only [e_Md_costOf_5, e_Md_costOf_6, e_Md_costOf_9, e_Md_costOf_12, e_Md_costOf_13, e_Md_costOf_16, e_Md_costOf_18, e_Md_costOf_19, e_Md_costOf_22, e_Md_costOf_23, e_Md_costOf_25, e_Md_costOf_26, e_Md_costOf_27, e_Md_costOf_28, e_Md_costOf_31, m_get, m_put, m_ia, m_is, m_la, m_ls, fl_sf, fl_sa, fl_sl, fl_sq, ar_sf, ar_sa, ar_sl, ar_sq, lr_sf, lr_sa, lr_sl, lr_sq, qr_sf, qr_sa, qr_sl, qr_sq, sf_1, sf_2, sa_1, sa_2, sl_1, sl_2, Option.isSome_some, Option.map_some, Option.map_none, Option.toList_some, Option.toList_none, List.nil_append, List.cons_append, List.singleton_append, if_true, if_false, ↓reduceIte, and_self, and_true, true_and, and_false, false_and, not_true, not_false_iff, reduceCtorEq, Nat.reduceEqDiff, Nat.reduceAdd, Nat.reduceSub, Nat.reduceMul, Nat.reduceLT, Nat.reduceLeDiff, Nat.reduceBEq, eq_self, ne_eq, Nat.add_eq_zero_iff, Nat.add_left_cancel_iff, Nat.add_right_cancel_iff, Nat.left_eq_add, Nat.add_eq_left, Bool.true_or, Bool.or_true, Bool.or_self, or_self, or_true, true_or, or_false, false_or, decide_true, decide_false, i_10, i_01, f14, f18, r84, f30, r90, q1, i6, c6, a5, i24, c24]
      exact ih
  · intro g σg l6 l7 G h1 h2
    refine ⟨g, σg, ?_, G, h1⟩
    simp only [e_Md_costOf_40, e_Md_costOf_42, e_Md_costOf_43, e_Md_costOf_148, e_Md_costOf_150, Option.isSome_some, Option.map_some, Option.map_none, Option.toList_some, Option.toList_none, List.nil_append, List.cons_append, List.singleton_append, if_true, if_false, ↓reduceIte, and_self, and_true, true_and, and_false, false_and, not_true, not_false_iff, reduceCtorEq, Nat.reduceEqDiff, Nat.reduceAdd, Nat.reduceSub, Nat.reduceMul, Nat.reduceLT, Nat.reduceLeDiff, Nat.reduceBEq, eq_self, ne_eq, Nat.add_eq_zero_iff, Nat.add_left_cancel_iff, Nat.add_right_cancel_iff, Nat.left_eq_add, Nat.add_eq_left, Bool.true_or, Bool.or_true, Bool.or_self, or_self, or_true, true_or, or_false, false_or, decide_true, decide_false, i_10, i_01, Int32.le_refl]
  · intro i hi ih g σg l6 l7 G h1 h2
    obtain ⟨o1, o2, o3, o4⟩ := hod i (by omega)
    obtain ⟨j1, j2⟩ := ha i hi
    obtain ⟨w1, w2⟩ := how _ j1
    have g9 := (gg _ j1).1
    have f28 := hR G 75 9 28 88 rfl rfl
    have r88 := hA G 88 0 9 rfl rfl
    rw [h1 88 (by omega)] at r88
    have f10 := hR G 75 9 10 81 rfl rfl
    have r81 := hA G 81 0 6 rfl rfl
    rw [h1 81 (by omega)] at r81
    have f12 := hR G 75 9 12 83 rfl rfl
    have r83 := hA G 83 0 24 rfl rfl
    rw [h1 83 (by omega)] at r83
    have f26 := hR G 75 9 26 87 rfl rfl
    have r87 := hA G 87 0 8 rfl rfl
    rw [h1 87 (by omega)] at r87
    have f30 := hR G 75 9 30 90 rfl rfl
    have r90 := hA G 90 0 6 rfl rfl
    have q1 : ¬ nI k ≤ nI i := nI_ge hi (by omega)
    have i9 := xin_nI (show i < 9 by omega) (by decide)
    have i8 := xin_nI (show i < 8 by omega) (by decide)
    have ci := nI_clamp (show i < 2 ^ 31 by omega)
    have ij := xin_nI (show a i < 6 by omega) (by decide)
    have cj := nI_clamp (show a i < 2 ^ 31 by omega)
    have i0 := xin_nI (show 3 * od i < 24 by omega) (by decide)
    have c0 := nI_clamp (show 3 * od i < 2 ^ 31 by omega)
    have e90 := h2 _ j1
    have up := gvN_up (g := grR σ (a i)) (cp := cp) (c := cnt (lnP ow np (fun k => k)) a (a i) i) g9 hcp
    rw [e_Md_costOf_40]
    by_cases u : ow (a i) = np i
    · have ln : (lnP ow np (fun k => k)) i (a i) = false := by unfold lnP; rw [decide_eq_true u]; rfl
      obtain ⟨h', σ', c, rest⟩ := ih _ _ (some (.int (nI (a i)))) (some (.int 0)) (Hp_sa (t := 0) (n := 6) G (a := 90) rfl rfl (upd (σg 90) (a i) (nI (gvN (grR σ (a i)) cp (cnt (lnP ow np (fun k => k)) a (a i) i)) + 0))) (fun b hb => by rw [us, if_neg hb]; exact h1 b hb) (fun j hj => by
        show upd (σg 90) _ _ j = _
        have : cnt (lnP ow np (fun k => k)) a j (i + 1) = cnt (lnP ow np (fun k => k)) a j i := by
          rw [cnt]
          by_cases y : a i = j ∧ (lnP ow np (fun k => k)) i j = true
          · rw [← y.1, ln] at y
            exact absurd y.2 Bool.false_ne_true
          · rw [if_neg y, Nat.add_zero]
        rw [this, upd]
        by_cases y : j = a i
        · rw [if_pos y, y, Int32.add_zero]
        · rw [if_neg y]
          exact h2 j hj)
      refine ⟨h', σ', ?_, rest⟩
      rw [coC, ln, if_neg Bool.false_ne_true, ← nI_add, ← nI_1, nI_0] at c
      rw [← u] at o3
      simp only [e_Md_costOf_42, e_Md_costOf_43, e_Md_costOf_46, e_Md_costOf_47, e_Md_costOf_50, e_Md_costOf_52, e_Md_costOf_53, e_Md_costOf_55, e_Md_costOf_56, e_Md_costOf_59, e_Md_costOf_61, e_Md_costOf_62, e_Md_costOf_63, e_Md_costOf_66, e_Md_costOf_67, e_Md_costOf_68, e_Md_costOf_71, e_Md_costOf_73, e_Md_costOf_74, e_Md_costOf_75, e_Md_costOf_76, e_Md_costOf_79, e_Md_costOf_80, e_Md_costOf_83, e_Md_costOf_85, e_Md_costOf_86, e_Md_costOf_87, e_Md_costOf_90, e_Md_costOf_91, e_Md_costOf_94, e_Md_costOf_95, e_Md_costOf_97, e_Md_costOf_99, e_Md_costOf_101, e_Md_costOf_104, e_Md_costOf_105, e_Md_costOf_106, e_Md_costOf_109, e_Md_costOf_111, e_Md_costOf_112, e_Md_costOf_115, e_Md_costOf_118, e_Md_costOf_119, e_Md_costOf_120, e_Md_costOf_122, e_Md_costOf_123, e_Md_costOf_126, e_Md_costOf_128, e_Md_costOf_129, e_Md_costOf_130, e_Md_costOf_132, e_Md_costOf_135, e_Md_costOf_136, e_Md_costOf_139, e_Md_costOf_140, e_Md_costOf_141, e_Md_costOf_142, e_Md_costOf_145, m_get, m_put, m_ia, m_is, m_la, m_ls, fl_sf, fl_sa, fl_sl, fl_sq, ar_sf, ar_sa, ar_sl, ar_sq, lr_sf, lr_sa, lr_sl, lr_sq, qr_sf, qr_sa, qr_sl, qr_sq, sf_1, sf_2, sa_1, sa_2, sl_1, sl_2, Option.isSome_some, Option.map_some, Option.map_none, Option.toList_some, Option.toList_none, List.nil_append, List.cons_append, List.singleton_append, if_true, if_false, ↓reduceIte, and_self, and_true, true_and, and_false, false_and, not_true, not_false_iff, reduceCtorEq, Nat.reduceEqDiff, Nat.reduceAdd, Nat.reduceSub, Nat.reduceMul, Nat.reduceLT, Nat.reduceLeDiff, Nat.reduceBEq, eq_self, ne_eq, Nat.add_eq_zero_iff, Nat.add_left_cancel_iff, Nat.add_right_cancel_iff, Nat.left_eq_add, Nat.add_eq_left, Bool.true_or, Bool.or_true, Bool.or_self, or_self, or_true, true_or, or_false, false_or, decide_true, decide_false, i_10, i_01, q1, f28, r88, f10, r81, f12, r83, f26, r87, f30, r90, i9, i8, ci, j2, ij, cj, w1, o1, mm3, i0, c0, o3, e90]
      exact c
    · have u' : ¬ nI (ow (a i)) = nI (np i) := fun z => u ((nI_eq (by omega) (by omega)).mp z)
      have ln : (lnP ow np (fun k => k)) i (a i) = true := by unfold lnP; rw [decide_eq_false u]; rfl
      have cs : ∀ j, cnt (lnP ow np (fun k => k)) a j (i + 1) = if j = a i then cnt (lnP ow np (fun k => k)) a (a i) i + 1 else cnt (lnP ow np (fun k => k)) a j i := fun j => by
        rw [cnt]
        by_cases y : j = a i
        · rw [if_pos ⟨y.symm, by rw [y]; exact ln⟩, if_pos y, y]
        · rw [if_neg (fun z => y z.1.symm), if_neg y, Nat.add_zero]
      by_cases w : grR σ (a i) + cnt (lnP ow np (fun k => k)) a (a i) i < cp
      · have wz : ¬ nI cp ≤ nI (gvN (grR σ (a i)) cp (cnt (lnP ow np (fun k => k)) a (a i) i)) := nI_ge (gvN_lt.mpr w) (by omega)
        obtain ⟨h', σ', c, rest⟩ := ih _ _ (some (.int (nI (a i)))) (some (.int 1)) (Hp_sa (t := 0) (n := 6) G (a := 90) rfl rfl (upd (σg 90) (a i) (nI (gvN (grR σ (a i)) cp (cnt (lnP ow np (fun k => k)) a (a i) i)) + 1))) (fun b hb => by rw [us, if_neg hb]; exact h1 b hb) (fun j hj => by
          show upd (σg 90) _ _ j = _
          rw [cs j, upd]
          by_cases y : j = a i
          · rw [if_pos y, if_pos y, y, gvN_s1 w, nI_1]
          · rw [if_neg y, if_neg y]
            exact h2 j hj)
        refine ⟨h', σ', ?_, rest⟩
        have pe : (prP (grR σ) (fun k => k) sr cp) (a i) (cnt (lnP ow np (fun k => k)) a (a i) i) = (sr + 1) * (gvN (grR σ (a i)) cp (cnt (lnP ow np (fun k => k)) a (a i) i) + 1) := by rw [prP, if_pos w, gvN_eq w]
        have cp' := fun f => call_l (lv := 1) (cM_price (h := g) (nI sr) (nI (gvN (grR σ (a i)) cp (cnt (lnP ow np (fun k => k)) a (a i) i)))) (Nat.le_of_ble_eq_true rfl) f
        rw [nI_1, nI_1, nI_mul] at cp'
        rw [coC, ln, if_pos rfl, pe, ← nI_add, ← nI_1 i] at c
        simp only [e_Md_costOf_42, e_Md_costOf_43, e_Md_costOf_46, e_Md_costOf_47, e_Md_costOf_50, e_Md_costOf_52, e_Md_costOf_53, e_Md_costOf_55, e_Md_costOf_56, e_Md_costOf_59, e_Md_costOf_61, e_Md_costOf_62, e_Md_costOf_63, e_Md_costOf_66, e_Md_costOf_67, e_Md_costOf_68, e_Md_costOf_71, e_Md_costOf_73, e_Md_costOf_74, e_Md_costOf_75, e_Md_costOf_76, e_Md_costOf_79, e_Md_costOf_80, e_Md_costOf_83, e_Md_costOf_85, e_Md_costOf_86, e_Md_costOf_87, e_Md_costOf_90, e_Md_costOf_91, e_Md_costOf_94, e_Md_costOf_95, e_Md_costOf_97, e_Md_costOf_99, e_Md_costOf_101, e_Md_costOf_104, e_Md_costOf_105, e_Md_costOf_106, e_Md_costOf_109, e_Md_costOf_111, e_Md_costOf_112, e_Md_costOf_115, e_Md_costOf_118, e_Md_costOf_119, e_Md_costOf_120, e_Md_costOf_122, e_Md_costOf_123, e_Md_costOf_126, e_Md_costOf_128, e_Md_costOf_129, e_Md_costOf_130, e_Md_costOf_132, e_Md_costOf_135, e_Md_costOf_136, e_Md_costOf_139, e_Md_costOf_140, e_Md_costOf_141, e_Md_costOf_142, e_Md_costOf_145, m_get, m_put, m_ia, m_is, m_la, m_ls, fl_sf, fl_sa, fl_sl, fl_sq, ar_sf, ar_sa, ar_sl, ar_sq, lr_sf, lr_sa, lr_sl, lr_sq, qr_sf, qr_sa, qr_sl, qr_sq, sf_1, sf_2, sa_1, sa_2, sl_1, sl_2, Option.isSome_some, Option.map_some, Option.map_none, Option.toList_some, Option.toList_none, List.nil_append, List.cons_append, List.singleton_append, if_true, if_false, ↓reduceIte, and_self, and_true, true_and, and_false, false_and, not_true, not_false_iff, reduceCtorEq, Nat.reduceEqDiff, Nat.reduceAdd, Nat.reduceSub, Nat.reduceMul, Nat.reduceLT, Nat.reduceLeDiff, Nat.reduceBEq, eq_self, ne_eq, Nat.add_eq_zero_iff, Nat.add_left_cancel_iff, Nat.add_right_cancel_iff, Nat.left_eq_add, Nat.add_eq_left, Bool.true_or, Bool.or_true, Bool.or_self, or_self, or_true, true_or, or_false, false_or, decide_true, decide_false, i_10, i_01, q1, f28, r88, f10, r81, f12, r83, f26, r87, f30, r90, i9, i8, ci, j2, ij, cj, w1, o1, mm3, i0, c0, o3, u', e90, wz, cp']
        exact c
      · have wz : nI cp ≤ nI (gvN (grR σ (a i)) cp (cnt (lnP ow np (fun k => k)) a (a i) i)) := nI_le (by
          have := mt gvN_lt.mp w
          omega) (by omega)
        obtain ⟨h', σ', c, rest⟩ := ih _ _ (some (.int (nI (a i)))) (some (.int 0)) (Hp_sa (t := 0) (n := 6) G (a := 90) rfl rfl (upd (σg 90) (a i) (nI (gvN (grR σ (a i)) cp (cnt (lnP ow np (fun k => k)) a (a i) i)) + 0))) (fun b hb => by rw [us, if_neg hb]; exact h1 b hb) (fun j hj => by
          show upd (σg 90) _ _ j = _
          rw [cs j, upd]
          by_cases y : j = a i
          · rw [if_pos y, if_pos y, y, gvN_s2 w, Int32.add_zero]
          · rw [if_neg y, if_neg y]
            exact h2 j hj)
        refine ⟨h', σ', ?_, rest⟩
        have pe : (prP (grR σ) (fun k => k) sr cp) (a i) (cnt (lnP ow np (fun k => k)) a (a i) i) = 0 := by rw [prP, if_neg w]
        rw [coC, ln, if_pos rfl, pe, ← nI_add, ← nI_1, nI_0] at c
        simp only [e_Md_costOf_42, e_Md_costOf_43, e_Md_costOf_46, e_Md_costOf_47, e_Md_costOf_50, e_Md_costOf_52, e_Md_costOf_53, e_Md_costOf_55, e_Md_costOf_56, e_Md_costOf_59, e_Md_costOf_61, e_Md_costOf_62, e_Md_costOf_63, e_Md_costOf_66, e_Md_costOf_67, e_Md_costOf_68, e_Md_costOf_71, e_Md_costOf_73, e_Md_costOf_74, e_Md_costOf_75, e_Md_costOf_76, e_Md_costOf_79, e_Md_costOf_80, e_Md_costOf_83, e_Md_costOf_85, e_Md_costOf_86, e_Md_costOf_87, e_Md_costOf_90, e_Md_costOf_91, e_Md_costOf_94, e_Md_costOf_95, e_Md_costOf_97, e_Md_costOf_99, e_Md_costOf_101, e_Md_costOf_104, e_Md_costOf_105, e_Md_costOf_106, e_Md_costOf_109, e_Md_costOf_111, e_Md_costOf_112, e_Md_costOf_115, e_Md_costOf_118, e_Md_costOf_119, e_Md_costOf_120, e_Md_costOf_122, e_Md_costOf_123, e_Md_costOf_126, e_Md_costOf_128, e_Md_costOf_129, e_Md_costOf_130, e_Md_costOf_132, e_Md_costOf_135, e_Md_costOf_136, e_Md_costOf_139, e_Md_costOf_140, e_Md_costOf_141, e_Md_costOf_142, e_Md_costOf_145, m_get, m_put, m_ia, m_is, m_la, m_ls, fl_sf, fl_sa, fl_sl, fl_sq, ar_sf, ar_sa, ar_sl, ar_sq, lr_sf, lr_sa, lr_sl, lr_sq, qr_sf, qr_sa, qr_sl, qr_sq, sf_1, sf_2, sa_1, sa_2, sl_1, sl_2, Option.isSome_some, Option.map_some, Option.map_none, Option.toList_some, Option.toList_none, List.nil_append, List.cons_append, List.singleton_append, if_true, if_false, ↓reduceIte, and_self, and_true, true_and, and_false, false_and, not_true, not_false_iff, reduceCtorEq, Nat.reduceEqDiff, Nat.reduceAdd, Nat.reduceSub, Nat.reduceMul, Nat.reduceLT, Nat.reduceLeDiff, Nat.reduceBEq, eq_self, ne_eq, Nat.add_eq_zero_iff, Nat.add_left_cancel_iff, Nat.add_right_cancel_iff, Nat.left_eq_add, Nat.add_eq_left, Bool.true_or, Bool.or_true, Bool.or_self, or_self, or_true, true_or, or_false, false_or, decide_true, decide_false, i_10, i_01, q1, f28, r88, f10, r81, f12, r83, f26, r87, f30, r90, i9, i8, ci, j2, ij, cj, w1, o1, mm3, i0, c0, o3, u', e90, wz]
        exact c
end MC
