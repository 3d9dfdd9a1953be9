/-! The least cost of the days behind. -/
theorem mn_up (f : Nat → Nat) : ∀ k, mn f k ≤ 536870912
  | 0 => Nat.le_refl _
  | k + 1 => by
    have := mn_up f k
    rw [mn]
    split <;> omega
theorem cfT_up {C : Nat} {pr li : Nat → Nat → Nat} {lc : Nat → Nat} : ∀ r d T, cfT C pr li lc r d T ≤ 536870912
  | 0, _, _ => Nat.zero_le _
  | _ + 1, _, _ => mn_up _ _
theorem tl_lt (L : Nat) : tlN L ≤ 1365 := by
  unfold tlN
  omega
theorem nm1 {a : Nat} (ha : a < 2 ^ 31) : ¬ nI a = -1 := fun w => by
  have := nI_pos ha
  rw [w] at this
  exact this (by decide)
theorem L64 {C L : Nat} (h : C ≤ 6) (hL : L < 2 ^ C) : L < 64 := Nat.lt_of_lt_of_le hL (Nat.le_trans (Nat.pow_le_pow_right (by omega) h) (by decide))
theorem Pr_cg {σ σ' τ : Nat → Nat → Int32} {C : Nat} {pr li : Nat → Nat → Nat} {lc : Nat → Nat} (R : Pr σ τ C pr li lc) (hs : ∀ b, b ≠ 63 → b ≠ 64 → σ' b = σ b) : Pr σ' τ C pr li lc := by
  unfold Pr at *
  rw [hs 59 (by omega) (by omega), hs 60 (by omega) (by omega), hs 61 (by omega) (by omega), hs 62 (by omega) (by omega)]
  exact R
section CF
variable {τ : Nat → Nat → Int32} {v s C : Nat} {q : Nat → Nat} {e1 e2 : Int64} {pr li : Nat → Nat → Nat} {lc : Nat → Nat}
theorem c_costFrom : ∀ r d T h σ, r + d = 4 → Pg h σ τ v s q e1 e2 → Pr σ τ C pr li lc → Mem σ C pr li lc → T ≤ 2000000 → (d < 4 → Tok C d T) → ∃ h' σ', xC M_Planner_costFrom [.ref 55, .int (nI d), .int (nI T)] h = some (some (.int (nI (cfT C pr li lc r d T))), h') ∧ (Pg h' σ' τ v s q e1 e2 ∧ Mem σ' C pr li lc ∧ (∀ b, b ≠ 63 → σ' b = σ b))
  | 0, d, T, h, σ, hr, G, R, Me, hT, hk => by
    have e : d = 4 := by omega
    subst e
    refine ⟨h, σ, ?_, G, Me, fun _ _ => rfl⟩
    have z : ¬ nI 4 < (4 : Int32) := Int32.lt_irrefl
    simp only [k_Planner_costFrom, e_Planner_costFrom_0, e_Planner_costFrom_1, e_Planner_costFrom_2, e_Planner_costFrom_5, e_Planner_costFrom_6, Option.isSome_some, Option.map_some, Option.map_none, Option.toList_some, Option.toList_none, List.nil_append, List.cons_append, List.singleton_append, if_true, if_false, ↓reduceIte, and_self, and_true, true_and, and_false, false_and, not_true, not_false_iff, reduceCtorEq, Nat.reduceEqDiff, Nat.reduceAdd, Nat.reduceSub, Nat.reduceMul, Nat.reduceLT, Nat.reduceLeDiff, Nat.reduceBEq, eq_self, ne_eq, Nat.add_eq_zero_iff, Nat.add_left_cancel_iff, Nat.add_right_cancel_iff, Nat.left_eq_add, Nat.add_eq_left, Bool.true_or, Bool.or_true, Bool.or_self, or_self, or_true, true_or, or_false, false_or, decide_true, decide_false, i_10, i_01, z]
    rfl
  | r + 1, d, T, h, σ, hr, G, R, Me, hT, hk => by
    have C6 := R.1.1
    have p4 := p4_le C6
    have tok := hk (by omega)
    have T4 : T < 4096 := Nat.lt_of_lt_of_le tok.1 p4
    have cd := nI_clamp (show d < 2 ^ 31 by omega)
    obtain ⟨lm, le, lk⟩ := R.2.2.1 d (by omega)
    have q0 : nI d < (4 : Int32) := nI_lt (b := 4) (by omega) (by omega)
    have id := xin_nI (show d < 4 by omega) (by decide)
    /- the loop, then the memory -/
    have loop : ∀ (y : Int32) (l4 l5 l6 : Option Value), (y < 0 ∨ (2 ≤ d ∧ y = nI (4096 * (d - 2) + T))) → ∃ h' σ', xR none (1 + (5 - d)) M_Planner_costFrom 48 [some (.ref 55), some (.int (nI d)), some (.int (nI T)), some (.int y), l4, l5, l6] [] h = some (some (.int (nI (cfT C pr li lc (r + 1) d T))), h') ∧ (Pg h' σ' τ v s q e1 e2 ∧ Mem σ' C pr li lc ∧ (∀ b, b ≠ 63 → σ' b = σ b)) := by
      intro y l4 l5 l6 hy
      have key := loop_dn (t := lc d) (P := fun i => ∀ g σg (l6 : Option Value), Pg g σg τ v s q e1 e2 → Mem σg C pr li lc → (∀ b, b ≠ 63 → σg b = σ b) → ∃ h' σ', xR none (1 + (5 - d)) M_Planner_costFrom 55 [some (.ref 55), some (.int (nI d)), some (.int (nI T)), some (.int y), some (.int (nI (mn (fun k => csT C pr (li d k) T + cfT C pr li lc r (d + 1) (T + tlN (li d k))) i))), some (.int (nI i)), l6] [] g = some (some (.int (nI (cfT C pr li lc (r + 1) d T))), h') ∧ (Pg h' σ' τ v s q e1 e2 ∧ Mem σ' C pr li lc ∧ (∀ b, b ≠ 63 → σ' b = σ b))) ?_ ?_ 0 (Nat.zero_le _)
      · obtain ⟨h', σ', c, rest⟩ := key h σ l6 G Me (fun _ _ => rfl)
        refine ⟨h', σ', ?_, rest⟩
        rw [nI_0, show mn (fun k => csT C pr (li d k) T + cfT C pr li lc r (d + 1) (T + tlN (li d k))) 0 = 536870912 from rfl, show nI 536870912 = (536870912 : Int32) from rfl] at c
        simp only [e_Planner_costFrom_48, e_Planner_costFrom_50, e_Planner_costFrom_52, e_Planner_costFrom_53]
        exact c
      · intro g σg l6 Gg Mg h1
        have f10 := hR Gg.1 55 4 10 60 rfl rfl
        have r60 := hA Gg.1 60 0 4 rfl rfl
        rw [h1 60 (by omega)] at r60
        have ce : cfT C pr li lc (r + 1) d T = mn (fun k => csT C pr (li d k) T + cfT C pr li lc r (d + 1) (T + tlN (li d k))) (lc d) := rfl
        rcases hy with y0 | ⟨d2, ey⟩
        · refine ⟨g, σg, ?_, Gg, Mg, h1⟩
          rw [ce]
          simp only [e_Planner_costFrom_55, e_Planner_costFrom_57, e_Planner_costFrom_58, e_Planner_costFrom_61, e_Planner_costFrom_62, e_Planner_costFrom_63, e_Planner_costFrom_117, e_Planner_costFrom_118, e_Planner_costFrom_129, e_Planner_costFrom_131, m_get, m_put, m_ia, m_is, m_la, m_ls, fl_sf, fl_sa, fl_sl, fl_sq, ar_sf, ar_sa, ar_sl, ar_sq, lr_sf, lr_sa, lr_sl, lr_sq, qr_sf, qr_sa, qr_sl, qr_sq, sf_1, sf_2, sa_1, sa_2, sl_1, sl_2, Option.isSome_some, Option.map_some, Option.map_none, Option.toList_some, Option.toList_none, List.nil_append, List.cons_append, List.singleton_append, if_true, if_false, ↓reduceIte, and_self, and_true, true_and, and_false, false_and, not_true, not_false_iff, reduceCtorEq, Nat.reduceEqDiff, Nat.reduceAdd, Nat.reduceSub, Nat.reduceMul, Nat.reduceLT, Nat.reduceLeDiff, Nat.reduceBEq, eq_self, ne_eq, Nat.add_eq_zero_iff, Nat.add_left_cancel_iff, Nat.add_right_cancel_iff, Nat.left_eq_add, Nat.add_eq_left, Bool.true_or, Bool.or_true, Bool.or_self, or_self, or_true, true_or, or_false, false_or, decide_true, decide_false, i_10, i_01, f10, r60, id, cd, le, Int32.le_refl, y0]
        · have f13 := hR Gg.1 55 4 13 63 rfl rfl
          have r63 := hA Gg.1 63 0 8192 rfl rfl
          have ii := xin_nI (show 4096 * (d - 2) + T < 8192 by omega) (by decide)
          have ci := nI_clamp (show 4096 * (d - 2) + T < 2 ^ 31 by omega)
          have y0 : ¬ nI (4096 * (d - 2) + T) < 0 := nI_pos (by omega)
          refine ⟨_, _, ?_, Pg_sa (t := 0) (n := 8192) Gg (a := 63) rfl rfl (upd (σg 63) (4096 * (d - 2) + T) (nI (mn (fun k => csT C pr (li d k) T + cfT C pr li lc r (d + 1) (T + tlN (li d k))) (lc d)))), fun e e2' e4 U hU => ?_, fun b hb => by rw [us, if_neg hb]; exact h1 b hb⟩
          · rw [ce, ey]
            simp only [e_Planner_costFrom_55, e_Planner_costFrom_57, e_Planner_costFrom_58, e_Planner_costFrom_61, e_Planner_costFrom_62, e_Planner_costFrom_63, e_Planner_costFrom_117, e_Planner_costFrom_118, e_Planner_costFrom_121, e_Planner_costFrom_122, e_Planner_costFrom_125, e_Planner_costFrom_126, e_Planner_costFrom_128, e_Planner_costFrom_129, e_Planner_costFrom_131, m_get, m_put, m_ia, m_is, m_la, m_ls, fl_sf, fl_sa, fl_sl, fl_sq, ar_sf, ar_sa, ar_sl, ar_sq, lr_sf, lr_sa, lr_sl, lr_sq, qr_sf, qr_sa, qr_sl, qr_sq, sf_1, sf_2, sa_1, sa_2, sl_1, sl_2, Option.isSome_some, Option.map_some, Option.map_none, Option.toList_some, Option.toList_none, List.nil_append, List.cons_append, List.singleton_append, if_true, if_false, ↓reduceIte, and_self, and_true, true_and, and_false, false_and, not_true, not_false_iff, reduceCtorEq, Nat.reduceEqDiff, Nat.reduceAdd, Nat.reduceSub, Nat.reduceMul, Nat.reduceLT, Nat.reduceLeDiff, Nat.reduceBEq, eq_self, ne_eq, Nat.add_eq_zero_iff, Nat.add_left_cancel_iff, Nat.add_right_cancel_iff, Nat.left_eq_add, Nat.add_eq_left, Bool.true_or, Bool.or_true, Bool.or_self, or_self, or_true, true_or, or_false, false_or, decide_true, decide_false, i_10, i_01, f10, r60, f13, r63, id, cd, le, Int32.le_refl, y0, ii, ci]
          · show upd (σg 63) _ _ _ = _ ∨ upd (σg 63) _ _ _ = _
            rw [upd]
            by_cases w : 4096 * (e - 2) + U = 4096 * (d - 2) + T
            · have ed : e = d := by omega
              have eT : U = T := by omega
              rw [if_pos w]
              subst ed eT
              rw [show 4 - e = r + 1 by omega]
              exact Or.inr rfl
            · rw [if_neg w]
              exact Mg e e2' e4 U hU
      · intro i hi ih g σg l6 Gg Mg h1
        obtain ⟨L2, eL⟩ := lk i hi
        have Rg : Pr σg τ C pr li lc := Pr_cg R (fun b n1 _ => h1 b n1)
        have f9 := hR Gg.1 55 4 9 59 rfl rfl
        have r59 := hA Gg.1 59 0 256 rfl rfl
        rw [h1 59 (by omega)] at r59
        have f10 := hR Gg.1 55 4 10 60 rfl rfl
        have r60 := hA Gg.1 60 0 4 rfl rfl
        rw [h1 60 (by omega)] at r60
        have f11 := hR Gg.1 55 4 11 61 rfl rfl
        have r61 := hA Gg.1 61 0 64 rfl rfl
        have L6 := L64 C6 L2
        have e61 := Rg.2.2.2.1 _ L6
        have tl := tl_lt (li d i)
        have q1 : ¬ nI (lc d) ≤ nI i := nI_ge hi (by omega)
        have mm := m64 d i
        have ii := xin_nI (show 64 * d + i < 256 by omega) (by decide)
        have ci := nI_clamp (show 64 * d + i < 2 ^ 31 by omega)
        have iL := xin_nI L6 (by decide)
        have cL := nI_clamp (show li d i < 2 ^ 31 by omega)
        have c1 := call_v (lv := 1 + (5 - d)) (c_costOfSet Gg Rg (L := li d i) (T := T) (by omega)) (Pg_is Gg) (by decide) (show 0 < 1 + (5 - d) by omega)
        obtain ⟨h2, σ2, c2, G2, M2', k2⟩ := c_costFrom r (d + 1) (T + tlN (li d i)) g σg (by omega) Gg Rg Mg (by omega) (fun _ => (T_step C6 (by omega) tok L2).1)
        have c2' := call_v (lv := 1 + (5 - d)) c2 (Pg_is Gg) (by decide) (show 1 + (5 - (nI (d + 1)).toNatClampNeg) < 1 + (5 - d) by rw [nI_clamp (by omega)]; omega)
        obtain ⟨h', σ', c, rest⟩ := ih h2 σ2 (some (.int (nI (li d i)))) G2 M2' (fun b hb => by rw [k2 b hb]; exact h1 b hb)
        refine ⟨h', σ', ?_, rest⟩
        have b1 := cs_bd R.2.2.2.2 (li d i) T C
        have b2 := cfT_up (C := C) (pr := pr) (li := li) (lc := lc) r (d + 1) (T + tlN (li d i))
        have b3 := mn_up (fun k => csT C pr (li d k) T + cfT C pr li lc r (d + 1) (T + tlN (li d k))) i
        rw [← nI_1, mn] at c
        rw [e_Planner_costFrom_55]
        by_cases w : csT C pr (li d i) T + cfT C pr li lc r (d + 1) (T + tlN (li d i)) < mn (fun k => csT C pr (li d k) T + cfT C pr li lc r (d + 1) (T + tlN (li d k))) i
        · have wz := nI_lt w (by omega)
          rw [if_pos w] at c
          simp only [e_Planner_costFrom_57, e_Planner_costFrom_58, e_Planner_costFrom_61, e_Planner_costFrom_62, e_Planner_costFrom_63, e_Planner_costFrom_66, e_Planner_costFrom_67, e_Planner_costFrom_70, e_Planner_costFrom_71, e_Planner_costFrom_73, e_Planner_costFrom_74, e_Planner_costFrom_76, e_Planner_costFrom_77, e_Planner_costFrom_78, e_Planner_costFrom_80, e_Planner_costFrom_82, e_Planner_costFrom_83, e_Planner_costFrom_85, e_Planner_costFrom_86, e_Planner_costFrom_89, e_Planner_costFrom_90, e_Planner_costFrom_91, e_Planner_costFrom_92, e_Planner_costFrom_93, e_Planner_costFrom_94, e_Planner_costFrom_95, e_Planner_costFrom_98, e_Planner_costFrom_100, e_Planner_costFrom_101, e_Planner_costFrom_102, e_Planner_costFrom_105, e_Planner_costFrom_106, e_Planner_costFrom_109, e_Planner_costFrom_111, e_Planner_costFrom_114, m_get, m_put, m_ia, m_is, m_la, m_ls, fl_sf, fl_sa, fl_sl, fl_sq, ar_sf, ar_sa, ar_sl, ar_sq, lr_sf, lr_sa, lr_sl, lr_sq, qr_sf, qr_sa, qr_sl, qr_sq, sf_1, sf_2, sa_1, sa_2, sl_1, sl_2, Option.isSome_some, Option.map_some, Option.map_none, Option.toList_some, Option.toList_none, List.nil_append, List.cons_append, List.singleton_append, if_true, if_false, ↓reduceIte, and_self, and_true, true_and, and_false, false_and, not_true, not_false_iff, reduceCtorEq, Nat.reduceEqDiff, Nat.reduceAdd, Nat.reduceSub, Nat.reduceMul, Nat.reduceLT, Nat.reduceLeDiff, Nat.reduceBEq, eq_self, ne_eq, Nat.add_eq_zero_iff, Nat.add_left_cancel_iff, Nat.add_right_cancel_iff, Nat.left_eq_add, Nat.add_eq_left, Bool.true_or, Bool.or_true, Bool.or_self, or_self, or_true, true_or, or_false, false_or, decide_true, decide_false, i_10, i_01, f9, r59, f10, r60, f11, r61, id, cd, le, q1, mm, ii, ci, eL, iL, cL, e61, c1, nI_add, nI_1, c2', wz]
          rw [nI_1] at c
          exact c
        · have wz := nI_nlt (Nat.le_of_not_lt w) (show csT C pr (li d i) T + cfT C pr li lc r (d + 1) (T + tlN (li d i)) < 2 ^ 31 by omega)
          rw [if_neg w] at c
          simp only [e_Planner_costFrom_57, e_Planner_costFrom_58, e_Planner_costFrom_61, e_Planner_costFrom_62, e_Planner_costFrom_63, e_Planner_costFrom_66, e_Planner_costFrom_67, e_Planner_costFrom_70, e_Planner_costFrom_71, e_Planner_costFrom_73, e_Planner_costFrom_74, e_Planner_costFrom_76, e_Planner_costFrom_77, e_Planner_costFrom_78, e_Planner_costFrom_80, e_Planner_costFrom_82, e_Planner_costFrom_83, e_Planner_costFrom_85, e_Planner_costFrom_86, e_Planner_costFrom_89, e_Planner_costFrom_90, e_Planner_costFrom_91, e_Planner_costFrom_92, e_Planner_costFrom_93, e_Planner_costFrom_94, e_Planner_costFrom_95, e_Planner_costFrom_98, e_Planner_costFrom_100, e_Planner_costFrom_101, e_Planner_costFrom_102, e_Planner_costFrom_105, e_Planner_costFrom_106, e_Planner_costFrom_109, e_Planner_costFrom_111, e_Planner_costFrom_114, m_get, m_put, m_ia, m_is, m_la, m_ls, fl_sf, fl_sa, fl_sl, fl_sq, ar_sf, ar_sa, ar_sl, ar_sq, lr_sf, lr_sa, lr_sl, lr_sq, qr_sf, qr_sa, qr_sl, qr_sq, sf_1, sf_2, sa_1, sa_2, sl_1, sl_2, Option.isSome_some, Option.map_some, Option.map_none, Option.toList_some, Option.toList_none, List.nil_append, List.cons_append, List.singleton_append, if_true, if_false, ↓reduceIte, and_self, and_true, true_and, and_false, false_and, not_true, not_false_iff, reduceCtorEq, Nat.reduceEqDiff, Nat.reduceAdd, Nat.reduceSub, Nat.reduceMul, Nat.reduceLT, Nat.reduceLeDiff, Nat.reduceBEq, eq_self, ne_eq, Nat.add_eq_zero_iff, Nat.add_left_cancel_iff, Nat.add_right_cancel_iff, Nat.left_eq_add, Nat.add_eq_left, Bool.true_or, Bool.or_true, Bool.or_self, or_self, or_true, true_or, or_false, false_or, decide_true, decide_false, i_10, i_01, f9, r59, f10, r60, f11, r61, id, cd, le, q1, mm, ii, ci, eL, iL, cL, e61, c1, nI_add, nI_1, c2', wz]
          rw [nI_1] at c
          exact c
    by_cases d2 : d < 2
    · have q2 : ¬ (2 : Int32) ≤ nI d := nI_ge (b := 2) d2 (by omega)
      have y9 : (-9 : Int32) < 0 := by decide
      obtain ⟨h', σ', c, rest⟩ := loop (-9) none none none (Or.inl y9)
      refine ⟨h', σ', ?_, rest⟩
      simp only [k_Planner_costFrom, e_Planner_costFrom_0, e_Planner_costFrom_1, e_Planner_costFrom_2, e_Planner_costFrom_5, e_Planner_costFrom_6, e_Planner_costFrom_7, e_Planner_costFrom_8, e_Planner_costFrom_9, e_Planner_costFrom_12, e_Planner_costFrom_14, e_Planner_costFrom_17, e_Planner_costFrom_18, e_Planner_costFrom_19, e_Planner_costFrom_20, e_Planner_costFrom_23, e_Planner_costFrom_24, e_Planner_costFrom_25, e_Planner_costFrom_26, e_Planner_costFrom_27, e_Planner_costFrom_28, Option.isSome_some, Option.map_some, Option.map_none, Option.toList_some, Option.toList_none, List.nil_append, List.cons_append, List.singleton_append, if_true, if_false, ↓reduceIte, and_self, and_true, true_and, and_false, false_and, not_true, not_false_iff, reduceCtorEq, Nat.reduceEqDiff, Nat.reduceAdd, Nat.reduceSub, Nat.reduceMul, Nat.reduceLT, Nat.reduceLeDiff, Nat.reduceBEq, eq_self, ne_eq, Nat.add_eq_zero_iff, Nat.add_left_cancel_iff, Nat.add_right_cancel_iff, Nat.left_eq_add, Nat.add_eq_left, Bool.true_or, Bool.or_true, Bool.or_self, or_self, or_true, true_or, or_false, false_or, decide_true, decide_false, i_10, i_01, q0, q2, y9, cd]
      exact c
    · have q2 : (2 : Int32) ≤ nI d := nI_le (a := 2) (by omega) (by omega)
      have sb : nI d - 2 = nI (d - 2) := nI_sub (b := 2) (by omega)
      have mm := m4096 (d - 2) T
      have f13 := hR G.1 55 4 13 63 rfl rfl
      have r63 := hA G.1 63 0 8192 rfl rfl
      have ii := xin_nI (show 4096 * (d - 2) + T < 8192 by omega) (by decide)
      have ci := nI_clamp (show 4096 * (d - 2) + T < 2 ^ 31 by omega)
      have y0 : ¬ nI (4096 * (d - 2) + T) < 0 := nI_pos (by omega)
      by_cases w : σ 63 (4096 * (d - 2) + T) = -1
      · obtain ⟨h', σ', c, rest⟩ := loop (nI (4096 * (d - 2) + T)) none none none (Or.inr ⟨by omega, rfl⟩)
        refine ⟨h', σ', ?_, rest⟩
        simp only [k_Planner_costFrom, e_Planner_costFrom_0, e_Planner_costFrom_1, e_Planner_costFrom_2, e_Planner_costFrom_5, e_Planner_costFrom_6, e_Planner_costFrom_7, e_Planner_costFrom_8, e_Planner_costFrom_9, e_Planner_costFrom_12, e_Planner_costFrom_14, e_Planner_costFrom_17, e_Planner_costFrom_18, e_Planner_costFrom_19, e_Planner_costFrom_20, e_Planner_costFrom_23, e_Planner_costFrom_24, e_Planner_costFrom_25, e_Planner_costFrom_26, e_Planner_costFrom_27, e_Planner_costFrom_28, e_Planner_costFrom_31, e_Planner_costFrom_32, e_Planner_costFrom_35, e_Planner_costFrom_36, e_Planner_costFrom_37, e_Planner_costFrom_38, m_get, m_put, m_ia, m_is, m_la, m_ls, fl_sf, fl_sa, fl_sl, fl_sq, ar_sf, ar_sa, ar_sl, ar_sq, lr_sf, lr_sa, lr_sl, lr_sq, qr_sf, qr_sa, qr_sl, qr_sq, sf_1, sf_2, sa_1, sa_2, sl_1, sl_2, Option.isSome_some, Option.map_some, Option.map_none, Option.toList_some, Option.toList_none, List.nil_append, List.cons_append, List.singleton_append, if_true, if_false, ↓reduceIte, and_self, and_true, true_and, and_false, false_and, not_true, not_false_iff, reduceCtorEq, Nat.reduceEqDiff, Nat.reduceAdd, Nat.reduceSub, Nat.reduceMul, Nat.reduceLT, Nat.reduceLeDiff, Nat.reduceBEq, eq_self, ne_eq, Nat.add_eq_zero_iff, Nat.add_left_cancel_iff, Nat.add_right_cancel_iff, Nat.left_eq_add, Nat.add_eq_left, Bool.true_or, Bool.or_true, Bool.or_self, or_self, or_true, true_or, or_false, false_or, decide_true, decide_false, i_10, i_01, q0, q2, sb, mm, f13, r63, ii, ci, y0, w, cd]
        exact c
      · have ev := (Me d (by omega) (by omega) T tok.1).resolve_left w
        rw [show 4 - d = r + 1 by omega] at ev
        refine ⟨h, σ, ?_, G, Me, fun _ _ => rfl⟩
        rw [ev] at w
        simp only [k_Planner_costFrom, e_Planner_costFrom_0, e_Planner_costFrom_1, e_Planner_costFrom_2, e_Planner_costFrom_5, e_Planner_costFrom_6, e_Planner_costFrom_7, e_Planner_costFrom_8, e_Planner_costFrom_9, e_Planner_costFrom_12, e_Planner_costFrom_14, e_Planner_costFrom_17, e_Planner_costFrom_18, e_Planner_costFrom_19, e_Planner_costFrom_20, e_Planner_costFrom_23, e_Planner_costFrom_24, e_Planner_costFrom_25, e_Planner_costFrom_26, e_Planner_costFrom_27, e_Planner_costFrom_28, e_Planner_costFrom_31, e_Planner_costFrom_32, e_Planner_costFrom_35, e_Planner_costFrom_36, e_Planner_costFrom_37, e_Planner_costFrom_38, e_Planner_costFrom_41, e_Planner_costFrom_42, e_Planner_costFrom_45, e_Planner_costFrom_46, e_Planner_costFrom_47, m_get, m_put, m_ia, m_is, m_la, m_ls, fl_sf, fl_sa, fl_sl, fl_sq, ar_sf, ar_sa, ar_sl, ar_sq, lr_sf, lr_sa, lr_sl, lr_sq, qr_sf, qr_sa, qr_sl, qr_sq, sf_1, sf_2, sa_1, sa_2, sl_1, sl_2, Option.isSome_some, Option.map_some, Option.map_none, Option.toList_some, Option.toList_none, List.nil_append, List.cons_append, List.singleton_append, if_true, if_false, ↓reduceIte, and_self, and_true, true_and, and_false, false_and, not_true, not_false_iff, reduceCtorEq, Nat.reduceEqDiff, Nat.reduceAdd, Nat.reduceSub, Nat.reduceMul, Nat.reduceLT, Nat.reduceLeDiff, Nat.reduceBEq, eq_self, ne_eq, Nat.add_eq_zero_iff, Nat.add_left_cancel_iff, Nat.add_right_cancel_iff, Nat.left_eq_add, Nat.add_eq_left, Bool.true_or, Bool.or_true, Bool.or_self, or_self, or_true, true_or, or_false, false_or, decide_true, decide_false, i_10, i_01, q0, q2, sb, mm, f13, r63, ii, ci, y0, ev, w]
end CF
