/-! The reference's least: its order, what may be done, what it costs. -/
theorem mm3 (k : Nat) : (3 : Int32) * nI k = nI (3 * k) := by rw [show (3 : Int32) = nI 3 from rfl, nI_mul]
theorem m3a (k : Nat) : nI (3 * k) + 1 = nI (3 * k + 1) := nI_1 _
theorem m3b (k : Nat) : nI (3 * k) + 2 = nI (3 * k + 2) := nI_add _ 2
section ML
variable {h : xH} {σ τ : Nat → Nat → Int32} {v s : Nat} {q : Nat → Nat} {e1 e2 : Int64} {p t n : Nat}
theorem cM_layOrder (H : Hp h σ τ v s q e1 e2) (n8 : n ≤ 8) (hn : τ 75 15 = nI n) (x : Int32) : ∃ h' σ' τ', xC M_Md_layOrder [.ref 75, .int x] h = some (none, h') ∧ Hp h' σ' τ' v s q e1 e2 ∧ (τ' 75 27 = nI ((okD (fun d k => decide (σ 83 (3 * k + 1) = x ∧ σ 83 (3 * k + 2) = nI d)) n) 4).1 ∧ (∀ i, i < ((okD (fun d k => decide (σ 83 (3 * k + 1) = x ∧ σ 83 (3 * k + 2) = nI d)) n) 4).1 → σ' 87 i = nI (((okD (fun d k => decide (σ 83 (3 * k + 1) = x ∧ σ 83 (3 * k + 2) = nI d)) n) 4).2 i)) ∧ (∀ b, b ≠ 87 → σ' b = σ b) ∧ (∀ a k, ¬ (a = 75 ∧ k = 27) → τ' a k = τ a k)) := by
  have b4 := okD_n (P := (fun d k => decide (σ 83 (3 * k + 1) = x ∧ σ 83 (3 * k + 2) = nI d))) (n := n) 4 nd_ex
  have key := loop_dn (t := 4) (P := fun d => ∀ g σg τg (l3 : Option Value), Hp g σg τg v s q e1 e2 → τg 75 27 = nI ((okD (fun d k => decide (σ 83 (3 * k + 1) = x ∧ σ 83 (3 * k + 2) = nI d)) n) d).1 → (∀ i, i < ((okD (fun d k => decide (σ 83 (3 * k + 1) = x ∧ σ 83 (3 * k + 2) = nI d)) n) d).1 → σg 87 i = nI (((okD (fun d k => decide (σ 83 (3 * k + 1) = x ∧ σ 83 (3 * k + 2) = nI d)) n) d).2 i)) → (∀ b, b ≠ 87 → σg b = σ b) → (∀ a k, ¬ (a = 75 ∧ k = 27) → τg a k = τ a k) → ∃ h' σ' τ', xR none 0 M_Md_layOrder 7 [some (.ref 75), some (.int x), some (.int (nI d)), l3] [] g = some (none, h') ∧ Hp h' σ' τ' v s q e1 e2 ∧ (τ' 75 27 = nI ((okD (fun d k => decide (σ 83 (3 * k + 1) = x ∧ σ 83 (3 * k + 2) = nI d)) n) 4).1 ∧ (∀ i, i < ((okD (fun d k => decide (σ 83 (3 * k + 1) = x ∧ σ 83 (3 * k + 2) = nI d)) n) 4).1 → σ' 87 i = nI (((okD (fun d k => decide (σ 83 (3 * k + 1) = x ∧ σ 83 (3 * k + 2) = nI d)) n) 4).2 i)) ∧ (∀ b, b ≠ 87 → σ' b = σ b) ∧ (∀ a k, ¬ (a = 75 ∧ k = 27) → τ' a k = τ a k))) ?_ ?_ 0 (Nat.zero_le _)
  · obtain ⟨h', σ', τ', c, rest⟩ := key (sf h 75 9 27 (.int 0)) σ (ut τ 75 27 0) none (Hp_sf H rfl rfl 0) rfl (fun i hi => absurd hi (Nat.not_lt_zero _)) (fun _ _ => rfl) (fun a k hk => by rw [ut, if_neg hk])
    refine ⟨h', σ', τ', ?_, rest⟩
    rw [nI_0] at c
    simp only [k_Md_layOrder, e_Md_layOrder_0, e_Md_layOrder_1, e_Md_layOrder_2, e_Md_layOrder_5, e_Md_layOrder_6, m_get, m_put, m_ia, m_is, m_la, m_ls, fl_sf, fl_sa, fl_sl, fl_sq, ar_sf, ar_sa, ar_sl, ar_sq, lr_sf, lr_sa, lr_sl, lr_sq, qr_sf, qr_sa, qr_sl, qr_sq, sf_1, sf_2, sa_1, sa_2, sl_1, sl_2, Option.isSome_some, Option.map_some, Option.map_none, Option.toList_some, Option.toList_none, List.nil_append, List.cons_append, List.singleton_append, if_true, if_false, ↓reduceIte, and_self, and_true, true_and, and_false, false_and, not_true, not_false_iff, reduceCtorEq, Nat.reduceEqDiff, Nat.reduceAdd, Nat.reduceSub, Nat.reduceMul, Nat.reduceLT, Nat.reduceLeDiff, Nat.reduceBEq, eq_self, ne_eq, Nat.add_eq_zero_iff, Nat.add_left_cancel_iff, Nat.add_right_cancel_iff, Nat.left_eq_add, Nat.add_eq_left, Bool.true_or, Bool.or_true, Bool.or_self, or_self, or_true, true_or, or_false, false_or, decide_true, decide_false, i_10, i_01, hI H 75 9 27 rfl rfl]
    exact c
  · intro g σg τg l3 G h1 h3 h4 h5
    refine ⟨g, σg, τg, ?_, G, h1, h3, h4, h5⟩
    have z : (4 : Int32) ≤ nI 4 := Int32.le_refl (nI 4)
    simp only [e_Md_layOrder_7, e_Md_layOrder_8, e_Md_layOrder_9, e_Md_layOrder_82, Option.isSome_some, Option.map_some, Option.map_none, Option.toList_some, Option.toList_none, List.nil_append, List.cons_append, List.singleton_append, if_true, if_false, ↓reduceIte, and_self, and_true, true_and, and_false, false_and, not_true, not_false_iff, reduceCtorEq, Nat.reduceEqDiff, Nat.reduceAdd, Nat.reduceSub, Nat.reduceMul, Nat.reduceLT, Nat.reduceLeDiff, Nat.reduceBEq, eq_self, ne_eq, Nat.add_eq_zero_iff, Nat.add_left_cancel_iff, Nat.add_right_cancel_iff, Nat.left_eq_add, Nat.add_eq_left, Bool.true_or, Bool.or_true, Bool.or_self, or_self, or_true, true_or, or_false, false_or, decide_true, decide_false, i_10, i_01, z]
  · intro d hd ih g0 σ0 τ0 l3 G0 h1 h3 h4 h5
    have inner := loop_dn (t := n) (P := fun k => ∀ g σg τg, Hp g σg τg v s q e1 e2 → τg 75 27 = nI ((okK ((fun d k => decide (σ 83 (3 * k + 1) = x ∧ σ 83 (3 * k + 2) = nI d)) d) ((okD (fun d k => decide (σ 83 (3 * k + 1) = x ∧ σ 83 (3 * k + 2) = nI d)) n) d).1 ((okD (fun d k => decide (σ 83 (3 * k + 1) = x ∧ σ 83 (3 * k + 2) = nI d)) n) d).2) k).1 → (∀ i, i < ((okK ((fun d k => decide (σ 83 (3 * k + 1) = x ∧ σ 83 (3 * k + 2) = nI d)) d) ((okD (fun d k => decide (σ 83 (3 * k + 1) = x ∧ σ 83 (3 * k + 2) = nI d)) n) d).1 ((okD (fun d k => decide (σ 83 (3 * k + 1) = x ∧ σ 83 (3 * k + 2) = nI d)) n) d).2) k).1 → σg 87 i = nI (((okK ((fun d k => decide (σ 83 (3 * k + 1) = x ∧ σ 83 (3 * k + 2) = nI d)) d) ((okD (fun d k => decide (σ 83 (3 * k + 1) = x ∧ σ 83 (3 * k + 2) = nI d)) n) d).1 ((okD (fun d k => decide (σ 83 (3 * k + 1) = x ∧ σ 83 (3 * k + 2) = nI d)) n) d).2) k).2 i)) → (∀ b, b ≠ 87 → σg b = σ b) → (∀ a k, ¬ (a = 75 ∧ k = 27) → τg a k = τ a k) → ∃ h' σ' τ', xR none 0 M_Md_layOrder 14 [some (.ref 75), some (.int x), some (.int (nI d)), some (.int (nI k))] [] g = some (none, h') ∧ Hp h' σ' τ' v s q e1 e2 ∧ (τ' 75 27 = nI ((okD (fun d k => decide (σ 83 (3 * k + 1) = x ∧ σ 83 (3 * k + 2) = nI d)) n) 4).1 ∧ (∀ i, i < ((okD (fun d k => decide (σ 83 (3 * k + 1) = x ∧ σ 83 (3 * k + 2) = nI d)) n) 4).1 → σ' 87 i = nI (((okD (fun d k => decide (σ 83 (3 * k + 1) = x ∧ σ 83 (3 * k + 2) = nI d)) n) 4).2 i)) ∧ (∀ b, b ≠ 87 → σ' b = σ b) ∧ (∀ a k, ¬ (a = 75 ∧ k = 27) → τ' a k = τ a k))) ?_ ?_ 0 (Nat.zero_le _)
    · obtain ⟨h', σ', τ', c, rest⟩ := inner _ _ _ G0 h1 h3 h4 h5
      refine ⟨h', σ', τ', ?_, rest⟩
      have q1 : ¬ (4 : Int32) ≤ nI d := nI_ge (b := 4) hd (by omega)
      rw [nI_0] at c
      rw [e_Md_layOrder_7]
      simp only [e_Md_layOrder_8, e_Md_layOrder_9, e_Md_layOrder_12, e_Md_layOrder_13, Option.isSome_some, Option.map_some, Option.map_none, Option.toList_some, Option.toList_none, List.nil_append, List.cons_append, List.singleton_append, if_true, if_false, ↓reduceIte, and_self, and_true, true_and, and_false, false_and, not_true, not_false_iff, reduceCtorEq, Nat.reduceEqDiff, Nat.reduceAdd, Nat.reduceSub, Nat.reduceMul, Nat.reduceLT, Nat.reduceLeDiff, Nat.reduceBEq, eq_self, ne_eq, Nat.add_eq_zero_iff, Nat.add_left_cancel_iff, Nat.add_right_cancel_iff, Nat.left_eq_add, Nat.add_eq_left, Bool.true_or, Bool.or_true, Bool.or_self, or_self, or_true, true_or, or_false, false_or, decide_true, decide_false, i_10, i_01, q1]
      exact c
    · intro g σg τg G h1 h3 h4 h5
      obtain ⟨h', σ', τ', c, rest⟩ := ih g σg τg (some (.int (nI n))) G h1 h3 h4 h5
      refine ⟨h', σ', τ', ?_, rest⟩
      have f15 := hI G 75 9 15 rfl rfl
      rw [h5 75 15 (by omega), hn] at f15
      rw [← nI_1] at c
      simp only [e_Md_layOrder_14, e_Md_layOrder_15, e_Md_layOrder_16, e_Md_layOrder_19, e_Md_layOrder_76, e_Md_layOrder_79, m_get, m_put, m_ia, m_is, m_la, m_ls, fl_sf, fl_sa, fl_sl, fl_sq, ar_sf, ar_sa, ar_sl, ar_sq, lr_sf, lr_sa, lr_sl, lr_sq, qr_sf, qr_sa, qr_sl, qr_sq, sf_1, sf_2, sa_1, sa_2, sl_1, sl_2, Option.isSome_some, Option.map_some, Option.map_none, Option.toList_some, Option.toList_none, List.nil_append, List.cons_append, List.singleton_append, if_true, if_false, ↓reduceIte, and_self, and_true, true_and, and_false, false_and, not_true, not_false_iff, reduceCtorEq, Nat.reduceEqDiff, Nat.reduceAdd, Nat.reduceSub, Nat.reduceMul, Nat.reduceLT, Nat.reduceLeDiff, Nat.reduceBEq, eq_self, ne_eq, Nat.add_eq_zero_iff, Nat.add_left_cancel_iff, Nat.add_right_cancel_iff, Nat.left_eq_add, Nat.add_eq_left, Bool.true_or, Bool.or_true, Bool.or_self, or_self, or_true, true_or, or_false, false_or, decide_true, decide_false, i_10, i_01, f15, Int32.le_refl]
      exact c
    · intro k hk ihk g σg τg G h1 h3 h4 h5
      have f15 := hI G 75 9 15 rfl rfl
      rw [h5 75 15 (by omega), hn] at f15
      have f12 := hR G 75 9 12 83 rfl rfl
      have r83 := hA G 83 0 24 rfl rfl
      rw [h4 83 (by omega)] at r83
      have f26 := hR G 75 9 26 87 rfl rfl
      have r87 := hA G 87 0 8 rfl rfl
      have f27 := hI G 75 9 27 rfl rfl
      rw [h1] at f27
      have q1 : ¬ nI n ≤ nI k := nI_ge hk (by omega)
      have i1 := xin_nI (show 3 * k + 1 < 24 by omega) (by decide)
      have c1 := nI_clamp (show 3 * k + 1 < 2 ^ 31 by omega)
      have i2 := xin_nI (show 3 * k + 2 < 24 by omega) (by decide)
      have c2 := nI_clamp (show 3 * k + 2 < 2 ^ 31 by omega)
      rw [e_Md_layOrder_14]
      by_cases w : σ 83 (3 * k + 1) = x ∧ σ 83 (3 * k + 2) = nI d
      · have e := okK_1 (P := (fun d k => decide (σ 83 (3 * k + 1) = x ∧ σ 83 (3 * k + 2) = nI d)) d) (c0 := ((okD (fun d k => decide (σ 83 (3 * k + 1) = x ∧ σ 83 (3 * k + 2) = nI d)) n) d).1) (o0 := ((okD (fun d k => decide (σ 83 (3 * k + 1) = x ∧ σ 83 (3 * k + 2) = nI d)) n) d).2) k (decide_eq_true w)
        have le1 : ((okK ((fun d k => decide (σ 83 (3 * k + 1) = x ∧ σ 83 (3 * k + 2) = nI d)) d) ((okD (fun d k => decide (σ 83 (3 * k + 1) = x ∧ σ 83 (3 * k + 2) = nI d)) n) d).1 ((okD (fun d k => decide (σ 83 (3 * k + 1) = x ∧ σ 83 (3 * k + 2) = nI d)) n) d).2) (k + 1)).1 ≤ ((okK ((fun d k => decide (σ 83 (3 * k + 1) = x ∧ σ 83 (3 * k + 2) = nI d)) d) ((okD (fun d k => decide (σ 83 (3 * k + 1) = x ∧ σ 83 (3 * k + 2) = nI d)) n) d).1 ((okD (fun d k => decide (σ 83 (3 * k + 1) = x ∧ σ 83 (3 * k + 2) = nI d)) n) d).2) n).1 := okK_le (by omega)
        have le2 : ((okK ((fun d k => decide (σ 83 (3 * k + 1) = x ∧ σ 83 (3 * k + 2) = nI d)) d) ((okD (fun d k => decide (σ 83 (3 * k + 1) = x ∧ σ 83 (3 * k + 2) = nI d)) n) d).1 ((okD (fun d k => decide (σ 83 (3 * k + 1) = x ∧ σ 83 (3 * k + 2) = nI d)) n) d).2) n).1 ≤ ((okD (fun d k => decide (σ 83 (3 * k + 1) = x ∧ σ 83 (3 * k + 2) = nI d)) n) 4).1 := okD_le (P := (fun d k => decide (σ 83 (3 * k + 1) = x ∧ σ 83 (3 * k + 2) = nI d))) (n := n) (show d + 1 ≤ 4 by omega)
        have l8 : ((okK ((fun d k => decide (σ 83 (3 * k + 1) = x ∧ σ 83 (3 * k + 2) = nI d)) d) ((okD (fun d k => decide (σ 83 (3 * k + 1) = x ∧ σ 83 (3 * k + 2) = nI d)) n) d).1 ((okD (fun d k => decide (σ 83 (3 * k + 1) = x ∧ σ 83 (3 * k + 2) = nI d)) n) d).2) k).1 < 8 := by
          rw [e] at le1
          have le1 : ((okK ((fun d k => decide (σ 83 (3 * k + 1) = x ∧ σ 83 (3 * k + 2) = nI d)) d) ((okD (fun d k => decide (σ 83 (3 * k + 1) = x ∧ σ 83 (3 * k + 2) = nI d)) n) d).1 ((okD (fun d k => decide (σ 83 (3 * k + 1) = x ∧ σ 83 (3 * k + 2) = nI d)) n) d).2) k).1 + 1 ≤ ((okK ((fun d k => decide (σ 83 (3 * k + 1) = x ∧ σ 83 (3 * k + 2) = nI d)) d) ((okD (fun d k => decide (σ 83 (3 * k + 1) = x ∧ σ 83 (3 * k + 2) = nI d)) n) d).1 ((okD (fun d k => decide (σ 83 (3 * k + 1) = x ∧ σ 83 (3 * k + 2) = nI d)) n) d).2) n).1 := le1
          omega
        have ic := xin_nI l8 (by decide)
        have cc := nI_clamp (show ((okK ((fun d k => decide (σ 83 (3 * k + 1) = x ∧ σ 83 (3 * k + 2) = nI d)) d) ((okD (fun d k => decide (σ 83 (3 * k + 1) = x ∧ σ 83 (3 * k + 2) = nI d)) n) d).1 ((okD (fun d k => decide (σ 83 (3 * k + 1) = x ∧ σ 83 (3 * k + 2) = nI d)) n) d).2) k).1 < 2 ^ 31 by omega)
        have G1 := Hp_sf (Hp_sa (t := 0) (n := 8) G (a := 87) rfl rfl (upd (σg 87) ((okK ((fun d k => decide (σ 83 (3 * k + 1) = x ∧ σ 83 (3 * k + 2) = nI d)) d) ((okD (fun d k => decide (σ 83 (3 * k + 1) = x ∧ σ 83 (3 * k + 2) = nI d)) n) d).1 ((okD (fun d k => decide (σ 83 (3 * k + 1) = x ∧ σ 83 (3 * k + 2) = nI d)) n) d).2) k).1 (nI k))) (a := 75) (c := 9) (k := 27) rfl rfl (nI ((okK ((fun d k => decide (σ 83 (3 * k + 1) = x ∧ σ 83 (3 * k + 2) = nI d)) d) ((okD (fun d k => decide (σ 83 (3 * k + 1) = x ∧ σ 83 (3 * k + 2) = nI d)) n) d).1 ((okD (fun d k => decide (σ 83 (3 * k + 1) = x ∧ σ 83 (3 * k + 2) = nI d)) n) d).2) k).1 + 1)
        obtain ⟨h', σ', τ', c, rest⟩ := ihk _ _ _ G1 (by rw [e, ← nI_1]; simp only [ut, and_self, if_true]) (fun i hi => by
          rw [e] at hi ⊢
          have hi : i < ((okK ((fun d k => decide (σ 83 (3 * k + 1) = x ∧ σ 83 (3 * k + 2) = nI d)) d) ((okD (fun d k => decide (σ 83 (3 * k + 1) = x ∧ σ 83 (3 * k + 2) = nI d)) n) d).1 ((okD (fun d k => decide (σ 83 (3 * k + 1) = x ∧ σ 83 (3 * k + 2) = nI d)) n) d).2) k).1 + 1 := hi
          show upd (σg 87) _ _ i = nI (if i = _ then k else _)
          rw [upd]
          by_cases y : i = ((okK ((fun d k => decide (σ 83 (3 * k + 1) = x ∧ σ 83 (3 * k + 2) = nI d)) d) ((okD (fun d k => decide (σ 83 (3 * k + 1) = x ∧ σ 83 (3 * k + 2) = nI d)) n) d).1 ((okD (fun d k => decide (σ 83 (3 * k + 1) = x ∧ σ 83 (3 * k + 2) = nI d)) n) d).2) k).1
          · rw [if_pos y, if_pos y]
          · rw [if_neg y, if_neg y]
            exact h3 i (by omega)) (fun b n1 => by rw [us, if_neg n1, h4 b n1]) (fun a k hk => by rw [ut, if_neg hk, h5 a k hk])
        refine ⟨h', σ', τ', ?_, rest⟩
        rw [← nI_1] at c
        simp only [e_Md_layOrder_15, e_Md_layOrder_16, e_Md_layOrder_19, e_Md_layOrder_22, e_Md_layOrder_23, e_Md_layOrder_26, e_Md_layOrder_27, e_Md_layOrder_28, e_Md_layOrder_29, e_Md_layOrder_30, e_Md_layOrder_31, e_Md_layOrder_32, e_Md_layOrder_33, e_Md_layOrder_36, e_Md_layOrder_37, e_Md_layOrder_40, e_Md_layOrder_41, e_Md_layOrder_42, e_Md_layOrder_43, e_Md_layOrder_44, e_Md_layOrder_45, e_Md_layOrder_46, e_Md_layOrder_47, e_Md_layOrder_50, e_Md_layOrder_51, e_Md_layOrder_54, e_Md_layOrder_55, e_Md_layOrder_58, e_Md_layOrder_59, e_Md_layOrder_60, e_Md_layOrder_61, e_Md_layOrder_62, e_Md_layOrder_65, e_Md_layOrder_66, e_Md_layOrder_67, e_Md_layOrder_70, e_Md_layOrder_73, m_get, m_put, m_ia, m_is, m_la, m_ls, fl_sf, fl_sa, fl_sl, fl_sq, ar_sf, ar_sa, ar_sl, ar_sq, lr_sf, lr_sa, lr_sl, lr_sq, qr_sf, qr_sa, qr_sl, qr_sq, sf_1, sf_2, sa_1, sa_2, sl_1, sl_2, Option.isSome_some, Option.map_some, Option.map_none, Option.toList_some, Option.toList_none, List.nil_append, List.cons_append, List.singleton_append, if_true, if_false, ↓reduceIte, and_self, and_true, true_and, and_false, false_and, not_true, not_false_iff, reduceCtorEq, Nat.reduceEqDiff, Nat.reduceAdd, Nat.reduceSub, Nat.reduceMul, Nat.reduceLT, Nat.reduceLeDiff, Nat.reduceBEq, eq_self, ne_eq, Nat.add_eq_zero_iff, Nat.add_left_cancel_iff, Nat.add_right_cancel_iff, Nat.left_eq_add, Nat.add_eq_left, Bool.true_or, Bool.or_true, Bool.or_self, or_self, or_true, true_or, or_false, false_or, decide_true, decide_false, i_10, i_01, f15, f12, r83, f26, r87, f27, q1, mm3, m3a, m3b, i1, c1, i2, c2, ic, cc, w.1, w.2]
        exact c
      · have e := okK_2 (P := (fun d k => decide (σ 83 (3 * k + 1) = x ∧ σ 83 (3 * k + 2) = nI d)) d) (c0 := ((okD (fun d k => decide (σ 83 (3 * k + 1) = x ∧ σ 83 (3 * k + 2) = nI d)) n) d).1) (o0 := ((okD (fun d k => decide (σ 83 (3 * k + 1) = x ∧ σ 83 (3 * k + 2) = nI d)) n) d).2) k (by simpa using w)
        obtain ⟨h', σ', τ', c, rest⟩ := ihk g σg τg G (by rw [e]; exact h1) (by rw [e]; exact h3) h4 h5
        refine ⟨h', σ', τ', ?_, rest⟩
        rw [← nI_1] at c
        by_cases y1 : σ 83 (3 * k + 1) = x
        · have y2 : ¬ σ 83 (3 * k + 2) = nI d := fun y => w ⟨y1, y⟩
          simp only [e_Md_layOrder_15, e_Md_layOrder_16, e_Md_layOrder_19, e_Md_layOrder_22, e_Md_layOrder_23, e_Md_layOrder_26, e_Md_layOrder_27, e_Md_layOrder_28, e_Md_layOrder_29, e_Md_layOrder_30, e_Md_layOrder_31, e_Md_layOrder_32, e_Md_layOrder_33, e_Md_layOrder_36, e_Md_layOrder_37, e_Md_layOrder_40, e_Md_layOrder_41, e_Md_layOrder_42, e_Md_layOrder_43, e_Md_layOrder_44, e_Md_layOrder_45, e_Md_layOrder_46, e_Md_layOrder_47, e_Md_layOrder_50, e_Md_layOrder_51, e_Md_layOrder_54, e_Md_layOrder_55, e_Md_layOrder_58, e_Md_layOrder_59, e_Md_layOrder_60, e_Md_layOrder_61, e_Md_layOrder_62, e_Md_layOrder_65, e_Md_layOrder_66, e_Md_layOrder_67, e_Md_layOrder_70, e_Md_layOrder_73, m_get, m_put, m_ia, m_is, m_la, m_ls, fl_sf, fl_sa, fl_sl, fl_sq, ar_sf, ar_sa, ar_sl, ar_sq, lr_sf, lr_sa, lr_sl, lr_sq, qr_sf, qr_sa, qr_sl, qr_sq, sf_1, sf_2, sa_1, sa_2, sl_1, sl_2, Option.isSome_some, Option.map_some, Option.map_none, Option.toList_some, Option.toList_none, List.nil_append, List.cons_append, List.singleton_append, if_true, if_false, ↓reduceIte, and_self, and_true, true_and, and_false, false_and, not_true, not_false_iff, reduceCtorEq, Nat.reduceEqDiff, Nat.reduceAdd, Nat.reduceSub, Nat.reduceMul, Nat.reduceLT, Nat.reduceLeDiff, Nat.reduceBEq, eq_self, ne_eq, Nat.add_eq_zero_iff, Nat.add_left_cancel_iff, Nat.add_right_cancel_iff, Nat.left_eq_add, Nat.add_eq_left, Bool.true_or, Bool.or_true, Bool.or_self, or_self, or_true, true_or, or_false, false_or, decide_true, decide_false, i_10, i_01, f15, f12, r83, q1, mm3, m3a, m3b, i1, c1, i2, c2, y1, y2]
          exact c
        · simp only [e_Md_layOrder_15, e_Md_layOrder_16, e_Md_layOrder_19, e_Md_layOrder_22, e_Md_layOrder_23, e_Md_layOrder_26, e_Md_layOrder_27, e_Md_layOrder_28, e_Md_layOrder_29, e_Md_layOrder_30, e_Md_layOrder_31, e_Md_layOrder_32, e_Md_layOrder_33, e_Md_layOrder_36, e_Md_layOrder_37, e_Md_layOrder_40, e_Md_layOrder_41, e_Md_layOrder_42, e_Md_layOrder_43, e_Md_layOrder_44, e_Md_layOrder_45, e_Md_layOrder_46, e_Md_layOrder_47, e_Md_layOrder_50, e_Md_layOrder_51, e_Md_layOrder_54, e_Md_layOrder_55, e_Md_layOrder_58, e_Md_layOrder_59, e_Md_layOrder_60, e_Md_layOrder_61, e_Md_layOrder_62, e_Md_layOrder_65, e_Md_layOrder_66, e_Md_layOrder_67, e_Md_layOrder_70, e_Md_layOrder_73, m_get, m_put, m_ia, m_is, m_la, m_ls, fl_sf, fl_sa, fl_sl, fl_sq, ar_sf, ar_sa, ar_sl, ar_sq, lr_sf, lr_sa, lr_sl, lr_sq, qr_sf, qr_sa, qr_sl, qr_sq, sf_1, sf_2, sa_1, sa_2, sl_1, sl_2, Option.isSome_some, Option.map_some, Option.map_none, Option.toList_some, Option.toList_none, List.nil_append, List.cons_append, List.singleton_append, if_true, if_false, ↓reduceIte, and_self, and_true, true_and, and_false, false_and, not_true, not_false_iff, reduceCtorEq, Nat.reduceEqDiff, Nat.reduceAdd, Nat.reduceSub, Nat.reduceMul, Nat.reduceLT, Nat.reduceLeDiff, Nat.reduceBEq, eq_self, ne_eq, Nat.add_eq_zero_iff, Nat.add_left_cancel_iff, Nat.add_right_cancel_iff, Nat.left_eq_add, Nat.add_eq_left, Bool.true_or, Bool.or_true, Bool.or_self, or_self, or_true, true_or, or_false, false_or, decide_true, decide_false, i_10, i_01, f15, f12, r83, q1, mm3, m3a, m3b, i1, c1, i2, c2, y1]
          exact c
end ML
/-- what the reference's least stands on -/
def Mq (σ τ : Nat → Nat → Int32) (t m : Nat) (od ow np : Nat → Nat) : Prop :=
  (t ≤ 6 ∧ τ 75 14 = nI t) ∧ (m ≤ 8 ∧ τ 75 27 = nI m) ∧ (∀ i, i < m → σ 87 i = nI (od i) ∧ od i < 8 ∧ σ 83 (3 * od i) = nI (np i) ∧ np i < 5) ∧
  (∀ j, j < t → σ 81 j = nI (ow j) ∧ ow j < 5) ∧ (∀ i, i < m → ∀ j, j < t → bt (σ 80 (ow j)) (np i) = bt (σ 80 (np i)) (ow j))
def okR (so kn : Nat → Int32) (x : Int32) (ow np : Nat → Nat) (i j : Nat) : Bool := decide (so j = x) && okP kn ow np (fun k => k) i j
def dd (nd : Nat → Int32) (od : Nat → Nat) (k i : Nat) : Prop := nd (3 * od k + 2) = nd (3 * od i + 2)
theorem Mq_cg {σ τ σ' τ' : Nat → Nat → Int32} {t m : Nat} {od ow np : Nat → Nat} (Q : Mq σ τ t m od ow np) (hs : ∀ b, b = 80 ∨ b = 81 ∨ b = 83 ∨ b = 87 → σ' b = σ b) (ht : τ' 75 14 = τ 75 14 ∧ τ' 75 27 = τ 75 27) : Mq σ' τ' t m od ow np := by
  unfold Mq at *
  rw [hs 80 (by omega), hs 81 (by omega), hs 83 (by omega), hs 87 (by omega), ht.1, ht.2]
  exact Q
section MM
variable {h : xH} {σ τ : Nat → Nat → Int32} {v s : Nat} {q : Nat → Nat} {e1 e2 : Int64} {t m : Nat} {od ow np : Nat → Nat}
theorem cM_mayDo (H : Hp h σ τ v s q e1 e2) (Q : Mq σ τ t m od ow np) {i j : Nat} (hi : i < m) (hj : j < t) (x : Int32) : ∃ y, xC M_Md_mayDo [.ref 75, .int (nI i), .int (nI j), .int x] h = some (some (.int y), h) ∧ ((y = 1 ∧ (okR (σ 82) (σ 80) x ow np) i j = true ∧ ∀ k', k' < i → ¬ (dd (σ 83) od k' i ∧ σ 88 k' = nI j)) ∨ (y = 0 ∧ ¬ ((okR (σ 82) (σ 80) x ow np) i j = true ∧ ∀ k', k' < i → ¬ (dd (σ 83) od k' i ∧ σ 88 k' = nI j)))) := by
  obtain ⟨⟨t6, et⟩, ⟨m8, em⟩, hod, how, hsy⟩ := Q
  obtain ⟨o1, o2, o3, o4⟩ := hod i hi
  obtain ⟨w1, w2⟩ := how j hj
  have f12 := hR H 75 9 12 83 rfl rfl
  have r83 := hA H 83 0 24 rfl rfl
  have f26 := hR H 75 9 26 87 rfl rfl
  have r87 := hA H 87 0 8 rfl rfl
  have f11 := hR H 75 9 11 82 rfl rfl
  have r82 := hA H 82 0 6 rfl rfl
  have f10 := hR H 75 9 10 81 rfl rfl
  have r81 := hA H 81 0 6 rfl rfl
  have f28 := hR H 75 9 28 88 rfl rfl
  have r88 := hA H 88 0 9 rfl rfl
  have ii := xin_nI (show i < 8 by omega) (by decide)
  have ci := nI_clamp (show i < 2 ^ 31 by omega)
  have ij := xin_nI (show j < 6 by omega) (by decide)
  have cj := nI_clamp (show j < 2 ^ 31 by omega)
  have i0 := xin_nI (show 3 * od i < 24 by omega) (by decide)
  have c0 := nI_clamp (show 3 * od i < 2 ^ 31 by omega)
  have i2 := xin_nI (show 3 * od i + 2 < 24 by omega) (by decide)
  have c2 := nI_clamp (show 3 * od i + 2 < 2 ^ 31 by omega)
  have loop : ∀ y : Int32, ((y = 1 ∧ (okR (σ 82) (σ 80) x ow np) i j = true) ∨ (y = 0 ∧ ¬ (okR (σ 82) (σ 80) x ow np) i j = true)) → ∃ y', xR none 1 M_Md_mayDo 61 [some (.ref 75), some (.int (nI i)), some (.int (nI j)), some (.int x), some (.int (nI (np i))), some (.int y), some (.int 0)] [] h = some (some (.int y'), h) ∧ ((y' = 1 ∧ (okR (σ 82) (σ 80) x ow np) i j = true ∧ ∀ k', k' < i → ¬ (dd (σ 83) od k' i ∧ σ 88 k' = nI j)) ∨ (y' = 0 ∧ ¬ ((okR (σ 82) (σ 80) x ow np) i j = true ∧ ∀ k', k' < i → ¬ (dd (σ 83) od k' i ∧ σ 88 k' = nI j)))) := by
    intro y hy
    have key := loop_dn (t := i) (P := fun k => ∀ y : Int32, ((y = 1 ∧ (okR (σ 82) (σ 80) x ow np) i j = true ∧ ∀ k', k' < k → ¬ (dd (σ 83) od k' i ∧ σ 88 k' = nI j)) ∨ (y = 0 ∧ ¬ ((okR (σ 82) (σ 80) x ow np) i j = true ∧ ∀ k', k' < k → ¬ (dd (σ 83) od k' i ∧ σ 88 k' = nI j)))) → ∃ y', xR none 1 M_Md_mayDo 61 [some (.ref 75), some (.int (nI i)), some (.int (nI j)), some (.int x), some (.int (nI (np i))), some (.int y), some (.int (nI k))] [] h = some (some (.int y'), h) ∧ ((y' = 1 ∧ (okR (σ 82) (σ 80) x ow np) i j = true ∧ ∀ k', k' < i → ¬ (dd (σ 83) od k' i ∧ σ 88 k' = nI j)) ∨ (y' = 0 ∧ ¬ ((okR (σ 82) (σ 80) x ow np) i j = true ∧ ∀ k', k' < i → ¬ (dd (σ 83) od k' i ∧ σ 88 k' = nI j))))) ?_ ?_ 0 (Nat.zero_le _)
    · have := key y (by
        rcases hy with ⟨a, b⟩ | ⟨a, b⟩
        · exact Or.inl ⟨a, b, fun k hk => by omega⟩
        · exact Or.inr ⟨a, fun u => b u.1⟩)
      rw [nI_0] at this
      exact this
    · intro y hy
      refine ⟨y, ?_, hy⟩
      have yy : y = 0 ∨ y = 1 := by
        rcases hy with ⟨a, _⟩ | ⟨a, _⟩
        · exact Or.inr a
        · exact Or.inl a
      simp only [e_Md_mayDo_61, e_Md_mayDo_63, e_Md_mayDo_64, e_Md_mayDo_130, e_Md_mayDo_132, Option.isSome_some, Option.map_some, Option.map_none, Option.toList_some, Option.toList_none, List.nil_append, List.cons_append, List.singleton_append, if_true, if_false, ↓reduceIte, and_self, and_true, true_and, and_false, false_and, not_true, not_false_iff, reduceCtorEq, Nat.reduceEqDiff, Nat.reduceAdd, Nat.reduceSub, Nat.reduceMul, Nat.reduceLT, Nat.reduceLeDiff, Nat.reduceBEq, eq_self, ne_eq, Nat.add_eq_zero_iff, Nat.add_left_cancel_iff, Nat.add_right_cancel_iff, Nat.left_eq_add, Nat.add_eq_left, Bool.true_or, Bool.or_true, Bool.or_self, or_self, or_true, true_or, or_false, false_or, decide_true, decide_false, i_10, i_01, Int32.le_refl, yy]
    · intro k hk ih y hy
      obtain ⟨p1, p2, _, _⟩ := hod k (by omega)
      have q1 : ¬ nI i ≤ nI k := nI_ge hk (by omega)
      have ik := xin_nI (show k < 8 by omega) (by decide)
      have ck := nI_clamp (show k < 2 ^ 31 by omega)
      have ik9 := xin_nI (show k < 9 by omega) (by decide)
      have i3 := xin_nI (show 3 * od k + 2 < 24 by omega) (by decide)
      have c3 := nI_clamp (show 3 * od k + 2 < 2 ^ 31 by omega)
      rw [e_Md_mayDo_61]
      rcases hy with ⟨y1, ho, ha⟩ | ⟨y0, hn⟩
      · subst y1
        by_cases w : σ 83 (3 * od k + 2) = σ 83 (3 * od i + 2)
        · by_cases w' : σ 88 k = nI j
          · obtain ⟨y', c, rest⟩ := ih 0 (Or.inr ⟨rfl, fun u => u.2 k (by omega) ⟨w, w'⟩⟩)
            refine ⟨y', ?_, rest⟩
            rw [← nI_1] at c
            simp only [e_Md_mayDo_63, e_Md_mayDo_64, e_Md_mayDo_67, e_Md_mayDo_69, e_Md_mayDo_72, e_Md_mayDo_73, e_Md_mayDo_76, e_Md_mayDo_77, e_Md_mayDo_78, e_Md_mayDo_81, e_Md_mayDo_83, e_Md_mayDo_84, e_Md_mayDo_85, e_Md_mayDo_86, e_Md_mayDo_87, e_Md_mayDo_88, e_Md_mayDo_89, e_Md_mayDo_92, e_Md_mayDo_93, e_Md_mayDo_94, e_Md_mayDo_97, e_Md_mayDo_98, e_Md_mayDo_99, e_Md_mayDo_100, e_Md_mayDo_101, e_Md_mayDo_102, e_Md_mayDo_103, e_Md_mayDo_106, e_Md_mayDo_107, e_Md_mayDo_110, e_Md_mayDo_112, e_Md_mayDo_113, e_Md_mayDo_114, e_Md_mayDo_117, e_Md_mayDo_118, e_Md_mayDo_121, e_Md_mayDo_122, e_Md_mayDo_124, e_Md_mayDo_127, m_get, m_put, m_ia, m_is, m_la, m_ls, fl_sf, fl_sa, fl_sl, fl_sq, ar_sf, ar_sa, ar_sl, ar_sq, lr_sf, lr_sa, lr_sl, lr_sq, qr_sf, qr_sa, qr_sl, qr_sq, sf_1, sf_2, sa_1, sa_2, sl_1, sl_2, Option.isSome_some, Option.map_some, Option.map_none, Option.toList_some, Option.toList_none, List.nil_append, List.cons_append, List.singleton_append, if_true, if_false, ↓reduceIte, and_self, and_true, true_and, and_false, false_and, not_true, not_false_iff, reduceCtorEq, Nat.reduceEqDiff, Nat.reduceAdd, Nat.reduceSub, Nat.reduceMul, Nat.reduceLT, Nat.reduceLeDiff, Nat.reduceBEq, eq_self, ne_eq, Nat.add_eq_zero_iff, Nat.add_left_cancel_iff, Nat.add_right_cancel_iff, Nat.left_eq_add, Nat.add_eq_left, Bool.true_or, Bool.or_true, Bool.or_self, or_self, or_true, true_or, or_false, false_or, decide_true, decide_false, i_10, i_01, q1, f12, r83, f26, r87, f28, r88, ik, ck, ik9, ii, ci, p1, o1, mm3, m3b, i3, c3, i2, c2, w, w']
            exact c
          · obtain ⟨y', c, rest⟩ := ih 1 (Or.inl ⟨rfl, ho, fun k' hk' => by
              by_cases u : k' = k
              · rw [u]; exact fun z => w' z.2
              · exact ha k' (by omega)⟩)
            refine ⟨y', ?_, rest⟩
            rw [← nI_1] at c
            simp only [e_Md_mayDo_63, e_Md_mayDo_64, e_Md_mayDo_67, e_Md_mayDo_69, e_Md_mayDo_72, e_Md_mayDo_73, e_Md_mayDo_76, e_Md_mayDo_77, e_Md_mayDo_78, e_Md_mayDo_81, e_Md_mayDo_83, e_Md_mayDo_84, e_Md_mayDo_85, e_Md_mayDo_86, e_Md_mayDo_87, e_Md_mayDo_88, e_Md_mayDo_89, e_Md_mayDo_92, e_Md_mayDo_93, e_Md_mayDo_94, e_Md_mayDo_97, e_Md_mayDo_98, e_Md_mayDo_99, e_Md_mayDo_100, e_Md_mayDo_101, e_Md_mayDo_102, e_Md_mayDo_103, e_Md_mayDo_106, e_Md_mayDo_107, e_Md_mayDo_110, e_Md_mayDo_112, e_Md_mayDo_113, e_Md_mayDo_114, e_Md_mayDo_117, e_Md_mayDo_118, e_Md_mayDo_121, e_Md_mayDo_122, e_Md_mayDo_124, e_Md_mayDo_127, m_get, m_put, m_ia, m_is, m_la, m_ls, fl_sf, fl_sa, fl_sl, fl_sq, ar_sf, ar_sa, ar_sl, ar_sq, lr_sf, lr_sa, lr_sl, lr_sq, qr_sf, qr_sa, qr_sl, qr_sq, sf_1, sf_2, sa_1, sa_2, sl_1, sl_2, Option.isSome_some, Option.map_some, Option.map_none, Option.toList_some, Option.toList_none, List.nil_append, List.cons_append, List.singleton_append, if_true, if_false, ↓reduceIte, and_self, and_true, true_and, and_false, false_and, not_true, not_false_iff, reduceCtorEq, Nat.reduceEqDiff, Nat.reduceAdd, Nat.reduceSub, Nat.reduceMul, Nat.reduceLT, Nat.reduceLeDiff, Nat.reduceBEq, eq_self, ne_eq, Nat.add_eq_zero_iff, Nat.add_left_cancel_iff, Nat.add_right_cancel_iff, Nat.left_eq_add, Nat.add_eq_left, Bool.true_or, Bool.or_true, Bool.or_self, or_self, or_true, true_or, or_false, false_or, decide_true, decide_false, i_10, i_01, q1, f12, r83, f26, r87, f28, r88, ik, ck, ik9, ii, ci, p1, o1, mm3, m3b, i3, c3, i2, c2, w, w']
            exact c
        · obtain ⟨y', c, rest⟩ := ih 1 (Or.inl ⟨rfl, ho, fun k' hk' => by
            by_cases u : k' = k
            · rw [u]; exact fun z => w z.1
            · exact ha k' (by omega)⟩)
          refine ⟨y', ?_, rest⟩
          rw [← nI_1] at c
          simp only [e_Md_mayDo_63, e_Md_mayDo_64, e_Md_mayDo_67, e_Md_mayDo_69, e_Md_mayDo_72, e_Md_mayDo_73, e_Md_mayDo_76, e_Md_mayDo_77, e_Md_mayDo_78, e_Md_mayDo_81, e_Md_mayDo_83, e_Md_mayDo_84, e_Md_mayDo_85, e_Md_mayDo_86, e_Md_mayDo_87, e_Md_mayDo_88, e_Md_mayDo_89, e_Md_mayDo_92, e_Md_mayDo_93, e_Md_mayDo_94, e_Md_mayDo_97, e_Md_mayDo_98, e_Md_mayDo_99, e_Md_mayDo_100, e_Md_mayDo_101, e_Md_mayDo_102, e_Md_mayDo_103, e_Md_mayDo_106, e_Md_mayDo_107, e_Md_mayDo_110, e_Md_mayDo_112, e_Md_mayDo_113, e_Md_mayDo_114, e_Md_mayDo_117, e_Md_mayDo_118, e_Md_mayDo_121, e_Md_mayDo_122, e_Md_mayDo_124, e_Md_mayDo_127, m_get, m_put, m_ia, m_is, m_la, m_ls, fl_sf, fl_sa, fl_sl, fl_sq, ar_sf, ar_sa, ar_sl, ar_sq, lr_sf, lr_sa, lr_sl, lr_sq, qr_sf, qr_sa, qr_sl, qr_sq, sf_1, sf_2, sa_1, sa_2, sl_1, sl_2, Option.isSome_some, Option.map_some, Option.map_none, Option.toList_some, Option.toList_none, List.nil_append, List.cons_append, List.singleton_append, if_true, if_false, ↓reduceIte, and_self, and_true, true_and, and_false, false_and, not_true, not_false_iff, reduceCtorEq, Nat.reduceEqDiff, Nat.reduceAdd, Nat.reduceSub, Nat.reduceMul, Nat.reduceLT, Nat.reduceLeDiff, Nat.reduceBEq, eq_self, ne_eq, Nat.add_eq_zero_iff, Nat.add_left_cancel_iff, Nat.add_right_cancel_iff, Nat.left_eq_add, Nat.add_eq_left, Bool.true_or, Bool.or_true, Bool.or_self, or_self, or_true, true_or, or_false, false_or, decide_true, decide_false, i_10, i_01, q1, f12, r83, f26, r87, f28, r88, ik, ck, ik9, ii, ci, p1, o1, mm3, m3b, i3, c3, i2, c2, w]
          exact c
      · subst y0
        obtain ⟨y', c, rest⟩ := ih 0 (Or.inr ⟨rfl, fun u => hn ⟨u.1, fun k' hk' => u.2 k' (by omega)⟩⟩)
        refine ⟨y', ?_, rest⟩
        rw [← nI_1] at c
        simp only [e_Md_mayDo_63, e_Md_mayDo_64, e_Md_mayDo_67, e_Md_mayDo_69, e_Md_mayDo_72, e_Md_mayDo_73, e_Md_mayDo_76, e_Md_mayDo_77, e_Md_mayDo_78, e_Md_mayDo_81, e_Md_mayDo_83, e_Md_mayDo_84, e_Md_mayDo_85, e_Md_mayDo_86, e_Md_mayDo_87, e_Md_mayDo_88, e_Md_mayDo_89, e_Md_mayDo_92, e_Md_mayDo_93, e_Md_mayDo_94, e_Md_mayDo_97, e_Md_mayDo_98, e_Md_mayDo_99, e_Md_mayDo_100, e_Md_mayDo_101, e_Md_mayDo_102, e_Md_mayDo_103, e_Md_mayDo_106, e_Md_mayDo_107, e_Md_mayDo_110, e_Md_mayDo_112, e_Md_mayDo_113, e_Md_mayDo_114, e_Md_mayDo_117, e_Md_mayDo_118, e_Md_mayDo_121, e_Md_mayDo_122, e_Md_mayDo_124, e_Md_mayDo_127, m_get, m_put, m_ia, m_is, m_la, m_ls, fl_sf, fl_sa, fl_sl, fl_sq, ar_sf, ar_sa, ar_sl, ar_sq, lr_sf, lr_sa, lr_sl, lr_sq, qr_sf, qr_sa, qr_sl, qr_sq, sf_1, sf_2, sa_1, sa_2, sl_1, sl_2, Option.isSome_some, Option.map_some, Option.map_none, Option.toList_some, Option.toList_none, List.nil_append, List.cons_append, List.singleton_append, if_true, if_false, ↓reduceIte, and_self, and_true, true_and, and_false, false_and, not_true, not_false_iff, reduceCtorEq, Nat.reduceEqDiff, Nat.reduceAdd, Nat.reduceSub, Nat.reduceMul, Nat.reduceLT, Nat.reduceLeDiff, Nat.reduceBEq, eq_self, ne_eq, Nat.add_eq_zero_iff, Nat.add_left_cancel_iff, Nat.add_right_cancel_iff, Nat.left_eq_add, Nat.add_eq_left, Bool.true_or, Bool.or_true, Bool.or_self, or_self, or_true, true_or, or_false, false_or, decide_true, decide_false, i_10, i_01, q1]
        exact c
  by_cases w : σ 82 j = x
  · by_cases u : ow j = np i
    · obtain ⟨y', c, rest⟩ := loop 1 (Or.inl ⟨rfl, by unfold okR okP; rw [decide_eq_true w, decide_eq_true u]; rfl⟩)
      refine ⟨y', ?_, rest⟩
      rw [← u] at o3 c
      simp only [k_Md_mayDo, e_Md_mayDo_0, e_Md_mayDo_1, e_Md_mayDo_4, e_Md_mayDo_5, e_Md_mayDo_6, e_Md_mayDo_9, e_Md_mayDo_10, e_Md_mayDo_11, e_Md_mayDo_12, e_Md_mayDo_13, e_Md_mayDo_15, e_Md_mayDo_16, e_Md_mayDo_19, e_Md_mayDo_20, e_Md_mayDo_21, e_Md_mayDo_22, e_Md_mayDo_25, e_Md_mayDo_26, e_Md_mayDo_29, e_Md_mayDo_30, e_Md_mayDo_31, e_Md_mayDo_33, e_Md_mayDo_36, e_Md_mayDo_37, e_Md_mayDo_38, e_Md_mayDo_41, e_Md_mayDo_42, e_Md_mayDo_43, e_Md_mayDo_45, e_Md_mayDo_48, e_Md_mayDo_51, e_Md_mayDo_52, e_Md_mayDo_55, e_Md_mayDo_56, e_Md_mayDo_58, e_Md_mayDo_59, m_get, m_put, m_ia, m_is, m_la, m_ls, fl_sf, fl_sa, fl_sl, fl_sq, ar_sf, ar_sa, ar_sl, ar_sq, lr_sf, lr_sa, lr_sl, lr_sq, qr_sf, qr_sa, qr_sl, qr_sq, sf_1, sf_2, sa_1, sa_2, sl_1, sl_2, Option.isSome_some, Option.map_some, Option.map_none, Option.toList_some, Option.toList_none, List.nil_append, List.cons_append, List.singleton_append, if_true, if_false, ↓reduceIte, and_self, and_true, true_and, and_false, false_and, not_true, not_false_iff, reduceCtorEq, Nat.reduceEqDiff, Nat.reduceAdd, Nat.reduceSub, Nat.reduceMul, Nat.reduceLT, Nat.reduceLeDiff, Nat.reduceBEq, eq_self, ne_eq, Nat.add_eq_zero_iff, Nat.add_left_cancel_iff, Nat.add_right_cancel_iff, Nat.left_eq_add, Nat.add_eq_left, Bool.true_or, Bool.or_true, Bool.or_self, or_self, or_true, true_or, or_false, false_or, decide_true, decide_false, i_10, i_01, f12, r83, f26, r87, f11, r82, f10, r81, ii, ci, ij, cj, o1, mm3, i0, c0, o3, w, w1]
      exact c
    · have u' : ¬ nI (ow j) = nI (np i) := fun z => u ((nI_eq (by omega) (by omega)).mp z)
      have ck := call_v (lv := 1) (cM_doKnow H (i := ow j) w2 (nI (np i))) (Hp_75 H) (by decide) (Nat.le_of_ble_eq_true rfl)
      have bz := b_z (x := σ 80 (ow j)) (show np i < 32 by omega)
      have sy := hsy i hi j hj
      by_cases z : bt (σ 80 (ow j)) (np i) = true
      · have wz : ¬ ((σ 80 (ow j) >>> (nI (np i) &&& 31)) &&& 1 = 0) := fun y => by rw [bz.mp y] at z; cases z
        simp only [if_neg wz] at ck
        obtain ⟨y', c, rest⟩ := loop 1 (Or.inl ⟨rfl, by unfold okR okP; rw [decide_eq_true w, ← sy, z, Bool.or_true]; rfl⟩)
        refine ⟨y', ?_, rest⟩
        simp only [k_Md_mayDo, e_Md_mayDo_0, e_Md_mayDo_1, e_Md_mayDo_4, e_Md_mayDo_5, e_Md_mayDo_6, e_Md_mayDo_9, e_Md_mayDo_10, e_Md_mayDo_11, e_Md_mayDo_12, e_Md_mayDo_13, e_Md_mayDo_15, e_Md_mayDo_16, e_Md_mayDo_19, e_Md_mayDo_20, e_Md_mayDo_21, e_Md_mayDo_22, e_Md_mayDo_25, e_Md_mayDo_26, e_Md_mayDo_29, e_Md_mayDo_30, e_Md_mayDo_31, e_Md_mayDo_33, e_Md_mayDo_36, e_Md_mayDo_37, e_Md_mayDo_38, e_Md_mayDo_41, e_Md_mayDo_42, e_Md_mayDo_43, e_Md_mayDo_45, e_Md_mayDo_48, e_Md_mayDo_51, e_Md_mayDo_52, e_Md_mayDo_55, e_Md_mayDo_56, e_Md_mayDo_58, e_Md_mayDo_59, m_get, m_put, m_ia, m_is, m_la, m_ls, fl_sf, fl_sa, fl_sl, fl_sq, ar_sf, ar_sa, ar_sl, ar_sq, lr_sf, lr_sa, lr_sl, lr_sq, qr_sf, qr_sa, qr_sl, qr_sq, sf_1, sf_2, sa_1, sa_2, sl_1, sl_2, Option.isSome_some, Option.map_some, Option.map_none, Option.toList_some, Option.toList_none, List.nil_append, List.cons_append, List.singleton_append, if_true, if_false, ↓reduceIte, and_self, and_true, true_and, and_false, false_and, not_true, not_false_iff, reduceCtorEq, Nat.reduceEqDiff, Nat.reduceAdd, Nat.reduceSub, Nat.reduceMul, Nat.reduceLT, Nat.reduceLeDiff, Nat.reduceBEq, eq_self, ne_eq, Nat.add_eq_zero_iff, Nat.add_left_cancel_iff, Nat.add_right_cancel_iff, Nat.left_eq_add, Nat.add_eq_left, Bool.true_or, Bool.or_true, Bool.or_self, or_self, or_true, true_or, or_false, false_or, decide_true, decide_false, i_10, i_01, f12, r83, f26, r87, f11, r82, f10, r81, ii, ci, ij, cj, o1, mm3, i0, c0, o3, w, w1, u', ck]
        exact c
      · have wz : (σ 80 (ow j) >>> (nI (np i) &&& 31)) &&& 1 = 0 := bz.mpr (by simpa using z)
        simp only [if_pos wz] at ck
        obtain ⟨y', c, rest⟩ := loop 0 (Or.inr ⟨rfl, by
          unfold okR okP
          rw [decide_eq_true w, ← sy, decide_eq_false u]
          simpa using z⟩)
        refine ⟨y', ?_, rest⟩
        simp only [k_Md_mayDo, e_Md_mayDo_0, e_Md_mayDo_1, e_Md_mayDo_4, e_Md_mayDo_5, e_Md_mayDo_6, e_Md_mayDo_9, e_Md_mayDo_10, e_Md_mayDo_11, e_Md_mayDo_12, e_Md_mayDo_13, e_Md_mayDo_15, e_Md_mayDo_16, e_Md_mayDo_19, e_Md_mayDo_20, e_Md_mayDo_21, e_Md_mayDo_22, e_Md_mayDo_25, e_Md_mayDo_26, e_Md_mayDo_29, e_Md_mayDo_30, e_Md_mayDo_31, e_Md_mayDo_33, e_Md_mayDo_36, e_Md_mayDo_37, e_Md_mayDo_38, e_Md_mayDo_41, e_Md_mayDo_42, e_Md_mayDo_43, e_Md_mayDo_45, e_Md_mayDo_48, e_Md_mayDo_51, e_Md_mayDo_52, e_Md_mayDo_55, e_Md_mayDo_56, e_Md_mayDo_58, e_Md_mayDo_59, m_get, m_put, m_ia, m_is, m_la, m_ls, fl_sf, fl_sa, fl_sl, fl_sq, ar_sf, ar_sa, ar_sl, ar_sq, lr_sf, lr_sa, lr_sl, lr_sq, qr_sf, qr_sa, qr_sl, qr_sq, sf_1, sf_2, sa_1, sa_2, sl_1, sl_2, Option.isSome_some, Option.map_some, Option.map_none, Option.toList_some, Option.toList_none, List.nil_append, List.cons_append, List.singleton_append, if_true, if_false, ↓reduceIte, and_self, and_true, true_and, and_false, false_and, not_true, not_false_iff, reduceCtorEq, Nat.reduceEqDiff, Nat.reduceAdd, Nat.reduceSub, Nat.reduceMul, Nat.reduceLT, Nat.reduceLeDiff, Nat.reduceBEq, eq_self, ne_eq, Nat.add_eq_zero_iff, Nat.add_left_cancel_iff, Nat.add_right_cancel_iff, Nat.left_eq_add, Nat.add_eq_left, Bool.true_or, Bool.or_true, Bool.or_self, or_self, or_true, true_or, or_false, false_or, decide_true, decide_false, i_10, i_01, f12, r83, f26, r87, f11, r82, f10, r81, ii, ci, ij, cj, o1, mm3, i0, c0, o3, w, w1, u', ck]
        exact c
  · obtain ⟨y', c, rest⟩ := loop 0 (Or.inr ⟨rfl, by unfold okR; rw [decide_eq_false w, Bool.false_and]; exact Bool.false_ne_true⟩)
    refine ⟨y', ?_, rest⟩
    simp only [k_Md_mayDo, e_Md_mayDo_0, e_Md_mayDo_1, e_Md_mayDo_4, e_Md_mayDo_5, e_Md_mayDo_6, e_Md_mayDo_9, e_Md_mayDo_10, e_Md_mayDo_11, e_Md_mayDo_12, e_Md_mayDo_13, e_Md_mayDo_15, e_Md_mayDo_16, e_Md_mayDo_19, e_Md_mayDo_20, e_Md_mayDo_21, e_Md_mayDo_22, e_Md_mayDo_25, e_Md_mayDo_26, e_Md_mayDo_29, e_Md_mayDo_30, e_Md_mayDo_31, e_Md_mayDo_33, e_Md_mayDo_36, e_Md_mayDo_37, e_Md_mayDo_38, e_Md_mayDo_41, e_Md_mayDo_42, e_Md_mayDo_43, e_Md_mayDo_45, e_Md_mayDo_48, e_Md_mayDo_51, e_Md_mayDo_52, e_Md_mayDo_55, e_Md_mayDo_56, e_Md_mayDo_58, e_Md_mayDo_59, m_get, m_put, m_ia, m_is, m_la, m_ls, fl_sf, fl_sa, fl_sl, fl_sq, ar_sf, ar_sa, ar_sl, ar_sq, lr_sf, lr_sa, lr_sl, lr_sq, qr_sf, qr_sa, qr_sl, qr_sq, sf_1, sf_2, sa_1, sa_2, sl_1, sl_2, Option.isSome_some, Option.map_some, Option.map_none, Option.toList_some, Option.toList_none, List.nil_append, List.cons_append, List.singleton_append, if_true, if_false, ↓reduceIte, and_self, and_true, true_and, and_false, false_and, not_true, not_false_iff, reduceCtorEq, Nat.reduceEqDiff, Nat.reduceAdd, Nat.reduceSub, Nat.reduceMul, Nat.reduceLT, Nat.reduceLeDiff, Nat.reduceBEq, eq_self, ne_eq, Nat.add_eq_zero_iff, Nat.add_left_cancel_iff, Nat.add_right_cancel_iff, Nat.left_eq_add, Nat.add_eq_left, Bool.true_or, Bool.or_true, Bool.or_self, or_self, or_true, true_or, or_false, false_or, decide_true, decide_false, i_10, i_01, f12, r83, f26, r87, f11, r82, ii, ci, ij, cj, o1, mm3, i0, c0, o3, w]
    exact c
end MM
