/-! The planner gathers things and needs. -/
def Pg (h : xH) (σ τ : Nat → Nat → Int32) (v s : Nat) (q : Nat → Nat) (e1 e2 : Int64) : Prop := Hp h σ τ v s q e1 e2 ∧ fl h 55 4 0 = some (.ref v)
section PG
variable {h : xH} {σ τ : Nat → Nat → Int32} {v s : Nat} {q : Nat → Nat} {e1 e2 : Int64} {p t n : Nat}
theorem Pg_sa (P : Pg h σ τ v s q e1 e2) {a t n : Nat} (ht : rty a = t) (hn : rsz a = some n) (g : Nat → Int32) : Pg (sa h a t g) (us σ a g) τ v s q e1 e2 := ⟨Hp_sa P.1 ht hn g, by rw [fl_sa]; exact P.2⟩
theorem Pg_sf (P : Pg h σ τ v s q e1 e2) {a c k : Nat} (hc : ocl a = c) (hk : ifd a k = true) (x : Int32) : Pg (sf h a c k (.int x)) σ (ut τ a k x) v s q e1 e2 := ⟨Hp_sf P.1 hc hk x, by
  rw [fl_sf, if_neg (by rintro ⟨rfl, _, rfl⟩; exact absurd hk (by decide))]
  exact P.2⟩
theorem Pg_sx (P : Pg h σ τ v s q e1 e2) (x : Int64) : Pg (sf h 55 4 8 (.long x)) σ τ v s q e1 e2 := ⟨Hp_sfo P.1 rfl rfl (by
    have m := P.1.2.2.2
    obtain ⟨y, m5⟩ := m.2.2.2.2.1.1
    unfold Hm at *
    simp only [m_get, m_put, m_ia, m_is, m_la, m_ls, fl_sf, fl_sa, fl_sl, fl_sq, ar_sf, ar_sa, ar_sl, ar_sq, lr_sf, lr_sa, lr_sl, lr_sq, qr_sf, qr_sa, qr_sl, qr_sq, sf_1, sf_2, sa_1, sa_2, sl_1, sl_2, Option.isSome_some, Option.map_some, Option.map_none, Option.toList_some, Option.toList_none, List.nil_append, List.cons_append, List.singleton_append, if_true, if_false, ↓reduceIte, and_self, and_true, true_and, and_false, false_and, not_true, not_false_iff, reduceCtorEq, Nat.reduceEqDiff, Nat.reduceAdd, Nat.reduceSub, Nat.reduceMul, Nat.reduceLT, Nat.reduceLeDiff, Nat.reduceBEq, eq_self, ne_eq, Nat.add_eq_zero_iff, Nat.add_left_cancel_iff, Nat.add_right_cancel_iff, Nat.left_eq_add, Nat.add_eq_left, Bool.true_or, Bool.or_true, Bool.or_self, or_self, or_true, true_or, or_false, false_or, decide_true, decide_false, i_10, i_01, m.1, m.2.1, m.2.2.1, m.2.2.2.1, m.2.2.2.2.1.2, m.2.2.2.2.2, m5]
    exact ⟨x, rfl⟩), by
  rw [fl_sf, if_neg (by omega)]
  exact P.2⟩
theorem Pg_is (P : Pg h σ τ v s q e1 e2) : (fl h 55 4 0).isSome = true := by rw [P.2]; rfl
theorem c_gatherThings (P : Pg h σ τ v s q e1 e2) (t6 : t ≤ 6) (ht : τ v 4 = nI t) : ∃ h' σ' τ', xC M_Planner_gatherThings [.ref 55] h = some (none, h') ∧ Pg h' σ' τ' v s q e1 e2 ∧ (τ' 55 2 = nI ((okK (fun j => decide (σ (v + 4) j = τ 55 1)) 0 (fun _ => 0)) t).1 ∧ (∀ i, i < ((okK (fun j => decide (σ (v + 4) j = τ 55 1)) 0 (fun _ => 0)) t).1 → σ' 56 i = nI (((okK (fun j => decide (σ (v + 4) j = τ 55 1)) 0 (fun _ => 0)) t).2 i)) ∧ (∀ b, b ≠ 56 → σ' b = σ b) ∧ (∀ a k, ¬ (a = 55 ∧ k = 2) → τ' a k = τ a k)) := by
  have hv := P.1.2.2.2.1.1
  have key := loop_dn (t := t) (P := fun j => ∀ g σg τg, Pg g σg τg v s q e1 e2 → τg 55 2 = nI ((okK (fun j => decide (σ (v + 4) j = τ 55 1)) 0 (fun _ => 0)) j).1 → (∀ i, i < ((okK (fun j => decide (σ (v + 4) j = τ 55 1)) 0 (fun _ => 0)) j).1 → σg 56 i = nI (((okK (fun j => decide (σ (v + 4) j = τ 55 1)) 0 (fun _ => 0)) j).2 i)) → (∀ b, b ≠ 56 → σg b = σ b) → (∀ a k, ¬ (a = 55 ∧ k = 2) → τg a k = τ a k) → ∃ h' σ' τ', xR none 0 M_Planner_gatherThings 7 [some (.ref 55), some (.int (nI j))] [] g = some (none, h') ∧ Pg h' σ' τ' v s q e1 e2 ∧ (τ' 55 2 = nI ((okK (fun j => decide (σ (v + 4) j = τ 55 1)) 0 (fun _ => 0)) t).1 ∧ (∀ i, i < ((okK (fun j => decide (σ (v + 4) j = τ 55 1)) 0 (fun _ => 0)) t).1 → σ' 56 i = nI (((okK (fun j => decide (σ (v + 4) j = τ 55 1)) 0 (fun _ => 0)) t).2 i)) ∧ (∀ b, b ≠ 56 → σ' b = σ b) ∧ (∀ a k, ¬ (a = 55 ∧ k = 2) → τ' a k = τ a k))) ?_ ?_ 0 (Nat.zero_le _)
  · obtain ⟨h', σ', τ', c, rest⟩ := key (sf h 55 4 2 (.int 0)) σ (ut τ 55 2 0) (Pg_sf P rfl rfl 0) rfl (fun i hi => absurd hi (Nat.not_lt_zero _)) (fun _ _ => rfl) (fun a k hk => by rw [ut, if_neg hk])
    refine ⟨h', σ', τ', ?_, rest⟩
    rw [nI_0] at c
    simp only [k_Planner_gatherThings, e_Planner_gatherThings_0, e_Planner_gatherThings_1, e_Planner_gatherThings_2, e_Planner_gatherThings_5, e_Planner_gatherThings_6, m_get, m_put, m_ia, m_is, m_la, m_ls, fl_sf, fl_sa, fl_sl, fl_sq, ar_sf, ar_sa, ar_sl, ar_sq, lr_sf, lr_sa, lr_sl, lr_sq, qr_sf, qr_sa, qr_sl, qr_sq, sf_1, sf_2, sa_1, sa_2, sl_1, sl_2, Option.isSome_some, Option.map_some, Option.map_none, Option.toList_some, Option.toList_none, List.nil_append, List.cons_append, List.singleton_append, if_true, if_false, ↓reduceIte, and_self, and_true, true_and, and_false, false_and, not_true, not_false_iff, reduceCtorEq, Nat.reduceEqDiff, Nat.reduceAdd, Nat.reduceSub, Nat.reduceMul, Nat.reduceLT, Nat.reduceLeDiff, Nat.reduceBEq, eq_self, ne_eq, Nat.add_eq_zero_iff, Nat.add_left_cancel_iff, Nat.add_right_cancel_iff, Nat.left_eq_add, Nat.add_eq_left, Bool.true_or, Bool.or_true, Bool.or_self, or_self, or_true, true_or, or_false, false_or, decide_true, decide_false, i_10, i_01, hI P.1 55 4 2 rfl rfl]
    exact c
  · intro g σg τg G h1 h2 h3 h4
    refine ⟨g, σg, τg, ?_, G, h1, h2, h3, h4⟩
    have f0 := G.2
    have v4 := (Hp_vil G.1 hv).1.2.2.2.2.1
    rw [h4 v 4 (by omega), ht] at v4
    simp only [e_Planner_gatherThings_7, e_Planner_gatherThings_8, e_Planner_gatherThings_9, e_Planner_gatherThings_12, e_Planner_gatherThings_15, e_Planner_gatherThings_69, m_get, m_put, m_ia, m_is, m_la, m_ls, fl_sf, fl_sa, fl_sl, fl_sq, ar_sf, ar_sa, ar_sl, ar_sq, lr_sf, lr_sa, lr_sl, lr_sq, qr_sf, qr_sa, qr_sl, qr_sq, sf_1, sf_2, sa_1, sa_2, sl_1, sl_2, Option.isSome_some, Option.map_some, Option.map_none, Option.toList_some, Option.toList_none, List.nil_append, List.cons_append, List.singleton_append, if_true, if_false, ↓reduceIte, and_self, and_true, true_and, and_false, false_and, not_true, not_false_iff, reduceCtorEq, Nat.reduceEqDiff, Nat.reduceAdd, Nat.reduceSub, Nat.reduceMul, Nat.reduceLT, Nat.reduceLeDiff, Nat.reduceBEq, eq_self, ne_eq, Nat.add_eq_zero_iff, Nat.add_left_cancel_iff, Nat.add_right_cancel_iff, Nat.left_eq_add, Nat.add_eq_left, Bool.true_or, Bool.or_true, Bool.or_self, or_self, or_true, true_or, or_false, false_or, decide_true, decide_false, i_10, i_01, f0, v4, Int32.le_refl]
  · intro j hj ih g σg τg G h1 h2 h3 h4
    have f0 := G.2
    have f1 := hI G.1 55 4 1 rfl rfl
    rw [h4 55 1 (by omega)] at f1
    have f2 := hI G.1 55 4 2 rfl rfl
    rw [h1] at f2
    have f3 := hR G.1 55 4 3 56 rfl rfl
    have r56 := hA G.1 56 0 6 rfl rfl
    have V := Hp_vil G.1 hv
    have v4 := V.1.2.2.2.2.1
    rw [h4 v 4 (by omega), ht] at v4
    have w4 := V.2.1.2.2.2.1
    have a4 := V.2.2.2.2.2.1
    rw [h3 (v + 4) (by omega)] at a4
    have cu := okK_up (P := fun j => decide (σ (v + 4) j = τ 55 1)) (c0 := 0) (o0 := fun _ => 0) j
    have q1 : ¬ nI t ≤ nI j := nI_ge hj (by omega)
    have q2 : ¬ (6 : Int32) ≤ nI ((okK (fun j => decide (σ (v + 4) j = τ 55 1)) 0 (fun _ => 0)) j).1 := nI_ge (b := 6) (by omega) (by omega)
    have ij := xin_nI (show j < 6 by omega) (by decide)
    have cj := nI_clamp (show j < 2 ^ 31 by omega)
    have ic := xin_nI (show ((okK (fun j => decide (σ (v + 4) j = τ 55 1)) 0 (fun _ => 0)) j).1 < 6 by omega) (by decide)
    have cc := nI_clamp (show ((okK (fun j => decide (σ (v + 4) j = τ 55 1)) 0 (fun _ => 0)) j).1 < 2 ^ 31 by omega)
    rw [e_Planner_gatherThings_7]
    by_cases w : σ (v + 4) j = τ 55 1
    · have e := okK_1 (P := fun j => decide (σ (v + 4) j = τ 55 1)) (c0 := 0) (o0 := fun _ => 0) j (decide_eq_true w)
      have G1 := Pg_sf (Pg_sa (t := 0) (n := 6) G (a := 56) rfl rfl (upd (σg 56) ((okK (fun j => decide (σ (v + 4) j = τ 55 1)) 0 (fun _ => 0)) j).1 (nI j))) (a := 55) (c := 4) (k := 2) rfl rfl (nI ((okK (fun j => decide (σ (v + 4) j = τ 55 1)) 0 (fun _ => 0)) j).1 + 1)
      obtain ⟨h', σ', τ', c, rest⟩ := ih _ _ _ G1 (by rw [e, ← nI_1]; simp only [ut, and_self, if_true]) (fun i hi => by
        rw [e] at hi ⊢
        have hi : i < ((okK (fun j => decide (σ (v + 4) j = τ 55 1)) 0 (fun _ => 0)) j).1 + 1 := hi
        show upd (σg 56) _ _ i = nI (if i = _ then j else _)
        rw [upd]
        by_cases y : i = ((okK (fun j => decide (σ (v + 4) j = τ 55 1)) 0 (fun _ => 0)) j).1
        · rw [if_pos y, if_pos y]
        · rw [if_neg y, if_neg y]
          exact h2 i (by omega)) (fun b hb => by rw [us, if_neg hb, h3 b hb]) (fun a k hk => by rw [ut, if_neg hk, h4 a k hk])
      refine ⟨h', σ', τ', ?_, rest⟩
      rw [← nI_1] at c
      simp only [e_Planner_gatherThings_8, e_Planner_gatherThings_9, e_Planner_gatherThings_12, e_Planner_gatherThings_15, e_Planner_gatherThings_18, e_Planner_gatherThings_19, e_Planner_gatherThings_22, e_Planner_gatherThings_24, e_Planner_gatherThings_27, e_Planner_gatherThings_28, e_Planner_gatherThings_31, e_Planner_gatherThings_34, e_Planner_gatherThings_35, e_Planner_gatherThings_36, e_Planner_gatherThings_37, e_Planner_gatherThings_40, e_Planner_gatherThings_43, e_Planner_gatherThings_44, e_Planner_gatherThings_47, e_Planner_gatherThings_48, e_Planner_gatherThings_51, e_Planner_gatherThings_52, e_Planner_gatherThings_53, e_Planner_gatherThings_54, e_Planner_gatherThings_55, e_Planner_gatherThings_58, e_Planner_gatherThings_59, e_Planner_gatherThings_60, e_Planner_gatherThings_63, e_Planner_gatherThings_66, m_get, m_put, m_ia, m_is, m_la, m_ls, fl_sf, fl_sa, fl_sl, fl_sq, ar_sf, ar_sa, ar_sl, ar_sq, lr_sf, lr_sa, lr_sl, lr_sq, qr_sf, qr_sa, qr_sl, qr_sq, sf_1, sf_2, sa_1, sa_2, sl_1, sl_2, Option.isSome_some, Option.map_some, Option.map_none, Option.toList_some, Option.toList_none, List.nil_append, List.cons_append, List.singleton_append, if_true, if_false, ↓reduceIte, and_self, and_true, true_and, and_false, false_and, not_true, not_false_iff, reduceCtorEq, Nat.reduceEqDiff, Nat.reduceAdd, Nat.reduceSub, Nat.reduceMul, Nat.reduceLT, Nat.reduceLeDiff, Nat.reduceBEq, eq_self, ne_eq, Nat.add_eq_zero_iff, Nat.add_left_cancel_iff, Nat.add_right_cancel_iff, Nat.left_eq_add, Nat.add_eq_left, Bool.true_or, Bool.or_true, Bool.or_self, or_self, or_true, true_or, or_false, false_or, decide_true, decide_false, i_10, i_01, f0, f1, f2, f3, r56, v4, w4, a4, q1, q2, ij, cj, ic, cc, w]
      exact c
    · have e := okK_2 (P := fun j => decide (σ (v + 4) j = τ 55 1)) (c0 := 0) (o0 := fun _ => 0) j (by simpa using w)
      obtain ⟨h', σ', τ', c, rest⟩ := ih g σg τg G (by rw [e]; exact h1) (by rw [e]; exact h2) h3 h4
      refine ⟨h', σ', τ', ?_, rest⟩
      rw [← nI_1] at c
      simp only [e_Planner_gatherThings_8, e_Planner_gatherThings_9, e_Planner_gatherThings_12, e_Planner_gatherThings_15, e_Planner_gatherThings_18, e_Planner_gatherThings_19, e_Planner_gatherThings_22, e_Planner_gatherThings_24, e_Planner_gatherThings_27, e_Planner_gatherThings_28, e_Planner_gatherThings_31, e_Planner_gatherThings_34, e_Planner_gatherThings_35, e_Planner_gatherThings_36, e_Planner_gatherThings_37, e_Planner_gatherThings_40, e_Planner_gatherThings_43, e_Planner_gatherThings_44, e_Planner_gatherThings_47, e_Planner_gatherThings_48, e_Planner_gatherThings_51, e_Planner_gatherThings_52, e_Planner_gatherThings_53, e_Planner_gatherThings_54, e_Planner_gatherThings_55, e_Planner_gatherThings_58, e_Planner_gatherThings_59, e_Planner_gatherThings_60, e_Planner_gatherThings_63, e_Planner_gatherThings_66, m_get, m_put, m_ia, m_is, m_la, m_ls, fl_sf, fl_sa, fl_sl, fl_sq, ar_sf, ar_sa, ar_sl, ar_sq, lr_sf, lr_sa, lr_sl, lr_sq, qr_sf, qr_sa, qr_sl, qr_sq, sf_1, sf_2, sa_1, sa_2, sl_1, sl_2, Option.isSome_some, Option.map_some, Option.map_none, Option.toList_some, Option.toList_none, List.nil_append, List.cons_append, List.singleton_append, if_true, if_false, ↓reduceIte, and_self, and_true, true_and, and_false, false_and, not_true, not_false_iff, reduceCtorEq, Nat.reduceEqDiff, Nat.reduceAdd, Nat.reduceSub, Nat.reduceMul, Nat.reduceLT, Nat.reduceLeDiff, Nat.reduceBEq, eq_self, ne_eq, Nat.add_eq_zero_iff, Nat.add_left_cancel_iff, Nat.add_right_cancel_iff, Nat.left_eq_add, Nat.add_eq_left, Bool.true_or, Bool.or_true, Bool.or_self, or_self, or_true, true_or, or_false, false_or, decide_true, decide_false, i_10, i_01, f0, f1, f2, f3, r56, v4, w4, a4, q1, q2, ij, cj, w]
      exact c
theorem nd_ex {x : Int32} {a b : Nat → Int32} : ∀ e e' k, e < 4 → e' < 4 → (fun d k => decide (a k = x ∧ b k = nI d)) e k = true → (fun d k => decide (a k = x ∧ b k = nI d)) e' k = true → e = e' := by
  intro e e' k he he' y y'
  have y := (of_decide_eq_true y).2
  have y' := (of_decide_eq_true y').2
  rw [y] at y'
  exact (nI_eq (by omega) (by omega)).mp y'
theorem c_gatherNeeds (P : Pg h σ τ v s q e1 e2) (n8 : n ≤ 8) (hn : τ v 5 = nI n) : ∃ h' σ' τ', xC M_Planner_gatherNeeds [.ref 55] h = some (none, h') ∧ Pg h' σ' τ' v s q e1 e2 ∧ (τ' 55 4 = nI ((okD (fun d k => decide (σ (v + 9) k = τ 55 1 ∧ σ (v + 10) k = nI d)) n) 4).1 ∧ (∀ d, d ≤ 4 → σ' 58 d = nI ((okD (fun d k => decide (σ (v + 9) k = τ 55 1 ∧ σ (v + 10) k = nI d)) n) d).1) ∧ (∀ i, i < ((okD (fun d k => decide (σ (v + 9) k = τ 55 1 ∧ σ (v + 10) k = nI d)) n) 4).1 → σ' 57 i = σ (v + 8) (((okD (fun d k => decide (σ (v + 9) k = τ 55 1 ∧ σ (v + 10) k = nI d)) n) 4).2 i)) ∧ (∀ b, b ≠ 57 → b ≠ 58 → σ' b = σ b) ∧ (∀ a k, ¬ (a = 55 ∧ k = 4) → τ' a k = τ a k)) := by
  have hv := P.1.2.2.2.1.1
  have b4 := okD_n (P := (fun d k => decide (σ (v + 9) k = τ 55 1 ∧ σ (v + 10) k = nI d))) (n := n) 4 nd_ex
  have key := loop_dn (t := 4) (P := fun d => ∀ g σg τg (l2 : Option Value), Pg g σg τg v s q e1 e2 → τg 55 4 = nI ((okD (fun d k => decide (σ (v + 9) k = τ 55 1 ∧ σ (v + 10) k = nI d)) n) d).1 → (∀ e, e < d → σg 58 e = nI ((okD (fun d k => decide (σ (v + 9) k = τ 55 1 ∧ σ (v + 10) k = nI d)) n) e).1) → (∀ i, i < ((okD (fun d k => decide (σ (v + 9) k = τ 55 1 ∧ σ (v + 10) k = nI d)) n) d).1 → σg 57 i = σ (v + 8) (((okD (fun d k => decide (σ (v + 9) k = τ 55 1 ∧ σ (v + 10) k = nI d)) n) d).2 i)) → (∀ b, b ≠ 57 → b ≠ 58 → σg b = σ b) → (∀ a k, ¬ (a = 55 ∧ k = 4) → τg a k = τ a k) → ∃ h' σ' τ', xR none 0 M_Planner_gatherNeeds 7 [some (.ref 55), some (.int (nI d)), l2] [] g = some (none, h') ∧ Pg h' σ' τ' v s q e1 e2 ∧ (τ' 55 4 = nI ((okD (fun d k => decide (σ (v + 9) k = τ 55 1 ∧ σ (v + 10) k = nI d)) n) 4).1 ∧ (∀ d, d ≤ 4 → σ' 58 d = nI ((okD (fun d k => decide (σ (v + 9) k = τ 55 1 ∧ σ (v + 10) k = nI d)) n) d).1) ∧ (∀ i, i < ((okD (fun d k => decide (σ (v + 9) k = τ 55 1 ∧ σ (v + 10) k = nI d)) n) 4).1 → σ' 57 i = σ (v + 8) (((okD (fun d k => decide (σ (v + 9) k = τ 55 1 ∧ σ (v + 10) k = nI d)) n) 4).2 i)) ∧ (∀ b, b ≠ 57 → b ≠ 58 → σ' b = σ b) ∧ (∀ a k, ¬ (a = 55 ∧ k = 4) → τ' a k = τ a k))) ?_ ?_ 0 (Nat.zero_le _)
  · obtain ⟨h', σ', τ', c, rest⟩ := key (sf h 55 4 4 (.int 0)) σ (ut τ 55 4 0) none (Pg_sf P rfl rfl 0) rfl (fun i hi => absurd hi (Nat.not_lt_zero _)) (fun i hi => absurd hi (Nat.not_lt_zero _)) (fun _ _ _ => rfl) (fun a k hk => by rw [ut, if_neg hk])
    refine ⟨h', σ', τ', ?_, rest⟩
    rw [nI_0] at c
    simp only [k_Planner_gatherNeeds, e_Planner_gatherNeeds_0, e_Planner_gatherNeeds_1, e_Planner_gatherNeeds_2, e_Planner_gatherNeeds_5, e_Planner_gatherNeeds_6, m_get, m_put, m_ia, m_is, m_la, m_ls, fl_sf, fl_sa, fl_sl, fl_sq, ar_sf, ar_sa, ar_sl, ar_sq, lr_sf, lr_sa, lr_sl, lr_sq, qr_sf, qr_sa, qr_sl, qr_sq, sf_1, sf_2, sa_1, sa_2, sl_1, sl_2, Option.isSome_some, Option.map_some, Option.map_none, Option.toList_some, Option.toList_none, List.nil_append, List.cons_append, List.singleton_append, if_true, if_false, ↓reduceIte, and_self, and_true, true_and, and_false, false_and, not_true, not_false_iff, reduceCtorEq, Nat.reduceEqDiff, Nat.reduceAdd, Nat.reduceSub, Nat.reduceMul, Nat.reduceLT, Nat.reduceLeDiff, Nat.reduceBEq, eq_self, ne_eq, Nat.add_eq_zero_iff, Nat.add_left_cancel_iff, Nat.add_right_cancel_iff, Nat.left_eq_add, Nat.add_eq_left, Bool.true_or, Bool.or_true, Bool.or_self, or_self, or_true, true_or, or_false, false_or, decide_true, decide_false, i_10, i_01, hI P.1 55 4 4 rfl rfl]
    exact c
  · intro g σg τg l2 G h1 h2 h3 h4 h5
    have f4 := hI G.1 55 4 4 rfl rfl
    rw [h1] at f4
    have f6 := hR G.1 55 4 6 58 rfl rfl
    have r58 := hA G.1 58 0 5 rfl rfl
    have G1 := Pg_sa (t := 0) (n := 5) G (a := 58) rfl rfl (upd (σg 58) 4 (nI ((okD (fun d k => decide (σ (v + 9) k = τ 55 1 ∧ σ (v + 10) k = nI d)) n) 4).1))
    refine ⟨_, _, _, ?_, G1, h1, fun d hd => ?_, fun i hi => ?_, fun b n1 n2 => ?_, h5⟩
    · have i4 : xinB 4 5 = true := xin_nI (show 4 < 5 by omega) (by decide)
      have c4 : (4 : Int32).toNatClampNeg = 4 := nI_clamp (show 4 < 2 ^ 31 by omega)
      have z : (4 : Int32) ≤ nI 4 := Int32.le_refl (nI 4)
      simp only [e_Planner_gatherNeeds_7, e_Planner_gatherNeeds_8, e_Planner_gatherNeeds_9, e_Planner_gatherNeeds_113, e_Planner_gatherNeeds_114, e_Planner_gatherNeeds_117, e_Planner_gatherNeeds_118, e_Planner_gatherNeeds_119, e_Planner_gatherNeeds_122, e_Planner_gatherNeeds_123, m_get, m_put, m_ia, m_is, m_la, m_ls, fl_sf, fl_sa, fl_sl, fl_sq, ar_sf, ar_sa, ar_sl, ar_sq, lr_sf, lr_sa, lr_sl, lr_sq, qr_sf, qr_sa, qr_sl, qr_sq, sf_1, sf_2, sa_1, sa_2, sl_1, sl_2, Option.isSome_some, Option.map_some, Option.map_none, Option.toList_some, Option.toList_none, List.nil_append, List.cons_append, List.singleton_append, if_true, if_false, ↓reduceIte, and_self, and_true, true_and, and_false, false_and, not_true, not_false_iff, reduceCtorEq, Nat.reduceEqDiff, Nat.reduceAdd, Nat.reduceSub, Nat.reduceMul, Nat.reduceLT, Nat.reduceLeDiff, Nat.reduceBEq, eq_self, ne_eq, Nat.add_eq_zero_iff, Nat.add_left_cancel_iff, Nat.add_right_cancel_iff, Nat.left_eq_add, Nat.add_eq_left, Bool.true_or, Bool.or_true, Bool.or_self, or_self, or_true, true_or, or_false, false_or, decide_true, decide_false, i_10, i_01, f4, f6, r58, z, i4, c4]
    · show upd (σg 58) 4 _ d = _
      rw [upd]
      by_cases y : d = 4
      · rw [if_pos y, y]
      · rw [if_neg y]
        exact h2 d (by omega)
    · exact h3 i hi
    · rw [us, if_neg n2, h4 b n1 n2]
  · intro d hd ih g0 σ0 τ0 l2 G0 h1 h2 h3 h4 h5
    have inner := loop_dn (t := n) (P := fun k => ∀ g σg τg, Pg g σg τg v s q e1 e2 → τg 55 4 = nI ((okK ((fun d k => decide (σ (v + 9) k = τ 55 1 ∧ σ (v + 10) k = nI d)) d) ((okD (fun d k => decide (σ (v + 9) k = τ 55 1 ∧ σ (v + 10) k = nI d)) n) d).1 ((okD (fun d k => decide (σ (v + 9) k = τ 55 1 ∧ σ (v + 10) k = nI d)) n) d).2) k).1 → (∀ e, e < d + 1 → σg 58 e = nI ((okD (fun d k => decide (σ (v + 9) k = τ 55 1 ∧ σ (v + 10) k = nI d)) n) e).1) → (∀ i, i < ((okK ((fun d k => decide (σ (v + 9) k = τ 55 1 ∧ σ (v + 10) k = nI d)) d) ((okD (fun d k => decide (σ (v + 9) k = τ 55 1 ∧ σ (v + 10) k = nI d)) n) d).1 ((okD (fun d k => decide (σ (v + 9) k = τ 55 1 ∧ σ (v + 10) k = nI d)) n) d).2) k).1 → σg 57 i = σ (v + 8) (((okK ((fun d k => decide (σ (v + 9) k = τ 55 1 ∧ σ (v + 10) k = nI d)) d) ((okD (fun d k => decide (σ (v + 9) k = τ 55 1 ∧ σ (v + 10) k = nI d)) n) d).1 ((okD (fun d k => decide (σ (v + 9) k = τ 55 1 ∧ σ (v + 10) k = nI d)) n) d).2) k).2 i)) → (∀ b, b ≠ 57 → b ≠ 58 → σg b = σ b) → (∀ a k, ¬ (a = 55 ∧ k = 4) → τg a k = τ a k) → ∃ h' σ' τ', xR none 0 M_Planner_gatherNeeds 24 [some (.ref 55), some (.int (nI d)), some (.int (nI k))] [] g = some (none, h') ∧ Pg h' σ' τ' v s q e1 e2 ∧ (τ' 55 4 = nI ((okD (fun d k => decide (σ (v + 9) k = τ 55 1 ∧ σ (v + 10) k = nI d)) n) 4).1 ∧ (∀ d, d ≤ 4 → σ' 58 d = nI ((okD (fun d k => decide (σ (v + 9) k = τ 55 1 ∧ σ (v + 10) k = nI d)) n) d).1) ∧ (∀ i, i < ((okD (fun d k => decide (σ (v + 9) k = τ 55 1 ∧ σ (v + 10) k = nI d)) n) 4).1 → σ' 57 i = σ (v + 8) (((okD (fun d k => decide (σ (v + 9) k = τ 55 1 ∧ σ (v + 10) k = nI d)) n) 4).2 i)) ∧ (∀ b, b ≠ 57 → b ≠ 58 → σ' b = σ b) ∧ (∀ a k, ¬ (a = 55 ∧ k = 4) → τ' a k = τ a k))) ?_ ?_ 0 (Nat.zero_le _)
    · have f4 := hI G0.1 55 4 4 rfl rfl
      rw [h1] at f4
      have f6 := hR G0.1 55 4 6 58 rfl rfl
      have r58 := hA G0.1 58 0 5 rfl rfl
      have G1 := Pg_sa (t := 0) (n := 5) G0 (a := 58) rfl rfl (upd (σ0 58) d (nI ((okD (fun d k => decide (σ (v + 9) k = τ 55 1 ∧ σ (v + 10) k = nI d)) n) d).1))
      obtain ⟨h', σ', τ', c, rest⟩ := inner _ _ _ G1 h1 (fun e he => by
        show upd (σ0 58) d _ e = _
        rw [upd]
        by_cases y : e = d
        · rw [if_pos y, y]
        · rw [if_neg y]
          exact h2 e (by omega)) (fun i hi => h3 i hi) (fun b n1 n2 => by rw [us, if_neg n2, h4 b n1 n2]) h5
      refine ⟨h', σ', τ', ?_, rest⟩
      have i4 := xin_nI (show d < 5 by omega) (by decide)
      have c4 := nI_clamp (show d < 2 ^ 31 by omega)
      have q1 : ¬ (4 : Int32) ≤ nI d := nI_ge (b := 4) hd (by omega)
      rw [nI_0] at c
      rw [e_Planner_gatherNeeds_7]
      simp only [e_Planner_gatherNeeds_8, e_Planner_gatherNeeds_9, e_Planner_gatherNeeds_12, e_Planner_gatherNeeds_13, e_Planner_gatherNeeds_16, e_Planner_gatherNeeds_17, e_Planner_gatherNeeds_18, e_Planner_gatherNeeds_21, e_Planner_gatherNeeds_22, e_Planner_gatherNeeds_23, m_get, m_put, m_ia, m_is, m_la, m_ls, fl_sf, fl_sa, fl_sl, fl_sq, ar_sf, ar_sa, ar_sl, ar_sq, lr_sf, lr_sa, lr_sl, lr_sq, qr_sf, qr_sa, qr_sl, qr_sq, sf_1, sf_2, sa_1, sa_2, sl_1, sl_2, Option.isSome_some, Option.map_some, Option.map_none, Option.toList_some, Option.toList_none, List.nil_append, List.cons_append, List.singleton_append, if_true, if_false, ↓reduceIte, and_self, and_true, true_and, and_false, false_and, not_true, not_false_iff, reduceCtorEq, Nat.reduceEqDiff, Nat.reduceAdd, Nat.reduceSub, Nat.reduceMul, Nat.reduceLT, Nat.reduceLeDiff, Nat.reduceBEq, eq_self, ne_eq, Nat.add_eq_zero_iff, Nat.add_left_cancel_iff, Nat.add_right_cancel_iff, Nat.left_eq_add, Nat.add_eq_left, Bool.true_or, Bool.or_true, Bool.or_self, or_self, or_true, true_or, or_false, false_or, decide_true, decide_false, i_10, i_01, f4, f6, r58, q1, i4, c4]
      exact c
    · intro g σg τg G h1 h2 h3 h4 h5
      obtain ⟨h', σ', τ', c, rest⟩ := ih g σg τg (some (.int (nI n))) G h1 h2 h3 h4 h5
      refine ⟨h', σ', τ', ?_, rest⟩
      have f0 := G.2
      have v5 := (Hp_vil G.1 hv).1.2.2.2.2.2
      rw [h5 v 5 (by omega), hn] at v5
      rw [← nI_1] at c
      simp only [e_Planner_gatherNeeds_24, e_Planner_gatherNeeds_25, e_Planner_gatherNeeds_26, e_Planner_gatherNeeds_29, e_Planner_gatherNeeds_32, e_Planner_gatherNeeds_107, e_Planner_gatherNeeds_110, m_get, m_put, m_ia, m_is, m_la, m_ls, fl_sf, fl_sa, fl_sl, fl_sq, ar_sf, ar_sa, ar_sl, ar_sq, lr_sf, lr_sa, lr_sl, lr_sq, qr_sf, qr_sa, qr_sl, qr_sq, sf_1, sf_2, sa_1, sa_2, sl_1, sl_2, Option.isSome_some, Option.map_some, Option.map_none, Option.toList_some, Option.toList_none, List.nil_append, List.cons_append, List.singleton_append, if_true, if_false, ↓reduceIte, and_self, and_true, true_and, and_false, false_and, not_true, not_false_iff, reduceCtorEq, Nat.reduceEqDiff, Nat.reduceAdd, Nat.reduceSub, Nat.reduceMul, Nat.reduceLT, Nat.reduceLeDiff, Nat.reduceBEq, eq_self, ne_eq, Nat.add_eq_zero_iff, Nat.add_left_cancel_iff, Nat.add_right_cancel_iff, Nat.left_eq_add, Nat.add_eq_left, Bool.true_or, Bool.or_true, Bool.or_self, or_self, or_true, true_or, or_false, false_or, decide_true, decide_false, i_10, i_01, f0, v5, Int32.le_refl]
      exact c
    · intro k hk ihk g σg τg G h1 h2 h3 h4 h5
      have f0 := G.2
      have f1 := hI G.1 55 4 1 rfl rfl
      rw [h5 55 1 (by omega)] at f1
      have f4 := hI G.1 55 4 4 rfl rfl
      rw [h1] at f4
      have f5 := hR G.1 55 4 5 57 rfl rfl
      have r57 := hA G.1 57 0 8 rfl rfl
      have V := Hp_vil G.1 hv
      have v5 := V.1.2.2.2.2.2
      rw [h5 v 5 (by omega), hn] at v5
      have w8 := V.2.1.2.2.2.2.2.2.2.1
      have w9 := V.2.1.2.2.2.2.2.2.2.2.1
      have w10 := V.2.1.2.2.2.2.2.2.2.2.2
      have a8 := V.2.2.2.2.2.2.2.2.2.1
      have a9 := V.2.2.2.2.2.2.2.2.2.2.1
      have a10 := V.2.2.2.2.2.2.2.2.2.2.2
      rw [h4 (v + 8) (by omega) (by omega)] at a8
      rw [h4 (v + 9) (by omega) (by omega)] at a9
      rw [h4 (v + 10) (by omega) (by omega)] at a10
      have q1 : ¬ nI n ≤ nI k := nI_ge hk (by omega)
      have ik := xin_nI (show k < 8 by omega) (by decide)
      have ck := nI_clamp (show k < 2 ^ 31 by omega)
      have le1 : ((okK ((fun d k => decide (σ (v + 9) k = τ 55 1 ∧ σ (v + 10) k = nI d)) d) ((okD (fun d k => decide (σ (v + 9) k = τ 55 1 ∧ σ (v + 10) k = nI d)) n) d).1 ((okD (fun d k => decide (σ (v + 9) k = τ 55 1 ∧ σ (v + 10) k = nI d)) n) d).2) k).1 ≤ ((okK ((fun d k => decide (σ (v + 9) k = τ 55 1 ∧ σ (v + 10) k = nI d)) d) ((okD (fun d k => decide (σ (v + 9) k = τ 55 1 ∧ σ (v + 10) k = nI d)) n) d).1 ((okD (fun d k => decide (σ (v + 9) k = τ 55 1 ∧ σ (v + 10) k = nI d)) n) d).2) n).1 := okK_le (by omega)
      have le2 : ((okK ((fun d k => decide (σ (v + 9) k = τ 55 1 ∧ σ (v + 10) k = nI d)) d) ((okD (fun d k => decide (σ (v + 9) k = τ 55 1 ∧ σ (v + 10) k = nI d)) n) d).1 ((okD (fun d k => decide (σ (v + 9) k = τ 55 1 ∧ σ (v + 10) k = nI d)) n) d).2) n).1 ≤ ((okD (fun d k => decide (σ (v + 9) k = τ 55 1 ∧ σ (v + 10) k = nI d)) n) 4).1 := okD_le (P := (fun d k => decide (σ (v + 9) k = τ 55 1 ∧ σ (v + 10) k = nI d))) (n := n) (show d + 1 ≤ 4 by omega)
      rw [e_Planner_gatherNeeds_24]
      by_cases w8' : ((okK ((fun d k => decide (σ (v + 9) k = τ 55 1 ∧ σ (v + 10) k = nI d)) d) ((okD (fun d k => decide (σ (v + 9) k = τ 55 1 ∧ σ (v + 10) k = nI d)) n) d).1 ((okD (fun d k => decide (σ (v + 9) k = τ 55 1 ∧ σ (v + 10) k = nI d)) n) d).2) k).1 < 8
      · have q2 : ¬ (8 : Int32) ≤ nI ((okK ((fun d k => decide (σ (v + 9) k = τ 55 1 ∧ σ (v + 10) k = nI d)) d) ((okD (fun d k => decide (σ (v + 9) k = τ 55 1 ∧ σ (v + 10) k = nI d)) n) d).1 ((okD (fun d k => decide (σ (v + 9) k = τ 55 1 ∧ σ (v + 10) k = nI d)) n) d).2) k).1 := nI_ge (b := 8) w8' (by omega)
        have ic := xin_nI w8' (by decide)
        have cc := nI_clamp (show ((okK ((fun d k => decide (σ (v + 9) k = τ 55 1 ∧ σ (v + 10) k = nI d)) d) ((okD (fun d k => decide (σ (v + 9) k = τ 55 1 ∧ σ (v + 10) k = nI d)) n) d).1 ((okD (fun d k => decide (σ (v + 9) k = τ 55 1 ∧ σ (v + 10) k = nI d)) n) d).2) k).1 < 2 ^ 31 by omega)
        by_cases w : σ (v + 9) k = τ 55 1 ∧ σ (v + 10) k = nI d
        · have e := okK_1 (P := (fun d k => decide (σ (v + 9) k = τ 55 1 ∧ σ (v + 10) k = nI d)) d) (c0 := ((okD (fun d k => decide (σ (v + 9) k = τ 55 1 ∧ σ (v + 10) k = nI d)) n) d).1) (o0 := ((okD (fun d k => decide (σ (v + 9) k = τ 55 1 ∧ σ (v + 10) k = nI d)) n) d).2) k (decide_eq_true w)
          have G1 := Pg_sf (Pg_sa (t := 0) (n := 8) G (a := 57) rfl rfl (upd (σg 57) ((okK ((fun d k => decide (σ (v + 9) k = τ 55 1 ∧ σ (v + 10) k = nI d)) d) ((okD (fun d k => decide (σ (v + 9) k = τ 55 1 ∧ σ (v + 10) k = nI d)) n) d).1 ((okD (fun d k => decide (σ (v + 9) k = τ 55 1 ∧ σ (v + 10) k = nI d)) n) d).2) k).1 (σ (v + 8) k))) (a := 55) (c := 4) (k := 4) rfl rfl (nI ((okK ((fun d k => decide (σ (v + 9) k = τ 55 1 ∧ σ (v + 10) k = nI d)) d) ((okD (fun d k => decide (σ (v + 9) k = τ 55 1 ∧ σ (v + 10) k = nI d)) n) d).1 ((okD (fun d k => decide (σ (v + 9) k = τ 55 1 ∧ σ (v + 10) k = nI d)) n) d).2) k).1 + 1)
          obtain ⟨h', σ', τ', c, rest⟩ := ihk _ _ _ G1 (by rw [e, ← nI_1]; simp only [ut, and_self, if_true]) (fun x hx => h2 x hx) (fun i hi => by
            rw [e] at hi ⊢
            have hi : i < ((okK ((fun d k => decide (σ (v + 9) k = τ 55 1 ∧ σ (v + 10) k = nI d)) d) ((okD (fun d k => decide (σ (v + 9) k = τ 55 1 ∧ σ (v + 10) k = nI d)) n) d).1 ((okD (fun d k => decide (σ (v + 9) k = τ 55 1 ∧ σ (v + 10) k = nI d)) n) d).2) k).1 + 1 := hi
            show upd (σg 57) _ _ i = σ (v + 8) (if i = _ then k else _)
            rw [upd]
            by_cases y : i = ((okK ((fun d k => decide (σ (v + 9) k = τ 55 1 ∧ σ (v + 10) k = nI d)) d) ((okD (fun d k => decide (σ (v + 9) k = τ 55 1 ∧ σ (v + 10) k = nI d)) n) d).1 ((okD (fun d k => decide (σ (v + 9) k = τ 55 1 ∧ σ (v + 10) k = nI d)) n) d).2) k).1
            · rw [if_pos y, if_pos y]
            · rw [if_neg y, if_neg y]
              exact h3 i (by omega)) (fun b n1 n2 => by rw [us, if_neg n1, h4 b n1 n2]) (fun a k hk => by rw [ut, if_neg hk, h5 a k hk])
          refine ⟨h', σ', τ', ?_, rest⟩
          rw [← nI_1] at c
          simp only [e_Planner_gatherNeeds_25, e_Planner_gatherNeeds_26, e_Planner_gatherNeeds_29, e_Planner_gatherNeeds_32, e_Planner_gatherNeeds_35, e_Planner_gatherNeeds_36, e_Planner_gatherNeeds_39, e_Planner_gatherNeeds_41, e_Planner_gatherNeeds_44, e_Planner_gatherNeeds_45, e_Planner_gatherNeeds_48, e_Planner_gatherNeeds_51, e_Planner_gatherNeeds_52, e_Planner_gatherNeeds_53, e_Planner_gatherNeeds_54, e_Planner_gatherNeeds_57, e_Planner_gatherNeeds_60, e_Planner_gatherNeeds_61, e_Planner_gatherNeeds_64, e_Planner_gatherNeeds_67, e_Planner_gatherNeeds_68, e_Planner_gatherNeeds_69, e_Planner_gatherNeeds_70, e_Planner_gatherNeeds_73, e_Planner_gatherNeeds_74, e_Planner_gatherNeeds_77, e_Planner_gatherNeeds_78, e_Planner_gatherNeeds_81, e_Planner_gatherNeeds_82, e_Planner_gatherNeeds_85, e_Planner_gatherNeeds_88, e_Planner_gatherNeeds_89, e_Planner_gatherNeeds_90, e_Planner_gatherNeeds_91, e_Planner_gatherNeeds_92, e_Planner_gatherNeeds_93, e_Planner_gatherNeeds_96, e_Planner_gatherNeeds_97, e_Planner_gatherNeeds_98, e_Planner_gatherNeeds_101, e_Planner_gatherNeeds_104, m_get, m_put, m_ia, m_is, m_la, m_ls, fl_sf, fl_sa, fl_sl, fl_sq, ar_sf, ar_sa, ar_sl, ar_sq, lr_sf, lr_sa, lr_sl, lr_sq, qr_sf, qr_sa, qr_sl, qr_sq, sf_1, sf_2, sa_1, sa_2, sl_1, sl_2, Option.isSome_some, Option.map_some, Option.map_none, Option.toList_some, Option.toList_none, List.nil_append, List.cons_append, List.singleton_append, if_true, if_false, ↓reduceIte, and_self, and_true, true_and, and_false, false_and, not_true, not_false_iff, reduceCtorEq, Nat.reduceEqDiff, Nat.reduceAdd, Nat.reduceSub, Nat.reduceMul, Nat.reduceLT, Nat.reduceLeDiff, Nat.reduceBEq, eq_self, ne_eq, Nat.add_eq_zero_iff, Nat.add_left_cancel_iff, Nat.add_right_cancel_iff, Nat.left_eq_add, Nat.add_eq_left, Bool.true_or, Bool.or_true, Bool.or_self, or_self, or_true, true_or, or_false, false_or, decide_true, decide_false, i_10, i_01, f0, f1, f4, f5, r57, v5, w8, w9, w10, a8, a9, a10, q1, q2, ik, ck, ic, cc, w.1, w.2]
          exact c
        · have e := okK_2 (P := (fun d k => decide (σ (v + 9) k = τ 55 1 ∧ σ (v + 10) k = nI d)) d) (c0 := ((okD (fun d k => decide (σ (v + 9) k = τ 55 1 ∧ σ (v + 10) k = nI d)) n) d).1) (o0 := ((okD (fun d k => decide (σ (v + 9) k = τ 55 1 ∧ σ (v + 10) k = nI d)) n) d).2) k (by simpa using w)
          obtain ⟨h', σ', τ', c, rest⟩ := ihk g σg τg G (by rw [e]; exact h1) h2 (by rw [e]; exact h3) h4 h5
          refine ⟨h', σ', τ', ?_, rest⟩
          rw [← nI_1] at c
          by_cases y1 : σ (v + 9) k = τ 55 1
          · have y2 : ¬ σ (v + 10) k = nI d := fun y => w ⟨y1, y⟩
            simp only [e_Planner_gatherNeeds_25, e_Planner_gatherNeeds_26, e_Planner_gatherNeeds_29, e_Planner_gatherNeeds_32, e_Planner_gatherNeeds_35, e_Planner_gatherNeeds_36, e_Planner_gatherNeeds_39, e_Planner_gatherNeeds_41, e_Planner_gatherNeeds_44, e_Planner_gatherNeeds_45, e_Planner_gatherNeeds_48, e_Planner_gatherNeeds_51, e_Planner_gatherNeeds_52, e_Planner_gatherNeeds_53, e_Planner_gatherNeeds_54, e_Planner_gatherNeeds_57, e_Planner_gatherNeeds_60, e_Planner_gatherNeeds_61, e_Planner_gatherNeeds_64, e_Planner_gatherNeeds_67, e_Planner_gatherNeeds_68, e_Planner_gatherNeeds_69, e_Planner_gatherNeeds_70, e_Planner_gatherNeeds_73, e_Planner_gatherNeeds_74, e_Planner_gatherNeeds_77, e_Planner_gatherNeeds_78, e_Planner_gatherNeeds_81, e_Planner_gatherNeeds_82, e_Planner_gatherNeeds_85, e_Planner_gatherNeeds_88, e_Planner_gatherNeeds_89, e_Planner_gatherNeeds_90, e_Planner_gatherNeeds_91, e_Planner_gatherNeeds_92, e_Planner_gatherNeeds_93, e_Planner_gatherNeeds_96, e_Planner_gatherNeeds_97, e_Planner_gatherNeeds_98, e_Planner_gatherNeeds_101, e_Planner_gatherNeeds_104, m_get, m_put, m_ia, m_is, m_la, m_ls, fl_sf, fl_sa, fl_sl, fl_sq, ar_sf, ar_sa, ar_sl, ar_sq, lr_sf, lr_sa, lr_sl, lr_sq, qr_sf, qr_sa, qr_sl, qr_sq, sf_1, sf_2, sa_1, sa_2, sl_1, sl_2, Option.isSome_some, Option.map_some, Option.map_none, Option.toList_some, Option.toList_none, List.nil_append, List.cons_append, List.singleton_append, if_true, if_false, ↓reduceIte, and_self, and_true, true_and, and_false, false_and, not_true, not_false_iff, reduceCtorEq, Nat.reduceEqDiff, Nat.reduceAdd, Nat.reduceSub, Nat.reduceMul, Nat.reduceLT, Nat.reduceLeDiff, Nat.reduceBEq, eq_self, ne_eq, Nat.add_eq_zero_iff, Nat.add_left_cancel_iff, Nat.add_right_cancel_iff, Nat.left_eq_add, Nat.add_eq_left, Bool.true_or, Bool.or_true, Bool.or_self, or_self, or_true, true_or, or_false, false_or, decide_true, decide_false, i_10, i_01, f0, f1, f4, v5, w9, w10, a9, a10, q1, q2, ik, ck, y1, y2]
            exact c
          · simp only [e_Planner_gatherNeeds_25, e_Planner_gatherNeeds_26, e_Planner_gatherNeeds_29, e_Planner_gatherNeeds_32, e_Planner_gatherNeeds_35, e_Planner_gatherNeeds_36, e_Planner_gatherNeeds_39, e_Planner_gatherNeeds_41, e_Planner_gatherNeeds_44, e_Planner_gatherNeeds_45, e_Planner_gatherNeeds_48, e_Planner_gatherNeeds_51, e_Planner_gatherNeeds_52, e_Planner_gatherNeeds_53, e_Planner_gatherNeeds_54, e_Planner_gatherNeeds_57, e_Planner_gatherNeeds_60, e_Planner_gatherNeeds_61, e_Planner_gatherNeeds_64, e_Planner_gatherNeeds_67, e_Planner_gatherNeeds_68, e_Planner_gatherNeeds_69, e_Planner_gatherNeeds_70, e_Planner_gatherNeeds_73, e_Planner_gatherNeeds_74, e_Planner_gatherNeeds_77, e_Planner_gatherNeeds_78, e_Planner_gatherNeeds_81, e_Planner_gatherNeeds_82, e_Planner_gatherNeeds_85, e_Planner_gatherNeeds_88, e_Planner_gatherNeeds_89, e_Planner_gatherNeeds_90, e_Planner_gatherNeeds_91, e_Planner_gatherNeeds_92, e_Planner_gatherNeeds_93, e_Planner_gatherNeeds_96, e_Planner_gatherNeeds_97, e_Planner_gatherNeeds_98, e_Planner_gatherNeeds_101, e_Planner_gatherNeeds_104, m_get, m_put, m_ia, m_is, m_la, m_ls, fl_sf, fl_sa, fl_sl, fl_sq, ar_sf, ar_sa, ar_sl, ar_sq, lr_sf, lr_sa, lr_sl, lr_sq, qr_sf, qr_sa, qr_sl, qr_sq, sf_1, sf_2, sa_1, sa_2, sl_1, sl_2, Option.isSome_some, Option.map_some, Option.map_none, Option.toList_some, Option.toList_none, List.nil_append, List.cons_append, List.singleton_append, if_true, if_false, ↓reduceIte, and_self, and_true, true_and, and_false, false_and, not_true, not_false_iff, reduceCtorEq, Nat.reduceEqDiff, Nat.reduceAdd, Nat.reduceSub, Nat.reduceMul, Nat.reduceLT, Nat.reduceLeDiff, Nat.reduceBEq, eq_self, ne_eq, Nat.add_eq_zero_iff, Nat.add_left_cancel_iff, Nat.add_right_cancel_iff, Nat.left_eq_add, Nat.add_eq_left, Bool.true_or, Bool.or_true, Bool.or_self, or_self, or_true, true_or, or_false, false_or, decide_true, decide_false, i_10, i_01, f0, f1, f4, v5, w9, w10, a9, a10, q1, q2, ik, ck, y1]
            exact c
      · have q2 : (8 : Int32) ≤ nI ((okK ((fun d k => decide (σ (v + 9) k = τ 55 1 ∧ σ (v + 10) k = nI d)) d) ((okD (fun d k => decide (σ (v + 9) k = τ 55 1 ∧ σ (v + 10) k = nI d)) n) d).1 ((okD (fun d k => decide (σ (v + 9) k = τ 55 1 ∧ σ (v + 10) k = nI d)) n) d).2) k).1 := nI_le (a := 8) (by omega) (by omega)
        have e : (okK ((fun d k => decide (σ (v + 9) k = τ 55 1 ∧ σ (v + 10) k = nI d)) d) ((okD (fun d k => decide (σ (v + 9) k = τ 55 1 ∧ σ (v + 10) k = nI d)) n) d).1 ((okD (fun d k => decide (σ (v + 9) k = τ 55 1 ∧ σ (v + 10) k = nI d)) n) d).2) n = (okK ((fun d k => decide (σ (v + 9) k = τ 55 1 ∧ σ (v + 10) k = nI d)) d) ((okD (fun d k => decide (σ (v + 9) k = τ 55 1 ∧ σ (v + 10) k = nI d)) n) d).1 ((okD (fun d k => decide (σ (v + 9) k = τ 55 1 ∧ σ (v + 10) k = nI d)) n) d).2) k := by
          have := okK_eq (P := (fun d k => decide (σ (v + 9) k = τ 55 1 ∧ σ (v + 10) k = nI d)) d) (c0 := ((okD (fun d k => decide (σ (v + 9) k = τ 55 1 ∧ σ (v + 10) k = nI d)) n) d).1) (o0 := ((okD (fun d k => decide (σ (v + 9) k = τ 55 1 ∧ σ (v + 10) k = nI d)) n) d).2) k (n - k)
          rw [show k + (n - k) = n by omega] at this
          exact this (by omega)
        obtain ⟨h', σ', τ', c, rest⟩ := ih g σg τg (some (.int (nI k))) G (by show τg 55 4 = nI ((okK ((fun d k => decide (σ (v + 9) k = τ 55 1 ∧ σ (v + 10) k = nI d)) d) ((okD (fun d k => decide (σ (v + 9) k = τ 55 1 ∧ σ (v + 10) k = nI d)) n) d).1 ((okD (fun d k => decide (σ (v + 9) k = τ 55 1 ∧ σ (v + 10) k = nI d)) n) d).2) n).1; rw [e]; exact h1) h2 (by show ∀ i, i < ((okK ((fun d k => decide (σ (v + 9) k = τ 55 1 ∧ σ (v + 10) k = nI d)) d) ((okD (fun d k => decide (σ (v + 9) k = τ 55 1 ∧ σ (v + 10) k = nI d)) n) d).1 ((okD (fun d k => decide (σ (v + 9) k = τ 55 1 ∧ σ (v + 10) k = nI d)) n) d).2) n).1 → σg 57 i = σ (v + 8) (((okK ((fun d k => decide (σ (v + 9) k = τ 55 1 ∧ σ (v + 10) k = nI d)) d) ((okD (fun d k => decide (σ (v + 9) k = τ 55 1 ∧ σ (v + 10) k = nI d)) n) d).1 ((okD (fun d k => decide (σ (v + 9) k = τ 55 1 ∧ σ (v + 10) k = nI d)) n) d).2) n).2 i); rw [e]; exact h3) h4 h5
        refine ⟨h', σ', τ', ?_, rest⟩
        rw [← nI_1] at c
        simp only [e_Planner_gatherNeeds_25, e_Planner_gatherNeeds_26, e_Planner_gatherNeeds_29, e_Planner_gatherNeeds_32, e_Planner_gatherNeeds_35, e_Planner_gatherNeeds_36, e_Planner_gatherNeeds_39, e_Planner_gatherNeeds_41, e_Planner_gatherNeeds_107, e_Planner_gatherNeeds_110, m_get, m_put, m_ia, m_is, m_la, m_ls, fl_sf, fl_sa, fl_sl, fl_sq, ar_sf, ar_sa, ar_sl, ar_sq, lr_sf, lr_sa, lr_sl, lr_sq, qr_sf, qr_sa, qr_sl, qr_sq, sf_1, sf_2, sa_1, sa_2, sl_1, sl_2, Option.isSome_some, Option.map_some, Option.map_none, Option.toList_some, Option.toList_none, List.nil_append, List.cons_append, List.singleton_append, if_true, if_false, ↓reduceIte, and_self, and_true, true_and, and_false, false_and, not_true, not_false_iff, reduceCtorEq, Nat.reduceEqDiff, Nat.reduceAdd, Nat.reduceSub, Nat.reduceMul, Nat.reduceLT, Nat.reduceLeDiff, Nat.reduceBEq, eq_self, ne_eq, Nat.add_eq_zero_iff, Nat.add_left_cancel_iff, Nat.add_right_cancel_iff, Nat.left_eq_add, Nat.add_eq_left, Bool.true_or, Bool.or_true, Bool.or_self, or_self, or_true, true_or, or_false, false_or, decide_true, decide_false, i_10, i_01, f0, f4, v5, q1, q2]
        exact c
end PG
