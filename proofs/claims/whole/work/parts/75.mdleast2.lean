/-! The reference's least as a whole. -/
def odR (σ : Nat → Nat → Int32) (n : Nat) (x : Int32) : Nat → Nat × (Nat → Nat) := okD (fun d k => decide (σ 83 (3 * k + 1) = x ∧ σ 83 (3 * k + 2) = nI d)) n
def owR (σ : Nat → Nat → Int32) (j : Nat) : Nat := (σ 81 j).toNatClampNeg
def npR (σ : Nat → Nat → Int32) (n : Nat) (x : Int32) (i : Nat) : Nat := (σ 83 (3 * (odR σ n x 4).2 i)).toNatClampNeg
def VR (σ τ : Nat → Nat → Int32) (p t n : Nat) : Prop := p ≤ 5 ∧ (t ≤ 6 ∧ τ 75 14 = nI t) ∧ (n ≤ 8 ∧ τ 75 15 = nI n) ∧ (∀ j, j < t → ∃ x, x < p ∧ σ 81 j = nI x) ∧ (∀ k, k < n → ∃ x, x < p ∧ σ 83 (3 * k + 0) = nI x) ∧ KS p (σ 80) ∧ (∀ j, j < t → ∃ g, g ≤ 9 ∧ σ 84 (5 + j) = nI g)
section LL3
variable {h : xH} {σ τ : Nat → Nat → Int32} {v s : Nat} {q : Nat → Nat} {e1 e2 : Int64} {p t n sr cp : Nat}
theorem od_in (n8 : n ≤ 8) {x : Int32} {i : Nat} (hi : i < (odR σ n x 4).1) : (odR σ n x 4).2 i < n := by
  obtain ⟨e, he, ha, hb⟩ := okD_fd 4 hi
  exact (okD_day he ha hb).1
theorem Mq_0 (W : VR σ τ p t n) {σ1 τ1 : Nat → Nat → Int32} (h1 : τ1 75 27 = nI (odR σ n (nI sr) 4).1) (h2 : ∀ i, i < (odR σ n (nI sr) 4).1 → σ1 87 i = nI ((odR σ n (nI sr) 4).2 i)) (h3 : ∀ b, b ≠ 87 → σ1 b = σ b) (h4 : τ1 75 14 = τ 75 14) : Mq σ1 τ1 t (odR σ n (nI sr) 4).1 (odR σ n (nI sr) 4).2 (owR σ) (npR σ n (nI sr)) := by
  obtain ⟨p5, ⟨t6, et⟩, ⟨n8, en⟩, wo, wp, ks, wg⟩ := W
  have b4 : (odR σ n (nI sr) 4).1 ≤ n := okD_n (n := n) 4 nd_ex
  have ho : ∀ j, j < t → owR σ j < p ∧ σ 81 j = nI (owR σ j) := fun j hj => by
    obtain ⟨x, x1, x2⟩ := wo j hj
    have : owR σ j = x := by rw [owR, x2, nI_clamp (by omega)]
    rw [this]
    exact ⟨x1, x2⟩
  have hp : ∀ i, i < (odR σ n (nI sr) 4).1 → npR σ n (nI sr) i < p ∧ σ 83 (3 * (odR σ n (nI sr) 4).2 i) = nI (npR σ n (nI sr) i) := fun i hi => by
    obtain ⟨x, x1, x2⟩ := wp _ (od_in n8 hi)
    rw [Nat.add_zero] at x2
    have : npR σ n (nI sr) i = x := by rw [npR, x2, nI_clamp (by omega)]
    rw [this]
    exact ⟨x1, x2⟩
  unfold Mq
  rw [h3 80 (by omega), h3 81 (by omega), h3 83 (by omega)]
  refine ⟨⟨t6, by rw [h4]; exact et⟩, ⟨by omega, h1⟩, fun i hi => ⟨h2 i hi, by have := od_in n8 hi; omega, (hp i hi).2, by have := (hp i hi).1; omega⟩, fun j hj => ⟨(ho j hj).2, by have := (ho j hj).1; omega⟩, fun i hi j hj => ?_⟩
  have a1 := (hp i hi).1
  have a2 := (ho j hj).1
  have k1 := ks (owR σ j) (npR σ n (nI sr) i) a2 (by omega)
  have k2 := ks (npR σ n (nI sr) i) (owR σ j) a1 (by omega)
  cases x1 : bt (σ 80 (owR σ j)) (npR σ n (nI sr) i) <;> cases x2 : bt (σ 80 (npR σ n (nI sr) i)) (owR σ j)
  · rfl
  · have := (k2 x2).2
    rw [x1] at this
    cases this
  · have := (k1 x1).2
    rw [x2] at this
    cases this
  · rfl
theorem cM_layLeast (H : Hp h σ τ v s q e1 e2) (W : VR σ τ p t n) (hs : sr ≤ 2) (hcp : cp ≤ 9) : ∃ h' σ' τ', xC M_Md_layLeast [.ref 75, .int (nI sr), .int (nI cp)] h = some (none, h') ∧ Hp h' σ' τ' v s q e1 e2 ∧ (∀ b, b < 87 ∨ 90 < b → σ' b = σ b) ∧ (∀ a k, ¬ (a = 75 ∧ (k = 27 ∨ k = 31)) → τ' a k = τ a k) ∧ τ' 75 27 = nI (odR σ n (nI sr) 4).1 ∧ ((τ' 75 31 = -9 ∧ ¬ ∃ a, VA t (okR (σ 82) (σ 80) (nI sr) (owR σ) (npR σ n (nI sr))) (dd (σ 83) (odR σ n (nI sr) 4).2) (odR σ n (nI sr) 4).1 a) ∨ ∃ b, VA t (okR (σ 82) (σ 80) (nI sr) (owR σ) (npR σ n (nI sr))) (dd (σ 83) (odR σ n (nI sr) 4).2) (odR σ n (nI sr) 4).1 b ∧ τ' 75 31 = nI (coC (prP (grR σ) (fun k => k) sr cp) (lnP (owR σ) (npR σ n (nI sr)) (fun k => k)) b (odR σ n (nI sr) 4).1) ∧ (∀ k, k < (odR σ n (nI sr) 4).1 → σ' 89 k = nI (b k)) ∧ ∀ a', VA t (okR (σ 82) (σ 80) (nI sr) (owR σ) (npR σ n (nI sr))) (dd (σ 83) (odR σ n (nI sr) 4).2) (odR σ n (nI sr) 4).1 a' → coC (prP (grR σ) (fun k => k) sr cp) (lnP (owR σ) (npR σ n (nI sr)) (fun k => k)) b (odR σ n (nI sr) 4).1 ≤ coC (prP (grR σ) (fun k => k) sr cp) (lnP (owR σ) (npR σ n (nI sr)) (fun k => k)) a' (odR σ n (nI sr) 4).1 ∧ (coC (prP (grR σ) (fun k => k) sr cp) (lnP (owR σ) (npR σ n (nI sr)) (fun k => k)) a' (odR σ n (nI sr) 4).1 = coC (prP (grR σ) (fun k => k) sr cp) (lnP (owR σ) (npR σ n (nI sr)) (fun k => k)) b (odR σ n (nI sr) 4).1 → ¬ lxl a' b 0 (odR σ n (nI sr) 4).1)) := by
  have n8 := W.2.2.1.1
  obtain ⟨h1, σ1, τ1, c1, H1, o1, o2, o3, o4⟩ := cM_layOrder H n8 W.2.2.1.2 (nI sr)
  have Q1 : Mq σ1 τ1 t (odR σ n (nI sr) 4).1 (odR σ n (nI sr) 4).2 (owR σ) (npR σ n (nI sr)) := Mq_0 W o1 o2 o3 (o4 75 14 (by omega))
  have m8 := Q1.2.1.1
  have c1' := call_v (lv := 2) c1 (Hp_75 H) (by decide) (Nat.le_of_ble_eq_true rfl)
  have f27 := hI H1 75 9 27 rfl rfl
  rw [show τ1 75 27 = nI (odR σ n (nI sr) 4).1 from o1] at f27
  have f31 := hI H1 75 9 31 rfl rfl
  have f28 := hR H1 75 9 28 88 rfl rfl
  have r88 := hA H1 88 0 9 rfl rfl
  have in9 : xinB 0 9 = true := by decide
  have zl : ¬ (0 : Int32) < 0 := by decide
  rcases Nat.eq_zero_or_pos (odR σ n (nI sr) 4).1 with z | z
  · have H2 := Hp_sa (t := 0) (n := 9) (Hp_sf H1 (a := 75) (c := 9) (k := 31) rfl rfl 0) (a := 88) rfl rfl (upd (σ1 88) 0 (-1))
    refine ⟨_, _, _, ?_, H2, fun b hb => by rw [us, if_neg (by omega)]; exact o3 b (by omega), fun a k hk => by rw [ut, if_neg (by omega)]; exact o4 a k (by omega), by rw [ut, if_neg (by omega)]; exact o1, Or.inr ⟨fun _ => 0, fun i hi => by omega, ?_, fun k hk => by omega, fun a' _ => ?_⟩⟩
    · rw [z, nI_0] at f27
      have zz : (0 : Int32) ≤ 0 := by decide
      simp only [k_Md_layLeast, e_Md_layLeast_0, e_Md_layLeast_1, e_Md_layLeast_2, e_Md_layLeast_5, e_Md_layLeast_6, e_Md_layLeast_7, e_Md_layLeast_10, e_Md_layLeast_13, e_Md_layLeast_14, e_Md_layLeast_17, e_Md_layLeast_19, e_Md_layLeast_22, e_Md_layLeast_23, e_Md_layLeast_24, e_Md_layLeast_25, e_Md_layLeast_28, e_Md_layLeast_29, e_Md_layLeast_30, e_Md_layLeast_31, e_Md_layLeast_32, e_Md_layLeast_35, e_Md_layLeast_36, e_Md_layLeast_39, e_Md_layLeast_196, m_get, m_put, m_ia, m_is, m_la, m_ls, fl_sf, fl_sa, fl_sl, fl_sq, ar_sf, ar_sa, ar_sl, ar_sq, lr_sf, lr_sa, lr_sl, lr_sq, qr_sf, qr_sa, qr_sl, qr_sq, sf_1, sf_2, sa_1, sa_2, sl_1, sl_2, Option.isSome_some, Option.map_some, Option.map_none, Option.toList_some, Option.toList_none, List.nil_append, List.cons_append, List.singleton_append, if_true, if_false, ↓reduceIte, and_self, and_true, true_and, and_false, false_and, not_true, not_false_iff, reduceCtorEq, Nat.reduceEqDiff, Nat.reduceAdd, Nat.reduceSub, Nat.reduceMul, Nat.reduceLT, Nat.reduceLeDiff, Nat.reduceBEq, eq_self, ne_eq, Nat.add_eq_zero_iff, Nat.add_left_cancel_iff, Nat.add_right_cancel_iff, Nat.left_eq_add, Nat.add_eq_left, Bool.true_or, Bool.or_true, Bool.or_self, or_self, or_true, true_or, or_false, false_or, decide_true, decide_false, i_10, i_01, c1', f27, f31, f28, r88, in9, cl0, zl, zz]
    · rw [z]
      rfl
    · rw [z]
      exact ⟨Nat.le_refl _, fun _ ⟨k, k1, k2, _⟩ => by omega⟩
  · have H2 := Hp_sa (t := 0) (n := 9) (Hp_sf H1 (a := 75) (c := 9) (k := 31) rfl rfl (-9)) (a := 88) rfl rfl (upd (σ1 88) 0 (-1))
    have nz : ¬ nI (odR σ n (nI sr) 4).1 = 0 := nI_ne0 z (by omega)
    have s2 : ∀ b, b ≠ 88 → us σ1 88 (upd (σ1 88) 0 (-1)) b = σ1 b := fun b hb => if_neg hb
    have t2 : ∀ a k, ¬ (a = 75 ∧ k = 31) → ut τ1 75 31 (-9) a k = τ1 a k := fun a k hk => if_neg hk
    have Q2 : Mq (us σ1 88 (upd (σ1 88) 0 (-1))) (ut τ1 75 31 (-9)) t (odR σ n (nI sr) 4).1 (odR σ n (nI sr) 4).2 (owR σ) (npR σ n (nI sr)) := Mq_cg Q1 (fun b hb => s2 b (by omega)) ⟨t2 75 14 (by omega), t2 75 27 (by omega)⟩
    obtain ⟨g', σ', τ', l4, l5, l6, c, ⟨H3, F2, F3⟩, _, B⟩ := cM_dfs Q2 hs hcp (by rw [s2 84 (by omega), o3 84 (by omega)]; exact W.2.2.2.2.2.2) ((odR σ n (nI sr) 4).1 - 1) 0 (by omega) (fun _ => 0) (fun i hi => by omega) _ _ _ none none none ⟨H2, fun _ _ _ _ => rfl, fun _ _ _ => rfl⟩ (fun k hk => by omega) (by rw [us, if_pos rfl, upd, if_pos rfl]) (Or.inl ⟨by simp only [ut, and_self, if_true], fun a' _ hS => by
      rcases hS with ⟨k, k1, _⟩ | ⟨_, k2⟩
      · omega
      · omega⟩)
    have e84 : grR (us σ1 88 (upd (σ1 88) 0 (-1))) = grR σ := by funext j; unfold grR; rw [s2 84 (by omega), o3 84 (by omega)]
    rw [s2 82 (by omega), s2 80 (by omega), s2 83 (by omega), o3 82 (by omega), o3 80 (by omega), o3 83 (by omega), e84] at B
    refine ⟨g', σ', τ', ?_, H3, fun b hb => by rw [F2 b (by omega) (by omega) (by omega), s2 b (by omega)]; exact o3 b (by omega), fun a k hk => by rw [F3 a k (by omega), t2 a k (by omega)]; exact o4 a k (by omega), by rw [F3 75 27 (by omega), t2 75 27 (by omega)]; exact o1, ?_⟩
    · rw [z_m1, nI_0] at c
      have m1 : (-1 : Int32) < 0 := by decide
      have fin : xR none 2 M_Md_layLeast 31 [some (.ref 75), some (.int (nI sr)), some (.int (nI cp)), some (.int (-1)), l4, l5, l6] [] g' = some (none, g') := by
        simp only [e_Md_layLeast_31, e_Md_layLeast_32, e_Md_layLeast_196, Option.isSome_some, Option.map_some, Option.map_none, Option.toList_some, Option.toList_none, List.nil_append, List.cons_append, List.singleton_append, if_true, if_false, ↓reduceIte, and_self, and_true, true_and, and_false, false_and, not_true, not_false_iff, reduceCtorEq, Nat.reduceEqDiff, Nat.reduceAdd, Nat.reduceSub, Nat.reduceMul, Nat.reduceLT, Nat.reduceLeDiff, Nat.reduceBEq, eq_self, ne_eq, Nat.add_eq_zero_iff, Nat.add_left_cancel_iff, Nat.add_right_cancel_iff, Nat.left_eq_add, Nat.add_eq_left, Bool.true_or, Bool.or_true, Bool.or_self, or_self, or_true, true_or, or_false, false_or, decide_true, decide_false, i_10, i_01, m1]
      rw [fin] at c
      simp only [k_Md_layLeast, e_Md_layLeast_0, e_Md_layLeast_1, e_Md_layLeast_2, e_Md_layLeast_5, e_Md_layLeast_6, e_Md_layLeast_7, e_Md_layLeast_10, e_Md_layLeast_13, e_Md_layLeast_14, e_Md_layLeast_17, e_Md_layLeast_19, e_Md_layLeast_22, e_Md_layLeast_23, e_Md_layLeast_24, e_Md_layLeast_25, e_Md_layLeast_28, e_Md_layLeast_29, e_Md_layLeast_30, m_get, m_put, m_ia, m_is, m_la, m_ls, fl_sf, fl_sa, fl_sl, fl_sq, ar_sf, ar_sa, ar_sl, ar_sq, lr_sf, lr_sa, lr_sl, lr_sq, qr_sf, qr_sa, qr_sl, qr_sq, sf_1, sf_2, sa_1, sa_2, sl_1, sl_2, Option.isSome_some, Option.map_some, Option.map_none, Option.toList_some, Option.toList_none, List.nil_append, List.cons_append, List.singleton_append, if_true, if_false, ↓reduceIte, and_self, and_true, true_and, and_false, false_and, not_true, not_false_iff, reduceCtorEq, Nat.reduceEqDiff, Nat.reduceAdd, Nat.reduceSub, Nat.reduceMul, Nat.reduceLT, Nat.reduceLeDiff, Nat.reduceBEq, eq_self, ne_eq, Nat.add_eq_zero_iff, Nat.add_left_cancel_iff, Nat.add_right_cancel_iff, Nat.left_eq_add, Nat.add_eq_left, Bool.true_or, Bool.or_true, Bool.or_self, or_self, or_true, true_or, or_false, false_or, decide_true, decide_false, i_10, i_01, c1', f27, f31, f28, r88, in9, cl0, nz]
      exact c
    · rcases B with ⟨b1, b2⟩ | ⟨b, b1, b2, b3, b4, b5⟩
      · exact Or.inl ⟨b1, fun ⟨a, ha⟩ => b2 a ha (Or.inr (fun j hj => by omega))⟩
      · exact Or.inr ⟨b, b1, b3, b4, fun a' ha => b5 a' ha (Or.inr (fun j hj => by omega))⟩
end LL3
