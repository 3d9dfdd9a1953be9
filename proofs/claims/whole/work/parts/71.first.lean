/-! The least cost and the first plan. -/
def lcW (σ : Nat → Nat → Int32) (d : Nat) : Nat := (σ 60 d).toNatClampNeg
def liW (σ : Nat → Nat → Int32) (d k : Nat) : Nat := (σ 59 (64 * d + k)).toNatClampNeg
theorem LS_all {σ τ : Nat → Nat → Int32} {v C : Nat} {ch ow np ds : Nat → Nat} {pr : Nat → Nat → Nat} {ok ln : Nat → Nat → Bool} (Q : Pq σ τ v C ch ow np ds) (hL : ∀ d, d < 4 → LSd σ C ok ln ds d) (hp : ∀ c b, pr c b ≤ 100) : PHy C pr (liW σ) (lcW σ) ok ln ds ∧ ∀ d, d < 4 → lcW σ d ≤ 64 ∧ σ 60 d = nI (lcW σ d) ∧ ∀ k, k < lcW σ d → liW σ d k < 2 ^ C ∧ σ 59 (64 * d + k) = nI (liW σ d k) := by
  have all : ∀ d, d < 4 → lcW σ d ≤ 64 ∧ σ 60 d = nI (lcW σ d) ∧ (∀ k, k < lcW σ d → liW σ d k < 64 ∧ SFd C ok ln ds d (liW σ d k) ∧ σ 59 (64 * d + k) = nI (liW σ d k)) ∧ ∀ L, SFd C ok ln ds d L → ∃ k, k < lcW σ d ∧ sbI (σ 59 (64 * d + k)) (nI L) := fun d hd => by
    obtain ⟨m, a, b, c, e⟩ := hL d hd
    have em : lcW σ d = m := by rw [lcW, b, nI_clamp (by omega)]
    rw [em]
    refine ⟨a, b, fun k hk => ?_, e⟩
    obtain ⟨L, L1, L2, L3⟩ := c k hk
    have eL : liW σ d k = L := by rw [liW, L2, nI_clamp (by omega)]
    rw [eL]
    exact ⟨L1, L3, L2⟩
  refine ⟨⟨⟨Q.1.1, hp⟩, Q.2.2.1, fun d hd k hk => ((all d hd).2.2.1 k hk).2.1, fun d hd L h => ?_⟩, fun d hd => ?_⟩
  · obtain ⟨k, k1, k2⟩ := (all d hd).2.2.2 L h
    obtain ⟨x1, x2, x3⟩ := (all d hd).2.2.1 k k1
    rw [x3] at k2
    exact ⟨k, k1, fun c _ => sbI_bi x1 k2 c⟩
  · obtain ⟨a, b, c, _⟩ := all d hd
    exact ⟨a, b, fun k hk => ⟨SF_lt Q.2.2.1.2 hd (c k hk).2.1, (c k hk).2.2⟩⟩
theorem FF_ex {C : Nat} {ok ln : Nat → Nat → Bool} {ds : Nat → Nat} (hm : ∀ d, d < 4 → ds d ≤ ds (d + 1)) (h : ∀ d, d < 4 → ∃ L, SFd C ok ln ds d L) : ∃ a, FF C ok ds a := by
  obtain ⟨L0, h0⟩ := h 0 (by omega)
  obtain ⟨L1, h1⟩ := h 1 (by omega)
  obtain ⟨L2, h2⟩ := h 2 (by omega)
  obtain ⟨L3, h3⟩ := h 3 (by omega)
  obtain ⟨a, -, ha⟩ := M_ext (C := C) (ok := ok) (ln := ln) (ds := ds) 4 0 rfl hm (fun _ => 0) (fun e => if e = 0 then L0 else if e = 1 then L1 else if e = 2 then L2 else L3) (fun e _ he => by
    rcases (by omega : e = 0 ∨ e = 1 ∨ e = 2 ∨ e = 3) with rfl | rfl | rfl | rfl
    · exact h0
    · exact h1
    · exact h2
    · exact h3)
  exact ⟨a, fun e he => (ha e (Nat.zero_le _) he).1⟩
section FP
variable {h : xH} {σ τ : Nat → Nat → Int32} {v s C : Nat} {q : Nat → Nat} {e1 e2 : Int64} {ch ow np ds : Nat → Nat}
/-- the rows after the prices are laid -/
theorem Pr_new {sr cp : Nat} {σ' : Nat → Nat → Int32} (Q : Pq σ τ v C ch ow np ds) (hs : sr ≤ 2) (hcp : cp ≤ 9) (hL : ∀ d, d < 4 → LSd σ C (okP (σ (v + 2)) ow np ch) (lnP ow np ch) ds d) (ry : ∀ k, k < 64 → σ 61 k = nI (tlN k)) (k1 : ∀ b, b ≠ 62 → b ≠ 63 → σ' b = σ b) (k2 : ∀ c, c < C → ∀ b, b < 4 → σ' 62 (4 * c + b) = nI ((prP (grW σ v) ch sr cp) c b)) : Pr σ' τ C (prP (grW σ v) ch sr cp) (liW σ) (lcW σ) := by
  have A := (LS_all (pr := (prP (grW σ v) ch sr cp)) Q hL (prP_le hs hcp)).2
  unfold Pr
  rw [k1 59 (by omega) (by omega), k1 60 (by omega) (by omega), k1 61 (by omega) (by omega)]
  exact ⟨Q.1, k2, A, ry, prP_le hs hcp⟩
theorem Mem_new {pr li : Nat → Nat → Nat} {lc : Nat → Nat} {σ' : Nat → Nat → Int32} (k3 : ∀ d, d < 2 → ∀ T, T < 4 ^ C → σ' 63 (4096 * d + T) = -1) : Mem σ' C pr li lc := fun d h1 h2 T hT => Or.inl (k3 (d - 2) (by omega) T hT)
theorem c_leastCost {sr cp : Nat} (G : Pg h σ τ v s q e1 e2) (Q : Pq σ τ v C ch ow np ds) (hs : sr ≤ 2) (es : τ 55 1 = nI sr) (hcp : cp ≤ 9) (hg : ∀ c, c < C → ∃ g, g ≤ 9 ∧ σ (v + 5) (ch c) = nI g) (hL : ∀ d, d < 4 → LSd σ C (okP (σ (v + 2)) ow np ch) (lnP ow np ch) ds d) (hf : ((τ 55 7 = 1 ∧ ∀ d, d < 4 → ∃ L, SFd C (okP (σ (v + 2)) ow np ch) (lnP ow np ch) ds d L) ∨ (τ 55 7 = 0 ∧ ∃ d, d < 4 ∧ ¬ ∃ L, SFd C (okP (σ (v + 2)) ow np ch) (lnP ow np ch) ds d L))) (ry : ∀ k, k < 64 → σ 61 k = nI (tlN k)) : ∃ y h' σ', xC M_Planner_leastCost [.ref 55, .int (nI cp)] h = some (some (.int y), h') ∧ Pg h' σ' τ v s q e1 e2 ∧ (∀ b, b ≠ 62 → b ≠ 63 → σ' b = σ b) ∧ ((y = -9 ∧ ¬ ∃ a, FF C (okP (σ (v + 2)) ow np ch) ds a) ∨ ((∃ a, FF C (okP (σ (v + 2)) ow np ch) ds a) ∧ ∀ b, Bst C (prP (grW σ v) ch sr cp) (okP (σ (v + 2)) ow np ch) (lnP ow np ch) ds b → y = nI (coC (prP (grW σ v) ch sr cp) (lnP ow np ch) b (ds 4)))) := by
  have f7 := hI G.1 55 4 7 rfl rfl
  have f4 := hI G.1 55 4 4 rfl rfl
  rw [Q.2.1.2] at f4
  rcases hf with ⟨p1, pa⟩ | ⟨p0, d, hd, nd⟩
  · have ex := FF_ex Q.2.2.1.2 pa
    rw [p1] at f7
    rcases Nat.eq_zero_or_pos (ds 4) with z | z
    · refine ⟨0, h, σ, ?_, G, fun _ _ _ => rfl, Or.inr ⟨ex, fun b _ => by rw [z]; rfl⟩⟩
      rw [z, nI_0] at f4
      simp only [k_Planner_leastCost, e_Planner_leastCost_0, e_Planner_leastCost_1, e_Planner_leastCost_4, e_Planner_leastCost_7, e_Planner_leastCost_9, e_Planner_leastCost_10, e_Planner_leastCost_11, e_Planner_leastCost_14, e_Planner_leastCost_17, e_Planner_leastCost_18, m_get, m_put, m_ia, m_is, m_la, m_ls, fl_sf, fl_sa, fl_sl, fl_sq, ar_sf, ar_sa, ar_sl, ar_sq, lr_sf, lr_sa, lr_sl, lr_sq, qr_sf, qr_sa, qr_sl, qr_sq, sf_1, sf_2, sa_1, sa_2, sl_1, sl_2, Option.isSome_some, Option.map_some, Option.map_none, Option.toList_some, Option.toList_none, List.nil_append, List.cons_append, List.singleton_append, if_true, if_false, ↓reduceIte, and_self, and_true, true_and, and_false, false_and, not_true, not_false_iff, reduceCtorEq, Nat.reduceEqDiff, Nat.reduceAdd, Nat.reduceSub, Nat.reduceMul, Nat.reduceLT, Nat.reduceLeDiff, Nat.reduceBEq, eq_self, ne_eq, Nat.add_eq_zero_iff, Nat.add_left_cancel_iff, Nat.add_right_cancel_iff, Nat.left_eq_add, Nat.add_eq_left, Bool.true_or, Bool.or_true, Bool.or_self, or_self, or_true, true_or, or_false, false_or, decide_true, decide_false, i_10, i_01, f7, f4]
    · have nz : ¬ nI (ds 4) = 0 := nI_ne0 z (by have := Q.2.1.1; omega)
      obtain ⟨h1, σ1, c1, G1, k1, k2, k3⟩ := c_priceAt G Q hs es hcp hg
      have R1 := Pr_new Q hs hcp hL ry k1 k2
      have H := (LS_all (pr := (prP (grW σ v) ch sr cp)) Q hL (prP_le hs hcp)).1
      obtain ⟨h2, σ2, c2, G2, M2', k4⟩ := c_costFrom 4 0 0 h1 σ1 rfl G1 R1 (Mem_new k3) (by omega) (fun _ => (Sn0 (C := C) (by omega)).1)
      have c1' := call_v (lv := 7) c1 (Pg_is G) (by decide) (Nat.le_of_ble_eq_true rfl)
      have c2' := call_v (lv := 7) c2 (Pg_is G1) (by decide) (Nat.le_of_ble_eq_true rfl)
      rw [nI_0] at c2'
      refine ⟨_, h2, σ2, ?_, G2, fun b n1 n2 => by rw [k4 b n2]; exact k1 b n1 n2, Or.inr ⟨ex, fun b hb => by rw [M1 H hb]⟩⟩
      simp only [k_Planner_leastCost, e_Planner_leastCost_0, e_Planner_leastCost_1, e_Planner_leastCost_4, e_Planner_leastCost_7, e_Planner_leastCost_9, e_Planner_leastCost_10, e_Planner_leastCost_11, e_Planner_leastCost_14, e_Planner_leastCost_17, e_Planner_leastCost_18, e_Planner_leastCost_19, e_Planner_leastCost_20, e_Planner_leastCost_21, e_Planner_leastCost_24, e_Planner_leastCost_25, e_Planner_leastCost_26, e_Planner_leastCost_27, e_Planner_leastCost_30, m_get, m_put, m_ia, m_is, m_la, m_ls, fl_sf, fl_sa, fl_sl, fl_sq, ar_sf, ar_sa, ar_sl, ar_sq, lr_sf, lr_sa, lr_sl, lr_sq, qr_sf, qr_sa, qr_sl, qr_sq, sf_1, sf_2, sa_1, sa_2, sl_1, sl_2, Option.isSome_some, Option.map_some, Option.map_none, Option.toList_some, Option.toList_none, List.nil_append, List.cons_append, List.singleton_append, if_true, if_false, ↓reduceIte, and_self, and_true, true_and, and_false, false_and, not_true, not_false_iff, reduceCtorEq, Nat.reduceEqDiff, Nat.reduceAdd, Nat.reduceSub, Nat.reduceMul, Nat.reduceLT, Nat.reduceLeDiff, Nat.reduceBEq, eq_self, ne_eq, Nat.add_eq_zero_iff, Nat.add_left_cancel_iff, Nat.add_right_cancel_iff, Nat.left_eq_add, Nat.add_eq_left, Bool.true_or, Bool.or_true, Bool.or_self, or_self, or_true, true_or, or_false, false_or, decide_true, decide_false, i_10, i_01, f7, f4, nz, c1', c2']
  · rw [p0] at f7
    refine ⟨-9, h, σ, ?_, G, fun _ _ _ => rfl, Or.inl ⟨rfl, fun ⟨a, ha⟩ => nd ⟨_, mks_SF (ha d hd)⟩⟩⟩
    simp only [k_Planner_leastCost, e_Planner_leastCost_0, e_Planner_leastCost_1, e_Planner_leastCost_4, e_Planner_leastCost_7, e_Planner_leastCost_9, m_get, m_put, m_ia, m_is, m_la, m_ls, fl_sf, fl_sa, fl_sl, fl_sq, ar_sf, ar_sa, ar_sl, ar_sq, lr_sf, lr_sa, lr_sl, lr_sq, qr_sf, qr_sa, qr_sl, qr_sq, sf_1, sf_2, sa_1, sa_2, sl_1, sl_2, Option.isSome_some, Option.map_some, Option.map_none, Option.toList_some, Option.toList_none, List.nil_append, List.cons_append, List.singleton_append, if_true, if_false, ↓reduceIte, and_self, and_true, true_and, and_false, false_and, not_true, not_false_iff, reduceCtorEq, Nat.reduceEqDiff, Nat.reduceAdd, Nat.reduceSub, Nat.reduceMul, Nat.reduceLT, Nat.reduceLeDiff, Nat.reduceBEq, eq_self, ne_eq, Nat.add_eq_zero_iff, Nat.add_left_cancel_iff, Nat.add_right_cancel_iff, Nat.left_eq_add, Nat.add_eq_left, Bool.true_or, Bool.or_true, Bool.or_self, or_self, or_true, true_or, or_false, false_or, decide_true, decide_false, i_10, i_01, f7]
theorem c_firstNone {y : Int32} {cp : Int32} (G : Pg h σ τ v s q e1 e2) (Q : Pq σ τ v C ch ow np ds) (hn : τ 55 7 = 0 ∨ (τ 55 7 = 1 ∧ ¬ (0 ≤ y ∧ y < nI (ds 4)))) : xC M_Planner_firstPlanAt [.ref 55, .int cp, .int y] h = some (some (.int (-9)), h) := by
  have f7 := hI G.1 55 4 7 rfl rfl
  have f4 := hI G.1 55 4 4 rfl rfl
  rw [Q.2.1.2] at f4
  rcases hn with p0 | ⟨p1, hy⟩
  · rw [p0] at f7
    simp only [k_Planner_firstPlanAt, e_Planner_firstPlanAt_0, e_Planner_firstPlanAt_1, e_Planner_firstPlanAt_4, e_Planner_firstPlanAt_7, e_Planner_firstPlanAt_8, e_Planner_firstPlanAt_11, e_Planner_firstPlanAt_12, e_Planner_firstPlanAt_13, e_Planner_firstPlanAt_16, e_Planner_firstPlanAt_19, e_Planner_firstPlanAt_21, m_get, m_put, m_ia, m_is, m_la, m_ls, fl_sf, fl_sa, fl_sl, fl_sq, ar_sf, ar_sa, ar_sl, ar_sq, lr_sf, lr_sa, lr_sl, lr_sq, qr_sf, qr_sa, qr_sl, qr_sq, sf_1, sf_2, sa_1, sa_2, sl_1, sl_2, Option.isSome_some, Option.map_some, Option.map_none, Option.toList_some, Option.toList_none, List.nil_append, List.cons_append, List.singleton_append, if_true, if_false, ↓reduceIte, and_self, and_true, true_and, and_false, false_and, not_true, not_false_iff, reduceCtorEq, Nat.reduceEqDiff, Nat.reduceAdd, Nat.reduceSub, Nat.reduceMul, Nat.reduceLT, Nat.reduceLeDiff, Nat.reduceBEq, eq_self, ne_eq, Nat.add_eq_zero_iff, Nat.add_left_cancel_iff, Nat.add_right_cancel_iff, Nat.left_eq_add, Nat.add_eq_left, Bool.true_or, Bool.or_true, Bool.or_self, or_self, or_true, true_or, or_false, false_or, decide_true, decide_false, i_10, i_01, f7]
  · rw [p1] at f7
    by_cases w : y < 0
    · simp only [k_Planner_firstPlanAt, e_Planner_firstPlanAt_0, e_Planner_firstPlanAt_1, e_Planner_firstPlanAt_4, e_Planner_firstPlanAt_7, e_Planner_firstPlanAt_8, e_Planner_firstPlanAt_11, e_Planner_firstPlanAt_12, e_Planner_firstPlanAt_13, e_Planner_firstPlanAt_16, e_Planner_firstPlanAt_19, e_Planner_firstPlanAt_21, m_get, m_put, m_ia, m_is, m_la, m_ls, fl_sf, fl_sa, fl_sl, fl_sq, ar_sf, ar_sa, ar_sl, ar_sq, lr_sf, lr_sa, lr_sl, lr_sq, qr_sf, qr_sa, qr_sl, qr_sq, sf_1, sf_2, sa_1, sa_2, sl_1, sl_2, Option.isSome_some, Option.map_some, Option.map_none, Option.toList_some, Option.toList_none, List.nil_append, List.cons_append, List.singleton_append, if_true, if_false, ↓reduceIte, and_self, and_true, true_and, and_false, false_and, not_true, not_false_iff, reduceCtorEq, Nat.reduceEqDiff, Nat.reduceAdd, Nat.reduceSub, Nat.reduceMul, Nat.reduceLT, Nat.reduceLeDiff, Nat.reduceBEq, eq_self, ne_eq, Nat.add_eq_zero_iff, Nat.add_left_cancel_iff, Nat.add_right_cancel_iff, Nat.left_eq_add, Nat.add_eq_left, Bool.true_or, Bool.or_true, Bool.or_self, or_self, or_true, true_or, or_false, false_or, decide_true, decide_false, i_10, i_01, f7, w]
    · have w2 : ¬ y < nI (ds 4) := fun u => hy ⟨Int32.not_lt.mp w, u⟩
      simp only [k_Planner_firstPlanAt, e_Planner_firstPlanAt_0, e_Planner_firstPlanAt_1, e_Planner_firstPlanAt_4, e_Planner_firstPlanAt_7, e_Planner_firstPlanAt_8, e_Planner_firstPlanAt_11, e_Planner_firstPlanAt_12, e_Planner_firstPlanAt_13, e_Planner_firstPlanAt_16, e_Planner_firstPlanAt_19, e_Planner_firstPlanAt_21, m_get, m_put, m_ia, m_is, m_la, m_ls, fl_sf, fl_sa, fl_sl, fl_sq, ar_sf, ar_sa, ar_sl, ar_sq, lr_sf, lr_sa, lr_sl, lr_sq, qr_sf, qr_sa, qr_sl, qr_sq, sf_1, sf_2, sa_1, sa_2, sl_1, sl_2, Option.isSome_some, Option.map_some, Option.map_none, Option.toList_some, Option.toList_none, List.nil_append, List.cons_append, List.singleton_append, if_true, if_false, ↓reduceIte, and_self, and_true, true_and, and_false, false_and, not_true, not_false_iff, reduceCtorEq, Nat.reduceEqDiff, Nat.reduceAdd, Nat.reduceSub, Nat.reduceMul, Nat.reduceLT, Nat.reduceLeDiff, Nat.reduceBEq, eq_self, ne_eq, Nat.add_eq_zero_iff, Nat.add_left_cancel_iff, Nat.add_right_cancel_iff, Nat.left_eq_add, Nat.add_eq_left, Bool.true_or, Bool.or_true, Bool.or_self, or_self, or_true, true_or, or_false, false_or, decide_true, decide_false, i_10, i_01, f7, w, f4, w2]
theorem c_firstPlan {sr cp j : Nat} {b : Nat → Nat} (G : Pg h σ τ v s q e1 e2) (Q : Pq σ τ v C ch ow np ds) (hs : sr ≤ 2) (es : τ 55 1 = nI sr) (hcp : cp ≤ 9) (hg : ∀ c, c < C → ∃ g, g ≤ 9 ∧ σ (v + 5) (ch c) = nI g) (hL : ∀ d, d < 4 → LSd σ C (okP (σ (v + 2)) ow np ch) (lnP ow np ch) ds d) (p1 : τ 55 7 = 1) (ry : ∀ k, k < 64 → σ 61 k = nI (tlN k)) (hj : j < ds 4) (hb : Bst C (prP (grW σ v) ch sr cp) (okP (σ (v + 2)) ow np ch) (lnP ow np ch) ds b) : ∃ h' σ' τ', xC M_Planner_firstPlanAt [.ref 55, .int (nI cp), .int (nI j)] h = some (some (.int (nI (ch (b j)))), h') ∧ (Pg h' σ' τ' v s q e1 e2 ∧ (∀ b, b ≠ 62 → b ≠ 63 → b ≠ 64 → σ' b = σ b) ∧ (∀ a k, a ≠ 55 → τ' a k = τ a k)) := by
  have hv := G.1.2.2.2.1.1
  have m8 := Q.2.1.1
  have C6 := Q.1.1
  have f7 := hI G.1 55 4 7 rfl rfl
  rw [p1] at f7
  have f4 := hI G.1 55 4 4 rfl rfl
  rw [Q.2.1.2] at f4
  obtain ⟨h1, σ1, c1, G1, k1, k2, k3⟩ := c_priceAt G Q hs es hcp hg
  have R1 := Pr_new Q hs hcp hL ry k1 k2
  have H := (LS_all (pr := (prP (grW σ v) ch sr cp)) Q hL (prP_le hs hcp)).1
  have c1' := call_v (lv := 17) c1 (Pg_is G) (by decide) (Nat.le_of_ble_eq_true rfl)
  have Q1 : Pq σ1 τ v C ch ow np ds := Pq_cg Q (fun b hb => k1 b (by omega) (by omega)) ⟨rfl, rfl⟩
  have cj := nI_clamp (show j < 2 ^ 31 by omega)
  have ij := xin_nI (show j < 8 by omega) (by decide)
  have key := loop_dn (t := 4) (P := fun d => ∀ g σg τg T (nn : Nat → Nat), Pg g σg τg v s q e1 e2 → Mem σg C (prP (grW σ v) ch sr cp) (liW σ) (lcW σ) → (∀ b, b ≠ 63 → b ≠ 64 → σg b = σ1 b) → (∀ a k, ¬ (a = 55 ∧ (k = 15 ∨ k = 16)) → τg a k = τ a k) → T ≤ 1365 * d → Sn C d T nn → (∀ c, c < C → nn c = cnt (lnP ow np ch) b c (ds d)) → cfT C (prP (grW σ v) ch sr cp) (liW σ) (lcW σ) (4 - d) d T + Ph C (prP (grW σ v) ch sr cp) nn = coC (prP (grW σ v) ch sr cp) (lnP ow np ch) b (ds 4) → (∀ i, i < ds d → σg 64 i = nI (ch (b i))) → ∃ h' σ' τ', xR none 17 M_Planner_firstPlanAt 32 [some (.ref 55), some (.int (nI cp)), some (.int (nI j)), some (.int (nI T)), some (.int (nI d))] [] g = some (some (.int (nI (ch (b j)))), h') ∧ (Pg h' σ' τ' v s q e1 e2 ∧ (∀ b, b ≠ 62 → b ≠ 63 → b ≠ 64 → σ' b = σ b) ∧ (∀ a k, a ≠ 55 → τ' a k = τ a k))) ?_ ?_ 0 (Nat.zero_le _)
  · have z : cfT C (prP (grW σ v) ch sr cp) (liW σ) (lcW σ) 4 0 0 + Ph C (prP (grW σ v) ch sr cp) (fun _ => 0) = coC (prP (grW σ v) ch sr cp) (lnP ow np ch) b (ds 4) := by rw [M1 H hb, Ph0]; rfl
    obtain ⟨h', σ', τ', c, rest⟩ := key h1 σ1 τ 0 (fun _ => 0) G1 (Mem_new k3) (fun _ _ _ => rfl) (fun _ _ _ => rfl) (Nat.le_refl _) Sn0 (fun c hc => by rw [Q.2.2.1.1]; rfl) z (fun i hi => by rw [Q.2.2.1.1] at hi; omega)
    refine ⟨h', σ', τ', ?_, rest⟩
    have w : ¬ nI j < 0 := nI_pos (by omega)
    have w2 : nI j < nI (ds 4) := nI_lt hj (by omega)
    rw [nI_0] at c
    simp only [k_Planner_firstPlanAt, e_Planner_firstPlanAt_0, e_Planner_firstPlanAt_1, e_Planner_firstPlanAt_4, e_Planner_firstPlanAt_7, e_Planner_firstPlanAt_8, e_Planner_firstPlanAt_11, e_Planner_firstPlanAt_12, e_Planner_firstPlanAt_13, e_Planner_firstPlanAt_16, e_Planner_firstPlanAt_19, e_Planner_firstPlanAt_21, e_Planner_firstPlanAt_22, e_Planner_firstPlanAt_23, e_Planner_firstPlanAt_24, e_Planner_firstPlanAt_27, e_Planner_firstPlanAt_28, e_Planner_firstPlanAt_29, e_Planner_firstPlanAt_30, m_get, m_put, m_ia, m_is, m_la, m_ls, fl_sf, fl_sa, fl_sl, fl_sq, ar_sf, ar_sa, ar_sl, ar_sq, lr_sf, lr_sa, lr_sl, lr_sq, qr_sf, qr_sa, qr_sl, qr_sq, sf_1, sf_2, sa_1, sa_2, sl_1, sl_2, Option.isSome_some, Option.map_some, Option.map_none, Option.toList_some, Option.toList_none, List.nil_append, List.cons_append, List.singleton_append, if_true, if_false, ↓reduceIte, and_self, and_true, true_and, and_false, false_and, not_true, not_false_iff, reduceCtorEq, Nat.reduceEqDiff, Nat.reduceAdd, Nat.reduceSub, Nat.reduceMul, Nat.reduceLT, Nat.reduceLeDiff, Nat.reduceBEq, eq_self, ne_eq, Nat.add_eq_zero_iff, Nat.add_left_cancel_iff, Nat.add_right_cancel_iff, Nat.left_eq_add, Nat.add_eq_left, Bool.true_or, Bool.or_true, Bool.or_self, or_self, or_true, true_or, or_false, false_or, decide_true, decide_false, i_10, i_01, f7, f4, w, w2, c1']
    exact c
  · intro g σg τg T nn Gg Mg x1 x2 x3 x4 x5 x6 x7
    refine ⟨g, σg, τg, ?_, Gg, fun b n1 n2 n3 => by rw [x1 b n2 n3]; exact k1 b n1 n2, fun a k ha => x2 a k (by omega)⟩
    have f14 := hR Gg.1 55 4 14 64 rfl rfl
    have r64 := hA Gg.1 64 0 8 rfl rfl
    have z : (4 : Int32) ≤ nI 4 := Int32.le_refl _
    simp only [e_Planner_firstPlanAt_32, e_Planner_firstPlanAt_34, e_Planner_firstPlanAt_35, e_Planner_firstPlanAt_95, e_Planner_firstPlanAt_96, e_Planner_firstPlanAt_99, e_Planner_firstPlanAt_100, e_Planner_firstPlanAt_101, m_get, m_put, m_ia, m_is, m_la, m_ls, fl_sf, fl_sa, fl_sl, fl_sq, ar_sf, ar_sa, ar_sl, ar_sq, lr_sf, lr_sa, lr_sl, lr_sq, qr_sf, qr_sa, qr_sl, qr_sq, sf_1, sf_2, sa_1, sa_2, sl_1, sl_2, Option.isSome_some, Option.map_some, Option.map_none, Option.toList_some, Option.toList_none, List.nil_append, List.cons_append, List.singleton_append, if_true, if_false, ↓reduceIte, and_self, and_true, true_and, and_false, false_and, not_true, not_false_iff, reduceCtorEq, Nat.reduceEqDiff, Nat.reduceAdd, Nat.reduceSub, Nat.reduceMul, Nat.reduceLT, Nat.reduceLeDiff, Nat.reduceBEq, eq_self, ne_eq, Nat.add_eq_zero_iff, Nat.add_left_cancel_iff, Nat.add_right_cancel_iff, Nat.left_eq_add, Nat.add_eq_left, Bool.true_or, Bool.or_true, Bool.or_self, or_self, or_true, true_or, or_false, false_or, decide_true, decide_false, i_10, i_01, z, f14, r64, ij, cj, x7 j hj]
  · intro d hd ih g σg τg T nn Gg Mg x1 x2 x3 x4 x5 x6 x7
    have f6 := hR Gg.1 55 4 6 58 rfl rfl
    have r58 := hA Gg.1 58 0 5 rfl rfl
    rw [x1 58 (by omega) (by omega)] at r58
    have e58 := Q1.2.2.2.1 d (by omega)
    have dm := Q.2.2.1.2 d hd
    have d1 := ds_le Q.2.2.1.2 (show d + 1 ≤ 4 by omega) (Nat.le_refl _)
    have q1 : ¬ (4 : Int32) ≤ nI d := nI_ge (b := 4) hd (by omega)
    have i1 := xin_nI (show d < 5 by omega) (by decide)
    have cd := nI_clamp (show d < 2 ^ 31 by omega)
    by_cases w : ds d ≤ j
    · have wz : ¬ nI j < nI (ds d) := nI_nlt w (by omega)
      have tok := (x4 (by omega)).1
      have Rg : Pr σg τg C (prP (grW σ v) ch sr cp) (liW σ) (lcW σ) := by
        have := Pr_cg R1 x1
        unfold Pr at *
        rw [x2 55 2 (by omega)]
        exact this
      have b2 := cfT_up (C := C) (pr := (prP (grW σ v) ch sr cp)) (li := liW σ) (lc := lcW σ) (4 - d) d T
      obtain ⟨g2, σ2, c2, G2, M2', y1⟩ := c_costFrom (4 - d) d T g σg (by omega) Gg Rg Mg (by omega) (fun _ => tok)
      have c2' := call_v (lv := 17) c2 (Pg_is Gg) (by decide) (show 1 + (5 - (nI d).toNatClampNeg) < 17 by omega)
      have G3 := Pg_sf G2 (a := 55) (c := 4) (k := 16) rfl rfl (nI (cfT C (prP (grW σ v) ch sr cp) (liW σ) (lcW σ) (4 - d) d T))
      have y2 : ∀ b, b ≠ 63 → b ≠ 64 → σ2 b = σ1 b := fun b n1 n2 => by rw [y1 b n1]; exact x1 b n1 n2
      have ut1 : ∀ a k, ¬ (a = 55 ∧ (k = 15 ∨ k = 16)) → ut τg 55 16 (nI (cfT C (prP (grW σ v) ch sr cp) (liW σ) (lcW σ) (4 - d) d T)) a k = τ a k := fun a k hk => by rw [ut, if_neg (by omega)]; exact x2 a k hk
      have Q3 : Pq σ2 (ut τg 55 16 (nI (cfT C (prP (grW σ v) ch sr cp) (liW σ) (lcW σ) (4 - d) d T))) v C ch ow np ds := Pq_cg Q1 (fun b hb => y2 b (by omega) (by omega)) ⟨ut1 55 2 (by omega), ut1 55 4 (by omega)⟩
      have R3 : Pr σ2 (ut τg 55 16 (nI (cfT C (prP (grW σ v) ch sr cp) (liW σ) (lcW σ) (4 - d) d T))) C (prP (grW σ v) ch sr cp) (liW σ) (lcW σ) := by
        have := Pr_cg R1 y2
        unfold Pr at *
        rw [ut1 55 2 (by omega)]
        exact this
      have db := hb.1 d hd
      have hd' : 4 - (d + 1) + 1 + d = 4 := by omega
      have e4 : 4 - d = 4 - (d + 1) + 1 := by omega
      have x6' : cfT C (prP (grW σ v) ch sr cp) (liW σ) (lcW σ) (4 - (d + 1) + 1) d T + Ph C (prP (grW σ v) ch sr cp) nn = coC (prP (grW σ v) ch sr cp) (lnP ow np ch) b (ds 4) := by rw [← e4]; exact x6
      obtain ⟨m1, ⟨m2, m3, m4'⟩, m5⟩ := M2 H hb hd' x4 x5 x6'
      rw [← e4] at m1 m5
      obtain ⟨r', g4, σ4, τ4, c4, ⟨G4, M4, z1, z2, z3⟩, post⟩ := c_planDay (kn := σ (v + 2)) (d := d) (r := 4 - (d + 1)) (T := T) (tgt := cfT C (prP (grW σ v) ch sr cp) (liW σ) (lcW σ) (4 - d) d T) hd' tok (by omega) (ds (d + 1) - ds d) (ds d) b 0 _ _ _ G3 Q3 R3 M2' (by rw [y2 (v + 2) (by omega) (by omega)]; exact k1 (v + 2) (by omega) (by omega)) (by omega) (Nat.le_refl _) (fun i h5 h6 => by omega) (fun c hc => ⟨fun y => absurd y (by rw [b_0]; decide), fun ⟨j, j1, j2, _⟩ => by omega⟩) (by simp only [ut, and_self, if_true])
      rcases post with ⟨p1', α, a1, a2, a3, a4, a5', a6⟩ | ⟨p0, no⟩
      · subst p1'
        have eq : ∀ i, ds d ≤ i → i < ds (d + 1) → α i = b i := m5 α a2 a3 (fun a da ga hx => by
          refine a4 (fun i => if i < ds d then b i else a i) (fun i hi => if_pos hi) (DF_cg da (fun i h5 h6 => if_neg (by omega))) ?_ ?_
          · have me : mks (lnP ow np ch) ds (fun i => if i < ds d then b i else a i) d = mks (lnP ow np ch) ds a d := msk_cg _ (fun i h5 h6 => if_neg (by omega))
            rw [me]
            exact ga
          · obtain ⟨k, l1, l2, l3, l4⟩ := hx
            exact ⟨k, l1, l2, fun i h5 h6 => by show (if i < ds d then b i else a i) = α i; rw [if_neg (by omega)]; exact l3 i h5 h6, by show (if k < ds d then b k else a k) < α k; rw [if_neg (by omega)]; exact l4⟩)
        have me : mks (lnP ow np ch) ds α d = mks (lnP ow np ch) ds b d := msk_cg _ (fun i h5 h6 => eq i h5 (by omega))
        rw [me] at a5'
        rw [Nat.sub_self, msk, nI_0] at c4
        have c4' := call_v (lv := 17) c4 (Pg_is G3) (by decide) (show 7 + (9 - (nI (ds d)).toNatClampNeg) < 17 by omega)
        have L2 : mks (lnP ow np ch) ds b d < 2 ^ C := SF_lt (ln := (lnP ow np ch)) Q.2.2.1.2 hd (mks_SF db)
        have L6 := L64 C6 L2
        have tl := tl_lt (mks (lnP ow np ch) ds b d)
        have f15 := hI G4.1 55 4 15 rfl rfl
        rw [a5'] at f15
        have f11 := hR G4.1 55 4 11 61 rfl rfl
        have r61 := hA G4.1 61 0 64 rfl rfl
        have e61 : σ4 61 (mks (lnP ow np ch) ds b d) = nI (tlN (mks (lnP ow np ch) ds b d)) := by rw [z1 61 (by omega) (by omega)]; exact R3.2.2.2.1 _ L6
        have iL := xin_nI L6 (by decide)
        have cL := nI_clamp (show mks (lnP ow np ch) ds b d < 2 ^ 31 by omega)
        obtain ⟨h', σ', τ', c, rest⟩ := ih g4 σ4 τ4 (T + tlN (mks (lnP ow np ch) ds b d)) _ G4 M4 (fun b n1 n2 => by rw [z1 b n1 n2]; exact y2 b n1 n2) (fun a k hk => by rw [z3 a k (by omega)]; exact ut1 a k hk) (by omega) m2 m3 m4' (fun i hi => by
          by_cases y : i < ds d
          · rw [z2 i y, y1 64 (by omega)]
            exact x7 i y
          · rw [a6 i (by omega) hi, eq i (by omega) hi])
        refine ⟨h', σ', τ', ?_, rest⟩
        rw [← nI_1, ← nI_add] at c
        have f6' := hR G3.1 55 4 6 58 rfl rfl
        have r58' := hA G3.1 58 0 5 rfl rfl
        rw [y2 58 (by omega) (by omega)] at r58'
        have f16 := hI G2.1 55 4 16 rfl rfl
        have f6'' := hR G2.1 55 4 6 58 rfl rfl
        have r58'' := hA G2.1 58 0 5 rfl rfl
        rw [y2 58 (by omega) (by omega)] at r58''
        rw [e_Planner_firstPlanAt_32]
        simp only [e_Planner_firstPlanAt_34, e_Planner_firstPlanAt_35, e_Planner_firstPlanAt_38, e_Planner_firstPlanAt_39, e_Planner_firstPlanAt_42, e_Planner_firstPlanAt_44, e_Planner_firstPlanAt_45, e_Planner_firstPlanAt_46, e_Planner_firstPlanAt_49, e_Planner_firstPlanAt_50, e_Planner_firstPlanAt_51, e_Planner_firstPlanAt_53, e_Planner_firstPlanAt_54, e_Planner_firstPlanAt_57, e_Planner_firstPlanAt_60, e_Planner_firstPlanAt_61, e_Planner_firstPlanAt_63, e_Planner_firstPlanAt_64, e_Planner_firstPlanAt_67, e_Planner_firstPlanAt_69, e_Planner_firstPlanAt_70, e_Planner_firstPlanAt_71, e_Planner_firstPlanAt_72, e_Planner_firstPlanAt_73, e_Planner_firstPlanAt_76, e_Planner_firstPlanAt_77, e_Planner_firstPlanAt_78, e_Planner_firstPlanAt_79, e_Planner_firstPlanAt_82, e_Planner_firstPlanAt_83, e_Planner_firstPlanAt_86, e_Planner_firstPlanAt_87, e_Planner_firstPlanAt_88, e_Planner_firstPlanAt_89, e_Planner_firstPlanAt_92, m_get, m_put, m_ia, m_is, m_la, m_ls, fl_sf, fl_sa, fl_sl, fl_sq, ar_sf, ar_sa, ar_sl, ar_sq, lr_sf, lr_sa, lr_sl, lr_sq, qr_sf, qr_sa, qr_sl, qr_sq, sf_1, sf_2, sa_1, sa_2, sl_1, sl_2, Option.isSome_some, Option.map_some, Option.map_none, Option.toList_some, Option.toList_none, List.nil_append, List.cons_append, List.singleton_append, if_true, if_false, ↓reduceIte, and_self, and_true, true_and, and_false, false_and, not_true, not_false_iff, reduceCtorEq, Nat.reduceEqDiff, Nat.reduceAdd, Nat.reduceSub, Nat.reduceMul, Nat.reduceLT, Nat.reduceLeDiff, Nat.reduceBEq, eq_self, ne_eq, Nat.add_eq_zero_iff, Nat.add_left_cancel_iff, Nat.add_right_cancel_iff, Nat.left_eq_add, Nat.add_eq_left, Bool.true_or, Bool.or_true, Bool.or_self, or_self, or_true, true_or, or_false, false_or, decide_true, decide_false, i_10, i_01, q1, f6, r58, e58, i1, cd, wz, c2', f16, f6'', r58'', c4', f11, r61, f15, iL, cL, e61]
        exact c
      · exact absurd m1 (no b (fun _ _ => rfl) db)
    · have wz : nI j < nI (ds d) := nI_lt (by omega) (by omega)
      refine ⟨g, σg, τg, ?_, Gg, fun b n1 n2 n3 => by rw [x1 b n2 n3]; exact k1 b n1 n2, fun a k ha => x2 a k (by omega)⟩
      have f14 := hR Gg.1 55 4 14 64 rfl rfl
      have r64 := hA Gg.1 64 0 8 rfl rfl
      simp only [e_Planner_firstPlanAt_32, e_Planner_firstPlanAt_34, e_Planner_firstPlanAt_35, e_Planner_firstPlanAt_38, e_Planner_firstPlanAt_39, e_Planner_firstPlanAt_42, e_Planner_firstPlanAt_44, e_Planner_firstPlanAt_45, e_Planner_firstPlanAt_46, e_Planner_firstPlanAt_95, e_Planner_firstPlanAt_96, e_Planner_firstPlanAt_99, e_Planner_firstPlanAt_100, e_Planner_firstPlanAt_101, m_get, m_put, m_ia, m_is, m_la, m_ls, fl_sf, fl_sa, fl_sl, fl_sq, ar_sf, ar_sa, ar_sl, ar_sq, lr_sf, lr_sa, lr_sl, lr_sq, qr_sf, qr_sa, qr_sl, qr_sq, sf_1, sf_2, sa_1, sa_2, sl_1, sl_2, Option.isSome_some, Option.map_some, Option.map_none, Option.toList_some, Option.toList_none, List.nil_append, List.cons_append, List.singleton_append, if_true, if_false, ↓reduceIte, and_self, and_true, true_and, and_false, false_and, not_true, not_false_iff, reduceCtorEq, Nat.reduceEqDiff, Nat.reduceAdd, Nat.reduceSub, Nat.reduceMul, Nat.reduceLT, Nat.reduceLeDiff, Nat.reduceBEq, eq_self, ne_eq, Nat.add_eq_zero_iff, Nat.add_left_cancel_iff, Nat.add_right_cancel_iff, Nat.left_eq_add, Nat.add_eq_left, Bool.true_or, Bool.or_true, Bool.or_self, or_self, or_true, true_or, or_false, false_or, decide_true, decide_false, i_10, i_01, q1, f6, r58, e58, i1, cd, wz, f14, r64, ij, cj, x7 j (by omega)]
end FP
