/-! least. -/
/-- the least cost, by the reference's rows -/
def LV (σ : Nat → Nat → Int32) (t n sr cp : Nat) (y : Int32) : Prop := (y = -9 ∧ ¬ ∃ a, VA t (okR (σ 82) (σ 80) (nI sr) (owR σ) (npR σ n (nI sr))) (dd (σ 83) (odR σ n (nI sr) 4).2) (odR σ n (nI sr) 4).1 a) ∨ ∃ b, VA t (okR (σ 82) (σ 80) (nI sr) (owR σ) (npR σ n (nI sr))) (dd (σ 83) (odR σ n (nI sr) 4).2) (odR σ n (nI sr) 4).1 b ∧ y = nI (coC (prP (grR σ) (fun k => k) sr cp) (lnP (owR σ) (npR σ n (nI sr)) (fun k => k)) b (odR σ n (nI sr) 4).1) ∧ ∀ a', VA t (okR (σ 82) (σ 80) (nI sr) (owR σ) (npR σ n (nI sr))) (dd (σ 83) (odR σ n (nI sr) 4).2) (odR σ n (nI sr) 4).1 a' → coC (prP (grR σ) (fun k => k) sr cp) (lnP (owR σ) (npR σ n (nI sr)) (fun k => k)) b (odR σ n (nI sr) 4).1 ≤ coC (prP (grR σ) (fun k => k) sr cp) (lnP (owR σ) (npR σ n (nI sr)) (fun k => k)) a' (odR σ n (nI sr) 4).1
theorem LV_u {σ : Nat → Nat → Int32} {t n sr cp : Nat} {y y' : Int32} (h : LV σ t n sr cp y) (h' : LV σ t n sr cp y') : y = y' := by
  rcases h with ⟨a, b⟩ | ⟨b, b1, b2, b3⟩
  · rcases h' with ⟨a', _⟩ | ⟨b', b1', _⟩
    · rw [a, a']
    · exact absurd ⟨b', b1'⟩ b
  · rcases h' with ⟨_, n'⟩ | ⟨b', b1', b2', b3'⟩
    · exact absurd ⟨b, b1⟩ n'
    · have := b3 b' b1'
      have := b3' b b1
      rw [b2, b2', Nat.le_antisymm (b3 b' b1') (b3' b b1)]
def GA (h : xH) (σg τg σ τ : Nat → Nat → Int32) (v s : Nat) (q : Nat → Nat) (e1 e2 : Int64) (t n sr : Nat) : Prop :=
  Pg h σg τg v s q e1 e2 ∧ Pq σg τg v (chW σ v t (nI sr)).1 (chW σ v t (nI sr)).2 (owW σ v) (npW σ v n (nI sr)) (dsW σ v n (nI sr)) ∧ τg 55 1 = nI sr ∧ (∀ d, d < 4 → LSd σg (chW σ v t (nI sr)).1 (okP (σ (v + 2)) (owW σ v) (npW σ v n (nI sr)) (chW σ v t (nI sr)).2) (lnP (owW σ v) (npW σ v n (nI sr)) (chW σ v t (nI sr)).2) (dsW σ v n (nI sr)) d) ∧
  ((τg 55 7 = 1 ∧ ∀ d, d < 4 → ∃ L, SFd (chW σ v t (nI sr)).1 (okP (σ (v + 2)) (owW σ v) (npW σ v n (nI sr)) (chW σ v t (nI sr)).2) (lnP (owW σ v) (npW σ v n (nI sr)) (chW σ v t (nI sr)).2) (dsW σ v n (nI sr)) d L) ∨ (τg 55 7 = 0 ∧ ∃ d, d < 4 ∧ ¬ ∃ L, SFd (chW σ v t (nI sr)).1 (okP (σ (v + 2)) (owW σ v) (npW σ v n (nI sr)) (chW σ v t (nI sr)).2) (lnP (owW σ v) (npW σ v n (nI sr)) (chW σ v t (nI sr)).2) (dsW σ v n (nI sr)) d L)) ∧
  (∀ b, b < 56 ∨ b = 61 ∨ 65 < b → σg b = σ b) ∧ (∀ a k, a ≠ 55 → τg a k = τ a k)
section LE
variable {h : xH} {σ τ : Nat → Nat → Int32} {v s : Nat} {q : Nat → Nat} {e1 e2 : Int64} {p t n sr cp : Nat}
theorem best_ex (H : Hp h σ τ v s q e1 e2) (W : VR σ τ p t n) (hs : sr ≤ 2) (hcp : cp ≤ 9) : (¬ ∃ a, VA t (okR (σ 82) (σ 80) (nI sr) (owR σ) (npR σ n (nI sr))) (dd (σ 83) (odR σ n (nI sr) 4).2) (odR σ n (nI sr) 4).1 a) ∨ ∃ b, VA t (okR (σ 82) (σ 80) (nI sr) (owR σ) (npR σ n (nI sr))) (dd (σ 83) (odR σ n (nI sr) 4).2) (odR σ n (nI sr) 4).1 b ∧ ∀ a', VA t (okR (σ 82) (σ 80) (nI sr) (owR σ) (npR σ n (nI sr))) (dd (σ 83) (odR σ n (nI sr) 4).2) (odR σ n (nI sr) 4).1 a' → coC (prP (grR σ) (fun k => k) sr cp) (lnP (owR σ) (npR σ n (nI sr)) (fun k => k)) b (odR σ n (nI sr) 4).1 ≤ coC (prP (grR σ) (fun k => k) sr cp) (lnP (owR σ) (npR σ n (nI sr)) (fun k => k)) a' (odR σ n (nI sr) 4).1 ∧ (coC (prP (grR σ) (fun k => k) sr cp) (lnP (owR σ) (npR σ n (nI sr)) (fun k => k)) a' (odR σ n (nI sr) 4).1 = coC (prP (grR σ) (fun k => k) sr cp) (lnP (owR σ) (npR σ n (nI sr)) (fun k => k)) b (odR σ n (nI sr) 4).1 → ¬ lxl a' b 0 (odR σ n (nI sr) 4).1) := by
  obtain ⟨_, _, _, _, _, _, _, _, P⟩ := cM_layLeast H W hs hcp
  rcases P with ⟨_, x⟩ | ⟨b, b1, _, _, b4⟩
  · exact Or.inl x
  · exact Or.inr ⟨b, b1, b4⟩
theorem GA_0 (H : Hp h σ τ v s q e1 e2) (W : VW σ τ v t n) : ∃ h' σ' τ', xC M_Planner_gather [.ref 55, .ref v, .int (nI sr)] h = some (none, h') ∧ GA h' σ' τ' σ τ v s q e1 e2 t n sr := by
  obtain ⟨h', σ', τ', c, g1, g2, g3, g4, g5, g6, g7⟩ := c_gather H W (nI sr)
  exact ⟨h', σ', τ', c, g1, g2, g3, g4, g5, fun b hb => g6 b (by omega), g7⟩
theorem GA_gr {h' : xH} {σg τg : Nat → Nat → Int32} (G : GA h' σg τg σ τ v s q e1 e2 t n sr) (R : rlV p t n v σ τ) : σg (v + 2) = σ (v + 2) ∧ grW σg v = grW σ v ∧ (∀ c, c < (chW σ v t (nI sr)).1 → ∃ g, g ≤ 9 ∧ σg (v + 5) ((chW σ v t (nI sr)).2 c) = nI g) := by
  obtain ⟨G1, _, _, _, _, g6, _⟩ := G
  have hv := G1.1.2.2.2.1.1
  refine ⟨g6 _ (by omega), ?_, fun c hc => ?_⟩
  · funext j
    unfold grW
    rw [g6 (v + 5) (by omega)]
  · have lt : (chW σ v t (nI sr)).2 c < t := (okK_new (Nat.zero_le _) t hc).1
    obtain ⟨⟨⟨vp, vt, vn⟩, p5, t6, n8⟩, ⟨vl, vc, vd, up, uu, un⟩, ⟨bl, bc⟩, ag1, ag2, ag3, bo, bn, ks, st⟩ := R
    obtain ⟨g, g9, e⟩ := (st _ lt).1
    exact ⟨g, g9, by rw [g6 (v + 5) (by omega), (ag2 _ lt).2.2.1]; exact e⟩
theorem GA_least {h' : xH} {σg τg : Nat → Nat → Int32} (G : GA h' σg τg σ τ v s q e1 e2 t n sr) (H : Hp h σ τ v s q e1 e2) (R : rlV p t n v σ τ) (Y : rlY σ) (hs : sr ≤ 2) (hcp : cp ≤ 9) : ∃ y h'' σ', xC M_Planner_leastCost [.ref 55, .int (nI cp)] h' = some (some (.int y), h'') ∧ GA h'' σ' τg σ τ v s q e1 e2 t n sr ∧ (∀ b, b ≠ 62 → b ≠ 63 → σ' b = σg b) ∧ LV σ t n sr cp y := by
  obtain ⟨k2, egr, hg⟩ := GA_gr G R
  obtain ⟨G1, G2, G3, G4, G5, G6, G7⟩ := G
  have hv := G1.1.2.2.2.1.1
  obtain ⟨y, h'', σ', c, P', fr, post⟩ := c_leastCost G1 G2 hs G3 hcp hg (by rw [k2]; exact G4) (by rw [k2]; exact G5) (by rw [G6 61 (by omega)]; exact Y)
  rw [k2, egr] at post
  have T := Tr_0 (sr := sr) (cp := cp) R
  refine ⟨y, h'', σ', c, ⟨P', Pq_cg G2 (fun b hb => fr b (by omega) (by omega)) ⟨rfl, rfl⟩, G3, fun d hd => LSd_cg (G4 d hd) (by rw [fr 60 (by omega) (by omega)]) (fun k _ => by rw [fr 59 (by omega) (by omega)]), G5, fun b hb => by rw [fr b (by omega) (by omega)]; exact G6 b hb, G7⟩, fr, ?_⟩
  rcases post with ⟨y9, no⟩ | ⟨⟨a, fa⟩, hb⟩
  · refine Or.inl ⟨y9, fun ⟨a', va⟩ => no ?_⟩
    obtain ⟨a, fa, _⟩ := Tr_2 T va
    exact ⟨a, fa⟩
  · rcases best_ex H (rlV_VR R) hs hcp with no | ⟨b', vb, bb⟩
    · exact absurd ⟨_, Tr_1 T fa⟩ no
    · obtain ⟨b, B, _, eb⟩ := Tr_Bst T vb bb
      exact Or.inr ⟨b', vb, by rw [hb b B, eb], fun a' ha => (bb a' ha).1⟩
/-- the reference's rows from another heap that agrees -/
theorem cM_leastV {h' : xH} {σg τg : Nat → Nat → Int32} (H : Hp h' σg τg v s q e1 e2) (R : rlV p t n v σ τ) (h1 : ∀ b, 80 ≤ b ∧ b ≤ 84 → σg b = σ b) (h2 : τg 75 14 = τ 75 14 ∧ τg 75 15 = τ 75 15) (hs : sr ≤ 2) (hcp : cp ≤ 9) : ∃ h'' σ' τ', xC M_Md_layLeast [.ref 75, .int (nI sr), .int (nI cp)] h' = some (none, h'') ∧ Hp h'' σ' τ' v s q e1 e2 ∧ (∀ b, b < 87 ∨ 90 < b → σ' b = σg b) ∧ (∀ a k, ¬ (a = 75 ∧ (k = 27 ∨ k = 31)) → τ' a k = τg a k) ∧ τ' 75 27 = nI (odR σ n (nI sr) 4).1 ∧ ((τ' 75 31 = -9 ∧ ¬ ∃ a, VA t (okR (σ 82) (σ 80) (nI sr) (owR σ) (npR σ n (nI sr))) (dd (σ 83) (odR σ n (nI sr) 4).2) (odR σ n (nI sr) 4).1 a) ∨ ∃ b, VA t (okR (σ 82) (σ 80) (nI sr) (owR σ) (npR σ n (nI sr))) (dd (σ 83) (odR σ n (nI sr) 4).2) (odR σ n (nI sr) 4).1 b ∧ τ' 75 31 = nI (coC (prP (grR σ) (fun k => k) sr cp) (lnP (owR σ) (npR σ n (nI sr)) (fun k => k)) b (odR σ n (nI sr) 4).1) ∧ (∀ k, k < (odR σ n (nI sr) 4).1 → σ' 89 k = nI (b k)) ∧ ∀ a', VA t (okR (σ 82) (σ 80) (nI sr) (owR σ) (npR σ n (nI sr))) (dd (σ 83) (odR σ n (nI sr) 4).2) (odR σ n (nI sr) 4).1 a' → coC (prP (grR σ) (fun k => k) sr cp) (lnP (owR σ) (npR σ n (nI sr)) (fun k => k)) b (odR σ n (nI sr) 4).1 ≤ coC (prP (grR σ) (fun k => k) sr cp) (lnP (owR σ) (npR σ n (nI sr)) (fun k => k)) a' (odR σ n (nI sr) 4).1 ∧ (coC (prP (grR σ) (fun k => k) sr cp) (lnP (owR σ) (npR σ n (nI sr)) (fun k => k)) a' (odR σ n (nI sr) 4).1 = coC (prP (grR σ) (fun k => k) sr cp) (lnP (owR σ) (npR σ n (nI sr)) (fun k => k)) b (odR σ n (nI sr) 4).1 → ¬ lxl a' b 0 (odR σ n (nI sr) 4).1)) := by
  have W : VR σg τg p t n := by
    have := rlV_VR R
    unfold VR at *
    rw [h1 80 (by omega), h1 81 (by omega), h1 83 (by omega), h1 84 (by omega), h2.1, h2.2]
    exact this
  have e1' : odR σg n (nI sr) = odR σ n (nI sr) := by unfold odR; rw [h1 83 (by omega)]
  have e2' : owR σg = owR σ := by funext j; unfold owR; rw [h1 81 (by omega)]
  have e3' : npR σg n (nI sr) = npR σ n (nI sr) := by funext i; unfold npR; rw [e1', h1 83 (by omega)]
  have e4' : grR σg = grR σ := by funext i; unfold grR; rw [h1 84 (by omega)]
  have := cM_layLeast H W hs hcp
  rw [e1', e2', e3', e4', h1 82 (by omega), h1 80 (by omega), h1 83 (by omega)] at this
  exact this
theorem LV_of {y : Int32} {σ' : Nat → Nat → Int32} (h : (y = -9 ∧ ¬ ∃ a, VA t (okR (σ 82) (σ 80) (nI sr) (owR σ) (npR σ n (nI sr))) (dd (σ 83) (odR σ n (nI sr) 4).2) (odR σ n (nI sr) 4).1 a) ∨ ∃ b, VA t (okR (σ 82) (σ 80) (nI sr) (owR σ) (npR σ n (nI sr))) (dd (σ 83) (odR σ n (nI sr) 4).2) (odR σ n (nI sr) 4).1 b ∧ y = nI (coC (prP (grR σ) (fun k => k) sr cp) (lnP (owR σ) (npR σ n (nI sr)) (fun k => k)) b (odR σ n (nI sr) 4).1) ∧ (∀ k, k < (odR σ n (nI sr) 4).1 → σ' 89 k = nI (b k)) ∧ ∀ a', VA t (okR (σ 82) (σ 80) (nI sr) (owR σ) (npR σ n (nI sr))) (dd (σ 83) (odR σ n (nI sr) 4).2) (odR σ n (nI sr) 4).1 a' → coC (prP (grR σ) (fun k => k) sr cp) (lnP (owR σ) (npR σ n (nI sr)) (fun k => k)) b (odR σ n (nI sr) 4).1 ≤ coC (prP (grR σ) (fun k => k) sr cp) (lnP (owR σ) (npR σ n (nI sr)) (fun k => k)) a' (odR σ n (nI sr) 4).1 ∧ (coC (prP (grR σ) (fun k => k) sr cp) (lnP (owR σ) (npR σ n (nI sr)) (fun k => k)) a' (odR σ n (nI sr) 4).1 = coC (prP (grR σ) (fun k => k) sr cp) (lnP (owR σ) (npR σ n (nI sr)) (fun k => k)) b (odR σ n (nI sr) 4).1 → ¬ lxl a' b 0 (odR σ n (nI sr) 4).1)) : LV σ t n sr cp y := by
  rcases h with x | ⟨b, b1, b2, _, b4⟩
  · exact Or.inl x
  · exact Or.inr ⟨b, b1, b2, fun a' ha => (b4 a' ha).1⟩
theorem Rel_fr {h' : xH} {σ' τ' : Nat → Nat → Int32} {e : Int64} {len A X z : Nat} (R : Rl h σ τ v s q e p t n len A X z) (H' : Hp h' σ' τ' v s q e e) (hs : ∀ b, b < 56 ∨ b = 61 ∨ (65 < b ∧ b < 87) ∨ 90 < b → σ' b = σ b) (ht : ∀ a k, ¬ (a = 55 ∨ (a = 75 ∧ (k = 27 ∨ k = 31))) → τ' a k = τ a k) : Rel h' := by
  obtain ⟨H, rv, rt, ra, rk, rs, ry⟩ := R
  have hv := H.2.2.2.1.1
  have hq := ra.2.1.1
  refine ⟨σ', τ', v, s, q, e, p, t, n, len, A, X, z, H', ?_, ?_, ?_, ?_, ?_, ?_⟩
  · exact rlV_cg rv (fun a ha => hs a (by omega)) (fun k _ => ht v k (by omega)) (fun k _ => ht 75 k (by omega))
  · exact rlT_cg rt ⟨hs 2 (by omega), hs 85 (by omega)⟩ ⟨ht 1 1 (by omega), ht 75 20 (by omega)⟩
  · exact rlA_cg ra ⟨hs 81 (by omega), hs 84 (by omega), hs 86 (by omega)⟩ ⟨ht 26 1 (by omega), ht 75 23 (by omega), ht 75 24 (by omega)⟩ (fun o ho => by funext k; exact ht o k (by omega))
  · exact rlK_cg rk (fun a ha => hs a (by omega)) (fun b k hb => ht b k (by omega))
  · exact rlS_cg rs (fun a ha => hs a (by omega)) ⟨ht 66 0 (by omega), ht 75 32 (by omega)⟩
  · exact rlY_cg ry (hs 61 (by omega))
theorem op_least (R : Rel h) (x : Int32) : Op h M_Sp_least M_Md_least [.int x] := by
  have R0 := R
  obtain ⟨σ, τ, v, s, q, e, p, t, n, len, A, X, z, H, rv, rt, ra, rk, rs, ry⟩ := R
  have hv := H.2.2.2.1.1
  have fh := H.2.2.2.1.2.1
  have f7 := hR H 1 8 7 55 rfl rfl
  have d1 := fun (g : xH) f => call_l (lv := 3) (c_inI (h := g) x (y := 0) (z := 2) (yl := 0) (zl := 2) rfl rfl) (Nat.le_of_ble_eq_true rfl) f
  by_cases z1 : 0 ≤ x ∧ x ≤ 2
  case neg =>
    simp only [if_neg z1] at d1
    refine ⟨.int (-2), h, h, ?_, by simp only [k_Md_least, e_Md_least_0, e_Md_least_1, e_Md_least_2, e_Md_least_3, e_Md_least_6, e_Md_least_9, e_Md_least_12, e_Md_least_14, m_get, m_put, m_ia, m_is, m_la, m_ls, fl_sf, fl_sa, fl_sl, fl_sq, ar_sf, ar_sa, ar_sl, ar_sq, lr_sf, lr_sa, lr_sl, lr_sq, qr_sf, qr_sa, qr_sl, qr_sq, sf_1, sf_2, sa_1, sa_2, sl_1, sl_2, Option.isSome_some, Option.map_some, Option.map_none, Option.toList_some, Option.toList_none, List.nil_append, List.cons_append, List.singleton_append, if_true, if_false, ↓reduceIte, and_self, and_true, true_and, and_false, false_and, not_true, not_false_iff, reduceCtorEq, Nat.reduceEqDiff, Nat.reduceAdd, Nat.reduceSub, Nat.reduceMul, Nat.reduceLT, Nat.reduceLeDiff, Nat.reduceBEq, eq_self, ne_eq, Nat.add_eq_zero_iff, Nat.add_left_cancel_iff, Nat.add_right_cancel_iff, Nat.left_eq_add, Nat.add_eq_left, Bool.true_or, Bool.or_true, Bool.or_self, or_self, or_true, true_or, or_false, false_or, decide_true, decide_false, i_10, i_01, d1], R0, Hp_1 H, Hp_75 H⟩
    by_cases y1 : x < 0
    · simp only [k_Sp_least, e_Sp_least_0, e_Sp_least_1, e_Sp_least_4, e_Sp_least_5, e_Sp_least_6, e_Sp_least_9, e_Sp_least_11, m_get, m_put, m_ia, m_is, m_la, m_ls, fl_sf, fl_sa, fl_sl, fl_sq, ar_sf, ar_sa, ar_sl, ar_sq, lr_sf, lr_sa, lr_sl, lr_sq, qr_sf, qr_sa, qr_sl, qr_sq, sf_1, sf_2, sa_1, sa_2, sl_1, sl_2, Option.isSome_some, Option.map_some, Option.map_none, Option.toList_some, Option.toList_none, List.nil_append, List.cons_append, List.singleton_append, if_true, if_false, ↓reduceIte, and_self, and_true, true_and, and_false, false_and, not_true, not_false_iff, reduceCtorEq, Nat.reduceEqDiff, Nat.reduceAdd, Nat.reduceSub, Nat.reduceMul, Nat.reduceLT, Nat.reduceLeDiff, Nat.reduceBEq, eq_self, ne_eq, Nat.add_eq_zero_iff, Nat.add_left_cancel_iff, Nat.add_right_cancel_iff, Nat.left_eq_add, Nat.add_eq_left, Bool.true_or, Bool.or_true, Bool.or_self, or_self, or_true, true_or, or_false, false_or, decide_true, decide_false, i_10, i_01, y1]
    · have y2 : ¬ x < (3 : Int32) := fun w => z1 ⟨Int32.not_lt.mp y1, by
        obtain ⟨i, hi, rfl⟩ := nI_of y1
        have := (nI_ltI (b := 3) hi (by omega)).mp w
        exact nI_le (b := 2) (by omega) (by omega)⟩
      simp only [k_Sp_least, e_Sp_least_0, e_Sp_least_1, e_Sp_least_4, e_Sp_least_5, e_Sp_least_6, e_Sp_least_9, e_Sp_least_11, m_get, m_put, m_ia, m_is, m_la, m_ls, fl_sf, fl_sa, fl_sl, fl_sq, ar_sf, ar_sa, ar_sl, ar_sq, lr_sf, lr_sa, lr_sl, lr_sq, qr_sf, qr_sa, qr_sl, qr_sq, sf_1, sf_2, sa_1, sa_2, sl_1, sl_2, Option.isSome_some, Option.map_some, Option.map_none, Option.toList_some, Option.toList_none, List.nil_append, List.cons_append, List.singleton_append, if_true, if_false, ↓reduceIte, and_self, and_true, true_and, and_false, false_and, not_true, not_false_iff, reduceCtorEq, Nat.reduceEqDiff, Nat.reduceAdd, Nat.reduceSub, Nat.reduceMul, Nat.reduceLT, Nat.reduceLeDiff, Nat.reduceBEq, eq_self, ne_eq, Nat.add_eq_zero_iff, Nat.add_left_cancel_iff, Nat.add_right_cancel_iff, Nat.left_eq_add, Nat.add_eq_left, Bool.true_or, Bool.or_true, Bool.or_self, or_self, or_true, true_or, or_false, false_or, decide_true, decide_false, i_10, i_01, y1, y2]
  simp only [if_pos z1] at d1
  obtain ⟨sr, hs, rfl⟩ := nI_of2 (M := 2) (n := 2) rfl (Int32.not_lt.mpr z1.1) z1.2
  have y1 : ¬ nI sr < 0 := Int32.not_lt.mpr z1.1
  have y2 : nI sr < (3 : Int32) := nI_lt (b := 3) (by omega) (by omega)
  obtain ⟨cp, cp1, cp9, ec⟩ := rv.2.2.1.2
  have evc := rv.2.1.2.1
  obtain ⟨h1, σ1, τ1, c1, G⟩ := GA_0 (sr := sr) H (rlV_VW rv)
  obtain ⟨y, h2, σ2, c2, G', _, ly⟩ := GA_least (cp := cp) G H rv ry hs cp9
  have c1' := call_v (lv := 13) c1 (by rw [show xmo M_Planner_gather = 4 from rfl]; obtain ⟨w, e⟩ := H.2.2.2.2.2.2.2.1.2.2.1; rw [e]; rfl) (by decide) (Nat.le_of_ble_eq_true rfl)
  have c2' := call_v (lv := 13) c2 (Pg_is G.1) (by decide) (Nat.le_of_ble_eq_true rfl)
  have gh1 := G.1.1.2.2.2.1.2.1
  have gf7 := hR G.1.1 1 8 7 55 rfl rfl
  have gv1 := (Hp_vil G.1.1 hv).1.2.1
  rw [G.2.2.2.2.2.2 v 1 (by omega), evc, ec] at gv1
  obtain ⟨P1, _, _, _, _, s2, t2⟩ := G'
  obtain ⟨h3, σ3, τ3, c3, H3, s3, t3, _, post⟩ := cM_leastV (sr := sr) (cp := cp) P1.1 rv (fun b hb => s2 b (by omega)) ⟨t2 75 14 (by omega), t2 75 15 (by omega)⟩ hs cp9
  have ey : y = τ3 75 31 := LV_u ly (LV_of post)
  have c3' := call_v (lv := 3) c3 (Hp_75 P1.1) (by decide) (Nat.le_of_ble_eq_true rfl)
  have f17 := hI P1.1 75 9 17 rfl rfl
  rw [t2 75 17 (by omega), ec] at f17
  have f31 := hI H3 75 9 31 rfl rfl
  rw [← ey] at f31
  refine ⟨.int y, h2, h3, ?_, ?_, Rel_fr ⟨H, rv, rt, ra, rk, rs, ry⟩ H3 (fun b hb => by rw [s3 b (by omega)]; exact s2 b (by omega)) (fun a k hk => by rw [t3 a k (by omega)]; exact t2 a k (by omega)), Hp_1 H, Hp_75 P1.1⟩
  · simp only [k_Sp_least, e_Sp_least_0, e_Sp_least_1, e_Sp_least_4, e_Sp_least_5, e_Sp_least_6, e_Sp_least_9, e_Sp_least_11, e_Sp_least_12, e_Sp_least_13, e_Sp_least_16, e_Sp_least_17, e_Sp_least_20, e_Sp_least_21, e_Sp_least_24, e_Sp_least_25, e_Sp_least_28, e_Sp_least_29, e_Sp_least_32, e_Sp_least_35, e_Sp_least_38, m_get, m_put, m_ia, m_is, m_la, m_ls, fl_sf, fl_sa, fl_sl, fl_sq, ar_sf, ar_sa, ar_sl, ar_sq, lr_sf, lr_sa, lr_sl, lr_sq, qr_sf, qr_sa, qr_sl, qr_sq, sf_1, sf_2, sa_1, sa_2, sl_1, sl_2, Option.isSome_some, Option.map_some, Option.map_none, Option.toList_some, Option.toList_none, List.nil_append, List.cons_append, List.singleton_append, if_true, if_false, ↓reduceIte, and_self, and_true, true_and, and_false, false_and, not_true, not_false_iff, reduceCtorEq, Nat.reduceEqDiff, Nat.reduceAdd, Nat.reduceSub, Nat.reduceMul, Nat.reduceLT, Nat.reduceLeDiff, Nat.reduceBEq, eq_self, ne_eq, Nat.add_eq_zero_iff, Nat.add_left_cancel_iff, Nat.add_right_cancel_iff, Nat.left_eq_add, Nat.add_eq_left, Bool.true_or, Bool.or_true, Bool.or_self, or_self, or_true, true_or, or_false, false_or, decide_true, decide_false, i_10, i_01, y1, y2, f7, fh, c1', gf7, gh1, gv1, c2']
  · simp only [k_Md_least, e_Md_least_0, e_Md_least_1, e_Md_least_2, e_Md_least_3, e_Md_least_6, e_Md_least_9, e_Md_least_12, e_Md_least_14, e_Md_least_15, e_Md_least_16, e_Md_least_17, e_Md_least_18, e_Md_least_21, e_Md_least_24, e_Md_least_25, e_Md_least_28, m_get, m_put, m_ia, m_is, m_la, m_ls, fl_sf, fl_sa, fl_sl, fl_sq, ar_sf, ar_sa, ar_sl, ar_sq, lr_sf, lr_sa, lr_sl, lr_sq, qr_sf, qr_sa, qr_sl, qr_sq, sf_1, sf_2, sa_1, sa_2, sl_1, sl_2, Option.isSome_some, Option.map_some, Option.map_none, Option.toList_some, Option.toList_none, List.nil_append, List.cons_append, List.singleton_append, if_true, if_false, ↓reduceIte, and_self, and_true, true_and, and_false, false_and, not_true, not_false_iff, reduceCtorEq, Nat.reduceEqDiff, Nat.reduceAdd, Nat.reduceSub, Nat.reduceMul, Nat.reduceLT, Nat.reduceLeDiff, Nat.reduceBEq, eq_self, ne_eq, Nat.add_eq_zero_iff, Nat.add_left_cancel_iff, Nat.add_right_cancel_iff, Nat.left_eq_add, Nat.add_eq_left, Bool.true_or, Bool.or_true, Bool.or_self, or_self, or_true, true_or, or_false, false_or, decide_true, decide_false, i_10, i_01, d1, f17, c3', f31]
end LE
