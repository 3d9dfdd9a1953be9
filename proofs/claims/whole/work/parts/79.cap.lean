/-! cap. -/
def FE (σ : Nat → Nat → Int32) (t n sr : Nat) : Prop := ∃ a, VA t (okR (σ 82) (σ 80) (nI sr) (owR σ) (npR σ n (nI sr))) (dd (σ 83) (odR σ n (nI sr) 4).2) (odR σ n (nI sr) 4).1 a
def pick (S : Nat → Int32) (mm : Int32) (lo : Nat) : Nat → Int32
  | 0 => -9
  | k + 1 => if mm < S (lo + k) then pick S mm lo k else nI (lo + k)
theorem LV_9 {σ : Nat → Nat → Int32} {t n sr cp : Nat} {y : Int32} (hs : sr ≤ 2) (hcp : cp ≤ 9) (m8 : (odR σ n (nI sr) 4).1 ≤ 8) (h : LV σ t n sr cp y) : (y = -9 ∧ ¬ FE σ t n sr) ∨ (¬ y = -9 ∧ FE σ t n sr) := by
  rcases h with x | ⟨b, b1, b2, _⟩
  · exact Or.inl x
  · refine Or.inr ⟨?_, b, b1⟩
    have := co_bd (ln := (lnP (owR σ) (npR σ n (nI sr)) (fun k => k))) (a := b) (prP_le (gr := grR σ) (ch := fun k => k) hs hcp) (odR σ n (nI sr) 4).1
    rw [b2]
    exact nm9 (by omega)
theorem ggr_b {f : Nat → Int32} : ∀ t, (∀ j, j < t → ∃ g, g ≤ 9 ∧ f j = nI g) → ∃ G, G ≤ 9 ∧ ggr f t = nI G
  | 0, _ => ⟨0, by omega, rfl⟩
  | t + 1, h => by
    obtain ⟨G, G9, e⟩ := ggr_b t (fun j hj => h j (by omega))
    obtain ⟨g, g9, eg⟩ := h t (by omega)
    rw [ggr, e, eg]
    by_cases w : nI G < nI g
    · exact ⟨g, g9, by rw [if_pos w]⟩
    · exact ⟨G, G9, by rw [if_neg w]⟩
section CA
variable {h : xH} {σ τ : Nat → Nat → Int32} {v s : Nat} {q : Nat → Nat} {e1 e2 : Int64} {p t n sr : Nat}
theorem GA_rb {h' : xH} {σ' τ' σg τg : Nat → Nat → Int32} (hv : v = 4 ∨ v = 15) (hs : ∀ b, b < 56 ∨ b = 61 ∨ 65 < b → σg b = σ b) (ht : ∀ a k, a ≠ 55 → τg a k = τ a k) (G : GA h' σ' τ' σg τg v s q e1 e2 t n sr) : GA h' σ' τ' σ τ v s q e1 e2 t n sr := by
  have a1 : chW σg v t (nI sr) = chW σ v t (nI sr) := by unfold chW; rw [hs (v + 4) (by omega)]
  have a2 : odW σg v n (nI sr) = odW σ v n (nI sr) := by unfold odW; rw [hs (v + 9) (by omega), hs (v + 10) (by omega)]
  have a3 : dsW σg v n (nI sr) = dsW σ v n (nI sr) := by funext d; unfold dsW; rw [a2]
  have a4 : owW σg v = owW σ v := by funext j; unfold owW; rw [hs (v + 3) (by omega)]
  have a5' : npW σg v n (nI sr) = npW σ v n (nI sr) := by funext i; unfold npW; rw [a2, hs (v + 8) (by omega)]
  obtain ⟨G1, G2, G3, G4, G5, G6, G7⟩ := G
  rw [a1, a3, a4, a5'] at G2
  rw [a1, a3, a4, a5', hs (v + 2) (by omega)] at G4 G5
  exact ⟨G1, G2, G3, G4, G5, fun b hb => by rw [G6 b hb]; exact hs b hb, fun a k ha => by rw [G7 a k ha]; exact ht a k ha⟩
theorem GA_1 (H : Hp h σ τ v s q e1 e2) (W : VW σ τ v t n) : ∃ h' σ' τ', xC M_Planner_gather [.ref 55, .ref v, .int (nI sr)] h = some (none, h') ∧ GA h' σ' τ' σ τ v s q e1 e2 t n sr ∧ σ' 65 = σ 65 := by
  obtain ⟨h', σ', τ', c, g1, g2, g3, g4, g5, g6, g7⟩ := c_gather H W (nI sr)
  exact ⟨h', σ', τ', c, ⟨g1, g2, g3, g4, g5, fun b hb => g6 b (by omega), g7⟩, g6 65 (by omega)⟩
theorem GA_sa {h' : xH} {σg τg : Nat → Nat → Int32} (G : GA h' σg τg σ τ v s q e1 e2 t n sr) (f : Nat → Int32) : GA (sa h' 65 0 f) (us σg 65 f) τg σ τ v s q e1 e2 t n sr := by
  obtain ⟨G1, G2, G3, G4, G5, G6, G7⟩ := G
  have hv := G1.1.2.2.2.1.1
  have e : ∀ b, b ≠ 65 → us σg 65 f b = σg b := fun b hb => if_neg hb
  exact ⟨Pg_sa (t := 0) (n := 10) G1 rfl rfl f, Pq_cg G2 (fun b hb => e b (by omega)) ⟨rfl, rfl⟩, G3, fun d hd => LSd_cg (G4 d hd) (by rw [e 60 (by omega)]) (fun k _ => by rw [e 59 (by omega)]), G5, fun b hb => by rw [e b (by omega)]; exact G6 b hb, G7⟩
theorem c_capPick {g : xH} {σg τg S' : Nat → Nat → Int32} {S : Nat → Int32} {lo : Nat} {mm : Int32} {l4 l5 : Option Value} (G : Hp g σg τg v s q e1 e2) (lo1 : 1 ≤ lo) (hS : ∀ c, lo ≤ c → c ≤ 9 → σg 65 c = S c) : ∀ k, lo + k ≤ 10 → xR none 13 M_Sp_cap 124 [some (.ref 1), some (.int mm), some (.int (nI lo)), some (.int (nI (lo + k) + (-1))), l4, l5] [] g = some (some (.int (pick S mm lo k)), g)
  | 0, hk => by
    have e : nI (lo + 0) + (-1) = nI (lo - 1) := by rw [show lo + 0 = lo - 1 + 1 by omega, nI_m]
    have w : nI (lo - 1) < nI lo := nI_lt (by omega) (by omega)
    rw [e]
    simp only [e_Sp_cap_124, e_Sp_cap_125, e_Sp_cap_126, e_Sp_cap_147, e_Sp_cap_149, Option.isSome_some, Option.map_some, Option.map_none, Option.toList_some, Option.toList_none, List.nil_append, List.cons_append, List.singleton_append, if_true, if_false, ↓reduceIte, and_self, and_true, true_and, and_false, false_and, not_true, not_false_iff, reduceCtorEq, Nat.reduceEqDiff, Nat.reduceAdd, Nat.reduceSub, Nat.reduceMul, Nat.reduceLT, Nat.reduceLeDiff, Nat.reduceBEq, eq_self, ne_eq, Nat.add_eq_zero_iff, Nat.add_left_cancel_iff, Nat.add_right_cancel_iff, Nat.left_eq_add, Nat.add_eq_left, Bool.true_or, Bool.or_true, Bool.or_self, or_self, or_true, true_or, or_false, false_or, decide_true, decide_false, i_10, i_01, w]
    rfl
  | k + 1, hk => by
    have ih := c_capPick (S' := S') (mm := mm) (l4 := l4) (l5 := l5) G lo1 hS k (by omega)
    have e : nI (lo + (k + 1)) + (-1) = nI (lo + k) := by rw [← Nat.add_assoc, nI_m]
    have w : ¬ nI (lo + k) < nI lo := nI_nlt (by omega) (by omega)
    have f8 := hR G 1 8 8 65 rfl rfl
    have r65 := hA G 65 0 10 rfl rfl
    have i1 := xin_nI (show lo + k < 10 by omega) (by decide)
    have c1 := nI_clamp (show lo + k < 2 ^ 31 by omega)
    have es := hS (lo + k) (by omega) (by omega)
    rw [e, e_Sp_cap_124, pick]
    by_cases u : mm < S (lo + k)
    · rw [if_pos u, ← ih]
      simp only [e_Sp_cap_125, e_Sp_cap_126, e_Sp_cap_129, e_Sp_cap_130, e_Sp_cap_133, e_Sp_cap_134, e_Sp_cap_135, e_Sp_cap_136, e_Sp_cap_139, e_Sp_cap_140, e_Sp_cap_141, e_Sp_cap_144, m_get, m_put, m_ia, m_is, m_la, m_ls, fl_sf, fl_sa, fl_sl, fl_sq, ar_sf, ar_sa, ar_sl, ar_sq, lr_sf, lr_sa, lr_sl, lr_sq, qr_sf, qr_sa, qr_sl, qr_sq, sf_1, sf_2, sa_1, sa_2, sl_1, sl_2, Option.isSome_some, Option.map_some, Option.map_none, Option.toList_some, Option.toList_none, List.nil_append, List.cons_append, List.singleton_append, if_true, if_false, ↓reduceIte, and_self, and_true, true_and, and_false, false_and, not_true, not_false_iff, reduceCtorEq, Nat.reduceEqDiff, Nat.reduceAdd, Nat.reduceSub, Nat.reduceMul, Nat.reduceLT, Nat.reduceLeDiff, Nat.reduceBEq, eq_self, ne_eq, Nat.add_eq_zero_iff, Nat.add_left_cancel_iff, Nat.add_right_cancel_iff, Nat.left_eq_add, Nat.add_eq_left, Bool.true_or, Bool.or_true, Bool.or_self, or_self, or_true, true_or, or_false, false_or, decide_true, decide_false, i_10, i_01, w, f8, r65, i1, c1, es, u]
    · rw [if_neg u]
      simp only [e_Sp_cap_125, e_Sp_cap_126, e_Sp_cap_129, e_Sp_cap_130, e_Sp_cap_133, e_Sp_cap_134, e_Sp_cap_135, e_Sp_cap_136, e_Sp_cap_139, e_Sp_cap_140, e_Sp_cap_141, e_Sp_cap_144, m_get, m_put, m_ia, m_is, m_la, m_ls, fl_sf, fl_sa, fl_sl, fl_sq, ar_sf, ar_sa, ar_sl, ar_sq, lr_sf, lr_sa, lr_sl, lr_sq, qr_sf, qr_sa, qr_sl, qr_sq, sf_1, sf_2, sa_1, sa_2, sl_1, sl_2, Option.isSome_some, Option.map_some, Option.map_none, Option.toList_some, Option.toList_none, List.nil_append, List.cons_append, List.singleton_append, if_true, if_false, ↓reduceIte, and_self, and_true, true_and, and_false, false_and, not_true, not_false_iff, reduceCtorEq, Nat.reduceEqDiff, Nat.reduceAdd, Nat.reduceSub, Nat.reduceMul, Nat.reduceLT, Nat.reduceLeDiff, Nat.reduceBEq, eq_self, ne_eq, Nat.add_eq_zero_iff, Nat.add_left_cancel_iff, Nat.add_right_cancel_iff, Nat.left_eq_add, Nat.add_eq_left, Bool.true_or, Bool.or_true, Bool.or_self, or_self, or_true, true_or, or_false, false_or, decide_true, decide_false, i_10, i_01, w, f8, r65, i1, c1, es, u]
theorem c_capS (H : Hp h σ τ v s q e1 e2) (R : rlV p t n v σ τ) (Y : rlY σ) {Yf : Nat → Nat → Int32} (hY : ∀ sr c, sr ≤ 2 → c ≤ 9 → LV σ t n sr c (Yf sr c)) {lo : Nat} (lo1 : 1 ≤ lo) (lo9 : lo ≤ 9) {mm : Int32} : ∀ s', s' ≤ 3 → ∀ g σg τg (l4 l5 : Option Value), Hp g σg τg v s q e1 e2 → ((∀ b, b < 56 ∨ b = 61 ∨ 65 < b → σg b = σ b) ∧ (∀ a k, a ≠ 55 → τg a k = τ a k)) → (∀ c, lo ≤ c → c ≤ 9 → σg 65 c = sm (fun s' => Yf s' c) s') → (∀ u, u < s' → FE σ t n u) → ∃ r h' σ' τ', xR none 13 M_Sp_cap 49 [some (.ref 1), some (.int mm), some (.int (nI lo)), some (.int (nI s')), l4, l5] [] g = some (some (.int r), h') ∧ Hp h' σ' τ' v s q e1 e2 ∧ (∀ b, b < 56 ∨ b = 61 ∨ 65 < b → σ' b = σ b) ∧ (∀ a k, a ≠ 55 → τ' a k = τ a k) ∧ ((r = -9 ∧ ∃ s', s' < 3 ∧ ¬ FE σ t n s') ∨ ((∀ s', s' < 3 → FE σ t n s') ∧ r = pick (fun c => sm (fun s' => Yf s' c) 3) mm lo (10 - lo))) := by
  have hv := H.2.2.2.1.1
  have m8 : ∀ sr, (odR σ n (nI sr) 4).1 ≤ 8 := fun sr => Nat.le_trans (okD_n (n := n) 4 nd_ex) R.1.2.2.2
  refine loop_dn (P := fun s' => ∀ g σg τg (l4 l5 : Option Value), Hp g σg τg v s q e1 e2 → ((∀ b, b < 56 ∨ b = 61 ∨ 65 < b → σg b = σ b) ∧ (∀ a k, a ≠ 55 → τg a k = τ a k)) → (∀ c, lo ≤ c → c ≤ 9 → σg 65 c = sm (fun s' => Yf s' c) s') → (∀ u, u < s' → FE σ t n u) → ∃ r h' σ' τ', xR none 13 M_Sp_cap 49 [some (.ref 1), some (.int mm), some (.int (nI lo)), some (.int (nI s')), l4, l5] [] g = some (some (.int r), h') ∧ Hp h' σ' τ' v s q e1 e2 ∧ (∀ b, b < 56 ∨ b = 61 ∨ 65 < b → σ' b = σ b) ∧ (∀ a k, a ≠ 55 → τ' a k = τ a k) ∧ ((r = -9 ∧ ∃ s', s' < 3 ∧ ¬ FE σ t n s') ∨ ((∀ s', s' < 3 → FE σ t n s') ∧ r = pick (fun c => sm (fun s' => Yf s' c) 3) mm lo (10 - lo)))) ?_ ?_
  · intro g σg τg l4 l5 G F c5 fe
    have z : (3 : Int32) ≤ nI 3 := Int32.le_refl _
    have := c_capPick (S' := σg) (mm := mm) (l4 := l4) (l5 := l5) G lo1 c5 (10 - lo) (by omega)
    rw [show nI (lo + (10 - lo)) + (-1) = 9 from by rw [show lo + (10 - lo) = 9 + 1 by omega, nI_m]; rfl] at this
    refine ⟨_, g, σg, τg, ?_, G, F.1, F.2, Or.inr ⟨fe, rfl⟩⟩
    rw [← this]
    simp only [e_Sp_cap_49, e_Sp_cap_50, e_Sp_cap_51, e_Sp_cap_121, e_Sp_cap_123, Option.isSome_some, Option.map_some, Option.map_none, Option.toList_some, Option.toList_none, List.nil_append, List.cons_append, List.singleton_append, if_true, if_false, ↓reduceIte, and_self, and_true, true_and, and_false, false_and, not_true, not_false_iff, reduceCtorEq, Nat.reduceEqDiff, Nat.reduceAdd, Nat.reduceSub, Nat.reduceMul, Nat.reduceLT, Nat.reduceLeDiff, Nat.reduceBEq, eq_self, ne_eq, Nat.add_eq_zero_iff, Nat.add_left_cancel_iff, Nat.add_right_cancel_iff, Nat.left_eq_add, Nat.add_eq_left, Bool.true_or, Bool.or_true, Bool.or_self, or_self, or_true, true_or, or_false, false_or, decide_true, decide_false, i_10, i_01, z]
  · intro s' hs' ih g0 σ0 τ0 l4 l5 G0 F0 c5 fe
    have W : VW σ0 τ0 v t n := by
      have := rlV_VW R
      unfold VW at *
      rw [F0.2 v 4 (by omega), F0.2 v 5 (by omega), F0.1 (v + 3) (by omega), F0.1 (v + 8) (by omega)]
      exact this
    obtain ⟨h1, σ1, τ1, c1, GA1, e65⟩ := GA_1 (sr := s') G0 W
    have GA1' := GA_rb hv F0.1 F0.2 GA1
    have f65 : ∀ c, lo ≤ c → c ≤ 9 → σ1 65 c = sm (fun s' => Yf s' c) s' := fun c x1 x2 => by rw [e65]; exact c5 c x1 x2
    have inner := loop_dn (t := 10) (P := fun c => lo ≤ c → ∀ g σg τg (l5 : Option Value), GA g σg τg σ τ v s q e1 e2 t n s' → (∀ c', lo ≤ c' → c' < c → σg 65 c' = sm (fun s' => Yf s' c') (s' + 1)) → (∀ c', c ≤ c' → c' ≤ 9 → σg 65 c' = sm (fun s' => Yf s' c') s') → (lo < c → FE σ t n s') → ∃ r h' σ' τ', xR none 13 M_Sp_cap 69 [some (.ref 1), some (.int mm), some (.int (nI lo)), some (.int (nI s')), some (.int (nI c)), l5] [] g = some (some (.int r), h') ∧ Hp h' σ' τ' v s q e1 e2 ∧ (∀ b, b < 56 ∨ b = 61 ∨ 65 < b → σ' b = σ b) ∧ (∀ a k, a ≠ 55 → τ' a k = τ a k) ∧ ((r = -9 ∧ ∃ s', s' < 3 ∧ ¬ FE σ t n s') ∨ ((∀ s', s' < 3 → FE σ t n s') ∧ r = pick (fun c => sm (fun s' => Yf s' c) 3) mm lo (10 - lo)))) ?_ ?_ lo (by omega) (Nat.le_refl _)
    · obtain ⟨r, h', σ', τ', c, rest⟩ := inner h1 σ1 τ1 l5 GA1' (fun c' x1 x2 => by omega) f65 (fun x => by omega)
      refine ⟨r, h', σ', τ', ?_, rest⟩
      have q1 : ¬ (3 : Int32) ≤ nI s' := nI_ge (b := 3) hs' (by omega)
      have c1' := call_v (lv := 13) c1 (by rw [show xmo M_Planner_gather = 4 from rfl]; obtain ⟨w, e⟩ := G0.2.2.2.2.2.2.2.1.2.2.1; rw [e]; rfl) (by decide) (Nat.le_of_ble_eq_true rfl)
      have fh := G0.2.2.2.1.2.1
      have f7 := hR G0 1 8 7 55 rfl rfl
      rw [e_Sp_cap_49]
      simp only [e_Sp_cap_50, e_Sp_cap_51, e_Sp_cap_54, e_Sp_cap_55, e_Sp_cap_58, e_Sp_cap_59, e_Sp_cap_62, e_Sp_cap_63, e_Sp_cap_66, e_Sp_cap_67, m_get, m_put, m_ia, m_is, m_la, m_ls, fl_sf, fl_sa, fl_sl, fl_sq, ar_sf, ar_sa, ar_sl, ar_sq, lr_sf, lr_sa, lr_sl, lr_sq, qr_sf, qr_sa, qr_sl, qr_sq, sf_1, sf_2, sa_1, sa_2, sl_1, sl_2, Option.isSome_some, Option.map_some, Option.map_none, Option.toList_some, Option.toList_none, List.nil_append, List.cons_append, List.singleton_append, if_true, if_false, ↓reduceIte, and_self, and_true, true_and, and_false, false_and, not_true, not_false_iff, reduceCtorEq, Nat.reduceEqDiff, Nat.reduceAdd, Nat.reduceSub, Nat.reduceMul, Nat.reduceLT, Nat.reduceLeDiff, Nat.reduceBEq, eq_self, ne_eq, Nat.add_eq_zero_iff, Nat.add_left_cancel_iff, Nat.add_right_cancel_iff, Nat.left_eq_add, Nat.add_eq_left, Bool.true_or, Bool.or_true, Bool.or_self, or_self, or_true, true_or, or_false, false_or, decide_true, decide_false, i_10, i_01, q1, f7, fh, c1']
      exact c
    · intro _ g σg τg l5 GA2 x1 x2 x3
      obtain ⟨r, h', σ', τ', c, rest⟩ := ih g σg τg (some (.int (nI 10))) l5 GA2.1.1 ⟨GA2.2.2.2.2.2.1, GA2.2.2.2.2.2.2⟩ (fun c y1 y2 => x1 c y1 (by omega)) (fun u hu => by
        by_cases w : u = s'
        · rw [w]; exact x3 (by omega)
        · exact fe u (by omega))
      refine ⟨r, h', σ', τ', ?_, rest⟩
      have z : (9 : Int32) < nI 10 := by decide
      rw [← nI_1] at c
      simp only [e_Sp_cap_69, e_Sp_cap_71, e_Sp_cap_73, e_Sp_cap_115, e_Sp_cap_118, Option.isSome_some, Option.map_some, Option.map_none, Option.toList_some, Option.toList_none, List.nil_append, List.cons_append, List.singleton_append, if_true, if_false, ↓reduceIte, and_self, and_true, true_and, and_false, false_and, not_true, not_false_iff, reduceCtorEq, Nat.reduceEqDiff, Nat.reduceAdd, Nat.reduceSub, Nat.reduceMul, Nat.reduceLT, Nat.reduceLeDiff, Nat.reduceBEq, eq_self, ne_eq, Nat.add_eq_zero_iff, Nat.add_left_cancel_iff, Nat.add_right_cancel_iff, Nat.left_eq_add, Nat.add_eq_left, Bool.true_or, Bool.or_true, Bool.or_self, or_self, or_true, true_or, or_false, false_or, decide_true, decide_false, i_10, i_01, z]
      exact c
    · intro c hc ihc hlo g σg τg l5 GA2 x1 x2 x3
      obtain ⟨y, h2, σ2, c2, GA3, fr, ly⟩ := GA_least (cp := c) GA2 H R Y (show s' ≤ 2 by omega) (show c ≤ 9 by omega)
      have ey : y = Yf s' c := LV_u ly (hY s' c (by omega) (by omega))
      have c2' := call_v (lv := 13) c2 (Pg_is GA2.1) (by decide) (Nat.le_of_ble_eq_true rfl)
      have f7 := hR GA2.1.1 1 8 7 55 rfl rfl
      have z : ¬ (9 : Int32) < nI c := nI_nlt (a := 9) (by omega) (by omega)
      rw [e_Sp_cap_69]
      rcases LV_9 (show s' ≤ 2 by omega) (show c ≤ 9 by omega) (m8 s') ly with ⟨y9, nf⟩ | ⟨y9, yf⟩
      · refine ⟨-9, h2, σ2, τg, ?_, GA3.1.1, GA3.2.2.2.2.2.1, GA3.2.2.2.2.2.2, Or.inl ⟨rfl, s', hs', nf⟩⟩
        rw [y9] at c2'
        simp only [e_Sp_cap_71, e_Sp_cap_73, e_Sp_cap_76, e_Sp_cap_77, e_Sp_cap_80, e_Sp_cap_82, e_Sp_cap_85, e_Sp_cap_87, e_Sp_cap_89, e_Sp_cap_91, e_Sp_cap_94, e_Sp_cap_96, m_get, m_put, m_ia, m_is, m_la, m_ls, fl_sf, fl_sa, fl_sl, fl_sq, ar_sf, ar_sa, ar_sl, ar_sq, lr_sf, lr_sa, lr_sl, lr_sq, qr_sf, qr_sa, qr_sl, qr_sq, sf_1, sf_2, sa_1, sa_2, sl_1, sl_2, Option.isSome_some, Option.map_some, Option.map_none, Option.toList_some, Option.toList_none, List.nil_append, List.cons_append, List.singleton_append, if_true, if_false, ↓reduceIte, and_self, and_true, true_and, and_false, false_and, not_true, not_false_iff, reduceCtorEq, Nat.reduceEqDiff, Nat.reduceAdd, Nat.reduceSub, Nat.reduceMul, Nat.reduceLT, Nat.reduceLeDiff, Nat.reduceBEq, eq_self, ne_eq, Nat.add_eq_zero_iff, Nat.add_left_cancel_iff, Nat.add_right_cancel_iff, Nat.left_eq_add, Nat.add_eq_left, Bool.true_or, Bool.or_true, Bool.or_self, or_self, or_true, true_or, or_false, false_or, decide_true, decide_false, i_10, i_01, z, f7, c2']
      · have f8 := hR GA3.1.1 1 8 8 65 rfl rfl
        have r65 := hA GA3.1.1 65 0 10 rfl rfl
        have i1 := xin_nI (show c < 10 by omega) (by decide)
        have cc := nI_clamp (show c < 2 ^ 31 by omega)
        have e65 : σ2 65 = σg 65 := fr 65 (by omega) (by omega)
        have GA4 := GA_sa GA3 (upd (σ2 65) c (σ2 65 c + y))
        obtain ⟨r, h', σ', τ', cx, rest⟩ := ihc (by omega) _ _ _ (some (.int y)) GA4 (fun c' y1 y2 => by
          rw [us, if_pos rfl, upd]
          by_cases w : c' = c
          · rw [if_pos w, w, e65, x2 c (Nat.le_refl _) (by omega), ey]
            rfl
          · rw [if_neg w, e65]
            exact x1 c' y1 (by omega)) (fun c' y1 y2 => by
          rw [us, if_pos rfl, upd, if_neg (by omega), e65]
          exact x2 c' (by omega) y2) (fun _ => yf)
        refine ⟨r, h', σ', τ', ?_, rest⟩
        rw [← nI_1] at cx
        simp only [e_Sp_cap_71, e_Sp_cap_73, e_Sp_cap_76, e_Sp_cap_77, e_Sp_cap_80, e_Sp_cap_82, e_Sp_cap_85, e_Sp_cap_87, e_Sp_cap_89, e_Sp_cap_91, e_Sp_cap_94, e_Sp_cap_96, e_Sp_cap_97, e_Sp_cap_98, e_Sp_cap_101, e_Sp_cap_103, e_Sp_cap_104, e_Sp_cap_105, e_Sp_cap_107, e_Sp_cap_108, e_Sp_cap_109, e_Sp_cap_112, m_get, m_put, m_ia, m_is, m_la, m_ls, fl_sf, fl_sa, fl_sl, fl_sq, ar_sf, ar_sa, ar_sl, ar_sq, lr_sf, lr_sa, lr_sl, lr_sq, qr_sf, qr_sa, qr_sl, qr_sq, sf_1, sf_2, sa_1, sa_2, sl_1, sl_2, Option.isSome_some, Option.map_some, Option.map_none, Option.toList_some, Option.toList_none, List.nil_append, List.cons_append, List.singleton_append, if_true, if_false, ↓reduceIte, and_self, and_true, true_and, and_false, false_and, not_true, not_false_iff, reduceCtorEq, Nat.reduceEqDiff, Nat.reduceAdd, Nat.reduceSub, Nat.reduceMul, Nat.reduceLT, Nat.reduceLeDiff, Nat.reduceBEq, eq_self, ne_eq, Nat.add_eq_zero_iff, Nat.add_left_cancel_iff, Nat.add_right_cancel_iff, Nat.left_eq_add, Nat.add_eq_left, Bool.true_or, Bool.or_true, Bool.or_self, or_self, or_true, true_or, or_false, false_or, decide_true, decide_false, i_10, i_01, z, f7, c2', y9, f8, r65, i1, cc]
        exact cx
theorem cM_capIn (R : rlV p t n v σ τ) {Yf : Nat → Nat → Int32} (hY : ∀ sr c, sr ≤ 2 → c ≤ 9 → LV σ t n sr c (Yf sr c)) {lo c : Nat} (c9 : c ≤ 9) {mm : Int32} : ∀ s', s' ≤ 3 → ∀ g σg τg (my : Int32), Hp g σg τg v s q e1 e2 → ((∀ b, b < 56 ∨ b = 61 ∨ (65 < b ∧ b < 87) ∨ 90 < b → σg b = σ b) ∧ (∀ a k, ¬ (a = 55 ∨ (a = 75 ∧ (k = 27 ∨ k = 31))) → τg a k = τ a k)) → ((my = 1 ∧ ∀ u, u < s' → FE σ t n u) ∨ (my = 0 ∧ ∃ u, u < s' ∧ ¬ FE σ t n u)) → ∃ g' σ' τ' my', xR none 3 M_Md_cap 49 [some (.ref 75), some (.int mm), some (.int (nI lo)), some (.int (nI c)), some (.int (sm (fun s' => Yf s' c) s')), some (.int my), some (.int (nI s'))] [] g = xR none 3 M_Md_cap 98 [some (.ref 75), some (.int mm), some (.int (nI lo)), some (.int (nI c)), some (.int (sm (fun s' => Yf s' c) 3)), some (.int my'), some (.int (nI 3))] [] g' ∧ Hp g' σ' τ' v s q e1 e2 ∧ ((∀ b, b < 56 ∨ b = 61 ∨ (65 < b ∧ b < 87) ∨ 90 < b → σ' b = σ b) ∧ (∀ a k, ¬ (a = 55 ∨ (a = 75 ∧ (k = 27 ∨ k = 31))) → τ' a k = τ a k)) ∧ ((my' = 1 ∧ ∀ u, u < 3 → FE σ t n u) ∨ (my' = 0 ∧ ∃ u, u < 3 ∧ ¬ FE σ t n u)) := by
  have m8 : ∀ sr, (odR σ n (nI sr) 4).1 ≤ 8 := fun sr => Nat.le_trans (okD_n (n := n) 4 nd_ex) R.1.2.2.2
  refine loop_dn (P := fun s' => ∀ g σg τg (my : Int32), Hp g σg τg v s q e1 e2 → ((∀ b, b < 56 ∨ b = 61 ∨ (65 < b ∧ b < 87) ∨ 90 < b → σg b = σ b) ∧ (∀ a k, ¬ (a = 55 ∨ (a = 75 ∧ (k = 27 ∨ k = 31))) → τg a k = τ a k)) → ((my = 1 ∧ ∀ u, u < s' → FE σ t n u) ∨ (my = 0 ∧ ∃ u, u < s' ∧ ¬ FE σ t n u)) → ∃ g' σ' τ' my', xR none 3 M_Md_cap 49 [some (.ref 75), some (.int mm), some (.int (nI lo)), some (.int (nI c)), some (.int (sm (fun s' => Yf s' c) s')), some (.int my), some (.int (nI s'))] [] g = xR none 3 M_Md_cap 98 [some (.ref 75), some (.int mm), some (.int (nI lo)), some (.int (nI c)), some (.int (sm (fun s' => Yf s' c) 3)), some (.int my'), some (.int (nI 3))] [] g' ∧ Hp g' σ' τ' v s q e1 e2 ∧ ((∀ b, b < 56 ∨ b = 61 ∨ (65 < b ∧ b < 87) ∨ 90 < b → σ' b = σ b) ∧ (∀ a k, ¬ (a = 55 ∨ (a = 75 ∧ (k = 27 ∨ k = 31))) → τ' a k = τ a k)) ∧ ((my' = 1 ∧ ∀ u, u < 3 → FE σ t n u) ∨ (my' = 0 ∧ ∃ u, u < 3 ∧ ¬ FE σ t n u))) ?_ ?_
  · intro g σg τg my G F hm
    refine ⟨g, σg, τg, my, ?_, G, F, hm⟩
    have z : (3 : Int32) ≤ nI 3 := Int32.le_refl _
    simp only [e_Md_cap_49, e_Md_cap_51, e_Md_cap_52, Option.isSome_some, Option.map_some, Option.map_none, Option.toList_some, Option.toList_none, List.nil_append, List.cons_append, List.singleton_append, if_true, if_false, ↓reduceIte, and_self, and_true, true_and, and_false, false_and, not_true, not_false_iff, reduceCtorEq, Nat.reduceEqDiff, Nat.reduceAdd, Nat.reduceSub, Nat.reduceMul, Nat.reduceLT, Nat.reduceLeDiff, Nat.reduceBEq, eq_self, ne_eq, Nat.add_eq_zero_iff, Nat.add_left_cancel_iff, Nat.add_right_cancel_iff, Nat.left_eq_add, Nat.add_eq_left, Bool.true_or, Bool.or_true, Bool.or_self, or_self, or_true, true_or, or_false, false_or, decide_true, decide_false, i_10, i_01, z]
  · intro s' hs' ih g σg τg my G F hm
    obtain ⟨g1, σ1, τ1, c1, H1, s1, t1, _, post⟩ := cM_leastV (sr := s') (cp := c) G R (fun b hb => F.1 b (by omega)) ⟨F.2 75 14 (by omega), F.2 75 15 (by omega)⟩ (show s' ≤ 2 by omega) c9
    have ly := LV_of post
    have ey : τ1 75 31 = Yf s' c := LV_u ly (hY s' c (by omega) c9)
    have c1' := call_v (lv := 3) c1 (Hp_75 G) (by decide) (Nat.le_of_ble_eq_true rfl)
    have f31 := hI H1 75 9 31 rfl rfl
    have q1 : ¬ (3 : Int32) ≤ nI s' := nI_ge (b := 3) hs' (by omega)
    have F1 : (∀ b, b < 56 ∨ b = 61 ∨ (65 < b ∧ b < 87) ∨ 90 < b → σ1 b = σ b) ∧ (∀ a k, ¬ (a = 55 ∨ (a = 75 ∧ (k = 27 ∨ k = 31))) → τ1 a k = τ a k) := ⟨fun b hb => by rw [s1 b (by omega)]; exact F.1 b hb, fun a k hk => by rw [t1 a k (by omega)]; exact F.2 a k hk⟩
    have run := fun my1 hm1 => ih g1 σ1 τ1 my1 H1 F1 hm1
    have go : ∀ my1 : Int32, ((my1 = 1 ∧ ∀ u, u < s' + 1 → FE σ t n u) ∨ (my1 = 0 ∧ ∃ u, u < s' + 1 ∧ ¬ FE σ t n u)) → xR none 3 M_Md_cap 49 [some (.ref 75), some (.int mm), some (.int (nI lo)), some (.int (nI c)), some (.int (sm (fun s' => Yf s' c) s')), some (.int my), some (.int (nI s'))] [] g = xR none 3 M_Md_cap 49 [some (.ref 75), some (.int mm), some (.int (nI lo)), some (.int (nI c)), some (.int (sm (fun s' => Yf s' c) (s' + 1))), some (.int my1), some (.int (nI (s' + 1)))] [] g1 → ∃ g' σ' τ' my', xR none 3 M_Md_cap 49 [some (.ref 75), some (.int mm), some (.int (nI lo)), some (.int (nI c)), some (.int (sm (fun s' => Yf s' c) s')), some (.int my), some (.int (nI s'))] [] g = xR none 3 M_Md_cap 98 [some (.ref 75), some (.int mm), some (.int (nI lo)), some (.int (nI c)), some (.int (sm (fun s' => Yf s' c) 3)), some (.int my'), some (.int (nI 3))] [] g' ∧ Hp g' σ' τ' v s q e1 e2 ∧ ((∀ b, b < 56 ∨ b = 61 ∨ (65 < b ∧ b < 87) ∨ 90 < b → σ' b = σ b) ∧ (∀ a k, ¬ (a = 55 ∨ (a = 75 ∧ (k = 27 ∨ k = 31))) → τ' a k = τ a k)) ∧ ((my' = 1 ∧ ∀ u, u < 3 → FE σ t n u) ∨ (my' = 0 ∧ ∃ u, u < 3 ∧ ¬ FE σ t n u)) := by
      intro my1 hm1 e
      obtain ⟨g', σ', τ', my', cx, rest⟩ := run my1 hm1
      exact ⟨g', σ', τ', my', e.trans cx, rest⟩
    rcases hm with ⟨m1, fe⟩ | ⟨m0, u, hu, nf⟩
    · subst m1
      rcases LV_9 (show s' ≤ 2 by omega) c9 (m8 s') ly with ⟨y9, nf⟩ | ⟨y9, yf⟩
      · refine go 0 (Or.inr ⟨rfl, s', by omega, nf⟩) ?_
        rw [← nI_1, sm, ← ey]
        rw [e_Md_cap_49]
        simp only [e_Md_cap_51, e_Md_cap_52, e_Md_cap_55, e_Md_cap_56, e_Md_cap_58, e_Md_cap_59, e_Md_cap_62, e_Md_cap_64, e_Md_cap_67, e_Md_cap_68, e_Md_cap_71, e_Md_cap_73, e_Md_cap_76, e_Md_cap_77, e_Md_cap_80, e_Md_cap_81, e_Md_cap_83, e_Md_cap_85, e_Md_cap_86, e_Md_cap_89, e_Md_cap_90, e_Md_cap_92, e_Md_cap_95, m_get, m_put, m_ia, m_is, m_la, m_ls, fl_sf, fl_sa, fl_sl, fl_sq, ar_sf, ar_sa, ar_sl, ar_sq, lr_sf, lr_sa, lr_sl, lr_sq, qr_sf, qr_sa, qr_sl, qr_sq, sf_1, sf_2, sa_1, sa_2, sl_1, sl_2, Option.isSome_some, Option.map_some, Option.map_none, Option.toList_some, Option.toList_none, List.nil_append, List.cons_append, List.singleton_append, if_true, if_false, ↓reduceIte, and_self, and_true, true_and, and_false, false_and, not_true, not_false_iff, reduceCtorEq, Nat.reduceEqDiff, Nat.reduceAdd, Nat.reduceSub, Nat.reduceMul, Nat.reduceLT, Nat.reduceLeDiff, Nat.reduceBEq, eq_self, ne_eq, Nat.add_eq_zero_iff, Nat.add_left_cancel_iff, Nat.add_right_cancel_iff, Nat.left_eq_add, Nat.add_eq_left, Bool.true_or, Bool.or_true, Bool.or_self, or_self, or_true, true_or, or_false, false_or, decide_true, decide_false, i_10, i_01, q1, c1', f31, y9]
      · refine go 1 (Or.inl ⟨rfl, fun u hu => ?_⟩) ?_
        · by_cases w : u = s'
          · rw [w]; exact yf
          · exact fe u (by omega)
        · rw [← nI_1, sm, ← ey]
          rw [e_Md_cap_49]
          simp only [e_Md_cap_51, e_Md_cap_52, e_Md_cap_55, e_Md_cap_56, e_Md_cap_58, e_Md_cap_59, e_Md_cap_62, e_Md_cap_64, e_Md_cap_67, e_Md_cap_68, e_Md_cap_71, e_Md_cap_73, e_Md_cap_76, e_Md_cap_77, e_Md_cap_80, e_Md_cap_81, e_Md_cap_83, e_Md_cap_85, e_Md_cap_86, e_Md_cap_89, e_Md_cap_90, e_Md_cap_92, e_Md_cap_95, m_get, m_put, m_ia, m_is, m_la, m_ls, fl_sf, fl_sa, fl_sl, fl_sq, ar_sf, ar_sa, ar_sl, ar_sq, lr_sf, lr_sa, lr_sl, lr_sq, qr_sf, qr_sa, qr_sl, qr_sq, sf_1, sf_2, sa_1, sa_2, sl_1, sl_2, Option.isSome_some, Option.map_some, Option.map_none, Option.toList_some, Option.toList_none, List.nil_append, List.cons_append, List.singleton_append, if_true, if_false, ↓reduceIte, and_self, and_true, true_and, and_false, false_and, not_true, not_false_iff, reduceCtorEq, Nat.reduceEqDiff, Nat.reduceAdd, Nat.reduceSub, Nat.reduceMul, Nat.reduceLT, Nat.reduceLeDiff, Nat.reduceBEq, eq_self, ne_eq, Nat.add_eq_zero_iff, Nat.add_left_cancel_iff, Nat.add_right_cancel_iff, Nat.left_eq_add, Nat.add_eq_left, Bool.true_or, Bool.or_true, Bool.or_self, or_self, or_true, true_or, or_false, false_or, decide_true, decide_false, i_10, i_01, q1, c1', f31, y9]
    · subst m0
      refine go 0 (Or.inr ⟨rfl, u, by omega, nf⟩) ?_
      rw [← nI_1, sm, ← ey]
      rw [e_Md_cap_49]
      simp only [e_Md_cap_51, e_Md_cap_52, e_Md_cap_55, e_Md_cap_56, e_Md_cap_58, e_Md_cap_59, e_Md_cap_62, e_Md_cap_64, e_Md_cap_67, e_Md_cap_68, e_Md_cap_71, e_Md_cap_73, e_Md_cap_76, e_Md_cap_77, e_Md_cap_80, e_Md_cap_81, e_Md_cap_83, e_Md_cap_85, e_Md_cap_86, e_Md_cap_89, e_Md_cap_90, e_Md_cap_92, e_Md_cap_95, m_get, m_put, m_ia, m_is, m_la, m_ls, fl_sf, fl_sa, fl_sl, fl_sq, ar_sf, ar_sa, ar_sl, ar_sq, lr_sf, lr_sa, lr_sl, lr_sq, qr_sf, qr_sa, qr_sl, qr_sq, sf_1, sf_2, sa_1, sa_2, sl_1, sl_2, Option.isSome_some, Option.map_some, Option.map_none, Option.toList_some, Option.toList_none, List.nil_append, List.cons_append, List.singleton_append, if_true, if_false, ↓reduceIte, and_self, and_true, true_and, and_false, false_and, not_true, not_false_iff, reduceCtorEq, Nat.reduceEqDiff, Nat.reduceAdd, Nat.reduceSub, Nat.reduceMul, Nat.reduceLT, Nat.reduceLeDiff, Nat.reduceBEq, eq_self, ne_eq, Nat.add_eq_zero_iff, Nat.add_left_cancel_iff, Nat.add_right_cancel_iff, Nat.left_eq_add, Nat.add_eq_left, Bool.true_or, Bool.or_true, Bool.or_self, or_self, or_true, true_or, or_false, false_or, decide_true, decide_false, i_10, i_01, q1, c1', f31]
theorem cM_capOut (R : rlV p t n v σ τ) {Yf : Nat → Nat → Int32} (hY : ∀ sr c, sr ≤ 2 → c ≤ 9 → LV σ t n sr c (Yf sr c)) {lo : Nat} (lo1 : 1 ≤ lo) {mm : Int32} : ∀ k, lo + k ≤ 10 → ∀ g σg τg (l4 l5 l6 : Option Value), Hp g σg τg v s q e1 e2 → ((∀ b, b < 56 ∨ b = 61 ∨ (65 < b ∧ b < 87) ∨ 90 < b → σg b = σ b) ∧ (∀ a k, ¬ (a = 55 ∨ (a = 75 ∧ (k = 27 ∨ k = 31))) → τg a k = τ a k)) → ∃ r g' σ' τ', xR none 3 M_Md_cap 35 [some (.ref 75), some (.int mm), some (.int (nI lo)), some (.int (nI (lo + k) + (-1))), l4, l5, l6] [] g = some (some (.int r), g') ∧ Hp g' σ' τ' v s q e1 e2 ∧ ((∀ b, b < 56 ∨ b = 61 ∨ (65 < b ∧ b < 87) ∨ 90 < b → σ' b = σ b) ∧ (∀ a k, ¬ (a = 55 ∨ (a = 75 ∧ (k = 27 ∨ k = 31))) → τ' a k = τ a k)) ∧ ((r = -9 ∧ ∃ s', s' < 3 ∧ ¬ FE σ t n s') ∨ ((∀ s', s' < 3 → FE σ t n s') ∧ r = pick (fun c => sm (fun s' => Yf s' c) 3) mm lo k))
  | 0, hk, g, σg, τg, l4, l5, l6, G, F => by
    have e : nI (lo + 0) + (-1) = nI (lo - 1) := by rw [show lo + 0 = lo - 1 + 1 by omega, nI_m]
    have w : nI (lo - 1) < nI lo := nI_lt (by omega) (by omega)
    refine ⟨-9, g, σg, τg, ?_, G, F, ?_⟩
    · rw [e]
      simp only [e_Md_cap_35, e_Md_cap_36, e_Md_cap_37, e_Md_cap_117, e_Md_cap_119, Option.isSome_some, Option.map_some, Option.map_none, Option.toList_some, Option.toList_none, List.nil_append, List.cons_append, List.singleton_append, if_true, if_false, ↓reduceIte, and_self, and_true, true_and, and_false, false_and, not_true, not_false_iff, reduceCtorEq, Nat.reduceEqDiff, Nat.reduceAdd, Nat.reduceSub, Nat.reduceMul, Nat.reduceLT, Nat.reduceLeDiff, Nat.reduceBEq, eq_self, ne_eq, Nat.add_eq_zero_iff, Nat.add_left_cancel_iff, Nat.add_right_cancel_iff, Nat.left_eq_add, Nat.add_eq_left, Bool.true_or, Bool.or_true, Bool.or_self, or_self, or_true, true_or, or_false, false_or, decide_true, decide_false, i_10, i_01, w]
    · by_cases u : ∃ s', s' < 3 ∧ ¬ FE σ t n s'
      · exact Or.inl ⟨rfl, u⟩
      · refine Or.inr ⟨fun s' hs' => ?_, rfl⟩
        by_cases y : FE σ t n s'
        · exact y
        · exact absurd ⟨s', hs', y⟩ u
  | k + 1, hk, g, σg, τg, l4, l5, l6, G, F => by
    have e : nI (lo + (k + 1)) + (-1) = nI (lo + k) := by rw [← Nat.add_assoc, nI_m]
    have w : ¬ nI (lo + k) < nI lo := nI_nlt (by omega) (by omega)
    obtain ⟨g1, σ1, τ1, my, c1, H1, F1, hm⟩ := cM_capIn (lo := lo) (c := lo + k) (mm := mm) R hY (by omega) 0 (by omega) g σg τg 1 G F (Or.inl ⟨rfl, fun u hu => by omega⟩)
    obtain ⟨r, g', σ', τ', c2, H', F', post⟩ := cM_capOut R hY lo1 (mm := mm) k (by omega) g1 σ1 τ1 (some (.int (sm (fun s' => Yf s' (lo + k)) 3))) (some (.int my)) (some (.int (nI 3))) H1 F1
    have start : xR none 3 M_Md_cap 35 [some (.ref 75), some (.int mm), some (.int (nI lo)), some (.int (nI (lo + k))), l4, l5, l6] [] g = xR none 3 M_Md_cap 98 [some (.ref 75), some (.int mm), some (.int (nI lo)), some (.int (nI (lo + k))), some (.int (sm (fun s' => Yf s' (lo + k)) 3)), some (.int my), some (.int (nI 3))] [] g1 := by
      rw [← c1, show sm (fun s' => Yf s' (lo + k)) 0 = 0 from rfl, nI_0]
      rw [e_Md_cap_35]
      simp only [e_Md_cap_36, e_Md_cap_37, e_Md_cap_40, e_Md_cap_41, e_Md_cap_43, e_Md_cap_44, e_Md_cap_46, e_Md_cap_47, Option.isSome_some, Option.map_some, Option.map_none, Option.toList_some, Option.toList_none, List.nil_append, List.cons_append, List.singleton_append, if_true, if_false, ↓reduceIte, and_self, and_true, true_and, and_false, false_and, not_true, not_false_iff, reduceCtorEq, Nat.reduceEqDiff, Nat.reduceAdd, Nat.reduceSub, Nat.reduceMul, Nat.reduceLT, Nat.reduceLeDiff, Nat.reduceBEq, eq_self, ne_eq, Nat.add_eq_zero_iff, Nat.add_left_cancel_iff, Nat.add_right_cancel_iff, Nat.left_eq_add, Nat.add_eq_left, Bool.true_or, Bool.or_true, Bool.or_self, or_self, or_true, true_or, or_false, false_or, decide_true, decide_false, i_10, i_01, w]
    rw [e, start]
    rcases hm with ⟨m1, fe⟩ | ⟨m0, nf⟩
    · subst m1
      have pr : r = pick (fun c => sm (fun s' => Yf s' c) 3) mm lo k := by
        rcases post with ⟨_, s', hs', nf⟩ | ⟨_, x⟩
        · exact absurd (fe s' hs') nf
        · exact x
      by_cases u : mm < sm (fun s' => Yf s' (lo + k)) 3
      · refine ⟨r, g', σ', τ', ?_, H', F', Or.inr ⟨fe, by rw [pick, if_pos u]; exact pr⟩⟩
        rw [← c2]
        simp only [e_Md_cap_98, e_Md_cap_100, e_Md_cap_103, e_Md_cap_105, e_Md_cap_106, e_Md_cap_109, e_Md_cap_110, e_Md_cap_111, e_Md_cap_114, Option.isSome_some, Option.map_some, Option.map_none, Option.toList_some, Option.toList_none, List.nil_append, List.cons_append, List.singleton_append, if_true, if_false, ↓reduceIte, and_self, and_true, true_and, and_false, false_and, not_true, not_false_iff, reduceCtorEq, Nat.reduceEqDiff, Nat.reduceAdd, Nat.reduceSub, Nat.reduceMul, Nat.reduceLT, Nat.reduceLeDiff, Nat.reduceBEq, eq_self, ne_eq, Nat.add_eq_zero_iff, Nat.add_left_cancel_iff, Nat.add_right_cancel_iff, Nat.left_eq_add, Nat.add_eq_left, Bool.true_or, Bool.or_true, Bool.or_self, or_self, or_true, true_or, or_false, false_or, decide_true, decide_false, i_10, i_01, u]
      · refine ⟨nI (lo + k), g1, σ1, τ1, ?_, H1, F1, Or.inr ⟨fe, by rw [pick, if_neg u]⟩⟩
        simp only [e_Md_cap_98, e_Md_cap_100, e_Md_cap_103, e_Md_cap_105, e_Md_cap_106, e_Md_cap_109, e_Md_cap_110, e_Md_cap_111, e_Md_cap_114, Option.isSome_some, Option.map_some, Option.map_none, Option.toList_some, Option.toList_none, List.nil_append, List.cons_append, List.singleton_append, if_true, if_false, ↓reduceIte, and_self, and_true, true_and, and_false, false_and, not_true, not_false_iff, reduceCtorEq, Nat.reduceEqDiff, Nat.reduceAdd, Nat.reduceSub, Nat.reduceMul, Nat.reduceLT, Nat.reduceLeDiff, Nat.reduceBEq, eq_self, ne_eq, Nat.add_eq_zero_iff, Nat.add_left_cancel_iff, Nat.add_right_cancel_iff, Nat.left_eq_add, Nat.add_eq_left, Bool.true_or, Bool.or_true, Bool.or_self, or_self, or_true, true_or, or_false, false_or, decide_true, decide_false, i_10, i_01, u]
    · subst m0
      have pr : r = -9 := by
        rcases post with ⟨x, _⟩ | ⟨fe, _⟩
        · exact x
        · obtain ⟨s', hs', y⟩ := nf
          exact absurd (fe s' hs') y
      refine ⟨r, g', σ', τ', ?_, H', F', Or.inl ⟨pr, nf⟩⟩
      rw [← c2]
      simp only [e_Md_cap_98, e_Md_cap_100, e_Md_cap_103, e_Md_cap_105, e_Md_cap_106, e_Md_cap_109, e_Md_cap_110, e_Md_cap_111, e_Md_cap_114, Option.isSome_some, Option.map_some, Option.map_none, Option.toList_some, Option.toList_none, List.nil_append, List.cons_append, List.singleton_append, if_true, if_false, ↓reduceIte, and_self, and_true, true_and, and_false, false_and, not_true, not_false_iff, reduceCtorEq, Nat.reduceEqDiff, Nat.reduceAdd, Nat.reduceSub, Nat.reduceMul, Nat.reduceLT, Nat.reduceLeDiff, Nat.reduceBEq, eq_self, ne_eq, Nat.add_eq_zero_iff, Nat.add_left_cancel_iff, Nat.add_right_cancel_iff, Nat.left_eq_add, Nat.add_eq_left, Bool.true_or, Bool.or_true, Bool.or_self, or_self, or_true, true_or, or_false, false_or, decide_true, decide_false, i_10, i_01]
theorem op_cap (R : Rel h) (x : Int32) : Op h M_Sp_cap M_Md_cap [.int x] := by
  have R0 := R
  obtain ⟨σ, τ, v, s, q, e, p, t, n, len, A, X, z, H, rv, rt, ra, rk, rs, ry⟩ := R
  have hv := H.2.2.2.1.1
  have fh := H.2.2.2.1.2.1
  have d1 := fun (g : xH) f => call_l (lv := 3) (c_inI (h := g) x (y := 0) (z := 9999) (yl := 0) (zl := 9999) rfl rfl) (Nat.le_of_ble_eq_true rfl) f
  by_cases z1 : 0 ≤ x ∧ x ≤ 9999
  case neg =>
    simp only [if_neg z1] at d1
    refine ⟨.int (-2), h, h, ?_, by simp only [k_Md_cap, e_Md_cap_0, e_Md_cap_1, e_Md_cap_2, e_Md_cap_3, e_Md_cap_6, e_Md_cap_9, e_Md_cap_12, e_Md_cap_14, m_get, m_put, m_ia, m_is, m_la, m_ls, fl_sf, fl_sa, fl_sl, fl_sq, ar_sf, ar_sa, ar_sl, ar_sq, lr_sf, lr_sa, lr_sl, lr_sq, qr_sf, qr_sa, qr_sl, qr_sq, sf_1, sf_2, sa_1, sa_2, sl_1, sl_2, Option.isSome_some, Option.map_some, Option.map_none, Option.toList_some, Option.toList_none, List.nil_append, List.cons_append, List.singleton_append, if_true, if_false, ↓reduceIte, and_self, and_true, true_and, and_false, false_and, not_true, not_false_iff, reduceCtorEq, Nat.reduceEqDiff, Nat.reduceAdd, Nat.reduceSub, Nat.reduceMul, Nat.reduceLT, Nat.reduceLeDiff, Nat.reduceBEq, eq_self, ne_eq, Nat.add_eq_zero_iff, Nat.add_left_cancel_iff, Nat.add_right_cancel_iff, Nat.left_eq_add, Nat.add_eq_left, Bool.true_or, Bool.or_true, Bool.or_self, or_self, or_true, true_or, or_false, false_or, decide_true, decide_false, i_10, i_01, d1], R0, Hp_1 H, Hp_75 H⟩
    by_cases y1 : x < 0
    · simp only [k_Sp_cap, e_Sp_cap_0, e_Sp_cap_1, e_Sp_cap_4, e_Sp_cap_5, e_Sp_cap_8, e_Sp_cap_11, e_Sp_cap_13, m_get, m_put, m_ia, m_is, m_la, m_ls, fl_sf, fl_sa, fl_sl, fl_sq, ar_sf, ar_sa, ar_sl, ar_sq, lr_sf, lr_sa, lr_sl, lr_sq, qr_sf, qr_sa, qr_sl, qr_sq, sf_1, sf_2, sa_1, sa_2, sl_1, sl_2, Option.isSome_some, Option.map_some, Option.map_none, Option.toList_some, Option.toList_none, List.nil_append, List.cons_append, List.singleton_append, if_true, if_false, ↓reduceIte, and_self, and_true, true_and, and_false, false_and, not_true, not_false_iff, reduceCtorEq, Nat.reduceEqDiff, Nat.reduceAdd, Nat.reduceSub, Nat.reduceMul, Nat.reduceLT, Nat.reduceLeDiff, Nat.reduceBEq, eq_self, ne_eq, Nat.add_eq_zero_iff, Nat.add_left_cancel_iff, Nat.add_right_cancel_iff, Nat.left_eq_add, Nat.add_eq_left, Bool.true_or, Bool.or_true, Bool.or_self, or_self, or_true, true_or, or_false, false_or, decide_true, decide_false, i_10, i_01, y1]
    · have y2 : ¬ x ≤ (9999 : Int32) := fun w => z1 ⟨Int32.not_lt.mp y1, w⟩
      simp only [k_Sp_cap, e_Sp_cap_0, e_Sp_cap_1, e_Sp_cap_4, e_Sp_cap_5, e_Sp_cap_8, e_Sp_cap_11, e_Sp_cap_13, m_get, m_put, m_ia, m_is, m_la, m_ls, fl_sf, fl_sa, fl_sl, fl_sq, ar_sf, ar_sa, ar_sl, ar_sq, lr_sf, lr_sa, lr_sl, lr_sq, qr_sf, qr_sa, qr_sl, qr_sq, sf_1, sf_2, sa_1, sa_2, sl_1, sl_2, Option.isSome_some, Option.map_some, Option.map_none, Option.toList_some, Option.toList_none, List.nil_append, List.cons_append, List.singleton_append, if_true, if_false, ↓reduceIte, and_self, and_true, true_and, and_false, false_and, not_true, not_false_iff, reduceCtorEq, Nat.reduceEqDiff, Nat.reduceAdd, Nat.reduceSub, Nat.reduceMul, Nat.reduceLT, Nat.reduceLeDiff, Nat.reduceBEq, eq_self, ne_eq, Nat.add_eq_zero_iff, Nat.add_left_cancel_iff, Nat.add_right_cancel_iff, Nat.left_eq_add, Nat.add_eq_left, Bool.true_or, Bool.or_true, Bool.or_self, or_self, or_true, true_or, or_false, false_or, decide_true, decide_false, i_10, i_01, y1, y2]
  simp only [if_pos z1] at d1
  have y1 : ¬ x < 0 := Int32.not_lt.mpr z1.1
  have y2 : x ≤ (9999 : Int32) := z1.2
  have rv0 := rv
  obtain ⟨⟨⟨vp, vt, vn⟩, p5, t6, n8⟩, ⟨vl, vc, vd, up, uu, un⟩, ⟨bl, bc⟩, ag1, ag2, ag3, bo, bn, ks, st⟩ := rv
  have ex : ∀ sr c, ∃ y, sr ≤ 2 → c ≤ 9 → LV σ t n sr c y := fun sr c => by
    by_cases a : sr ≤ 2
    · by_cases b : c ≤ 9
      · rcases best_ex (sr := sr) (cp := c) H (rlV_VR rv0) a b with no | ⟨b', vb, bb⟩
        · exact ⟨-9, fun _ _ => Or.inl ⟨rfl, no⟩⟩
        · exact ⟨_, fun _ _ => Or.inr ⟨b', vb, rfl, fun a' ha => (bb a' ha).1⟩⟩
      · exact ⟨0, fun _ h => absurd h b⟩
    · exact ⟨0, fun h => absurd h a⟩
  obtain ⟨Yf, hY⟩ := Classical.axiomOfChoice (fun sr => Classical.axiomOfChoice (ex sr))
  have V := Hp_vil H hv
  rw [uu] at V
  obtain ⟨G, G9, eG⟩ := ggr_b (f := fun j => σ 84 (5 + j)) t (fun j hj => (st j hj).1)
  have eG' : ggr (σ (v + 5)) t = nI G := by rw [← eG]; exact ggr_cg t (fun j hj => (ag2 j hj).2.2.1)
  have cg := call_v (lv := 13) (c_greatestGrade t6 V) (Vil_is V) (by decide) (Nat.le_of_ble_eq_true rfl)
  rw [eG'] at cg
  have f8 := hR H 1 8 8 65 rfl rfl
  have r65 := hA H 65 0 10 rfl rfl
  have elo : (if (1 : Int32) < nI G then nI G else 1) = nI (max 1 G) := by
    by_cases w : 1 < G
    · have w' : (1 : Int32) < nI G := nI_lt (a := 1) w (by omega)
      rw [if_pos w', Nat.max_eq_right (by omega)]
    · have w' : ¬ (1 : Int32) < nI G := nI_nlt (b := G) (a := 1) (by omega) (by omega)
      rw [if_neg w', Nat.max_eq_left (by omega)]
      rfl
  have H1 := Hp_sa (t := 0) (n := 10) H (a := 65) rfl rfl (cpI (σ 65) (fun _ => 0) 0 10)
  obtain ⟨r, h2, σ2, τ2, c2, H2, s2, t2, post⟩ := c_capS (lo := max 1 G) (mm := x) H rv0 ry hY (by omega) (by omega) 0 (by omega) _ _ _ none none H1 ⟨fun b hb => by rw [us, if_neg (by omega)], fun _ _ _ => rfl⟩ (fun c y3 y4 => by
    have := cpI_in (g := σ 65) (f := fun _ => (0 : Int32)) (o := 0) (show c < 10 by omega)
    rw [Nat.zero_add] at this
    rw [us, if_pos rfl, this]
    rfl) (fun u hu => by omega)
  have hY' := hY
  obtain ⟨r', h3, σ3, τ3, c3, H3, F3, post'⟩ := cM_capOut (lo := max 1 G) (mm := x) rv0 hY' (by omega) (10 - max 1 G) (by omega) h2 σ2 τ2 none none none H2 ⟨fun b hb => s2 b (by omega), fun a k hk => t2 a k (by omega)⟩
  have er : r' = r := by
    rcases post with ⟨a, s', hs', nf⟩ | ⟨fe, a⟩
    · rcases post' with ⟨a', _⟩ | ⟨fe, _⟩
      · rw [a, a']
      · exact absurd (fe s' hs') nf
    · rcases post' with ⟨_, s', hs', nf⟩ | ⟨_, a'⟩
      · exact absurd (fe s' hs') nf
      · rw [a, a']
  subst er
  refine ⟨.int r', h2, h3, ?_, ?_, Rel_fr ⟨H, rv0, rt, ra, rk, rs, ry⟩ H3 F3.1 F3.2, Hp_1 H, Hp_75 H2⟩
  · have zero := loop_dn (t := 10) (P := fun c => xR none 13 M_Sp_cap 28 [some (.ref 1), some (.int x), some (.int (nI (max 1 G))), some (.int (nI c)), none, none] [] (sa h 65 0 (cpI (σ 65) (fun _ => 0) 0 c)) = some (some (.int r'), h2)) ?_ ?_ 0 (Nat.zero_le _)
    · rw [nI_0, cpI_0, sa_self r65] at zero
      simp only [k_Sp_cap, e_Sp_cap_0, e_Sp_cap_1, e_Sp_cap_4, e_Sp_cap_5, e_Sp_cap_8, e_Sp_cap_11, e_Sp_cap_13, e_Sp_cap_14, e_Sp_cap_15, e_Sp_cap_16, e_Sp_cap_19, e_Sp_cap_22, e_Sp_cap_25, e_Sp_cap_26, e_Sp_cap_27, m_get, m_put, m_ia, m_is, m_la, m_ls, fl_sf, fl_sa, fl_sl, fl_sq, ar_sf, ar_sa, ar_sl, ar_sq, lr_sf, lr_sa, lr_sl, lr_sq, qr_sf, qr_sa, qr_sl, qr_sq, sf_1, sf_2, sa_1, sa_2, sl_1, sl_2, Option.isSome_some, Option.map_some, Option.map_none, Option.toList_some, Option.toList_none, List.nil_append, List.cons_append, List.singleton_append, if_true, if_false, ↓reduceIte, and_self, and_true, true_and, and_false, false_and, not_true, not_false_iff, reduceCtorEq, Nat.reduceEqDiff, Nat.reduceAdd, Nat.reduceSub, Nat.reduceMul, Nat.reduceLT, Nat.reduceLeDiff, Nat.reduceBEq, eq_self, ne_eq, Nat.add_eq_zero_iff, Nat.add_left_cancel_iff, Nat.add_right_cancel_iff, Nat.left_eq_add, Nat.add_eq_left, Bool.true_or, Bool.or_true, Bool.or_self, or_self, or_true, true_or, or_false, false_or, decide_true, decide_false, i_10, i_01, y1, y2, fh, cg, elo]
      exact zero
    · have z : (9 : Int32) < nI 10 := by decide
      rw [nI_0] at c2
      simp only [e_Sp_cap_28, e_Sp_cap_29, e_Sp_cap_31, e_Sp_cap_47, e_Sp_cap_48, Option.isSome_some, Option.map_some, Option.map_none, Option.toList_some, Option.toList_none, List.nil_append, List.cons_append, List.singleton_append, if_true, if_false, ↓reduceIte, and_self, and_true, true_and, and_false, false_and, not_true, not_false_iff, reduceCtorEq, Nat.reduceEqDiff, Nat.reduceAdd, Nat.reduceSub, Nat.reduceMul, Nat.reduceLT, Nat.reduceLeDiff, Nat.reduceBEq, eq_self, ne_eq, Nat.add_eq_zero_iff, Nat.add_left_cancel_iff, Nat.add_right_cancel_iff, Nat.left_eq_add, Nat.add_eq_left, Bool.true_or, Bool.or_true, Bool.or_self, or_self, or_true, true_or, or_false, false_or, decide_true, decide_false, i_10, i_01, z]
      exact c2
    · intro c hc ih
      have z : ¬ (9 : Int32) < nI c := nI_nlt (a := 9) (by omega) (by omega)
      have i1 := xin_nI hc (by decide)
      have cc := nI_clamp (show c < 2 ^ 31 by omega)
      have zz := cpI_s (σ 65) (fun _ => (0 : Int32)) 0 c
      rw [Nat.zero_add] at zz
      rw [← nI_1, ← zz, ← sa_sa h 65 0 (cpI (σ 65) (fun _ => 0) 0 c)] at ih
      rw [e_Sp_cap_28]
      simp only [e_Sp_cap_29, e_Sp_cap_31, e_Sp_cap_34, e_Sp_cap_35, e_Sp_cap_38, e_Sp_cap_39, e_Sp_cap_40, e_Sp_cap_41, e_Sp_cap_44, m_get, m_put, m_ia, m_is, m_la, m_ls, fl_sf, fl_sa, fl_sl, fl_sq, ar_sf, ar_sa, ar_sl, ar_sq, lr_sf, lr_sa, lr_sl, lr_sq, qr_sf, qr_sa, qr_sl, qr_sq, sf_1, sf_2, sa_1, sa_2, sl_1, sl_2, Option.isSome_some, Option.map_some, Option.map_none, Option.toList_some, Option.toList_none, List.nil_append, List.cons_append, List.singleton_append, if_true, if_false, ↓reduceIte, and_self, and_true, true_and, and_false, false_and, not_true, not_false_iff, reduceCtorEq, Nat.reduceEqDiff, Nat.reduceAdd, Nat.reduceSub, Nat.reduceMul, Nat.reduceLT, Nat.reduceLeDiff, Nat.reduceBEq, eq_self, ne_eq, Nat.add_eq_zero_iff, Nat.add_left_cancel_iff, Nat.add_right_cancel_iff, Nat.left_eq_add, Nat.add_eq_left, Bool.true_or, Bool.or_true, Bool.or_self, or_self, or_true, true_or, or_false, false_or, decide_true, decide_false, i_10, i_01, z, f8, r65, i1, cc]
      exact ih
  · have et2 : τ2 75 14 = nI t := by rw [t2 75 14 (by omega)]; exact vt
    have cm := call_v (lv := 3) (cM_greatest H2 et2 t6) (Hp_75 H2) (by decide) (Nat.le_of_ble_eq_true rfl)
    rw [s2 84 (by omega), eG] at cm
    rw [show nI (max 1 G + (10 - max 1 G)) + (-1) = 9 from by rw [show max 1 G + (10 - max 1 G) = 9 + 1 by omega, nI_m]; rfl] at c3
    by_cases w : 1 ≤ G
    · have w' : (1 : Int32) ≤ nI G := nI_le (a := 1) w (by omega)
      rw [Nat.max_eq_right w] at c3
      simp only [k_Md_cap, e_Md_cap_0, e_Md_cap_1, e_Md_cap_2, e_Md_cap_3, e_Md_cap_6, e_Md_cap_9, e_Md_cap_12, e_Md_cap_14, e_Md_cap_15, e_Md_cap_16, e_Md_cap_19, e_Md_cap_20, e_Md_cap_23, e_Md_cap_24, e_Md_cap_27, e_Md_cap_28, e_Md_cap_31, e_Md_cap_32, e_Md_cap_34, m_get, m_put, m_ia, m_is, m_la, m_ls, fl_sf, fl_sa, fl_sl, fl_sq, ar_sf, ar_sa, ar_sl, ar_sq, lr_sf, lr_sa, lr_sl, lr_sq, qr_sf, qr_sa, qr_sl, qr_sq, sf_1, sf_2, sa_1, sa_2, sl_1, sl_2, Option.isSome_some, Option.map_some, Option.map_none, Option.toList_some, Option.toList_none, List.nil_append, List.cons_append, List.singleton_append, if_true, if_false, ↓reduceIte, and_self, and_true, true_and, and_false, false_and, not_true, not_false_iff, reduceCtorEq, Nat.reduceEqDiff, Nat.reduceAdd, Nat.reduceSub, Nat.reduceMul, Nat.reduceLT, Nat.reduceLeDiff, Nat.reduceBEq, eq_self, ne_eq, Nat.add_eq_zero_iff, Nat.add_left_cancel_iff, Nat.add_right_cancel_iff, Nat.left_eq_add, Nat.add_eq_left, Bool.true_or, Bool.or_true, Bool.or_self, or_self, or_true, true_or, or_false, false_or, decide_true, decide_false, i_10, i_01, d1, cm, w']
      exact c3
    · have w' : ¬ (1 : Int32) ≤ nI G := nI_ge (b := 1) (by omega) (by omega)
      rw [Nat.max_eq_left (by omega)] at c3
      simp only [k_Md_cap, e_Md_cap_0, e_Md_cap_1, e_Md_cap_2, e_Md_cap_3, e_Md_cap_6, e_Md_cap_9, e_Md_cap_12, e_Md_cap_14, e_Md_cap_15, e_Md_cap_16, e_Md_cap_19, e_Md_cap_20, e_Md_cap_23, e_Md_cap_24, e_Md_cap_27, e_Md_cap_28, e_Md_cap_31, e_Md_cap_32, e_Md_cap_34, m_get, m_put, m_ia, m_is, m_la, m_ls, fl_sf, fl_sa, fl_sl, fl_sq, ar_sf, ar_sa, ar_sl, ar_sq, lr_sf, lr_sa, lr_sl, lr_sq, qr_sf, qr_sa, qr_sl, qr_sq, sf_1, sf_2, sa_1, sa_2, sl_1, sl_2, Option.isSome_some, Option.map_some, Option.map_none, Option.toList_some, Option.toList_none, List.nil_append, List.cons_append, List.singleton_append, if_true, if_false, ↓reduceIte, and_self, and_true, true_and, and_false, false_and, not_true, not_false_iff, reduceCtorEq, Nat.reduceEqDiff, Nat.reduceAdd, Nat.reduceSub, Nat.reduceMul, Nat.reduceLT, Nat.reduceLeDiff, Nat.reduceBEq, eq_self, ne_eq, Nat.add_eq_zero_iff, Nat.add_left_cancel_iff, Nat.add_right_cancel_iff, Nat.left_eq_add, Nat.add_eq_left, Bool.true_or, Bool.or_true, Bool.or_self, or_self, or_true, true_or, or_false, false_or, decide_true, decide_false, i_10, i_01, d1, cm, w']
      exact c3
end CA
