/-! Prices, and what a set costs. -/
def prP (gr ch : Nat → Nat) (sr cp c b : Nat) : Nat := if gr (ch c) + b < cp then (sr + 1) * (gr (ch c) + b + 1) else 0
theorem prP_le {gr ch : Nat → Nat} {sr cp : Nat} (hs : sr ≤ 2) (hc : cp ≤ 9) (c b : Nat) : prP gr ch sr cp c b ≤ 100 := by
  unfold prP
  split
  · have : (sr + 1) * (gr (ch c) + b + 1) ≤ 3 * 9 := Nat.mul_le_mul (by omega) (by omega)
    omega
  · omega
theorem m4 (c b : Nat) : nI c * 4 + nI b = nI (4 * c + b) := by
  rw [show (4 : Int32) = nI 4 from rfl, nI_mul, nI_add, Nat.mul_comm]
theorem m4096 (d T : Nat) : nI d * 4096 + nI T = nI (4096 * d + T) := by
  rw [show (4096 : Int32) = nI 4096 from rfl, nI_mul, nI_add, Nat.mul_comm]
theorem pw4 : ∀ C, C ≤ 6 → (1 : Int32) <<< ((2 * nI C) &&& 31) = nI (4 ^ C) := by decide +kernel
theorem p4_le {C : Nat} (h : C ≤ 6) : 4 ^ C ≤ 4096 := Nat.le_trans (Nat.pow_le_pow_right (by omega) h) (by decide)
theorem nI_and (a b : Nat) : nI a &&& nI b = nI (a &&& b) := b_ext fun i hi => by rw [b_and, bt_nI hi, bt_nI hi, bt_nI hi, Nat.testBit_and]
theorem nI_shr {T k : Nat} (hT : T < 2 ^ 31) (hk : k < 32) : nI T >>> (nI k &&& 31) = nI (T >>> k) := b_ext fun i hi => by
  rw [b_sshr k hk _ hi, bt_nI hi, Nat.testBit_shiftRight]
  split
  · rw [bt_nI (by omega)]
  · have : 2 ^ 31 ≤ 2 ^ (k + i) := Nat.pow_le_pow_right (by omega) (by omega)
    rw [bt_nI (by omega), Nat.testBit_lt_two_pow hT, Nat.testBit_lt_two_pow (by omega)]
theorem tdg {T c : Nat} (hT : T < 2 ^ 31) (hc : c < 6) : (nI T >>> ((2 * nI c) &&& 31)) &&& 3 = nI (dg T c) := by
  rw [show (2 : Int32) = nI 2 from rfl, nI_mul, nI_shr hT (by omega), show (3 : Int32) = nI 3 from rfl, nI_and, Nat.shiftRight_eq_div_pow]
  have e : T / 2 ^ (2 * c) &&& 3 = T / 2 ^ (2 * c) % 4 := Nat.and_two_pow_sub_one_eq_mod _ 2
  rw [e, Nat.pow_mul]
  rfl
theorem bi_z {L c : Nat} (hc : c < 32) : ((nI L >>> (nI c &&& 31)) &&& 1 = 0) ↔ ¬ bi L c = 1 := by
  rw [b_z hc, bt_nI hc, bi_tb]
  cases L.testBit c <;> decide
theorem cN_1 (s g : Nat) : cN s g 1 = (s + 1) * (g + 1) := by
  show 0 + (s + 1) * (g + 0 + 1) = _
  rw [Nat.zero_add, Nat.add_zero]
def grW (σ : Nat → Nat → Int32) (v j : Nat) : Nat := (σ (v + 5) j).toNatClampNeg
/-- the rows from which costs come -/
def Pr (σ τ : Nat → Nat → Int32) (C : Nat) (pr li : Nat → Nat → Nat) (lc : Nat → Nat) : Prop :=
  (C ≤ 6 ∧ τ 55 2 = nI C) ∧ (∀ c, c < C → ∀ b, b < 4 → σ 62 (4 * c + b) = nI (pr c b)) ∧
  (∀ d, d < 4 → lc d ≤ 64 ∧ σ 60 d = nI (lc d) ∧ ∀ k, k < lc d → li d k < 2 ^ C ∧ σ 59 (64 * d + k) = nI (li d k)) ∧
  (∀ k, k < 64 → σ 61 k = nI (tlN k)) ∧ (∀ c b, pr c b ≤ 100)
def Mem (σ : Nat → Nat → Int32) (C : Nat) (pr li : Nat → Nat → Nat) (lc : Nat → Nat) : Prop := ∀ d, 2 ≤ d → d < 4 → ∀ T, T < 4 ^ C → σ 63 (4096 * (d - 2) + T) = -1 ∨ σ 63 (4096 * (d - 2) + T) = nI (cfT C pr li lc (4 - d) d T)
section PP
variable {σ τ : Nat → Nat → Int32} {v s C : Nat} {q : Nat → Nat} {e1 e2 : Int64} {ch ow np ds : Nat → Nat}
theorem c_price2 {h : xH} {x : Int32} {l4 : Option Value} (G : Pg h σ τ v s q e1 e2) (C6 : C ≤ 6) : ∃ h' σ', xR none 1 M_Planner_priceAt 88 [some (.ref 55), some (.int x), some (.int (nI (4 ^ C))), some (.int 0), l4] [] h = some (none, h') ∧ Pg h' σ' τ v s q e1 e2 ∧ (∀ b, b ≠ 63 → σ' b = σ b) ∧ (∀ d, d < 2 → ∀ T, T < 4 ^ C → σ' 63 (4096 * d + T) = -1) := by
  have p4 := p4_le C6
  have key := loop_dn (t := 2) (P := fun d => ∀ g σg (l4 : Option Value), Pg g σg τ v s q e1 e2 → (∀ b, b ≠ 63 → σg b = σ b) → (∀ e, e < d → ∀ T, T < 4 ^ C → σg 63 (4096 * e + T) = -1) → ∃ h' σ', xR none 1 M_Planner_priceAt 88 [some (.ref 55), some (.int x), some (.int (nI (4 ^ C))), some (.int (nI d)), l4] [] g = some (none, h') ∧ Pg h' σ' τ v s q e1 e2 ∧ (∀ b, b ≠ 63 → σ' b = σ b) ∧ (∀ d, d < 2 → ∀ T, T < 4 ^ C → σ' 63 (4096 * d + T) = -1)) ?_ ?_ 0 (Nat.zero_le _)
  · have := key h σ l4 G (fun _ _ => rfl) (fun e he => by omega)
    rw [nI_0] at this
    exact this
  · intro g σg l4 Gg h1 h2
    refine ⟨g, σg, ?_, Gg, h1, h2⟩
    have z : (2 : Int32) ≤ nI 2 := Int32.le_refl _
    simp only [e_Planner_priceAt_88, e_Planner_priceAt_89, e_Planner_priceAt_90, e_Planner_priceAt_128, Option.isSome_some, Option.map_some, Option.map_none, Option.toList_some, Option.toList_none, List.nil_append, List.cons_append, List.singleton_append, if_true, if_false, ↓reduceIte, and_self, and_true, true_and, and_false, false_and, not_true, not_false_iff, reduceCtorEq, Nat.reduceEqDiff, Nat.reduceAdd, Nat.reduceSub, Nat.reduceMul, Nat.reduceLT, Nat.reduceLeDiff, Nat.reduceBEq, eq_self, ne_eq, Nat.add_eq_zero_iff, Nat.add_left_cancel_iff, Nat.add_right_cancel_iff, Nat.left_eq_add, Nat.add_eq_left, Bool.true_or, Bool.or_true, Bool.or_self, or_self, or_true, true_or, or_false, false_or, decide_true, decide_false, i_10, i_01, z]
  · intro d hd ih g0 σ0 l4 G0 h1 h2
    have inner := loop_dn (t := 4 ^ C) (P := fun T => ∀ g σg, Pg g σg τ v s q e1 e2 → (∀ b, b ≠ 63 → σg b = σ b) → (∀ e, e < d → ∀ T, T < 4 ^ C → σg 63 (4096 * e + T) = -1) → (∀ U, U < T → σg 63 (4096 * d + U) = -1) → ∃ h' σ', xR none 1 M_Planner_priceAt 96 [some (.ref 55), some (.int x), some (.int (nI (4 ^ C))), some (.int (nI d)), some (.int (nI T))] [] g = some (none, h') ∧ Pg h' σ' τ v s q e1 e2 ∧ (∀ b, b ≠ 63 → σ' b = σ b) ∧ (∀ d, d < 2 → ∀ T, T < 4 ^ C → σ' 63 (4096 * d + T) = -1)) ?_ ?_ 0 (Nat.zero_le _)
    · obtain ⟨h', σ', c, rest⟩ := inner g0 σ0 G0 h1 h2 (fun U hU => by omega)
      refine ⟨h', σ', ?_, rest⟩
      have q1 : ¬ (2 : Int32) ≤ nI d := nI_ge (b := 2) hd (by omega)
      rw [nI_0] at c
      rw [e_Planner_priceAt_88]
      simp only [e_Planner_priceAt_89, e_Planner_priceAt_90, e_Planner_priceAt_93, e_Planner_priceAt_94, Option.isSome_some, Option.map_some, Option.map_none, Option.toList_some, Option.toList_none, List.nil_append, List.cons_append, List.singleton_append, if_true, if_false, ↓reduceIte, and_self, and_true, true_and, and_false, false_and, not_true, not_false_iff, reduceCtorEq, Nat.reduceEqDiff, Nat.reduceAdd, Nat.reduceSub, Nat.reduceMul, Nat.reduceLT, Nat.reduceLeDiff, Nat.reduceBEq, eq_self, ne_eq, Nat.add_eq_zero_iff, Nat.add_left_cancel_iff, Nat.add_right_cancel_iff, Nat.left_eq_add, Nat.add_eq_left, Bool.true_or, Bool.or_true, Bool.or_self, or_self, or_true, true_or, or_false, false_or, decide_true, decide_false, i_10, i_01, q1]
      exact c
    · intro g σg Gg h1 h2 h3
      obtain ⟨h', σ', c, rest⟩ := ih g σg (some (.int (nI (4 ^ C)))) Gg h1 (fun e he T hT => by
        by_cases y : e = d
        · rw [y]; exact h3 T hT
        · exact h2 e (by omega) T hT)
      refine ⟨h', σ', ?_, rest⟩
      rw [← nI_1] at c
      simp only [e_Planner_priceAt_96, e_Planner_priceAt_98, e_Planner_priceAt_99, e_Planner_priceAt_122, e_Planner_priceAt_125, Option.isSome_some, Option.map_some, Option.map_none, Option.toList_some, Option.toList_none, List.nil_append, List.cons_append, List.singleton_append, if_true, if_false, ↓reduceIte, and_self, and_true, true_and, and_false, false_and, not_true, not_false_iff, reduceCtorEq, Nat.reduceEqDiff, Nat.reduceAdd, Nat.reduceSub, Nat.reduceMul, Nat.reduceLT, Nat.reduceLeDiff, Nat.reduceBEq, eq_self, ne_eq, Nat.add_eq_zero_iff, Nat.add_left_cancel_iff, Nat.add_right_cancel_iff, Nat.left_eq_add, Nat.add_eq_left, Bool.true_or, Bool.or_true, Bool.or_self, or_self, or_true, true_or, or_false, false_or, decide_true, decide_false, i_10, i_01, Int32.le_refl]
      exact c
    · intro T hT ihT g σg Gg h1 h2 h3
      have f13 := hR Gg.1 55 4 13 63 rfl rfl
      have r63 := hA Gg.1 63 0 8192 rfl rfl
      have q1 : ¬ nI (4 ^ C) ≤ nI T := nI_ge hT (by omega)
      have mm := m4096 d T
      have ii := xin_nI (show 4096 * d + T < 8192 by omega) (by decide)
      have ci := nI_clamp (show 4096 * d + T < 2 ^ 31 by omega)
      obtain ⟨h', σ', c, rest⟩ := ihT _ _ (Pg_sa (t := 0) (n := 8192) Gg (a := 63) rfl rfl (upd (σg 63) (4096 * d + T) (-1))) (fun b hb => by rw [us, if_neg hb]; exact h1 b hb) (fun e he U hU => by
        show upd (σg 63) _ _ _ = _
        rw [upd]
        split
        · rfl
        · exact h2 e he U hU) (fun U hU => by
        show upd (σg 63) _ _ _ = _
        rw [upd]
        split
        · rfl
        · exact h3 U (by omega))
      refine ⟨h', σ', ?_, rest⟩
      rw [← nI_1] at c
      rw [e_Planner_priceAt_96]
      simp only [e_Planner_priceAt_98, e_Planner_priceAt_99, e_Planner_priceAt_102, e_Planner_priceAt_103, e_Planner_priceAt_106, e_Planner_priceAt_107, e_Planner_priceAt_110, e_Planner_priceAt_111, e_Planner_priceAt_113, e_Planner_priceAt_114, e_Planner_priceAt_115, e_Planner_priceAt_116, e_Planner_priceAt_119, m_get, m_put, m_ia, m_is, m_la, m_ls, fl_sf, fl_sa, fl_sl, fl_sq, ar_sf, ar_sa, ar_sl, ar_sq, lr_sf, lr_sa, lr_sl, lr_sq, qr_sf, qr_sa, qr_sl, qr_sq, sf_1, sf_2, sa_1, sa_2, sl_1, sl_2, Option.isSome_some, Option.map_some, Option.map_none, Option.toList_some, Option.toList_none, List.nil_append, List.cons_append, List.singleton_append, if_true, if_false, ↓reduceIte, and_self, and_true, true_and, and_false, false_and, not_true, not_false_iff, reduceCtorEq, Nat.reduceEqDiff, Nat.reduceAdd, Nat.reduceSub, Nat.reduceMul, Nat.reduceLT, Nat.reduceLeDiff, Nat.reduceBEq, eq_self, ne_eq, Nat.add_eq_zero_iff, Nat.add_left_cancel_iff, Nat.add_right_cancel_iff, Nat.left_eq_add, Nat.add_eq_left, Bool.true_or, Bool.or_true, Bool.or_self, or_self, or_true, true_or, or_false, false_or, decide_true, decide_false, i_10, i_01, f13, r63, q1, mm, ii, ci]
      exact c
theorem c_priceAt {h : xH} {sr cp : Nat} (G : Pg h σ τ v s q e1 e2) (Q : Pq σ τ v C ch ow np ds) (hs : sr ≤ 2) (es : τ 55 1 = nI sr) (hcp : cp ≤ 9) (hg : ∀ c, c < C → ∃ g, g ≤ 9 ∧ σ (v + 5) (ch c) = nI g) : ∃ h' σ', xC M_Planner_priceAt [.ref 55, .int (nI cp)] h = some (none, h') ∧ Pg h' σ' τ v s q e1 e2 ∧ ((∀ b, b ≠ 62 → b ≠ 63 → σ' b = σ b) ∧ (∀ c, c < C → ∀ b, b < 4 → σ' 62 (4 * c + b) = nI ((prP (grW σ v) ch sr cp) c b)) ∧ (∀ d, d < 2 → ∀ T, T < 4 ^ C → σ' 63 (4096 * d + T) = -1)) := by
  have hv := G.1.2.2.2.1.1
  have C6 := Q.1.1
  have ec := Q.1.2
  have key := loop_dn (t := C) (P := fun c => ∀ g σg (l3 l4 : Option Value), Pg g σg τ v s q e1 e2 → (∀ b, b ≠ 62 → σg b = σ b) → (∀ e, e < c → ∀ b, b < 4 → σg 62 (4 * e + b) = nI ((prP (grW σ v) ch sr cp) e b)) → ∃ h' σ', xR none 1 M_Planner_priceAt 2 [some (.ref 55), some (.int (nI cp)), some (.int (nI c)), l3, l4] [] g = some (none, h') ∧ Pg h' σ' τ v s q e1 e2 ∧ ((∀ b, b ≠ 62 → b ≠ 63 → σ' b = σ b) ∧ (∀ c, c < C → ∀ b, b < 4 → σ' 62 (4 * c + b) = nI ((prP (grW σ v) ch sr cp) c b)) ∧ (∀ d, d < 2 → ∀ T, T < 4 ^ C → σ' 63 (4096 * d + T) = -1))) ?_ ?_ 0 (Nat.zero_le _)
  · obtain ⟨h', σ', c, rest⟩ := key h σ none none G (fun _ _ => rfl) (fun e he => by omega)
    refine ⟨h', σ', ?_, rest⟩
    rw [nI_0] at c
    simp only [k_Planner_priceAt, e_Planner_priceAt_0, e_Planner_priceAt_1]
    exact c
  · intro g σg l3 l4 Gg h1 h2
    obtain ⟨h', σ', c, G', x1, x2⟩ := c_price2 (x := nI cp) (l4 := l4) Gg C6
    refine ⟨h', σ', ?_, G', fun b n1 n2 => by rw [x1 b n2]; exact h1 b n1, fun c hc b hb => by rw [x1 62 (by omega)]; exact h2 c hc b hb, x2⟩
    have f2 := hI Gg.1 55 4 2 rfl rfl
    rw [ec] at f2
    have pw := pw4 C C6
    simp only [e_Planner_priceAt_2, e_Planner_priceAt_3, e_Planner_priceAt_4, e_Planner_priceAt_7, e_Planner_priceAt_77, e_Planner_priceAt_78, e_Planner_priceAt_79, e_Planner_priceAt_80, e_Planner_priceAt_83, e_Planner_priceAt_84, e_Planner_priceAt_85, e_Planner_priceAt_86, e_Planner_priceAt_87, m_get, m_put, m_ia, m_is, m_la, m_ls, fl_sf, fl_sa, fl_sl, fl_sq, ar_sf, ar_sa, ar_sl, ar_sq, lr_sf, lr_sa, lr_sl, lr_sq, qr_sf, qr_sa, qr_sl, qr_sq, sf_1, sf_2, sa_1, sa_2, sl_1, sl_2, Option.isSome_some, Option.map_some, Option.map_none, Option.toList_some, Option.toList_none, List.nil_append, List.cons_append, List.singleton_append, if_true, if_false, ↓reduceIte, and_self, and_true, true_and, and_false, false_and, not_true, not_false_iff, reduceCtorEq, Nat.reduceEqDiff, Nat.reduceAdd, Nat.reduceSub, Nat.reduceMul, Nat.reduceLT, Nat.reduceLeDiff, Nat.reduceBEq, eq_self, ne_eq, Nat.add_eq_zero_iff, Nat.add_left_cancel_iff, Nat.add_right_cancel_iff, Nat.left_eq_add, Nat.add_eq_left, Bool.true_or, Bool.or_true, Bool.or_self, or_self, or_true, true_or, or_false, false_or, decide_true, decide_false, i_10, i_01, f2, Int32.le_refl, pw]
    exact c
  · intro c hc ih g0 σ0 l3 l4 G0 h1 h2
    have q1 : ¬ nI C ≤ nI c := nI_ge hc (by omega)
    obtain ⟨gr, gr9, eg⟩ := hg c hc
    have egr : grW σ v (ch c) = gr := by rw [grW, eg, nI_clamp (by omega)]
    obtain ⟨k1, k2, _, _⟩ := Q.2.2.2.2.1 c hc
    have inner := loop_dn (t := 4) (P := fun b => ∀ g σg (l4 : Option Value), Pg g σg τ v s q e1 e2 → (∀ b, b ≠ 62 → σg b = σ b) → (∀ e, e < c → ∀ b, b < 4 → σg 62 (4 * e + b) = nI ((prP (grW σ v) ch sr cp) e b)) → (∀ b', b' < b → σg 62 (4 * c + b') = nI ((prP (grW σ v) ch sr cp) c b')) → ∃ h' σ', xR none 1 M_Planner_priceAt 12 [some (.ref 55), some (.int (nI cp)), some (.int (nI c)), some (.int (nI b)), l4] [] g = some (none, h') ∧ Pg h' σ' τ v s q e1 e2 ∧ ((∀ b, b ≠ 62 → b ≠ 63 → σ' b = σ b) ∧ (∀ c, c < C → ∀ b, b < 4 → σ' 62 (4 * c + b) = nI ((prP (grW σ v) ch sr cp) c b)) ∧ (∀ d, d < 2 → ∀ T, T < 4 ^ C → σ' 63 (4096 * d + T) = -1))) ?_ ?_ 0 (Nat.zero_le _)
    · obtain ⟨h', σ', cc, rest⟩ := inner g0 σ0 l4 G0 h1 h2 (fun b hb => by omega)
      refine ⟨h', σ', ?_, rest⟩
      have f2 := hI G0.1 55 4 2 rfl rfl
      rw [ec] at f2
      rw [nI_0] at cc
      rw [e_Planner_priceAt_2]
      simp only [e_Planner_priceAt_3, e_Planner_priceAt_4, e_Planner_priceAt_7, e_Planner_priceAt_10, e_Planner_priceAt_11, m_get, m_put, m_ia, m_is, m_la, m_ls, fl_sf, fl_sa, fl_sl, fl_sq, ar_sf, ar_sa, ar_sl, ar_sq, lr_sf, lr_sa, lr_sl, lr_sq, qr_sf, qr_sa, qr_sl, qr_sq, sf_1, sf_2, sa_1, sa_2, sl_1, sl_2, Option.isSome_some, Option.map_some, Option.map_none, Option.toList_some, Option.toList_none, List.nil_append, List.cons_append, List.singleton_append, if_true, if_false, ↓reduceIte, and_self, and_true, true_and, and_false, false_and, not_true, not_false_iff, reduceCtorEq, Nat.reduceEqDiff, Nat.reduceAdd, Nat.reduceSub, Nat.reduceMul, Nat.reduceLT, Nat.reduceLeDiff, Nat.reduceBEq, eq_self, ne_eq, Nat.add_eq_zero_iff, Nat.add_left_cancel_iff, Nat.add_right_cancel_iff, Nat.left_eq_add, Nat.add_eq_left, Bool.true_or, Bool.or_true, Bool.or_self, or_self, or_true, true_or, or_false, false_or, decide_true, decide_false, i_10, i_01, f2, q1]
      exact cc
    · intro g σg l4 Gg h1 h2 h3
      obtain ⟨h', σ', cc, rest⟩ := ih g σg (some (.int (nI 4))) l4 Gg h1 (fun e he b hb => by
        by_cases y : e = c
        · rw [y]; exact h3 b hb
        · exact h2 e (by omega) b hb)
      refine ⟨h', σ', ?_, rest⟩
      have z : (4 : Int32) ≤ nI 4 := Int32.le_refl _
      rw [← nI_1] at cc
      simp only [e_Planner_priceAt_12, e_Planner_priceAt_13, e_Planner_priceAt_14, e_Planner_priceAt_71, e_Planner_priceAt_74, Option.isSome_some, Option.map_some, Option.map_none, Option.toList_some, Option.toList_none, List.nil_append, List.cons_append, List.singleton_append, if_true, if_false, ↓reduceIte, and_self, and_true, true_and, and_false, false_and, not_true, not_false_iff, reduceCtorEq, Nat.reduceEqDiff, Nat.reduceAdd, Nat.reduceSub, Nat.reduceMul, Nat.reduceLT, Nat.reduceLeDiff, Nat.reduceBEq, eq_self, ne_eq, Nat.add_eq_zero_iff, Nat.add_left_cancel_iff, Nat.add_right_cancel_iff, Nat.left_eq_add, Nat.add_eq_left, Bool.true_or, Bool.or_true, Bool.or_self, or_self, or_true, true_or, or_false, false_or, decide_true, decide_false, i_10, i_01, z]
      exact cc
    · intro b hb ihb g σg l4 Gg h1 h2 h3
      have V := Hp_vil Gg.1 hv
      have w5 := V.2.1.2.2.2.2.1
      have a5' := V.2.2.2.2.2.2.1
      rw [h1 (v + 5) (by omega)] at a5'
      have f0 := Gg.2
      have f1 := hI Gg.1 55 4 1 rfl rfl
      rw [es] at f1
      have f3 := hR Gg.1 55 4 3 56 rfl rfl
      have r56 := hA Gg.1 56 0 6 rfl rfl
      rw [h1 56 (by omega)] at r56
      have f12 := hR Gg.1 55 4 12 62 rfl rfl
      have r62 := hA Gg.1 62 0 24 rfl rfl
      have q2 : ¬ (4 : Int32) ≤ nI b := nI_ge (b := 4) hb (by omega)
      have mm := m4 c b
      have ii := xin_nI (show 4 * c + b < 24 by omega) (by decide)
      have ci := nI_clamp (show 4 * c + b < 2 ^ 31 by omega)
      have ic := xin_nI (show c < 6 by omega) (by decide)
      have cc := nI_clamp (show c < 2 ^ 31 by omega)
      have ij := xin_nI k1 (by decide)
      have cj := nI_clamp (show ch c < 2 ^ 31 by omega)
      obtain ⟨h', σ', cx, rest⟩ := ihb _ _ (some (.int (nI (gr + b)))) (Pg_sa (t := 0) (n := 24) Gg (a := 62) rfl rfl (upd (σg 62) (4 * c + b) (nI ((prP (grW σ v) ch sr cp) c b)))) (fun b hb => by rw [us, if_neg hb]; exact h1 b hb) (fun e he b' hb' => by
        show upd (σg 62) _ _ _ = _
        rw [upd, if_neg (by omega)]
        exact h2 e he b' hb') (fun b' hb' => by
        show upd (σg 62) _ _ _ = _
        rw [upd]
        by_cases y : b' = b
        · rw [if_pos (by omega), y]
        · rw [if_neg (by omega)]
          exact h3 b' (by omega))
      refine ⟨h', σ', ?_, rest⟩
      rw [← nI_1] at cx
      rw [e_Planner_priceAt_12]
      by_cases w : gr + b < cp
      · have wz : ¬ nI cp ≤ nI (gr + b) := nI_ge w (by omega)
        have pe : (prP (grW σ v) ch sr cp) c b = (sr + 1) * (gr + b + 1) := by rw [prP, egr, if_pos w]
        have co := fun f => call_l (lv := 1) (c_costOf (h := g) (nI sr) (nI (gr + b)) 1) (Nat.le_of_ble_eq_true rfl) f
        rw [cl1, cst_N, cN_1] at co
        rw [pe] at cx
        simp only [e_Planner_priceAt_13, e_Planner_priceAt_14, e_Planner_priceAt_17, e_Planner_priceAt_18, e_Planner_priceAt_21, e_Planner_priceAt_24, e_Planner_priceAt_25, e_Planner_priceAt_28, e_Planner_priceAt_29, e_Planner_priceAt_30, e_Planner_priceAt_31, e_Planner_priceAt_32, e_Planner_priceAt_33, e_Planner_priceAt_35, e_Planner_priceAt_36, e_Planner_priceAt_39, e_Planner_priceAt_40, e_Planner_priceAt_41, e_Planner_priceAt_42, e_Planner_priceAt_43, e_Planner_priceAt_44, e_Planner_priceAt_46, e_Planner_priceAt_47, e_Planner_priceAt_50, e_Planner_priceAt_51, e_Planner_priceAt_54, e_Planner_priceAt_56, e_Planner_priceAt_57, e_Planner_priceAt_60, e_Planner_priceAt_63, e_Planner_priceAt_64, e_Planner_priceAt_65, e_Planner_priceAt_68, m_get, m_put, m_ia, m_is, m_la, m_ls, fl_sf, fl_sa, fl_sl, fl_sq, ar_sf, ar_sa, ar_sl, ar_sq, lr_sf, lr_sa, lr_sl, lr_sq, qr_sf, qr_sa, qr_sl, qr_sq, sf_1, sf_2, sa_1, sa_2, sl_1, sl_2, Option.isSome_some, Option.map_some, Option.map_none, Option.toList_some, Option.toList_none, List.nil_append, List.cons_append, List.singleton_append, if_true, if_false, ↓reduceIte, and_self, and_true, true_and, and_false, false_and, not_true, not_false_iff, reduceCtorEq, Nat.reduceEqDiff, Nat.reduceAdd, Nat.reduceSub, Nat.reduceMul, Nat.reduceLT, Nat.reduceLeDiff, Nat.reduceBEq, eq_self, ne_eq, Nat.add_eq_zero_iff, Nat.add_left_cancel_iff, Nat.add_right_cancel_iff, Nat.left_eq_add, Nat.add_eq_left, Bool.true_or, Bool.or_true, Bool.or_self, or_self, or_true, true_or, or_false, false_or, decide_true, decide_false, i_10, i_01, f0, f1, f3, f12, r56, r62, w5, a5', q2, mm, ii, ci, ic, cc, k2, ij, cj, eg, nI_add, wz, co]
        exact cx
      · have wz : nI cp ≤ nI (gr + b) := nI_le (by omega) (by omega)
        have pe : (prP (grW σ v) ch sr cp) c b = 0 := by rw [prP, egr, if_neg w]
        rw [pe, nI_0] at cx
        simp only [e_Planner_priceAt_13, e_Planner_priceAt_14, e_Planner_priceAt_17, e_Planner_priceAt_18, e_Planner_priceAt_21, e_Planner_priceAt_24, e_Planner_priceAt_25, e_Planner_priceAt_28, e_Planner_priceAt_29, e_Planner_priceAt_30, e_Planner_priceAt_31, e_Planner_priceAt_32, e_Planner_priceAt_33, e_Planner_priceAt_35, e_Planner_priceAt_36, e_Planner_priceAt_39, e_Planner_priceAt_40, e_Planner_priceAt_41, e_Planner_priceAt_42, e_Planner_priceAt_43, e_Planner_priceAt_44, e_Planner_priceAt_46, e_Planner_priceAt_47, e_Planner_priceAt_50, e_Planner_priceAt_51, e_Planner_priceAt_54, e_Planner_priceAt_56, e_Planner_priceAt_57, e_Planner_priceAt_60, e_Planner_priceAt_63, e_Planner_priceAt_64, e_Planner_priceAt_65, e_Planner_priceAt_68, m_get, m_put, m_ia, m_is, m_la, m_ls, fl_sf, fl_sa, fl_sl, fl_sq, ar_sf, ar_sa, ar_sl, ar_sq, lr_sf, lr_sa, lr_sl, lr_sq, qr_sf, qr_sa, qr_sl, qr_sq, sf_1, sf_2, sa_1, sa_2, sl_1, sl_2, Option.isSome_some, Option.map_some, Option.map_none, Option.toList_some, Option.toList_none, List.nil_append, List.cons_append, List.singleton_append, if_true, if_false, ↓reduceIte, and_self, and_true, true_and, and_false, false_and, not_true, not_false_iff, reduceCtorEq, Nat.reduceEqDiff, Nat.reduceAdd, Nat.reduceSub, Nat.reduceMul, Nat.reduceLT, Nat.reduceLeDiff, Nat.reduceBEq, eq_self, ne_eq, Nat.add_eq_zero_iff, Nat.add_left_cancel_iff, Nat.add_right_cancel_iff, Nat.left_eq_add, Nat.add_eq_left, Bool.true_or, Bool.or_true, Bool.or_self, or_self, or_true, true_or, or_false, false_or, decide_true, decide_false, i_10, i_01, f0, f1, f3, f12, r56, r62, w5, a5', q2, mm, ii, ci, ic, cc, k2, ij, cj, eg, nI_add, wz]
        exact cx
theorem c_costOfSet {h : xH} {pr li : Nat → Nat → Nat} {lc : Nat → Nat} (G : Pg h σ τ v s q e1 e2) (R : Pr σ τ C pr li lc) {L T : Nat} (hT : T < 2 ^ 31) : xC M_Planner_costOfSet [.ref 55, .int (nI L), .int (nI T)] h = some (some (.int (nI (csT C pr L T))), h) := by
  have C6 := R.1.1
  have f2 := hI G.1 55 4 2 rfl rfl
  rw [R.1.2] at f2
  have f12 := hR G.1 55 4 12 62 rfl rfl
  have r62 := hA G.1 62 0 24 rfl rfl
  have key := loop_dn (t := C) (P := fun c => xR none 0 M_Planner_costOfSet 5 [some (.ref 55), some (.int (nI L)), some (.int (nI T)), some (.int (nI (sN (fun c => if bi L c = 1 then pr c (dg T c) else 0) c))), some (.int (nI c))] [] h = some (some (.int (nI (csT C pr L T))), h)) ?_ ?_ 0 (Nat.zero_le _)
  · rw [nI_0, show sN (fun c => if bi L c = 1 then pr c (dg T c) else 0) 0 = 0 from rfl, nI_0] at key
    simp only [k_Planner_costOfSet, e_Planner_costOfSet_0, e_Planner_costOfSet_1, e_Planner_costOfSet_2, e_Planner_costOfSet_3]
    exact key
  · simp only [e_Planner_costOfSet_5, e_Planner_costOfSet_7, e_Planner_costOfSet_8, e_Planner_costOfSet_11, e_Planner_costOfSet_50, e_Planner_costOfSet_51, m_get, m_put, m_ia, m_is, m_la, m_ls, fl_sf, fl_sa, fl_sl, fl_sq, ar_sf, ar_sa, ar_sl, ar_sq, lr_sf, lr_sa, lr_sl, lr_sq, qr_sf, qr_sa, qr_sl, qr_sq, sf_1, sf_2, sa_1, sa_2, sl_1, sl_2, Option.isSome_some, Option.map_some, Option.map_none, Option.toList_some, Option.toList_none, List.nil_append, List.cons_append, List.singleton_append, if_true, if_false, ↓reduceIte, and_self, and_true, true_and, and_false, false_and, not_true, not_false_iff, reduceCtorEq, Nat.reduceEqDiff, Nat.reduceAdd, Nat.reduceSub, Nat.reduceMul, Nat.reduceLT, Nat.reduceLeDiff, Nat.reduceBEq, eq_self, ne_eq, Nat.add_eq_zero_iff, Nat.add_left_cancel_iff, Nat.add_right_cancel_iff, Nat.left_eq_add, Nat.add_eq_left, Bool.true_or, Bool.or_true, Bool.or_self, or_self, or_true, true_or, or_false, false_or, decide_true, decide_false, i_10, i_01, f2, Int32.le_refl]
    rfl
  · intro c hc ih
    have q1 : ¬ nI C ≤ nI c := nI_ge hc (by omega)
    have bz := bi_z (L := L) (show c < 32 by omega)
    rw [← nI_1, sN] at ih
    rw [e_Planner_costOfSet_5]
    by_cases w : bi L c = 1
    · have wz : ¬ ((nI L >>> (nI c &&& 31)) &&& 1 = 0) := fun y => bz.mp y w
      have d4 : dg T c < 4 := Nat.mod_lt _ (by omega)
      have td := tdg hT (show c < 6 by omega)
      have mm := m4 c (dg T c)
      have ii := xin_nI (show 4 * c + dg T c < 24 by omega) (by decide)
      have ci := nI_clamp (show 4 * c + dg T c < 2 ^ 31 by omega)
      have e62 := R.2.1 c hc (dg T c) d4
      rw [if_pos w, ← nI_add] at ih
      simp only [e_Planner_costOfSet_7, e_Planner_costOfSet_8, e_Planner_costOfSet_11, e_Planner_costOfSet_14, e_Planner_costOfSet_15, e_Planner_costOfSet_17, e_Planner_costOfSet_18, e_Planner_costOfSet_19, e_Planner_costOfSet_20, e_Planner_costOfSet_23, e_Planner_costOfSet_24, e_Planner_costOfSet_25, e_Planner_costOfSet_28, e_Planner_costOfSet_30, e_Planner_costOfSet_31, e_Planner_costOfSet_32, e_Planner_costOfSet_33, e_Planner_costOfSet_34, e_Planner_costOfSet_36, e_Planner_costOfSet_37, e_Planner_costOfSet_38, e_Planner_costOfSet_39, e_Planner_costOfSet_40, e_Planner_costOfSet_41, e_Planner_costOfSet_42, e_Planner_costOfSet_43, e_Planner_costOfSet_44, e_Planner_costOfSet_47, m_get, m_put, m_ia, m_is, m_la, m_ls, fl_sf, fl_sa, fl_sl, fl_sq, ar_sf, ar_sa, ar_sl, ar_sq, lr_sf, lr_sa, lr_sl, lr_sq, qr_sf, qr_sa, qr_sl, qr_sq, sf_1, sf_2, sa_1, sa_2, sl_1, sl_2, Option.isSome_some, Option.map_some, Option.map_none, Option.toList_some, Option.toList_none, List.nil_append, List.cons_append, List.singleton_append, if_true, if_false, ↓reduceIte, and_self, and_true, true_and, and_false, false_and, not_true, not_false_iff, reduceCtorEq, Nat.reduceEqDiff, Nat.reduceAdd, Nat.reduceSub, Nat.reduceMul, Nat.reduceLT, Nat.reduceLeDiff, Nat.reduceBEq, eq_self, ne_eq, Nat.add_eq_zero_iff, Nat.add_left_cancel_iff, Nat.add_right_cancel_iff, Nat.left_eq_add, Nat.add_eq_left, Bool.true_or, Bool.or_true, Bool.or_self, or_self, or_true, true_or, or_false, false_or, decide_true, decide_false, i_10, i_01, f2, f12, r62, q1, wz, td, mm, ii, ci, e62]
      exact ih
    · have wz : (nI L >>> (nI c &&& 31)) &&& 1 = 0 := bz.mpr w
      rw [if_neg w, Nat.add_zero] at ih
      simp only [e_Planner_costOfSet_7, e_Planner_costOfSet_8, e_Planner_costOfSet_11, e_Planner_costOfSet_14, e_Planner_costOfSet_15, e_Planner_costOfSet_17, e_Planner_costOfSet_18, e_Planner_costOfSet_19, e_Planner_costOfSet_20, e_Planner_costOfSet_23, e_Planner_costOfSet_24, e_Planner_costOfSet_25, e_Planner_costOfSet_28, e_Planner_costOfSet_30, e_Planner_costOfSet_31, e_Planner_costOfSet_32, e_Planner_costOfSet_33, e_Planner_costOfSet_34, e_Planner_costOfSet_36, e_Planner_costOfSet_37, e_Planner_costOfSet_38, e_Planner_costOfSet_39, e_Planner_costOfSet_40, e_Planner_costOfSet_41, e_Planner_costOfSet_42, e_Planner_costOfSet_43, e_Planner_costOfSet_44, e_Planner_costOfSet_47, m_get, m_put, m_ia, m_is, m_la, m_ls, fl_sf, fl_sa, fl_sl, fl_sq, ar_sf, ar_sa, ar_sl, ar_sq, lr_sf, lr_sa, lr_sl, lr_sq, qr_sf, qr_sa, qr_sl, qr_sq, sf_1, sf_2, sa_1, sa_2, sl_1, sl_2, Option.isSome_some, Option.map_some, Option.map_none, Option.toList_some, Option.toList_none, List.nil_append, List.cons_append, List.singleton_append, if_true, if_false, ↓reduceIte, and_self, and_true, true_and, and_false, false_and, not_true, not_false_iff, reduceCtorEq, Nat.reduceEqDiff, Nat.reduceAdd, Nat.reduceSub, Nat.reduceMul, Nat.reduceLT, Nat.reduceLeDiff, Nat.reduceBEq, eq_self, ne_eq, Nat.add_eq_zero_iff, Nat.add_left_cancel_iff, Nat.add_right_cancel_iff, Nat.left_eq_add, Nat.add_eq_left, Bool.true_or, Bool.or_true, Bool.or_self, or_self, or_true, true_or, or_false, false_or, decide_true, decide_false, i_10, i_01, f2, q1, wz]
      exact ih
end PP
