/-! A day's sets are listed; all is gathered. -/
def sbI (x y : Int32) : Prop := x &&& (y ^^^ -1) = 0
theorem sbI_refl (x : Int32) : sbI x x := b_ext fun i hi => by
  rw [b_and, b_xor, b_m1 i hi, b_0]
  cases bt x i <;> rfl
theorem sbI_bi {L S : Nat} (hL : L < 64) (h : sbI (nI L) (nI S)) (c : Nat) : bi L c ≤ bi S c := by
  rcases Nat.lt_or_ge c 32 with hc | hc
  · have := congrArg (fun z => bt z c) h
    simp only [b_and, b_xor, b_m1 c hc, b_0, bt_nI hc] at this
    rw [bi_tb, bi_tb]
    cases h1 : L.testBit c <;> cases h2 : S.testBit c
    · exact Nat.le_refl _
    · exact Nat.zero_le _
    · rw [h1, h2] at this; cases this
    · exact Nat.le_refl _
  · rw [bi_hi (C := 6) hL (by omega)]
    exact Nat.zero_le _
theorem m64 (d k : Nat) : nI d * 64 + nI k = nI (64 * d + k) := by
  rw [show (64 : Int32) = nI 64 from rfl, nI_mul, nI_add, Nat.mul_comm]
section PL
variable {σ τ : Nat → Nat → Int32} {v s C : Nat} {q : Nat → Nat} {e1 e2 : Int64} {ch ow np ds : Nat → Nat}
theorem c_hasListed {h : xH} (G : Pg h σ τ v s q e1 e2) {m d S : Nat} (m64' : m ≤ 64) (d4 : d < 4) (em : σ 60 d = nI m) : ∃ r, xC M_Planner_hasListedSetIn [.ref 55, .int (nI S), .int (nI d)] h = some (some (.int r), h) ∧ ((r = 1 ∧ ∃ k, k < m ∧ sbI (σ 59 (64 * d + k)) (nI S)) ∨ (r = 0 ∧ ∀ k, k < m → ¬ sbI (σ 59 (64 * d + k)) (nI S))) := by
  have f9 := hR G.1 55 4 9 59 rfl rfl
  have f10 := hR G.1 55 4 10 60 rfl rfl
  have r59 := hA G.1 59 0 256 rfl rfl
  have r60 := hA G.1 60 0 4 rfl rfl
  have id := xin_nI d4 (by decide)
  have cd := nI_clamp (show d < 2 ^ 31 by omega)
  have key := loop_dn (t := m) (P := fun i => (∀ k, k < i → ¬ sbI (σ 59 (64 * d + k)) (nI S)) → ∃ r, xR none 0 M_Planner_hasListedSetIn 2 [some (.ref 55), some (.int (nI S)), some (.int (nI d)), some (.int (nI i))] [] h = some (some (.int r), h) ∧ ((r = 1 ∧ ∃ k, k < m ∧ sbI (σ 59 (64 * d + k)) (nI S)) ∨ (r = 0 ∧ ∀ k, k < m → ¬ sbI (σ 59 (64 * d + k)) (nI S)))) ?_ ?_ 0 (Nat.zero_le _)
  · obtain ⟨r, c, p⟩ := key (fun k hk => by omega)
    refine ⟨r, ?_, p⟩
    rw [nI_0] at c
    simp only [k_Planner_hasListedSetIn, e_Planner_hasListedSetIn_0, e_Planner_hasListedSetIn_1]
    exact c
  · intro hh
    refine ⟨0, ?_, Or.inr ⟨rfl, hh⟩⟩
    simp only [e_Planner_hasListedSetIn_2, e_Planner_hasListedSetIn_3, e_Planner_hasListedSetIn_4, e_Planner_hasListedSetIn_7, e_Planner_hasListedSetIn_8, e_Planner_hasListedSetIn_9, e_Planner_hasListedSetIn_38, e_Planner_hasListedSetIn_39, m_get, m_put, m_ia, m_is, m_la, m_ls, fl_sf, fl_sa, fl_sl, fl_sq, ar_sf, ar_sa, ar_sl, ar_sq, lr_sf, lr_sa, lr_sl, lr_sq, qr_sf, qr_sa, qr_sl, qr_sq, sf_1, sf_2, sa_1, sa_2, sl_1, sl_2, Option.isSome_some, Option.map_some, Option.map_none, Option.toList_some, Option.toList_none, List.nil_append, List.cons_append, List.singleton_append, if_true, if_false, ↓reduceIte, and_self, and_true, true_and, and_false, false_and, not_true, not_false_iff, reduceCtorEq, Nat.reduceEqDiff, Nat.reduceAdd, Nat.reduceSub, Nat.reduceMul, Nat.reduceLT, Nat.reduceLeDiff, Nat.reduceBEq, eq_self, ne_eq, Nat.add_eq_zero_iff, Nat.add_left_cancel_iff, Nat.add_right_cancel_iff, Nat.left_eq_add, Nat.add_eq_left, Bool.true_or, Bool.or_true, Bool.or_self, or_self, or_true, true_or, or_false, false_or, decide_true, decide_false, i_10, i_01, f10, r60, id, cd, em, Int32.le_refl]
  · intro i hi ih hh
    have q1 : ¬ nI m ≤ nI i := nI_ge hi (by omega)
    have ii := xin_nI (show 64 * d + i < 256 by omega) (by decide)
    have ci := nI_clamp (show 64 * d + i < 2 ^ 31 by omega)
    have mm := m64 d i
    rw [e_Planner_hasListedSetIn_2]
    by_cases w : sbI (σ 59 (64 * d + i)) (nI S)
    · refine ⟨1, ?_, Or.inl ⟨rfl, i, hi, w⟩⟩
      unfold sbI at w
      simp only [e_Planner_hasListedSetIn_3, e_Planner_hasListedSetIn_4, e_Planner_hasListedSetIn_7, e_Planner_hasListedSetIn_8, e_Planner_hasListedSetIn_9, e_Planner_hasListedSetIn_12, e_Planner_hasListedSetIn_13, e_Planner_hasListedSetIn_16, e_Planner_hasListedSetIn_17, e_Planner_hasListedSetIn_19, e_Planner_hasListedSetIn_20, e_Planner_hasListedSetIn_21, e_Planner_hasListedSetIn_22, e_Planner_hasListedSetIn_23, e_Planner_hasListedSetIn_24, e_Planner_hasListedSetIn_25, e_Planner_hasListedSetIn_26, e_Planner_hasListedSetIn_27, e_Planner_hasListedSetIn_30, e_Planner_hasListedSetIn_31, m_get, m_put, m_ia, m_is, m_la, m_ls, fl_sf, fl_sa, fl_sl, fl_sq, ar_sf, ar_sa, ar_sl, ar_sq, lr_sf, lr_sa, lr_sl, lr_sq, qr_sf, qr_sa, qr_sl, qr_sq, sf_1, sf_2, sa_1, sa_2, sl_1, sl_2, Option.isSome_some, Option.map_some, Option.map_none, Option.toList_some, Option.toList_none, List.nil_append, List.cons_append, List.singleton_append, if_true, if_false, ↓reduceIte, and_self, and_true, true_and, and_false, false_and, not_true, not_false_iff, reduceCtorEq, Nat.reduceEqDiff, Nat.reduceAdd, Nat.reduceSub, Nat.reduceMul, Nat.reduceLT, Nat.reduceLeDiff, Nat.reduceBEq, eq_self, ne_eq, Nat.add_eq_zero_iff, Nat.add_left_cancel_iff, Nat.add_right_cancel_iff, Nat.left_eq_add, Nat.add_eq_left, Bool.true_or, Bool.or_true, Bool.or_self, or_self, or_true, true_or, or_false, false_or, decide_true, decide_false, i_10, i_01, f9, f10, r59, r60, id, cd, em, q1, mm, ii, ci, w]
    · obtain ⟨r, c, p⟩ := ih (fun k hk => by
        by_cases y : k = i
        · rw [y]; exact w
        · exact hh k (by omega))
      refine ⟨r, ?_, p⟩
      unfold sbI at w
      rw [← nI_1] at c
      simp only [e_Planner_hasListedSetIn_3, e_Planner_hasListedSetIn_4, e_Planner_hasListedSetIn_7, e_Planner_hasListedSetIn_8, e_Planner_hasListedSetIn_9, e_Planner_hasListedSetIn_12, e_Planner_hasListedSetIn_13, e_Planner_hasListedSetIn_16, e_Planner_hasListedSetIn_17, e_Planner_hasListedSetIn_19, e_Planner_hasListedSetIn_20, e_Planner_hasListedSetIn_21, e_Planner_hasListedSetIn_22, e_Planner_hasListedSetIn_23, e_Planner_hasListedSetIn_24, e_Planner_hasListedSetIn_25, e_Planner_hasListedSetIn_26, e_Planner_hasListedSetIn_27, e_Planner_hasListedSetIn_30, e_Planner_hasListedSetIn_31, e_Planner_hasListedSetIn_32, e_Planner_hasListedSetIn_35, m_get, m_put, m_ia, m_is, m_la, m_ls, fl_sf, fl_sa, fl_sl, fl_sq, ar_sf, ar_sa, ar_sl, ar_sq, lr_sf, lr_sa, lr_sl, lr_sq, qr_sf, qr_sa, qr_sl, qr_sq, sf_1, sf_2, sa_1, sa_2, sl_1, sl_2, Option.isSome_some, Option.map_some, Option.map_none, Option.toList_some, Option.toList_none, List.nil_append, List.cons_append, List.singleton_append, if_true, if_false, ↓reduceIte, and_self, and_true, true_and, and_false, false_and, not_true, not_false_iff, reduceCtorEq, Nat.reduceEqDiff, Nat.reduceAdd, Nat.reduceSub, Nat.reduceMul, Nat.reduceLT, Nat.reduceLeDiff, Nat.reduceBEq, eq_self, ne_eq, Nat.add_eq_zero_iff, Nat.add_left_cancel_iff, Nat.add_right_cancel_iff, Nat.left_eq_add, Nat.add_eq_left, Bool.true_or, Bool.or_true, Bool.or_self, or_self, or_true, true_or, or_false, false_or, decide_true, decide_false, i_10, i_01, f9, f10, r59, r60, id, cd, em, q1, mm, ii, ci, w]
      exact c
theorem c_listSets {h : xH} (G : Pg h σ τ v s q e1 e2) {d : Nat} {x : Int64} (d4 : d < 4) (fx : fl h 55 4 8 = some (.long x)) : ∃ h' σ', xC M_Planner_listSets [.ref 55, .int (nI d)] h = some (none, h') ∧ Pg h' σ' τ v s q e1 e2 ∧ fl h' 55 4 8 = some (.long x) ∧ ((∀ b, b ≠ 59 → b ≠ 60 → σ' b = σ b) ∧ (∀ e, e ≠ d → σ' 60 e = σ 60 e) ∧ (∀ k, ¬ (64 * d ≤ k ∧ k < 64 * d + 64) → σ' 59 k = σ 59 k)) ∧ (∃ m, m ≤ 64 ∧ σ' 60 d = nI m ∧ (∀ k, k < m → ∃ L, L < 64 ∧ σ' 59 (64 * d + k) = nI L ∧ bl x L = true) ∧ (∀ L, L < 64 → bl x L = true → ∃ k, k < m ∧ sbI (σ' 59 (64 * d + k)) (nI L))) := by
  have id := xin_nI d4 (by decide)
  have cd := nI_clamp (show d < 2 ^ 31 by omega)
  have key := loop_dn (t := 64) (P := fun S => ∀ (g : xH) (σg : Nat → Nat → Int32) (m : Nat), Pg g σg τ v s q e1 e2 → fl g 55 4 8 = some (.long x) → ((∀ b, b ≠ 59 → b ≠ 60 → σg b = σ b) ∧ (∀ e, e ≠ d → σg 60 e = σ 60 e) ∧ (∀ k, ¬ (64 * d ≤ k ∧ k < 64 * d + 64) → σg 59 k = σ 59 k)) → m ≤ S → σg 60 d = nI m → (∀ k, k < m → ∃ L, L < 64 ∧ σg 59 (64 * d + k) = nI L ∧ bl x L = true) → (∀ L, L < S → bl x L = true → ∃ k, k < m ∧ sbI (σg 59 (64 * d + k)) (nI L)) → ∃ h' σ', xR none 1 M_Planner_listSets 9 [some (.ref 55), some (.int (nI d)), some (.int (nI S))] [] g = some (none, h') ∧ Pg h' σ' τ v s q e1 e2 ∧ fl h' 55 4 8 = some (.long x) ∧ ((∀ b, b ≠ 59 → b ≠ 60 → σ' b = σ b) ∧ (∀ e, e ≠ d → σ' 60 e = σ 60 e) ∧ (∀ k, ¬ (64 * d ≤ k ∧ k < 64 * d + 64) → σ' 59 k = σ 59 k)) ∧ (∃ m, m ≤ 64 ∧ σ' 60 d = nI m ∧ (∀ k, k < m → ∃ L, L < 64 ∧ σ' 59 (64 * d + k) = nI L ∧ bl x L = true) ∧ (∀ L, L < 64 → bl x L = true → ∃ k, k < m ∧ sbI (σ' 59 (64 * d + k)) (nI L)))) ?_ ?_ 0 (Nat.zero_le _)
  · have G1 := Pg_sa (t := 0) (n := 4) G (a := 60) rfl rfl (upd (σ 60) d 0)
    obtain ⟨h', σ', c, rest⟩ := key _ _ 0 G1 (by rw [fl_sa]; exact fx) ⟨fun b n1 n2 => by rw [us, if_neg n2], fun e he => by show upd (σ 60) d 0 e = _; rw [upd, if_neg he], fun k _ => rfl⟩ (Nat.le_refl _) (by show upd (σ 60) d 0 d = _; rw [upd, if_pos rfl]; rfl) (fun k hk => by omega) (fun L hL => by omega)
    refine ⟨h', σ', ?_, rest⟩
    rw [nI_0] at c
    have f10 := hR G.1 55 4 10 60 rfl rfl
    have r60 := hA G.1 60 0 4 rfl rfl
    simp only [k_Planner_listSets, e_Planner_listSets_0, e_Planner_listSets_1, e_Planner_listSets_4, e_Planner_listSets_5, e_Planner_listSets_6, e_Planner_listSets_7, e_Planner_listSets_8, m_get, m_put, m_ia, m_is, m_la, m_ls, fl_sf, fl_sa, fl_sl, fl_sq, ar_sf, ar_sa, ar_sl, ar_sq, lr_sf, lr_sa, lr_sl, lr_sq, qr_sf, qr_sa, qr_sl, qr_sq, sf_1, sf_2, sa_1, sa_2, sl_1, sl_2, Option.isSome_some, Option.map_some, Option.map_none, Option.toList_some, Option.toList_none, List.nil_append, List.cons_append, List.singleton_append, if_true, if_false, ↓reduceIte, and_self, and_true, true_and, and_false, false_and, not_true, not_false_iff, reduceCtorEq, Nat.reduceEqDiff, Nat.reduceAdd, Nat.reduceSub, Nat.reduceMul, Nat.reduceLT, Nat.reduceLeDiff, Nat.reduceBEq, eq_self, ne_eq, Nat.add_eq_zero_iff, Nat.add_left_cancel_iff, Nat.add_right_cancel_iff, Nat.left_eq_add, Nat.add_eq_left, Bool.true_or, Bool.or_true, Bool.or_self, or_self, or_true, true_or, or_false, false_or, decide_true, decide_false, i_10, i_01, f10, r60, id, cd]
    exact c
  · intro g σg m Gg fg hf hm em h1 h2
    refine ⟨g, σg, ?_, Gg, fg, hf, m, hm, em, h1, h2⟩
    have z : (64 : Int32) ≤ nI 64 := Int32.le_refl _
    simp only [e_Planner_listSets_9, e_Planner_listSets_10, e_Planner_listSets_12, e_Planner_listSets_70, Option.isSome_some, Option.map_some, Option.map_none, Option.toList_some, Option.toList_none, List.nil_append, List.cons_append, List.singleton_append, if_true, if_false, ↓reduceIte, and_self, and_true, true_and, and_false, false_and, not_true, not_false_iff, reduceCtorEq, Nat.reduceEqDiff, Nat.reduceAdd, Nat.reduceSub, Nat.reduceMul, Nat.reduceLT, Nat.reduceLeDiff, Nat.reduceBEq, eq_self, ne_eq, Nat.add_eq_zero_iff, Nat.add_left_cancel_iff, Nat.add_right_cancel_iff, Nat.left_eq_add, Nat.add_eq_left, Bool.true_or, Bool.or_true, Bool.or_self, or_self, or_true, true_or, or_false, false_or, decide_true, decide_false, i_10, i_01, z]
  · intro S hS ih g σg m Gg fg hf hm em h1 h2
    have q1 : ¬ (64 : Int32) ≤ nI S := nI_ge (b := 64) hS (by omega)
    have bz := bl_z S hS x
    rw [e_Planner_listSets_9]
    have skip : (bl x S = true → ∃ k, k < m ∧ sbI (σg 59 (64 * d + k)) (nI S)) → ∃ h' σ', xR none 1 M_Planner_listSets 9 [some (.ref 55), some (.int (nI d)), some (.int (nI (S + 1)))] [] g = some (none, h') ∧ Pg h' σ' τ v s q e1 e2 ∧ fl h' 55 4 8 = some (.long x) ∧ ((∀ b, b ≠ 59 → b ≠ 60 → σ' b = σ b) ∧ (∀ e, e ≠ d → σ' 60 e = σ 60 e) ∧ (∀ k, ¬ (64 * d ≤ k ∧ k < 64 * d + 64) → σ' 59 k = σ 59 k)) ∧ (∃ m, m ≤ 64 ∧ σ' 60 d = nI m ∧ (∀ k, k < m → ∃ L, L < 64 ∧ σ' 59 (64 * d + k) = nI L ∧ bl x L = true) ∧ (∀ L, L < 64 → bl x L = true → ∃ k, k < m ∧ sbI (σ' 59 (64 * d + k)) (nI L))) := fun hs => ih g σg m Gg fg hf (by omega) em h1 (fun L hL hb => by
      by_cases y : L = S
      · rw [y] at hb ⊢
        exact hs hb
      · exact h2 L (by omega) hb)
    by_cases w : bl x S = true
    · have wz : ¬ (((x.toUInt64 >>> ((nI S).toInt64.toUInt64 &&& Int64.toUInt64 63)).toInt64) &&& 1 = 0) := fun y => by rw [bz.mp y] at w; cases w
      have wz' : ¬ lg_cmp (((x.toUInt64 >>> ((nI S).toInt64.toUInt64 &&& Int64.toUInt64 63)).toInt64) &&& 1) 0 = 0 := fun y => wz ((lg0 _ _).mp y)
      obtain ⟨r, cr, pr⟩ := c_hasListed Gg (S := S) (show m ≤ 64 by omega) d4 em
      have ca := call_v (lv := 1) cr (Pg_is Gg) (by decide) (Nat.le_of_ble_eq_true rfl)
      rcases pr with ⟨r1, ex⟩ | ⟨r0, nex⟩
      · subst r1
        obtain ⟨h', σ', c, rest⟩ := skip (fun _ => ex)
        refine ⟨h', σ', ?_, rest⟩
        rw [← nI_1] at c
        simp only [e_Planner_listSets_10, e_Planner_listSets_12, e_Planner_listSets_15, e_Planner_listSets_16, e_Planner_listSets_19, e_Planner_listSets_20, e_Planner_listSets_21, e_Planner_listSets_22, e_Planner_listSets_23, e_Planner_listSets_24, e_Planner_listSets_25, e_Planner_listSets_28, e_Planner_listSets_29, e_Planner_listSets_30, e_Planner_listSets_31, e_Planner_listSets_34, e_Planner_listSets_37, e_Planner_listSets_38, e_Planner_listSets_41, e_Planner_listSets_42, e_Planner_listSets_44, e_Planner_listSets_45, e_Planner_listSets_46, e_Planner_listSets_49, e_Planner_listSets_50, e_Planner_listSets_51, e_Planner_listSets_52, e_Planner_listSets_53, e_Planner_listSets_54, e_Planner_listSets_55, e_Planner_listSets_58, e_Planner_listSets_59, e_Planner_listSets_60, e_Planner_listSets_61, e_Planner_listSets_62, e_Planner_listSets_63, e_Planner_listSets_64, e_Planner_listSets_67, m_get, m_put, m_ia, m_is, m_la, m_ls, fl_sf, fl_sa, fl_sl, fl_sq, ar_sf, ar_sa, ar_sl, ar_sq, lr_sf, lr_sa, lr_sl, lr_sq, qr_sf, qr_sa, qr_sl, qr_sq, sf_1, sf_2, sa_1, sa_2, sl_1, sl_2, Option.isSome_some, Option.map_some, Option.map_none, Option.toList_some, Option.toList_none, List.nil_append, List.cons_append, List.singleton_append, if_true, if_false, ↓reduceIte, and_self, and_true, true_and, and_false, false_and, not_true, not_false_iff, reduceCtorEq, Nat.reduceEqDiff, Nat.reduceAdd, Nat.reduceSub, Nat.reduceMul, Nat.reduceLT, Nat.reduceLeDiff, Nat.reduceBEq, eq_self, ne_eq, Nat.add_eq_zero_iff, Nat.add_left_cancel_iff, Nat.add_right_cancel_iff, Nat.left_eq_add, Nat.add_eq_left, Bool.true_or, Bool.or_true, Bool.or_self, or_self, or_true, true_or, or_false, false_or, decide_true, decide_false, i_10, i_01, fg, q1, wz', ca]
        exact c
      · subst r0
        have f9 := hR Gg.1 55 4 9 59 rfl rfl
        have f10 := hR Gg.1 55 4 10 60 rfl rfl
        have r59 := hA Gg.1 59 0 256 rfl rfl
        have r60 := hA Gg.1 60 0 4 rfl rfl
        have mm := m64 d m
        have im := xin_nI (show 64 * d + m < 256 by omega) (by decide)
        have cm := nI_clamp (show 64 * d + m < 2 ^ 31 by omega)
        have G2 := Pg_sa (t := 0) (n := 4) (Pg_sa (t := 0) (n := 256) Gg (a := 59) rfl rfl (upd (σg 59) (64 * d + m) (nI S))) (a := 60) rfl rfl (upd (σg 60) d (nI m + 1))
        obtain ⟨h', σ', c, rest⟩ := ih _ _ (m + 1) G2 (by rw [fl_sa, fl_sa]; exact fg) ⟨fun b n1 n2 => by rw [us, if_neg n2, us, if_neg n1]; exact hf.1 b n1 n2, fun e he => by show upd (σg 60) d _ e = _; rw [upd, if_neg he]; exact hf.2.1 e he, fun k hk => by show upd (σg 59) _ _ k = _; rw [upd, if_neg (by omega)]; exact hf.2.2 k hk⟩ (by omega) (by show upd (σg 60) d _ d = _; rw [upd, if_pos rfl, nI_1]) (fun k hk => by
          show ∃ L, L < 64 ∧ upd (σg 59) (64 * d + m) (nI S) (64 * d + k) = nI L ∧ _
          rw [upd]
          by_cases y : k = m
          · rw [if_pos (by omega)]
            exact ⟨S, hS, rfl, w⟩
          · rw [if_neg (by omega)]
            exact h1 k (by omega)) (fun L hL hb => by
          show ∃ k, k < m + 1 ∧ sbI (upd (σg 59) (64 * d + m) (nI S) (64 * d + k)) (nI L)
          by_cases y : L = S
          · refine ⟨m, by omega, ?_⟩
            rw [upd, if_pos rfl, y]
            exact sbI_refl _
          · obtain ⟨k, k1, k2⟩ := h2 L (by omega) hb
            refine ⟨k, by omega, ?_⟩
            rw [upd, if_neg (by omega)]
            exact k2)
        refine ⟨h', σ', ?_, rest⟩
        rw [← nI_1] at c
        simp only [e_Planner_listSets_10, e_Planner_listSets_12, e_Planner_listSets_15, e_Planner_listSets_16, e_Planner_listSets_19, e_Planner_listSets_20, e_Planner_listSets_21, e_Planner_listSets_22, e_Planner_listSets_23, e_Planner_listSets_24, e_Planner_listSets_25, e_Planner_listSets_28, e_Planner_listSets_29, e_Planner_listSets_30, e_Planner_listSets_31, e_Planner_listSets_34, e_Planner_listSets_37, e_Planner_listSets_38, e_Planner_listSets_41, e_Planner_listSets_42, e_Planner_listSets_44, e_Planner_listSets_45, e_Planner_listSets_46, e_Planner_listSets_49, e_Planner_listSets_50, e_Planner_listSets_51, e_Planner_listSets_52, e_Planner_listSets_53, e_Planner_listSets_54, e_Planner_listSets_55, e_Planner_listSets_58, e_Planner_listSets_59, e_Planner_listSets_60, e_Planner_listSets_61, e_Planner_listSets_62, e_Planner_listSets_63, e_Planner_listSets_64, e_Planner_listSets_67, m_get, m_put, m_ia, m_is, m_la, m_ls, fl_sf, fl_sa, fl_sl, fl_sq, ar_sf, ar_sa, ar_sl, ar_sq, lr_sf, lr_sa, lr_sl, lr_sq, qr_sf, qr_sa, qr_sl, qr_sq, sf_1, sf_2, sa_1, sa_2, sl_1, sl_2, Option.isSome_some, Option.map_some, Option.map_none, Option.toList_some, Option.toList_none, List.nil_append, List.cons_append, List.singleton_append, if_true, if_false, ↓reduceIte, and_self, and_true, true_and, and_false, false_and, not_true, not_false_iff, reduceCtorEq, Nat.reduceEqDiff, Nat.reduceAdd, Nat.reduceSub, Nat.reduceMul, Nat.reduceLT, Nat.reduceLeDiff, Nat.reduceBEq, eq_self, ne_eq, Nat.add_eq_zero_iff, Nat.add_left_cancel_iff, Nat.add_right_cancel_iff, Nat.left_eq_add, Nat.add_eq_left, Bool.true_or, Bool.or_true, Bool.or_self, or_self, or_true, true_or, or_false, false_or, decide_true, decide_false, i_10, i_01, fg, q1, wz', ca, f9, f10, r59, r60, id, cd, em, mm, im, cm]
        exact c
    · have wz : lg_cmp (((x.toUInt64 >>> ((nI S).toInt64.toUInt64 &&& Int64.toUInt64 63)).toInt64) &&& 1) 0 = 0 := (lg0 _ _).mpr (bz.mpr (by simpa using w))
      obtain ⟨h', σ', c, rest⟩ := skip (fun y => absurd y w)
      refine ⟨h', σ', ?_, rest⟩
      rw [← nI_1] at c
      simp only [e_Planner_listSets_10, e_Planner_listSets_12, e_Planner_listSets_15, e_Planner_listSets_16, e_Planner_listSets_19, e_Planner_listSets_20, e_Planner_listSets_21, e_Planner_listSets_22, e_Planner_listSets_23, e_Planner_listSets_24, e_Planner_listSets_25, e_Planner_listSets_28, e_Planner_listSets_29, e_Planner_listSets_30, e_Planner_listSets_31, e_Planner_listSets_34, e_Planner_listSets_37, e_Planner_listSets_38, e_Planner_listSets_41, e_Planner_listSets_42, e_Planner_listSets_44, e_Planner_listSets_45, e_Planner_listSets_46, e_Planner_listSets_49, e_Planner_listSets_50, e_Planner_listSets_51, e_Planner_listSets_52, e_Planner_listSets_53, e_Planner_listSets_54, e_Planner_listSets_55, e_Planner_listSets_58, e_Planner_listSets_59, e_Planner_listSets_60, e_Planner_listSets_61, e_Planner_listSets_62, e_Planner_listSets_63, e_Planner_listSets_64, e_Planner_listSets_67, m_get, m_put, m_ia, m_is, m_la, m_ls, fl_sf, fl_sa, fl_sl, fl_sq, ar_sf, ar_sa, ar_sl, ar_sq, lr_sf, lr_sa, lr_sl, lr_sq, qr_sf, qr_sa, qr_sl, qr_sq, sf_1, sf_2, sa_1, sa_2, sl_1, sl_2, Option.isSome_some, Option.map_some, Option.map_none, Option.toList_some, Option.toList_none, List.nil_append, List.cons_append, List.singleton_append, if_true, if_false, ↓reduceIte, and_self, and_true, true_and, and_false, false_and, not_true, not_false_iff, reduceCtorEq, Nat.reduceEqDiff, Nat.reduceAdd, Nat.reduceSub, Nat.reduceMul, Nat.reduceLT, Nat.reduceLeDiff, Nat.reduceBEq, eq_self, ne_eq, Nat.add_eq_zero_iff, Nat.add_left_cancel_iff, Nat.add_right_cancel_iff, Nat.left_eq_add, Nat.add_eq_left, Bool.true_or, Bool.or_true, Bool.or_self, or_self, or_true, true_or, or_false, false_or, decide_true, decide_false, i_10, i_01, fg, q1, wz]
      exact c
end PL
