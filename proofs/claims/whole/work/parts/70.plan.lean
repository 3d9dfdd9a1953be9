/-! A day's plan. -/
section PD
variable {v s C : Nat} {q : Nat → Nat} {e1 e2 : Int64} {pr li : Nat → Nat → Nat} {lc : Nat → Nat} {ch ow np ds : Nat → Nat} {kn : Nat → Int32}
theorem c_planDay {d r T tgt : Nat} (hrd : r + 1 + d = 4) (tok : Tok C d T) (tg : tgt < 2 ^ 31) : ∀ k i a U h σ τ, Pg h σ τ v s q e1 e2 → Pq σ τ v C ch ow np ds → Pr σ τ C pr li lc → Mem σ C pr li lc → σ (v + 2) = kn → i + k = ds (d + 1) → ds d ≤ i → DF C (okP kn ow np ch) a (ds d) i → (∀ c, c < C → (bt U c = true ↔ ∃ j, ds d ≤ j ∧ j < i ∧ a j = c)) → τ 55 16 = nI tgt → ∃ r' h' σ' τ', xC M_Planner_planDay [.ref 55, .int (nI d), .int (nI i), .int U, .int (nI (msk (lnP ow np ch) a (ds d) (i - ds d))), .int (nI T)] h = some (some (.int r'), h') ∧ (Pg h' σ' τ' v s q e1 e2 ∧ Mem σ' C pr li lc ∧ (∀ b, b ≠ 63 → b ≠ 64 → σ' b = σ b) ∧ (∀ j, j < i → σ' 64 j = σ 64 j) ∧ (∀ a k, ¬ (a = 55 ∧ k = 15) → τ' a k = τ a k)) ∧ ((r' = 1 ∧ ∃ a', (∀ j, j < i → a' j = a j) ∧ DF C (okP kn ow np ch) a' (ds d) (ds (d + 1)) ∧ csT C pr (mks (lnP ow np ch) ds a' d) T + cfT C pr li lc r (d + 1) (T + tlN (mks (lnP ow np ch) ds a' d)) = tgt ∧ (∀ b, (∀ j, j < i → b j = a j) → DF C (okP kn ow np ch) b (ds d) (ds (d + 1)) → csT C pr (mks (lnP ow np ch) ds b d) T + cfT C pr li lc r (d + 1) (T + tlN (mks (lnP ow np ch) ds b d)) = tgt → ¬ lxl b a' (ds d) (ds (d + 1))) ∧ τ' 55 15 = nI (mks (lnP ow np ch) ds a' d) ∧ ∀ j, i ≤ j → j < ds (d + 1) → σ' 64 j = nI (ch (a' j))) ∨ (r' = 0 ∧ ∀ a', (∀ j, j < i → a' j = a j) → DF C (okP kn ow np ch) a' (ds d) (ds (d + 1)) → ¬ csT C pr (mks (lnP ow np ch) ds a' d) T + cfT C pr li lc r (d + 1) (T + tlN (mks (lnP ow np ch) ds a' d)) = tgt))
  | 0, i, a, U, h, σ, τ, G, Q, R, Me, ek, hi, hl, hD, hU, et => by
    have C6 := Q.1.1
    have p4 := p4_le C6
    have T4 : T < 4096 := Nat.lt_of_lt_of_le tok.1 p4
    have e : i = ds (d + 1) := by omega
    have m8 := ds_le Q.2.2.1.2 (show d + 1 ≤ 4 by omega) (Nat.le_refl _)
    have m8' := Q.2.1.1
    have LL : (msk (lnP ow np ch) a (ds d) (i - ds d)) = mks (lnP ow np ch) ds a d := by rw [e]; rfl
    have L2 : mks (lnP ow np ch) ds a d < 2 ^ C := by
      rw [← LL]
      exact msk_lt _ (fun j h1 h2 => (hD j h1 (by omega)).1)
    have L6 := L64 C6 L2
    rw [LL]
    have G1 := Pg_sf G (a := 55) (c := 4) (k := 15) rfl rfl (nI (mks (lnP ow np ch) ds a d))
    have R1 : Pr σ (ut τ 55 15 (nI (mks (lnP ow np ch) ds a d))) C pr li lc := by
      unfold Pr at *
      rw [show ut τ 55 15 (nI (mks (lnP ow np ch) ds a d)) 55 2 = τ 55 2 from by rw [ut, if_neg (by omega)]]
      exact R
    have tl := tl_lt (mks (lnP ow np ch) ds a d)
    have c1 := call_v (lv := 7 + (9 - (nI i).toNatClampNeg)) (c_costOfSet G1 R1 (L := mks (lnP ow np ch) ds a d) (T := T) (by omega)) (Pg_is G1) (by decide) (show 0 < 7 + (9 - (nI i).toNatClampNeg) by omega)
    obtain ⟨h2, σ2, c2, G2, M2', k2⟩ := c_costFrom r (d + 1) (T + tlN (mks (lnP ow np ch) ds a d)) _ σ (by omega) G1 R1 Me (by omega) (fun _ => (T_step C6 (by omega) tok L2).1)
    have c2' := call_v (lv := 7 + (9 - (nI i).toNatClampNeg)) c2 (Pg_is G1) (by decide) (show 1 + (5 - (nI (d + 1)).toNatClampNeg) < 7 + (9 - (nI i).toNatClampNeg) by omega)
    have f6 := hR G.1 55 4 6 58 rfl rfl
    have r58 := hA G.1 58 0 5 rfl rfl
    have e58 := Q.2.2.2.1 (d + 1) (by omega)
    have f11 := hR G.1 55 4 11 61 rfl rfl
    have r61 := hA G.1 61 0 64 rfl rfl
    have e61 := R.2.2.2.1 _ L6
    have f15 := hI G.1 55 4 15 rfl rfl
    have f16 := hI G2.1 55 4 16 rfl rfl
    rw [show ut τ 55 15 (nI (mks (lnP ow np ch) ds a d)) 55 16 = τ 55 16 from by rw [ut, if_neg (by omega)], et] at f16
    have i1 := xin_nI (show d + 1 < 5 by omega) (by decide)
    have c5 := nI_clamp (show d + 1 < 2 ^ 31 by omega)
    have iL := xin_nI L6 (by decide)
    have cL := nI_clamp (show mks (lnP ow np ch) ds a d < 2 ^ 31 by omega)
    have b1 := cs_bd R.2.2.2.2 (mks (lnP ow np ch) ds a d) T C
    have b2 := cfT_up (C := C) (pr := pr) (li := li) (lc := lc) r (d + 1) (T + tlN (mks (lnP ow np ch) ds a d))
    have le : nI (ds (d + 1)) ≤ nI i := by rw [e]; exact Int32.le_refl _
    have same : ∀ a', (∀ j, j < i → a' j = a j) → mks (lnP ow np ch) ds a' d = mks (lnP ow np ch) ds a d := fun a' h1 => msk_cg _ (fun j h3 h4 => h1 j (by
      have := Q.2.2.1.2 d (by omega)
      omega))
    by_cases w : csT C pr (mks (lnP ow np ch) ds a d) T + cfT C pr li lc r (d + 1) (T + tlN (mks (lnP ow np ch) ds a d)) = tgt
    · refine ⟨1, h2, σ2, _, ?_, ⟨G2, M2', fun b n1 _ => k2 b n1, fun j _ => by rw [k2 64 (by omega)], fun a k hk => by rw [ut, if_neg hk]⟩, Or.inl ⟨rfl, a, fun _ _ => rfl, by rw [← e]; exact hD, w, fun b h1 _ _ hx => ?_, by simp only [ut, and_self, if_true], fun j h1 h2 => by omega⟩⟩
      · simp only [k_Planner_planDay, e_Planner_planDay_0, e_Planner_planDay_1, e_Planner_planDay_2, e_Planner_planDay_5, e_Planner_planDay_6, e_Planner_planDay_7, e_Planner_planDay_8, e_Planner_planDay_9, e_Planner_planDay_12, e_Planner_planDay_13, e_Planner_planDay_15, e_Planner_planDay_18, e_Planner_planDay_19, e_Planner_planDay_21, e_Planner_planDay_24, e_Planner_planDay_25, e_Planner_planDay_27, e_Planner_planDay_29, e_Planner_planDay_32, e_Planner_planDay_33, e_Planner_planDay_34, e_Planner_planDay_35, e_Planner_planDay_36, e_Planner_planDay_38, e_Planner_planDay_39, e_Planner_planDay_42, e_Planner_planDay_44, e_Planner_planDay_45, e_Planner_planDay_46, e_Planner_planDay_49, e_Planner_planDay_50, e_Planner_planDay_51, e_Planner_planDay_54, e_Planner_planDay_57, e_Planner_planDay_58, e_Planner_planDay_61, e_Planner_planDay_62, m_get, m_put, m_ia, m_is, m_la, m_ls, fl_sf, fl_sa, fl_sl, fl_sq, ar_sf, ar_sa, ar_sl, ar_sq, lr_sf, lr_sa, lr_sl, lr_sq, qr_sf, qr_sa, qr_sl, qr_sq, sf_1, sf_2, sa_1, sa_2, sl_1, sl_2, Option.isSome_some, Option.map_some, Option.map_none, Option.toList_some, Option.toList_none, List.nil_append, List.cons_append, List.singleton_append, if_true, if_false, ↓reduceIte, and_self, and_true, true_and, and_false, false_and, not_true, not_false_iff, reduceCtorEq, Nat.reduceEqDiff, Nat.reduceAdd, Nat.reduceSub, Nat.reduceMul, Nat.reduceLT, Nat.reduceLeDiff, Nat.reduceBEq, eq_self, ne_eq, Nat.add_eq_zero_iff, Nat.add_left_cancel_iff, Nat.add_right_cancel_iff, Nat.left_eq_add, Nat.add_eq_left, Bool.true_or, Bool.or_true, Bool.or_self, or_self, or_true, true_or, or_false, false_or, decide_true, decide_false, i_10, i_01, f6, r58, nI_1, i1, c5, e58, le, f15, c1, f11, r61, iL, cL, e61, nI_add, c2', f16, w]
      · obtain ⟨k, k1, k2', _, k4⟩ := hx
        rw [h1 k (by omega)] at k4
        omega
    · have wz : ¬ nI (csT C pr (mks (lnP ow np ch) ds a d) T + cfT C pr li lc r (d + 1) (T + tlN (mks (lnP ow np ch) ds a d))) = nI tgt := fun y => w ((nI_eq (by omega) tg).mp y)
      refine ⟨0, h2, σ2, _, ?_, ⟨G2, M2', fun b n1 _ => k2 b n1, fun j _ => by rw [k2 64 (by omega)], fun a k hk => by rw [ut, if_neg hk]⟩, Or.inr ⟨rfl, fun a' h1 _ => by rw [same a' h1]; exact w⟩⟩
      simp only [k_Planner_planDay, e_Planner_planDay_0, e_Planner_planDay_1, e_Planner_planDay_2, e_Planner_planDay_5, e_Planner_planDay_6, e_Planner_planDay_7, e_Planner_planDay_8, e_Planner_planDay_9, e_Planner_planDay_12, e_Planner_planDay_13, e_Planner_planDay_15, e_Planner_planDay_18, e_Planner_planDay_19, e_Planner_planDay_21, e_Planner_planDay_24, e_Planner_planDay_25, e_Planner_planDay_27, e_Planner_planDay_29, e_Planner_planDay_32, e_Planner_planDay_33, e_Planner_planDay_34, e_Planner_planDay_35, e_Planner_planDay_36, e_Planner_planDay_38, e_Planner_planDay_39, e_Planner_planDay_42, e_Planner_planDay_44, e_Planner_planDay_45, e_Planner_planDay_46, e_Planner_planDay_49, e_Planner_planDay_50, e_Planner_planDay_51, e_Planner_planDay_54, e_Planner_planDay_57, e_Planner_planDay_58, e_Planner_planDay_61, e_Planner_planDay_62, m_get, m_put, m_ia, m_is, m_la, m_ls, fl_sf, fl_sa, fl_sl, fl_sq, ar_sf, ar_sa, ar_sl, ar_sq, lr_sf, lr_sa, lr_sl, lr_sq, qr_sf, qr_sa, qr_sl, qr_sq, sf_1, sf_2, sa_1, sa_2, sl_1, sl_2, Option.isSome_some, Option.map_some, Option.map_none, Option.toList_some, Option.toList_none, List.nil_append, List.cons_append, List.singleton_append, if_true, if_false, ↓reduceIte, and_self, and_true, true_and, and_false, false_and, not_true, not_false_iff, reduceCtorEq, Nat.reduceEqDiff, Nat.reduceAdd, Nat.reduceSub, Nat.reduceMul, Nat.reduceLT, Nat.reduceLeDiff, Nat.reduceBEq, eq_self, ne_eq, Nat.add_eq_zero_iff, Nat.add_left_cancel_iff, Nat.add_right_cancel_iff, Nat.left_eq_add, Nat.add_eq_left, Bool.true_or, Bool.or_true, Bool.or_self, or_self, or_true, true_or, or_false, false_or, decide_true, decide_false, i_10, i_01, f6, r58, nI_1, i1, c5, e58, le, f15, c1, f11, r61, iL, cL, e61, nI_add, c2', f16, wz]
  | k + 1, i, a, U, h, σ, τ, G, Q, R, Me, ek, hi, hl, hD, hU, et => by
    have C6 := Q.1.1
    have ec := Q.1.2
    have m8 := ds_le Q.2.2.1.2 (show d + 1 ≤ 4 by omega) (Nat.le_refl _)
    have m8' := Q.2.1.1
    have ci := nI_clamp (show i < 2 ^ 31 by omega)
    have ii := xin_nI (show i < 8 by omega) (by decide)
    have key := loop_dn (t := C) (P := fun c => ∀ g σg τg (l7 : Option Value), Pg g σg τg v s q e1 e2 → Mem σg C pr li lc → (∀ b, b ≠ 63 → b ≠ 64 → σg b = σ b) → (∀ j, j < i → σg 64 j = σ 64 j) → (∀ a k, ¬ (a = 55 ∧ k = 15) → τg a k = τ a k) → (∀ a', (∀ j, j < i → a' j = a j) → DF C (okP kn ow np ch) a' (ds d) (ds (d + 1)) → csT C pr (mks (lnP ow np ch) ds a' d) T + cfT C pr li lc r (d + 1) (T + tlN (mks (lnP ow np ch) ds a' d)) = tgt → ¬ a' i < c) → ∃ r' h' σ' τ', xR none (7 + (9 - i)) M_Planner_planDay 66 [some (.ref 55), some (.int (nI d)), some (.int (nI i)), some (.int U), some (.int (nI (msk (lnP ow np ch) a (ds d) (i - ds d)))), some (.int (nI T)), some (.int (nI c)), l7] [] g = some (some (.int r'), h') ∧ (Pg h' σ' τ' v s q e1 e2 ∧ Mem σ' C pr li lc ∧ (∀ b, b ≠ 63 → b ≠ 64 → σ' b = σ b) ∧ (∀ j, j < i → σ' 64 j = σ 64 j) ∧ (∀ a k, ¬ (a = 55 ∧ k = 15) → τ' a k = τ a k)) ∧ ((r' = 1 ∧ ∃ a', (∀ j, j < i → a' j = a j) ∧ DF C (okP kn ow np ch) a' (ds d) (ds (d + 1)) ∧ csT C pr (mks (lnP ow np ch) ds a' d) T + cfT C pr li lc r (d + 1) (T + tlN (mks (lnP ow np ch) ds a' d)) = tgt ∧ (∀ b, (∀ j, j < i → b j = a j) → DF C (okP kn ow np ch) b (ds d) (ds (d + 1)) → csT C pr (mks (lnP ow np ch) ds b d) T + cfT C pr li lc r (d + 1) (T + tlN (mks (lnP ow np ch) ds b d)) = tgt → ¬ lxl b a' (ds d) (ds (d + 1))) ∧ τ' 55 15 = nI (mks (lnP ow np ch) ds a' d) ∧ ∀ j, i ≤ j → j < ds (d + 1) → σ' 64 j = nI (ch (a' j))) ∨ (r' = 0 ∧ ∀ a', (∀ j, j < i → a' j = a j) → DF C (okP kn ow np ch) a' (ds d) (ds (d + 1)) → ¬ csT C pr (mks (lnP ow np ch) ds a' d) T + cfT C pr li lc r (d + 1) (T + tlN (mks (lnP ow np ch) ds a' d)) = tgt))) ?_ ?_ 0 (Nat.zero_le _)
    · obtain ⟨r', h', σ', τ', c, rest⟩ := key h σ τ none G Me (fun _ _ _ => rfl) (fun _ _ => rfl) (fun _ _ _ => rfl) (fun a' _ _ _ => by omega)
      refine ⟨r', h', σ', τ', ?_, rest⟩
      have f6 := hR G.1 55 4 6 58 rfl rfl
      have r58 := hA G.1 58 0 5 rfl rfl
      have e58 := Q.2.2.2.1 (d + 1) (by omega)
      have i1 := xin_nI (show d + 1 < 5 by omega) (by decide)
      have c5 := nI_clamp (show d + 1 < 2 ^ 31 by omega)
      have q1 : ¬ nI (ds (d + 1)) ≤ nI i := nI_ge (by omega) (by omega)
      have q2 : nI i < (8 : Int32) := nI_lt (b := 8) (by omega) (by omega)
      rw [nI_0] at c
      simp only [k_Planner_planDay, e_Planner_planDay_0, e_Planner_planDay_1, e_Planner_planDay_2, e_Planner_planDay_5, e_Planner_planDay_6, e_Planner_planDay_7, e_Planner_planDay_8, e_Planner_planDay_9, e_Planner_planDay_12, e_Planner_planDay_13, e_Planner_planDay_15, e_Planner_planDay_63, e_Planner_planDay_64, m_get, m_put, m_ia, m_is, m_la, m_ls, fl_sf, fl_sa, fl_sl, fl_sq, ar_sf, ar_sa, ar_sl, ar_sq, lr_sf, lr_sa, lr_sl, lr_sq, qr_sf, qr_sa, qr_sl, qr_sq, sf_1, sf_2, sa_1, sa_2, sl_1, sl_2, Option.isSome_some, Option.map_some, Option.map_none, Option.toList_some, Option.toList_none, List.nil_append, List.cons_append, List.singleton_append, if_true, if_false, ↓reduceIte, and_self, and_true, true_and, and_false, false_and, not_true, not_false_iff, reduceCtorEq, Nat.reduceEqDiff, Nat.reduceAdd, Nat.reduceSub, Nat.reduceMul, Nat.reduceLT, Nat.reduceLeDiff, Nat.reduceBEq, eq_self, ne_eq, Nat.add_eq_zero_iff, Nat.add_left_cancel_iff, Nat.add_right_cancel_iff, Nat.left_eq_add, Nat.add_eq_left, Bool.true_or, Bool.or_true, Bool.or_self, or_self, or_true, true_or, or_false, false_or, decide_true, decide_false, i_10, i_01, f6, r58, nI_1, i1, c5, e58, q1, q2, ci]
      exact c
    · intro g σg τg l7 Gg Mg h1 h2 h3 h4
      refine ⟨0, g, σg, τg, ?_, ⟨Gg, Mg, h1, h2, h3⟩, Or.inr ⟨rfl, fun a' x1 x2 x3 => h4 a' x1 x2 x3 (x2 i hl (by omega)).1⟩⟩
      have f2 := hI Gg.1 55 4 2 rfl rfl
      rw [h3 55 2 (by omega), ec] at f2
      simp only [e_Planner_planDay_66, e_Planner_planDay_68, e_Planner_planDay_69, e_Planner_planDay_72, e_Planner_planDay_150, e_Planner_planDay_151, m_get, m_put, m_ia, m_is, m_la, m_ls, fl_sf, fl_sa, fl_sl, fl_sq, ar_sf, ar_sa, ar_sl, ar_sq, lr_sf, lr_sa, lr_sl, lr_sq, qr_sf, qr_sa, qr_sl, qr_sq, sf_1, sf_2, sa_1, sa_2, sl_1, sl_2, Option.isSome_some, Option.map_some, Option.map_none, Option.toList_some, Option.toList_none, List.nil_append, List.cons_append, List.singleton_append, if_true, if_false, ↓reduceIte, and_self, and_true, true_and, and_false, false_and, not_true, not_false_iff, reduceCtorEq, Nat.reduceEqDiff, Nat.reduceAdd, Nat.reduceSub, Nat.reduceMul, Nat.reduceLT, Nat.reduceLeDiff, Nat.reduceBEq, eq_self, ne_eq, Nat.add_eq_zero_iff, Nat.add_left_cancel_iff, Nat.add_right_cancel_iff, Nat.left_eq_add, Nat.add_eq_left, Bool.true_or, Bool.or_true, Bool.or_self, or_self, or_true, true_or, or_false, false_or, decide_true, decide_false, i_10, i_01, f2, Int32.le_refl]
    · intro c hc ih g σg τg l7 Gg Mg h1 h2 h3 h4
      have hv := Gg.1.2.2.2.1.1
      have f2 := hI Gg.1 55 4 2 rfl rfl
      rw [h3 55 2 (by omega), ec] at f2
      have q3 : ¬ nI C ≤ nI c := nI_ge hc (by omega)
      have bz := b_z (x := U) (show c < 32 by omega)
      have Qg : Pq σg τg v C ch ow np ds := Pq_cg Q (fun b hb => h1 b (by omega) (by omega)) ⟨h3 55 2 (by omega), h3 55 4 (by omega)⟩
      have eg : σg (v + 2) = kn := by rw [h1 (v + 2) (by omega) (by omega)]; exact ek
      have cl := call_v (lv := 7 + (9 - i)) (c_lentFor Gg Qg (i := i) (c := c) (by omega) hc) (Pg_is Gg) (by decide) (show 1 < 7 + (9 - i) by omega)
      rw [eg] at cl
      have pw := pw8 c (by omega)
      have skip : (∀ a', (∀ j, j < i → a' j = a j) → DF C (okP kn ow np ch) a' (ds d) (ds (d + 1)) → a' i ≠ c) → ∃ r' h' σ' τ', xR none (7 + (9 - i)) M_Planner_planDay 66 [some (.ref 55), some (.int (nI d)), some (.int (nI i)), some (.int U), some (.int (nI (msk (lnP ow np ch) a (ds d) (i - ds d)))), some (.int (nI T)), some (.int (nI (c + 1))), some (.int (-9))] [] g = some (some (.int r'), h') ∧ (Pg h' σ' τ' v s q e1 e2 ∧ Mem σ' C pr li lc ∧ (∀ b, b ≠ 63 → b ≠ 64 → σ' b = σ b) ∧ (∀ j, j < i → σ' 64 j = σ 64 j) ∧ (∀ a k, ¬ (a = 55 ∧ k = 15) → τ' a k = τ a k)) ∧ ((r' = 1 ∧ ∃ a', (∀ j, j < i → a' j = a j) ∧ DF C (okP kn ow np ch) a' (ds d) (ds (d + 1)) ∧ csT C pr (mks (lnP ow np ch) ds a' d) T + cfT C pr li lc r (d + 1) (T + tlN (mks (lnP ow np ch) ds a' d)) = tgt ∧ (∀ b, (∀ j, j < i → b j = a j) → DF C (okP kn ow np ch) b (ds d) (ds (d + 1)) → csT C pr (mks (lnP ow np ch) ds b d) T + cfT C pr li lc r (d + 1) (T + tlN (mks (lnP ow np ch) ds b d)) = tgt → ¬ lxl b a' (ds d) (ds (d + 1))) ∧ τ' 55 15 = nI (mks (lnP ow np ch) ds a' d) ∧ ∀ j, i ≤ j → j < ds (d + 1) → σ' 64 j = nI (ch (a' j))) ∨ (r' = 0 ∧ ∀ a', (∀ j, j < i → a' j = a j) → DF C (okP kn ow np ch) a' (ds d) (ds (d + 1)) → ¬ csT C pr (mks (lnP ow np ch) ds a' d) T + cfT C pr li lc r (d + 1) (T + tlN (mks (lnP ow np ch) ds a' d)) = tgt)) := fun hno => ih g σg τg _ Gg Mg h1 h2 h3 (fun a' x1 x2 x3 => by
        have := h4 a' x1 x2 x3
        have := hno a' x1 x2
        omega)
      rw [e_Planner_planDay_66]
      by_cases w : bt U c = true
      · have wz : ¬ ((U >>> (nI c &&& 31)) &&& 1 = 0) := fun y => by rw [bz.mp y] at w; cases w
        obtain ⟨r', h', σ', τ', cc, rest⟩ := skip (fun a' x1 x2 x3 => by
          obtain ⟨j, j1, j2, j3⟩ := (hU c hc).mp w
          refine (x2 i hl (by omega)).2.2 j j1 j2 ?_
          rw [x1 j j2, x3, j3])
        refine ⟨r', h', σ', τ', ?_, rest⟩
        rw [← nI_1] at cc
        simp only [e_Planner_planDay_68, e_Planner_planDay_69, e_Planner_planDay_72, e_Planner_planDay_75, e_Planner_planDay_76, e_Planner_planDay_78, e_Planner_planDay_79, e_Planner_planDay_80, e_Planner_planDay_81, e_Planner_planDay_84, e_Planner_planDay_86, e_Planner_planDay_89, e_Planner_planDay_90, e_Planner_planDay_91, e_Planner_planDay_93, e_Planner_planDay_96, e_Planner_planDay_98, e_Planner_planDay_100, e_Planner_planDay_102, e_Planner_planDay_144, e_Planner_planDay_147, m_get, m_put, m_ia, m_is, m_la, m_ls, fl_sf, fl_sa, fl_sl, fl_sq, ar_sf, ar_sa, ar_sl, ar_sq, lr_sf, lr_sa, lr_sl, lr_sq, qr_sf, qr_sa, qr_sl, qr_sq, sf_1, sf_2, sa_1, sa_2, sl_1, sl_2, Option.isSome_some, Option.map_some, Option.map_none, Option.toList_some, Option.toList_none, List.nil_append, List.cons_append, List.singleton_append, if_true, if_false, ↓reduceIte, and_self, and_true, true_and, and_false, false_and, not_true, not_false_iff, reduceCtorEq, Nat.reduceEqDiff, Nat.reduceAdd, Nat.reduceSub, Nat.reduceMul, Nat.reduceLT, Nat.reduceLeDiff, Nat.reduceBEq, eq_self, ne_eq, Nat.add_eq_zero_iff, Nat.add_left_cancel_iff, Nat.add_right_cancel_iff, Nat.left_eq_add, Nat.add_eq_left, Bool.true_or, Bool.or_true, Bool.or_self, or_self, or_true, true_or, or_false, false_or, decide_true, decide_false, i_10, i_01, f2, q3, wz]
        exact cc
      · have wz : (U >>> (nI c &&& 31)) &&& 1 = 0 := bz.mpr (by simpa using w)
        by_cases o : (okP kn ow np ch) i c = true
        · have nu : ¬ ∃ j, ds d ≤ j ∧ j < i ∧ a j = c := fun y => w ((hU c hc).mpr y)
          have f3 := hR Gg.1 55 4 3 56 rfl rfl
          have r56 := hA Gg.1 56 0 6 rfl rfl
          have e56 := (Qg.2.2.2.2.1 c hc).2.1
          have f14 := hR Gg.1 55 4 14 64 rfl rfl
          have r64 := hA Gg.1 64 0 8 rfl rfl
          have ic := xin_nI (show c < 6 by omega) (by decide)
          have cc := nI_clamp (show c < 2 ^ 31 by omega)
          have G1 := Pg_sa (t := 0) (n := 8) Gg (a := 64) rfl rfl (upd (σg 64) i (nI (ch c)))
          have hs1 : ∀ b, b ≠ 64 → us σg 64 (upd (σg 64) i (nI (ch c))) b = σg b := fun b hb => by rw [us, if_neg hb]
          have Q1 : Pq (us σg 64 (upd (σg 64) i (nI (ch c)))) τg v C ch ow np ds := Pq_cg Qg (fun b hb => hs1 b (by omega)) ⟨rfl, rfl⟩
          have Rg : Pr σg τg C pr li lc := by
            have := Pr_cg R h1
            unfold Pr at *
            rw [h3 55 2 (by omega)]
            exact this
          have R1 : Pr (us σg 64 (upd (σg 64) i (nI (ch c)))) τg C pr li lc := Pr_cg Rg (fun b _ n2 => hs1 b n2)
          have M1' : Mem (us σg 64 (upd (σg 64) i (nI (ch c)))) C pr li lc := by
            unfold Mem
            rw [hs1 63 (by omega)]
            exact Mg
          obtain ⟨r2, h2', σ2, τ2, c2, ⟨G2, M2', k1, k2, k3⟩, post⟩ := c_planDay hrd tok tg k (i + 1) (upN a i c) (U ||| ((1 : Int32) <<< (nI c &&& 31))) _ _ _ G1 Q1 R1 M1' (by rw [hs1 (v + 2) (by omega)]; exact eg) (by omega) (by omega) (DF_up hD hc o nu) (us_up C6 hc hl hU) (by rw [h3 55 16 (by omega)]; exact et)
          have c3 := call_v (lv := 7 + (9 - i)) c2 (Pg_is G1) (by decide) (show 7 + (9 - (nI (i + 1)).toNatClampNeg) < 7 + (9 - i) by rw [nI_clamp (by omega)]; omega)
          rw [msk_up hl] at c3
          simp only [if_pos o] at cl
          have fr1 : ∀ b, b ≠ 63 → b ≠ 64 → σ2 b = σ b := fun b n1 n2 => by rw [k1 b n1 n2, hs1 b n2]; exact h1 b n1 n2
          have fr2 : ∀ j, j < i → σ2 64 j = σ 64 j := fun j hj => by
            rw [k2 j (by omega)]
            show upd (σg 64) i _ j = _
            rw [upd, if_neg (by omega)]
            exact h2 j hj
          have fr3 : ∀ a k, ¬ (a = 55 ∧ k = 15) → τ2 a k = τ a k := fun a k hk => by rw [k3 a k hk]; exact h3 a k hk
          have ext : ∀ b : Nat → Nat, (∀ j, j < i → b j = a j) → b i = c → ∀ j, j < i + 1 → b j = upN a i c j := fun b x1 x2 j hj => by
            rw [upN]
            by_cases y : j = i
            · rw [if_pos y, y, x2]
            · rw [if_neg y]
              exact x1 j (by omega)
          have ret : ∀ b : Nat → Nat, (∀ j, j < i + 1 → b j = upN a i c j) → (∀ j, j < i → b j = a j) ∧ b i = c := fun b x1 => ⟨fun j hj => by rw [x1 j (by omega), upN, if_neg (by omega)], by rw [x1 i (by omega), upN, if_pos rfl]⟩
          have fin : ∀ z, ∃ r' h' σ' τ', (if r2 = 0 then xR none (7 + (9 - i)) M_Planner_planDay 144 [some (.ref 55), some (.int (nI d)), some (.int (nI i)), some (.int U), some (.int (nI (msk (lnP ow np ch) a (ds d) (i - ds d)))), some (.int (nI T)), some (.int (nI c)), some (.int z)] [] h2' else some (some (.int 1), h2')) = some (some (.int r'), h') ∧ (Pg h' σ' τ' v s q e1 e2 ∧ Mem σ' C pr li lc ∧ (∀ b, b ≠ 63 → b ≠ 64 → σ' b = σ b) ∧ (∀ j, j < i → σ' 64 j = σ 64 j) ∧ (∀ a k, ¬ (a = 55 ∧ k = 15) → τ' a k = τ a k)) ∧ ((r' = 1 ∧ ∃ a', (∀ j, j < i → a' j = a j) ∧ DF C (okP kn ow np ch) a' (ds d) (ds (d + 1)) ∧ csT C pr (mks (lnP ow np ch) ds a' d) T + cfT C pr li lc r (d + 1) (T + tlN (mks (lnP ow np ch) ds a' d)) = tgt ∧ (∀ b, (∀ j, j < i → b j = a j) → DF C (okP kn ow np ch) b (ds d) (ds (d + 1)) → csT C pr (mks (lnP ow np ch) ds b d) T + cfT C pr li lc r (d + 1) (T + tlN (mks (lnP ow np ch) ds b d)) = tgt → ¬ lxl b a' (ds d) (ds (d + 1))) ∧ τ' 55 15 = nI (mks (lnP ow np ch) ds a' d) ∧ ∀ j, i ≤ j → j < ds (d + 1) → σ' 64 j = nI (ch (a' j))) ∨ (r' = 0 ∧ ∀ a', (∀ j, j < i → a' j = a j) → DF C (okP kn ow np ch) a' (ds d) (ds (d + 1)) → ¬ csT C pr (mks (lnP ow np ch) ds a' d) T + cfT C pr li lc r (d + 1) (T + tlN (mks (lnP ow np ch) ds a' d)) = tgt)) := fun z => by
            rcases post with ⟨p1, a', y1, y2, y3, y4, y5, y6⟩ | ⟨p0, y⟩
            · subst p1
              obtain ⟨z1, z2⟩ := ret a' y1
              refine ⟨1, h2', σ2, τ2, rfl, ⟨G2, M2', fr1, fr2, fr3⟩, Or.inl ⟨rfl, a', z1, y2, y3, fun b x1 x2 x3 hx => ?_, y5, fun j j1 j2 => ?_⟩⟩
              · obtain ⟨kk, kk1, kk2, kk3, kk4⟩ := hx
                have nb := h4 b x1 x2 x3
                rcases Nat.lt_trichotomy kk i with u | u | u
                · rw [x1 kk u, z1 kk u] at kk4
                  omega
                · rw [u, z2] at kk4
                  exact nb kk4
                · have bi' : b i = c := by rw [kk3 i hl u, z2]
                  exact y4 b (ext b x1 bi') x2 x3 ⟨kk, kk1, kk2, kk3, kk4⟩
              · by_cases u : j = i
                · rw [u, k2 i (by omega), z2]
                  show upd (σg 64) i _ i = _
                  rw [upd, if_pos rfl]
                · exact y6 j (by omega) j2
            · subst p0
              obtain ⟨r', h', σ', τ', cx, rest⟩ := ih h2' σ2 τ2 (some (.int z)) G2 M2' fr1 fr2 fr3 (fun a' x1 x2 x3 => by
                have n1 := h4 a' x1 x2 x3
                have n2 : a' i ≠ c := fun u => y a' (ext a' x1 u) x2 x3
                omega)
              refine ⟨r', h', σ', τ', ?_, rest⟩
              rw [← nI_1] at cx
              rw [if_pos rfl]
              simp only [e_Planner_planDay_144, e_Planner_planDay_147]
              exact cx
          have l10 : (1 : Int32) = 0 ∨ (1 : Int32) = 1 := Or.inr rfl
          rw [← nI_1] at c3
          by_cases l : (lnP ow np ch) i c = true
          · simp only [if_pos l] at cl
            simp only [if_pos l] at c3
            rw [← nI_or] at c3
            have q9 : ¬ nI (2 ^ c) = -9 := nm9 (Nat.lt_of_le_of_lt (Nat.pow_le_pow_right (by omega) (show c ≤ 6 by omega)) (by decide))
            obtain ⟨r', h', σ', τ', cx, rest⟩ := fin (nI (2 ^ c))
            refine ⟨r', h', σ', τ', ?_, rest⟩
            simp only [e_Planner_planDay_68, e_Planner_planDay_69, e_Planner_planDay_72, e_Planner_planDay_75, e_Planner_planDay_76, e_Planner_planDay_78, e_Planner_planDay_79, e_Planner_planDay_80, e_Planner_planDay_81, e_Planner_planDay_84, e_Planner_planDay_86, e_Planner_planDay_89, e_Planner_planDay_90, e_Planner_planDay_91, e_Planner_planDay_93, e_Planner_planDay_96, e_Planner_planDay_98, e_Planner_planDay_100, e_Planner_planDay_102, e_Planner_planDay_105, e_Planner_planDay_106, e_Planner_planDay_109, e_Planner_planDay_110, e_Planner_planDay_111, e_Planner_planDay_114, e_Planner_planDay_116, e_Planner_planDay_117, e_Planner_planDay_118, e_Planner_planDay_119, e_Planner_planDay_120, e_Planner_planDay_121, e_Planner_planDay_122, e_Planner_planDay_123, e_Planner_planDay_124, e_Planner_planDay_125, e_Planner_planDay_127, e_Planner_planDay_128, e_Planner_planDay_129, e_Planner_planDay_131, e_Planner_planDay_133, e_Planner_planDay_134, e_Planner_planDay_136, e_Planner_planDay_139, e_Planner_planDay_142, e_Planner_planDay_143, m_get, m_put, m_ia, m_is, m_la, m_ls, fl_sf, fl_sa, fl_sl, fl_sq, ar_sf, ar_sa, ar_sl, ar_sq, lr_sf, lr_sa, lr_sl, lr_sq, qr_sf, qr_sa, qr_sl, qr_sq, sf_1, sf_2, sa_1, sa_2, sl_1, sl_2, Option.isSome_some, Option.map_some, Option.map_none, Option.toList_some, Option.toList_none, List.nil_append, List.cons_append, List.singleton_append, if_true, if_false, ↓reduceIte, and_self, and_true, true_and, and_false, false_and, not_true, not_false_iff, reduceCtorEq, Nat.reduceEqDiff, Nat.reduceAdd, Nat.reduceSub, Nat.reduceMul, Nat.reduceLT, Nat.reduceLeDiff, Nat.reduceBEq, eq_self, ne_eq, Nat.add_eq_zero_iff, Nat.add_left_cancel_iff, Nat.add_right_cancel_iff, Nat.left_eq_add, Nat.add_eq_left, Bool.true_or, Bool.or_true, Bool.or_self, or_self, or_true, true_or, or_false, false_or, decide_true, decide_false, i_10, i_01, f2, q3, wz, cl, q9, f3, r56, e56, f14, r64, ii, ci, ic, cc, c3]
            exact cx
          · simp only [if_neg l] at cl
            simp only [if_neg l] at c3
            obtain ⟨r', h', σ', τ', cx, rest⟩ := fin 0
            refine ⟨r', h', σ', τ', ?_, rest⟩
            have z9 : ¬ (0 : Int32) = -9 := by decide
            simp only [e_Planner_planDay_68, e_Planner_planDay_69, e_Planner_planDay_72, e_Planner_planDay_75, e_Planner_planDay_76, e_Planner_planDay_78, e_Planner_planDay_79, e_Planner_planDay_80, e_Planner_planDay_81, e_Planner_planDay_84, e_Planner_planDay_86, e_Planner_planDay_89, e_Planner_planDay_90, e_Planner_planDay_91, e_Planner_planDay_93, e_Planner_planDay_96, e_Planner_planDay_98, e_Planner_planDay_100, e_Planner_planDay_102, e_Planner_planDay_105, e_Planner_planDay_106, e_Planner_planDay_109, e_Planner_planDay_110, e_Planner_planDay_111, e_Planner_planDay_114, e_Planner_planDay_116, e_Planner_planDay_117, e_Planner_planDay_118, e_Planner_planDay_119, e_Planner_planDay_120, e_Planner_planDay_121, e_Planner_planDay_122, e_Planner_planDay_123, e_Planner_planDay_124, e_Planner_planDay_125, e_Planner_planDay_127, e_Planner_planDay_128, e_Planner_planDay_129, e_Planner_planDay_131, e_Planner_planDay_133, e_Planner_planDay_134, e_Planner_planDay_136, e_Planner_planDay_139, e_Planner_planDay_142, e_Planner_planDay_143, m_get, m_put, m_ia, m_is, m_la, m_ls, fl_sf, fl_sa, fl_sl, fl_sq, ar_sf, ar_sa, ar_sl, ar_sq, lr_sf, lr_sa, lr_sl, lr_sq, qr_sf, qr_sa, qr_sl, qr_sq, sf_1, sf_2, sa_1, sa_2, sl_1, sl_2, Option.isSome_some, Option.map_some, Option.map_none, Option.toList_some, Option.toList_none, List.nil_append, List.cons_append, List.singleton_append, if_true, if_false, ↓reduceIte, and_self, and_true, true_and, and_false, false_and, not_true, not_false_iff, reduceCtorEq, Nat.reduceEqDiff, Nat.reduceAdd, Nat.reduceSub, Nat.reduceMul, Nat.reduceLT, Nat.reduceLeDiff, Nat.reduceBEq, eq_self, ne_eq, Nat.add_eq_zero_iff, Nat.add_left_cancel_iff, Nat.add_right_cancel_iff, Nat.left_eq_add, Nat.add_eq_left, Bool.true_or, Bool.or_true, Bool.or_self, or_self, or_true, true_or, or_false, false_or, decide_true, decide_false, i_10, i_01, f2, q3, wz, cl, z9, f3, r56, e56, f14, r64, ii, ci, ic, cc, Int32.or_zero, c3]
            exact cx
        · obtain ⟨r', h', σ', τ', cc, rest⟩ := skip (fun a' x1 x2 x3 => by
            have := (x2 i hl (by omega)).2.1
            rw [x3] at this
            exact o this)
          refine ⟨r', h', σ', τ', ?_, rest⟩
          rw [← nI_1] at cc
          simp only [if_neg o] at cl
          simp only [e_Planner_planDay_68, e_Planner_planDay_69, e_Planner_planDay_72, e_Planner_planDay_75, e_Planner_planDay_76, e_Planner_planDay_78, e_Planner_planDay_79, e_Planner_planDay_80, e_Planner_planDay_81, e_Planner_planDay_84, e_Planner_planDay_86, e_Planner_planDay_89, e_Planner_planDay_90, e_Planner_planDay_91, e_Planner_planDay_93, e_Planner_planDay_96, e_Planner_planDay_98, e_Planner_planDay_100, e_Planner_planDay_102, e_Planner_planDay_144, e_Planner_planDay_147, m_get, m_put, m_ia, m_is, m_la, m_ls, fl_sf, fl_sa, fl_sl, fl_sq, ar_sf, ar_sa, ar_sl, ar_sq, lr_sf, lr_sa, lr_sl, lr_sq, qr_sf, qr_sa, qr_sl, qr_sq, sf_1, sf_2, sa_1, sa_2, sl_1, sl_2, Option.isSome_some, Option.map_some, Option.map_none, Option.toList_some, Option.toList_none, List.nil_append, List.cons_append, List.singleton_append, if_true, if_false, ↓reduceIte, and_self, and_true, true_and, and_false, false_and, not_true, not_false_iff, reduceCtorEq, Nat.reduceEqDiff, Nat.reduceAdd, Nat.reduceSub, Nat.reduceMul, Nat.reduceLT, Nat.reduceLeDiff, Nat.reduceBEq, eq_self, ne_eq, Nat.add_eq_zero_iff, Nat.add_left_cancel_iff, Nat.add_right_cancel_iff, Nat.left_eq_add, Nat.add_eq_left, Bool.true_or, Bool.or_true, Bool.or_self, or_self, or_true, true_or, or_false, false_or, decide_true, decide_false, i_10, i_01, f2, q3, wz, cl]
          exact cc
end PD
