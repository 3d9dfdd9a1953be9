
/-- a day on, the first i things -/
def nwD (S ow : Nat → Int32) (i : Nat) : Nat → Int32 := fun k => if 17 ≤ k ∧ k < 17 + i ∧ ¬ S (k - 6) = ow (k - 17) then S k + 1 else S k
theorem nwD_0 (S ow : Nat → Int32) : nwD S ow 0 = S := by
  funext k
  unfold nwD
  rw [if_neg (by omega)]
theorem nwD_lo {S ow : Nat → Int32} {i k : Nat} (hk : k < 17) : nwD S ow i k = S k := by
  unfold nwD
  rw [if_neg (by omega)]
theorem nwD_hi {S ow : Nat → Int32} {i k : Nat} (hk : 17 + i ≤ k) : nwD S ow i k = S k := by
  unfold nwD
  rw [if_neg (by omega)]
theorem nwD_s1 {S ow : Nat → Int32} {i : Nat} (he : S (11 + i) = ow i) : upd (nwD S ow i) (17 + i) (S (17 + i) + 0) = nwD S ow (i + 1) := by
  funext k
  unfold upd nwD
  by_cases w : k = 17 + i
  · rw [if_pos w, if_neg, w, Int32.add_zero]
    rintro ⟨_, _, z⟩
    apply z
    rw [show k - 6 = 11 + i by omega, show k - 17 = i by omega]
    exact he
  · rw [if_neg w]
    by_cases w2 : 17 ≤ k ∧ k < 17 + i ∧ ¬ S (k - 6) = ow (k - 17)
    · rw [if_pos w2, if_pos ⟨w2.1, by omega, w2.2.2⟩]
    · rw [if_neg w2, if_neg]
      rintro ⟨z1, z2, z3⟩
      exact w2 ⟨z1, by omega, z3⟩
theorem nwD_s2 {S ow : Nat → Int32} {i : Nat} (he : ¬ S (11 + i) = ow i) : upd (nwD S ow i) (17 + i) (S (17 + i) + 1) = nwD S ow (i + 1) := by
  funext k
  unfold upd nwD
  by_cases w : k = 17 + i
  · rw [if_pos w, if_pos, w]
    refine ⟨by omega, by omega, ?_⟩
    rw [show k - 6 = 11 + i by omega, show k - 17 = i by omega]
    exact he
  · rw [if_neg w]
    by_cases w2 : 17 ≤ k ∧ k < 17 + i ∧ ¬ S (k - 6) = ow (k - 17)
    · rw [if_pos w2, if_pos ⟨w2.1, by omega, w2.2.2⟩]
    · rw [if_neg w2, if_neg]
      rintro ⟨z1, z2, z3⟩
      exact w2 ⟨z1, by omega, z3⟩
theorem add_m1 (x : Int32) : x + 1 + (-1) = x := by
  rw [Int32.add_assoc, show (1 : Int32) + (-1) = 0 from rfl, Int32.add_zero]
theorem rlV_new {p t n v : Nat} {σ τ σ' τ' : Nat → Nat → Int32} {S : Nat → Int32} (R : rlV p t n v σ τ) (c1 : ∀ a, (v + 2 ≤ a ∧ a ≤ v + 4) ∨ (v + 8 ≤ a ∧ a ≤ v + 10) ∨ (80 ≤ a ∧ a ≤ 83) → σ' a = σ a) (c2 : ∀ k, k < 2 ∨ (3 ≤ k ∧ k ≤ 5) → τ' v k = τ v k) (c3 : ∀ k, 13 ≤ k ∧ k ≤ 17 → τ' 75 k = τ 75 k) (e84 : σ' 84 = S) (e2 : τ' v 2 = S 23) (a1 : ∀ i, i < p → σ' (v + 1) i = S i) (a2 : ∀ j, j < t → σ' (v + 5) j = S (5 + j) ∧ σ' (v + 6) j = S (11 + j) ∧ σ' (v + 7) j = S (17 + j)) (st' : St p t (σ 81) S) : rlV p t n v σ' τ' := by
  obtain ⟨⟨⟨vp, vt, vn⟩, p5, t6, n8⟩, ⟨vl, vc, vd, up, uu, un⟩, ⟨bl, bc⟩, ag1, ag2, ag3, bo, bn, ks, st⟩ := R
  refine ⟨⟨⟨by rw [c3 13 (by omega), vp], by rw [c3 14 (by omega), vt], by rw [c3 15 (by omega), vn]⟩, p5, t6, n8⟩, ⟨by rw [c2 0 (by omega), c3 16 (by omega), vl], by rw [c2 1 (by omega), c3 17 (by omega), vc], by rw [e2, e84], by rw [c2 3 (by omega), up], by rw [c2 4 (by omega), uu], by rw [c2 5 (by omega), un]⟩, ⟨by rw [c3 16 (by omega)]; exact bl, by rw [c3 17 (by omega)]; exact bc⟩, fun i hi => ?_, fun j hj => ?_, fun k hk => ?_, ?_, ?_, ?_, ?_⟩
  · rw [a1 i hi, e84, c1 (v + 2) (by omega), c1 80 (by omega)]
    exact ⟨rfl, (ag1 i hi).2⟩
  · rw [c1 (v + 3) (by omega), c1 (v + 4) (by omega), c1 81 (by omega), c1 82 (by omega), e84]
    exact ⟨(ag2 j hj).1, (ag2 j hj).2.1, a2 j hj⟩
  · rw [c1 (v + 8) (by omega), c1 (v + 9) (by omega), c1 (v + 10) (by omega), c1 83 (by omega)]
    exact ag3 k hk
  · rw [c1 81 (by omega), c1 82 (by omega)]
    exact bo
  · rw [c1 83 (by omega)]
    exact bn
  · rw [c1 80 (by omega)]
    exact ks
  · rw [c1 81 (by omega), e84]
    exact st'
section DAY
variable {h : xH} {σ τ : Nat → Nat → Int32} {v s : Nat} {q : Nat → Nat} {e1 e2 : Int64} {p t n A X : Nat}
theorem cM_day (H : Hp h σ τ v s q e1 e2) (ht : τ 75 14 = nI t) (t6 : t ≤ 6) (hX : X < 16) (hA : A ≤ 16) (x24 : τ 75 24 = nI X) (x23 : τ 75 23 = nI A) {B : Nat} (hB1 : A < 16 → B = A) (hB2 : A = 16 → B = 15) : ∃ h', xC M_Md_day [.ref 75] h = some (some (.int (σ 84 23 + 1)), h') ∧ Hp h' (us (us σ 86 (cpI (σ 86) (σ 84) (24 * X) 24)) 84 (upd (nwD (σ 84) (σ 81) t) 23 (σ 84 23 + 1))) (ut (ut τ 75 24 (nI ((X + 1) % 16))) 75 23 (nI (B + 1))) v s q e1 e2 := by
  obtain ⟨h1, d1, H1⟩ := cM_keepAct H hX hA x24 x23 hB1 hB2
  have c1 := call_v (lv := 1) d1 (Hp_75 H) (by decide) (Nat.le_of_ble_eq_true rfl)
  have r84 := H1.1 84 24 rfl
  have r81 := H1.1 81 6 rfl
  rw [show rty 84 = 0 from rfl, show us σ 86 (cpI (σ 86) (σ 84) (24 * X) 24) 84 = σ 84 from (by first | rfl | (simp only [us, ut]; repeat rw [if_neg (by omega)]))] at r84
  rw [show rty 81 = 0 from rfl, show us σ 86 (cpI (σ 86) (σ 84) (24 * X) 24) 81 = σ 81 from (by first | rfl | (simp only [us, ut]; repeat rw [if_neg (by omega)]))] at r81
  have f18 := hR H1 75 9 18 84 rfl rfl
  have f10 := hR H1 75 9 10 81 rfl rfl
  have f14 := hI H1 75 9 14 rfl rfl
  have e14 : ut (ut τ 75 24 (nI ((X + 1) % 16))) 75 23 (nI (B + 1)) 75 14 = nI t := by rw [← ht]; rfl
  rw [e14] at f14
  have H2 := Hp_sa (t := 0) (n := 24) H1 (a := 84) rfl rfl (upd (nwD (σ 84) (σ 81) t) 23 (σ 84 23 + 1))
  refine ⟨_, ?_, H2⟩
  simp only [k_Md_day, e_Md_day_0, e_Md_day_1, e_Md_day_4, e_Md_day_5, m_get, m_put, m_ia, m_is, m_la, m_ls, fl_sf, fl_sa, fl_sl, fl_sq, ar_sf, ar_sa, ar_sl, ar_sq, lr_sf, lr_sa, lr_sl, lr_sq, qr_sf, qr_sa, qr_sl, qr_sq, sf_1, sf_2, sa_1, sa_2, sl_1, sl_2, Option.isSome_some, Option.map_some, Option.map_none, Option.toList_some, Option.toList_none, List.nil_append, List.cons_append, List.singleton_append, if_true, if_false, ↓reduceIte, and_self, and_true, true_and, and_false, false_and, not_true, not_false_iff, reduceCtorEq, Nat.reduceEqDiff, Nat.reduceAdd, Nat.reduceSub, Nat.reduceMul, Nat.reduceLT, Nat.reduceLeDiff, Nat.reduceBEq, eq_self, ne_eq, Nat.add_eq_zero_iff, Nat.add_left_cancel_iff, Nat.add_right_cancel_iff, Nat.left_eq_add, Nat.add_eq_left, Bool.true_or, Bool.or_true, Bool.or_self, or_self, or_true, true_or, or_false, false_or, decide_true, decide_false, i_10, i_01, c1]
  have key := loop_dn (t := t) (P := fun i => xR none 1 M_Md_day 6 [some (.ref 75), some (.int (nI i))] [] (sa h1 84 0 (nwD (σ 84) (σ 81) i)) = some (some (.int (σ 84 23 + 1)), sa h1 84 0 (upd (nwD (σ 84) (σ 81) t) 23 (σ 84 23 + 1)))) ?_ ?_ 0 (Nat.zero_le _)
  · rw [nI_0, nwD_0, sa_self r84] at key
    exact key
  · have z1 : nwD (σ 84) (σ 81) t 23 = σ 84 23 := nwD_hi (by omega)
    have z2 : upd (nwD (σ 84) (σ 81) t) 23 (σ 84 23 + 1) 23 = σ 84 23 + 1 := up_eq
    simp only [e_Md_day_6, e_Md_day_7, e_Md_day_8, e_Md_day_11, e_Md_day_55, e_Md_day_56, e_Md_day_59, e_Md_day_61, e_Md_day_62, e_Md_day_63, e_Md_day_64, e_Md_day_65, e_Md_day_66, e_Md_day_67, e_Md_day_70, e_Md_day_72, e_Md_day_73, m_get, m_put, m_ia, m_is, m_la, m_ls, fl_sf, fl_sa, fl_sl, fl_sq, ar_sf, ar_sa, ar_sl, ar_sq, lr_sf, lr_sa, lr_sl, lr_sq, qr_sf, qr_sa, qr_sl, qr_sq, sf_1, sf_2, sa_1, sa_2, sl_1, sl_2, sa_sa, Option.isSome_some, Option.map_some, Option.map_none, Option.toList_some, Option.toList_none, List.nil_append, List.cons_append, List.singleton_append, if_true, if_false, ↓reduceIte, and_self, and_true, true_and, and_false, false_and, not_true, not_false_iff, reduceCtorEq, Nat.reduceEqDiff, Nat.reduceAdd, Nat.reduceSub, Nat.reduceMul, Nat.reduceLT, Nat.reduceLeDiff, Nat.reduceBEq, eq_self, ne_eq, Nat.add_eq_zero_iff, Nat.add_left_cancel_iff, Nat.add_right_cancel_iff, Nat.left_eq_add, Nat.add_eq_left, Bool.true_or, Bool.or_true, Bool.or_self, or_self, or_true, true_or, or_false, false_or, decide_true, decide_false, i_10, i_01, f14, f18, r84, Int32.le_refl, in23, cl23, z1, z2]
  · intro i hi ih
    have q1 : ¬ nI t ≤ nI i := nI_ge hi (by omega)
    have i6 := xin_nI (show i < 6 by omega) (by decide)
    have c6 := nI_clamp (show i < 2 ^ 31 by omega)
    have i11 := xin_nI (show 11 + i < 24 by omega) (by decide)
    have c11 := nI_clamp (show 11 + i < 2 ^ 31 by omega)
    have i17 := xin_nI (show 17 + i < 24 by omega) (by decide)
    have c17 := nI_clamp (show 17 + i < 2 ^ 31 by omega)
    have z1 : nwD (σ 84) (σ 81) i (17 + i) = σ 84 (17 + i) := nwD_hi (by omega)
    have z2 : nwD (σ 84) (σ 81) i (11 + i) = σ 84 (11 + i) := nwD_lo (by omega)
    by_cases w : σ 84 (11 + i) = σ 81 i
    · rw [← nI_1, ← nwD_s1 w, ← sa_sa h1 84 0 (nwD (σ 84) (σ 81) i)] at ih
      rw [e_Md_day_6]
      simp only [e_Md_day_7, e_Md_day_8, e_Md_day_11, e_Md_day_14, e_Md_day_15, e_Md_day_18, e_Md_day_20, e_Md_day_21, e_Md_day_22, e_Md_day_23, e_Md_day_24, e_Md_day_25, e_Md_day_28, e_Md_day_30, e_Md_day_31, e_Md_day_32, e_Md_day_33, e_Md_day_34, e_Md_day_37, e_Md_day_38, e_Md_day_39, e_Md_day_42, e_Md_day_43, e_Md_day_46, e_Md_day_47, e_Md_day_48, e_Md_day_49, e_Md_day_52, m_get, m_put, m_ia, m_is, m_la, m_ls, fl_sf, fl_sa, fl_sl, fl_sq, ar_sf, ar_sa, ar_sl, ar_sq, lr_sf, lr_sa, lr_sl, lr_sq, qr_sf, qr_sa, qr_sl, qr_sq, sf_1, sf_2, sa_1, sa_2, sl_1, sl_2, Option.isSome_some, Option.map_some, Option.map_none, Option.toList_some, Option.toList_none, List.nil_append, List.cons_append, List.singleton_append, if_true, if_false, ↓reduceIte, and_self, and_true, true_and, and_false, false_and, not_true, not_false_iff, reduceCtorEq, Nat.reduceEqDiff, Nat.reduceAdd, Nat.reduceSub, Nat.reduceMul, Nat.reduceLT, Nat.reduceLeDiff, Nat.reduceBEq, eq_self, ne_eq, Nat.add_eq_zero_iff, Nat.add_left_cancel_iff, Nat.add_right_cancel_iff, Nat.left_eq_add, Nat.add_eq_left, Bool.true_or, Bool.or_true, Bool.or_self, or_self, or_true, true_or, or_false, false_or, decide_true, decide_false, i_10, i_01, f14, f18, f10, r84, r81, q1, i6, c6, i11, c11, i17, c17, a11, a17, z1, z2, w]
      exact ih
    · rw [← nI_1, ← nwD_s2 w, ← sa_sa h1 84 0 (nwD (σ 84) (σ 81) i)] at ih
      rw [e_Md_day_6]
      simp only [e_Md_day_7, e_Md_day_8, e_Md_day_11, e_Md_day_14, e_Md_day_15, e_Md_day_18, e_Md_day_20, e_Md_day_21, e_Md_day_22, e_Md_day_23, e_Md_day_24, e_Md_day_25, e_Md_day_28, e_Md_day_30, e_Md_day_31, e_Md_day_32, e_Md_day_33, e_Md_day_34, e_Md_day_37, e_Md_day_38, e_Md_day_39, e_Md_day_42, e_Md_day_43, e_Md_day_46, e_Md_day_47, e_Md_day_48, e_Md_day_49, e_Md_day_52, m_get, m_put, m_ia, m_is, m_la, m_ls, fl_sf, fl_sa, fl_sl, fl_sq, ar_sf, ar_sa, ar_sl, ar_sq, lr_sf, lr_sa, lr_sl, lr_sq, qr_sf, qr_sa, qr_sl, qr_sq, sf_1, sf_2, sa_1, sa_2, sl_1, sl_2, Option.isSome_some, Option.map_some, Option.map_none, Option.toList_some, Option.toList_none, List.nil_append, List.cons_append, List.singleton_append, if_true, if_false, ↓reduceIte, and_self, and_true, true_and, and_false, false_and, not_true, not_false_iff, reduceCtorEq, Nat.reduceEqDiff, Nat.reduceAdd, Nat.reduceSub, Nat.reduceMul, Nat.reduceLT, Nat.reduceLeDiff, Nat.reduceBEq, eq_self, ne_eq, Nat.add_eq_zero_iff, Nat.add_left_cancel_iff, Nat.add_right_cancel_iff, Nat.left_eq_add, Nat.add_eq_left, Bool.true_or, Bool.or_true, Bool.or_self, or_self, or_true, true_or, or_false, false_or, decide_true, decide_false, i_10, i_01, f14, f18, f10, r84, r81, q1, i6, c6, i11, c11, i17, c17, a11, a17, z1, z2, w]
      exact ih
theorem op_day (R : Rel h) : Op h M_Sp_day M_Md_day [] := by
  obtain ⟨σ, τ, v, s, q, e, p, t, n, len, A, X, z, H, rv, rt, ra, rk, rs, ry⟩ := R
  have rv0 := rv
  obtain ⟨⟨⟨vp, vt, vn⟩, p5, t6, n8⟩, ⟨vl, vc, vd, up, uu, un⟩, ⟨bl, bc⟩, ag1, ag2, ag3, bo, bn, ks, st⟩ := rv
  have ra0 := ra
  obtain ⟨⟨hA, hX, x26, x23, x24⟩, ⟨qb, qi⟩, hh⟩ := ra
  have m := H.2.2.2
  have hv := m.1.1
  have fh := m.1.2.1
  obtain ⟨h1, q', B, d1, H1, B15, BA, hB1, hB2, qb', qi', qo⟩ := c_next H hA x26 qb qi 2
  have qB := qb' B (by omega)
  have c1 := call_v (lv := 2) d1 (by rw [show xmo M_ActRow_next = 1 from rfl, hR H 26 1 0 27 rfl rfl]; rfl) (by decide) (Nat.le_of_ble_eq_true rfl)
  have V1 := Hp_vil H1 hv
  have ev : ∀ k, ut (ut τ 26 1 (nI (B + 1))) (q' B) 0 2 v k = τ v k := fun k => (by simp only [ut]; repeat rw [if_neg (by omega)])
  simp only [ev] at V1
  rw [uu] at V1
  have c2 := call_v (lv := 2) (c_passDays t6 V1 1) (Vil_is V1) (by decide) (Nat.le_of_ble_eq_true rfl)
  have H2 := Hp_sa (t := 0) (n := 6) (Hp_sf (c := 7) H1 (a := v) (k := 2) (by rcases hv with rfl | rfl <;> rfl) (by rcases hv with rfl | rfl <;> rfl) (τ v 2 + 1)) (a := v + 7) (by rcases hv with rfl | rfl <;> rfl) (by rcases hv with rfl | rfl <;> rfl) (ouD (σ (v + 6)) (σ (v + 3)) (σ (v + 7)) 1 t)
  have f5 := hR H 1 8 5 26 rfl rfl
  have fh1 := H1.2.2.2.1.2.1
  have fh2 := H2.2.2.2.1.2.1
  have fd := (Hp_vil H2 hv).1.2.2.1
  have ed : ut (ut (ut τ 26 1 (nI (B + 1))) (q' B) 0 2) v 2 (τ v 2 + 1) v 2 = τ v 2 + 1 := by simp only [ut, and_self, if_true]
  rw [ed] at fd
  have s84 : us σ (v + 7) (ouD (σ (v + 6)) (σ (v + 3)) (σ (v + 7)) 1 t) 84 = σ 84 := (by first | rfl | (simp only [us, ut]; repeat rw [if_neg (by omega)]))
  have s81 : us σ (v + 7) (ouD (σ (v + 6)) (σ (v + 3)) (σ (v + 7)) 1 t) 81 = σ 81 := (by first | rfl | (simp only [us, ut]; repeat rw [if_neg (by omega)]))
  have s86 : us σ (v + 7) (ouD (σ (v + 6)) (σ (v + 3)) (σ (v + 7)) 1 t) 86 = σ 86 := (by first | rfl | (simp only [us, ut]; repeat rw [if_neg (by omega)]))
  obtain ⟨h3, d3, H3⟩ := cM_day H2 (t := t) (X := X) (A := A) (B := B) (by rw [← vt]; exact (by simp only [ut]; repeat rw [if_neg (by omega)])) t6 hX hA (by rw [← x24]; exact (by simp only [ut]; repeat rw [if_neg (by omega)])) (by rw [← x23]; exact (by simp only [ut]; repeat rw [if_neg (by omega)])) hB1 hB2
  rw [s84] at d3
  rw [s84, s81, s86] at H3
  have lo : ∀ k, k < 17 → upd (nwD (σ 84) (σ 81) t) 23 (σ 84 23 + 1) k = σ 84 k := fun k hk => by rw [up_lt (by omega), nwD_lo hk]
  have E17 : ∀ j, j < t → upd (nwD (σ 84) (σ 81) t) 23 (σ 84 23 + 1) (17 + j) = if σ 84 (11 + j) = σ 81 j then σ 84 (17 + j) else σ 84 (17 + j) + 1 := fun j hj => by
    rw [up_lt (by omega)]
    unfold nwD
    rw [show 17 + j - 6 = 11 + j by omega, show 17 + j - 17 = j by omega]
    by_cases w : σ 84 (11 + j) = σ 81 j
    · rw [if_neg (fun z => z.2.2 w), if_pos w]
    · rw [if_pos ⟨by omega, by omega, w⟩, if_neg w]
  refine ⟨.int (σ 84 23 + 1), _, h3, ?_, d3, ⟨_, _, v, s, q', e, p, t, n, len, B + 1, (X + 1) % 16, z, H3, ?_, rlT_cg rt ⟨(by first | rfl | (simp only [us, ut]; repeat rw [if_neg (by omega)])), (by first | rfl | (simp only [us, ut]; repeat rw [if_neg (by omega)]))⟩ ⟨(by simp only [ut]; repeat rw [if_neg (by omega)]), (by simp only [ut]; repeat rw [if_neg (by omega)])⟩, ?_, rlK_cg rk (fun a ha => by first | rfl | (simp only [us]; repeat rw [if_neg (by omega)])) (fun b k hk => by first | rfl | (simp only [ut]; repeat rw [if_neg (by omega)])), rlS_cg rs (fun a ha => by first | rfl | (simp only [us]; repeat rw [if_neg (by omega)])) ⟨(by simp only [ut]; repeat rw [if_neg (by omega)]), (by simp only [ut]; repeat rw [if_neg (by omega)])⟩, rlY_cg ry (by first | rfl | (simp only [us, ut]; repeat rw [if_neg (by omega)]))⟩, Hp_1 H, Hp_75 H2⟩
  · rw [← vd]
    simp only [m_get, m_put, m_ia, m_is, m_la, m_ls, fl_sf, fl_sa, fl_sl, fl_sq, ar_sf, ar_sa, ar_sl, ar_sq, lr_sf, lr_sa, lr_sl, lr_sq, qr_sf, qr_sa, qr_sl, qr_sq, sf_1, sf_2, sa_1, sa_2, sl_1, sl_2, Option.isSome_some, Option.map_some, Option.map_none, Option.toList_some, Option.toList_none, List.nil_append, List.cons_append, List.singleton_append, if_true, if_false, ↓reduceIte, and_self, and_true, true_and, and_false, false_and, not_true, not_false_iff, reduceCtorEq, Nat.reduceEqDiff, Nat.reduceAdd, Nat.reduceSub, Nat.reduceMul, Nat.reduceLT, Nat.reduceLeDiff, Nat.reduceBEq, eq_self, ne_eq, Nat.add_eq_zero_iff, Nat.add_left_cancel_iff, Nat.add_right_cancel_iff, Nat.left_eq_add, Nat.add_eq_left, Bool.true_or, Bool.or_true, Bool.or_self, or_self, or_true, true_or, or_false, false_or, decide_true, decide_false, i_10, i_01] at fh2 fd
    simp only [k_Sp_day, e_Sp_day_0, e_Sp_day_1, e_Sp_day_4, e_Sp_day_5, e_Sp_day_8, e_Sp_day_9, e_Sp_day_10, e_Sp_day_13, e_Sp_day_14, e_Sp_day_17, e_Sp_day_18, e_Sp_day_21, e_Sp_day_24, m_get, m_put, m_ia, m_is, m_la, m_ls, fl_sf, fl_sa, fl_sl, fl_sq, ar_sf, ar_sa, ar_sl, ar_sq, lr_sf, lr_sa, lr_sl, lr_sq, qr_sf, qr_sa, qr_sl, qr_sq, sf_1, sf_2, sa_1, sa_2, sl_1, sl_2, Option.isSome_some, Option.map_some, Option.map_none, Option.toList_some, Option.toList_none, List.nil_append, List.cons_append, List.singleton_append, if_true, if_false, ↓reduceIte, and_self, and_true, true_and, and_false, false_and, not_true, not_false_iff, reduceCtorEq, Nat.reduceEqDiff, Nat.reduceAdd, Nat.reduceSub, Nat.reduceMul, Nat.reduceLT, Nat.reduceLeDiff, Nat.reduceBEq, eq_self, ne_eq, Nat.add_eq_zero_iff, Nat.add_left_cancel_iff, Nat.add_right_cancel_iff, Nat.left_eq_add, Nat.add_eq_left, Bool.true_or, Bool.or_true, Bool.or_self, or_self, or_true, true_or, or_false, false_or, decide_true, decide_false, i_10, i_01, f5, c1, fh1, c2, fh2, fd]
  · refine rlV_new rv0 (fun a ha => by first | rfl | (simp only [us]; repeat rw [if_neg (by omega)])) (fun k hk => by first | rfl | (simp only [ut]; repeat rw [if_neg (by omega)])) (fun k hk => by first | rfl | (simp only [ut]; repeat rw [if_neg (by omega)])) (S := upd (nwD (σ 84) (σ 81) t) 23 (σ 84 23 + 1)) ?_ ?_ (fun i hi => ?_) (fun j hj => ?_) (fun j hj => ?_)
    · simp only [us, if_true]
    · simp only [ut]
      rw [if_neg (by omega), if_neg (by omega), if_pos ⟨trivial, trivial⟩, up_eq, vd]
    · simp only [us]
      rw [if_neg (by omega), if_neg (by omega), if_neg (by omega), lo i (by omega)]
      exact (ag1 i hi).1
    · obtain ⟨y1, y2, y3, y4, y5⟩ := ag2 j hj
      simp only [us]
      rw [if_neg (by omega), if_neg (by omega), if_neg (by omega), if_neg (by omega), if_neg (by omega), if_neg (by omega), if_neg (by omega), if_neg (by omega), lo (5 + j) (by omega), lo (11 + j) (by omega), E17 j hj, if_true]
      refine ⟨y3, y4, ?_⟩
      unfold ouD
      rw [if_pos hj, y4, y1, y5]
    · rw [lo (5 + j) (by omega), lo (11 + j) (by omega), E17 j hj]
      obtain ⟨y1, y2, y3⟩ := st j hj
      exact ⟨y1, y2, fun w => by rw [if_pos w]; exact y3 w⟩
  · refine rlA_push p5 t6 ra0 hB1 hB2 (by first | rfl | (simp only [us, ut]; repeat rw [if_neg (by omega)])) ?_ ?_ ?_ ?_ qb' qi' qo ?_ st ?_
    · simp only [us]
      rw [if_neg (by omega), if_true]
    · simp only [ut]
      rw [if_neg (by omega), if_neg (by omega), if_neg (by omega), if_neg (by omega), if_pos ⟨trivial, trivial⟩]
    · simp only [ut]
      rw [if_pos ⟨trivial, trivial⟩]
    · simp only [ut]
      rw [if_neg (by omega), if_pos ⟨trivial, trivial⟩]
    · intro i hi hne
      have b1 := qb' i hi
      have n1 : q' i ≠ q' B := fun w => hne (qi' i B hi (by omega) w)
      funext k
      exact (by simp only [ut]; repeat rw [if_neg (by omega)])
    · refine Or.inl ⟨?_, fun k hk => ?_⟩
      · simp only [ut]
        rw [if_neg (by omega), if_neg (by omega), if_neg (by omega), if_pos ⟨trivial, trivial⟩]
      · simp only [us, if_true]
        unfold dyb
        by_cases w23 : k = 23
        · rw [if_pos w23, up_eq, add_m1, w23]
        · rw [if_neg w23]
          by_cases w17 : 17 ≤ k
          · unfold rl at hk
            have hj : k - 17 < t := by omega
            have := E17 (k - 17) hj
            rw [show 17 + (k - 17) = k by omega, show 11 + (k - 17) = k - 6 by omega] at this
            rw [this, lo (k - 6) (by omega)]
            by_cases w : σ 84 (k - 6) = σ 81 (k - 17)
            · rw [if_pos w, if_neg (fun z => z.2 w)]
            · rw [if_neg w, if_pos ⟨w17, w⟩, add_m1]
          · rw [if_neg (fun z => w17 z.1), lo k (by omega)]
end DAY
