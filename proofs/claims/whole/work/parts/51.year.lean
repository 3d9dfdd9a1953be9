
def x33 (e : Int64) : Int64 := (e.toUInt64 >>> ((33 : Int32).toInt64.toUInt64 &&& Int64.toUInt64 63)).toInt64
def yJ (e : Int64) (t : Nat) : Nat := (e.toUInt64.toNat >>> 33) % t
theorem x33_lN (e : Int64) : x33 e = lN (e.toUInt64.toNat >>> 33) := by
  unfold x33 lN
  have h1 : (e.toUInt64 >>> ((33 : Int32).toInt64.toUInt64 &&& Int64.toUInt64 63)).toNat = e.toUInt64.toNat >>> 33 := by
    rw [UInt64.toNat_shiftRight]
    rfl
  rw [← h1]
  generalize e.toUInt64 >>> ((33 : Int32).toInt64.toUInt64 &&& Int64.toUInt64 63) = u
  apply Int64.toBitVec_inj.mp
  simp
theorem x33_lt (e : Int64) : e.toUInt64.toNat >>> 33 < 2 ^ 31 := by
  have := e.toUInt64.toNat_lt
  rw [Nat.shiftRight_eq_div_pow]
  omega
theorem x33_rem (e : Int64) {t : Nat} (h0 : 0 < t) (h6 : t ≤ 6) : (x33 e - x33 e / (nI t).toInt64 * (nI t).toInt64).toInt32 = nI (yJ e t) := by
  have := x33_lt e
  rw [x33_lN, nI_l (by omega), pk_lRem (by omega) h0 (by omega), lN_i]
  rfl
def ystep (g : Nat → Int32) (j : Nat) (c : Int32) : Nat → Int32 := if g j < c then upd g j (g j + 1) else g
def yE (e : Int64) : Nat → Int64
  | 0 => e
  | i + 1 => yE e i * 6364136223846793005 + 1442695040888963407
def yG (e : Int64) (g : Nat → Int32) (c : Int32) (t : Nat) : Nat → Nat → Int32
  | 0 => g
  | i + 1 => ystep (yG e g c t i) (yJ (yE e (i + 1)) t) c
theorem yG_cg {e : Int64} {g g' : Nat → Int32} {c : Int32} {t : Nat} (h0 : 0 < t) (hh : ∀ j, j < t → g j = g' j) : ∀ i j, j < t → yG e g c t i j = yG e g' c t i j
  | 0, j, hj => hh j hj
  | i + 1, j, hj => by
    have ih := yG_cg (e := e) (c := c) h0 hh i
    have hJ : yJ (yE e (i + 1)) t < t := Nat.mod_lt _ h0
    unfold yG ystep
    rw [ih _ hJ]
    split
    · by_cases w : j = yJ (yE e (i + 1)) t
      · rw [w, up_eq, up_eq]
      · rw [up_lt w, up_lt w]
        exact ih j hj
    · exact ih j hj
section YEAR
variable {h : xH} {σ τ : Nat → Nat → Int32} {v s : Nat} {q : Nat → Nat} {e1 e2 : Int64} {p t n : Nat}
theorem Hp_seed1 (H : Hp h σ τ v s q e1 e2) (x : Int64) : Hp (sf h 1 8 12 (.long x)) σ τ v s q x e2 := by
  have m := H.2.2.2
  exact Hp_sfo H rfl rfl (by
    unfold Hm at *
    simp only [m_get, m_put, m_ia, m_is, m_la, m_ls, fl_sf, fl_sa, fl_sl, fl_sq, ar_sf, ar_sa, ar_sl, ar_sq, lr_sf, lr_sa, lr_sl, lr_sq, qr_sf, qr_sa, qr_sl, qr_sq, sf_1, sf_2, sa_1, sa_2, sl_1, sl_2, Option.isSome_some, Option.map_some, Option.map_none, Option.toList_some, Option.toList_none, List.nil_append, List.cons_append, List.singleton_append, if_true, if_false, ↓reduceIte, and_self, and_true, true_and, and_false, false_and, not_true, not_false_iff, reduceCtorEq, Nat.reduceEqDiff, Nat.reduceAdd, Nat.reduceSub, Nat.reduceMul, Nat.reduceLT, Nat.reduceLeDiff, Nat.reduceBEq, eq_self, ne_eq, Nat.add_eq_zero_iff, Nat.add_left_cancel_iff, Nat.add_right_cancel_iff, Nat.left_eq_add, Nat.add_eq_left, Bool.true_or, Bool.or_true, Bool.or_self, or_self, or_true, true_or, or_false, false_or, decide_true, decide_false, i_10, i_01, m.1, m.2.1, m.2.2.1, m.2.2.2.1, m.2.2.2.2])
theorem Hp_seed2 (H : Hp h σ τ v s q e1 e2) (x : Int64) : Hp (sf h 75 9 38 (.long x)) σ τ v s q e1 x := by
  have m := H.2.2.2
  exact Hp_sfo H rfl rfl (by
    unfold Hm at *
    simp only [m_get, m_put, m_ia, m_is, m_la, m_ls, fl_sf, fl_sa, fl_sl, fl_sq, ar_sf, ar_sa, ar_sl, ar_sq, lr_sf, lr_sa, lr_sl, lr_sq, qr_sf, qr_sa, qr_sl, qr_sq, sf_1, sf_2, sa_1, sa_2, sl_1, sl_2, Option.isSome_some, Option.map_some, Option.map_none, Option.toList_some, Option.toList_none, List.nil_append, List.cons_append, List.singleton_append, if_true, if_false, ↓reduceIte, and_self, and_true, true_and, and_false, false_and, not_true, not_false_iff, reduceCtorEq, Nat.reduceEqDiff, Nat.reduceAdd, Nat.reduceSub, Nat.reduceMul, Nat.reduceLT, Nat.reduceLeDiff, Nat.reduceBEq, eq_self, ne_eq, Nat.add_eq_zero_iff, Nat.add_left_cancel_iff, Nat.add_right_cancel_iff, Nat.left_eq_add, Nat.add_eq_left, Bool.true_or, Bool.or_true, Bool.or_self, or_self, or_true, true_or, or_false, false_or, decide_true, decide_false, i_10, i_01, m.1, m.2.1, m.2.2.1, m.2.2.2.1, m.2.2.2.2])
theorem c_year {m : Nat} (hm : m ≤ 40) (t6 : t ≤ 6) (t0 : 0 < t) (ht : τ v 4 = nI t) {e : Int64} {g0 : Nat → Int32} : ∀ i, i ≤ m → ∀ (g : xH) (l4 : Option Value), Hp g (us σ 74 (yG e g0 (τ v 1) t i)) τ v s q (yE e i) e2 → ∃ h', xR none 2 M_Sp_year 48 [some (.ref 1), some (.int (nI m)), some (.int (nI t)), some (.int (nI i)), l4] [] g = some (some (.int (wt (σ (v + 4)) (yG e g0 (τ v 1) t m) t)), h') ∧ Hp h' (us σ 74 (yG e g0 (τ v 1) t m)) τ v s q (yE e m) e2 := by
  refine loop_dn (P := fun i => ∀ (g : xH) (l4 : Option Value), Hp g (us σ 74 (yG e g0 (τ v 1) t i)) τ v s q (yE e i) e2 → ∃ h', xR none 2 M_Sp_year 48 [some (.ref 1), some (.int (nI m)), some (.int (nI t)), some (.int (nI i)), l4] [] g = some (some (.int (wt (σ (v + 4)) (yG e g0 (τ v 1) t m) t)), h') ∧ Hp h' (us σ 74 (yG e g0 (τ v 1) t m)) τ v s q (yE e m) e2) ?_ ?_
  · intro g l4 H
    have hv := H.2.2.2.1.1
    have fh := H.2.2.2.1.2.1
    have V := Hp_vil H hv
    rw [ht] at V
    have f11 := hR H 1 8 11 74 rfl rfl
    have r74 := hA H 74 0 6 rfl rfl
    rw [show us σ 74 (yG e g0 (τ v 1) t m) 74 = yG e g0 (τ v 1) t m from by simp only [us, if_true]] at r74
    have c1 := call_v (lv := 2) (c_worthOfAll t6 V (a := 74) (by omega) r74) (Vil_is V) (by decide) (Nat.le_of_ble_eq_true rfl)
    rw [show us σ 74 (yG e g0 (τ v 1) t m) (v + 4) = σ (v + 4) from (by first | rfl | (simp only [us, ut]; repeat rw [if_neg (by omega)]))] at c1
    exact ⟨g, by simp only [e_Sp_year_48, e_Sp_year_49, e_Sp_year_50, e_Sp_year_116, e_Sp_year_117, e_Sp_year_120, e_Sp_year_121, e_Sp_year_124, e_Sp_year_127, m_get, m_put, m_ia, m_is, m_la, m_ls, fl_sf, fl_sa, fl_sl, fl_sq, ar_sf, ar_sa, ar_sl, ar_sq, lr_sf, lr_sa, lr_sl, lr_sq, qr_sf, qr_sa, qr_sl, qr_sq, sf_1, sf_2, sa_1, sa_2, sl_1, sl_2, Option.isSome_some, Option.map_some, Option.map_none, Option.toList_some, Option.toList_none, List.nil_append, List.cons_append, List.singleton_append, if_true, if_false, ↓reduceIte, and_self, and_true, true_and, and_false, false_and, not_true, not_false_iff, reduceCtorEq, Nat.reduceEqDiff, Nat.reduceAdd, Nat.reduceSub, Nat.reduceMul, Nat.reduceLT, Nat.reduceLeDiff, Nat.reduceBEq, eq_self, ne_eq, Nat.add_eq_zero_iff, Nat.add_left_cancel_iff, Nat.add_right_cancel_iff, Nat.left_eq_add, Nat.add_eq_left, Bool.true_or, Bool.or_true, Bool.or_self, or_self, or_true, true_or, or_false, false_or, decide_true, decide_false, i_10, i_01, Int32.le_refl, fh, f11, c1], H⟩
  · intro i hi ih g l4 H
    have hv := H.2.2.2.1.1
    have fh := H.2.2.2.1.2.1
    have V := Hp_vil H hv
    have f11 := hR H 1 8 11 74 rfl rfl
    have r74 := hA H 74 0 6 rfl rfl
    rw [show us σ 74 (yG e g0 (τ v 1) t i) 74 = yG e g0 (τ v 1) t i from by simp only [us, if_true]] at r74
    have se := H.2.2.2.2.2.2.1.1
    have q1 : ¬ nI m ≤ nI i := nI_ge hi (by omega)
    have hJ : yJ (yE e (i + 1)) t < t := Nat.mod_lt _ t0
    have ij := xin_nI (show yJ (yE e (i + 1)) t < 6 by omega) (by decide)
    have cj := nI_clamp (show yJ (yE e (i + 1)) t < 2 ^ 31 by omega)
    have rr : ((yE e (i + 1)).toUInt64 >>> ((33 : Int32).toInt64.toUInt64 &&& Int64.toUInt64 63)).toInt64 - ((yE e (i + 1)).toUInt64 >>> ((33 : Int32).toInt64.toUInt64 &&& Int64.toUInt64 63)).toInt64 / (nI t).toInt64 * (nI t).toInt64 = x33 (yE e (i + 1)) - x33 (yE e (i + 1)) / (nI t).toInt64 * (nI t).toInt64 := rfl
    have r2 := x33_rem (yE e (i + 1)) t0 t6
    have n0 : ¬ (nI t).toInt64 = 0 := fun w => by
      rw [nI_l (by omega), show (0 : Int64) = lN 0 from rfl] at w
      have := (lN_eq (by omega) (by omega)).mp w
      omega
    have es : yE e i * 6364136223846793005 + 1442695040888963407 = yE e (i + 1) := rfl
    have v1 := V.1.2.1
    have Hs := Hp_seed1 H (yE e (i + 1))
    rw [e_Sp_year_48]
    by_cases w : yG e g0 (τ v 1) t i (yJ (yE e (i + 1)) t) < τ v 1
    · have w' : ¬ τ v 1 ≤ yG e g0 (τ v 1) t i (yJ (yE e (i + 1)) t) := Int32.not_le.mpr w
      have eg : upd (yG e g0 (τ v 1) t i) (yJ (yE e (i + 1)) t) (yG e g0 (τ v 1) t i (yJ (yE e (i + 1)) t) + 1) = yG e g0 (τ v 1) t (i + 1) := by
        rw [yG]
        unfold ystep
        rw [if_pos w]
      have H1 := Hp_sa (t := 0) (n := 6) Hs (a := 74) rfl rfl (yG e g0 (τ v 1) t (i + 1))
      rw [us_us] at H1
      obtain ⟨h', c, H'⟩ := ih _ (some (.int (nI (yJ (yE e (i + 1)) t)))) H1
      refine ⟨h', ?_, H'⟩
      rw [← nI_1] at c
      simp only [e_Sp_year_49, e_Sp_year_50, e_Sp_year_53, e_Sp_year_54, e_Sp_year_55, e_Sp_year_58, e_Sp_year_61, e_Sp_year_62, e_Sp_year_65, e_Sp_year_66, e_Sp_year_69, e_Sp_year_70, e_Sp_year_73, e_Sp_year_75, e_Sp_year_76, e_Sp_year_77, e_Sp_year_78, e_Sp_year_79, e_Sp_year_80, e_Sp_year_82, e_Sp_year_83, e_Sp_year_86, e_Sp_year_88, e_Sp_year_89, e_Sp_year_90, e_Sp_year_93, e_Sp_year_96, e_Sp_year_99, e_Sp_year_100, e_Sp_year_103, e_Sp_year_105, e_Sp_year_106, e_Sp_year_107, e_Sp_year_108, e_Sp_year_109, e_Sp_year_110, e_Sp_year_113, m_get, m_put, m_ia, m_is, m_la, m_ls, fl_sf, fl_sa, fl_sl, fl_sq, ar_sf, ar_sa, ar_sl, ar_sq, lr_sf, lr_sa, lr_sl, lr_sq, qr_sf, qr_sa, qr_sl, qr_sq, sf_1, sf_2, sa_1, sa_2, sl_1, sl_2, Option.isSome_some, Option.map_some, Option.map_none, Option.toList_some, Option.toList_none, List.nil_append, List.cons_append, List.singleton_append, if_true, if_false, ↓reduceIte, and_self, and_true, true_and, and_false, false_and, not_true, not_false_iff, reduceCtorEq, Nat.reduceEqDiff, Nat.reduceAdd, Nat.reduceSub, Nat.reduceMul, Nat.reduceLT, Nat.reduceLeDiff, Nat.reduceBEq, eq_self, ne_eq, Nat.add_eq_zero_iff, Nat.add_left_cancel_iff, Nat.add_right_cancel_iff, Nat.left_eq_add, Nat.add_eq_left, Bool.true_or, Bool.or_true, Bool.or_self, or_self, or_true, true_or, or_false, false_or, decide_true, decide_false, i_10, i_01, q1, se, es, rr, r2, n0, f11, r74, ij, cj, fh, v1, w', eg]
      exact c
    · have w' : τ v 1 ≤ yG e g0 (τ v 1) t i (yJ (yE e (i + 1)) t) := Int32.not_lt.mp w
      have eg : yG e g0 (τ v 1) t i = yG e g0 (τ v 1) t (i + 1) := by
        rw [yG]
        unfold ystep
        rw [if_neg w]
      have H1 := Hs
      rw [eg] at H1
      obtain ⟨h', c, H'⟩ := ih _ (some (.int (nI (yJ (yE e (i + 1)) t)))) H1
      refine ⟨h', ?_, H'⟩
      rw [← nI_1] at c
      simp only [e_Sp_year_49, e_Sp_year_50, e_Sp_year_53, e_Sp_year_54, e_Sp_year_55, e_Sp_year_58, e_Sp_year_61, e_Sp_year_62, e_Sp_year_65, e_Sp_year_66, e_Sp_year_69, e_Sp_year_70, e_Sp_year_73, e_Sp_year_75, e_Sp_year_76, e_Sp_year_77, e_Sp_year_78, e_Sp_year_79, e_Sp_year_80, e_Sp_year_82, e_Sp_year_83, e_Sp_year_86, e_Sp_year_88, e_Sp_year_89, e_Sp_year_90, e_Sp_year_93, e_Sp_year_96, e_Sp_year_99, e_Sp_year_100, e_Sp_year_103, e_Sp_year_105, e_Sp_year_106, e_Sp_year_107, e_Sp_year_108, e_Sp_year_109, e_Sp_year_110, e_Sp_year_113, m_get, m_put, m_ia, m_is, m_la, m_ls, fl_sf, fl_sa, fl_sl, fl_sq, ar_sf, ar_sa, ar_sl, ar_sq, lr_sf, lr_sa, lr_sl, lr_sq, qr_sf, qr_sa, qr_sl, qr_sq, sf_1, sf_2, sa_1, sa_2, sl_1, sl_2, Option.isSome_some, Option.map_some, Option.map_none, Option.toList_some, Option.toList_none, List.nil_append, List.cons_append, List.singleton_append, if_true, if_false, ↓reduceIte, and_self, and_true, true_and, and_false, false_and, not_true, not_false_iff, reduceCtorEq, Nat.reduceEqDiff, Nat.reduceAdd, Nat.reduceSub, Nat.reduceMul, Nat.reduceLT, Nat.reduceLeDiff, Nat.reduceBEq, eq_self, ne_eq, Nat.add_eq_zero_iff, Nat.add_left_cancel_iff, Nat.add_right_cancel_iff, Nat.left_eq_add, Nat.add_eq_left, Bool.true_or, Bool.or_true, Bool.or_self, or_self, or_true, true_or, or_false, false_or, decide_true, decide_false, i_10, i_01, q1, se, es, rr, r2, n0, f11, r74, ij, cj, fh, v1, w']
      exact c
theorem cM_yearS (H : Hp h σ τ v s q e1 e2) (t6 : t ≤ 6) (ht : τ 75 14 = nI t) (x1 : Int32) : xR none 2 M_Md_year 127 [some (.ref 75), some (.int x1), some (.int 0), some (.int 0)] [] h = some (some (.int (wt (σ 82) (σ 90) t)), h) := by
  have f14 := hI H 75 9 14 rfl rfl
  rw [ht] at f14
  have f11 := hR H 75 9 11 82 rfl rfl
  have f30 := hR H 75 9 30 90 rfl rfl
  have r82 := hA H 82 0 6 rfl rfl
  have r90 := hA H 90 0 6 rfl rfl
  have key := loop_dn (t := t) (P := fun i => xR none 2 M_Md_year 127 [some (.ref 75), some (.int x1), some (.int (wt (σ 82) (σ 90) i)), some (.int (nI i))] [] h = some (some (.int (wt (σ 82) (σ 90) t)), h)) ?_ ?_ 0 (Nat.zero_le _)
  · rw [nI_0] at key
    exact key
  · simp only [e_Md_year_127, e_Md_year_128, e_Md_year_129, e_Md_year_132, e_Md_year_160, e_Md_year_161, m_get, m_put, m_ia, m_is, m_la, m_ls, fl_sf, fl_sa, fl_sl, fl_sq, ar_sf, ar_sa, ar_sl, ar_sq, lr_sf, lr_sa, lr_sl, lr_sq, qr_sf, qr_sa, qr_sl, qr_sq, sf_1, sf_2, sa_1, sa_2, sl_1, sl_2, Option.isSome_some, Option.map_some, Option.map_none, Option.toList_some, Option.toList_none, List.nil_append, List.cons_append, List.singleton_append, if_true, if_false, ↓reduceIte, and_self, and_true, true_and, and_false, false_and, not_true, not_false_iff, reduceCtorEq, Nat.reduceEqDiff, Nat.reduceAdd, Nat.reduceSub, Nat.reduceMul, Nat.reduceLT, Nat.reduceLeDiff, Nat.reduceBEq, eq_self, ne_eq, Nat.add_eq_zero_iff, Nat.add_left_cancel_iff, Nat.add_right_cancel_iff, Nat.left_eq_add, Nat.add_eq_left, Bool.true_or, Bool.or_true, Bool.or_self, or_self, or_true, true_or, or_false, false_or, decide_true, decide_false, i_10, i_01, f14, Int32.le_refl]
  · intro i hi ih
    have q1 : ¬ nI t ≤ nI i := nI_ge hi (by omega)
    have i6 := xin_nI (show i < 6 by omega) (by decide)
    have c6 := nI_clamp (show i < 2 ^ 31 by omega)
    have c1 := fun f => call_l (lv := 2) (cM_prices (h := h) (σ 82 i) 0 (σ 90 i)) (Nat.le_of_ble_eq_true rfl) f
    rw [← nI_1, wt] at ih
    rw [e_Md_year_127]
    simp only [e_Md_year_128, e_Md_year_129, e_Md_year_132, e_Md_year_135, e_Md_year_136, e_Md_year_137, e_Md_year_140, e_Md_year_141, e_Md_year_142, e_Md_year_143, e_Md_year_144, e_Md_year_147, e_Md_year_148, e_Md_year_149, e_Md_year_152, e_Md_year_153, e_Md_year_154, e_Md_year_157, m_get, m_put, m_ia, m_is, m_la, m_ls, fl_sf, fl_sa, fl_sl, fl_sq, ar_sf, ar_sa, ar_sl, ar_sq, lr_sf, lr_sa, lr_sl, lr_sq, qr_sf, qr_sa, qr_sl, qr_sq, sf_1, sf_2, sa_1, sa_2, sl_1, sl_2, Option.isSome_some, Option.map_some, Option.map_none, Option.toList_some, Option.toList_none, List.nil_append, List.cons_append, List.singleton_append, if_true, if_false, ↓reduceIte, and_self, and_true, true_and, and_false, false_and, not_true, not_false_iff, reduceCtorEq, Nat.reduceEqDiff, Nat.reduceAdd, Nat.reduceSub, Nat.reduceMul, Nat.reduceLT, Nat.reduceLeDiff, Nat.reduceBEq, eq_self, ne_eq, Nat.add_eq_zero_iff, Nat.add_left_cancel_iff, Nat.add_right_cancel_iff, Nat.left_eq_add, Nat.add_eq_left, Bool.true_or, Bool.or_true, Bool.or_self, or_self, or_true, true_or, or_false, false_or, decide_true, decide_false, i_10, i_01, f14, f11, f30, r82, r90, q1, i6, c6, c1]
    exact ih
theorem cM_yearL {m : Nat} (hm : m ≤ 40) (t6 : t ≤ 6) (t0 : 0 < t) (ht : τ 75 14 = nI t) {e : Int64} {g0 : Nat → Int32} : ∀ i, i ≤ m → ∀ (g : xH) (l3 : Option Value), Hp g (us σ 90 (yG e g0 (τ 75 17) t i)) τ v s q e1 (yE e i) → ∃ h', xR none 2 M_Md_year 47 [some (.ref 75), some (.int (nI m)), some (.int (nI i)), l3] [] g = some (some (.int (wt (σ 82) (yG e g0 (τ 75 17) t m) t)), h') ∧ Hp h' (us σ 90 (yG e g0 (τ 75 17) t m)) τ v s q e1 (yE e m) := by
  refine loop_dn (P := fun i => ∀ (g : xH) (l3 : Option Value), Hp g (us σ 90 (yG e g0 (τ 75 17) t i)) τ v s q e1 (yE e i) → ∃ h', xR none 2 M_Md_year 47 [some (.ref 75), some (.int (nI m)), some (.int (nI i)), l3] [] g = some (some (.int (wt (σ 82) (yG e g0 (τ 75 17) t m) t)), h') ∧ Hp h' (us σ 90 (yG e g0 (τ 75 17) t m)) τ v s q e1 (yE e m)) ?_ ?_
  · intro g l3 H
    have c := cM_yearS H t6 ht (nI m)
    rw [show us σ 90 (yG e g0 (τ 75 17) t m) 82 = σ 82 from (by first | rfl | (simp only [us, ut]; repeat rw [if_neg (by omega)])), show us σ 90 (yG e g0 (τ 75 17) t m) 90 = yG e g0 (τ 75 17) t m from by simp only [us, if_true]] at c
    exact ⟨g, by simp only [e_Md_year_47, e_Md_year_48, e_Md_year_49, e_Md_year_123, e_Md_year_124, e_Md_year_125, e_Md_year_126, Option.isSome_some, Option.map_some, Option.map_none, Option.toList_some, Option.toList_none, List.nil_append, List.cons_append, List.singleton_append, if_true, if_false, ↓reduceIte, and_self, and_true, true_and, and_false, false_and, not_true, not_false_iff, reduceCtorEq, Nat.reduceEqDiff, Nat.reduceAdd, Nat.reduceSub, Nat.reduceMul, Nat.reduceLT, Nat.reduceLeDiff, Nat.reduceBEq, eq_self, ne_eq, Nat.add_eq_zero_iff, Nat.add_left_cancel_iff, Nat.add_right_cancel_iff, Nat.left_eq_add, Nat.add_eq_left, Bool.true_or, Bool.or_true, Bool.or_self, or_self, or_true, true_or, or_false, false_or, decide_true, decide_false, i_10, i_01, Int32.le_refl]; exact c, H⟩
  · intro i hi ih g l3 H
    have f14 := hI H 75 9 14 rfl rfl
    rw [ht] at f14
    have f17 := hI H 75 9 17 rfl rfl
    have f30 := hR H 75 9 30 90 rfl rfl
    have r90 := hA H 90 0 6 rfl rfl
    rw [show us σ 90 (yG e g0 (τ 75 17) t i) 90 = yG e g0 (τ 75 17) t i from by simp only [us, if_true]] at r90
    have se := H.2.2.2.2.2.2.1.2
    have q1 : ¬ nI m ≤ nI i := nI_ge hi (by omega)
    have q2 : ¬ nI t ≤ 0 := nI_nle t0 (by omega)
    have hJ : yJ (yE e (i + 1)) t < t := Nat.mod_lt _ t0
    have ij := xin_nI (show yJ (yE e (i + 1)) t < 6 by omega) (by decide)
    have cj := nI_clamp (show yJ (yE e (i + 1)) t < 2 ^ 31 by omega)
    have rr : ((yE e (i + 1)).toUInt64 >>> ((33 : Int32).toInt64.toUInt64 &&& Int64.toUInt64 63)).toInt64 - ((yE e (i + 1)).toUInt64 >>> ((33 : Int32).toInt64.toUInt64 &&& Int64.toUInt64 63)).toInt64 / (nI t).toInt64 * (nI t).toInt64 = x33 (yE e (i + 1)) - x33 (yE e (i + 1)) / (nI t).toInt64 * (nI t).toInt64 := rfl
    have r2 := x33_rem (yE e (i + 1)) t0 t6
    have n0 : ¬ (nI t).toInt64 = 0 := fun w => by
      rw [nI_l (by omega), show (0 : Int64) = lN 0 from rfl] at w
      have := (lN_eq (by omega) (by omega)).mp w
      omega
    have es : yE e i * 6364136223846793005 + 1442695040888963407 = yE e (i + 1) := rfl
    have Hs := Hp_seed2 H (yE e (i + 1))
    have H1 := Hp_sa (t := 0) (n := 6) Hs (a := 90) rfl rfl (yG e g0 (τ 75 17) t (i + 1))
    rw [us_us] at H1
    obtain ⟨h', c, H'⟩ := ih _ (some (.int (nI (yJ (yE e (i + 1)) t)))) H1
    refine ⟨h', ?_, H'⟩
    rw [← nI_1] at c
    rw [e_Md_year_47]
    by_cases w : yG e g0 (τ 75 17) t i (yJ (yE e (i + 1)) t) < τ 75 17
    · have w' : ¬ τ 75 17 ≤ yG e g0 (τ 75 17) t i (yJ (yE e (i + 1)) t) := Int32.not_le.mpr w
      have eg : upd (yG e g0 (τ 75 17) t i) (yJ (yE e (i + 1)) t) (yG e g0 (τ 75 17) t i (yJ (yE e (i + 1)) t) + 1) = yG e g0 (τ 75 17) t (i + 1) := by
        rw [yG]
        unfold ystep
        rw [if_pos w]
      simp only [e_Md_year_48, e_Md_year_49, e_Md_year_52, e_Md_year_53, e_Md_year_56, e_Md_year_59, e_Md_year_60, e_Md_year_61, e_Md_year_64, e_Md_year_67, e_Md_year_68, e_Md_year_71, e_Md_year_72, e_Md_year_75, e_Md_year_76, e_Md_year_79, e_Md_year_81, e_Md_year_82, e_Md_year_83, e_Md_year_86, e_Md_year_87, e_Md_year_88, e_Md_year_89, e_Md_year_90, e_Md_year_91, e_Md_year_94, e_Md_year_95, e_Md_year_96, e_Md_year_97, e_Md_year_98, e_Md_year_101, e_Md_year_102, e_Md_year_103, e_Md_year_104, e_Md_year_107, e_Md_year_110, e_Md_year_111, e_Md_year_114, e_Md_year_115, e_Md_year_116, e_Md_year_117, e_Md_year_120, m_get, m_put, m_ia, m_is, m_la, m_ls, fl_sf, fl_sa, fl_sl, fl_sq, ar_sf, ar_sa, ar_sl, ar_sq, lr_sf, lr_sa, lr_sl, lr_sq, qr_sf, qr_sa, qr_sl, qr_sq, sf_1, sf_2, sa_1, sa_2, sl_1, sl_2, Option.isSome_some, Option.map_some, Option.map_none, Option.toList_some, Option.toList_none, List.nil_append, List.cons_append, List.singleton_append, if_true, if_false, ↓reduceIte, and_self, and_true, true_and, and_false, false_and, not_true, not_false_iff, reduceCtorEq, Nat.reduceEqDiff, Nat.reduceAdd, Nat.reduceSub, Nat.reduceMul, Nat.reduceLT, Nat.reduceLeDiff, Nat.reduceBEq, eq_self, ne_eq, Nat.add_eq_zero_iff, Nat.add_left_cancel_iff, Nat.add_right_cancel_iff, Nat.left_eq_add, Nat.add_eq_left, Bool.true_or, Bool.or_true, Bool.or_self, or_self, or_true, true_or, or_false, false_or, decide_true, decide_false, i_10, i_01, q1, q2, f14, f17, f30, r90, se, es, rr, r2, n0, ij, cj, w', eg]
      exact c
    · have w' : τ 75 17 ≤ yG e g0 (τ 75 17) t i (yJ (yE e (i + 1)) t) := Int32.not_lt.mp w
      have eg : upd (yG e g0 (τ 75 17) t i) (yJ (yE e (i + 1)) t) (yG e g0 (τ 75 17) t i (yJ (yE e (i + 1)) t) + 0) = yG e g0 (τ 75 17) t (i + 1) := by
        rw [yG]
        unfold ystep
        rw [if_neg w, Int32.add_zero]
        funext k
        by_cases wk : k = yJ (yE e (i + 1)) t
        · rw [wk, up_eq]
        · rw [up_lt wk]
      simp only [e_Md_year_48, e_Md_year_49, e_Md_year_52, e_Md_year_53, e_Md_year_56, e_Md_year_59, e_Md_year_60, e_Md_year_61, e_Md_year_64, e_Md_year_67, e_Md_year_68, e_Md_year_71, e_Md_year_72, e_Md_year_75, e_Md_year_76, e_Md_year_79, e_Md_year_81, e_Md_year_82, e_Md_year_83, e_Md_year_86, e_Md_year_87, e_Md_year_88, e_Md_year_89, e_Md_year_90, e_Md_year_91, e_Md_year_94, e_Md_year_95, e_Md_year_96, e_Md_year_97, e_Md_year_98, e_Md_year_101, e_Md_year_102, e_Md_year_103, e_Md_year_104, e_Md_year_107, e_Md_year_110, e_Md_year_111, e_Md_year_114, e_Md_year_115, e_Md_year_116, e_Md_year_117, e_Md_year_120, m_get, m_put, m_ia, m_is, m_la, m_ls, fl_sf, fl_sa, fl_sl, fl_sq, ar_sf, ar_sa, ar_sl, ar_sq, lr_sf, lr_sa, lr_sl, lr_sq, qr_sf, qr_sa, qr_sl, qr_sq, sf_1, sf_2, sa_1, sa_2, sl_1, sl_2, Option.isSome_some, Option.map_some, Option.map_none, Option.toList_some, Option.toList_none, List.nil_append, List.cons_append, List.singleton_append, if_true, if_false, ↓reduceIte, and_self, and_true, true_and, and_false, false_and, not_true, not_false_iff, reduceCtorEq, Nat.reduceEqDiff, Nat.reduceAdd, Nat.reduceSub, Nat.reduceMul, Nat.reduceLT, Nat.reduceLeDiff, Nat.reduceBEq, eq_self, ne_eq, Nat.add_eq_zero_iff, Nat.add_left_cancel_iff, Nat.add_right_cancel_iff, Nat.left_eq_add, Nat.add_eq_left, Bool.true_or, Bool.or_true, Bool.or_self, or_self, or_true, true_or, or_false, false_or, decide_true, decide_false, i_10, i_01, q1, q2, f14, f17, f30, r90, se, es, rr, r2, n0, ij, cj, w', eg]
      exact c
theorem cM_yearC {x : Int32} (t6 : t ≤ 6) (ht : τ 75 14 = nI t) (H : Hp h σ τ v s q e1 e2) (l3 : Option Value) : xR none 2 M_Md_year 17 [some (.ref 75), some (.int x), some (.int 0), l3] [] h = xR none 2 M_Md_year 45 [some (.ref 75), some (.int x), some (.int (nI t)), l3] [] (sa h 90 0 (cpI (σ 90) (fun j => σ 84 (5 + j)) 0 t)) := by
  have f14 := hI H 75 9 14 rfl rfl
  rw [ht] at f14
  have f18 := hR H 75 9 18 84 rfl rfl
  have f30 := hR H 75 9 30 90 rfl rfl
  have r84 := hA H 84 0 24 rfl rfl
  have r90 := hA H 90 0 6 rfl rfl
  have key := loop_dn (t := t) (P := fun i => xR none 2 M_Md_year 17 [some (.ref 75), some (.int x), some (.int (nI i)), l3] [] (sa h 90 0 (cpI (σ 90) (fun j => σ 84 (5 + j)) 0 i)) = xR none 2 M_Md_year 45 [some (.ref 75), some (.int x), some (.int (nI t)), l3] [] (sa h 90 0 (cpI (σ 90) (fun j => σ 84 (5 + j)) 0 t))) ?_ ?_ 0 (Nat.zero_le _)
  · rw [nI_0, cpI_0, sa_self r90] at key
    exact key
  · simp only [e_Md_year_17, e_Md_year_18, e_Md_year_19, e_Md_year_22, m_get, m_put, m_ia, m_is, m_la, m_ls, fl_sf, fl_sa, fl_sl, fl_sq, ar_sf, ar_sa, ar_sl, ar_sq, lr_sf, lr_sa, lr_sl, lr_sq, qr_sf, qr_sa, qr_sl, qr_sq, sf_1, sf_2, sa_1, sa_2, sl_1, sl_2, Option.isSome_some, Option.map_some, Option.map_none, Option.toList_some, Option.toList_none, List.nil_append, List.cons_append, List.singleton_append, if_true, if_false, ↓reduceIte, and_self, and_true, true_and, and_false, false_and, not_true, not_false_iff, reduceCtorEq, Nat.reduceEqDiff, Nat.reduceAdd, Nat.reduceSub, Nat.reduceMul, Nat.reduceLT, Nat.reduceLeDiff, Nat.reduceBEq, eq_self, ne_eq, Nat.add_eq_zero_iff, Nat.add_left_cancel_iff, Nat.add_right_cancel_iff, Nat.left_eq_add, Nat.add_eq_left, Bool.true_or, Bool.or_true, Bool.or_self, or_self, or_true, true_or, or_false, false_or, decide_true, decide_false, i_10, i_01, f14, Int32.le_refl]
  · intro i hi ih
    have q1 : ¬ nI t ≤ nI i := nI_ge hi (by omega)
    have i6 := xin_nI (show i < 6 by omega) (by decide)
    have c6 := nI_clamp (show i < 2 ^ 31 by omega)
    have i5 := xin_nI (show 5 + i < 24 by omega) (by decide)
    have c5 := nI_clamp (show 5 + i < 2 ^ 31 by omega)
    have zz := cpI_s (σ 90) (fun j => σ 84 (5 + j)) 0 i
    rw [Nat.zero_add] at zz
    rw [← nI_1, ← zz, ← sa_sa h 90 0 (cpI (σ 90) (fun j => σ 84 (5 + j)) 0 i)] at ih
    rw [e_Md_year_17]
    simp only [e_Md_year_18, e_Md_year_19, e_Md_year_22, e_Md_year_25, e_Md_year_26, e_Md_year_29, e_Md_year_30, e_Md_year_31, e_Md_year_34, e_Md_year_35, e_Md_year_36, e_Md_year_37, e_Md_year_38, e_Md_year_39, e_Md_year_42, m_get, m_put, m_ia, m_is, m_la, m_ls, fl_sf, fl_sa, fl_sl, fl_sq, ar_sf, ar_sa, ar_sl, ar_sq, lr_sf, lr_sa, lr_sl, lr_sq, qr_sf, qr_sa, qr_sl, qr_sq, sf_1, sf_2, sa_1, sa_2, sl_1, sl_2, Option.isSome_some, Option.map_some, Option.map_none, Option.toList_some, Option.toList_none, List.nil_append, List.cons_append, List.singleton_append, if_true, if_false, ↓reduceIte, and_self, and_true, true_and, and_false, false_and, not_true, not_false_iff, reduceCtorEq, Nat.reduceEqDiff, Nat.reduceAdd, Nat.reduceSub, Nat.reduceMul, Nat.reduceLT, Nat.reduceLeDiff, Nat.reduceBEq, eq_self, ne_eq, Nat.add_eq_zero_iff, Nat.add_left_cancel_iff, Nat.add_right_cancel_iff, Nat.left_eq_add, Nat.add_eq_left, Bool.true_or, Bool.or_true, Bool.or_self, or_self, or_true, true_or, or_false, false_or, decide_true, decide_false, i_10, i_01, f14, f18, f30, r84, r90, q1, i6, c6, i5, c5, a5]
    exact ih
theorem op_year (R : Rel h) (x : Int32) : Op h M_Sp_year M_Md_year [.int x] := by
  have R0 := R
  obtain ⟨σ, τ, v, s, q, e, p, t, n, len, A, X, z, H, rv, rt, ra, rk, rs, ry⟩ := R
  have rv0 := rv
  obtain ⟨⟨⟨vp, vt, vn⟩, p5, t6, n8⟩, ⟨vl, vc, vd, up, uu, un⟩, ⟨bl, bc⟩, ag1, ag2, ag3, bo, bn, ks, st⟩ := rv
  have hv := H.2.2.2.1.1
  have fh := H.2.2.2.1.2.1
  have V := Hp_vil H hv
  have d1 := fun f => call_l (lv := 2) (c_inI (h := h) x (y := 1) (z := 40) (yl := 1) (zl := 40) rfl rfl) (Nat.le_of_ble_eq_true rfl) f
  by_cases zx : 1 ≤ x ∧ x ≤ 40
  case neg =>
    simp only [if_neg zx] at d1
    refine ⟨.int (-2), h, h, ?_, by simp only [k_Md_year, e_Md_year_0, e_Md_year_1, e_Md_year_2, e_Md_year_3, e_Md_year_6, e_Md_year_9, e_Md_year_12, e_Md_year_14, m_get, m_put, m_ia, m_is, m_la, m_ls, fl_sf, fl_sa, fl_sl, fl_sq, ar_sf, ar_sa, ar_sl, ar_sq, lr_sf, lr_sa, lr_sl, lr_sq, qr_sf, qr_sa, qr_sl, qr_sq, sf_1, sf_2, sa_1, sa_2, sl_1, sl_2, Option.isSome_some, Option.map_some, Option.map_none, Option.toList_some, Option.toList_none, List.nil_append, List.cons_append, List.singleton_append, if_true, if_false, ↓reduceIte, and_self, and_true, true_and, and_false, false_and, not_true, not_false_iff, reduceCtorEq, Nat.reduceEqDiff, Nat.reduceAdd, Nat.reduceSub, Nat.reduceMul, Nat.reduceLT, Nat.reduceLeDiff, Nat.reduceBEq, eq_self, ne_eq, Nat.add_eq_zero_iff, Nat.add_left_cancel_iff, Nat.add_right_cancel_iff, Nat.left_eq_add, Nat.add_eq_left, Bool.true_or, Bool.or_true, Bool.or_self, or_self, or_true, true_or, or_false, false_or, decide_true, decide_false, i_10, i_01, d1], R0, Hp_1 H, Hp_75 H⟩
    by_cases k1 : x < 1
    · simp only [k_Sp_year, e_Sp_year_0, e_Sp_year_1, e_Sp_year_2, e_Sp_year_5, e_Sp_year_6, e_Sp_year_8, e_Sp_year_11, e_Sp_year_13, m_get, m_put, m_ia, m_is, m_la, m_ls, fl_sf, fl_sa, fl_sl, fl_sq, ar_sf, ar_sa, ar_sl, ar_sq, lr_sf, lr_sa, lr_sl, lr_sq, qr_sf, qr_sa, qr_sl, qr_sq, sf_1, sf_2, sa_1, sa_2, sl_1, sl_2, Option.isSome_some, Option.map_some, Option.map_none, Option.toList_some, Option.toList_none, List.nil_append, List.cons_append, List.singleton_append, if_true, if_false, ↓reduceIte, and_self, and_true, true_and, and_false, false_and, not_true, not_false_iff, reduceCtorEq, Nat.reduceEqDiff, Nat.reduceAdd, Nat.reduceSub, Nat.reduceMul, Nat.reduceLT, Nat.reduceLeDiff, Nat.reduceBEq, eq_self, ne_eq, Nat.add_eq_zero_iff, Nat.add_left_cancel_iff, Nat.add_right_cancel_iff, Nat.left_eq_add, Nat.add_eq_left, Bool.true_or, Bool.or_true, Bool.or_self, or_self, or_true, true_or, or_false, false_or, decide_true, decide_false, i_10, i_01, k1]
    · have k2 : ¬ x ≤ 40 := fun w => zx ⟨Int32.not_lt.mp k1, w⟩
      simp only [k_Sp_year, e_Sp_year_0, e_Sp_year_1, e_Sp_year_2, e_Sp_year_5, e_Sp_year_6, e_Sp_year_8, e_Sp_year_11, e_Sp_year_13, m_get, m_put, m_ia, m_is, m_la, m_ls, fl_sf, fl_sa, fl_sl, fl_sq, ar_sf, ar_sa, ar_sl, ar_sq, lr_sf, lr_sa, lr_sl, lr_sq, qr_sf, qr_sa, qr_sl, qr_sq, sf_1, sf_2, sa_1, sa_2, sl_1, sl_2, Option.isSome_some, Option.map_some, Option.map_none, Option.toList_some, Option.toList_none, List.nil_append, List.cons_append, List.singleton_append, if_true, if_false, ↓reduceIte, and_self, and_true, true_and, and_false, false_and, not_true, not_false_iff, reduceCtorEq, Nat.reduceEqDiff, Nat.reduceAdd, Nat.reduceSub, Nat.reduceMul, Nat.reduceLT, Nat.reduceLeDiff, Nat.reduceBEq, eq_self, ne_eq, Nat.add_eq_zero_iff, Nat.add_left_cancel_iff, Nat.add_right_cancel_iff, Nat.left_eq_add, Nat.add_eq_left, Bool.true_or, Bool.or_true, Bool.or_self, or_self, or_true, true_or, or_false, false_or, decide_true, decide_false, i_10, i_01, k1, k2]
  simp only [if_pos zx] at d1
  have k1 : ¬ x < 1 := Int32.not_lt.mpr zx.1
  have k2 : x ≤ 40 := zx.2
  obtain ⟨m, hm, rfl⟩ := nI_of2 (M := 40) (n := 40) rfl (fun w => k1 (Int32.lt_trans w (by decide))) zx.2
  have v4 := V.1.2.2.2.2.1
  rw [uu] at v4
  have E90 : ∀ j, j < t → cpI (σ 90) (fun j => σ 84 (5 + j)) 0 t j = σ 84 (5 + j) := fun j hj => by
    have := cpI_in (g := σ 90) (f := fun j => σ 84 (5 + j)) (o := 0) hj
    rw [Nat.zero_add] at this
    exact this
  rcases Nat.eq_zero_or_pos t with t0 | t0
  · subst t0
    have q2 : nI 0 ≤ 0 := Int32.le_refl _
    have q3 : ¬ 0 < nI 0 := fun w => Int32.lt_irrefl w
    have q4 : ¬ nI m ≤ 0 := by
      intro w
      have w1 : nI m < 1 := Int32.lt_of_le_of_lt w (by decide)
      exact k1 w1
    have cC := cM_yearC (x := nI m) t6 vt H none
    have f14 := hI H 75 9 14 rfl rfl
    rw [vt] at f14
    have H1 := Hp_sa (t := 0) (n := 6) H (a := 90) rfl rfl (cpI (σ 90) (fun j => σ 84 (5 + j)) 0 0)
    have cS := cM_yearS H1 (t := 0) (by omega) vt (nI m)
    refine ⟨.int 0, h, _, ?_, ?_, ⟨_, _, v, s, q, e, p, 0, n, len, A, X, z, H1, rlV_cg rv0 (fun a ha => by first | rfl | (simp only [us]; repeat rw [if_neg (by omega)])) (fun k hk => by first | rfl | (simp only [ut]; repeat rw [if_neg (by omega)])) (fun k hk => by first | rfl | (simp only [ut]; repeat rw [if_neg (by omega)])), rlT_cg rt (by simp only [us, Nat.reduceEqDiff, if_false, and_self]) ⟨rfl, rfl⟩, rlA_cg ra (by simp only [us, Nat.reduceEqDiff, if_false, and_self]) ⟨rfl, rfl, rfl⟩ (fun o ho => by first | rfl | (funext k; simp only [ut]; repeat rw [if_neg (by omega)])), rlK_cg rk (fun a ha => by first | rfl | (simp only [us]; repeat rw [if_neg (by omega)])) (fun b k hk => by first | rfl | (simp only [ut]; repeat rw [if_neg (by omega)])), rlS_cg rs (fun a ha => by first | rfl | (simp only [us]; repeat rw [if_neg (by omega)])) ⟨rfl, rfl⟩, rlY_cg ry (by simp only [us, Nat.reduceEqDiff, if_false, and_self])⟩, Hp_1 H, Hp_75 H⟩
    · simp only [k_Sp_year, e_Sp_year_0, e_Sp_year_1, e_Sp_year_2, e_Sp_year_5, e_Sp_year_6, e_Sp_year_8, e_Sp_year_11, e_Sp_year_13, e_Sp_year_14, e_Sp_year_15, e_Sp_year_18, e_Sp_year_21, e_Sp_year_22, e_Sp_year_23, e_Sp_year_26, e_Sp_year_27, m_get, m_put, m_ia, m_is, m_la, m_ls, fl_sf, fl_sa, fl_sl, fl_sq, ar_sf, ar_sa, ar_sl, ar_sq, lr_sf, lr_sa, lr_sl, lr_sq, qr_sf, qr_sa, qr_sl, qr_sq, sf_1, sf_2, sa_1, sa_2, sl_1, sl_2, Option.isSome_some, Option.map_some, Option.map_none, Option.toList_some, Option.toList_none, List.nil_append, List.cons_append, List.singleton_append, if_true, if_false, ↓reduceIte, and_self, and_true, true_and, and_false, false_and, not_true, not_false_iff, reduceCtorEq, Nat.reduceEqDiff, Nat.reduceAdd, Nat.reduceSub, Nat.reduceMul, Nat.reduceLT, Nat.reduceLeDiff, Nat.reduceBEq, eq_self, ne_eq, Nat.add_eq_zero_iff, Nat.add_left_cancel_iff, Nat.add_right_cancel_iff, Nat.left_eq_add, Nat.add_eq_left, Bool.true_or, Bool.or_true, Bool.or_self, or_self, or_true, true_or, or_false, false_or, decide_true, decide_false, i_10, i_01, k1, k2, fh, v4, q3]
    · simp only [k_Md_year, e_Md_year_0, e_Md_year_1, e_Md_year_2, e_Md_year_3, e_Md_year_6, e_Md_year_9, e_Md_year_12, e_Md_year_14, e_Md_year_15, e_Md_year_16, m_get, m_put, m_ia, m_is, m_la, m_ls, fl_sf, fl_sa, fl_sl, fl_sq, ar_sf, ar_sa, ar_sl, ar_sq, lr_sf, lr_sa, lr_sl, lr_sq, qr_sf, qr_sa, qr_sl, qr_sq, sf_1, sf_2, sa_1, sa_2, sl_1, sl_2, Option.isSome_some, Option.map_some, Option.map_none, Option.toList_some, Option.toList_none, List.nil_append, List.cons_append, List.singleton_append, if_true, if_false, ↓reduceIte, and_self, and_true, true_and, and_false, false_and, not_true, not_false_iff, reduceCtorEq, Nat.reduceEqDiff, Nat.reduceAdd, Nat.reduceSub, Nat.reduceMul, Nat.reduceLT, Nat.reduceLeDiff, Nat.reduceBEq, eq_self, ne_eq, Nat.add_eq_zero_iff, Nat.add_left_cancel_iff, Nat.add_right_cancel_iff, Nat.left_eq_add, Nat.add_eq_left, Bool.true_or, Bool.or_true, Bool.or_self, or_self, or_true, true_or, or_false, false_or, decide_true, decide_false, i_10, i_01, d1]
      rw [cC]
      simp only [e_Md_year_45, e_Md_year_46, e_Md_year_47, e_Md_year_48, e_Md_year_49, e_Md_year_52, e_Md_year_53, e_Md_year_56, e_Md_year_123, e_Md_year_124, e_Md_year_125, e_Md_year_126, m_get, m_put, m_ia, m_is, m_la, m_ls, fl_sf, fl_sa, fl_sl, fl_sq, ar_sf, ar_sa, ar_sl, ar_sq, lr_sf, lr_sa, lr_sl, lr_sq, qr_sf, qr_sa, qr_sl, qr_sq, sf_1, sf_2, sa_1, sa_2, sl_1, sl_2, Option.isSome_some, Option.map_some, Option.map_none, Option.toList_some, Option.toList_none, List.nil_append, List.cons_append, List.singleton_append, if_true, if_false, ↓reduceIte, and_self, and_true, true_and, and_false, false_and, not_true, not_false_iff, reduceCtorEq, Nat.reduceEqDiff, Nat.reduceAdd, Nat.reduceSub, Nat.reduceMul, Nat.reduceLT, Nat.reduceLeDiff, Nat.reduceBEq, eq_self, ne_eq, Nat.add_eq_zero_iff, Nat.add_left_cancel_iff, Nat.add_right_cancel_iff, Nat.left_eq_add, Nat.add_eq_left, Bool.true_or, Bool.or_true, Bool.or_self, or_self, or_true, true_or, or_false, false_or, decide_true, decide_false, i_10, i_01, f14, q2, q4]
      exact cS
  · have q3 : 0 < nI t := nI_lt (a := 0) t0 (by omega)
    have w5 := V.2.1.2.2.2.2.1
    have a5' := V.2.2.2.2.2.2.1
    have f11 := hR H 1 8 11 74 rfl rfl
    have r74 := hA H 74 0 6 rfl rfl
    have H1 := Hp_sa (t := 0) (n := 6) H (a := 74) rfl rfl (va_cpy (σ (v + 5)) (σ 74) 0 0 6)
    obtain ⟨h1, c1, H1'⟩ := c_year (σ := σ) (τ := τ) (m := m) hm t6 t0 uu (e := e) (g0 := va_cpy (σ (v + 5)) (σ 74) 0 0 6) 0 (by omega) _ none H1
    rw [nI_0] at c1
    have ng : ∀ g, us σ 74 g 90 = σ 90 := fun g => by simp only [us, Nat.reduceEqDiff, if_false]
    have ng84 : ∀ g, us σ 74 g 84 = σ 84 := fun g => by simp only [us, Nat.reduceEqDiff, if_false]
    have ng82 : ∀ g, us σ 74 g 82 = σ 82 := fun g => by simp only [us, Nat.reduceEqDiff, if_false]
    have cC := cM_yearC (x := nI m) t6 vt H1' none
    rw [ng, ng84] at cC
    have H2 := Hp_sa (t := 0) (n := 6) H1' (a := 90) rfl rfl (cpI (σ 90) (fun j => σ 84 (5 + j)) 0 t)
    obtain ⟨h2, c2, H2'⟩ := cM_yearL (σ := us σ 74 (yG e (va_cpy (σ (v + 5)) (σ 74) 0 0 6) (τ v 1) t m)) (τ := τ) (m := m) hm t6 t0 vt (e := e) (g0 := cpI (σ 90) (fun j => σ 84 (5 + j)) 0 t) 0 (by omega) _ none H2
    rw [nI_0] at c2
    rw [ng82] at c2
    have d1 := fun f => call_l (lv := 2) (c_inI (h := h1) (nI m) (y := 1) (z := 40) (yl := 1) (zl := 40) rfl rfl) (Nat.le_of_ble_eq_true rfl) f
    simp only [if_pos zx] at d1
    have ew : wt (σ (v + 4)) (yG e (va_cpy (σ (v + 5)) (σ 74) 0 0 6) (τ v 1) t m) t = wt (σ 82) (yG e (cpI (σ 90) (fun j => σ 84 (5 + j)) 0 t) (τ 75 17) t m) t := by
      refine wt_cg t (fun j hj => ⟨(ag2 j hj).2.1, ?_⟩)
      rw [vc]
      refine yG_cg t0 (fun j hj => ?_) m j hj
      rw [E90 j hj, cpy_in (by omega)]
      exact (ag2 j hj).2.2.1
    rw [ew] at c1
    refine ⟨.int (wt (σ 82) (yG e (cpI (σ 90) (fun j => σ 84 (5 + j)) 0 t) (τ 75 17) t m) t), h1, h2, ?_, ?_, ⟨_, _, v, s, q, yE e m, p, t, n, len, A, X, z, H2', rlV_cg rv0 (fun a ha => by first | rfl | (simp only [us]; repeat rw [if_neg (by omega)])) (fun k hk => by first | rfl | (simp only [ut]; repeat rw [if_neg (by omega)])) (fun k hk => by first | rfl | (simp only [ut]; repeat rw [if_neg (by omega)])), rlT_cg rt (by simp only [us, Nat.reduceEqDiff, if_false, and_self]) ⟨rfl, rfl⟩, rlA_cg ra (by simp only [us, Nat.reduceEqDiff, if_false, and_self]) ⟨rfl, rfl, rfl⟩ (fun o ho => by first | rfl | (funext k; simp only [ut]; repeat rw [if_neg (by omega)])), rlK_cg rk (fun a ha => by first | rfl | (simp only [us]; repeat rw [if_neg (by omega)])) (fun b k hk => by first | rfl | (simp only [ut]; repeat rw [if_neg (by omega)])), rlS_cg rs (fun a ha => by first | rfl | (simp only [us]; repeat rw [if_neg (by omega)])) ⟨rfl, rfl⟩, rlY_cg ry (by simp only [us, Nat.reduceEqDiff, if_false, and_self])⟩, Hp_1 H, Hp_75 H1'⟩
    · simp only [k_Sp_year, e_Sp_year_0, e_Sp_year_1, e_Sp_year_2, e_Sp_year_5, e_Sp_year_6, e_Sp_year_8, e_Sp_year_11, e_Sp_year_13, e_Sp_year_14, e_Sp_year_15, e_Sp_year_18, e_Sp_year_21, e_Sp_year_22, e_Sp_year_23, e_Sp_year_26, e_Sp_year_27, e_Sp_year_28, e_Sp_year_29, e_Sp_year_32, e_Sp_year_35, e_Sp_year_36, e_Sp_year_37, e_Sp_year_40, e_Sp_year_41, e_Sp_year_43, e_Sp_year_46, e_Sp_year_47, m_get, m_put, m_ia, m_is, m_la, m_ls, fl_sf, fl_sa, fl_sl, fl_sq, ar_sf, ar_sa, ar_sl, ar_sq, lr_sf, lr_sa, lr_sl, lr_sq, qr_sf, qr_sa, qr_sl, qr_sq, sf_1, sf_2, sa_1, sa_2, sl_1, sl_2, m_cp, Option.isSome_some, Option.map_some, Option.map_none, Option.toList_some, Option.toList_none, List.nil_append, List.cons_append, List.singleton_append, if_true, if_false, ↓reduceIte, and_self, and_true, true_and, and_false, false_and, not_true, not_false_iff, reduceCtorEq, Nat.reduceEqDiff, Nat.reduceAdd, Nat.reduceSub, Nat.reduceMul, Nat.reduceLT, Nat.reduceLeDiff, Nat.reduceBEq, eq_self, ne_eq, Nat.add_eq_zero_iff, Nat.add_left_cancel_iff, Nat.add_right_cancel_iff, Nat.left_eq_add, Nat.add_eq_left, Bool.true_or, Bool.or_true, Bool.or_self, or_self, or_true, true_or, or_false, false_or, decide_true, decide_false, i_10, i_01, k1, k2, fh, v4, q3, w5, a5', f11, r74, cl0, cl6, n60, n00, Nat.le_refl]
      exact c1
    · simp only [k_Md_year, e_Md_year_0, e_Md_year_1, e_Md_year_2, e_Md_year_3, e_Md_year_6, e_Md_year_9, e_Md_year_12, e_Md_year_14, e_Md_year_15, e_Md_year_16, m_get, m_put, m_ia, m_is, m_la, m_ls, fl_sf, fl_sa, fl_sl, fl_sq, ar_sf, ar_sa, ar_sl, ar_sq, lr_sf, lr_sa, lr_sl, lr_sq, qr_sf, qr_sa, qr_sl, qr_sq, sf_1, sf_2, sa_1, sa_2, sl_1, sl_2, Option.isSome_some, Option.map_some, Option.map_none, Option.toList_some, Option.toList_none, List.nil_append, List.cons_append, List.singleton_append, if_true, if_false, ↓reduceIte, and_self, and_true, true_and, and_false, false_and, not_true, not_false_iff, reduceCtorEq, Nat.reduceEqDiff, Nat.reduceAdd, Nat.reduceSub, Nat.reduceMul, Nat.reduceLT, Nat.reduceLeDiff, Nat.reduceBEq, eq_self, ne_eq, Nat.add_eq_zero_iff, Nat.add_left_cancel_iff, Nat.add_right_cancel_iff, Nat.left_eq_add, Nat.add_eq_left, Bool.true_or, Bool.or_true, Bool.or_self, or_self, or_true, true_or, or_false, false_or, decide_true, decide_false, i_10, i_01, d1]
      rw [cC]
      simp only [e_Md_year_45, e_Md_year_46, Option.isSome_some, Option.map_some, Option.map_none, Option.toList_some, Option.toList_none, List.nil_append, List.cons_append, List.singleton_append, if_true, if_false, ↓reduceIte, and_self, and_true, true_and, and_false, false_and, not_true, not_false_iff, reduceCtorEq, Nat.reduceEqDiff, Nat.reduceAdd, Nat.reduceSub, Nat.reduceMul, Nat.reduceLT, Nat.reduceLeDiff, Nat.reduceBEq, eq_self, ne_eq, Nat.add_eq_zero_iff, Nat.add_left_cancel_iff, Nat.add_right_cancel_iff, Nat.left_eq_add, Nat.add_eq_left, Bool.true_or, Bool.or_true, Bool.or_self, or_self, or_true, true_or, or_false, false_or, decide_true, decide_false, i_10, i_01]
      exact c2
end YEAR
