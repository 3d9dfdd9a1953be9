/-! A day's sets are found. -/
theorem sf_self {h : xH} {a c k : Nat} {w : Value} (e : fl h a c k = some w) : sf h a c k w = h := by
  unfold fl at e
  unfold sf
  rcases hz : h.2.2 a with _ | (x | ⟨c0, fs⟩)
  · rw [hz] at e
  · rw [hz] at e
  · rw [hz] at e
    simp only at e ⊢
    by_cases y : c0 = c
    · rw [if_pos y] at e ⊢
      obtain ⟨hk, rfl⟩ := List.getElem?_eq_some_iff.mp e
      rw [List.set_getElem_self]
      unfold xup
      refine Prod.ext rfl (Prod.ext rfl ?_)
      funext j
      simp only
      by_cases qj : j = a
      · rw [if_pos qj, qj, hz]
      · rw [if_neg qj]
    · rw [if_neg y]
def bl (x : Int64) (i : Nat) : Bool := x.toBitVec.getLsbD i
theorem bl_or (x y : Int64) (i : Nat) : bl (x ||| y) i = (bl x i || bl y i) := by unfold bl; rw [Int64.toBitVec_or, BitVec.getLsbD_or]
theorem bl_and (x y : Int64) (i : Nat) : bl (x &&& y) i = (bl x i && bl y i) := by unfold bl; rw [Int64.toBitVec_and, BitVec.getLsbD_and]
theorem bl_0 (i : Nat) : bl 0 i = false := BitVec.getLsbD_zero
theorem bl_ext {x y : Int64} (h : ∀ i, i < 64 → bl x i = bl y i) : x = y := Int64.toBitVec_inj.mp (BitVec.eq_of_getLsbD_eq (fun i hi => h i hi))
theorem bl_1 : ∀ i, i < 64 → bl 1 i = decide (i = 0) := by decide +kernel
theorem bl_pw : ∀ L, L < 64 → ∀ k, k < 64 → bl ((1 : Int64) <<< ((nI L).toInt64 &&& 63)) k = decide (k = L) := by decide +kernel
theorem sl_u : ∀ n, n < 64 → (((nI n).toInt64.toUInt64 &&& Int64.toUInt64 63).toBitVec % 64).toNat = n := by decide +kernel
theorem bl_ushr (n : Nat) (hn : n < 64) (x : Int64) (i : Nat) : bl ((x.toUInt64 >>> ((nI n).toInt64.toUInt64 &&& Int64.toUInt64 63)).toInt64) i = bl x (n + i) := by
  show (x.toUInt64 >>> ((nI n).toInt64.toUInt64 &&& Int64.toUInt64 63)).toBitVec.getLsbD i = x.toUInt64.toBitVec.getLsbD (n + i)
  rw [UInt64.toBitVec_shiftRight]
  show (x.toUInt64.toBitVec >>> (((nI n).toInt64.toUInt64 &&& Int64.toUInt64 63).toBitVec % 64).toNat).getLsbD i = _
  rw [sl_u n hn, BitVec.getLsbD_ushiftRight]
theorem bl_z (n : Nat) (hn : n < 64) (x : Int64) : (((x.toUInt64 >>> ((nI n).toInt64.toUInt64 &&& Int64.toUInt64 63)).toInt64) &&& 1 = 0) ↔ bl x n = false := by
  constructor
  · intro h
    have := congrArg (fun z => bl z 0) h
    simp only [bl_and, bl_0, bl_ushr n hn] at this
    rw [bl_1 0 (by decide)] at this
    simpa using this
  · intro h
    refine bl_ext fun i hi => ?_
    rw [bl_and, bl_0, bl_1 i hi, bl_ushr n hn]
    by_cases w : i = 0
    · subst w
      rw [Nat.add_zero, h]
      rfl
    · simp [w]
theorem bl_nz (x : Int64) : ¬ x = 0 ↔ ∃ k, k < 64 ∧ bl x k = true := by
  constructor
  · intro h
    by_cases w : ∃ k, k < 64 ∧ bl x k = true
    · exact w
    · refine absurd (bl_ext fun i hi => ?_) h
      rw [bl_0]
      by_cases y : bl x i = true
      · exact absurd ⟨i, hi, y⟩ w
      · simpa using y
  · rintro ⟨k, _, h⟩ w
    rw [w, bl_0] at h
    cases h
theorem nI_or (a b : Nat) : nI a ||| nI b = nI (a ||| b) := b_ext fun i hi => by rw [b_or, bt_nI hi, bt_nI hi, bt_nI hi, Nat.testBit_or]
theorem nm9 {a : Nat} (ha : a < 2 ^ 31) : ¬ nI a = -9 := fun w => by
  have := nI_pos ha
  rw [w] at this
  exact this (by decide)
def okP (kn : Nat → Int32) (ow np ch : Nat → Nat) (i c : Nat) : Bool := decide (ow (ch c) = np i) || bt (kn (np i)) (ow (ch c))
def lnP (ow np ch : Nat → Nat) (i c : Nat) : Bool := !decide (ow (ch c) = np i)
/-- what the planner has gathered -/
def Pq (σ τ : Nat → Nat → Int32) (v C : Nat) (ch ow np ds : Nat → Nat) : Prop :=
  (C ≤ 6 ∧ τ 55 2 = nI C) ∧ (ds 4 ≤ 8 ∧ τ 55 4 = nI (ds 4)) ∧ (ds 0 = 0 ∧ ∀ d, d < 4 → ds d ≤ ds (d + 1)) ∧ (∀ d, d ≤ 4 → σ 58 d = nI (ds d)) ∧
  (∀ c, c < C → ch c < 6 ∧ σ 56 c = nI (ch c) ∧ σ (v + 3) (ch c) = nI (ow (ch c)) ∧ ow (ch c) < 5) ∧
  (∀ i, i < ds 4 → σ 57 i = nI (np i) ∧ np i < 5)
def upN (a : Nat → Nat) (i c : Nat) : Nat → Nat := fun j => if j = i then c else a j
theorem ds_le {ds : Nat → Nat} (hm : ∀ d, d < 4 → ds d ≤ ds (d + 1)) {e d : Nat} (h : e ≤ d) (hd : d ≤ 4) : ds e ≤ ds d := by
  obtain ⟨k, rfl⟩ : ∃ k, d = e + k := ⟨d - e, by omega⟩
  clear h
  induction k with
  | zero => exact Nat.le_refl _
  | succ k ih =>
    have := hm (e + k) (by omega)
    have := ih (by omega)
    rw [← Nat.add_assoc]
    omega
section PS
variable {σ τ : Nat → Nat → Int32} {v s C : Nat} {q : Nat → Nat} {e1 e2 : Int64} {ch ow np ds : Nat → Nat}
theorem c_lentFor {h : xH} (G : Pg h σ τ v s q e1 e2) (Q : Pq σ τ v C ch ow np ds) {i c : Nat} (hi : i < ds 4) (hc : c < C) : xC M_Planner_lentFor [.ref 55, .int (nI i), .int (nI c)] h = some (some (.int (if (okP (σ (v + 2)) ow np ch) i c = true then (if (lnP ow np ch) i c = true then nI (2 ^ c) else 0) else -9)), h) := by
  have hv := G.1.2.2.2.1.1
  obtain ⟨⟨c6, ec⟩, ⟨m8, em⟩, ⟨d0, dm⟩, ed, hch, hnp⟩ := Q
  obtain ⟨k1, k2, k3, k4⟩ := hch c hc
  obtain ⟨n1, n2⟩ := hnp i hi
  have f0 := G.2
  have f3 := hR G.1 55 4 3 56 rfl rfl
  have f5 := hR G.1 55 4 5 57 rfl rfl
  have r56 := hA G.1 56 0 6 rfl rfl
  have r57 := hA G.1 57 0 8 rfl rfl
  have V := Hp_vil G.1 hv
  have w3 := V.2.1.2.2.1
  have a3 := V.2.2.2.2.1
  have ii := xin_nI (show i < 8 by omega) (by decide)
  have ci := nI_clamp (show i < 2 ^ 31 by omega)
  have ic := xin_nI (show c < 6 by omega) (by decide)
  have cc := nI_clamp (show c < 2 ^ 31 by omega)
  have ij := xin_nI k1 (by decide)
  have cj := nI_clamp (show ch c < 2 ^ 31 by omega)
  have ck := call_v (lv := 1) (c_know V (i := np i) n2 (nI (ow (ch c)))) (Vil_is V) (by decide) (Nat.le_of_ble_eq_true rfl)
  have pw := pw8 c (by omega)
  unfold okP lnP
  by_cases w : ow (ch c) = np i
  · rw [decide_eq_true w]
    simp only [k_Planner_lentFor, e_Planner_lentFor_0, e_Planner_lentFor_1, e_Planner_lentFor_4, e_Planner_lentFor_5, e_Planner_lentFor_6, e_Planner_lentFor_7, e_Planner_lentFor_8, e_Planner_lentFor_11, e_Planner_lentFor_14, e_Planner_lentFor_15, e_Planner_lentFor_18, e_Planner_lentFor_19, e_Planner_lentFor_20, e_Planner_lentFor_21, e_Planner_lentFor_23, e_Planner_lentFor_25, e_Planner_lentFor_26, e_Planner_lentFor_29, e_Planner_lentFor_30, m_get, m_put, m_ia, m_is, m_la, m_ls, fl_sf, fl_sa, fl_sl, fl_sq, ar_sf, ar_sa, ar_sl, ar_sq, lr_sf, lr_sa, lr_sl, lr_sq, qr_sf, qr_sa, qr_sl, qr_sq, sf_1, sf_2, sa_1, sa_2, sl_1, sl_2, Option.isSome_some, Option.map_some, Option.map_none, Option.toList_some, Option.toList_none, List.nil_append, List.cons_append, List.singleton_append, if_true, if_false, ↓reduceIte, and_self, and_true, true_and, and_false, false_and, not_true, not_false_iff, reduceCtorEq, Nat.reduceEqDiff, Nat.reduceAdd, Nat.reduceSub, Nat.reduceMul, Nat.reduceLT, Nat.reduceLeDiff, Nat.reduceBEq, eq_self, ne_eq, Nat.add_eq_zero_iff, Nat.add_left_cancel_iff, Nat.add_right_cancel_iff, Nat.left_eq_add, Nat.add_eq_left, Bool.true_or, Bool.or_true, Bool.or_self, or_self, or_true, true_or, or_false, false_or, decide_true, decide_false, i_10, i_01, f0, f3, f5, r56, r57, w3, a3, ii, ci, ic, cc, k2, ij, cj, k3, n1, w, Bool.not_true, Bool.false_eq_true]
  · have w' : ¬ nI (ow (ch c)) = nI (np i) := fun y => w ((nI_eq (by omega) (by omega)).mp y)
    have bz := b_z (x := σ (v + 2) (np i)) (show ow (ch c) < 32 by omega)
    rw [decide_eq_false w]
    by_cases y : bt (σ (v + 2) (np i)) (ow (ch c)) = true
    · have wz : ¬ ((σ (v + 2) (np i) >>> (nI (ow (ch c)) &&& 31)) &&& 1 = 0) := fun y' => by rw [bz.mp y'] at y; cases y
      simp only [if_neg wz] at ck
      simp only [k_Planner_lentFor, e_Planner_lentFor_0, e_Planner_lentFor_1, e_Planner_lentFor_4, e_Planner_lentFor_5, e_Planner_lentFor_6, e_Planner_lentFor_7, e_Planner_lentFor_8, e_Planner_lentFor_11, e_Planner_lentFor_14, e_Planner_lentFor_15, e_Planner_lentFor_18, e_Planner_lentFor_19, e_Planner_lentFor_20, e_Planner_lentFor_21, e_Planner_lentFor_23, e_Planner_lentFor_25, e_Planner_lentFor_26, e_Planner_lentFor_29, e_Planner_lentFor_30, e_Planner_lentFor_31, e_Planner_lentFor_32, e_Planner_lentFor_35, e_Planner_lentFor_36, e_Planner_lentFor_38, e_Planner_lentFor_41, e_Planner_lentFor_44, e_Planner_lentFor_45, e_Planner_lentFor_46, e_Planner_lentFor_47, e_Planner_lentFor_50, e_Planner_lentFor_52, m_get, m_put, m_ia, m_is, m_la, m_ls, fl_sf, fl_sa, fl_sl, fl_sq, ar_sf, ar_sa, ar_sl, ar_sq, lr_sf, lr_sa, lr_sl, lr_sq, qr_sf, qr_sa, qr_sl, qr_sq, sf_1, sf_2, sa_1, sa_2, sl_1, sl_2, Option.isSome_some, Option.map_some, Option.map_none, Option.toList_some, Option.toList_none, List.nil_append, List.cons_append, List.singleton_append, if_true, if_false, ↓reduceIte, and_self, and_true, true_and, and_false, false_and, not_true, not_false_iff, reduceCtorEq, Nat.reduceEqDiff, Nat.reduceAdd, Nat.reduceSub, Nat.reduceMul, Nat.reduceLT, Nat.reduceLeDiff, Nat.reduceBEq, eq_self, ne_eq, Nat.add_eq_zero_iff, Nat.add_left_cancel_iff, Nat.add_right_cancel_iff, Nat.left_eq_add, Nat.add_eq_left, Bool.true_or, Bool.or_true, Bool.or_self, or_self, or_true, true_or, or_false, false_or, decide_true, decide_false, i_10, i_01, f0, f3, f5, r56, r57, w3, a3, ii, ci, ic, cc, k2, ij, cj, k3, n1, w', ck, y, pw, Bool.not_false, Bool.false_or]
    · have wz : (σ (v + 2) (np i) >>> (nI (ow (ch c)) &&& 31)) &&& 1 = 0 := bz.mpr (by simpa using y)
      simp only [if_pos wz] at ck
      simp only [k_Planner_lentFor, e_Planner_lentFor_0, e_Planner_lentFor_1, e_Planner_lentFor_4, e_Planner_lentFor_5, e_Planner_lentFor_6, e_Planner_lentFor_7, e_Planner_lentFor_8, e_Planner_lentFor_11, e_Planner_lentFor_14, e_Planner_lentFor_15, e_Planner_lentFor_18, e_Planner_lentFor_19, e_Planner_lentFor_20, e_Planner_lentFor_21, e_Planner_lentFor_23, e_Planner_lentFor_25, e_Planner_lentFor_26, e_Planner_lentFor_29, e_Planner_lentFor_30, e_Planner_lentFor_31, e_Planner_lentFor_32, e_Planner_lentFor_35, e_Planner_lentFor_36, e_Planner_lentFor_38, e_Planner_lentFor_41, e_Planner_lentFor_44, e_Planner_lentFor_45, e_Planner_lentFor_46, e_Planner_lentFor_47, e_Planner_lentFor_50, e_Planner_lentFor_52, m_get, m_put, m_ia, m_is, m_la, m_ls, fl_sf, fl_sa, fl_sl, fl_sq, ar_sf, ar_sa, ar_sl, ar_sq, lr_sf, lr_sa, lr_sl, lr_sq, qr_sf, qr_sa, qr_sl, qr_sq, sf_1, sf_2, sa_1, sa_2, sl_1, sl_2, Option.isSome_some, Option.map_some, Option.map_none, Option.toList_some, Option.toList_none, List.nil_append, List.cons_append, List.singleton_append, if_true, if_false, ↓reduceIte, and_self, and_true, true_and, and_false, false_and, not_true, not_false_iff, reduceCtorEq, Nat.reduceEqDiff, Nat.reduceAdd, Nat.reduceSub, Nat.reduceMul, Nat.reduceLT, Nat.reduceLeDiff, Nat.reduceBEq, eq_self, ne_eq, Nat.add_eq_zero_iff, Nat.add_left_cancel_iff, Nat.add_right_cancel_iff, Nat.left_eq_add, Nat.add_eq_left, Bool.true_or, Bool.or_true, Bool.or_self, or_self, or_true, true_or, or_false, false_or, decide_true, decide_false, i_10, i_01, f0, f3, f5, r56, r57, w3, a3, ii, ci, ic, cc, k2, ij, cj, k3, n1, w', ck, y, Bool.not_false, Bool.false_or, Bool.false_eq_true]
theorem DF_up {ok : Nat → Nat → Bool} {a : Nat → Nat} {lo i c : Nat} (h : DF C ok a lo i) (hc : c < C) (ho : ok i c = true) (hn : ¬ ∃ j, lo ≤ j ∧ j < i ∧ a j = c) : DF C ok (upN a i c) lo (i + 1) := fun j h1 h2 => by
  unfold upN
  by_cases w : j = i
  · subst w
    rw [if_pos rfl]
    exact ⟨hc, ho, fun k h3 h4 => by rw [if_neg (by omega)]; exact fun y => hn ⟨k, h3, h4, y⟩⟩
  · rw [if_neg w]
    obtain ⟨x, y, z⟩ := h j h1 (by omega)
    exact ⟨x, y, fun k h3 h4 => by rw [if_neg (by omega)]; exact z k h3 h4⟩
theorem msk_up {ln : Nat → Nat → Bool} {a : Nat → Nat} {lo i c : Nat} (hl : lo ≤ i) : msk ln (upN a i c) lo (i + 1 - lo) = if ln i c = true then msk ln a lo (i - lo) ||| 2 ^ c else msk ln a lo (i - lo) := by
  rw [show i + 1 - lo = (i - lo) + 1 by omega, msk, show lo + (i - lo) = i by omega, show upN a i c i = c from if_pos rfl, msk_cg (a := a) (a' := upN a i c) (i - lo) (fun j h1 h2 => if_neg (by omega))]
theorem us_up {U : Int32} {a : Nat → Nat} {lo i c : Nat} (c6 : C ≤ 6) (hc : c < C) (hl : lo ≤ i) (hU : ∀ x, x < C → (bt U x = true ↔ ∃ j, lo ≤ j ∧ j < i ∧ a j = x)) : ∀ x, x < C → (bt (U ||| ((1 : Int32) <<< (nI c &&& 31))) x = true ↔ ∃ j, lo ≤ j ∧ j < i + 1 ∧ upN a i c j = x) := by
  intro x hx
  rw [b_or, b_pw (by omega) (by omega), Bool.or_eq_true, hU x hx]
  constructor
  · rintro (⟨j, h1, h2, h3⟩ | h)
    · exact ⟨j, h1, by omega, by rw [upN, if_neg (by omega)]; exact h3⟩
    · exact ⟨i, hl, by omega, by rw [upN, if_pos rfl]; exact (of_decide_eq_true h).symm⟩
  · rintro ⟨j, h1, h2, h3⟩
    by_cases w : j = i
    · rw [upN, if_pos w] at h3
      exact Or.inr (decide_eq_true h3.symm)
    · rw [upN, if_neg w] at h3
      exact Or.inl ⟨j, h1, by omega, h3⟩
theorem c_findSets (Q : Pq σ τ v C ch ow np ds) : ∀ r lo hi i a x U h, Pg h σ τ v s q e1 e2 → i + r = hi → lo ≤ i → hi ≤ ds 4 → DF C (okP (σ (v + 2)) ow np ch) a lo i → (∀ c, c < C → (bt U c = true ↔ ∃ j, lo ≤ j ∧ j < i ∧ a j = c)) → fl h 55 4 8 = some (.long x) → ∃ x', xC M_Planner_findSets [.ref 55, .int (nI i), .int (nI hi), .int U, .int (nI (msk (lnP ow np ch) a lo (i - lo)))] h = some (none, sf h 55 4 8 (.long x')) ∧ ∀ k, k < 64 → (bl x' k = true ↔ (bl x k = true ∨ (∃ a', (∀ j, j < i → a' j = a j) ∧ DF C (okP (σ (v + 2)) ow np ch) a' lo hi ∧ msk (lnP ow np ch) a' lo (hi - lo) = k)))
  | 0, lo, hi, i, a, x, U, h, G, hr, hl, h4, hD, hU, fx => by
    have e : i = hi := by omega
    subst e
    have c6 := Q.1.1
    have L64 : (msk (lnP ow np ch) a lo (i - lo)) < 64 := Nat.lt_of_lt_of_le (msk_lt (C := C) _ (fun j h1 h2 => (hD j h1 (by omega)).1)) (Nat.le_trans (Nat.pow_le_pow_right (by omega) c6) (by decide))
    refine ⟨x ||| (1 <<< ((nI (msk (lnP ow np ch) a lo (i - lo))).toInt64 &&& 63)), ?_, fun k hk => ?_⟩
    · simp only [k_Planner_findSets, e_Planner_findSets_0, e_Planner_findSets_1, e_Planner_findSets_2, e_Planner_findSets_5, e_Planner_findSets_6, e_Planner_findSets_8, e_Planner_findSets_11, e_Planner_findSets_12, e_Planner_findSets_13, e_Planner_findSets_16, e_Planner_findSets_17, e_Planner_findSets_19, e_Planner_findSets_20, e_Planner_findSets_21, e_Planner_findSets_24, m_get, m_put, m_ia, m_is, m_la, m_ls, fl_sf, fl_sa, fl_sl, fl_sq, ar_sf, ar_sa, ar_sl, ar_sq, lr_sf, lr_sa, lr_sl, lr_sq, qr_sf, qr_sa, qr_sl, qr_sq, sf_1, sf_2, sa_1, sa_2, sl_1, sl_2, Option.isSome_some, Option.map_some, Option.map_none, Option.toList_some, Option.toList_none, List.nil_append, List.cons_append, List.singleton_append, if_true, if_false, ↓reduceIte, and_self, and_true, true_and, and_false, false_and, not_true, not_false_iff, reduceCtorEq, Nat.reduceEqDiff, Nat.reduceAdd, Nat.reduceSub, Nat.reduceMul, Nat.reduceLT, Nat.reduceLeDiff, Nat.reduceBEq, eq_self, ne_eq, Nat.add_eq_zero_iff, Nat.add_left_cancel_iff, Nat.add_right_cancel_iff, Nat.left_eq_add, Nat.add_eq_left, Bool.true_or, Bool.or_true, Bool.or_self, or_self, or_true, true_or, or_false, false_or, decide_true, decide_false, i_10, i_01, fx, Int32.le_refl]
    · rw [bl_or, bl_pw _ L64 k hk, Bool.or_eq_true]
      constructor
      · rintro (y | y)
        · exact Or.inl y
        · exact Or.inr ⟨a, fun _ _ => rfl, hD, (of_decide_eq_true y).symm⟩
      · rintro (y | ⟨a', h1, h2, h3⟩)
        · exact Or.inl y
        · refine Or.inr (decide_eq_true ?_)
          rw [← h3]
          exact msk_cg _ (fun j _ h5 => h1 j (by omega))
  | r + 1, lo, hi, i, a, x, U, h, G, hr, hl, h4, hD, hU, fx => by
    have c6 := Q.1.1
    have ec := Q.1.2
    have m8 := Q.2.1.1
    have f2 : ∀ y, fl (sf h 55 4 8 (.long y)) 55 4 2 = some (.int (nI C)) := fun y => by
      have := hI (Pg_sx G y).1 55 4 2 rfl rfl
      rw [ec] at this
      exact this
    have q1 : ¬ nI hi ≤ nI i := nI_ge (by omega) (by omega)
    have q2 : nI i < (8 : Int32) := nI_lt (b := 8) (by omega) (by omega)
    have ci := nI_clamp (show i < 2 ^ 31 by omega)
    have key := loop_dn (t := C) (P := fun c => ∀ x1 l6, (∀ k, k < 64 → (bl x1 k = true ↔ (bl x k = true ∨ (∃ a', (∀ j, j < i → a' j = a j) ∧ DF C (okP (σ (v + 2)) ow np ch) a' lo hi ∧ msk (lnP ow np ch) a' lo (hi - lo) = k ∧ a' i < c)))) → ∃ x', xR none (2 + (9 - i)) M_Planner_findSets 28 [some (.ref 55), some (.int (nI i)), some (.int (nI hi)), some (.int U), some (.int (nI (msk (lnP ow np ch) a lo (i - lo)))), some (.int (nI c)), l6] [] (sf h 55 4 8 (.long x1)) = some (none, sf h 55 4 8 (.long x')) ∧ ∀ k, k < 64 → (bl x' k = true ↔ (bl x k = true ∨ (∃ a', (∀ j, j < i → a' j = a j) ∧ DF C (okP (σ (v + 2)) ow np ch) a' lo hi ∧ msk (lnP ow np ch) a' lo (hi - lo) = k)))) ?_ ?_ 0 (Nat.zero_le _)
    · obtain ⟨x', c, sp⟩ := key x none (fun k hk => by
        constructor
        · exact fun y => Or.inl y
        · rintro (y | ⟨a', _, _, _, h5⟩)
          · exact y
          · omega)
      refine ⟨x', ?_, sp⟩
      rw [nI_0, sf_self fx] at c
      simp only [k_Planner_findSets, e_Planner_findSets_0, e_Planner_findSets_1, e_Planner_findSets_2, e_Planner_findSets_5, e_Planner_findSets_6, e_Planner_findSets_8, e_Planner_findSets_25, e_Planner_findSets_26, m_get, m_put, m_ia, m_is, m_la, m_ls, fl_sf, fl_sa, fl_sl, fl_sq, ar_sf, ar_sa, ar_sl, ar_sq, lr_sf, lr_sa, lr_sl, lr_sq, qr_sf, qr_sa, qr_sl, qr_sq, sf_1, sf_2, sa_1, sa_2, sl_1, sl_2, Option.isSome_some, Option.map_some, Option.map_none, Option.toList_some, Option.toList_none, List.nil_append, List.cons_append, List.singleton_append, if_true, if_false, ↓reduceIte, and_self, and_true, true_and, and_false, false_and, not_true, not_false_iff, reduceCtorEq, Nat.reduceEqDiff, Nat.reduceAdd, Nat.reduceSub, Nat.reduceMul, Nat.reduceLT, Nat.reduceLeDiff, Nat.reduceBEq, eq_self, ne_eq, Nat.add_eq_zero_iff, Nat.add_left_cancel_iff, Nat.add_right_cancel_iff, Nat.left_eq_add, Nat.add_eq_left, Bool.true_or, Bool.or_true, Bool.or_self, or_self, or_true, true_or, or_false, false_or, decide_true, decide_false, i_10, i_01, q1, q2, ci]
      exact c
    · intro x1 l6 hx
      refine ⟨x1, ?_, fun k hk => ?_⟩
      · simp only [e_Planner_findSets_28, e_Planner_findSets_30, e_Planner_findSets_31, e_Planner_findSets_34, e_Planner_findSets_92, m_get, m_put, m_ia, m_is, m_la, m_ls, fl_sf, fl_sa, fl_sl, fl_sq, ar_sf, ar_sa, ar_sl, ar_sq, lr_sf, lr_sa, lr_sl, lr_sq, qr_sf, qr_sa, qr_sl, qr_sq, sf_1, sf_2, sa_1, sa_2, sl_1, sl_2, Option.isSome_some, Option.map_some, Option.map_none, Option.toList_some, Option.toList_none, List.nil_append, List.cons_append, List.singleton_append, if_true, if_false, ↓reduceIte, and_self, and_true, true_and, and_false, false_and, not_true, not_false_iff, reduceCtorEq, Nat.reduceEqDiff, Nat.reduceAdd, Nat.reduceSub, Nat.reduceMul, Nat.reduceLT, Nat.reduceLeDiff, Nat.reduceBEq, eq_self, ne_eq, Nat.add_eq_zero_iff, Nat.add_left_cancel_iff, Nat.add_right_cancel_iff, Nat.left_eq_add, Nat.add_eq_left, Bool.true_or, Bool.or_true, Bool.or_self, or_self, or_true, true_or, or_false, false_or, decide_true, decide_false, i_10, i_01, f2, Int32.le_refl]
      · rw [hx k hk]
        constructor
        · rintro (y | ⟨a', h1, h2, h3, _⟩)
          · exact Or.inl y
          · exact Or.inr ⟨a', h1, h2, h3⟩
        · rintro (y | ⟨a', h1, h2, h3⟩)
          · exact Or.inl y
          · exact Or.inr ⟨a', h1, h2, h3, (h2 i hl (by omega)).1⟩
    · intro c hc ih x1 l6 hx
      have G1 := Pg_sx G x1
      have q3 : ¬ nI C ≤ nI c := nI_ge hc (by omega)
      have bz := b_z (x := U) (show c < 32 by omega)
      have cl := call_v (lv := 2 + (9 - i)) (c_lentFor G1 Q (i := i) (c := c) (by omega) hc) (Pg_is G1) (by decide) (show 1 < 2 + (9 - i) by omega)
      have pw := pw8 c (by omega)
      /- nothing with c here -/
      have no : (∀ a', (∀ j, j < i → a' j = a j) → DF C (okP (σ (v + 2)) ow np ch) a' lo hi → a' i ≠ c) → ∃ x', xR none (2 + (9 - i)) M_Planner_findSets 28 [some (.ref 55), some (.int (nI i)), some (.int (nI hi)), some (.int U), some (.int (nI (msk (lnP ow np ch) a lo (i - lo)))), some (.int (nI (c + 1))), some (.int (-9))] [] (sf h 55 4 8 (.long x1)) = some (none, sf h 55 4 8 (.long x')) ∧ ∀ k, k < 64 → (bl x' k = true ↔ (bl x k = true ∨ (∃ a', (∀ j, j < i → a' j = a j) ∧ DF C (okP (σ (v + 2)) ow np ch) a' lo hi ∧ msk (lnP ow np ch) a' lo (hi - lo) = k))) := fun hno => ih x1 _ (fun k hk => by
        rw [hx k hk]
        constructor
        · rintro (y | ⟨a', h1, h2, h3, h5⟩)
          · exact Or.inl y
          · exact Or.inr ⟨a', h1, h2, h3, by omega⟩
        · rintro (y | ⟨a', h1, h2, h3, h5⟩)
          · exact Or.inl y
          · have := hno a' h1 h2
            exact Or.inr ⟨a', h1, h2, h3, by omega⟩)
      rw [e_Planner_findSets_28]
      by_cases w : bt U c = true
      · have wz : ¬ ((U >>> (nI c &&& 31)) &&& 1 = 0) := fun y => by rw [bz.mp y] at w; cases w
        obtain ⟨x', cc, sp⟩ := no (fun a' h1 h2 h3 => by
          obtain ⟨j, j1, j2, j3⟩ := (hU c hc).mp w
          refine (h2 i hl (by omega)).2.2 j j1 j2 ?_
          rw [h1 j j2, h3, j3])
        refine ⟨x', ?_, sp⟩
        rw [← nI_1] at cc
        simp only [e_Planner_findSets_30, e_Planner_findSets_31, e_Planner_findSets_34, e_Planner_findSets_37, e_Planner_findSets_38, e_Planner_findSets_40, e_Planner_findSets_41, e_Planner_findSets_42, e_Planner_findSets_43, e_Planner_findSets_46, e_Planner_findSets_48, e_Planner_findSets_51, e_Planner_findSets_52, e_Planner_findSets_53, e_Planner_findSets_55, e_Planner_findSets_58, e_Planner_findSets_60, e_Planner_findSets_62, e_Planner_findSets_64, e_Planner_findSets_67, e_Planner_findSets_68, e_Planner_findSets_69, e_Planner_findSets_70, e_Planner_findSets_71, e_Planner_findSets_72, e_Planner_findSets_73, e_Planner_findSets_74, e_Planner_findSets_76, e_Planner_findSets_77, e_Planner_findSets_78, e_Planner_findSets_80, e_Planner_findSets_82, e_Planner_findSets_83, e_Planner_findSets_86, e_Planner_findSets_89, m_get, m_put, m_ia, m_is, m_la, m_ls, fl_sf, fl_sa, fl_sl, fl_sq, ar_sf, ar_sa, ar_sl, ar_sq, lr_sf, lr_sa, lr_sl, lr_sq, qr_sf, qr_sa, qr_sl, qr_sq, sf_1, sf_2, sa_1, sa_2, sl_1, sl_2, Option.isSome_some, Option.map_some, Option.map_none, Option.toList_some, Option.toList_none, List.nil_append, List.cons_append, List.singleton_append, if_true, if_false, ↓reduceIte, and_self, and_true, true_and, and_false, false_and, not_true, not_false_iff, reduceCtorEq, Nat.reduceEqDiff, Nat.reduceAdd, Nat.reduceSub, Nat.reduceMul, Nat.reduceLT, Nat.reduceLeDiff, Nat.reduceBEq, eq_self, ne_eq, Nat.add_eq_zero_iff, Nat.add_left_cancel_iff, Nat.add_right_cancel_iff, Nat.left_eq_add, Nat.add_eq_left, Bool.true_or, Bool.or_true, Bool.or_self, or_self, or_true, true_or, or_false, false_or, decide_true, decide_false, i_10, i_01, f2, q3, wz]
        exact cc
      · have wz : (U >>> (nI c &&& 31)) &&& 1 = 0 := bz.mpr (by simpa using w)
        by_cases o : (okP (σ (v + 2)) ow np ch) i c = true
        · have nu : ¬ ∃ j, lo ≤ j ∧ j < i ∧ a j = c := fun y => w ((hU c hc).mpr y)
          have fx1 : fl (sf h 55 4 8 (.long x1)) 55 4 8 = some (.long x1) := by rw [fl_sf, if_pos ⟨rfl, rfl, rfl⟩, fx]; rfl
          obtain ⟨x2, c2, sp2⟩ := c_findSets Q r lo hi (i + 1) (upN a i c) x1 (U ||| ((1 : Int32) <<< (nI c &&& 31))) _ G1 (by omega) (by omega) h4 (DF_up hD hc o nu) (us_up c6 hc hl hU) fx1
          rw [sf_sf] at c2
          have c3 := call_v (lv := 2 + (9 - i)) c2 (Pg_is G1) (by decide) (show 2 + (9 - (nI (i + 1)).toNatClampNeg) < 2 + (9 - i) by rw [nI_clamp (by omega)]; omega)
          rw [msk_up hl] at c3
          simp only [if_pos o] at cl
          have fin : ∀ z, ∃ x', xR none (2 + (9 - i)) M_Planner_findSets 28 [some (.ref 55), some (.int (nI i)), some (.int (nI hi)), some (.int U), some (.int (nI (msk (lnP ow np ch) a lo (i - lo)))), some (.int (nI (c + 1))), some (.int z)] [] (sf h 55 4 8 (.long x2)) = some (none, sf h 55 4 8 (.long x')) ∧ ∀ k, k < 64 → (bl x' k = true ↔ (bl x k = true ∨ (∃ a', (∀ j, j < i → a' j = a j) ∧ DF C (okP (σ (v + 2)) ow np ch) a' lo hi ∧ msk (lnP ow np ch) a' lo (hi - lo) = k))) := fun z => ih x2 _ (fun k hk => by
            rw [sp2 k hk, hx k hk]
            constructor
            · rintro ((y | ⟨a', h1, h2, h3, h5⟩) | ⟨a', h1, h2, h3⟩)
              · exact Or.inl y
              · exact Or.inr ⟨a', h1, h2, h3, by omega⟩
              · refine Or.inr ⟨a', fun j hj => ?_, h2, h3, ?_⟩
                · rw [h1 j (by omega), upN, if_neg (by omega)]
                · rw [h1 i (by omega), upN, if_pos rfl]
                  omega
            · rintro (y | ⟨a', h1, h2, h3, h5⟩)
              · exact Or.inl (Or.inl y)
              · by_cases y : a' i = c
                · refine Or.inr ⟨a', fun j hj => ?_, h2, h3⟩
                  rw [upN]
                  by_cases u : j = i
                  · rw [if_pos u, u, y]
                  · rw [if_neg u]
                    exact h1 j (by omega)
                · exact Or.inl (Or.inr ⟨a', h1, h2, h3, by omega⟩))
          rw [← nI_1] at c3
          by_cases l : (lnP ow np ch) i c = true
          · simp only [if_pos l] at cl
            simp only [if_pos l] at c3
            rw [← nI_or] at c3
            have q9 : ¬ nI (2 ^ c) = -9 := nm9 (Nat.lt_of_le_of_lt (Nat.pow_le_pow_right (by omega) (show c ≤ 6 by omega)) (by decide))
            obtain ⟨x', cc, sp⟩ := fin (nI (2 ^ c))
            refine ⟨x', ?_, sp⟩
            rw [← nI_1] at cc
            simp only [e_Planner_findSets_30, e_Planner_findSets_31, e_Planner_findSets_34, e_Planner_findSets_37, e_Planner_findSets_38, e_Planner_findSets_40, e_Planner_findSets_41, e_Planner_findSets_42, e_Planner_findSets_43, e_Planner_findSets_46, e_Planner_findSets_48, e_Planner_findSets_51, e_Planner_findSets_52, e_Planner_findSets_53, e_Planner_findSets_55, e_Planner_findSets_58, e_Planner_findSets_60, e_Planner_findSets_62, e_Planner_findSets_64, e_Planner_findSets_67, e_Planner_findSets_68, e_Planner_findSets_69, e_Planner_findSets_70, e_Planner_findSets_71, e_Planner_findSets_72, e_Planner_findSets_73, e_Planner_findSets_74, e_Planner_findSets_76, e_Planner_findSets_77, e_Planner_findSets_78, e_Planner_findSets_80, e_Planner_findSets_82, e_Planner_findSets_83, e_Planner_findSets_86, e_Planner_findSets_89, m_get, m_put, m_ia, m_is, m_la, m_ls, fl_sf, fl_sa, fl_sl, fl_sq, ar_sf, ar_sa, ar_sl, ar_sq, lr_sf, lr_sa, lr_sl, lr_sq, qr_sf, qr_sa, qr_sl, qr_sq, sf_1, sf_2, sa_1, sa_2, sl_1, sl_2, Option.isSome_some, Option.map_some, Option.map_none, Option.toList_some, Option.toList_none, List.nil_append, List.cons_append, List.singleton_append, if_true, if_false, ↓reduceIte, and_self, and_true, true_and, and_false, false_and, not_true, not_false_iff, reduceCtorEq, Nat.reduceEqDiff, Nat.reduceAdd, Nat.reduceSub, Nat.reduceMul, Nat.reduceLT, Nat.reduceLeDiff, Nat.reduceBEq, eq_self, ne_eq, Nat.add_eq_zero_iff, Nat.add_left_cancel_iff, Nat.add_right_cancel_iff, Nat.left_eq_add, Nat.add_eq_left, Bool.true_or, Bool.or_true, Bool.or_self, or_self, or_true, true_or, or_false, false_or, decide_true, decide_false, i_10, i_01, f2, q3, wz, cl, q9, c3]
            exact cc
          · simp only [if_neg l] at cl
            simp only [if_neg l] at c3
            obtain ⟨x', cc, sp⟩ := fin 0
            refine ⟨x', ?_, sp⟩
            rw [← nI_1] at cc
            have z9 : ¬ (0 : Int32) = -9 := by decide
            simp only [e_Planner_findSets_30, e_Planner_findSets_31, e_Planner_findSets_34, e_Planner_findSets_37, e_Planner_findSets_38, e_Planner_findSets_40, e_Planner_findSets_41, e_Planner_findSets_42, e_Planner_findSets_43, e_Planner_findSets_46, e_Planner_findSets_48, e_Planner_findSets_51, e_Planner_findSets_52, e_Planner_findSets_53, e_Planner_findSets_55, e_Planner_findSets_58, e_Planner_findSets_60, e_Planner_findSets_62, e_Planner_findSets_64, e_Planner_findSets_67, e_Planner_findSets_68, e_Planner_findSets_69, e_Planner_findSets_70, e_Planner_findSets_71, e_Planner_findSets_72, e_Planner_findSets_73, e_Planner_findSets_74, e_Planner_findSets_76, e_Planner_findSets_77, e_Planner_findSets_78, e_Planner_findSets_80, e_Planner_findSets_82, e_Planner_findSets_83, e_Planner_findSets_86, e_Planner_findSets_89, m_get, m_put, m_ia, m_is, m_la, m_ls, fl_sf, fl_sa, fl_sl, fl_sq, ar_sf, ar_sa, ar_sl, ar_sq, lr_sf, lr_sa, lr_sl, lr_sq, qr_sf, qr_sa, qr_sl, qr_sq, sf_1, sf_2, sa_1, sa_2, sl_1, sl_2, Option.isSome_some, Option.map_some, Option.map_none, Option.toList_some, Option.toList_none, List.nil_append, List.cons_append, List.singleton_append, if_true, if_false, ↓reduceIte, and_self, and_true, true_and, and_false, false_and, not_true, not_false_iff, reduceCtorEq, Nat.reduceEqDiff, Nat.reduceAdd, Nat.reduceSub, Nat.reduceMul, Nat.reduceLT, Nat.reduceLeDiff, Nat.reduceBEq, eq_self, ne_eq, Nat.add_eq_zero_iff, Nat.add_left_cancel_iff, Nat.add_right_cancel_iff, Nat.left_eq_add, Nat.add_eq_left, Bool.true_or, Bool.or_true, Bool.or_self, or_self, or_true, true_or, or_false, false_or, decide_true, decide_false, i_10, i_01, f2, q3, wz, cl, z9, Int32.or_zero, c3]
            exact cc
        · obtain ⟨x', cc, sp⟩ := no (fun a' h1 h2 h3 => by
            have := (h2 i hl (by omega)).2.1
            rw [h3] at this
            exact o this)
          refine ⟨x', ?_, sp⟩
          rw [← nI_1] at cc
          simp only [if_neg o] at cl
          simp only [e_Planner_findSets_30, e_Planner_findSets_31, e_Planner_findSets_34, e_Planner_findSets_37, e_Planner_findSets_38, e_Planner_findSets_40, e_Planner_findSets_41, e_Planner_findSets_42, e_Planner_findSets_43, e_Planner_findSets_46, e_Planner_findSets_48, e_Planner_findSets_51, e_Planner_findSets_52, e_Planner_findSets_53, e_Planner_findSets_55, e_Planner_findSets_58, e_Planner_findSets_60, e_Planner_findSets_62, e_Planner_findSets_64, e_Planner_findSets_67, e_Planner_findSets_68, e_Planner_findSets_69, e_Planner_findSets_70, e_Planner_findSets_71, e_Planner_findSets_72, e_Planner_findSets_73, e_Planner_findSets_74, e_Planner_findSets_76, e_Planner_findSets_77, e_Planner_findSets_78, e_Planner_findSets_80, e_Planner_findSets_82, e_Planner_findSets_83, e_Planner_findSets_86, e_Planner_findSets_89, m_get, m_put, m_ia, m_is, m_la, m_ls, fl_sf, fl_sa, fl_sl, fl_sq, ar_sf, ar_sa, ar_sl, ar_sq, lr_sf, lr_sa, lr_sl, lr_sq, qr_sf, qr_sa, qr_sl, qr_sq, sf_1, sf_2, sa_1, sa_2, sl_1, sl_2, Option.isSome_some, Option.map_some, Option.map_none, Option.toList_some, Option.toList_none, List.nil_append, List.cons_append, List.singleton_append, if_true, if_false, ↓reduceIte, and_self, and_true, true_and, and_false, false_and, not_true, not_false_iff, reduceCtorEq, Nat.reduceEqDiff, Nat.reduceAdd, Nat.reduceSub, Nat.reduceMul, Nat.reduceLT, Nat.reduceLeDiff, Nat.reduceBEq, eq_self, ne_eq, Nat.add_eq_zero_iff, Nat.add_left_cancel_iff, Nat.add_right_cancel_iff, Nat.left_eq_add, Nat.add_eq_left, Bool.true_or, Bool.or_true, Bool.or_self, or_self, or_true, true_or, or_false, false_or, decide_true, decide_false, i_10, i_01, f2, q3, wz, cl]
          exact cc
end PS
