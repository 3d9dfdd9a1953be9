
theorem sq_self {h : xH} {a t n : Nat} {g : Nat → Option Nat} (ha : qr h a t = some (n, g)) : sq h a t g = h := by
  unfold qr at ha
  unfold sq
  rcases hz : h.2.2 a with _ | (⟨t0, n0, (f | f | f | f | f)⟩ | ⟨c0, fs⟩) <;> rw [hz] at ha <;> simp only at ha <;> try cases ha
  split at ha
  · rename_i q
    subst q
    cases ha
    simp only [if_true]
    unfold xup
    refine Prod.ext rfl (Prod.ext rfl ?_)
    funext j
    simp only
    by_cases qj : j = a
    · rw [if_pos qj, qj, hz]
    · rw [if_neg qj]
  · cases ha
theorem sq_sq (h : xH) (a t : Nat) (g g' : Nat → Option Nat) : sq (sq h a t g) a t g' = sq h a t g' := by
  by_cases ex : ∃ n f, h.2.2 a = some (.inl (t, n, .inr (.inr (.inr (.inr f)))))
  · obtain ⟨n, f, hz⟩ := ex
    have e1 : sq h a t g = xup h a (.inl (t, n, .inr (.inr (.inr (.inr g))))) := by unfold sq; rw [hz]; simp
    have e2 : sq h a t g' = xup h a (.inl (t, n, .inr (.inr (.inr (.inr g'))))) := by unfold sq; rw [hz]; simp
    rw [e1, e2]
    unfold sq
    rw [xup_at, if_pos rfl]
    simp only [if_true]
    unfold xup
    refine Prod.ext rfl (Prod.ext rfl ?_)
    funext j
    simp only
    by_cases qj : j = a
    · rw [if_pos qj, if_pos qj]
    · rw [if_neg qj, if_neg qj, if_neg qj]
  · have hn : ∀ g', sq h a t g' = h := fun g' => by
      unfold sq
      rcases hq : h.2.2 a with _ | (⟨t0, n, (f | f | f | f | f)⟩ | ⟨c0, fs⟩) <;> try rfl
      simp only
      rw [if_neg]
      intro q
      subst q
      exact ex ⟨n, f, hq⟩
    rw [hn, hn]
def rot (q : Nat → Nat) : Nat → Nat := fun j => if j < 15 then q (j + 1) else if j = 15 then q 0 else q j
def rotI (q : Nat → Nat) (i : Nat) : Nat → Option Nat := fun j => if j < 16 then some (if j + 1 < i then q (j + 1) else q j) else none
theorem rotI_s (q : Nat → Nat) {i : Nat} (hi : 1 ≤ i) (h6 : i ≤ 16) : va_up (rotI q i) (i - 1) (some (q i)) = rotI q (i + 1) := by
  funext j
  unfold va_up rotI
  by_cases w : j = i - 1
  · rw [if_pos w, if_pos (by omega), if_pos (by omega), show j + 1 = i by omega]
  · rw [if_neg w]
    by_cases w2 : j + 1 < i
    · rw [if_pos w2, if_pos (show j + 1 < i + 1 by omega)]
    · rw [if_neg w2, if_neg (show ¬ j + 1 < i + 1 by omega)]
theorem rotI_1 (q : Nat → Nat) : rotI q 1 = qf q := by
  funext j
  unfold rotI qf
  rw [if_neg (show ¬ j + 1 < 1 by omega)]
theorem rotI_e (q : Nat → Nat) : va_up (rotI q 16) 15 (some (q 0)) = qf (rot q) := by
  funext j
  unfold va_up rotI qf
  by_cases w : j = 15
  · have r : rot q j = q 0 := by rw [w]; rfl
    rw [if_pos w, if_pos (show j < 16 by omega), r]
  · rw [if_neg w]
    by_cases w2 : j < 15
    · have r : rot q j = q (j + 1) := if_pos w2
      rw [if_pos (show j < 16 by omega), if_pos (show j < 16 by omega), if_pos (show j + 1 < 16 by omega), r]
    · rw [if_neg (show ¬ j < 16 by omega), if_neg (show ¬ j < 16 by omega)]
theorem ocl_act : ∀ o, o < 44 → 28 ≤ o → ocl o = 0 ∧ ∀ k, k < 6 → ifd o k = true := by decide +kernel
theorem i15 : nI 16 - 1 = nI 15 := rfl
theorem l16 : (Int32.ofNat 16 : Int32) = nI 16 := rfl
section ACT
variable {h : xH} {σ τ : Nat → Nat → Int32} {v s : Nat} {q : Nat → Nat} {e1 e2 : Int64} {p t n A X : Nat}
theorem hO (H : Hp h σ τ v s q e1 e2) {o k : Nat} (h1 : 28 ≤ o) (h2 : o ≤ 43) (hk : k < 6) : fl h o 0 k = some (.int (τ o k)) := hI H o 0 k (ocl_act o (by omega) h1).1 ((ocl_act o (by omega) h1).2 k hk)
theorem Hp_sq (H : Hp h σ τ v s q e1 e2) (q' : Nat → Nat) : Hp (sq h 27 3 (qf q')) σ τ v s q' e1 e2 := by
  have m := H.2.2.2
  refine ⟨fun b n hb => by rw [ar_sq]; exact H.1 b n hb, fun b k hb => by rw [fl_sq]; exact H.2.1 b k hb, fun b k r hb => by rw [fl_sq]; exact H.2.2.1 b k r hb, ?_⟩
  unfold Hm at *
  simp only [fl_sq, qr_sq, lr_sq, sq_1, sq_2, Option.isSome_some, Option.map_some, Option.map_none, Option.toList_some, Option.toList_none, List.nil_append, List.cons_append, List.singleton_append, if_true, if_false, ↓reduceIte, and_self, and_true, true_and, and_false, false_and, not_true, not_false_iff, reduceCtorEq, Nat.reduceEqDiff, Nat.reduceAdd, Nat.reduceSub, Nat.reduceMul, Nat.reduceLT, Nat.reduceLeDiff, Nat.reduceBEq, eq_self, ne_eq, Nat.add_eq_zero_iff, Nat.add_left_cancel_iff, Nat.add_right_cancel_iff, Nat.left_eq_add, Nat.add_eq_left, Bool.true_or, Bool.or_true, Bool.or_self, or_self, or_true, true_or, or_false, false_or, decide_true, decide_false, i_10, i_01, m.1, m.2.1, m.2.2.1.1, m.2.2.1.2, m.2.2.2.1, m.2.2.2.2]
theorem c_forget (H : Hp h σ τ v s q e1 e2) (hq : ∀ i, i < 16 → 28 ≤ q i ∧ q i ≤ 43) : xC M_ActRow_forgetFirst [.ref 26] h = some (none, sf (sq h 27 3 (qf (rot q))) 26 1 1 (.int (nI 15))) := by
  have m := H.2.2.2.2.2.1.1
  have f0 := hR H 26 1 0 27 rfl rfl
  have f1 := hI H 26 1 1 rfl rfl
  have ln : ∀ g k, rln (sq h 27 3 g) 27 k = k (nI 16) := fun g k => m_lnQ (n := 16) (g := g) _ 27 3 (by decide) k (by rw [qr_sq, if_pos ⟨rfl, rfl⟩, m]; rfl) (by decide)
  have ln0 : ∀ k, rln h 27 k = k (nI 16) := fun k => m_lnQ (n := 16) _ 27 3 (by decide) k m (by decide)
  have as1 : ∀ g i o k, (28 ≤ o ∧ o ≤ 43) → ras (sq h 27 3 g) 27 i o k = if xinB i 16 = true then k (sq h 27 3 (va_up g i.toNatClampNeg (some o))) else none := fun g i o k ho => by
    rw [m_as _ _ _ _ _ (by rw [fl_sq, hO H ho.1 ho.2 (by omega)]; rfl)]
    simp only [qr_sq, m, Option.isSome_some, Option.map_some, Option.map_none, Option.toList_some, Option.toList_none, List.nil_append, List.cons_append, List.singleton_append, if_true, if_false, ↓reduceIte, and_self, and_true, true_and, and_false, false_and, not_true, not_false_iff, reduceCtorEq, Nat.reduceEqDiff, Nat.reduceAdd, Nat.reduceSub, Nat.reduceMul, Nat.reduceLT, Nat.reduceLeDiff, Nat.reduceBEq, eq_self, ne_eq, Nat.add_eq_zero_iff, Nat.add_left_cancel_iff, Nat.add_right_cancel_iff, Nat.left_eq_add, Nat.add_eq_left, Bool.true_or, Bool.or_true, Bool.or_self, or_self, or_true, true_or, or_false, false_or, decide_true, decide_false, i_10, i_01, sq_sq]
  have q0 := hq 0 (by omega)
  have i0 : xinB 0 16 = true := by decide
  have i15' : xinB (nI 15) 16 = true := by decide
  have c15 : (nI 15).toNatClampNeg = 15 := rfl
  have qf0 : qf q 0 = some (q 0) := if_pos (by omega)
  simp only [k_ActRow_forgetFirst, e_ActRow_forgetFirst_0, e_ActRow_forgetFirst_1, e_ActRow_forgetFirst_4, e_ActRow_forgetFirst_5, e_ActRow_forgetFirst_6, e_ActRow_forgetFirst_7, e_ActRow_forgetFirst_8, m_aa, m_get, m_put, m_ia, m_is, m_la, m_ls, fl_sf, fl_sa, fl_sl, fl_sq, ar_sf, ar_sa, ar_sl, ar_sq, lr_sf, lr_sa, lr_sl, lr_sq, qr_sf, qr_sa, qr_sl, qr_sq, sf_1, sf_2, sa_1, sa_2, sl_1, sl_2, Option.isSome_some, Option.map_some, Option.map_none, Option.toList_some, Option.toList_none, List.nil_append, List.cons_append, List.singleton_append, if_true, if_false, ↓reduceIte, and_self, and_true, true_and, and_false, false_and, not_true, not_false_iff, reduceCtorEq, Nat.reduceEqDiff, Nat.reduceAdd, Nat.reduceSub, Nat.reduceMul, Nat.reduceLT, Nat.reduceLeDiff, Nat.reduceBEq, eq_self, ne_eq, Nat.add_eq_zero_iff, Nat.add_left_cancel_iff, Nat.add_right_cancel_iff, Nat.left_eq_add, Nat.add_eq_left, Bool.true_or, Bool.or_true, Bool.or_self, or_self, or_true, true_or, or_false, false_or, decide_true, decide_false, i_10, i_01, f0, m, i0, cl0, qf0]
  have key := loop_dn (t := 15) (P := fun i => xR none 0 M_ActRow_forgetFirst 9 [some (.ref 26), some (.ref (q 0)), some (.int (nI (i + 1)))] [] (sq h 27 3 (rotI q (i + 1))) = some (none, sf (sq h 27 3 (qf (rot q))) 26 1 1 (.int (nI 15)))) ?_ ?_ 0 (Nat.zero_le _)
  · rw [rotI_1, sq_self m] at key
    exact key
  · simp only [e_ActRow_forgetFirst_9, e_ActRow_forgetFirst_10, e_ActRow_forgetFirst_11, e_ActRow_forgetFirst_14, e_ActRow_forgetFirst_15, e_ActRow_forgetFirst_38, e_ActRow_forgetFirst_39, e_ActRow_forgetFirst_42, e_ActRow_forgetFirst_43, e_ActRow_forgetFirst_46, e_ActRow_forgetFirst_47, e_ActRow_forgetFirst_48, e_ActRow_forgetFirst_49, e_ActRow_forgetFirst_50, e_ActRow_forgetFirst_51, e_ActRow_forgetFirst_52, e_ActRow_forgetFirst_53, e_ActRow_forgetFirst_56, e_ActRow_forgetFirst_57, e_ActRow_forgetFirst_58, e_ActRow_forgetFirst_59, e_ActRow_forgetFirst_62, fl_sq, m_get, m_put, m_ia, m_is, m_la, m_ls, fl_sf, fl_sa, fl_sl, fl_sq, ar_sf, ar_sa, ar_sl, ar_sq, lr_sf, lr_sa, lr_sl, lr_sq, qr_sf, qr_sa, qr_sl, qr_sq, sf_1, sf_2, sa_1, sa_2, sl_1, sl_2, Option.isSome_some, Option.map_some, Option.map_none, Option.toList_some, Option.toList_none, List.nil_append, List.cons_append, List.singleton_append, if_true, if_false, ↓reduceIte, and_self, and_true, true_and, and_false, false_and, not_true, not_false_iff, reduceCtorEq, Nat.reduceEqDiff, Nat.reduceAdd, Nat.reduceSub, Nat.reduceMul, Nat.reduceLT, Nat.reduceLeDiff, Nat.reduceBEq, eq_self, ne_eq, Nat.add_eq_zero_iff, Nat.add_left_cancel_iff, Nat.add_right_cancel_iff, Nat.left_eq_add, Nat.add_eq_left, Bool.true_or, Bool.or_true, Bool.or_self, or_self, or_true, true_or, or_false, false_or, decide_true, decide_false, i_10, i_01, f0, f1, ln, Int32.le_refl, i15, as1 _ _ _ _ q0, i15', c15, rotI_e]
  · intro i hi ih
    have q1 : ¬ nI 16 ≤ nI (i + 1) := nI_ge (by omega) (by omega)
    have ii := xin_nI (show i < 16 by omega) (by decide)
    have ci := nI_clamp (show i < 2 ^ 31 by omega)
    have ij := xin_nI (show i + 1 < 16 by omega) (by decide)
    have cj := nI_clamp (show i + 1 < 2 ^ 31 by omega)
    have qi := hq (i + 1) (by omega)
    have pr : nI (i + 1) - 1 = nI i := nI_pred i
    have rr := rotI_s q (i := i + 1) (by omega) (by omega)
    rw [Nat.add_sub_cancel] at rr
    have ri : rotI q (i + 1) (i + 1) = some (q (i + 1)) := by unfold rotI; rw [if_pos (show i + 1 < 16 by omega), if_neg (show ¬ i + 1 + 1 < i + 1 by omega)]
    rw [← nI_1 (i + 1), ← rr] at ih
    rw [e_ActRow_forgetFirst_9]
    simp only [e_ActRow_forgetFirst_10, e_ActRow_forgetFirst_11, e_ActRow_forgetFirst_14, e_ActRow_forgetFirst_15, e_ActRow_forgetFirst_18, e_ActRow_forgetFirst_19, e_ActRow_forgetFirst_22, e_ActRow_forgetFirst_23, e_ActRow_forgetFirst_24, e_ActRow_forgetFirst_25, e_ActRow_forgetFirst_26, e_ActRow_forgetFirst_29, e_ActRow_forgetFirst_30, e_ActRow_forgetFirst_31, e_ActRow_forgetFirst_32, e_ActRow_forgetFirst_35, m_aa, fl_sq, qr_sq, m_get, m_put, m_ia, m_is, m_la, m_ls, fl_sf, fl_sa, fl_sl, fl_sq, ar_sf, ar_sa, ar_sl, ar_sq, lr_sf, lr_sa, lr_sl, lr_sq, qr_sf, qr_sa, qr_sl, qr_sq, sf_1, sf_2, sa_1, sa_2, sl_1, sl_2, Option.isSome_some, Option.map_some, Option.map_none, Option.toList_some, Option.toList_none, List.nil_append, List.cons_append, List.singleton_append, if_true, if_false, ↓reduceIte, and_self, and_true, true_and, and_false, false_and, not_true, not_false_iff, reduceCtorEq, Nat.reduceEqDiff, Nat.reduceAdd, Nat.reduceSub, Nat.reduceMul, Nat.reduceLT, Nat.reduceLeDiff, Nat.reduceBEq, eq_self, ne_eq, Nat.add_eq_zero_iff, Nat.add_left_cancel_iff, Nat.add_right_cancel_iff, Nat.left_eq_add, Nat.add_eq_left, Bool.true_or, Bool.or_true, Bool.or_self, or_self, or_true, true_or, or_false, false_or, decide_true, decide_false, i_10, i_01, f0, m, ln, q1, pr, ij, cj, ri, as1 _ _ _ _ qi, ii, ci]
    exact ih
theorem ut_lit {τ : Nat → Nat → Int32} {a k : Nat} {x y : Int32} : ut (ut τ a k x) a k y = ut τ a k y := by
  funext b j
  unfold ut
  by_cases w : b = a ∧ j = k
  · rw [if_pos w, if_pos w]
  · rw [if_neg w, if_neg w, if_neg w]
theorem c_next (H : Hp h σ τ v s q e1 e2) (hA : A ≤ 16) (hs : τ 26 1 = nI A) (hq : ∀ i, i < 16 → 28 ≤ q i ∧ q i ≤ 43) (hj : ∀ i j, i < 16 → j < 16 → q i = q j → i = j) (K : Int32) : ∃ (h' : xH) (q' : Nat → Nat) (B : Nat), xC M_ActRow_next [.ref 26, .int K] h = some (some (.ref (q' B)), h') ∧ Hp h' σ (ut (ut τ 26 1 (nI (B + 1))) (q' B) 0 K) v s q' e1 e2 ∧ B ≤ 15 ∧ B ≤ A ∧ (A < 16 → B = A) ∧ (A = 16 → B = 15) ∧ (∀ i, i < 16 → 28 ≤ q' i ∧ q' i ≤ 43) ∧ (∀ i j, i < 16 → j < 16 → q' i = q' j → i = j) ∧ ∀ a, a < B → q' (B - 1 - a) = q (A - 1 - a) := by
  have f0 := hR H 26 1 0 27 rfl rfl
  have f1 := hI H 26 1 1 rfl rfl
  rw [hs] at f1
  have m := H.2.2.2.2.2.1.1
  have ln0 : ∀ k, rln h 27 k = k (nI 16) := fun k => m_lnQ (n := 16) _ 27 3 (by decide) k m (by decide)
  rcases Nat.lt_or_ge A 16 with w | w
  · have H1 := Hp_sf (c := 1) H (a := 26) (k := 1) rfl rfl (nI (A + 1))
    have qa := hq A w
    have H2 := Hp_sf (c := 0) H1 (a := q A) (k := 0) (ocl_act _ (by omega) qa.1).1 ((ocl_act _ (by omega) qa.1).2 0 (by omega)) K
    refine ⟨_, q, A, ?_, H2, by omega, by omega, fun _ => rfl, by omega, hq, hj, fun a ha => rfl⟩
    have y1 : nI A < nI 16 := nI_lt w (by decide)
    have ia := xin_nI w (by decide)
    have ca := nI_clamp (show A < 2 ^ 31 by omega)
    have fo := hO H qa.1 qa.2 (k := 0) (by omega)
    have nq : ¬ q A = 26 := by omega
    have qA : qf q A = some (q A) := if_pos w
    simp only [k_ActRow_next, e_ActRow_next_0, e_ActRow_next_1, e_ActRow_next_4, e_ActRow_next_5, e_ActRow_next_8, e_ActRow_next_9, e_ActRow_next_12, e_ActRow_next_13, e_ActRow_next_16, e_ActRow_next_17, e_ActRow_next_20, e_ActRow_next_21, e_ActRow_next_24, e_ActRow_next_25, e_ActRow_next_26, e_ActRow_next_27, e_ActRow_next_28, e_ActRow_next_31, e_ActRow_next_32, e_ActRow_next_33, e_ActRow_next_36, e_ActRow_next_37, e_ActRow_next_38, e_ActRow_next_41, e_ActRow_next_42, m_aa, m_get, m_put, m_ia, m_is, m_la, m_ls, fl_sf, fl_sa, fl_sl, fl_sq, ar_sf, ar_sa, ar_sl, ar_sq, lr_sf, lr_sa, lr_sl, lr_sq, qr_sf, qr_sa, qr_sl, qr_sq, sf_1, sf_2, sa_1, sa_2, sl_1, sl_2, Option.isSome_some, Option.map_some, Option.map_none, Option.toList_some, Option.toList_none, List.nil_append, List.cons_append, List.singleton_append, if_true, if_false, ↓reduceIte, and_self, and_true, true_and, and_false, false_and, not_true, not_false_iff, reduceCtorEq, Nat.reduceEqDiff, Nat.reduceAdd, Nat.reduceSub, Nat.reduceMul, Nat.reduceLT, Nat.reduceLeDiff, Nat.reduceBEq, eq_self, ne_eq, Nat.add_eq_zero_iff, Nat.add_left_cancel_iff, Nat.add_right_cancel_iff, Nat.left_eq_add, Nat.add_eq_left, Bool.true_or, Bool.or_true, Bool.or_self, or_self, or_true, true_or, or_false, false_or, decide_true, decide_false, i_10, i_01, f0, f1, ln0, y1, m, ia, ca, qA, nI_1, fo, nq]
  · have wA : A = 16 := by omega
    subst wA
    have H1 := Hp_sf (c := 1) (Hp_sq H (rot q)) (a := 26) (k := 1) rfl rfl (nI 15)
    have cf := call_v (lv := 1) (c_forget H hq) (by rw [show xmo M_ActRow_forgetFirst = 1 from rfl, f0]; rfl) (by decide) (Nat.le_of_ble_eq_true rfl)
    have rb : ∀ i, i < 16 → 28 ≤ rot q i ∧ rot q i ≤ 43 := fun i hi => by
      unfold rot
      split
      · exact hq _ (by omega)
      · rw [if_pos (by omega)]
        exact hq _ (by omega)
    have q15 := rb 15 (by omega)
    have H2 := Hp_sf (c := 1) H1 (a := 26) (k := 1) rfl rfl (nI 16)
    rw [ut_lit] at H2
    have H3 := Hp_sf (c := 0) H2 (a := rot q 15) (k := 0) (ocl_act _ (by omega) q15.1).1 ((ocl_act _ (by omega) q15.1).2 0 (by omega)) K
    refine ⟨_, rot q, 15, ?_, H3, by omega, by omega, by omega, fun _ => rfl, rb, fun i j hi hj' he => ?_, fun a ha => ?_⟩
    · have y1 : ¬ nI 16 < nI 16 := fun w => Int32.lt_irrefl w
      have ia : xinB (nI 15) 16 = true := by decide
      have ca : (nI 15).toNatClampNeg = 15 := rfl
      have f01 := hR H1 26 1 0 27 rfl rfl
      have f11 := hI H1 26 1 1 rfl rfl
      have m1 := H1.2.2.2.2.2.1.1
      have e15 : ut τ 26 1 (nI 15) 26 1 = nI 15 := rfl
      rw [e15] at f11
      have fo := hO H1 q15.1 q15.2 (k := 0) (by omega)
      have nq : ¬ rot q 15 = 26 := by omega
      generalize sf (sq h 27 3 (qf (rot q))) 26 1 1 (.int (nI 15)) = g at *
      have n16 : nI 15 + 1 = nI 16 := rfl
      have qA : qf (rot q) 15 = some (rot q 15) := if_pos (by omega)
      simp only [k_ActRow_next, e_ActRow_next_0, e_ActRow_next_1, e_ActRow_next_4, e_ActRow_next_5, e_ActRow_next_8, e_ActRow_next_9, e_ActRow_next_12, e_ActRow_next_13, e_ActRow_next_16, e_ActRow_next_17, e_ActRow_next_20, e_ActRow_next_21, e_ActRow_next_24, e_ActRow_next_25, e_ActRow_next_26, e_ActRow_next_27, e_ActRow_next_28, e_ActRow_next_31, e_ActRow_next_32, e_ActRow_next_33, e_ActRow_next_36, e_ActRow_next_37, e_ActRow_next_38, e_ActRow_next_41, e_ActRow_next_42, m_aa, m_get, m_put, m_ia, m_is, m_la, m_ls, fl_sf, fl_sa, fl_sl, fl_sq, ar_sf, ar_sa, ar_sl, ar_sq, lr_sf, lr_sa, lr_sl, lr_sq, qr_sf, qr_sa, qr_sl, qr_sq, sf_1, sf_2, sa_1, sa_2, sl_1, sl_2, Option.isSome_some, Option.map_some, Option.map_none, Option.toList_some, Option.toList_none, List.nil_append, List.cons_append, List.singleton_append, if_true, if_false, ↓reduceIte, and_self, and_true, true_and, and_false, false_and, not_true, not_false_iff, reduceCtorEq, Nat.reduceEqDiff, Nat.reduceAdd, Nat.reduceSub, Nat.reduceMul, Nat.reduceLT, Nat.reduceLeDiff, Nat.reduceBEq, eq_self, ne_eq, Nat.add_eq_zero_iff, Nat.add_left_cancel_iff, Nat.add_right_cancel_iff, Nat.left_eq_add, Nat.add_eq_left, Bool.true_or, Bool.or_true, Bool.or_self, or_self, or_true, true_or, or_false, false_or, decide_true, decide_false, i_10, i_01, f0, f1, ln0, y1, cf, f01, f11, m1, ia, ca, qA, n16, fo, nq]
    · unfold rot at he
      by_cases wi : i < 15
      · rw [if_pos wi] at he
        by_cases wj : j < 15
        · rw [if_pos wj] at he
          have := hj _ _ (by omega) (by omega) he
          omega
        · rw [if_neg wj, if_pos (by omega)] at he
          have := hj _ _ (by omega) (by omega) he
          omega
      · rw [if_neg wi, if_pos (show i = 15 by omega)] at he
        by_cases wj : j < 15
        · rw [if_pos wj] at he
          have := hj _ _ (by omega) (by omega) he
          omega
        · omega
    · unfold rot
      rw [if_pos (by omega), show 15 - 1 - a + 1 = 16 - 1 - a by omega]
theorem rem16 : ∀ X, X < 16 → nI (X + 1) - nI (X + 1) / 16 * 16 = nI ((X + 1) % 16) := by decide +kernel
theorem n160 : ¬ (16 : Int32) = 0 := by decide
theorem cM_keepAct (H : Hp h σ τ v s q e1 e2) (hX : X < 16) (hA : A ≤ 16) (x24 : τ 75 24 = nI X) (x23 : τ 75 23 = nI A) {B : Nat} (hB1 : A < 16 → B = A) (hB2 : A = 16 → B = 15) : ∃ h', xC M_Md_keepAct [.ref 75] h = some (none, h') ∧ Hp h' (us σ 86 (cpI (σ 86) (σ 84) (24 * X) 24)) (ut (ut τ 75 24 (nI ((X + 1) % 16))) 75 23 (nI (B + 1))) v s q e1 e2 := by
  have r84 := H.1 84 24 rfl
  have r86 := H.1 86 384 rfl
  rw [show rty 84 = 0 from rfl] at r84
  rw [show rty 86 = 0 from rfl] at r86
  have f18 := hR H 75 9 18 84 rfl rfl
  have f25 := hR H 75 9 25 86 rfl rfl
  have f24 := hI H 75 9 24 rfl rfl
  have f23 := hI H 75 9 23 rfl rfl
  rw [x24] at f24
  rw [x23] at f23
  have H1 := Hp_sf (c := 9) (Hp_sf (c := 9) (Hp_sa (t := 0) (n := 384) H (a := 86) rfl rfl (cpI (σ 86) (σ 84) (24 * X) 24)) (a := 75) (k := 24) rfl rfl (nI ((X + 1) % 16))) (a := 75) (k := 23) rfl rfl (nI (B + 1))
  refine ⟨_, ?_, H1⟩
  simp only [k_Md_keepAct, e_Md_keepAct_0, e_Md_keepAct_1]
  have key := loop_dn (t := 24) (P := fun k => xR none 0 M_Md_keepAct 2 [some (.ref 75), some (.int (nI k))] [] (sa h 86 0 (cpI (σ 86) (σ 84) (24 * X) k)) = some (none, sf (sf (sa h 86 0 (cpI (σ 86) (σ 84) (24 * X) 24)) 75 9 24 (.int (nI ((X + 1) % 16)))) 75 9 23 (.int (nI (B + 1))))) ?_ ?_ 0 (Nat.zero_le _)
  · rw [nI_0, cpI_0, sa_self r86] at key
    exact key
  · have k24 : (24 : Int32) ≤ nI 24 := Int32.le_refl _
    rcases Nat.lt_or_ge A 16 with w | w
    · have y1 : ¬ (16 : Int32) ≤ nI A := nI_ge (b := 16) w (by decide)
      rw [hB1 w]
      simp only [e_Md_keepAct_2, e_Md_keepAct_3, e_Md_keepAct_5, e_Md_keepAct_34, e_Md_keepAct_35, e_Md_keepAct_36, e_Md_keepAct_39, e_Md_keepAct_40, e_Md_keepAct_41, e_Md_keepAct_43, e_Md_keepAct_44, e_Md_keepAct_47, e_Md_keepAct_48, e_Md_keepAct_49, e_Md_keepAct_52, e_Md_keepAct_54, e_Md_keepAct_57, e_Md_keepAct_58, e_Md_keepAct_61, e_Md_keepAct_62, e_Md_keepAct_63, e_Md_keepAct_66, e_Md_keepAct_68, e_Md_keepAct_71, m_get, m_put, m_ia, m_is, m_la, m_ls, fl_sf, fl_sa, fl_sl, fl_sq, ar_sf, ar_sa, ar_sl, ar_sq, lr_sf, lr_sa, lr_sl, lr_sq, qr_sf, qr_sa, qr_sl, qr_sq, sf_1, sf_2, sa_1, sa_2, sl_1, sl_2, Option.isSome_some, Option.map_some, Option.map_none, Option.toList_some, Option.toList_none, List.nil_append, List.cons_append, List.singleton_append, if_true, if_false, ↓reduceIte, and_self, and_true, true_and, and_false, false_and, not_true, not_false_iff, reduceCtorEq, Nat.reduceEqDiff, Nat.reduceAdd, Nat.reduceSub, Nat.reduceMul, Nat.reduceLT, Nat.reduceLeDiff, Nat.reduceBEq, eq_self, ne_eq, Nat.add_eq_zero_iff, Nat.add_left_cancel_iff, Nat.add_right_cancel_iff, Nat.left_eq_add, Nat.add_eq_left, Bool.true_or, Bool.or_true, Bool.or_self, or_self, or_true, true_or, or_false, false_or, decide_true, decide_false, i_10, i_01, k24, f24, f23, nI_1, rem16 X hX, n160, y1]
    · have wA : A = 16 := by omega
      subst wA
      have y1 : (16 : Int32) ≤ nI 16 := Int32.le_refl _
      rw [hB2 rfl]
      simp only [e_Md_keepAct_2, e_Md_keepAct_3, e_Md_keepAct_5, e_Md_keepAct_34, e_Md_keepAct_35, e_Md_keepAct_36, e_Md_keepAct_39, e_Md_keepAct_40, e_Md_keepAct_41, e_Md_keepAct_43, e_Md_keepAct_44, e_Md_keepAct_47, e_Md_keepAct_48, e_Md_keepAct_49, e_Md_keepAct_52, e_Md_keepAct_54, e_Md_keepAct_57, e_Md_keepAct_58, e_Md_keepAct_61, e_Md_keepAct_62, e_Md_keepAct_63, e_Md_keepAct_66, e_Md_keepAct_68, e_Md_keepAct_71, m_get, m_put, m_ia, m_is, m_la, m_ls, fl_sf, fl_sa, fl_sl, fl_sq, ar_sf, ar_sa, ar_sl, ar_sq, lr_sf, lr_sa, lr_sl, lr_sq, qr_sf, qr_sa, qr_sl, qr_sq, sf_1, sf_2, sa_1, sa_2, sl_1, sl_2, Option.isSome_some, Option.map_some, Option.map_none, Option.toList_some, Option.toList_none, List.nil_append, List.cons_append, List.singleton_append, if_true, if_false, ↓reduceIte, and_self, and_true, true_and, and_false, false_and, not_true, not_false_iff, reduceCtorEq, Nat.reduceEqDiff, Nat.reduceAdd, Nat.reduceSub, Nat.reduceMul, Nat.reduceLT, Nat.reduceLeDiff, Nat.reduceBEq, eq_self, ne_eq, Nat.add_eq_zero_iff, Nat.add_left_cancel_iff, Nat.add_right_cancel_iff, Nat.left_eq_add, Nat.add_eq_left, Bool.true_or, Bool.or_true, Bool.or_self, or_self, or_true, true_or, or_false, false_or, decide_true, decide_false, i_10, i_01, k24, f24, f23, nI_1, rem16 X hX, n160, y1]
      rfl
  · intro k hk ih
    have q1 : ¬ (24 : Int32) ≤ nI k := nI_ge (b := 24) hk (by decide)
    have ik := xin_nI hk (by decide)
    have ck := nI_clamp (show k < 2 ^ 31 by omega)
    have im := xin_nI (show 24 * X + k < 384 by omega) (by decide)
    have cm := nI_clamp (show 24 * X + k < 2 ^ 31 by omega)
    rw [← nI_1, ← cpI_s, ← sa_sa h 86 0 (cpI (σ 86) (σ 84) (24 * X) k)] at ih
    rw [e_Md_keepAct_2]
    simp only [e_Md_keepAct_3, e_Md_keepAct_5, e_Md_keepAct_8, e_Md_keepAct_9, e_Md_keepAct_12, e_Md_keepAct_14, e_Md_keepAct_15, e_Md_keepAct_18, e_Md_keepAct_19, e_Md_keepAct_20, e_Md_keepAct_21, e_Md_keepAct_22, e_Md_keepAct_25, e_Md_keepAct_26, e_Md_keepAct_27, e_Md_keepAct_28, e_Md_keepAct_31, m_get, m_put, m_ia, m_is, m_la, m_ls, fl_sf, fl_sa, fl_sl, fl_sq, ar_sf, ar_sa, ar_sl, ar_sq, lr_sf, lr_sa, lr_sl, lr_sq, qr_sf, qr_sa, qr_sl, qr_sq, sf_1, sf_2, sa_1, sa_2, sl_1, sl_2, Option.isSome_some, Option.map_some, Option.map_none, Option.toList_some, Option.toList_none, List.nil_append, List.cons_append, List.singleton_append, if_true, if_false, ↓reduceIte, and_self, and_true, true_and, and_false, false_and, not_true, not_false_iff, reduceCtorEq, Nat.reduceEqDiff, Nat.reduceAdd, Nat.reduceSub, Nat.reduceMul, Nat.reduceLT, Nat.reduceLeDiff, Nat.reduceBEq, eq_self, ne_eq, Nat.add_eq_zero_iff, Nat.add_left_cancel_iff, Nat.add_right_cancel_iff, Nat.left_eq_add, Nat.add_eq_left, Bool.true_or, Bool.or_true, Bool.or_self, or_self, or_true, true_or, or_false, false_or, decide_true, decide_false, i_10, i_01, q1, r84, r86, f18, f25, f24, ik, ck, im, cm, m24]
    exact ih
end ACT
