
theorem b_val {x : Int32} {k : Nat} (hk : k < 32) : (x >>> (nI k &&& 31)) &&& 1 = if bt x k = true then 1 else 0 := by
  by_cases w : bt x k = true
  · rw [if_pos w]
    rcases and1 (x >>> (nI k &&& 31)) with z | z
    · exact absurd z ((b_z1 hk).mpr w)
    · exact z
  · rw [if_neg w]
    exact (b_z hk).mpr (by simpa using w)
/-- who fits at a place, as bits -/
def ftg (pl wh hd : Nat → Int32) (p : Nat) (at' : Int32) : Nat → Int32
  | 0 => (1 <<< (nI p &&& 31)) - 1
  | i + 1 => if pl i = at' ∧ (0 ≤ wh i ∧ wh i < nI p) then ftg pl wh hd p at' i &&& (if hd i = 0 then ((1 <<< (wh i &&& 31)) ^^^ (-1)) else (1 <<< (wh i &&& 31))) else ftg pl wh hd p at' i
/-- how many rows come to pn from those before it -/
def sK (K : Nat → Nat → Bool) (W : Nat → Int32) (pn : Nat) : Nat → Int32
  | 0 => 0
  | o + 1 => sK K W pn o + (if K o pn = true then W o else 0)
def Wv (K : Nat → Nat → Bool) (K0 : Nat → Bool) (al : Nat → Nat → Bool) (p : Nat) : Nat → Nat → Int32
  | 0 => fun pn => if (K0 pn && al 1 pn) = true then 1 else 0
  | a + 1 => fun pn => if al (a + 2) pn = true then sK K (Wv K K0 al p a) pn p else 0
theorem sK_cg {K K' : Nat → Nat → Bool} {W W' : Nat → Int32} {pn : Nat} : ∀ o, (∀ i, i < o → K i pn = K' i pn ∧ W i = W' i) → sK K W pn o = sK K' W' pn o
  | 0, _ => rfl
  | o + 1, hh => by rw [sK, sK, sK_cg o (fun i hi => hh i (by omega)), (hh o (by omega)).1, (hh o (by omega)).2]
theorem Wv_cg {K K' : Nat → Nat → Bool} {K0 K0' : Nat → Bool} {al al' : Nat → Nat → Bool} {p : Nat} (hK : ∀ o pn, o < p → pn < p → K o pn = K' o pn) (h0 : ∀ pn, pn < p → K0 pn = K0' pn) : ∀ a, (∀ b pn, b ≤ a + 1 → pn < p → al b pn = al' b pn) → ∀ pn, pn < p → Wv K K0 al p a pn = Wv K' K0' al' p a pn
  | 0, ha, pn, hp => by
    simp only [Wv]
    rw [h0 pn hp, ha 1 pn (by omega) hp]
  | a + 1, ha, pn, hp => by
    simp only [Wv]
    rw [ha (a + 2) pn (by omega) hp, sK_cg p (fun i hi => ⟨hK i pn hi hp, Wv_cg hK h0 a (fun b pn hb => ha b pn (by omega)) i hi⟩)]
section SI
variable {h : xH} {σ τ : Nat → Nat → Int32} {v s : Nat} {q : Nat → Nat} {e1 e2 : Int64} {p t n z : Nat}
theorem c_fitting (H : Hp h σ τ v s q e1 e2) (z6 : z ≤ 6) (hz : τ 66 0 = nI z) (hp : τ v 3 = nI p) (at' : Int32) : xC M_Sight_fitting [.ref 66, .int at', .ref v] h = some (some (.int (ftg (σ 67) (σ 68) (σ 69) p at' z)), h) := by
  have hv := H.2.2.2.1.1
  have V := Hp_vil H hv
  rw [hp] at V
  have c0 := call_v (lv := 1) (c_everybody V) (Vil_is V) (by decide) (Nat.le_of_ble_eq_true rfl)
  have f0 := hI H 66 6 0 rfl rfl
  rw [hz] at f0
  have f1 := hR H 66 6 1 67 rfl rfl
  have f2 := hR H 66 6 2 68 rfl rfl
  have f3 := hR H 66 6 3 69 rfl rfl
  have r67 := hA H 67 0 6 rfl rfl
  have r68 := hA H 68 0 6 rfl rfl
  have r69 := hA H 69 2 6 rfl rfl
  simp only [k_Sight_fitting, e_Sight_fitting_0, e_Sight_fitting_1, e_Sight_fitting_4, e_Sight_fitting_5, e_Sight_fitting_6, m_get, m_put, m_ia, m_is, m_la, m_ls, fl_sf, fl_sa, fl_sl, fl_sq, ar_sf, ar_sa, ar_sl, ar_sq, lr_sf, lr_sa, lr_sl, lr_sq, qr_sf, qr_sa, qr_sl, qr_sq, sf_1, sf_2, sa_1, sa_2, sl_1, sl_2, Option.isSome_some, Option.map_some, Option.map_none, Option.toList_some, Option.toList_none, List.nil_append, List.cons_append, List.singleton_append, if_true, if_false, ↓reduceIte, and_self, and_true, true_and, and_false, false_and, not_true, not_false_iff, reduceCtorEq, Nat.reduceEqDiff, Nat.reduceAdd, Nat.reduceSub, Nat.reduceMul, Nat.reduceLT, Nat.reduceLeDiff, Nat.reduceBEq, eq_self, ne_eq, Nat.add_eq_zero_iff, Nat.add_left_cancel_iff, Nat.add_right_cancel_iff, Nat.left_eq_add, Nat.add_eq_left, Bool.true_or, Bool.or_true, Bool.or_self, or_self, or_true, true_or, or_false, false_or, decide_true, decide_false, i_10, i_01, c0]
  have key := loop_dn (t := z) (P := fun i => ∀ l5, xR none 1 M_Sight_fitting 8 [some (.ref 66), some (.int at'), some (.ref v), some (.int (ftg (σ 67) (σ 68) (σ 69) p at' i)), some (.int (nI i)), l5] [] h = some (some (.int (ftg (σ 67) (σ 68) (σ 69) p at' z)), h)) ?_ ?_ 0 (Nat.zero_le _)
  · have := key none
    rw [nI_0] at this
    exact this
  · intro l5
    simp only [e_Sight_fitting_8, e_Sight_fitting_10, e_Sight_fitting_11, e_Sight_fitting_14, e_Sight_fitting_81, e_Sight_fitting_82, m_get, m_put, m_ia, m_is, m_la, m_ls, fl_sf, fl_sa, fl_sl, fl_sq, ar_sf, ar_sa, ar_sl, ar_sq, lr_sf, lr_sa, lr_sl, lr_sq, qr_sf, qr_sa, qr_sl, qr_sq, sf_1, sf_2, sa_1, sa_2, sl_1, sl_2, Option.isSome_some, Option.map_some, Option.map_none, Option.toList_some, Option.toList_none, List.nil_append, List.cons_append, List.singleton_append, if_true, if_false, ↓reduceIte, and_self, and_true, true_and, and_false, false_and, not_true, not_false_iff, reduceCtorEq, Nat.reduceEqDiff, Nat.reduceAdd, Nat.reduceSub, Nat.reduceMul, Nat.reduceLT, Nat.reduceLeDiff, Nat.reduceBEq, eq_self, ne_eq, Nat.add_eq_zero_iff, Nat.add_left_cancel_iff, Nat.add_right_cancel_iff, Nat.left_eq_add, Nat.add_eq_left, Bool.true_or, Bool.or_true, Bool.or_self, or_self, or_true, true_or, or_false, false_or, decide_true, decide_false, i_10, i_01, f0, Int32.le_refl]
  · intro i hi ih l5
    have q1 : ¬ nI z ≤ nI i := nI_ge hi (by omega)
    have i6 := xin_nI (show i < 6 by omega) (by decide)
    have c6 := nI_clamp (show i < 2 ^ 31 by omega)
    have c1 := call_v (lv := 1) (c_hasPerson V (σ 68 i)) (Vil_is V) (by decide) (Nat.le_of_ble_eq_true rfl)
    simp only [ftg] at ih
    rw [← nI_1] at ih
    rw [e_Sight_fitting_8]
    by_cases w1 : σ 67 i = at'
    · by_cases w2 : 0 ≤ σ 68 i ∧ σ 68 i < nI p
      · simp only [if_pos w2] at c1
        rw [if_pos ⟨w1, w2⟩] at ih
        by_cases w3 : σ 69 i = 0
        · rw [if_pos w3] at ih
          simp only [e_Sight_fitting_10, e_Sight_fitting_11, e_Sight_fitting_14, e_Sight_fitting_17, e_Sight_fitting_18, e_Sight_fitting_21, e_Sight_fitting_23, e_Sight_fitting_24, e_Sight_fitting_25, e_Sight_fitting_28, e_Sight_fitting_29, e_Sight_fitting_30, e_Sight_fitting_33, e_Sight_fitting_35, e_Sight_fitting_36, e_Sight_fitting_39, e_Sight_fitting_42, e_Sight_fitting_43, e_Sight_fitting_44, e_Sight_fitting_47, e_Sight_fitting_49, e_Sight_fitting_50, e_Sight_fitting_51, e_Sight_fitting_53, e_Sight_fitting_54, e_Sight_fitting_55, e_Sight_fitting_58, e_Sight_fitting_60, e_Sight_fitting_61, e_Sight_fitting_64, e_Sight_fitting_66, e_Sight_fitting_69, e_Sight_fitting_71, e_Sight_fitting_72, e_Sight_fitting_73, e_Sight_fitting_74, e_Sight_fitting_75, e_Sight_fitting_78, m_get, m_put, m_ia, m_is, m_la, m_ls, fl_sf, fl_sa, fl_sl, fl_sq, ar_sf, ar_sa, ar_sl, ar_sq, lr_sf, lr_sa, lr_sl, lr_sq, qr_sf, qr_sa, qr_sl, qr_sq, sf_1, sf_2, sa_1, sa_2, sl_1, sl_2, Option.isSome_some, Option.map_some, Option.map_none, Option.toList_some, Option.toList_none, List.nil_append, List.cons_append, List.singleton_append, if_true, if_false, ↓reduceIte, and_self, and_true, true_and, and_false, false_and, not_true, not_false_iff, reduceCtorEq, Nat.reduceEqDiff, Nat.reduceAdd, Nat.reduceSub, Nat.reduceMul, Nat.reduceLT, Nat.reduceLeDiff, Nat.reduceBEq, eq_self, ne_eq, Nat.add_eq_zero_iff, Nat.add_left_cancel_iff, Nat.add_right_cancel_iff, Nat.left_eq_add, Nat.add_eq_left, Bool.true_or, Bool.or_true, Bool.or_self, or_self, or_true, true_or, or_false, false_or, decide_true, decide_false, i_10, i_01, f0, f1, f2, f3, r67, r68, r69, q1, i6, c6, c1, w1, w3]
          exact ih _
        · rw [if_neg w3] at ih
          simp only [e_Sight_fitting_10, e_Sight_fitting_11, e_Sight_fitting_14, e_Sight_fitting_17, e_Sight_fitting_18, e_Sight_fitting_21, e_Sight_fitting_23, e_Sight_fitting_24, e_Sight_fitting_25, e_Sight_fitting_28, e_Sight_fitting_29, e_Sight_fitting_30, e_Sight_fitting_33, e_Sight_fitting_35, e_Sight_fitting_36, e_Sight_fitting_39, e_Sight_fitting_42, e_Sight_fitting_43, e_Sight_fitting_44, e_Sight_fitting_47, e_Sight_fitting_49, e_Sight_fitting_50, e_Sight_fitting_51, e_Sight_fitting_53, e_Sight_fitting_54, e_Sight_fitting_55, e_Sight_fitting_58, e_Sight_fitting_60, e_Sight_fitting_61, e_Sight_fitting_64, e_Sight_fitting_66, e_Sight_fitting_69, e_Sight_fitting_71, e_Sight_fitting_72, e_Sight_fitting_73, e_Sight_fitting_74, e_Sight_fitting_75, e_Sight_fitting_78, m_get, m_put, m_ia, m_is, m_la, m_ls, fl_sf, fl_sa, fl_sl, fl_sq, ar_sf, ar_sa, ar_sl, ar_sq, lr_sf, lr_sa, lr_sl, lr_sq, qr_sf, qr_sa, qr_sl, qr_sq, sf_1, sf_2, sa_1, sa_2, sl_1, sl_2, Option.isSome_some, Option.map_some, Option.map_none, Option.toList_some, Option.toList_none, List.nil_append, List.cons_append, List.singleton_append, if_true, if_false, ↓reduceIte, and_self, and_true, true_and, and_false, false_and, not_true, not_false_iff, reduceCtorEq, Nat.reduceEqDiff, Nat.reduceAdd, Nat.reduceSub, Nat.reduceMul, Nat.reduceLT, Nat.reduceLeDiff, Nat.reduceBEq, eq_self, ne_eq, Nat.add_eq_zero_iff, Nat.add_left_cancel_iff, Nat.add_right_cancel_iff, Nat.left_eq_add, Nat.add_eq_left, Bool.true_or, Bool.or_true, Bool.or_self, or_self, or_true, true_or, or_false, false_or, decide_true, decide_false, i_10, i_01, f0, f1, f2, f3, r67, r68, r69, q1, i6, c6, c1, w1, w3]
          exact ih _
      · simp only [if_neg w2] at c1
        rw [if_neg (fun w => w2 w.2)] at ih
        simp only [e_Sight_fitting_10, e_Sight_fitting_11, e_Sight_fitting_14, e_Sight_fitting_17, e_Sight_fitting_18, e_Sight_fitting_21, e_Sight_fitting_23, e_Sight_fitting_24, e_Sight_fitting_25, e_Sight_fitting_28, e_Sight_fitting_29, e_Sight_fitting_30, e_Sight_fitting_33, e_Sight_fitting_35, e_Sight_fitting_36, e_Sight_fitting_39, e_Sight_fitting_42, e_Sight_fitting_43, e_Sight_fitting_44, e_Sight_fitting_47, e_Sight_fitting_49, e_Sight_fitting_50, e_Sight_fitting_51, e_Sight_fitting_53, e_Sight_fitting_54, e_Sight_fitting_55, e_Sight_fitting_58, e_Sight_fitting_60, e_Sight_fitting_61, e_Sight_fitting_64, e_Sight_fitting_66, e_Sight_fitting_69, e_Sight_fitting_71, e_Sight_fitting_72, e_Sight_fitting_73, e_Sight_fitting_74, e_Sight_fitting_75, e_Sight_fitting_78, m_get, m_put, m_ia, m_is, m_la, m_ls, fl_sf, fl_sa, fl_sl, fl_sq, ar_sf, ar_sa, ar_sl, ar_sq, lr_sf, lr_sa, lr_sl, lr_sq, qr_sf, qr_sa, qr_sl, qr_sq, sf_1, sf_2, sa_1, sa_2, sl_1, sl_2, Option.isSome_some, Option.map_some, Option.map_none, Option.toList_some, Option.toList_none, List.nil_append, List.cons_append, List.singleton_append, if_true, if_false, ↓reduceIte, and_self, and_true, true_and, and_false, false_and, not_true, not_false_iff, reduceCtorEq, Nat.reduceEqDiff, Nat.reduceAdd, Nat.reduceSub, Nat.reduceMul, Nat.reduceLT, Nat.reduceLeDiff, Nat.reduceBEq, eq_self, ne_eq, Nat.add_eq_zero_iff, Nat.add_left_cancel_iff, Nat.add_right_cancel_iff, Nat.left_eq_add, Nat.add_eq_left, Bool.true_or, Bool.or_true, Bool.or_self, or_self, or_true, true_or, or_false, false_or, decide_true, decide_false, i_10, i_01, f0, f1, f2, f3, r67, r68, r69, q1, i6, c6, c1, w1]
        exact ih _
    · rw [if_neg (fun w => w1 w.1)] at ih
      simp only [e_Sight_fitting_10, e_Sight_fitting_11, e_Sight_fitting_14, e_Sight_fitting_17, e_Sight_fitting_18, e_Sight_fitting_21, e_Sight_fitting_23, e_Sight_fitting_24, e_Sight_fitting_25, e_Sight_fitting_28, e_Sight_fitting_29, e_Sight_fitting_30, e_Sight_fitting_33, e_Sight_fitting_35, e_Sight_fitting_36, e_Sight_fitting_39, e_Sight_fitting_42, e_Sight_fitting_43, e_Sight_fitting_44, e_Sight_fitting_47, e_Sight_fitting_49, e_Sight_fitting_50, e_Sight_fitting_51, e_Sight_fitting_53, e_Sight_fitting_54, e_Sight_fitting_55, e_Sight_fitting_58, e_Sight_fitting_60, e_Sight_fitting_61, e_Sight_fitting_64, e_Sight_fitting_66, e_Sight_fitting_69, e_Sight_fitting_71, e_Sight_fitting_72, e_Sight_fitting_73, e_Sight_fitting_74, e_Sight_fitting_75, e_Sight_fitting_78, m_get, m_put, m_ia, m_is, m_la, m_ls, fl_sf, fl_sa, fl_sl, fl_sq, ar_sf, ar_sa, ar_sl, ar_sq, lr_sf, lr_sa, lr_sl, lr_sq, qr_sf, qr_sa, qr_sl, qr_sq, sf_1, sf_2, sa_1, sa_2, sl_1, sl_2, Option.isSome_some, Option.map_some, Option.map_none, Option.toList_some, Option.toList_none, List.nil_append, List.cons_append, List.singleton_append, if_true, if_false, ↓reduceIte, and_self, and_true, true_and, and_false, false_and, not_true, not_false_iff, reduceCtorEq, Nat.reduceEqDiff, Nat.reduceAdd, Nat.reduceSub, Nat.reduceMul, Nat.reduceLT, Nat.reduceLeDiff, Nat.reduceBEq, eq_self, ne_eq, Nat.add_eq_zero_iff, Nat.add_left_cancel_iff, Nat.add_right_cancel_iff, Nat.left_eq_add, Nat.add_eq_left, Bool.true_or, Bool.or_true, Bool.or_self, or_self, or_true, true_or, or_false, false_or, decide_true, decide_false, i_10, i_01, f0, f1, f2, f3, r67, r68, r69, q1, i6, c6, w1]
      exact ih _
theorem Hp_swapS (H : Hp h σ τ v s q e1 e2) : Hp (sf (sf h 66 6 4 (.ref (141 - s))) 66 6 5 (.ref s)) σ τ v (141 - s) q e1 e2 := by
  have m := H.2.2.2
  have hs := m.2.1.1
  refine ⟨fun b k hb => by rw [ar_sf, ar_sf]; exact H.1 b k hb, fun b j hj => ?_, fun b j r hj => ?_, ?_⟩
  · rw [fl_sf, if_neg, fl_sf, if_neg, H.2.1 b j hj]
    · rintro ⟨rfl, _, rfl⟩
      exact absurd hj (by decide)
    · rintro ⟨rfl, _, rfl⟩
      exact absurd hj (by decide)
  · rw [fl_sf, if_neg, fl_sf, if_neg, H.2.2.1 b j r hj]
    · rintro ⟨rfl, _, rfl⟩
      rw [show rfd 66 4 = none from rfl] at hj
      cases hj
    · rintro ⟨rfl, _, rfl⟩
      rw [show rfd 66 5 = none from rfl] at hj
      cases hj
  · have x1 := m.2.1.2.1
    have x2 := m.2.1.2.2
    have hw : 141 - s = 70 ∨ 141 - s = 71 := by omega
    have hw2 : 141 - (141 - s) = s := by omega
    unfold Hm at *
    simp only [m_get, m_put, m_ia, m_is, m_la, m_ls, fl_sf, fl_sa, fl_sl, fl_sq, ar_sf, ar_sa, ar_sl, ar_sq, lr_sf, lr_sa, lr_sl, lr_sq, qr_sf, qr_sa, qr_sl, qr_sq, sf_1, sf_2, sa_1, sa_2, sl_1, sl_2, Option.isSome_some, Option.map_some, Option.map_none, Option.toList_some, Option.toList_none, List.nil_append, List.cons_append, List.singleton_append, if_true, if_false, ↓reduceIte, and_self, and_true, true_and, and_false, false_and, not_true, not_false_iff, reduceCtorEq, Nat.reduceEqDiff, Nat.reduceAdd, Nat.reduceSub, Nat.reduceMul, Nat.reduceLT, Nat.reduceLeDiff, Nat.reduceBEq, eq_self, ne_eq, Nat.add_eq_zero_iff, Nat.add_left_cancel_iff, Nat.add_right_cancel_iff, Nat.left_eq_add, Nat.add_eq_left, Bool.true_or, Bool.or_true, Bool.or_self, or_self, or_true, true_or, or_false, false_or, decide_true, decide_false, i_10, i_01, x1, x2, hw2, m.1, m.2.2.1, m.2.2.2.1, m.2.2.2.2]
    exact hw
theorem c_goOn (H : Hp h σ τ v s q e1 e2) (p5 : p ≤ 5) (hp : τ v 3 = nI p) (al : Int32) : ∃ h', xC M_Sight_goOn [.ref 66, .int al, .ref v] h = some (none, h') ∧ Hp h' (us σ (141 - s) (cpI (σ (141 - s)) (fun pn => if bt al pn = true then sK (fun o pn => bt (σ (v + 2) o) pn) (σ s) pn p else 0) 0 p)) τ v (141 - s) q e1 e2 := by
  have hv := H.2.2.2.1.1
  have hs := H.2.2.2.2.1.1
  have g4 := H.2.2.2.2.1.2.1
  have g5 := H.2.2.2.2.1.2.2
  have V := Hp_vil H hv
  have v3 := V.1.2.2.2.1
  rw [hp] at v3
  have rs : ar h s 0 = some (5, σ s) := hA H s 0 5 (by rcases hs with rfl | rfl <;> rfl) (by rcases hs with rfl | rfl <;> rfl)
  have hs' : 141 - s = 70 ∨ 141 - s = 71 := by omega
  have rt : ar h (141 - s) 0 = some (5, σ (141 - s)) := hA H (141 - s) 0 5 (by rcases hs' with e | e <;> rw [e] <;> rfl) (by rcases hs' with e | e <;> rw [e] <;> rfl)
  have H1 := Hp_sa (t := 0) (n := 5) H (a := 141 - s) (by rcases hs' with e | e <;> rw [e] <;> rfl) (by rcases hs' with e | e <;> rw [e] <;> rfl) (cpI (σ (141 - s)) (fun pn => if bt al pn = true then sK (fun o pn => bt (σ (v + 2) o) pn) (σ s) pn p else 0) 0 p)
  refine ⟨_, ?_, Hp_swapS H1⟩
  have ne1 : ¬ s = 141 - s := by omega
  have n0 : ¬ s = 0 := by omega
  have n0' : ¬ 141 - s = 0 := by omega
  have nv : ∀ k, k ≤ 10 → ¬ v + k = 141 - s := by omega
  simp only [k_Sight_goOn, e_Sight_goOn_0, e_Sight_goOn_1]
  generalize hF : (fun pn => if bt al pn = true then sK (fun o pn => bt (σ (v + 2) o) pn) (σ s) pn p else 0) = F
  have key := loop_dn (t := p) (P := fun i => ∀ l4 l5, xR none 1 M_Sight_goOn 2 [some (.ref 66), some (.int al), some (.ref v), some (.int (nI i)), l4, l5] [] (sa h (141 - s) 0 (cpI (σ (141 - s)) F 0 i)) = some (none, sf (sf (sa h (141 - s) 0 (cpI (σ (141 - s)) F 0 p)) 66 6 4 (.ref (141 - s))) 66 6 5 (.ref s))) ?_ ?_ 0 (Nat.zero_le _)
  · have := key none none
    rw [nI_0, cpI_0, sa_self rt] at this
    exact this
  · intro l4 l5
    simp only [e_Sight_goOn_2, e_Sight_goOn_3, e_Sight_goOn_4, e_Sight_goOn_7, e_Sight_goOn_79, e_Sight_goOn_80, e_Sight_goOn_83, e_Sight_goOn_84, e_Sight_goOn_85, e_Sight_goOn_86, e_Sight_goOn_89, e_Sight_goOn_92, e_Sight_goOn_93, e_Sight_goOn_94, e_Sight_goOn_97, m_get, m_put, m_ia, m_is, m_la, m_ls, fl_sf, fl_sa, fl_sl, fl_sq, ar_sf, ar_sa, ar_sl, ar_sq, lr_sf, lr_sa, lr_sl, lr_sq, qr_sf, qr_sa, qr_sl, qr_sq, sf_1, sf_2, sa_1, sa_2, sl_1, sl_2, Option.isSome_some, Option.map_some, Option.map_none, Option.toList_some, Option.toList_none, List.nil_append, List.cons_append, List.singleton_append, if_true, if_false, ↓reduceIte, and_self, and_true, true_and, and_false, false_and, not_true, not_false_iff, reduceCtorEq, Nat.reduceEqDiff, Nat.reduceAdd, Nat.reduceSub, Nat.reduceMul, Nat.reduceLT, Nat.reduceLeDiff, Nat.reduceBEq, eq_self, ne_eq, Nat.add_eq_zero_iff, Nat.add_left_cancel_iff, Nat.add_right_cancel_iff, Nat.left_eq_add, Nat.add_eq_left, Bool.true_or, Bool.or_true, Bool.or_self, or_self, or_true, true_or, or_false, false_or, decide_true, decide_false, i_10, i_01, v3, g4, g5, Int32.le_refl]
  · intro i hi ih l4 l5
    have q1 : ¬ nI p ≤ nI i := nI_ge hi (by omega)
    have i5 := xin_nI (show i < 5 by omega) (by decide)
    have c5 := nI_clamp (show i < 2 ^ 31 by omega)
    have Hi := Hp_sa (t := 0) (n := 5) H (a := 141 - s) (by rcases hs' with e | e <;> rw [e] <;> rfl) (by rcases hs' with e | e <;> rw [e] <;> rfl) (cpI (σ (141 - s)) F 0 i)
    have Vi := Hp_vil Hi hv
    have k2 : us σ (141 - s) (cpI (σ (141 - s)) F 0 i) (v + 2) = σ (v + 2) := (by first | rfl | (simp only [us, ut]; repeat rw [if_neg (by omega)]))
    have inner := loop_dn (t := p) (P := fun o => xR none 1 M_Sight_goOn 16 [some (.ref 66), some (.int al), some (.ref v), some (.int (nI i)), some (.int (sK (fun o pn => bt (σ (v + 2) o) pn) (σ s) i o)), some (.int (nI o))] [] (sa h (141 - s) 0 (cpI (σ (141 - s)) F 0 i)) = xR none 1 M_Sight_goOn 53 [some (.ref 66), some (.int al), some (.ref v), some (.int (nI i)), some (.int (sK (fun o pn => bt (σ (v + 2) o) pn) (σ s) i p)), some (.int (nI p))] [] (sa h (141 - s) 0 (cpI (σ (141 - s)) F 0 i))) ?_ ?_ 0 (Nat.zero_le _)
    · rw [nI_0] at inner
      have zz := cpI_s (σ (141 - s)) F 0 i
      rw [Nat.zero_add] at zz
      have fi : F i = if bt al i = true then sK (fun o pn => bt (σ (v + 2) o) pn) (σ s) i p else 0 := by rw [← hF]
      have bz := b_z (x := al) (show i < 32 by omega)
      have ih := ih (some (.int (sK (fun o pn => bt (σ (v + 2) o) pn) (σ s) i p))) (some (.int (nI p)))
      rw [← nI_1, ← zz, ← sa_sa h (141 - s) 0 (cpI (σ (141 - s)) F 0 i), fi] at ih
      rw [e_Sight_goOn_2]
      simp only [e_Sight_goOn_3, e_Sight_goOn_4, e_Sight_goOn_7, e_Sight_goOn_10, e_Sight_goOn_11, e_Sight_goOn_13, e_Sight_goOn_14, m_get, m_put, m_ia, m_is, m_la, m_ls, fl_sf, fl_sa, fl_sl, fl_sq, ar_sf, ar_sa, ar_sl, ar_sq, lr_sf, lr_sa, lr_sl, lr_sq, qr_sf, qr_sa, qr_sl, qr_sq, sf_1, sf_2, sa_1, sa_2, sl_1, sl_2, Option.isSome_some, Option.map_some, Option.map_none, Option.toList_some, Option.toList_none, List.nil_append, List.cons_append, List.singleton_append, if_true, if_false, ↓reduceIte, and_self, and_true, true_and, and_false, false_and, not_true, not_false_iff, reduceCtorEq, Nat.reduceEqDiff, Nat.reduceAdd, Nat.reduceSub, Nat.reduceMul, Nat.reduceLT, Nat.reduceLeDiff, Nat.reduceBEq, eq_self, ne_eq, Nat.add_eq_zero_iff, Nat.add_left_cancel_iff, Nat.add_right_cancel_iff, Nat.left_eq_add, Nat.add_eq_left, Bool.true_or, Bool.or_true, Bool.or_self, or_self, or_true, true_or, or_false, false_or, decide_true, decide_false, i_10, i_01, v3, q1]
      rw [show (0 : Int32) = sK (fun o pn => bt (σ (v + 2) o) pn) (σ s) i 0 from rfl] at inner ⊢
      rw [inner]
      by_cases w : bt al i = true
      · have wz : ¬ ((al >>> (nI i &&& 31)) &&& 1 = 0) := fun y => by rw [bz.mp y] at w; cases w
        rw [if_pos w] at ih
        simp only [e_Sight_goOn_53, e_Sight_goOn_54, e_Sight_goOn_57, e_Sight_goOn_58, e_Sight_goOn_59, e_Sight_goOn_60, e_Sight_goOn_61, e_Sight_goOn_62, e_Sight_goOn_63, e_Sight_goOn_66, e_Sight_goOn_68, e_Sight_goOn_71, e_Sight_goOn_72, e_Sight_goOn_73, e_Sight_goOn_76, m_get, m_put, m_ia, m_is, m_la, m_ls, fl_sf, fl_sa, fl_sl, fl_sq, ar_sf, ar_sa, ar_sl, ar_sq, lr_sf, lr_sa, lr_sl, lr_sq, qr_sf, qr_sa, qr_sl, qr_sq, sf_1, sf_2, sa_1, sa_2, sl_1, sl_2, Option.isSome_some, Option.map_some, Option.map_none, Option.toList_some, Option.toList_none, List.nil_append, List.cons_append, List.singleton_append, if_true, if_false, ↓reduceIte, and_self, and_true, true_and, and_false, false_and, not_true, not_false_iff, reduceCtorEq, Nat.reduceEqDiff, Nat.reduceAdd, Nat.reduceSub, Nat.reduceMul, Nat.reduceLT, Nat.reduceLeDiff, Nat.reduceBEq, eq_self, ne_eq, Nat.add_eq_zero_iff, Nat.add_left_cancel_iff, Nat.add_right_cancel_iff, Nat.left_eq_add, Nat.add_eq_left, Bool.true_or, Bool.or_true, Bool.or_self, or_self, or_true, true_or, or_false, false_or, decide_true, decide_false, i_10, i_01, g5, rt, i5, c5, wz]
        exact ih
      · have wz : (al >>> (nI i &&& 31)) &&& 1 = 0 := bz.mpr (by simpa using w)
        rw [if_neg w] at ih
        simp only [e_Sight_goOn_53, e_Sight_goOn_54, e_Sight_goOn_57, e_Sight_goOn_58, e_Sight_goOn_59, e_Sight_goOn_60, e_Sight_goOn_61, e_Sight_goOn_62, e_Sight_goOn_63, e_Sight_goOn_66, e_Sight_goOn_68, e_Sight_goOn_71, e_Sight_goOn_72, e_Sight_goOn_73, e_Sight_goOn_76, m_get, m_put, m_ia, m_is, m_la, m_ls, fl_sf, fl_sa, fl_sl, fl_sq, ar_sf, ar_sa, ar_sl, ar_sq, lr_sf, lr_sa, lr_sl, lr_sq, qr_sf, qr_sa, qr_sl, qr_sq, sf_1, sf_2, sa_1, sa_2, sl_1, sl_2, Option.isSome_some, Option.map_some, Option.map_none, Option.toList_some, Option.toList_none, List.nil_append, List.cons_append, List.singleton_append, if_true, if_false, ↓reduceIte, and_self, and_true, true_and, and_false, false_and, not_true, not_false_iff, reduceCtorEq, Nat.reduceEqDiff, Nat.reduceAdd, Nat.reduceSub, Nat.reduceMul, Nat.reduceLT, Nat.reduceLeDiff, Nat.reduceBEq, eq_self, ne_eq, Nat.add_eq_zero_iff, Nat.add_left_cancel_iff, Nat.add_right_cancel_iff, Nat.left_eq_add, Nat.add_eq_left, Bool.true_or, Bool.or_true, Bool.or_self, or_self, or_true, true_or, or_false, false_or, decide_true, decide_false, i_10, i_01, g5, rt, i5, c5, wz]
        exact ih
    · simp only [e_Sight_goOn_16, e_Sight_goOn_18, e_Sight_goOn_19, e_Sight_goOn_22, m_get, m_put, m_ia, m_is, m_la, m_ls, fl_sf, fl_sa, fl_sl, fl_sq, ar_sf, ar_sa, ar_sl, ar_sq, lr_sf, lr_sa, lr_sl, lr_sq, qr_sf, qr_sa, qr_sl, qr_sq, sf_1, sf_2, sa_1, sa_2, sl_1, sl_2, Option.isSome_some, Option.map_some, Option.map_none, Option.toList_some, Option.toList_none, List.nil_append, List.cons_append, List.singleton_append, if_true, if_false, ↓reduceIte, and_self, and_true, true_and, and_false, false_and, not_true, not_false_iff, reduceCtorEq, Nat.reduceEqDiff, Nat.reduceAdd, Nat.reduceSub, Nat.reduceMul, Nat.reduceLT, Nat.reduceLeDiff, Nat.reduceBEq, eq_self, ne_eq, Nat.add_eq_zero_iff, Nat.add_left_cancel_iff, Nat.add_right_cancel_iff, Nat.left_eq_add, Nat.add_eq_left, Bool.true_or, Bool.or_true, Bool.or_self, or_self, or_true, true_or, or_false, false_or, decide_true, decide_false, i_10, i_01, v3, Int32.le_refl]
    · intro o ho ihh
      have q2 : ¬ nI p ≤ nI o := nI_ge ho (by omega)
      have io := xin_nI (show o < 5 by omega) (by decide)
      have co := nI_clamp (show o < 2 ^ 31 by omega)
      have ck := call_v (lv := 1) (c_know Vi (i := o) (by omega) (nI i)) (Vil_is Vi) (by decide) (Nat.le_of_ble_eq_true rfl)
      rw [k2] at ck
      have bz := b_z (x := σ (v + 2) o) (show i < 32 by omega)
      rw [← nI_1, sK] at ihh
      rw [e_Sight_goOn_16, ← ihh]
      by_cases w : bt (σ (v + 2) o) i = true
      · have wz : ¬ ((σ (v + 2) o >>> (nI i &&& 31)) &&& 1 = 0) := fun y => by rw [bz.mp y] at w; cases w
        simp only [if_neg wz] at ck
        simp only [e_Sight_goOn_18, e_Sight_goOn_19, e_Sight_goOn_22, e_Sight_goOn_25, e_Sight_goOn_26, e_Sight_goOn_28, e_Sight_goOn_29, e_Sight_goOn_32, e_Sight_goOn_35, e_Sight_goOn_37, e_Sight_goOn_38, e_Sight_goOn_41, e_Sight_goOn_43, e_Sight_goOn_44, e_Sight_goOn_45, e_Sight_goOn_47, e_Sight_goOn_50, m_get, m_put, m_ia, m_is, m_la, m_ls, fl_sf, fl_sa, fl_sl, fl_sq, ar_sf, ar_sa, ar_sl, ar_sq, lr_sf, lr_sa, lr_sl, lr_sq, qr_sf, qr_sa, qr_sl, qr_sq, sf_1, sf_2, sa_1, sa_2, sl_1, sl_2, Option.isSome_some, Option.map_some, Option.map_none, Option.toList_some, Option.toList_none, List.nil_append, List.cons_append, List.singleton_append, if_true, if_false, ↓reduceIte, and_self, and_true, true_and, and_false, false_and, not_true, not_false_iff, reduceCtorEq, Nat.reduceEqDiff, Nat.reduceAdd, Nat.reduceSub, Nat.reduceMul, Nat.reduceLT, Nat.reduceLeDiff, Nat.reduceBEq, eq_self, ne_eq, Nat.add_eq_zero_iff, Nat.add_left_cancel_iff, Nat.add_right_cancel_iff, Nat.left_eq_add, Nat.add_eq_left, Bool.true_or, Bool.or_true, Bool.or_self, or_self, or_true, true_or, or_false, false_or, decide_true, decide_false, i_10, i_01, v3, q2, ck, g4, rs, ne1, n0, io, co, w]
      · have wz : (σ (v + 2) o >>> (nI i &&& 31)) &&& 1 = 0 := bz.mpr (by simpa using w)
        simp only [if_pos wz] at ck
        simp only [e_Sight_goOn_18, e_Sight_goOn_19, e_Sight_goOn_22, e_Sight_goOn_25, e_Sight_goOn_26, e_Sight_goOn_28, e_Sight_goOn_29, e_Sight_goOn_32, e_Sight_goOn_35, e_Sight_goOn_37, e_Sight_goOn_38, e_Sight_goOn_41, e_Sight_goOn_43, e_Sight_goOn_44, e_Sight_goOn_45, e_Sight_goOn_47, e_Sight_goOn_50, m_get, m_put, m_ia, m_is, m_la, m_ls, fl_sf, fl_sa, fl_sl, fl_sq, ar_sf, ar_sa, ar_sl, ar_sq, lr_sf, lr_sa, lr_sl, lr_sq, qr_sf, qr_sa, qr_sl, qr_sq, sf_1, sf_2, sa_1, sa_2, sl_1, sl_2, Option.isSome_some, Option.map_some, Option.map_none, Option.toList_some, Option.toList_none, List.nil_append, List.cons_append, List.singleton_append, if_true, if_false, ↓reduceIte, and_self, and_true, true_and, and_false, false_and, not_true, not_false_iff, reduceCtorEq, Nat.reduceEqDiff, Nat.reduceAdd, Nat.reduceSub, Nat.reduceMul, Nat.reduceLT, Nat.reduceLeDiff, Nat.reduceBEq, eq_self, ne_eq, Nat.add_eq_zero_iff, Nat.add_left_cancel_iff, Nat.add_right_cancel_iff, Nat.left_eq_add, Nat.add_eq_left, Bool.true_or, Bool.or_true, Bool.or_self, or_self, or_true, true_or, or_false, false_or, decide_true, decide_false, i_10, i_01, v3, q2, ck, w, Bool.false_eq_true, Int32.add_zero]
end SI
