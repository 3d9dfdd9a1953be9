
section SI2
variable {h : xH} {σ τ : Nat → Nat → Int32} {v s : Nat} {q : Nat → Nat} {e1 e2 : Int64} {p t n z : Nat}
theorem c_rowSum (H : Hp h σ τ v s q e1 e2) (p5 : p ≤ 5) (hp : τ v 3 = nI p) {x1 x3 x4 x5 x6 : Int32} : xR none 2 M_Sight_rowsWithout 102 [some (.ref 66), some (.int x1), some (.ref v), some (.int x3), some (.int x4), some (.int x5), some (.int x6), some (.int 0), some (.int 0)] [] h = some (some (.int (sm (σ s) p)), h) := by
  have hv := H.2.2.2.1.1
  have hs := H.2.2.2.2.1.1
  have g4 := H.2.2.2.2.1.2.1
  have v3 := (Hp_vil H hv).1.2.2.2.1
  rw [hp] at v3
  have rs : ar h s 0 = some (5, σ s) := hA H s 0 5 (by rcases hs with rfl | rfl <;> rfl) (by rcases hs with rfl | rfl <;> rfl)
  have n0 : ¬ s = 0 := by omega
  have key := loop_dn (t := p) (P := fun i => xR none 2 M_Sight_rowsWithout 102 [some (.ref 66), some (.int x1), some (.ref v), some (.int x3), some (.int x4), some (.int x5), some (.int x6), some (.int (sm (σ s) i)), some (.int (nI i))] [] h = some (some (.int (sm (σ s) p)), h)) ?_ ?_ 0 (Nat.zero_le _)
  · rw [nI_0] at key
    exact key
  · simp only [e_Sight_rowsWithout_102, e_Sight_rowsWithout_104, e_Sight_rowsWithout_105, e_Sight_rowsWithout_108, e_Sight_rowsWithout_129, e_Sight_rowsWithout_131, m_get, m_put, m_ia, m_is, m_la, m_ls, fl_sf, fl_sa, fl_sl, fl_sq, ar_sf, ar_sa, ar_sl, ar_sq, lr_sf, lr_sa, lr_sl, lr_sq, qr_sf, qr_sa, qr_sl, qr_sq, sf_1, sf_2, sa_1, sa_2, sl_1, sl_2, Option.isSome_some, Option.map_some, Option.map_none, Option.toList_some, Option.toList_none, List.nil_append, List.cons_append, List.singleton_append, if_true, if_false, ↓reduceIte, and_self, and_true, true_and, and_false, false_and, not_true, not_false_iff, reduceCtorEq, Nat.reduceEqDiff, Nat.reduceAdd, Nat.reduceSub, Nat.reduceMul, Nat.reduceLT, Nat.reduceLeDiff, Nat.reduceBEq, eq_self, ne_eq, Nat.add_eq_zero_iff, Nat.add_left_cancel_iff, Nat.add_right_cancel_iff, Nat.left_eq_add, Nat.add_eq_left, Bool.true_or, Bool.or_true, Bool.or_self, or_self, or_true, true_or, or_false, false_or, decide_true, decide_false, i_10, i_01, v3, Int32.le_refl]
  · intro i hi ih
    have q1 : ¬ nI p ≤ nI i := nI_ge hi (by omega)
    have i5 := xin_nI (show i < 5 by omega) (by decide)
    have c5 := nI_clamp (show i < 2 ^ 31 by omega)
    rw [← nI_1, sm] at ih
    rw [e_Sight_rowsWithout_102]
    simp only [e_Sight_rowsWithout_104, e_Sight_rowsWithout_105, e_Sight_rowsWithout_108, e_Sight_rowsWithout_111, e_Sight_rowsWithout_113, e_Sight_rowsWithout_114, e_Sight_rowsWithout_117, e_Sight_rowsWithout_119, e_Sight_rowsWithout_120, e_Sight_rowsWithout_121, e_Sight_rowsWithout_123, e_Sight_rowsWithout_126, m_get, m_put, m_ia, m_is, m_la, m_ls, fl_sf, fl_sa, fl_sl, fl_sq, ar_sf, ar_sa, ar_sl, ar_sq, lr_sf, lr_sa, lr_sl, lr_sq, qr_sf, qr_sa, qr_sl, qr_sq, sf_1, sf_2, sa_1, sa_2, sl_1, sl_2, Option.isSome_some, Option.map_some, Option.map_none, Option.toList_some, Option.toList_none, List.nil_append, List.cons_append, List.singleton_append, if_true, if_false, ↓reduceIte, and_self, and_true, true_and, and_false, false_and, not_true, not_false_iff, reduceCtorEq, Nat.reduceEqDiff, Nat.reduceAdd, Nat.reduceSub, Nat.reduceMul, Nat.reduceLT, Nat.reduceLeDiff, Nat.reduceBEq, eq_self, ne_eq, Nat.add_eq_zero_iff, Nat.add_left_cancel_iff, Nat.add_right_cancel_iff, Nat.left_eq_add, Nat.add_eq_left, Bool.true_or, Bool.or_true, Bool.or_self, or_self, or_true, true_or, or_false, false_or, decide_true, decide_false, i_10, i_01, v3, g4, rs, n0, q1, i5, c5]
    exact ih
theorem c_rowLoop (p5 : p ≤ 5) (hp : τ v 3 = nI p) (z6 : z ≤ 6) (hz : τ 66 0 = nI z) {K0 : Nat → Bool} {fre fi br jj : Int32} {m : Nat} (m8 : m ≤ 8) (m1 : 1 ≤ m) : ∀ a, a ≤ m - 1 → ∀ (g : xH) (σa : Nat → Nat → Int32) (sa' : Nat) (l8 : Option Value), Hp g σa τ v sa' q e1 e2 → (∀ b, b ≠ 70 → b ≠ 71 → σa b = σ b) → (∀ pn, pn < p → σa sa' pn = Wv (fun o pn => bt (σ (v + 2) o) pn) K0 (fun a pn => bt (fre &&& ftg (σ 67) (σ 68) (σ 69) p (nI a) z) pn) p a pn) → ∃ h' σ' s', xR none 2 M_Sight_rowsWithout 68 [some (.ref 66), some (.int br), some (.ref v), some (.int jj), some (.int (nI m)), some (.int fre), some (.int fi), some (.int (nI (a + 2))), l8] [] g = some (some (.int (sm (Wv (fun o pn => bt (σ (v + 2) o) pn) K0 (fun a pn => bt (fre &&& ftg (σ 67) (σ 68) (σ 69) p (nI a) z) pn) p (m - 1)) p)), h') ∧ Hp h' σ' τ v s' q e1 e2 ∧ (∀ b, b ≠ 70 → b ≠ 71 → σ' b = σ b) := by
  refine loop_dn (P := fun a => ∀ (g : xH) (σa : Nat → Nat → Int32) (sa' : Nat) (l8 : Option Value), Hp g σa τ v sa' q e1 e2 → (∀ b, b ≠ 70 → b ≠ 71 → σa b = σ b) → (∀ pn, pn < p → σa sa' pn = Wv (fun o pn => bt (σ (v + 2) o) pn) K0 (fun a pn => bt (fre &&& ftg (σ 67) (σ 68) (σ 69) p (nI a) z) pn) p a pn) → ∃ h' σ' s', xR none 2 M_Sight_rowsWithout 68 [some (.ref 66), some (.int br), some (.ref v), some (.int jj), some (.int (nI m)), some (.int fre), some (.int fi), some (.int (nI (a + 2))), l8] [] g = some (some (.int (sm (Wv (fun o pn => bt (σ (v + 2) o) pn) K0 (fun a pn => bt (fre &&& ftg (σ 67) (σ 68) (σ 69) p (nI a) z) pn) p (m - 1)) p)), h') ∧ Hp h' σ' τ v s' q e1 e2 ∧ (∀ b, b ≠ 70 → b ≠ 71 → σ' b = σ b)) ?_ ?_
  · intro g σa sa' l8 H hb hw
    refine ⟨g, σa, sa', ?_, H, hb⟩
    have y1 : nI m < nI (m - 1 + 2) := nI_lt (by omega) (by omega)
    have cs := c_rowSum H p5 hp (x1 := br) (x3 := jj) (x4 := nI m) (x5 := fre) (x6 := fi)
    rw [sm_cg p hw] at cs
    simp only [e_Sight_rowsWithout_68, e_Sight_rowsWithout_70, e_Sight_rowsWithout_72, e_Sight_rowsWithout_96, e_Sight_rowsWithout_97, e_Sight_rowsWithout_99, e_Sight_rowsWithout_100, Option.isSome_some, Option.map_some, Option.map_none, Option.toList_some, Option.toList_none, List.nil_append, List.cons_append, List.singleton_append, if_true, if_false, ↓reduceIte, and_self, and_true, true_and, and_false, false_and, not_true, not_false_iff, reduceCtorEq, Nat.reduceEqDiff, Nat.reduceAdd, Nat.reduceSub, Nat.reduceMul, Nat.reduceLT, Nat.reduceLeDiff, Nat.reduceBEq, eq_self, ne_eq, Nat.add_eq_zero_iff, Nat.add_left_cancel_iff, Nat.add_right_cancel_iff, Nat.left_eq_add, Nat.add_eq_left, Bool.true_or, Bool.or_true, Bool.or_self, or_self, or_true, true_or, or_false, false_or, decide_true, decide_false, i_10, i_01, y1]
    exact cs
  · intro a ha ih g σa sa' l8 H hb hw
    have hv := H.2.2.2.1.1
    have hs := H.2.2.2.2.1.1
    have y1 : ¬ nI m < nI (a + 2) := nI_nlt (by omega) (by omega)
    have cf := call_v (lv := 2) (c_fitting H z6 hz hp (nI (a + 2))) (by rw [show xmo M_Sight_fitting = 6 from rfl, hI H 66 6 0 rfl rfl]; rfl) (by decide) (Nat.le_of_ble_eq_true rfl)
    rw [hb 67 (by omega) (by omega), hb 68 (by omega) (by omega), hb 69 (by omega) (by omega)] at cf
    obtain ⟨g1, c1, H1⟩ := c_goOn H p5 hp (fre &&& ftg (σ 67) (σ 68) (σ 69) p (nI (a + 2)) z)
    have cg := call_v (lv := 2) c1 (by rw [show xmo M_Sight_goOn = 6 from rfl, hI H 66 6 0 rfl rfl]; rfl) (by decide) (Nat.le_of_ble_eq_true rfl)
    obtain ⟨h', σ', s', c, H', hb'⟩ := ih g1 _ (141 - sa') l8 H1 (fun b n1 n2 => by rw [us, if_neg (by omega), hb b n1 n2]) (fun pn hpn => by
      have := cpI_in (g := σa (141 - sa')) (f := (fun pn => if bt (fre &&& ftg (σ 67) (σ 68) (σ 69) p (nI (a + 2)) z) pn = true then sK (fun o pn => bt (σa (v + 2) o) pn) (σa sa') pn p else 0)) (o := 0) hpn
      rw [Nat.zero_add] at this
      rw [us, if_pos rfl, this, Wv]
      rw [sK_cg (K' := (fun o pn => bt (σ (v + 2) o) pn)) (W' := Wv (fun o pn => bt (σ (v + 2) o) pn) K0 (fun a pn => bt (fre &&& ftg (σ 67) (σ 68) (σ 69) p (nI a) z) pn) p a) p (fun i hi => ⟨by rw [hb (v + 2) (by omega) (by omega)], hw i hi⟩)])
    refine ⟨h', σ', s', ?_, H', hb'⟩
    rw [show a + 1 + 2 = a + 2 + 1 by omega, ← nI_1] at c
    rw [e_Sight_rowsWithout_68]
    simp only [e_Sight_rowsWithout_70, e_Sight_rowsWithout_72, e_Sight_rowsWithout_75, e_Sight_rowsWithout_76, e_Sight_rowsWithout_78, e_Sight_rowsWithout_79, e_Sight_rowsWithout_81, e_Sight_rowsWithout_82, e_Sight_rowsWithout_85, e_Sight_rowsWithout_86, e_Sight_rowsWithout_87, e_Sight_rowsWithout_90, e_Sight_rowsWithout_93, m_get, m_put, m_ia, m_is, m_la, m_ls, fl_sf, fl_sa, fl_sl, fl_sq, ar_sf, ar_sa, ar_sl, ar_sq, lr_sf, lr_sa, lr_sl, lr_sq, qr_sf, qr_sa, qr_sl, qr_sq, sf_1, sf_2, sa_1, sa_2, sl_1, sl_2, Option.isSome_some, Option.map_some, Option.map_none, Option.toList_some, Option.toList_none, List.nil_append, List.cons_append, List.singleton_append, if_true, if_false, ↓reduceIte, and_self, and_true, true_and, and_false, false_and, not_true, not_false_iff, reduceCtorEq, Nat.reduceEqDiff, Nat.reduceAdd, Nat.reduceSub, Nat.reduceMul, Nat.reduceLT, Nat.reduceLeDiff, Nat.reduceBEq, eq_self, ne_eq, Nat.add_eq_zero_iff, Nat.add_left_cancel_iff, Nat.add_right_cancel_iff, Nat.left_eq_add, Nat.add_eq_left, Bool.true_or, Bool.or_true, Bool.or_self, or_self, or_true, true_or, or_false, false_or, decide_true, decide_false, i_10, i_01, y1, cf, cg]
    exact c
theorem c_rows (H : Hp h σ τ v s q e1 e2) (p5 : p ≤ 5) (hp : τ v 3 = nI p) (z6 : z ≤ 6) (hz : τ 66 0 = nI z) {j w m : Nat} (hj : j < 6) (hw : w < 5) (ew : σ (v + 3) j = nI w) (m1 : 1 ≤ m) (m8 : m ≤ 8) (br : Int32) {fre : Int32} (hfre : (((1 : Int32) <<< (nI p &&& 31)) - 1) &&& (br ^^^ (-1)) = fre) : ∃ h' σ' s', xC M_Sight_rowsWithout [.ref 66, .int br, .ref v, .int (nI j), .int (nI m)] h = some (some (.int (sm (Wv (fun o pn => bt (σ (v + 2) o) pn) (fun pn => bt (σ (v + 2) w) pn) (fun a pn => bt (fre &&& ftg (σ 67) (σ 68) (σ 69) p (nI a) z) pn) p (m - 1)) p)), h') ∧ Hp h' σ' τ v s' q e1 e2 ∧ (∀ b, b ≠ 70 → b ≠ 71 → σ' b = σ b) := by
  have hv := H.2.2.2.1.1
  have hs := H.2.2.2.2.1.1
  have g4 := H.2.2.2.2.1.2.1
  have V := Hp_vil H hv
  rw [hp] at V
  have c0 := call_v (lv := 2) (c_everybody V) (Vil_is V) (by decide) (Nat.le_of_ble_eq_true rfl)
  have cf := call_v (lv := 2) (c_fitting H z6 hz hp 1) (by rw [show xmo M_Sight_fitting = 6 from rfl, hI H 66 6 0 rfl rfl]; rfl) (by decide) (Nat.le_of_ble_eq_true rfl)
  obtain ⟨⟨v0, v1, v2, v3, v4, v5⟩, ⟨w1, w2, w3, w4, w5, w6, w7, w8, w9, w10⟩, ⟨a1, a2, a3, a4, a5', a6, a7, a8, a9, a10⟩⟩ := V
  have ij := xin_nI hj (by decide)
  have cj := nI_clamp (show j < 2 ^ 31 by omega)
  have iw := xin_nI hw (by decide)
  have cw := nI_clamp (show w < 2 ^ 31 by omega)
  have rs : ar h s 0 = some (5, σ s) := hA H s 0 5 (by rcases hs with rfl | rfl <;> rfl) (by rcases hs with rfl | rfl <;> rfl)
  generalize hfi : σ (v + 2) w &&& fre &&& ftg (σ 67) (σ 68) (σ 69) p 1 z = fi
  have H1 := Hp_sa (t := 0) (n := 5) H (a := s) (by rcases hs with rfl | rfl <;> rfl) (by rcases hs with rfl | rfl <;> rfl) (cpI (σ s) (fun pn => (fi >>> (nI pn &&& 31)) &&& 1) 0 p)
  obtain ⟨h', σ', s', c, H', hb'⟩ := c_rowLoop (σ := σ) (K0 := fun pn => bt (σ (v + 2) w) pn) (fre := fre) (fi := fi) (br := br) (jj := nI j) p5 hp z6 hz m8 m1 0 (by omega) _ _ s none H1 (fun b n1 n2 => by rw [us, if_neg (by omega)]) (fun pn hpn => by
    have := cpI_in (g := σ s) (f := (fun pn => (fi >>> (nI pn &&& 31)) &&& 1)) (o := 0) hpn
    rw [Nat.zero_add] at this
    rw [us, if_pos rfl, this, b_val (by omega), Wv, ← hfi]
    simp only [b_and, Bool.and_assoc]
    rfl)
  refine ⟨h', σ', s', ?_, H', hb'⟩
  simp only [k_Sight_rowsWithout, e_Sight_rowsWithout_0, e_Sight_rowsWithout_1, e_Sight_rowsWithout_4, e_Sight_rowsWithout_5, e_Sight_rowsWithout_6, e_Sight_rowsWithout_7, e_Sight_rowsWithout_8, e_Sight_rowsWithout_10, e_Sight_rowsWithout_11, e_Sight_rowsWithout_14, e_Sight_rowsWithout_15, e_Sight_rowsWithout_18, e_Sight_rowsWithout_19, e_Sight_rowsWithout_20, e_Sight_rowsWithout_21, e_Sight_rowsWithout_23, e_Sight_rowsWithout_24, e_Sight_rowsWithout_25, e_Sight_rowsWithout_26, e_Sight_rowsWithout_27, e_Sight_rowsWithout_30, e_Sight_rowsWithout_31, e_Sight_rowsWithout_33, e_Sight_rowsWithout_34, m_get, m_put, m_ia, m_is, m_la, m_ls, fl_sf, fl_sa, fl_sl, fl_sq, ar_sf, ar_sa, ar_sl, ar_sq, lr_sf, lr_sa, lr_sl, lr_sq, qr_sf, qr_sa, qr_sl, qr_sq, sf_1, sf_2, sa_1, sa_2, sl_1, sl_2, Option.isSome_some, Option.map_some, Option.map_none, Option.toList_some, Option.toList_none, List.nil_append, List.cons_append, List.singleton_append, if_true, if_false, ↓reduceIte, and_self, and_true, true_and, and_false, false_and, not_true, not_false_iff, reduceCtorEq, Nat.reduceEqDiff, Nat.reduceAdd, Nat.reduceSub, Nat.reduceMul, Nat.reduceLT, Nat.reduceLeDiff, Nat.reduceBEq, eq_self, ne_eq, Nat.add_eq_zero_iff, Nat.add_left_cancel_iff, Nat.add_right_cancel_iff, Nat.left_eq_add, Nat.add_eq_left, Bool.true_or, Bool.or_true, Bool.or_self, or_self, or_true, true_or, or_false, false_or, decide_true, decide_false, i_10, i_01, c0, hfre, cf, v0, v1, v2, v3, v4, v5, w1, w2, w3, w4, w5, w6, w7, w8, w9, w10, a1, a2, a3, a4, a5', a6, a7, a8, a9, a10, ij, cj, ew, iw, cw, hfi]
  have key := loop_dn (t := p) (P := fun i => xR none 2 M_Sight_rowsWithout 36 [some (.ref 66), some (.int br), some (.ref v), some (.int (nI j)), some (.int (nI m)), some (.int fre), some (.int fi), some (.int (nI i)), none] [] (sa h s 0 (cpI (σ s) (fun pn => (fi >>> (nI pn &&& 31)) &&& 1) 0 i)) = some (some (.int (sm (Wv (fun o pn => bt (σ (v + 2) o) pn) (fun pn => bt (σ (v + 2) w) pn) (fun a pn => bt (fre &&& ftg (σ 67) (σ 68) (σ 69) p (nI a) z) pn) p (m - 1)) p)), h')) ?_ ?_ 0 (Nat.zero_le _)
  · rw [nI_0, cpI_0, sa_self rs] at key
    exact key
  · simp only [e_Sight_rowsWithout_36, e_Sight_rowsWithout_38, e_Sight_rowsWithout_39, e_Sight_rowsWithout_42, e_Sight_rowsWithout_65, e_Sight_rowsWithout_66, m_get, m_put, m_ia, m_is, m_la, m_ls, fl_sf, fl_sa, fl_sl, fl_sq, ar_sf, ar_sa, ar_sl, ar_sq, lr_sf, lr_sa, lr_sl, lr_sq, qr_sf, qr_sa, qr_sl, qr_sq, sf_1, sf_2, sa_1, sa_2, sl_1, sl_2, Option.isSome_some, Option.map_some, Option.map_none, Option.toList_some, Option.toList_none, List.nil_append, List.cons_append, List.singleton_append, if_true, if_false, ↓reduceIte, and_self, and_true, true_and, and_false, false_and, not_true, not_false_iff, reduceCtorEq, Nat.reduceEqDiff, Nat.reduceAdd, Nat.reduceSub, Nat.reduceMul, Nat.reduceLT, Nat.reduceLeDiff, Nat.reduceBEq, eq_self, ne_eq, Nat.add_eq_zero_iff, Nat.add_left_cancel_iff, Nat.add_right_cancel_iff, Nat.left_eq_add, Nat.add_eq_left, Bool.true_or, Bool.or_true, Bool.or_self, or_self, or_true, true_or, or_false, false_or, decide_true, decide_false, i_10, i_01, v3, Int32.le_refl]
    exact c
  · intro i hi ih
    have q1 : ¬ nI p ≤ nI i := nI_ge hi (by omega)
    have i5 := xin_nI (show i < 5 by omega) (by decide)
    have c5 := nI_clamp (show i < 2 ^ 31 by omega)
    have zz := cpI_s (σ s) (fun pn => (fi >>> (nI pn &&& 31)) &&& 1) 0 i
    rw [Nat.zero_add] at zz
    rw [← nI_1, ← zz, ← sa_sa h s 0 (cpI (σ s) (fun pn => (fi >>> (nI pn &&& 31)) &&& 1) 0 i)] at ih
    rw [e_Sight_rowsWithout_36]
    simp only [e_Sight_rowsWithout_38, e_Sight_rowsWithout_39, e_Sight_rowsWithout_42, e_Sight_rowsWithout_45, e_Sight_rowsWithout_46, e_Sight_rowsWithout_49, e_Sight_rowsWithout_51, e_Sight_rowsWithout_53, e_Sight_rowsWithout_55, e_Sight_rowsWithout_56, e_Sight_rowsWithout_57, e_Sight_rowsWithout_58, e_Sight_rowsWithout_59, e_Sight_rowsWithout_62, m_get, m_put, m_ia, m_is, m_la, m_ls, fl_sf, fl_sa, fl_sl, fl_sq, ar_sf, ar_sa, ar_sl, ar_sq, lr_sf, lr_sa, lr_sl, lr_sq, qr_sf, qr_sa, qr_sl, qr_sq, sf_1, sf_2, sa_1, sa_2, sl_1, sl_2, Option.isSome_some, Option.map_some, Option.map_none, Option.toList_some, Option.toList_none, List.nil_append, List.cons_append, List.singleton_append, if_true, if_false, ↓reduceIte, and_self, and_true, true_and, and_false, false_and, not_true, not_false_iff, reduceCtorEq, Nat.reduceEqDiff, Nat.reduceAdd, Nat.reduceSub, Nat.reduceMul, Nat.reduceLT, Nat.reduceLeDiff, Nat.reduceBEq, eq_self, ne_eq, Nat.add_eq_zero_iff, Nat.add_left_cancel_iff, Nat.add_right_cancel_iff, Nat.left_eq_add, Nat.add_eq_left, Bool.true_or, Bool.or_true, Bool.or_self, or_self, or_true, true_or, or_false, false_or, decide_true, decide_false, i_10, i_01, v3, g4, rs, q1, i5, c5]
    exact ih
/-- whether p fits at a place -/
def fiv (pl wh hd : Nat → Int32) (p : Nat) (at' x : Int32) : Nat → Int32
  | 0 => 1
  | k + 1 => if fiv pl wh hd p at' x k = 0 then 0 else if pl k = at' ∧ (0 ≤ wh k ∧ wh k < nI p) then (if hd k = (if wh k = x then 1 else 0) then 1 else 0) else 1
theorem cM_fits (H : Hp h σ τ v s q e1 e2) (p5 : p ≤ 5) (hp : τ 75 13 = nI p) (z6 : z ≤ 6) (hz : τ 75 32 = nI z) (at' x : Int32) : xC M_Md_fits [.ref 75, .int at', .int x] h = some (some (.int (fiv (σ 91) (σ 92) (σ 93) p at' x z)), h) := by
  have f32 := hI H 75 9 32 rfl rfl
  rw [hz] at f32
  have f33 := hR H 75 9 33 91 rfl rfl
  have f34 := hR H 75 9 34 92 rfl rfl
  have f35 := hR H 75 9 35 93 rfl rfl
  have r91 := hA H 91 0 6 rfl rfl
  have r92 := hA H 92 0 6 rfl rfl
  have r93 := hA H 93 2 6 rfl rfl
  have bb : ∀ i, fiv (σ 91) (σ 92) (σ 93) p at' x i = 0 ∨ fiv (σ 91) (σ 92) (σ 93) p at' x i = 1 := fun i => by
    cases i with
    | zero => exact Or.inr rfl
    | succ i =>
      rw [fiv]
      repeat' split
      all_goals first | exact Or.inl rfl | exact Or.inr rfl
  simp only [k_Md_fits, e_Md_fits_0, e_Md_fits_1, e_Md_fits_2, e_Md_fits_3]
  have key := loop_dn (t := z) (P := fun i => ∀ l5, xR none 2 M_Md_fits 5 [some (.ref 75), some (.int at'), some (.int x), some (.int (fiv (σ 91) (σ 92) (σ 93) p at' x i)), some (.int (nI i)), l5] [] h = some (some (.int (fiv (σ 91) (σ 92) (σ 93) p at' x z)), h)) ?_ ?_ 0 (Nat.zero_le _)
  · have := key none
    rw [nI_0] at this
    exact this
  · intro l5
    have b := bb z
    simp only [e_Md_fits_5, e_Md_fits_7, e_Md_fits_8, e_Md_fits_11, e_Md_fits_93, e_Md_fits_94, m_get, m_put, m_ia, m_is, m_la, m_ls, fl_sf, fl_sa, fl_sl, fl_sq, ar_sf, ar_sa, ar_sl, ar_sq, lr_sf, lr_sa, lr_sl, lr_sq, qr_sf, qr_sa, qr_sl, qr_sq, sf_1, sf_2, sa_1, sa_2, sl_1, sl_2, Option.isSome_some, Option.map_some, Option.map_none, Option.toList_some, Option.toList_none, List.nil_append, List.cons_append, List.singleton_append, if_true, if_false, ↓reduceIte, and_self, and_true, true_and, and_false, false_and, not_true, not_false_iff, reduceCtorEq, Nat.reduceEqDiff, Nat.reduceAdd, Nat.reduceSub, Nat.reduceMul, Nat.reduceLT, Nat.reduceLeDiff, Nat.reduceBEq, eq_self, ne_eq, Nat.add_eq_zero_iff, Nat.add_left_cancel_iff, Nat.add_right_cancel_iff, Nat.left_eq_add, Nat.add_eq_left, Bool.true_or, Bool.or_true, Bool.or_self, or_self, or_true, true_or, or_false, false_or, decide_true, decide_false, i_10, i_01, f32, Int32.le_refl, b]
  · intro i hi ih l5
    have q1 : ¬ nI z ≤ nI i := nI_ge hi (by omega)
    have i6 := xin_nI (show i < 6 by omega) (by decide)
    have c6 := nI_clamp (show i < 2 ^ 31 by omega)
    have c1 := call_v (lv := 2) (cM_isPerson H hp p5 (σ 92 i)) (Hp_75 H) (by decide) (Nat.le_of_ble_eq_true rfl)
    rw [fiv] at ih
    rw [← nI_1] at ih
    rw [e_Md_fits_5]
    by_cases w0 : fiv (σ 91) (σ 92) (σ 93) p at' x i = 0
    · rw [if_pos w0] at ih
      by_cases w1 : σ 91 i = at'
      · by_cases w2 : 0 ≤ σ 92 i ∧ σ 92 i < nI p
        · simp only [if_pos w2] at c1
          simp only [e_Md_fits_7, e_Md_fits_8, e_Md_fits_11, e_Md_fits_14, e_Md_fits_15, e_Md_fits_18, e_Md_fits_20, e_Md_fits_21, e_Md_fits_22, e_Md_fits_25, e_Md_fits_26, e_Md_fits_27, e_Md_fits_30, e_Md_fits_32, e_Md_fits_33, e_Md_fits_36, e_Md_fits_39, e_Md_fits_40, e_Md_fits_43, e_Md_fits_44, e_Md_fits_46, e_Md_fits_47, e_Md_fits_50, e_Md_fits_52, e_Md_fits_55, e_Md_fits_56, e_Md_fits_59, e_Md_fits_61, e_Md_fits_62, e_Md_fits_63, e_Md_fits_66, e_Md_fits_68, e_Md_fits_69, e_Md_fits_70, e_Md_fits_73, e_Md_fits_74, e_Md_fits_77, e_Md_fits_78, e_Md_fits_81, e_Md_fits_82, e_Md_fits_85, e_Md_fits_86, e_Md_fits_87, e_Md_fits_90, m_get, m_put, m_ia, m_is, m_la, m_ls, fl_sf, fl_sa, fl_sl, fl_sq, ar_sf, ar_sa, ar_sl, ar_sq, lr_sf, lr_sa, lr_sl, lr_sq, qr_sf, qr_sa, qr_sl, qr_sq, sf_1, sf_2, sa_1, sa_2, sl_1, sl_2, Option.isSome_some, Option.map_some, Option.map_none, Option.toList_some, Option.toList_none, List.nil_append, List.cons_append, List.singleton_append, if_true, if_false, ↓reduceIte, and_self, and_true, true_and, and_false, false_and, not_true, not_false_iff, reduceCtorEq, Nat.reduceEqDiff, Nat.reduceAdd, Nat.reduceSub, Nat.reduceMul, Nat.reduceLT, Nat.reduceLeDiff, Nat.reduceBEq, eq_self, ne_eq, Nat.add_eq_zero_iff, Nat.add_left_cancel_iff, Nat.add_right_cancel_iff, Nat.left_eq_add, Nat.add_eq_left, Bool.true_or, Bool.or_true, Bool.or_self, or_self, or_true, true_or, or_false, false_or, decide_true, decide_false, i_10, i_01, f32, f33, f34, r91, r92, q1, i6, c6, c1, w0, w1]
          exact ih _
        · simp only [if_neg w2] at c1
          simp only [e_Md_fits_7, e_Md_fits_8, e_Md_fits_11, e_Md_fits_14, e_Md_fits_15, e_Md_fits_18, e_Md_fits_20, e_Md_fits_21, e_Md_fits_22, e_Md_fits_25, e_Md_fits_26, e_Md_fits_27, e_Md_fits_30, e_Md_fits_32, e_Md_fits_33, e_Md_fits_36, e_Md_fits_39, e_Md_fits_40, e_Md_fits_43, e_Md_fits_44, e_Md_fits_46, e_Md_fits_47, e_Md_fits_50, e_Md_fits_52, e_Md_fits_55, e_Md_fits_56, e_Md_fits_59, e_Md_fits_61, e_Md_fits_62, e_Md_fits_63, e_Md_fits_66, e_Md_fits_68, e_Md_fits_69, e_Md_fits_70, e_Md_fits_73, e_Md_fits_74, e_Md_fits_77, e_Md_fits_78, e_Md_fits_81, e_Md_fits_82, e_Md_fits_85, e_Md_fits_86, e_Md_fits_87, e_Md_fits_90, m_get, m_put, m_ia, m_is, m_la, m_ls, fl_sf, fl_sa, fl_sl, fl_sq, ar_sf, ar_sa, ar_sl, ar_sq, lr_sf, lr_sa, lr_sl, lr_sq, qr_sf, qr_sa, qr_sl, qr_sq, sf_1, sf_2, sa_1, sa_2, sl_1, sl_2, Option.isSome_some, Option.map_some, Option.map_none, Option.toList_some, Option.toList_none, List.nil_append, List.cons_append, List.singleton_append, if_true, if_false, ↓reduceIte, and_self, and_true, true_and, and_false, false_and, not_true, not_false_iff, reduceCtorEq, Nat.reduceEqDiff, Nat.reduceAdd, Nat.reduceSub, Nat.reduceMul, Nat.reduceLT, Nat.reduceLeDiff, Nat.reduceBEq, eq_self, ne_eq, Nat.add_eq_zero_iff, Nat.add_left_cancel_iff, Nat.add_right_cancel_iff, Nat.left_eq_add, Nat.add_eq_left, Bool.true_or, Bool.or_true, Bool.or_self, or_self, or_true, true_or, or_false, false_or, decide_true, decide_false, i_10, i_01, f32, f33, f34, r91, r92, q1, i6, c6, c1, w0, w1]
          exact ih _
      · simp only [e_Md_fits_7, e_Md_fits_8, e_Md_fits_11, e_Md_fits_14, e_Md_fits_15, e_Md_fits_18, e_Md_fits_20, e_Md_fits_21, e_Md_fits_22, e_Md_fits_25, e_Md_fits_26, e_Md_fits_27, e_Md_fits_30, e_Md_fits_32, e_Md_fits_33, e_Md_fits_36, e_Md_fits_39, e_Md_fits_40, e_Md_fits_43, e_Md_fits_44, e_Md_fits_46, e_Md_fits_47, e_Md_fits_50, e_Md_fits_52, e_Md_fits_55, e_Md_fits_56, e_Md_fits_59, e_Md_fits_61, e_Md_fits_62, e_Md_fits_63, e_Md_fits_66, e_Md_fits_68, e_Md_fits_69, e_Md_fits_70, e_Md_fits_73, e_Md_fits_74, e_Md_fits_77, e_Md_fits_78, e_Md_fits_81, e_Md_fits_82, e_Md_fits_85, e_Md_fits_86, e_Md_fits_87, e_Md_fits_90, m_get, m_put, m_ia, m_is, m_la, m_ls, fl_sf, fl_sa, fl_sl, fl_sq, ar_sf, ar_sa, ar_sl, ar_sq, lr_sf, lr_sa, lr_sl, lr_sq, qr_sf, qr_sa, qr_sl, qr_sq, sf_1, sf_2, sa_1, sa_2, sl_1, sl_2, Option.isSome_some, Option.map_some, Option.map_none, Option.toList_some, Option.toList_none, List.nil_append, List.cons_append, List.singleton_append, if_true, if_false, ↓reduceIte, and_self, and_true, true_and, and_false, false_and, not_true, not_false_iff, reduceCtorEq, Nat.reduceEqDiff, Nat.reduceAdd, Nat.reduceSub, Nat.reduceMul, Nat.reduceLT, Nat.reduceLeDiff, Nat.reduceBEq, eq_self, ne_eq, Nat.add_eq_zero_iff, Nat.add_left_cancel_iff, Nat.add_right_cancel_iff, Nat.left_eq_add, Nat.add_eq_left, Bool.true_or, Bool.or_true, Bool.or_self, or_self, or_true, true_or, or_false, false_or, decide_true, decide_false, i_10, i_01, f32, f33, f34, r91, r92, q1, i6, c6, w0, w1]
        exact ih _
    · rw [if_neg w0] at ih
      by_cases w1 : σ 91 i = at'
      · by_cases w2 : 0 ≤ σ 92 i ∧ σ 92 i < nI p
        · simp only [if_pos w2] at c1
          rw [if_pos ⟨w1, w2⟩] at ih
          by_cases w3 : σ 92 i = x
          · rw [if_pos w3] at ih
            by_cases w4 : σ 93 i = 1
            · rw [if_pos w4] at ih
              subst w3
              simp only [e_Md_fits_7, e_Md_fits_8, e_Md_fits_11, e_Md_fits_14, e_Md_fits_15, e_Md_fits_18, e_Md_fits_20, e_Md_fits_21, e_Md_fits_22, e_Md_fits_25, e_Md_fits_26, e_Md_fits_27, e_Md_fits_30, e_Md_fits_32, e_Md_fits_33, e_Md_fits_36, e_Md_fits_39, e_Md_fits_40, e_Md_fits_43, e_Md_fits_44, e_Md_fits_46, e_Md_fits_47, e_Md_fits_50, e_Md_fits_52, e_Md_fits_55, e_Md_fits_56, e_Md_fits_59, e_Md_fits_61, e_Md_fits_62, e_Md_fits_63, e_Md_fits_66, e_Md_fits_68, e_Md_fits_69, e_Md_fits_70, e_Md_fits_73, e_Md_fits_74, e_Md_fits_77, e_Md_fits_78, e_Md_fits_81, e_Md_fits_82, e_Md_fits_85, e_Md_fits_86, e_Md_fits_87, e_Md_fits_90, m_get, m_put, m_ia, m_is, m_la, m_ls, fl_sf, fl_sa, fl_sl, fl_sq, ar_sf, ar_sa, ar_sl, ar_sq, lr_sf, lr_sa, lr_sl, lr_sq, qr_sf, qr_sa, qr_sl, qr_sq, sf_1, sf_2, sa_1, sa_2, sl_1, sl_2, Option.isSome_some, Option.map_some, Option.map_none, Option.toList_some, Option.toList_none, List.nil_append, List.cons_append, List.singleton_append, if_true, if_false, ↓reduceIte, and_self, and_true, true_and, and_false, false_and, not_true, not_false_iff, reduceCtorEq, Nat.reduceEqDiff, Nat.reduceAdd, Nat.reduceSub, Nat.reduceMul, Nat.reduceLT, Nat.reduceLeDiff, Nat.reduceBEq, eq_self, ne_eq, Nat.add_eq_zero_iff, Nat.add_left_cancel_iff, Nat.add_right_cancel_iff, Nat.left_eq_add, Nat.add_eq_left, Bool.true_or, Bool.or_true, Bool.or_self, or_self, or_true, true_or, or_false, false_or, decide_true, decide_false, i_10, i_01, f32, f33, f34, f35, r91, r92, r93, q1, i6, c6, c1, w0, w1, w4]
              exact ih _
            · rw [if_neg w4] at ih
              subst w3
              simp only [e_Md_fits_7, e_Md_fits_8, e_Md_fits_11, e_Md_fits_14, e_Md_fits_15, e_Md_fits_18, e_Md_fits_20, e_Md_fits_21, e_Md_fits_22, e_Md_fits_25, e_Md_fits_26, e_Md_fits_27, e_Md_fits_30, e_Md_fits_32, e_Md_fits_33, e_Md_fits_36, e_Md_fits_39, e_Md_fits_40, e_Md_fits_43, e_Md_fits_44, e_Md_fits_46, e_Md_fits_47, e_Md_fits_50, e_Md_fits_52, e_Md_fits_55, e_Md_fits_56, e_Md_fits_59, e_Md_fits_61, e_Md_fits_62, e_Md_fits_63, e_Md_fits_66, e_Md_fits_68, e_Md_fits_69, e_Md_fits_70, e_Md_fits_73, e_Md_fits_74, e_Md_fits_77, e_Md_fits_78, e_Md_fits_81, e_Md_fits_82, e_Md_fits_85, e_Md_fits_86, e_Md_fits_87, e_Md_fits_90, m_get, m_put, m_ia, m_is, m_la, m_ls, fl_sf, fl_sa, fl_sl, fl_sq, ar_sf, ar_sa, ar_sl, ar_sq, lr_sf, lr_sa, lr_sl, lr_sq, qr_sf, qr_sa, qr_sl, qr_sq, sf_1, sf_2, sa_1, sa_2, sl_1, sl_2, Option.isSome_some, Option.map_some, Option.map_none, Option.toList_some, Option.toList_none, List.nil_append, List.cons_append, List.singleton_append, if_true, if_false, ↓reduceIte, and_self, and_true, true_and, and_false, false_and, not_true, not_false_iff, reduceCtorEq, Nat.reduceEqDiff, Nat.reduceAdd, Nat.reduceSub, Nat.reduceMul, Nat.reduceLT, Nat.reduceLeDiff, Nat.reduceBEq, eq_self, ne_eq, Nat.add_eq_zero_iff, Nat.add_left_cancel_iff, Nat.add_right_cancel_iff, Nat.left_eq_add, Nat.add_eq_left, Bool.true_or, Bool.or_true, Bool.or_self, or_self, or_true, true_or, or_false, false_or, decide_true, decide_false, i_10, i_01, f32, f33, f34, f35, r91, r92, r93, q1, i6, c6, c1, w0, w1, w4]
              exact ih _
          · rw [if_neg w3] at ih
            by_cases w4 : σ 93 i = 0
            · rw [if_pos w4] at ih
              simp only [e_Md_fits_7, e_Md_fits_8, e_Md_fits_11, e_Md_fits_14, e_Md_fits_15, e_Md_fits_18, e_Md_fits_20, e_Md_fits_21, e_Md_fits_22, e_Md_fits_25, e_Md_fits_26, e_Md_fits_27, e_Md_fits_30, e_Md_fits_32, e_Md_fits_33, e_Md_fits_36, e_Md_fits_39, e_Md_fits_40, e_Md_fits_43, e_Md_fits_44, e_Md_fits_46, e_Md_fits_47, e_Md_fits_50, e_Md_fits_52, e_Md_fits_55, e_Md_fits_56, e_Md_fits_59, e_Md_fits_61, e_Md_fits_62, e_Md_fits_63, e_Md_fits_66, e_Md_fits_68, e_Md_fits_69, e_Md_fits_70, e_Md_fits_73, e_Md_fits_74, e_Md_fits_77, e_Md_fits_78, e_Md_fits_81, e_Md_fits_82, e_Md_fits_85, e_Md_fits_86, e_Md_fits_87, e_Md_fits_90, m_get, m_put, m_ia, m_is, m_la, m_ls, fl_sf, fl_sa, fl_sl, fl_sq, ar_sf, ar_sa, ar_sl, ar_sq, lr_sf, lr_sa, lr_sl, lr_sq, qr_sf, qr_sa, qr_sl, qr_sq, sf_1, sf_2, sa_1, sa_2, sl_1, sl_2, Option.isSome_some, Option.map_some, Option.map_none, Option.toList_some, Option.toList_none, List.nil_append, List.cons_append, List.singleton_append, if_true, if_false, ↓reduceIte, and_self, and_true, true_and, and_false, false_and, not_true, not_false_iff, reduceCtorEq, Nat.reduceEqDiff, Nat.reduceAdd, Nat.reduceSub, Nat.reduceMul, Nat.reduceLT, Nat.reduceLeDiff, Nat.reduceBEq, eq_self, ne_eq, Nat.add_eq_zero_iff, Nat.add_left_cancel_iff, Nat.add_right_cancel_iff, Nat.left_eq_add, Nat.add_eq_left, Bool.true_or, Bool.or_true, Bool.or_self, or_self, or_true, true_or, or_false, false_or, decide_true, decide_false, i_10, i_01, f32, f33, f34, f35, r91, r92, r93, q1, i6, c6, c1, w0, w1, w3, w4]
              exact ih _
            · rw [if_neg w4] at ih
              simp only [e_Md_fits_7, e_Md_fits_8, e_Md_fits_11, e_Md_fits_14, e_Md_fits_15, e_Md_fits_18, e_Md_fits_20, e_Md_fits_21, e_Md_fits_22, e_Md_fits_25, e_Md_fits_26, e_Md_fits_27, e_Md_fits_30, e_Md_fits_32, e_Md_fits_33, e_Md_fits_36, e_Md_fits_39, e_Md_fits_40, e_Md_fits_43, e_Md_fits_44, e_Md_fits_46, e_Md_fits_47, e_Md_fits_50, e_Md_fits_52, e_Md_fits_55, e_Md_fits_56, e_Md_fits_59, e_Md_fits_61, e_Md_fits_62, e_Md_fits_63, e_Md_fits_66, e_Md_fits_68, e_Md_fits_69, e_Md_fits_70, e_Md_fits_73, e_Md_fits_74, e_Md_fits_77, e_Md_fits_78, e_Md_fits_81, e_Md_fits_82, e_Md_fits_85, e_Md_fits_86, e_Md_fits_87, e_Md_fits_90, m_get, m_put, m_ia, m_is, m_la, m_ls, fl_sf, fl_sa, fl_sl, fl_sq, ar_sf, ar_sa, ar_sl, ar_sq, lr_sf, lr_sa, lr_sl, lr_sq, qr_sf, qr_sa, qr_sl, qr_sq, sf_1, sf_2, sa_1, sa_2, sl_1, sl_2, Option.isSome_some, Option.map_some, Option.map_none, Option.toList_some, Option.toList_none, List.nil_append, List.cons_append, List.singleton_append, if_true, if_false, ↓reduceIte, and_self, and_true, true_and, and_false, false_and, not_true, not_false_iff, reduceCtorEq, Nat.reduceEqDiff, Nat.reduceAdd, Nat.reduceSub, Nat.reduceMul, Nat.reduceLT, Nat.reduceLeDiff, Nat.reduceBEq, eq_self, ne_eq, Nat.add_eq_zero_iff, Nat.add_left_cancel_iff, Nat.add_right_cancel_iff, Nat.left_eq_add, Nat.add_eq_left, Bool.true_or, Bool.or_true, Bool.or_self, or_self, or_true, true_or, or_false, false_or, decide_true, decide_false, i_10, i_01, f32, f33, f34, f35, r91, r92, r93, q1, i6, c6, c1, w0, w1, w3, w4]
              exact ih _
        · simp only [if_neg w2] at c1
          rw [if_neg (fun w => w2 w.2)] at ih
          simp only [e_Md_fits_7, e_Md_fits_8, e_Md_fits_11, e_Md_fits_14, e_Md_fits_15, e_Md_fits_18, e_Md_fits_20, e_Md_fits_21, e_Md_fits_22, e_Md_fits_25, e_Md_fits_26, e_Md_fits_27, e_Md_fits_30, e_Md_fits_32, e_Md_fits_33, e_Md_fits_36, e_Md_fits_39, e_Md_fits_40, e_Md_fits_43, e_Md_fits_44, e_Md_fits_46, e_Md_fits_47, e_Md_fits_50, e_Md_fits_52, e_Md_fits_55, e_Md_fits_56, e_Md_fits_59, e_Md_fits_61, e_Md_fits_62, e_Md_fits_63, e_Md_fits_66, e_Md_fits_68, e_Md_fits_69, e_Md_fits_70, e_Md_fits_73, e_Md_fits_74, e_Md_fits_77, e_Md_fits_78, e_Md_fits_81, e_Md_fits_82, e_Md_fits_85, e_Md_fits_86, e_Md_fits_87, e_Md_fits_90, m_get, m_put, m_ia, m_is, m_la, m_ls, fl_sf, fl_sa, fl_sl, fl_sq, ar_sf, ar_sa, ar_sl, ar_sq, lr_sf, lr_sa, lr_sl, lr_sq, qr_sf, qr_sa, qr_sl, qr_sq, sf_1, sf_2, sa_1, sa_2, sl_1, sl_2, Option.isSome_some, Option.map_some, Option.map_none, Option.toList_some, Option.toList_none, List.nil_append, List.cons_append, List.singleton_append, if_true, if_false, ↓reduceIte, and_self, and_true, true_and, and_false, false_and, not_true, not_false_iff, reduceCtorEq, Nat.reduceEqDiff, Nat.reduceAdd, Nat.reduceSub, Nat.reduceMul, Nat.reduceLT, Nat.reduceLeDiff, Nat.reduceBEq, eq_self, ne_eq, Nat.add_eq_zero_iff, Nat.add_left_cancel_iff, Nat.add_right_cancel_iff, Nat.left_eq_add, Nat.add_eq_left, Bool.true_or, Bool.or_true, Bool.or_self, or_self, or_true, true_or, or_false, false_or, decide_true, decide_false, i_10, i_01, f32, f33, f34, r91, r92, q1, i6, c6, c1, w0, w1]
          exact ih _
      · rw [if_neg (fun w => w1 w.1)] at ih
        simp only [e_Md_fits_7, e_Md_fits_8, e_Md_fits_11, e_Md_fits_14, e_Md_fits_15, e_Md_fits_18, e_Md_fits_20, e_Md_fits_21, e_Md_fits_22, e_Md_fits_25, e_Md_fits_26, e_Md_fits_27, e_Md_fits_30, e_Md_fits_32, e_Md_fits_33, e_Md_fits_36, e_Md_fits_39, e_Md_fits_40, e_Md_fits_43, e_Md_fits_44, e_Md_fits_46, e_Md_fits_47, e_Md_fits_50, e_Md_fits_52, e_Md_fits_55, e_Md_fits_56, e_Md_fits_59, e_Md_fits_61, e_Md_fits_62, e_Md_fits_63, e_Md_fits_66, e_Md_fits_68, e_Md_fits_69, e_Md_fits_70, e_Md_fits_73, e_Md_fits_74, e_Md_fits_77, e_Md_fits_78, e_Md_fits_81, e_Md_fits_82, e_Md_fits_85, e_Md_fits_86, e_Md_fits_87, e_Md_fits_90, m_get, m_put, m_ia, m_is, m_la, m_ls, fl_sf, fl_sa, fl_sl, fl_sq, ar_sf, ar_sa, ar_sl, ar_sq, lr_sf, lr_sa, lr_sl, lr_sq, qr_sf, qr_sa, qr_sl, qr_sq, sf_1, sf_2, sa_1, sa_2, sl_1, sl_2, Option.isSome_some, Option.map_some, Option.map_none, Option.toList_some, Option.toList_none, List.nil_append, List.cons_append, List.singleton_append, if_true, if_false, ↓reduceIte, and_self, and_true, true_and, and_false, false_and, not_true, not_false_iff, reduceCtorEq, Nat.reduceEqDiff, Nat.reduceAdd, Nat.reduceSub, Nat.reduceMul, Nat.reduceLT, Nat.reduceLeDiff, Nat.reduceBEq, eq_self, ne_eq, Nat.add_eq_zero_iff, Nat.add_left_cancel_iff, Nat.add_right_cancel_iff, Nat.left_eq_add, Nat.add_eq_left, Bool.true_or, Bool.or_true, Bool.or_self, or_self, or_true, true_or, or_false, false_or, decide_true, decide_false, i_10, i_01, f32, f33, f34, r91, r92, q1, i6, c6, w0, w1]
        exact ih _
/-- the bits of the one are the answers of the other -/
theorem ftg_fiv {pl wh hd pl' wh' hd' : Nat → Int32} {at' : Int32} (p5 : p ≤ 5) {pn : Nat} (hpn : pn < p) : ∀ z, (∀ i, i < z → pl i = pl' i ∧ wh i = wh' i ∧ hd i = hd' i ∧ (hd' i = 0 ∨ hd' i = 1) ∧ ∃ w, w < 5 ∧ wh' i = nI w) → bt (ftg pl wh hd p at' z) pn = decide (¬ fiv pl' wh' hd' p at' (nI pn) z = 0)
  | 0, _ => by
    rw [ftg, fiv, b_mask p p5 pn (by omega), decide_eq_true hpn]
    rfl
  | k + 1, hh => by
    have ih := ftg_fiv (pl := pl) (wh := wh) (hd := hd) (at' := at') p5 hpn k (fun i hi => hh i (by omega))
    obtain ⟨e1, e2, e3, e4, w, hw, ew⟩ := hh k (by omega)
    rw [ftg, fiv, e1, e2, e3]
    by_cases c : pl' k = at' ∧ (0 ≤ wh' k ∧ wh' k < nI p)
    · rw [if_pos c, if_pos c, ew, b_and, ih]
      have wi : nI w = nI pn ↔ w = pn := nI_eq (by omega) (by omega)
      by_cases f0 : fiv pl' wh' hd' p at' (nI pn) k = 0
      · rw [if_pos f0, decide_eq_false (fun y => y f0)]
        rfl
      · rw [if_neg f0, decide_eq_true f0, Bool.true_and]
        rcases e4 with h0 | h1
        · rw [if_pos h0, h0, b_xor, b_m1 pn (by omega), b_pw (by omega) (by omega)]
          by_cases wp : pn = w
          · rw [if_pos (wi.mpr wp.symm)]
            simp [wp]
          · rw [if_neg (fun y => wp (wi.mp y).symm)]
            simp [wp]
        · have h10 : ¬ hd' k = 0 := by rw [h1]; decide
          rw [if_neg h10, h1, b_pw (by omega) (by omega)]
          by_cases wp : pn = w
          · rw [if_pos (wi.mpr wp.symm)]
            simp [wp]
          · rw [if_neg (fun y => wp (wi.mp y).symm)]
            simp [wp]
    · rw [if_neg c, if_neg c, ih]
      by_cases f0 : fiv pl' wh' hd' p at' (nI pn) k = 0
      · rw [if_pos f0]
        simp [f0]
      · rw [if_neg f0]
        simp [f0]
end SI2
