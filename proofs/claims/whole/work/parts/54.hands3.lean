section SI3
variable {h : xH} {σ τ : Nat → Nat → Int32} {v s : Nat} {q : Nat → Nat} {e1 e2 : Int64} {p t n z : Nat}
theorem fiv_01 (pl wh hd : Nat → Int32) (at' x : Int32) (i : Nat) : fiv pl wh hd p at' x i = 0 ∨ fiv pl wh hd p at' x i = 1 := by
  cases i with
  | zero => exact Or.inr rfl
  | succ i =>
    rw [fiv]
    repeat' split
    all_goals first | exact Or.inl rfl | exact Or.inr rfl
theorem cM_rbSum (H : Hp h σ τ v s q e1 e2) {x1 x2 x3 : Int32} {l6 : Option Value} : xR none 3 M_Md_rowsBut 216 [some (.ref 75), some (.int x1), some (.int x2), some (.int x3), some (.int 0), some (.int 0), l6] [] h = some (some (.int (sm (σ 94) 5)), h) := by
  have f36 := hR H 75 9 36 94 rfl rfl
  have r94 := hA H 94 0 5 rfl rfl
  have key := loop_dn (t := 5) (P := fun i => xR none 3 M_Md_rowsBut 216 [some (.ref 75), some (.int x1), some (.int x2), some (.int x3), some (.int (sm (σ 94) i)), some (.int (nI i)), l6] [] h = some (some (.int (sm (σ 94) 5)), h)) ?_ ?_ 0 (Nat.zero_le _)
  · rw [nI_0] at key
    exact key
  · have y : (5 : Int32) ≤ nI 5 := by decide
    simp only [e_Md_rowsBut_216, e_Md_rowsBut_218, e_Md_rowsBut_219, e_Md_rowsBut_240, e_Md_rowsBut_242, Option.isSome_some, Option.map_some, Option.map_none, Option.toList_some, Option.toList_none, List.nil_append, List.cons_append, List.singleton_append, if_true, if_false, ↓reduceIte, and_self, and_true, true_and, and_false, false_and, not_true, not_false_iff, reduceCtorEq, Nat.reduceEqDiff, Nat.reduceAdd, Nat.reduceSub, Nat.reduceMul, Nat.reduceLT, Nat.reduceLeDiff, Nat.reduceBEq, eq_self, ne_eq, Nat.add_eq_zero_iff, Nat.add_left_cancel_iff, Nat.add_right_cancel_iff, Nat.left_eq_add, Nat.add_eq_left, Bool.true_or, Bool.or_true, Bool.or_self, or_self, or_true, true_or, or_false, false_or, decide_true, decide_false, i_10, i_01, y]
  · intro i hi ih
    have q1 : ¬ (5 : Int32) ≤ nI i := nI_ge (b := 5) hi (by omega)
    have i5 := xin_nI (show i < 5 by omega) (by decide)
    have c5 := nI_clamp (show i < 2 ^ 31 by omega)
    rw [← nI_1, sm] at ih
    rw [e_Md_rowsBut_216]
    simp only [e_Md_rowsBut_218, e_Md_rowsBut_219, e_Md_rowsBut_222, e_Md_rowsBut_224, e_Md_rowsBut_225, e_Md_rowsBut_228, e_Md_rowsBut_230, e_Md_rowsBut_231, e_Md_rowsBut_232, e_Md_rowsBut_234, e_Md_rowsBut_237, m_get, m_put, m_ia, m_is, m_la, m_ls, fl_sf, fl_sa, fl_sl, fl_sq, ar_sf, ar_sa, ar_sl, ar_sq, lr_sf, lr_sa, lr_sl, lr_sq, qr_sf, qr_sa, qr_sl, qr_sq, sf_1, sf_2, sa_1, sa_2, sl_1, sl_2, Option.isSome_some, Option.map_some, Option.map_none, Option.toList_some, Option.toList_none, List.nil_append, List.cons_append, List.singleton_append, if_true, if_false, ↓reduceIte, and_self, and_true, true_and, and_false, false_and, not_true, not_false_iff, reduceCtorEq, Nat.reduceEqDiff, Nat.reduceAdd, Nat.reduceSub, Nat.reduceMul, Nat.reduceLT, Nat.reduceLeDiff, Nat.reduceBEq, eq_self, ne_eq, Nat.add_eq_zero_iff, Nat.add_left_cancel_iff, Nat.add_right_cancel_iff, Nat.left_eq_add, Nat.add_eq_left, Bool.true_or, Bool.or_true, Bool.or_self, or_self, or_true, true_or, or_false, false_or, decide_true, decide_false, i_10, i_01, f36, r94, q1, i5, c5]
    exact ih
theorem sm_ext (f : Nat → Int32) {p : Nat} : ∀ k, (∀ i, p ≤ i → f i = 0) → sm f (p + k) = sm f p
  | 0, _ => rfl
  | k + 1, hh => by
    rw [← Nat.add_assoc, sm, sm_ext f k hh, hh _ (by omega), Int32.add_zero]
/-- the copy of then into ways -/
theorem cM_rbCopy (H : Hp h σ τ v s q e1 e2) {x1 x2 x3 x4 : Int32} {l6 : Option Value} : xR none 3 M_Md_rowsBut 178 [some (.ref 75), some (.int x1), some (.int x2), some (.int x3), some (.int x4), some (.int 0), l6] [] h = xR none 3 M_Md_rowsBut 204 [some (.ref 75), some (.int x1), some (.int x2), some (.int x3), some (.int x4), some (.int (nI 5)), l6] [] (sa h 94 0 (cpI (σ 94) (σ 95) 0 5)) := by
  have f36 := hR H 75 9 36 94 rfl rfl
  have f37 := hR H 75 9 37 95 rfl rfl
  have r94 := hA H 94 0 5 rfl rfl
  have r95 := hA H 95 0 5 rfl rfl
  have key := loop_dn (t := 5) (P := fun i => xR none 3 M_Md_rowsBut 178 [some (.ref 75), some (.int x1), some (.int x2), some (.int x3), some (.int x4), some (.int (nI i)), l6] [] (sa h 94 0 (cpI (σ 94) (σ 95) 0 i)) = xR none 3 M_Md_rowsBut 204 [some (.ref 75), some (.int x1), some (.int x2), some (.int x3), some (.int x4), some (.int (nI 5)), l6] [] (sa h 94 0 (cpI (σ 94) (σ 95) 0 5))) ?_ ?_ 0 (Nat.zero_le _)
  · rw [nI_0, cpI_0, sa_self r94] at key
    exact key
  · have y : (5 : Int32) ≤ nI 5 := by decide
    simp only [e_Md_rowsBut_178, e_Md_rowsBut_180, e_Md_rowsBut_181, Option.isSome_some, Option.map_some, Option.map_none, Option.toList_some, Option.toList_none, List.nil_append, List.cons_append, List.singleton_append, if_true, if_false, ↓reduceIte, and_self, and_true, true_and, and_false, false_and, not_true, not_false_iff, reduceCtorEq, Nat.reduceEqDiff, Nat.reduceAdd, Nat.reduceSub, Nat.reduceMul, Nat.reduceLT, Nat.reduceLeDiff, Nat.reduceBEq, eq_self, ne_eq, Nat.add_eq_zero_iff, Nat.add_left_cancel_iff, Nat.add_right_cancel_iff, Nat.left_eq_add, Nat.add_eq_left, Bool.true_or, Bool.or_true, Bool.or_self, or_self, or_true, true_or, or_false, false_or, decide_true, decide_false, i_10, i_01, y]
  · intro i hi ih
    have q1 : ¬ (5 : Int32) ≤ nI i := nI_ge (b := 5) hi (by omega)
    have i5 := xin_nI (show i < 5 by omega) (by decide)
    have c5 := nI_clamp (show i < 2 ^ 31 by omega)
    have zz := cpI_s (σ 94) (σ 95) 0 i
    rw [Nat.zero_add] at zz
    rw [← nI_1, ← zz, ← sa_sa h 94 0 (cpI (σ 94) (σ 95) 0 i)] at ih
    rw [e_Md_rowsBut_178]
    simp only [e_Md_rowsBut_180, e_Md_rowsBut_181, e_Md_rowsBut_184, e_Md_rowsBut_185, e_Md_rowsBut_188, e_Md_rowsBut_190, e_Md_rowsBut_191, e_Md_rowsBut_194, e_Md_rowsBut_196, e_Md_rowsBut_197, e_Md_rowsBut_198, e_Md_rowsBut_201, m_get, m_put, m_ia, m_is, m_la, m_ls, fl_sf, fl_sa, fl_sl, fl_sq, ar_sf, ar_sa, ar_sl, ar_sq, lr_sf, lr_sa, lr_sl, lr_sq, qr_sf, qr_sa, qr_sl, qr_sq, sf_1, sf_2, sa_1, sa_2, sl_1, sl_2, Option.isSome_some, Option.map_some, Option.map_none, Option.toList_some, Option.toList_none, List.nil_append, List.cons_append, List.singleton_append, if_true, if_false, ↓reduceIte, and_self, and_true, true_and, and_false, false_and, not_true, not_false_iff, reduceCtorEq, Nat.reduceEqDiff, Nat.reduceAdd, Nat.reduceSub, Nat.reduceMul, Nat.reduceLT, Nat.reduceLeDiff, Nat.reduceBEq, eq_self, ne_eq, Nat.add_eq_zero_iff, Nat.add_left_cancel_iff, Nat.add_right_cancel_iff, Nat.left_eq_add, Nat.add_eq_left, Bool.true_or, Bool.or_true, Bool.or_self, or_self, or_true, true_or, or_false, false_or, decide_true, decide_false, i_10, i_01, f36, f37, r94, r95, q1, i5, c5]
    exact ih
/-- how many come to one -/
theorem cM_rbIn (H : Hp h σ τ v s q e1 e2) (p5 : p ≤ 5) (hp : τ 75 13 = nI p) (z6 : z ≤ 6) (hz : τ 75 32 = nI z) {k pn : Nat} (hpn : pn < 5) {x1 x2 but : Int32} {l6 : Option Value} : ∃ l6', xR none 3 M_Md_rowsBut 85 [some (.ref 75), some (.int x1), some (.int x2), some (.int but), some (.int (nI k)), some (.int (nI pn)), l6] [] h = xR none 3 M_Md_rowsBut 79 [some (.ref 75), some (.int x1), some (.int x2), some (.int but), some (.int (nI k)), some (.int (nI (pn + 1))), l6'] [] (sa h 95 0 (upd (σ 95) pn (if pn < p ∧ (fun a pn => decide (¬ nI pn = but) && decide (¬ fiv (σ 91) (σ 92) (σ 93) p (nI a) (nI pn) z = 0)) k pn = true then sK (fun o pn => bt (σ 80 o) pn) (σ 94) pn p else 0))) := by
  have f13 := hI H 75 9 13 rfl rfl
  rw [hp] at f13
  have f36 := hR H 75 9 36 94 rfl rfl
  have f37 := hR H 75 9 37 95 rfl rfl
  have r94 := hA H 94 0 5 rfl rfl
  have r95 := hA H 95 0 5 rfl rfl
  have i5 := xin_nI hpn (by decide)
  have c5 := nI_clamp (show pn < 2 ^ 31 by omega)
  refine ⟨some (.int (nI p)), ?_⟩
  have key := loop_dn (t := p) (P := fun o => xR none 3 M_Md_rowsBut 96 [some (.ref 75), some (.int x1), some (.int x2), some (.int but), some (.int (nI k)), some (.int (nI pn)), some (.int (nI o))] [] (sa h 95 0 (upd (σ 95) pn (if pn < p ∧ (fun a pn => decide (¬ nI pn = but) && decide (¬ fiv (σ 91) (σ 92) (σ 93) p (nI a) (nI pn) z = 0)) k pn = true then sK (fun o pn => bt (σ 80 o) pn) (σ 94) pn o else 0))) = xR none 3 M_Md_rowsBut 79 [some (.ref 75), some (.int x1), some (.int x2), some (.int but), some (.int (nI k)), some (.int (nI (pn + 1))), some (.int (nI p))] [] (sa h 95 0 (upd (σ 95) pn (if pn < p ∧ (fun a pn => decide (¬ nI pn = but) && decide (¬ fiv (σ 91) (σ 92) (σ 93) p (nI a) (nI pn) z = 0)) k pn = true then sK (fun o pn => bt (σ 80 o) pn) (σ 94) pn p else 0)))) ?_ ?_ 0 (Nat.zero_le _)
  · rw [nI_0, sK, ite_self] at key
    simp only [e_Md_rowsBut_85, e_Md_rowsBut_86, e_Md_rowsBut_89, e_Md_rowsBut_91, e_Md_rowsBut_92, e_Md_rowsBut_93, e_Md_rowsBut_94, m_get, m_put, m_ia, m_is, m_la, m_ls, fl_sf, fl_sa, fl_sl, fl_sq, ar_sf, ar_sa, ar_sl, ar_sq, lr_sf, lr_sa, lr_sl, lr_sq, qr_sf, qr_sa, qr_sl, qr_sq, sf_1, sf_2, sa_1, sa_2, sl_1, sl_2, Option.isSome_some, Option.map_some, Option.map_none, Option.toList_some, Option.toList_none, List.nil_append, List.cons_append, List.singleton_append, if_true, if_false, ↓reduceIte, and_self, and_true, true_and, and_false, false_and, not_true, not_false_iff, reduceCtorEq, Nat.reduceEqDiff, Nat.reduceAdd, Nat.reduceSub, Nat.reduceMul, Nat.reduceLT, Nat.reduceLeDiff, Nat.reduceBEq, eq_self, ne_eq, Nat.add_eq_zero_iff, Nat.add_left_cancel_iff, Nat.add_right_cancel_iff, Nat.left_eq_add, Nat.add_eq_left, Bool.true_or, Bool.or_true, Bool.or_self, or_self, or_true, true_or, or_false, false_or, decide_true, decide_false, i_10, i_01, f37, r95, i5, c5]
    exact key
  · simp only [e_Md_rowsBut_96, e_Md_rowsBut_98, e_Md_rowsBut_99, e_Md_rowsBut_102, e_Md_rowsBut_169, e_Md_rowsBut_172, m_get, m_put, m_ia, m_is, m_la, m_ls, fl_sf, fl_sa, fl_sl, fl_sq, ar_sf, ar_sa, ar_sl, ar_sq, lr_sf, lr_sa, lr_sl, lr_sq, qr_sf, qr_sa, qr_sl, qr_sq, sf_1, sf_2, sa_1, sa_2, sl_1, sl_2, Option.isSome_some, Option.map_some, Option.map_none, Option.toList_some, Option.toList_none, List.nil_append, List.cons_append, List.singleton_append, if_true, if_false, ↓reduceIte, and_self, and_true, true_and, and_false, false_and, not_true, not_false_iff, reduceCtorEq, Nat.reduceEqDiff, Nat.reduceAdd, Nat.reduceSub, Nat.reduceMul, Nat.reduceLT, Nat.reduceLeDiff, Nat.reduceBEq, eq_self, ne_eq, Nat.add_eq_zero_iff, Nat.add_left_cancel_iff, Nat.add_right_cancel_iff, Nat.left_eq_add, Nat.add_eq_left, Bool.true_or, Bool.or_true, Bool.or_self, or_self, or_true, true_or, or_false, false_or, decide_true, decide_false, i_10, i_01, f13, Int32.le_refl, nI_1]
  · intro o ho ih
    have q1 : ¬ nI p ≤ nI o := nI_ge ho (by omega)
    have io := xin_nI (show o < 5 by omega) (by decide)
    have co := nI_clamp (show o < 2 ^ 31 by omega)
    have q2 : (nI p ≤ nI pn) ↔ p ≤ pn := nI_leI (by omega) (by omega)
    generalize hG : (if pn < p ∧ (fun a pn => decide (¬ nI pn = but) && decide (¬ fiv (σ 91) (σ 92) (σ 93) p (nI a) (nI pn) z = 0)) k pn = true then sK (fun o pn => bt (σ 80 o) pn) (σ 94) pn o else 0) = G
    have Hi := Hp_sa (t := 0) (n := 5) H (a := 95) rfl rfl (upd (σ 95) pn G)
    have ck := call_v (lv := 3) (cM_doKnow Hi (i := o) (by omega) (nI pn)) (Hp_75 Hi) (by decide) (Nat.le_of_ble_eq_true rfl)
    have cf := call_v (lv := 3) (cM_fits Hi p5 hp z6 hz (nI k) (nI pn)) (Hp_75 Hi) (by decide) (Nat.le_of_ble_eq_true rfl)
    rw [show us σ 95 (upd (σ 95) pn G) 80 = σ 80 from rfl] at ck
    rw [show us σ 95 (upd (σ 95) pn G) 91 = σ 91 from rfl, show us σ 95 (upd (σ 95) pn G) 92 = σ 92 from rfl, show us σ 95 (upd (σ 95) pn G) 93 = σ 93 from rfl] at cf
    have bz := b_z (x := σ 80 o) (show pn < 32 by omega)
    have uu : upd (σ 95) pn G pn = G := up_eq
    have done : ∀ y : Int32, (if pn < p ∧ (fun a pn => decide (¬ nI pn = but) && decide (¬ fiv (σ 91) (σ 92) (σ 93) p (nI a) (nI pn) z = 0)) k pn = true then sK (fun o pn => bt (σ 80 o) pn) (σ 94) pn (o + 1) else 0) = G + y → xR none 3 M_Md_rowsBut 96 [some (.ref 75), some (.int x1), some (.int x2), some (.int but), some (.int (nI k)), some (.int (nI pn)), some (.int (nI o + 1))] [] (sa (sa h 95 0 (upd (σ 95) pn G)) 95 0 (upd (upd (σ 95) pn G) pn (G + y))) = xR none 3 M_Md_rowsBut 79 [some (.ref 75), some (.int x1), some (.int x2), some (.int but), some (.int (nI k)), some (.int (nI (pn + 1))), some (.int (nI p))] [] (sa h 95 0 (upd (σ 95) pn (if pn < p ∧ (fun a pn => decide (¬ nI pn = but) && decide (¬ fiv (σ 91) (σ 92) (σ 93) p (nI a) (nI pn) z = 0)) k pn = true then sK (fun o pn => bt (σ 80 o) pn) (σ 94) pn p else 0))) := fun y hy => by
      rw [sa_sa, show upd (upd (σ 95) pn G) pn (G + y) = upd (σ 95) pn (G + y) from by
        funext m
        by_cases em : m = pn
        · rw [em, up_eq, up_eq]
        · rw [up_lt em, up_lt em, up_lt em], ← hy, nI_1]
      exact ih
    rw [e_Md_rowsBut_96]
    by_cases w1 : pn < p
    · have w1' : ¬ nI p ≤ nI pn := fun y => by have := q2.mp y; omega
      by_cases w2 : nI pn = but
      · subst w2
        refine Eq.trans ?_ (done 0 (by
          rw [← hG, if_neg (by simp), if_neg (by simp)]; rfl))
        simp only [e_Md_rowsBut_98, e_Md_rowsBut_99, e_Md_rowsBut_102, e_Md_rowsBut_105, e_Md_rowsBut_106, e_Md_rowsBut_109, e_Md_rowsBut_111, e_Md_rowsBut_112, e_Md_rowsBut_113, e_Md_rowsBut_115, e_Md_rowsBut_116, e_Md_rowsBut_119, e_Md_rowsBut_122, e_Md_rowsBut_124, e_Md_rowsBut_125, e_Md_rowsBut_128, e_Md_rowsBut_129, e_Md_rowsBut_131, e_Md_rowsBut_133, e_Md_rowsBut_136, e_Md_rowsBut_139, e_Md_rowsBut_140, e_Md_rowsBut_142, e_Md_rowsBut_144, e_Md_rowsBut_147, e_Md_rowsBut_150, e_Md_rowsBut_151, e_Md_rowsBut_154, e_Md_rowsBut_156, e_Md_rowsBut_157, e_Md_rowsBut_160, e_Md_rowsBut_161, e_Md_rowsBut_162, e_Md_rowsBut_163, e_Md_rowsBut_166, m_get, m_put, m_ia, m_is, m_la, m_ls, fl_sf, fl_sa, fl_sl, fl_sq, ar_sf, ar_sa, ar_sl, ar_sq, lr_sf, lr_sa, lr_sl, lr_sq, qr_sf, qr_sa, qr_sl, qr_sq, sf_1, sf_2, sa_1, sa_2, sl_1, sl_2, Option.isSome_some, Option.map_some, Option.map_none, Option.toList_some, Option.toList_none, List.nil_append, List.cons_append, List.singleton_append, if_true, if_false, ↓reduceIte, and_self, and_true, true_and, and_false, false_and, not_true, not_false_iff, reduceCtorEq, Nat.reduceEqDiff, Nat.reduceAdd, Nat.reduceSub, Nat.reduceMul, Nat.reduceLT, Nat.reduceLeDiff, Nat.reduceBEq, eq_self, ne_eq, Nat.add_eq_zero_iff, Nat.add_left_cancel_iff, Nat.add_right_cancel_iff, Nat.left_eq_add, Nat.add_eq_left, Bool.true_or, Bool.or_true, Bool.or_self, or_self, or_true, true_or, or_false, false_or, decide_true, decide_false, i_10, i_01, f13, f37, r95, i5, c5, uu, q1, w1']
      · by_cases w3 : bt (σ 80 o) pn = true
        · have wz : ¬ ((σ 80 o >>> (nI pn &&& 31)) &&& 1 = 0) := fun y => by rw [bz.mp y] at w3; cases w3
          simp only [if_neg wz] at ck
          rcases fiv_01 (p := p) (σ 91) (σ 92) (σ 93) (nI k) (nI pn) z with w4 | w4
          · rw [w4] at cf
            refine Eq.trans ?_ (done 0 (by
              rw [← hG, if_neg (by simp [w4]), if_neg (by simp [w4])]; rfl))
            simp only [e_Md_rowsBut_98, e_Md_rowsBut_99, e_Md_rowsBut_102, e_Md_rowsBut_105, e_Md_rowsBut_106, e_Md_rowsBut_109, e_Md_rowsBut_111, e_Md_rowsBut_112, e_Md_rowsBut_113, e_Md_rowsBut_115, e_Md_rowsBut_116, e_Md_rowsBut_119, e_Md_rowsBut_122, e_Md_rowsBut_124, e_Md_rowsBut_125, e_Md_rowsBut_128, e_Md_rowsBut_129, e_Md_rowsBut_131, e_Md_rowsBut_133, e_Md_rowsBut_136, e_Md_rowsBut_139, e_Md_rowsBut_140, e_Md_rowsBut_142, e_Md_rowsBut_144, e_Md_rowsBut_147, e_Md_rowsBut_150, e_Md_rowsBut_151, e_Md_rowsBut_154, e_Md_rowsBut_156, e_Md_rowsBut_157, e_Md_rowsBut_160, e_Md_rowsBut_161, e_Md_rowsBut_162, e_Md_rowsBut_163, e_Md_rowsBut_166, m_get, m_put, m_ia, m_is, m_la, m_ls, fl_sf, fl_sa, fl_sl, fl_sq, ar_sf, ar_sa, ar_sl, ar_sq, lr_sf, lr_sa, lr_sl, lr_sq, qr_sf, qr_sa, qr_sl, qr_sq, sf_1, sf_2, sa_1, sa_2, sl_1, sl_2, Option.isSome_some, Option.map_some, Option.map_none, Option.toList_some, Option.toList_none, List.nil_append, List.cons_append, List.singleton_append, if_true, if_false, ↓reduceIte, and_self, and_true, true_and, and_false, false_and, not_true, not_false_iff, reduceCtorEq, Nat.reduceEqDiff, Nat.reduceAdd, Nat.reduceSub, Nat.reduceMul, Nat.reduceLT, Nat.reduceLeDiff, Nat.reduceBEq, eq_self, ne_eq, Nat.add_eq_zero_iff, Nat.add_left_cancel_iff, Nat.add_right_cancel_iff, Nat.left_eq_add, Nat.add_eq_left, Bool.true_or, Bool.or_true, Bool.or_self, or_self, or_true, true_or, or_false, false_or, decide_true, decide_false, i_10, i_01, f13, f37, r95, i5, c5, uu, q1, w1', w2, ck, cf]
          · rw [w4] at cf
            have hc : pn < p ∧ (fun a pn => decide (¬ nI pn = but) && decide (¬ fiv (σ 91) (σ 92) (σ 93) p (nI a) (nI pn) z = 0)) k pn = true := ⟨w1, by simp [w2, w4]⟩
            refine Eq.trans ?_ (done (σ 94 o) (by
              rw [← hG, if_pos hc, if_pos hc, sK, if_pos w3]))
            simp only [e_Md_rowsBut_98, e_Md_rowsBut_99, e_Md_rowsBut_102, e_Md_rowsBut_105, e_Md_rowsBut_106, e_Md_rowsBut_109, e_Md_rowsBut_111, e_Md_rowsBut_112, e_Md_rowsBut_113, e_Md_rowsBut_115, e_Md_rowsBut_116, e_Md_rowsBut_119, e_Md_rowsBut_122, e_Md_rowsBut_124, e_Md_rowsBut_125, e_Md_rowsBut_128, e_Md_rowsBut_129, e_Md_rowsBut_131, e_Md_rowsBut_133, e_Md_rowsBut_136, e_Md_rowsBut_139, e_Md_rowsBut_140, e_Md_rowsBut_142, e_Md_rowsBut_144, e_Md_rowsBut_147, e_Md_rowsBut_150, e_Md_rowsBut_151, e_Md_rowsBut_154, e_Md_rowsBut_156, e_Md_rowsBut_157, e_Md_rowsBut_160, e_Md_rowsBut_161, e_Md_rowsBut_162, e_Md_rowsBut_163, e_Md_rowsBut_166, m_get, m_put, m_ia, m_is, m_la, m_ls, fl_sf, fl_sa, fl_sl, fl_sq, ar_sf, ar_sa, ar_sl, ar_sq, lr_sf, lr_sa, lr_sl, lr_sq, qr_sf, qr_sa, qr_sl, qr_sq, sf_1, sf_2, sa_1, sa_2, sl_1, sl_2, Option.isSome_some, Option.map_some, Option.map_none, Option.toList_some, Option.toList_none, List.nil_append, List.cons_append, List.singleton_append, if_true, if_false, ↓reduceIte, and_self, and_true, true_and, and_false, false_and, not_true, not_false_iff, reduceCtorEq, Nat.reduceEqDiff, Nat.reduceAdd, Nat.reduceSub, Nat.reduceMul, Nat.reduceLT, Nat.reduceLeDiff, Nat.reduceBEq, eq_self, ne_eq, Nat.add_eq_zero_iff, Nat.add_left_cancel_iff, Nat.add_right_cancel_iff, Nat.left_eq_add, Nat.add_eq_left, Bool.true_or, Bool.or_true, Bool.or_self, or_self, or_true, true_or, or_false, false_or, decide_true, decide_false, i_10, i_01, f13, f36, f37, r94, r95, i5, c5, io, co, uu, q1, w1', w2, ck, cf]
        · have wz : (σ 80 o >>> (nI pn &&& 31)) &&& 1 = 0 := bz.mpr (by simpa using w3)
          simp only [if_pos wz] at ck
          refine Eq.trans ?_ (done 0 (by
            rw [← hG]
            by_cases hc : pn < p ∧ (fun a pn => decide (¬ nI pn = but) && decide (¬ fiv (σ 91) (σ 92) (σ 93) p (nI a) (nI pn) z = 0)) k pn = true
            · rw [if_pos hc, if_pos hc, sK, if_neg w3]
            · rw [if_neg hc, if_neg hc]; rfl))
          simp only [e_Md_rowsBut_98, e_Md_rowsBut_99, e_Md_rowsBut_102, e_Md_rowsBut_105, e_Md_rowsBut_106, e_Md_rowsBut_109, e_Md_rowsBut_111, e_Md_rowsBut_112, e_Md_rowsBut_113, e_Md_rowsBut_115, e_Md_rowsBut_116, e_Md_rowsBut_119, e_Md_rowsBut_122, e_Md_rowsBut_124, e_Md_rowsBut_125, e_Md_rowsBut_128, e_Md_rowsBut_129, e_Md_rowsBut_131, e_Md_rowsBut_133, e_Md_rowsBut_136, e_Md_rowsBut_139, e_Md_rowsBut_140, e_Md_rowsBut_142, e_Md_rowsBut_144, e_Md_rowsBut_147, e_Md_rowsBut_150, e_Md_rowsBut_151, e_Md_rowsBut_154, e_Md_rowsBut_156, e_Md_rowsBut_157, e_Md_rowsBut_160, e_Md_rowsBut_161, e_Md_rowsBut_162, e_Md_rowsBut_163, e_Md_rowsBut_166, m_get, m_put, m_ia, m_is, m_la, m_ls, fl_sf, fl_sa, fl_sl, fl_sq, ar_sf, ar_sa, ar_sl, ar_sq, lr_sf, lr_sa, lr_sl, lr_sq, qr_sf, qr_sa, qr_sl, qr_sq, sf_1, sf_2, sa_1, sa_2, sl_1, sl_2, Option.isSome_some, Option.map_some, Option.map_none, Option.toList_some, Option.toList_none, List.nil_append, List.cons_append, List.singleton_append, if_true, if_false, ↓reduceIte, and_self, and_true, true_and, and_false, false_and, not_true, not_false_iff, reduceCtorEq, Nat.reduceEqDiff, Nat.reduceAdd, Nat.reduceSub, Nat.reduceMul, Nat.reduceLT, Nat.reduceLeDiff, Nat.reduceBEq, eq_self, ne_eq, Nat.add_eq_zero_iff, Nat.add_left_cancel_iff, Nat.add_right_cancel_iff, Nat.left_eq_add, Nat.add_eq_left, Bool.true_or, Bool.or_true, Bool.or_self, or_self, or_true, true_or, or_false, false_or, decide_true, decide_false, i_10, i_01, f13, f37, r95, i5, c5, uu, q1, w1', w2, ck]
    · have w1' : nI p ≤ nI pn := q2.mpr (by omega)
      refine Eq.trans ?_ (done 0 (by
        rw [← hG, if_neg (fun y => w1 y.1), if_neg (fun y => w1 y.1)]; rfl))
      simp only [e_Md_rowsBut_98, e_Md_rowsBut_99, e_Md_rowsBut_102, e_Md_rowsBut_105, e_Md_rowsBut_106, e_Md_rowsBut_109, e_Md_rowsBut_111, e_Md_rowsBut_112, e_Md_rowsBut_113, e_Md_rowsBut_115, e_Md_rowsBut_116, e_Md_rowsBut_119, e_Md_rowsBut_122, e_Md_rowsBut_124, e_Md_rowsBut_125, e_Md_rowsBut_128, e_Md_rowsBut_129, e_Md_rowsBut_131, e_Md_rowsBut_133, e_Md_rowsBut_136, e_Md_rowsBut_139, e_Md_rowsBut_140, e_Md_rowsBut_142, e_Md_rowsBut_144, e_Md_rowsBut_147, e_Md_rowsBut_150, e_Md_rowsBut_151, e_Md_rowsBut_154, e_Md_rowsBut_156, e_Md_rowsBut_157, e_Md_rowsBut_160, e_Md_rowsBut_161, e_Md_rowsBut_162, e_Md_rowsBut_163, e_Md_rowsBut_166, m_get, m_put, m_ia, m_is, m_la, m_ls, fl_sf, fl_sa, fl_sl, fl_sq, ar_sf, ar_sa, ar_sl, ar_sq, lr_sf, lr_sa, lr_sl, lr_sq, qr_sf, qr_sa, qr_sl, qr_sq, sf_1, sf_2, sa_1, sa_2, sl_1, sl_2, Option.isSome_some, Option.map_some, Option.map_none, Option.toList_some, Option.toList_none, List.nil_append, List.cons_append, List.singleton_append, if_true, if_false, ↓reduceIte, and_self, and_true, true_and, and_false, false_and, not_true, not_false_iff, reduceCtorEq, Nat.reduceEqDiff, Nat.reduceAdd, Nat.reduceSub, Nat.reduceMul, Nat.reduceLT, Nat.reduceLeDiff, Nat.reduceBEq, eq_self, ne_eq, Nat.add_eq_zero_iff, Nat.add_left_cancel_iff, Nat.add_right_cancel_iff, Nat.left_eq_add, Nat.add_eq_left, Bool.true_or, Bool.or_true, Bool.or_self, or_self, or_true, true_or, or_false, false_or, decide_true, decide_false, i_10, i_01, f13, f37, r95, i5, c5, uu, q1, w1']
end SI3
