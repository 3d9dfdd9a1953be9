section SI4
variable {h : xH} {σ τ : Nat → Nat → Int32} {v s : Nat} {q : Nat → Nat} {e1 e2 : Int64} {p t n z : Nat}
/-- all that come to the next place -/
theorem cM_rbNext (H : Hp h σ τ v s q e1 e2) (p5 : p ≤ 5) (hp : τ 75 13 = nI p) (z6 : z ≤ 6) (hz : τ 75 32 = nI z) {k : Nat} {x1 x2 but : Int32} {l6 : Option Value} : ∃ l6', xR none 3 M_Md_rowsBut 79 [some (.ref 75), some (.int x1), some (.int x2), some (.int but), some (.int (nI k)), some (.int 0), l6] [] h = xR none 3 M_Md_rowsBut 175 [some (.ref 75), some (.int x1), some (.int x2), some (.int but), some (.int (nI k)), some (.int (nI 5)), l6'] [] (sa h 95 0 (cpI (σ 95) (fun pn => if pn < p ∧ (fun a pn => decide (¬ nI pn = but) && decide (¬ fiv (σ 91) (σ 92) (σ 93) p (nI a) (nI pn) z = 0)) k pn = true then sK (fun o pn => bt (σ 80 o) pn) (σ 94) pn p else 0) 0 5)) := by
  generalize hF : (fun pn => if pn < p ∧ (fun a pn => decide (¬ nI pn = but) && decide (¬ fiv (σ 91) (σ 92) (σ 93) p (nI a) (nI pn) z = 0)) k pn = true then sK (fun o pn => bt (σ 80 o) pn) (σ 94) pn p else 0) = F
  have r95 := hA H 95 0 5 rfl rfl
  have key := loop_dn (t := 5) (P := fun i => ∀ l6, ∃ l6', xR none 3 M_Md_rowsBut 79 [some (.ref 75), some (.int x1), some (.int x2), some (.int but), some (.int (nI k)), some (.int (nI i)), l6] [] (sa h 95 0 (cpI (σ 95) F 0 i)) = xR none 3 M_Md_rowsBut 175 [some (.ref 75), some (.int x1), some (.int x2), some (.int but), some (.int (nI k)), some (.int (nI 5)), l6'] [] (sa h 95 0 (cpI (σ 95) F 0 5))) ?_ ?_ 0 (Nat.zero_le _)
  · have := key l6
    rw [nI_0, cpI_0, sa_self r95] at this
    exact this
  · intro l6
    have y : (5 : Int32) ≤ nI 5 := by decide
    exact ⟨l6, by simp only [e_Md_rowsBut_79, e_Md_rowsBut_81, e_Md_rowsBut_82, Option.isSome_some, Option.map_some, Option.map_none, Option.toList_some, Option.toList_none, List.nil_append, List.cons_append, List.singleton_append, if_true, if_false, ↓reduceIte, and_self, and_true, true_and, and_false, false_and, not_true, not_false_iff, reduceCtorEq, Nat.reduceEqDiff, Nat.reduceAdd, Nat.reduceSub, Nat.reduceMul, Nat.reduceLT, Nat.reduceLeDiff, Nat.reduceBEq, eq_self, ne_eq, Nat.add_eq_zero_iff, Nat.add_left_cancel_iff, Nat.add_right_cancel_iff, Nat.left_eq_add, Nat.add_eq_left, Bool.true_or, Bool.or_true, Bool.or_self, or_self, or_true, true_or, or_false, false_or, decide_true, decide_false, i_10, i_01, y]⟩
  · intro i hi ih l6
    have q1 : ¬ (5 : Int32) ≤ nI i := nI_ge (b := 5) hi (by omega)
    have Hi := Hp_sa (t := 0) (n := 5) H (a := 95) rfl rfl (cpI (σ 95) F 0 i)
    obtain ⟨l6', c⟩ := cM_rbIn Hi p5 hp z6 hz (k := k) (pn := i) (by omega) (x1 := x1) (x2 := x2) (but := but) (l6 := l6)
    rw [show us σ 95 (cpI (σ 95) F 0 i) 80 = σ 80 from rfl, show us σ 95 (cpI (σ 95) F 0 i) 91 = σ 91 from rfl, show us σ 95 (cpI (σ 95) F 0 i) 92 = σ 92 from rfl, show us σ 95 (cpI (σ 95) F 0 i) 93 = σ 93 from rfl, show us σ 95 (cpI (σ 95) F 0 i) 94 = σ 94 from rfl, show us σ 95 (cpI (σ 95) F 0 i) 95 = cpI (σ 95) F 0 i from rfl] at c
    have zz := cpI_s (σ 95) F 0 i
    rw [Nat.zero_add] at zz
    have fi := congrFun hF i
    simp only at fi
    rw [sa_sa, fi, zz] at c
    obtain ⟨l6'', d⟩ := ih l6'
    refine ⟨l6'', ?_⟩
    rw [← d, ← c]
    simp only [e_Md_rowsBut_79, e_Md_rowsBut_81, e_Md_rowsBut_82, Option.isSome_some, Option.map_some, Option.map_none, Option.toList_some, Option.toList_none, List.nil_append, List.cons_append, List.singleton_append, if_true, if_false, ↓reduceIte, and_self, and_true, true_and, and_false, false_and, not_true, not_false_iff, reduceCtorEq, Nat.reduceEqDiff, Nat.reduceAdd, Nat.reduceSub, Nat.reduceMul, Nat.reduceLT, Nat.reduceLeDiff, Nat.reduceBEq, eq_self, ne_eq, Nat.add_eq_zero_iff, Nat.add_left_cancel_iff, Nat.add_right_cancel_iff, Nat.left_eq_add, Nat.add_eq_left, Bool.true_or, Bool.or_true, Bool.or_self, or_self, or_true, true_or, or_false, false_or, decide_true, decide_false, i_10, i_01, q1]
theorem cM_rbLoop (p5 : p ≤ 5) (hp : τ 75 13 = nI p) (z6 : z ≤ 6) (hz : τ 75 32 = nI z) {m w : Nat} (m8 : m ≤ 8) (m1 : 1 ≤ m) {x1 but : Int32} : ∀ a, a ≤ m - 1 → ∀ (g : xH) (σa : Nat → Nat → Int32) (l5 l6 : Option Value), Hp g σa τ v s q e1 e2 → (∀ b, b ≠ 94 → b ≠ 95 → σa b = σ b) → (∀ pn, pn < 5 → σa 94 pn = if pn < p then (Wv (fun o pn => bt (σ 80 o) pn) (fun pn => bt (σ 80 w) pn) (fun a pn => decide (¬ nI pn = but) && decide (¬ fiv (σ 91) (σ 92) (σ 93) p (nI a) (nI pn) z = 0)) p) a pn else 0) → ∃ h' σ', xR none 3 M_Md_rowsBut 70 [some (.ref 75), some (.int x1), some (.int (nI m)), some (.int but), some (.int (nI (a + 2))), l5, l6] [] g = some (some (.int (sm ((Wv (fun o pn => bt (σ 80 o) pn) (fun pn => bt (σ 80 w) pn) (fun a pn => decide (¬ nI pn = but) && decide (¬ fiv (σ 91) (σ 92) (σ 93) p (nI a) (nI pn) z = 0)) p) (m - 1)) p)), h') ∧ Hp h' σ' τ v s q e1 e2 ∧ (∀ b, b ≠ 94 → b ≠ 95 → σ' b = σ b) := by
  refine loop_dn (P := fun a => ∀ (g : xH) (σa : Nat → Nat → Int32) (l5 l6 : Option Value), Hp g σa τ v s q e1 e2 → (∀ b, b ≠ 94 → b ≠ 95 → σa b = σ b) → (∀ pn, pn < 5 → σa 94 pn = if pn < p then (Wv (fun o pn => bt (σ 80 o) pn) (fun pn => bt (σ 80 w) pn) (fun a pn => decide (¬ nI pn = but) && decide (¬ fiv (σ 91) (σ 92) (σ 93) p (nI a) (nI pn) z = 0)) p) a pn else 0) → ∃ h' σ', xR none 3 M_Md_rowsBut 70 [some (.ref 75), some (.int x1), some (.int (nI m)), some (.int but), some (.int (nI (a + 2))), l5, l6] [] g = some (some (.int (sm ((Wv (fun o pn => bt (σ 80 o) pn) (fun pn => bt (σ 80 w) pn) (fun a pn => decide (¬ nI pn = but) && decide (¬ fiv (σ 91) (σ 92) (σ 93) p (nI a) (nI pn) z = 0)) p) (m - 1)) p)), h') ∧ Hp h' σ' τ v s q e1 e2 ∧ (∀ b, b ≠ 94 → b ≠ 95 → σ' b = σ b)) ?_ ?_
  · intro g σa l5 l6 H hb hw
    refine ⟨g, σa, ?_, H, hb⟩
    have y1 : nI m < nI (m - 1 + 2) := nI_lt (by omega) (by omega)
    have cs := cM_rbSum H (x1 := x1) (x2 := nI m) (x3 := but) (l6 := l6)
    have e5 : sm (σa 94) 5 = sm ((Wv (fun o pn => bt (σ 80 o) pn) (fun pn => bt (σ 80 w) pn) (fun a pn => decide (¬ nI pn = but) && decide (¬ fiv (σ 91) (σ 92) (σ 93) p (nI a) (nI pn) z = 0)) p) (m - 1)) p := by
      rw [sm_cg 5 hw, show (5 : Nat) = p + (5 - p) by omega, sm_ext _ (5 - p) (fun i hi => by rw [if_neg (by omega)])]
      exact sm_cg p (fun i hi => by rw [if_pos hi])
    rw [e5] at cs
    simp only [e_Md_rowsBut_70, e_Md_rowsBut_72, e_Md_rowsBut_73, e_Md_rowsBut_210, e_Md_rowsBut_211, e_Md_rowsBut_213, e_Md_rowsBut_214, Option.isSome_some, Option.map_some, Option.map_none, Option.toList_some, Option.toList_none, List.nil_append, List.cons_append, List.singleton_append, if_true, if_false, ↓reduceIte, and_self, and_true, true_and, and_false, false_and, not_true, not_false_iff, reduceCtorEq, Nat.reduceEqDiff, Nat.reduceAdd, Nat.reduceSub, Nat.reduceMul, Nat.reduceLT, Nat.reduceLeDiff, Nat.reduceBEq, eq_self, ne_eq, Nat.add_eq_zero_iff, Nat.add_left_cancel_iff, Nat.add_right_cancel_iff, Nat.left_eq_add, Nat.add_eq_left, Bool.true_or, Bool.or_true, Bool.or_self, or_self, or_true, true_or, or_false, false_or, decide_true, decide_false, i_10, i_01, y1]
    exact cs
  · intro a ha ih g σa l5 l6 H hb hw
    have y1 : ¬ nI m < nI (a + 2) := nI_nlt (by omega) (by omega)
    obtain ⟨l6', c⟩ := cM_rbNext H p5 hp z6 hz (k := a + 2) (x1 := x1) (x2 := nI m) (but := but) (l6 := l6)
    rw [hb 80 (by omega) (by omega), hb 91 (by omega) (by omega), hb 92 (by omega) (by omega), hb 93 (by omega) (by omega)] at c
    generalize hF : (fun pn => if pn < p ∧ (fun a pn => decide (¬ nI pn = but) && decide (¬ fiv (σ 91) (σ 92) (σ 93) p (nI a) (nI pn) z = 0)) (a + 2) pn = true then sK (fun o pn => bt (σ 80 o) pn) (σa 94) pn p else 0) = F at c
    have H1 := Hp_sa (t := 0) (n := 5) H (a := 95) rfl rfl (cpI (σa 95) F 0 5)
    have c2 := cM_rbCopy H1 (x1 := x1) (x2 := nI m) (x3 := but) (x4 := nI (a + 2)) (l6 := l6')
    have H2 := Hp_sa (t := 0) (n := 5) H1 (a := 94) rfl rfl (cpI (us σa 95 (cpI (σa 95) F 0 5) 94) (us σa 95 (cpI (σa 95) F 0 5) 95) 0 5)
    obtain ⟨h', σ', d, H', hb'⟩ := ih _ _ (some (.int (nI 5))) l6' H2 (fun b n1 n2 => by
      rw [us, if_neg n1, us, if_neg n2, hb b n1 n2]) (fun pn hpn => by
      have e1 := cpI_in (g := us σa 95 (cpI (σa 95) F 0 5) 94) (f := us σa 95 (cpI (σa 95) F 0 5) 95) (o := 0) hpn
      have e2 := cpI_in (g := σa 95) (f := F) (o := 0) hpn
      rw [Nat.zero_add] at e1 e2
      rw [us, if_pos rfl, e1, us, if_pos rfl, e2, ← hF]
      simp only
      by_cases w1 : pn < p
      · rw [if_pos w1, Wv]
        simp only
        have es : sK (fun o pn => bt (σ 80 o) pn) (σa 94) pn p = sK (fun o pn => bt (σ 80 o) pn) ((Wv (fun o pn => bt (σ 80 o) pn) (fun pn => bt (σ 80 w) pn) (fun a pn => decide (¬ nI pn = but) && decide (¬ fiv (σ 91) (σ 92) (σ 93) p (nI a) (nI pn) z = 0)) p) a) pn p := sK_cg p (fun i hi => ⟨rfl, by rw [hw i (by omega), if_pos hi]⟩)
        rw [es]
        by_cases w2 : (fun a pn => decide (¬ nI pn = but) && decide (¬ fiv (σ 91) (σ 92) (σ 93) p (nI a) (nI pn) z = 0)) (a + 2) pn = true
        · rw [if_pos ⟨w1, w2⟩, if_pos w2]
        · rw [if_neg (fun y => w2 y.2), if_neg w2]
      · rw [if_neg w1, if_neg (fun y => w1 y.1)])
    refine ⟨h', σ', ?_, H', hb'⟩
    rw [show a + 1 + 2 = a + 2 + 1 by omega, ← nI_1] at d
    rw [e_Md_rowsBut_70]
    simp only [e_Md_rowsBut_72, e_Md_rowsBut_73, e_Md_rowsBut_76, e_Md_rowsBut_77, Option.isSome_some, Option.map_some, Option.map_none, Option.toList_some, Option.toList_none, List.nil_append, List.cons_append, List.singleton_append, if_true, if_false, ↓reduceIte, and_self, and_true, true_and, and_false, false_and, not_true, not_false_iff, reduceCtorEq, Nat.reduceEqDiff, Nat.reduceAdd, Nat.reduceSub, Nat.reduceMul, Nat.reduceLT, Nat.reduceLeDiff, Nat.reduceBEq, eq_self, ne_eq, Nat.add_eq_zero_iff, Nat.add_left_cancel_iff, Nat.add_right_cancel_iff, Nat.left_eq_add, Nat.add_eq_left, Bool.true_or, Bool.or_true, Bool.or_self, or_self, or_true, true_or, or_false, false_or, decide_true, decide_false, i_10, i_01, y1]
    rw [c]
    simp only [e_Md_rowsBut_175, e_Md_rowsBut_176]
    rw [c2]
    simp only [e_Md_rowsBut_204, e_Md_rowsBut_207]
    exact d
theorem cM_rowsBut (H : Hp h σ τ v s q e1 e2) (p5 : p ≤ 5) (hp : τ 75 13 = nI p) (z6 : z ≤ 6) (hz : τ 75 32 = nI z) {j w m : Nat} (hj : j < 6) (hw : w < 5) (ew : σ 81 j = nI w) (m1 : 1 ≤ m) (m8 : m ≤ 8) (but : Int32) : ∃ h' σ', xC M_Md_rowsBut [.ref 75, .int (nI j), .int (nI m), .int but] h = some (some (.int (sm ((Wv (fun o pn => bt (σ 80 o) pn) (fun pn => bt (σ 80 w) pn) (fun a pn => decide (¬ nI pn = but) && decide (¬ fiv (σ 91) (σ 92) (σ 93) p (nI a) (nI pn) z = 0)) p) (m - 1)) p)), h') ∧ Hp h' σ' τ v s q e1 e2 ∧ (∀ b, b ≠ 94 → b ≠ 95 → σ' b = σ b) := by
  have f13 := hI H 75 9 13 rfl rfl
  rw [hp] at f13
  have f10 := hR H 75 9 10 81 rfl rfl
  have f36 := hR H 75 9 36 94 rfl rfl
  have r81 := hA H 81 0 6 rfl rfl
  have r94 := hA H 94 0 5 rfl rfl
  have ij := xin_nI hj (by decide)
  have cj := nI_clamp (show j < 2 ^ 31 by omega)
  generalize hF : (fun pn => if pn < p then (Wv (fun o pn => bt (σ 80 o) pn) (fun pn => bt (σ 80 w) pn) (fun a pn => decide (¬ nI pn = but) && decide (¬ fiv (σ 91) (σ 92) (σ 93) p (nI a) (nI pn) z = 0)) p) 0 pn else 0) = F
  have H1 := Hp_sa (t := 0) (n := 5) H (a := 94) rfl rfl (cpI (σ 94) F 0 5)
  obtain ⟨h', σ', d, H', hb'⟩ := cM_rbLoop (σ := σ) (w := w) (x1 := nI j) (but := but) p5 hp z6 hz m8 m1 0 (by omega) _ _ none none H1 (fun b n1 n2 => by rw [us, if_neg n1]) (fun pn hpn => by
    have e2 := cpI_in (g := σ 94) (f := F) (o := 0) hpn
    rw [Nat.zero_add] at e2
    rw [us, if_pos rfl, e2, ← hF])
  refine ⟨h', σ', ?_, H', hb'⟩
  have key := loop_dn (t := 5) (P := fun i => xR none 3 M_Md_rowsBut 3 [some (.ref 75), some (.int (nI j)), some (.int (nI m)), some (.int but), some (.int (nI i)), none, none] [] (sa h 94 0 (cpI (σ 94) F 0 i)) = some (some (.int (sm ((Wv (fun o pn => bt (σ 80 o) pn) (fun pn => bt (σ 80 w) pn) (fun a pn => decide (¬ nI pn = but) && decide (¬ fiv (σ 91) (σ 92) (σ 93) p (nI a) (nI pn) z = 0)) p) (m - 1)) p)), h')) ?_ ?_ 0 (Nat.zero_le _)
  · rw [nI_0, cpI_0, sa_self r94] at key
    simp only [k_Md_rowsBut, e_Md_rowsBut_0, e_Md_rowsBut_1]
    exact key
  · have y : (5 : Int32) ≤ nI 5 := by decide
    simp only [e_Md_rowsBut_3, e_Md_rowsBut_5, e_Md_rowsBut_6, e_Md_rowsBut_67, e_Md_rowsBut_68, Option.isSome_some, Option.map_some, Option.map_none, Option.toList_some, Option.toList_none, List.nil_append, List.cons_append, List.singleton_append, if_true, if_false, ↓reduceIte, and_self, and_true, true_and, and_false, false_and, not_true, not_false_iff, reduceCtorEq, Nat.reduceEqDiff, Nat.reduceAdd, Nat.reduceSub, Nat.reduceMul, Nat.reduceLT, Nat.reduceLeDiff, Nat.reduceBEq, eq_self, ne_eq, Nat.add_eq_zero_iff, Nat.add_left_cancel_iff, Nat.add_right_cancel_iff, Nat.left_eq_add, Nat.add_eq_left, Bool.true_or, Bool.or_true, Bool.or_self, or_self, or_true, true_or, or_false, false_or, decide_true, decide_false, i_10, i_01, y]
    exact d
  · intro i hi ih
    have q1 : ¬ (5 : Int32) ≤ nI i := nI_ge (b := 5) hi (by omega)
    have i5 := xin_nI (show i < 5 by omega) (by decide)
    have c5 := nI_clamp (show i < 2 ^ 31 by omega)
    have q2 : (nI p ≤ nI i) ↔ p ≤ i := nI_leI (by omega) (by omega)
    have Hi := Hp_sa (t := 0) (n := 5) H (a := 94) rfl rfl (cpI (σ 94) F 0 i)
    have ck := call_v (lv := 3) (cM_doKnow Hi (i := w) (by omega) (nI i)) (Hp_75 Hi) (by decide) (Nat.le_of_ble_eq_true rfl)
    have cf := call_v (lv := 3) (cM_fits Hi p5 hp z6 hz (nI 1) (nI i)) (Hp_75 Hi) (by decide) (Nat.le_of_ble_eq_true rfl)
    rw [show us σ 94 (cpI (σ 94) F 0 i) 80 = σ 80 from rfl] at ck
    rw [show us σ 94 (cpI (σ 94) F 0 i) 91 = σ 91 from rfl, show us σ 94 (cpI (σ 94) F 0 i) 92 = σ 92 from rfl, show us σ 94 (cpI (σ 94) F 0 i) 93 = σ 93 from rfl] at cf
    rw [show nI 1 = 1 from rfl] at cf
    have bz := b_z (x := σ 80 w) (show i < 32 by omega)
    have zz := cpI_s (σ 94) F 0 i
    rw [Nat.zero_add] at zz
    have fi : F i = if i < p then (if (bt (σ 80 w) i && (decide (¬ nI i = but) && decide (¬ fiv (σ 91) (σ 92) (σ 93) p 1 (nI i) z = 0))) = true then 1 else 0) else 0 := by
      rw [← hF]
      rfl
    rw [← nI_1, ← zz, ← sa_sa h 94 0 (cpI (σ 94) F 0 i), fi] at ih
    rw [e_Md_rowsBut_3]
    by_cases w1 : i < p
    · have w1' : ¬ nI p ≤ nI i := fun y => by have := q2.mp y; omega
      rw [if_pos w1] at ih
      by_cases w3 : bt (σ 80 w) i = true
      · have wz : ¬ ((σ 80 w >>> (nI i &&& 31)) &&& 1 = 0) := fun y => by rw [bz.mp y] at w3; cases w3
        simp only [if_neg wz] at ck
        by_cases w2 : nI i = but
        · subst w2
          rw [if_neg (by simp)] at ih
          simp only [e_Md_rowsBut_5, e_Md_rowsBut_6, e_Md_rowsBut_9, e_Md_rowsBut_10, e_Md_rowsBut_13, e_Md_rowsBut_15, e_Md_rowsBut_17, e_Md_rowsBut_18, e_Md_rowsBut_21, e_Md_rowsBut_24, e_Md_rowsBut_25, e_Md_rowsBut_26, e_Md_rowsBut_29, e_Md_rowsBut_30, e_Md_rowsBut_31, e_Md_rowsBut_33, e_Md_rowsBut_36, e_Md_rowsBut_39, e_Md_rowsBut_41, e_Md_rowsBut_42, e_Md_rowsBut_45, e_Md_rowsBut_46, e_Md_rowsBut_47, e_Md_rowsBut_49, e_Md_rowsBut_52, e_Md_rowsBut_55, e_Md_rowsBut_56, e_Md_rowsBut_59, e_Md_rowsBut_60, e_Md_rowsBut_61, e_Md_rowsBut_64, m_get, m_put, m_ia, m_is, m_la, m_ls, fl_sf, fl_sa, fl_sl, fl_sq, ar_sf, ar_sa, ar_sl, ar_sq, lr_sf, lr_sa, lr_sl, lr_sq, qr_sf, qr_sa, qr_sl, qr_sq, sf_1, sf_2, sa_1, sa_2, sl_1, sl_2, Option.isSome_some, Option.map_some, Option.map_none, Option.toList_some, Option.toList_none, List.nil_append, List.cons_append, List.singleton_append, if_true, if_false, ↓reduceIte, and_self, and_true, true_and, and_false, false_and, not_true, not_false_iff, reduceCtorEq, Nat.reduceEqDiff, Nat.reduceAdd, Nat.reduceSub, Nat.reduceMul, Nat.reduceLT, Nat.reduceLeDiff, Nat.reduceBEq, eq_self, ne_eq, Nat.add_eq_zero_iff, Nat.add_left_cancel_iff, Nat.add_right_cancel_iff, Nat.left_eq_add, Nat.add_eq_left, Bool.true_or, Bool.or_true, Bool.or_self, or_self, or_true, true_or, or_false, false_or, decide_true, decide_false, i_10, i_01, f13, f10, f36, r81, r94, ij, cj, ew, i5, c5, q1, w1', ck]
          exact ih
        · rcases fiv_01 (p := p) (σ 91) (σ 92) (σ 93) 1 (nI i) z with w4 | w4
          · rw [w4] at cf
            rw [if_neg (by simp [w4])] at ih
            simp only [e_Md_rowsBut_5, e_Md_rowsBut_6, e_Md_rowsBut_9, e_Md_rowsBut_10, e_Md_rowsBut_13, e_Md_rowsBut_15, e_Md_rowsBut_17, e_Md_rowsBut_18, e_Md_rowsBut_21, e_Md_rowsBut_24, e_Md_rowsBut_25, e_Md_rowsBut_26, e_Md_rowsBut_29, e_Md_rowsBut_30, e_Md_rowsBut_31, e_Md_rowsBut_33, e_Md_rowsBut_36, e_Md_rowsBut_39, e_Md_rowsBut_41, e_Md_rowsBut_42, e_Md_rowsBut_45, e_Md_rowsBut_46, e_Md_rowsBut_47, e_Md_rowsBut_49, e_Md_rowsBut_52, e_Md_rowsBut_55, e_Md_rowsBut_56, e_Md_rowsBut_59, e_Md_rowsBut_60, e_Md_rowsBut_61, e_Md_rowsBut_64, m_get, m_put, m_ia, m_is, m_la, m_ls, fl_sf, fl_sa, fl_sl, fl_sq, ar_sf, ar_sa, ar_sl, ar_sq, lr_sf, lr_sa, lr_sl, lr_sq, qr_sf, qr_sa, qr_sl, qr_sq, sf_1, sf_2, sa_1, sa_2, sl_1, sl_2, Option.isSome_some, Option.map_some, Option.map_none, Option.toList_some, Option.toList_none, List.nil_append, List.cons_append, List.singleton_append, if_true, if_false, ↓reduceIte, and_self, and_true, true_and, and_false, false_and, not_true, not_false_iff, reduceCtorEq, Nat.reduceEqDiff, Nat.reduceAdd, Nat.reduceSub, Nat.reduceMul, Nat.reduceLT, Nat.reduceLeDiff, Nat.reduceBEq, eq_self, ne_eq, Nat.add_eq_zero_iff, Nat.add_left_cancel_iff, Nat.add_right_cancel_iff, Nat.left_eq_add, Nat.add_eq_left, Bool.true_or, Bool.or_true, Bool.or_self, or_self, or_true, true_or, or_false, false_or, decide_true, decide_false, i_10, i_01, f13, f10, f36, r81, r94, ij, cj, ew, i5, c5, q1, w1', ck, w2, cf]
            exact ih
          · rw [w4] at cf
            rw [if_pos (by simp [w2, w3, w4])] at ih
            simp only [e_Md_rowsBut_5, e_Md_rowsBut_6, e_Md_rowsBut_9, e_Md_rowsBut_10, e_Md_rowsBut_13, e_Md_rowsBut_15, e_Md_rowsBut_17, e_Md_rowsBut_18, e_Md_rowsBut_21, e_Md_rowsBut_24, e_Md_rowsBut_25, e_Md_rowsBut_26, e_Md_rowsBut_29, e_Md_rowsBut_30, e_Md_rowsBut_31, e_Md_rowsBut_33, e_Md_rowsBut_36, e_Md_rowsBut_39, e_Md_rowsBut_41, e_Md_rowsBut_42, e_Md_rowsBut_45, e_Md_rowsBut_46, e_Md_rowsBut_47, e_Md_rowsBut_49, e_Md_rowsBut_52, e_Md_rowsBut_55, e_Md_rowsBut_56, e_Md_rowsBut_59, e_Md_rowsBut_60, e_Md_rowsBut_61, e_Md_rowsBut_64, m_get, m_put, m_ia, m_is, m_la, m_ls, fl_sf, fl_sa, fl_sl, fl_sq, ar_sf, ar_sa, ar_sl, ar_sq, lr_sf, lr_sa, lr_sl, lr_sq, qr_sf, qr_sa, qr_sl, qr_sq, sf_1, sf_2, sa_1, sa_2, sl_1, sl_2, Option.isSome_some, Option.map_some, Option.map_none, Option.toList_some, Option.toList_none, List.nil_append, List.cons_append, List.singleton_append, if_true, if_false, ↓reduceIte, and_self, and_true, true_and, and_false, false_and, not_true, not_false_iff, reduceCtorEq, Nat.reduceEqDiff, Nat.reduceAdd, Nat.reduceSub, Nat.reduceMul, Nat.reduceLT, Nat.reduceLeDiff, Nat.reduceBEq, eq_self, ne_eq, Nat.add_eq_zero_iff, Nat.add_left_cancel_iff, Nat.add_right_cancel_iff, Nat.left_eq_add, Nat.add_eq_left, Bool.true_or, Bool.or_true, Bool.or_self, or_self, or_true, true_or, or_false, false_or, decide_true, decide_false, i_10, i_01, f13, f10, f36, r81, r94, ij, cj, ew, i5, c5, q1, w1', ck, w2, cf]
            exact ih
      · have wz : (σ 80 w >>> (nI i &&& 31)) &&& 1 = 0 := bz.mpr (by simpa using w3)
        simp only [if_pos wz] at ck
        rw [if_neg (by simp [w3])] at ih
        simp only [e_Md_rowsBut_5, e_Md_rowsBut_6, e_Md_rowsBut_9, e_Md_rowsBut_10, e_Md_rowsBut_13, e_Md_rowsBut_15, e_Md_rowsBut_17, e_Md_rowsBut_18, e_Md_rowsBut_21, e_Md_rowsBut_24, e_Md_rowsBut_25, e_Md_rowsBut_26, e_Md_rowsBut_29, e_Md_rowsBut_30, e_Md_rowsBut_31, e_Md_rowsBut_33, e_Md_rowsBut_36, e_Md_rowsBut_39, e_Md_rowsBut_41, e_Md_rowsBut_42, e_Md_rowsBut_45, e_Md_rowsBut_46, e_Md_rowsBut_47, e_Md_rowsBut_49, e_Md_rowsBut_52, e_Md_rowsBut_55, e_Md_rowsBut_56, e_Md_rowsBut_59, e_Md_rowsBut_60, e_Md_rowsBut_61, e_Md_rowsBut_64, m_get, m_put, m_ia, m_is, m_la, m_ls, fl_sf, fl_sa, fl_sl, fl_sq, ar_sf, ar_sa, ar_sl, ar_sq, lr_sf, lr_sa, lr_sl, lr_sq, qr_sf, qr_sa, qr_sl, qr_sq, sf_1, sf_2, sa_1, sa_2, sl_1, sl_2, Option.isSome_some, Option.map_some, Option.map_none, Option.toList_some, Option.toList_none, List.nil_append, List.cons_append, List.singleton_append, if_true, if_false, ↓reduceIte, and_self, and_true, true_and, and_false, false_and, not_true, not_false_iff, reduceCtorEq, Nat.reduceEqDiff, Nat.reduceAdd, Nat.reduceSub, Nat.reduceMul, Nat.reduceLT, Nat.reduceLeDiff, Nat.reduceBEq, eq_self, ne_eq, Nat.add_eq_zero_iff, Nat.add_left_cancel_iff, Nat.add_right_cancel_iff, Nat.left_eq_add, Nat.add_eq_left, Bool.true_or, Bool.or_true, Bool.or_self, or_self, or_true, true_or, or_false, false_or, decide_true, decide_false, i_10, i_01, f13, f10, f36, r81, r94, ij, cj, ew, i5, c5, q1, w1', ck]
        exact ih
    · have w1' : nI p ≤ nI i := q2.mpr (by omega)
      rw [if_neg w1] at ih
      simp only [e_Md_rowsBut_5, e_Md_rowsBut_6, e_Md_rowsBut_9, e_Md_rowsBut_10, e_Md_rowsBut_13, e_Md_rowsBut_15, e_Md_rowsBut_17, e_Md_rowsBut_18, e_Md_rowsBut_21, e_Md_rowsBut_24, e_Md_rowsBut_25, e_Md_rowsBut_26, e_Md_rowsBut_29, e_Md_rowsBut_30, e_Md_rowsBut_31, e_Md_rowsBut_33, e_Md_rowsBut_36, e_Md_rowsBut_39, e_Md_rowsBut_41, e_Md_rowsBut_42, e_Md_rowsBut_45, e_Md_rowsBut_46, e_Md_rowsBut_47, e_Md_rowsBut_49, e_Md_rowsBut_52, e_Md_rowsBut_55, e_Md_rowsBut_56, e_Md_rowsBut_59, e_Md_rowsBut_60, e_Md_rowsBut_61, e_Md_rowsBut_64, m_get, m_put, m_ia, m_is, m_la, m_ls, fl_sf, fl_sa, fl_sl, fl_sq, ar_sf, ar_sa, ar_sl, ar_sq, lr_sf, lr_sa, lr_sl, lr_sq, qr_sf, qr_sa, qr_sl, qr_sq, sf_1, sf_2, sa_1, sa_2, sl_1, sl_2, Option.isSome_some, Option.map_some, Option.map_none, Option.toList_some, Option.toList_none, List.nil_append, List.cons_append, List.singleton_append, if_true, if_false, ↓reduceIte, and_self, and_true, true_and, and_false, false_and, not_true, not_false_iff, reduceCtorEq, Nat.reduceEqDiff, Nat.reduceAdd, Nat.reduceSub, Nat.reduceMul, Nat.reduceLT, Nat.reduceLeDiff, Nat.reduceBEq, eq_self, ne_eq, Nat.add_eq_zero_iff, Nat.add_left_cancel_iff, Nat.add_right_cancel_iff, Nat.left_eq_add, Nat.add_eq_left, Bool.true_or, Bool.or_true, Bool.or_self, or_self, or_true, true_or, or_false, false_or, decide_true, decide_false, i_10, i_01, f13, f36, r94, i5, c5, q1, w1']
      exact ih
end SI4
