
theorem cpI_up {g f : Nat → Int32} {o i m : Nat} {x : Int32} (hm : ¬ (o ≤ m ∧ m < o + i)) : upd (cpI g f o i) m x = cpI (upd g m x) f o i := by
  funext k
  unfold upd cpI
  by_cases w : k = m
  · simp only [if_pos w]
    rw [if_neg (by omega)]
  · simp only [if_neg w]
theorem m3 (j : Nat) : (3 : Int32) * nI j = nI (3 * j) := (Int32.ofNat_mul 3 j).symm
theorem m31 (j : Nat) : nI (3 * j) + 1 = nI (3 * j + 1) := nI_1 _
theorem m32 (j : Nat) : nI (3 * j) + 2 = nI (3 * j + 2) := nI_add _ 2
def sV1 (σ : Nat → Nat → Int32) (i : Nat) : Nat → Nat → Int32 := us (us σ 83 (cpI (σ 83) (σ 79) 0 i)) 84 (cpI (σ 84) (fun _ => 0) 0 i)
def sV2 (σ : Nat → Nat → Int32) (i : Nat) : Nat → Nat → Int32 := us (us (sV1 σ 24) 84 (cpI (cpI (σ 84) (fun _ => 0) 0 24) (σ 76) 0 i)) 80 (cpI (σ 80) (σ 77) 0 i)
def nV3 (σ : Nat → Nat → Int32) (p i : Nat) : Nat → Int32 := cpI (cpI (cpI (cpI (σ 84) (fun _ => 0) 0 24) (σ 76) 0 p) (fun j => σ 78 (3 * j + 2)) 5 i) (fun j => σ 78 (3 * j)) 11 i
def sV3 (σ : Nat → Nat → Int32) (p i : Nat) : Nat → Nat → Int32 := us (us (us (sV2 σ p) 81 (cpI (σ 81) (fun j => σ 78 (3 * j)) 0 i)) 82 (cpI (σ 82) (fun j => σ 78 (3 * j + 1)) 0 i)) 84 (nV3 σ p i)
def tV (τ : Nat → Nat → Int32) (p t n : Nat) : Nat → Nat → Int32 := ut (ut (ut (ut (ut τ 75 13 (nI p)) 75 14 (nI t)) 75 15 (nI n)) 75 16 (τ 75 7)) 75 17 (τ 75 8)
theorem us_cm {σ : Nat → Nat → Int32} {a b : Nat} {x y : Nat → Int32} (h : a ≠ b) : us (us σ a x) b y = us (us σ b y) a x := by
  funext k
  unfold us
  by_cases w : k = a
  · rw [if_pos w, if_neg (by omega), if_pos w]
  · rw [if_neg w]
    by_cases w2 : k = b
    · simp only [if_pos w2, if_neg w]
    · simp only [if_neg w2, if_neg w]
theorem us_us {σ : Nat → Nat → Int32} {a : Nat} {x y : Nat → Int32} : us (us σ a x) a y = us σ a y := by
  funext k
  unfold us
  by_cases w : k = a
  · rw [if_pos w, if_pos w]
  · rw [if_neg w, if_neg w, if_neg w]
theorem us_id {σ : Nat → Nat → Int32} {a : Nat} {x : Nat → Int32} (h : σ a = x) : us σ a x = σ := by
  funext k
  unfold us
  by_cases w : k = a
  · rw [if_pos w, w, h]
  · rw [if_neg w]
section VL
variable {h : xH} {σ τ : Nat → Nat → Int32} {v s : Nat} {q : Nat → Nat} {e1 e2 : Int64} {p t n : Nat}
theorem vl_4 (g : xH) (H : Hp g (sV3 σ p t) (tV τ p t n) v s q e1 e2) (x1 : Int32) : ∃ h', xR none 5 M_Md_village 204 [some (.ref 75), some (.int x1)] [] g = some (some (.int (10 * nI p + nI t)), h') ∧ Hp h' (us (sV3 σ p t) 96 (upd (upd (σ 96) 0 0) 1 0)) (ut (tV τ p t n) 75 23 0) v s q e1 e2 := by
  have H1 := Hp_sf (c := 9) H (a := 75) (k := 23) rfl rfl 0
  have H2 := Hp_sa (t := 2) (n := 2) (Hp_sa (t := 2) (n := 2) H1 (a := 96) rfl rfl (upd (σ 96) 0 0)) (a := 96) rfl rfl (upd (upd (σ 96) 0 0) 1 0)
  rw [us_us] at H2
  refine ⟨_, ?_, H2⟩
  have f13 := hI H 75 9 13 rfl rfl
  have f14 := hI H 75 9 14 rfl rfl
  have f23 := hI H 75 9 23 rfl rfl
  have f39 := hR H 75 9 39 96 rfl rfl
  have r96 := hA H 96 2 2 rfl rfl
  rw [show tV τ p t n 75 13 = nI p from rfl] at f13
  rw [show tV τ p t n 75 14 = nI t from rfl] at f14
  rw [show sV3 σ p t 96 = σ 96 from rfl] at r96
  simp only [e_Md_village_204, e_Md_village_205, e_Md_village_206, e_Md_village_209, e_Md_village_210, e_Md_village_213, e_Md_village_214, e_Md_village_215, e_Md_village_216, e_Md_village_217, e_Md_village_220, e_Md_village_221, e_Md_village_222, e_Md_village_223, e_Md_village_225, e_Md_village_226, e_Md_village_229, e_Md_village_230, e_Md_village_231, e_Md_village_234, e_Md_village_235, m_get, m_put, m_ia, m_is, m_la, m_ls, fl_sf, fl_sa, fl_sl, fl_sq, ar_sf, ar_sa, ar_sl, ar_sq, lr_sf, lr_sa, lr_sl, lr_sq, qr_sf, qr_sa, qr_sl, qr_sq, sf_1, sf_2, sa_1, sa_2, sl_1, sl_2, Option.isSome_some, Option.map_some, Option.map_none, Option.toList_some, Option.toList_none, List.nil_append, List.cons_append, List.singleton_append, if_true, if_false, ↓reduceIte, and_self, and_true, true_and, and_false, false_and, not_true, not_false_iff, reduceCtorEq, Nat.reduceEqDiff, Nat.reduceAdd, Nat.reduceSub, Nat.reduceMul, Nat.reduceLT, Nat.reduceLeDiff, Nat.reduceBEq, eq_self, ne_eq, Nat.add_eq_zero_iff, Nat.add_left_cancel_iff, Nat.add_right_cancel_iff, Nat.left_eq_add, Nat.add_eq_left, Bool.true_or, Bool.or_true, Bool.or_self, or_self, or_true, true_or, or_false, false_or, decide_true, decide_false, i_10, i_01, f13, f14, f23, f39, r96, in0_2, in1_2, cl0, cl1, nar0]
theorem vl_3 (t6 : t ≤ 6) : ∀ i, i ≤ t → ∀ g, Hp g (sV3 σ p i) (tV τ p t n) v s q e1 e2 → ∃ h', xR none 5 M_Md_village 127 [some (.ref 75), some (.int (nI i))] [] g = some (some (.int (10 * nI p + nI t)), h') ∧ Hp h' (us (sV3 σ p t) 96 (upd (upd (σ 96) 0 0) 1 0)) (ut (tV τ p t n) 75 23 0) v s q e1 e2 := by
  refine loop_dn (P := fun i => ∀ g, Hp g (sV3 σ p i) (tV τ p t n) v s q e1 e2 → ∃ h', xR none 5 M_Md_village 127 [some (.ref 75), some (.int (nI i))] [] g = some (some (.int (10 * nI p + nI t)), h') ∧ Hp h' (us (sV3 σ p t) 96 (upd (upd (σ 96) 0 0) 1 0)) (ut (tV τ p t n) 75 23 0) v s q e1 e2) ?_ ?_
  · intro g H
    have f14 := hI H 75 9 14 rfl rfl
    rw [show tV τ p t n 75 14 = nI t from rfl] at f14
    obtain ⟨h', c, H'⟩ := vl_4 g H (nI t)
    exact ⟨h', by simp only [e_Md_village_127, e_Md_village_128, e_Md_village_129, e_Md_village_132, m_get, m_put, m_ia, m_is, m_la, m_ls, fl_sf, fl_sa, fl_sl, fl_sq, ar_sf, ar_sa, ar_sl, ar_sq, lr_sf, lr_sa, lr_sl, lr_sq, qr_sf, qr_sa, qr_sl, qr_sq, sf_1, sf_2, sa_1, sa_2, sl_1, sl_2, Option.isSome_some, Option.map_some, Option.map_none, Option.toList_some, Option.toList_none, List.nil_append, List.cons_append, List.singleton_append, if_true, if_false, ↓reduceIte, and_self, and_true, true_and, and_false, false_and, not_true, not_false_iff, reduceCtorEq, Nat.reduceEqDiff, Nat.reduceAdd, Nat.reduceSub, Nat.reduceMul, Nat.reduceLT, Nat.reduceLeDiff, Nat.reduceBEq, eq_self, ne_eq, Nat.add_eq_zero_iff, Nat.add_left_cancel_iff, Nat.add_right_cancel_iff, Nat.left_eq_add, Nat.add_eq_left, Bool.true_or, Bool.or_true, Bool.or_self, or_self, or_true, true_or, or_false, false_or, decide_true, decide_false, i_10, i_01, f14, Int32.le_refl]; exact c, H'⟩
  · intro i hi ih g H
    have q1 : ¬ nI t ≤ nI i := nI_ge hi (by omega)
    have i6 := xin_nI (show i < 6 by omega) (by decide)
    have c6 := nI_clamp (show i < 2 ^ 31 by omega)
    have i5 := xin_nI (show 5 + i < 24 by omega) (by decide)
    have c5 := nI_clamp (show 5 + i < 2 ^ 31 by omega)
    have i11 := xin_nI (show 11 + i < 24 by omega) (by decide)
    have c11 := nI_clamp (show 11 + i < 2 ^ 31 by omega)
    have j0 := xin_nI (show 3 * i < 18 by omega) (by decide)
    have k0 := nI_clamp (show 3 * i < 2 ^ 31 by omega)
    have j1 := xin_nI (show 3 * i + 1 < 18 by omega) (by decide)
    have k1 := nI_clamp (show 3 * i + 1 < 2 ^ 31 by omega)
    have j2 := xin_nI (show 3 * i + 2 < 18 by omega) (by decide)
    have k2 := nI_clamp (show 3 * i + 2 < 2 ^ 31 by omega)
    have f14 := hI H 75 9 14 rfl rfl
    rw [show tV τ p t n 75 14 = nI t from rfl] at f14
    have f10 := hR H 75 9 10 81 rfl rfl
    have f11 := hR H 75 9 11 82 rfl rfl
    have f2 := hR H 75 9 2 78 rfl rfl
    have f18 := hR H 75 9 18 84 rfl rfl
    have r81 := hA H 81 0 6 rfl rfl
    have r82 := hA H 82 0 6 rfl rfl
    have r78 := hA H 78 0 18 rfl rfl
    have r84 := hA H 84 0 24 rfl rfl
    rw [show sV3 σ p i 81 = cpI (σ 81) (fun j => σ 78 (3 * j)) 0 i from rfl] at r81
    rw [show sV3 σ p i 82 = cpI (σ 82) (fun j => σ 78 (3 * j + 1)) 0 i from rfl] at r82
    rw [show sV3 σ p i 78 = σ 78 from rfl] at r78
    rw [show sV3 σ p i 84 = nV3 σ p i from rfl] at r84
    have z81 := cpI_s (σ 81) (fun j => σ 78 (3 * j)) 0 i
    have z82 := cpI_s (σ 82) (fun j => σ 78 (3 * j + 1)) 0 i
    rw [Nat.zero_add] at z81 z82
    have zi : cpI (σ 81) (fun j => σ 78 (3 * j)) 0 (i + 1) i = σ 78 (3 * i) := by
      have := cpI_in (g := σ 81) (f := fun j => σ 78 (3 * j)) (o := 0) (i := i + 1) (k := i) (by omega)
      rw [Nat.zero_add] at this
      exact this
    have z84 : upd (upd (nV3 σ p i) (5 + i) (σ 78 (3 * i + 2))) (11 + i) (σ 78 (3 * i)) = nV3 σ p (i + 1) := by
      unfold nV3
      rw [cpI_up (by omega), ← cpI_s _ _ 11 i, ← cpI_s _ _ 5 i]
    have H1 := Hp_sa (t := 0) (n := 24) (Hp_sa (t := 0) (n := 24) (Hp_sa (t := 0) (n := 6) (Hp_sa (t := 0) (n := 6) H (a := 81) rfl rfl (cpI (σ 81) (fun j => σ 78 (3 * j)) 0 (i + 1))) (a := 82) rfl rfl (cpI (σ 82) (fun j => σ 78 (3 * j + 1)) 0 (i + 1))) (a := 84) rfl rfl (upd (nV3 σ p i) (5 + i) (σ 78 (3 * i + 2)))) (a := 84) rfl rfl (nV3 σ p (i + 1))
    have es : us (us (us (us (sV3 σ p i) 81 (cpI (σ 81) (fun j => σ 78 (3 * j)) 0 (i + 1))) 82 (cpI (σ 82) (fun j => σ 78 (3 * j + 1)) 0 (i + 1))) 84 (upd (nV3 σ p i) (5 + i) (σ 78 (3 * i + 2)))) 84 (nV3 σ p (i + 1)) = sV3 σ p (i + 1) := by
      unfold sV3
      funext k
      simp only [us]
      by_cases w4 : k = 84
      · simp only [w4, if_true]
      · by_cases w2 : k = 82
        · simp only [w2, if_true, Nat.reduceEqDiff, if_false]
        · by_cases w1 : k = 81
          · simp only [w1, if_true, Nat.reduceEqDiff, if_false]
          · simp only [w4, w2, w1, if_false]
    rw [es] at H1
    obtain ⟨h', c, H'⟩ := ih _ H1
    refine ⟨h', ?_, H'⟩
    rw [← nI_1] at c
    rw [e_Md_village_127]
    simp only [e_Md_village_128, e_Md_village_129, e_Md_village_132, e_Md_village_135, e_Md_village_136, e_Md_village_139, e_Md_village_140, e_Md_village_141, e_Md_village_144, e_Md_village_145, e_Md_village_146, e_Md_village_147, e_Md_village_148, e_Md_village_149, e_Md_village_150, e_Md_village_153, e_Md_village_154, e_Md_village_155, e_Md_village_158, e_Md_village_159, e_Md_village_160, e_Md_village_161, e_Md_village_162, e_Md_village_163, e_Md_village_164, e_Md_village_165, e_Md_village_166, e_Md_village_169, e_Md_village_170, e_Md_village_171, e_Md_village_172, e_Md_village_173, e_Md_village_176, e_Md_village_177, e_Md_village_178, e_Md_village_179, e_Md_village_180, e_Md_village_181, e_Md_village_182, e_Md_village_183, e_Md_village_184, e_Md_village_187, e_Md_village_189, e_Md_village_190, e_Md_village_191, e_Md_village_192, e_Md_village_195, e_Md_village_196, e_Md_village_197, e_Md_village_198, e_Md_village_201, m_get, m_put, m_ia, m_is, m_la, m_ls, fl_sf, fl_sa, fl_sl, fl_sq, ar_sf, ar_sa, ar_sl, ar_sq, lr_sf, lr_sa, lr_sl, lr_sq, qr_sf, qr_sa, qr_sl, qr_sq, sf_1, sf_2, sa_1, sa_2, sl_1, sl_2, sa_sa, Option.isSome_some, Option.map_some, Option.map_none, Option.toList_some, Option.toList_none, List.nil_append, List.cons_append, List.singleton_append, if_true, if_false, ↓reduceIte, and_self, and_true, true_and, and_false, false_and, not_true, not_false_iff, reduceCtorEq, Nat.reduceEqDiff, Nat.reduceAdd, Nat.reduceSub, Nat.reduceMul, Nat.reduceLT, Nat.reduceLeDiff, Nat.reduceBEq, eq_self, ne_eq, Nat.add_eq_zero_iff, Nat.add_left_cancel_iff, Nat.add_right_cancel_iff, Nat.left_eq_add, Nat.add_eq_left, Bool.true_or, Bool.or_true, Bool.or_self, or_self, or_true, true_or, or_false, false_or, decide_true, decide_false, i_10, i_01, f14, f10, f11, f2, f18, r81, r82, r78, r84, q1, i6, c6, i5, c5, i11, c11, j0, k0, j1, k1, j2, k2, m3, m31, m32, a5, a11, z81, z82, zi, z84]
    simp only [sa_sa] at c
    exact c
theorem vl_2 (p5 : p ≤ 5) (t6 : t ≤ 6) : ∀ i, i ≤ p → ∀ g, Hp g (sV2 σ i) (tV τ p t n) v s q e1 e2 → ∃ h', xR none 5 M_Md_village 87 [some (.ref 75), some (.int (nI i))] [] g = some (some (.int (10 * nI p + nI t)), h') ∧ Hp h' (us (sV3 σ p t) 96 (upd (upd (σ 96) 0 0) 1 0)) (ut (tV τ p t n) 75 23 0) v s q e1 e2 := by
  refine loop_dn (P := fun i => ∀ g, Hp g (sV2 σ i) (tV τ p t n) v s q e1 e2 → ∃ h', xR none 5 M_Md_village 87 [some (.ref 75), some (.int (nI i))] [] g = some (some (.int (10 * nI p + nI t)), h') ∧ Hp h' (us (sV3 σ p t) 96 (upd (upd (σ 96) 0 0) 1 0)) (ut (tV τ p t n) 75 23 0) v s q e1 e2) ?_ ?_
  · intro g H
    have f13 := hI H 75 9 13 rfl rfl
    rw [show tV τ p t n 75 13 = nI p from rfl] at f13
    have es : sV3 σ p 0 = sV2 σ p := by
      unfold sV3 nV3
      rw [cpI_0, cpI_0, cpI_0, cpI_0, us_id (show sV2 σ p 81 = σ 81 from rfl), us_id (show sV2 σ p 82 = σ 82 from rfl), us_id]
      rfl
    obtain ⟨h', c, H'⟩ := vl_3 (σ := σ) (p := p) t6 0 (by omega) g (by rw [es]; exact H)
    rw [nI_0] at c
    exact ⟨h', by simp only [e_Md_village_87, e_Md_village_88, e_Md_village_89, e_Md_village_92, e_Md_village_125, e_Md_village_126, m_get, m_put, m_ia, m_is, m_la, m_ls, fl_sf, fl_sa, fl_sl, fl_sq, ar_sf, ar_sa, ar_sl, ar_sq, lr_sf, lr_sa, lr_sl, lr_sq, qr_sf, qr_sa, qr_sl, qr_sq, sf_1, sf_2, sa_1, sa_2, sl_1, sl_2, Option.isSome_some, Option.map_some, Option.map_none, Option.toList_some, Option.toList_none, List.nil_append, List.cons_append, List.singleton_append, if_true, if_false, ↓reduceIte, and_self, and_true, true_and, and_false, false_and, not_true, not_false_iff, reduceCtorEq, Nat.reduceEqDiff, Nat.reduceAdd, Nat.reduceSub, Nat.reduceMul, Nat.reduceLT, Nat.reduceLeDiff, Nat.reduceBEq, eq_self, ne_eq, Nat.add_eq_zero_iff, Nat.add_left_cancel_iff, Nat.add_right_cancel_iff, Nat.left_eq_add, Nat.add_eq_left, Bool.true_or, Bool.or_true, Bool.or_self, or_self, or_true, true_or, or_false, false_or, decide_true, decide_false, i_10, i_01, f13, Int32.le_refl]; exact c, H'⟩
  · intro i hi ih g H
    have q1 : ¬ nI p ≤ nI i := nI_ge hi (by omega)
    have i5 := xin_nI (show i < 5 by omega) (by decide)
    have i24 := xin_nI (show i < 24 by omega) (by decide)
    have c5 := nI_clamp (show i < 2 ^ 31 by omega)
    have f13 := hI H 75 9 13 rfl rfl
    rw [show tV τ p t n 75 13 = nI p from rfl] at f13
    have f0 := hR H 75 9 0 76 rfl rfl
    have f1 := hR H 75 9 1 77 rfl rfl
    have f9 := hR H 75 9 9 80 rfl rfl
    have f18 := hR H 75 9 18 84 rfl rfl
    have r76 := hA H 76 0 5 rfl rfl
    have r77 := hA H 77 0 5 rfl rfl
    have r80 := hA H 80 0 5 rfl rfl
    have r84 := hA H 84 0 24 rfl rfl
    rw [show sV2 σ i 76 = σ 76 from rfl] at r76
    rw [show sV2 σ i 77 = σ 77 from rfl] at r77
    rw [show sV2 σ i 80 = cpI (σ 80) (σ 77) 0 i from rfl] at r80
    rw [show sV2 σ i 84 = cpI (cpI (σ 84) (fun _ => 0) 0 24) (σ 76) 0 i from rfl] at r84
    have z80 := cpI_s (σ 80) (σ 77) 0 i
    have z84 := cpI_s (cpI (σ 84) (fun _ => 0) 0 24) (σ 76) 0 i
    rw [Nat.zero_add] at z80 z84
    have H1 := Hp_sa (t := 0) (n := 5) (Hp_sa (t := 0) (n := 24) H (a := 84) rfl rfl (cpI (cpI (σ 84) (fun _ => 0) 0 24) (σ 76) 0 (i + 1))) (a := 80) rfl rfl (cpI (σ 80) (σ 77) 0 (i + 1))
    have es : us (us (sV2 σ i) 84 (cpI (cpI (σ 84) (fun _ => 0) 0 24) (σ 76) 0 (i + 1))) 80 (cpI (σ 80) (σ 77) 0 (i + 1)) = sV2 σ (i + 1) := by
      unfold sV2
      funext k
      simp only [us]
      by_cases w4 : k = 80
      · simp only [w4, if_true]
      · by_cases w2 : k = 84
        · simp only [w2, if_true, Nat.reduceEqDiff, if_false]
        · simp only [w4, w2, if_false]
    rw [es] at H1
    obtain ⟨h', c, H'⟩ := ih _ H1
    refine ⟨h', ?_, H'⟩
    rw [← nI_1] at c
    rw [e_Md_village_87]
    simp only [e_Md_village_88, e_Md_village_89, e_Md_village_92, e_Md_village_95, e_Md_village_96, e_Md_village_99, e_Md_village_100, e_Md_village_101, e_Md_village_104, e_Md_village_105, e_Md_village_106, e_Md_village_107, e_Md_village_108, e_Md_village_111, e_Md_village_112, e_Md_village_113, e_Md_village_116, e_Md_village_117, e_Md_village_118, e_Md_village_119, e_Md_village_122, m_get, m_put, m_ia, m_is, m_la, m_ls, fl_sf, fl_sa, fl_sl, fl_sq, ar_sf, ar_sa, ar_sl, ar_sq, lr_sf, lr_sa, lr_sl, lr_sq, qr_sf, qr_sa, qr_sl, qr_sq, sf_1, sf_2, sa_1, sa_2, sl_1, sl_2, Option.isSome_some, Option.map_some, Option.map_none, Option.toList_some, Option.toList_none, List.nil_append, List.cons_append, List.singleton_append, if_true, if_false, ↓reduceIte, and_self, and_true, true_and, and_false, false_and, not_true, not_false_iff, reduceCtorEq, Nat.reduceEqDiff, Nat.reduceAdd, Nat.reduceSub, Nat.reduceMul, Nat.reduceLT, Nat.reduceLeDiff, Nat.reduceBEq, eq_self, ne_eq, Nat.add_eq_zero_iff, Nat.add_left_cancel_iff, Nat.add_right_cancel_iff, Nat.left_eq_add, Nat.add_eq_left, Bool.true_or, Bool.or_true, Bool.or_self, or_self, or_true, true_or, or_false, false_or, decide_true, decide_false, i_10, i_01, f13, f0, f1, f9, f18, r76, r77, r80, r84, q1, i5, i24, c5, z80, z84]
    exact c
theorem vl_1 (p5 : p ≤ 5) (t6 : t ≤ 6) : ∀ i, i ≤ 24 → ∀ g, Hp g (sV1 σ i) (tV τ p t n) v s q e1 e2 → ∃ h', xR none 5 M_Md_village 54 [some (.ref 75), some (.int (nI i))] [] g = some (some (.int (10 * nI p + nI t)), h') ∧ Hp h' (us (sV3 σ p t) 96 (upd (upd (σ 96) 0 0) 1 0)) (ut (tV τ p t n) 75 23 0) v s q e1 e2 := by
  refine loop_dn (P := fun i => ∀ g, Hp g (sV1 σ i) (tV τ p t n) v s q e1 e2 → ∃ h', xR none 5 M_Md_village 54 [some (.ref 75), some (.int (nI i))] [] g = some (some (.int (10 * nI p + nI t)), h') ∧ Hp h' (us (sV3 σ p t) 96 (upd (upd (σ 96) 0 0) 1 0)) (ut (tV τ p t n) 75 23 0) v s q e1 e2) ?_ ?_
  · intro g H
    have es : sV2 σ 0 = sV1 σ 24 := by
      unfold sV2
      rw [cpI_0, cpI_0, us_id, us_id]
      · rfl
      · rfl
    obtain ⟨h', c, H'⟩ := vl_2 (σ := σ) p5 t6 0 (by omega) g (by rw [es]; exact H)
    rw [nI_0] at c
    have k24 : (24 : Int32) ≤ nI 24 := Int32.le_refl _
    exact ⟨h', by simp only [e_Md_village_54, e_Md_village_55, e_Md_village_57, e_Md_village_85, e_Md_village_86, m_get, m_put, m_ia, m_is, m_la, m_ls, fl_sf, fl_sa, fl_sl, fl_sq, ar_sf, ar_sa, ar_sl, ar_sq, lr_sf, lr_sa, lr_sl, lr_sq, qr_sf, qr_sa, qr_sl, qr_sq, sf_1, sf_2, sa_1, sa_2, sl_1, sl_2, Option.isSome_some, Option.map_some, Option.map_none, Option.toList_some, Option.toList_none, List.nil_append, List.cons_append, List.singleton_append, if_true, if_false, ↓reduceIte, and_self, and_true, true_and, and_false, false_and, not_true, not_false_iff, reduceCtorEq, Nat.reduceEqDiff, Nat.reduceAdd, Nat.reduceSub, Nat.reduceMul, Nat.reduceLT, Nat.reduceLeDiff, Nat.reduceBEq, eq_self, ne_eq, Nat.add_eq_zero_iff, Nat.add_left_cancel_iff, Nat.add_right_cancel_iff, Nat.left_eq_add, Nat.add_eq_left, Bool.true_or, Bool.or_true, Bool.or_self, or_self, or_true, true_or, or_false, false_or, decide_true, decide_false, i_10, i_01, k24]; exact c, H'⟩
  · intro i hi ih g H
    have q1 : ¬ (24 : Int32) ≤ nI i := nI_ge (b := 24) hi (by decide)
    have i24 := xin_nI hi (by decide)
    have c24 := nI_clamp (show i < 2 ^ 31 by omega)
    have f3 := hR H 75 9 3 79 rfl rfl
    have f12 := hR H 75 9 12 83 rfl rfl
    have f18 := hR H 75 9 18 84 rfl rfl
    have r79 := hA H 79 0 24 rfl rfl
    have r83 := hA H 83 0 24 rfl rfl
    have r84 := hA H 84 0 24 rfl rfl
    rw [show sV1 σ i 79 = σ 79 from rfl] at r79
    rw [show sV1 σ i 83 = cpI (σ 83) (σ 79) 0 i from rfl] at r83
    rw [show sV1 σ i 84 = cpI (σ 84) (fun _ => 0) 0 i from rfl] at r84
    have z83 := cpI_s (σ 83) (σ 79) 0 i
    have z84 := cpI_s (σ 84) (fun _ => 0) 0 i
    rw [Nat.zero_add] at z83 z84
    have H1 := Hp_sa (t := 0) (n := 24) (Hp_sa (t := 0) (n := 24) H (a := 83) rfl rfl (cpI (σ 83) (σ 79) 0 (i + 1))) (a := 84) rfl rfl (cpI (σ 84) (fun _ => 0) 0 (i + 1))
    have es : us (us (sV1 σ i) 83 (cpI (σ 83) (σ 79) 0 (i + 1))) 84 (cpI (σ 84) (fun _ => 0) 0 (i + 1)) = sV1 σ (i + 1) := by
      unfold sV1
      funext k
      simp only [us]
      by_cases w4 : k = 84
      · simp only [w4, if_true]
      · by_cases w2 : k = 83
        · simp only [w2, if_true, Nat.reduceEqDiff, if_false]
        · simp only [w4, w2, if_false]
    rw [es] at H1
    obtain ⟨h', c, H'⟩ := ih _ H1
    refine ⟨h', ?_, H'⟩
    rw [← nI_1] at c
    rw [e_Md_village_54]
    simp only [e_Md_village_55, e_Md_village_57, e_Md_village_60, e_Md_village_61, e_Md_village_64, e_Md_village_65, e_Md_village_66, e_Md_village_69, e_Md_village_70, e_Md_village_71, e_Md_village_72, e_Md_village_73, e_Md_village_76, e_Md_village_77, e_Md_village_78, e_Md_village_79, e_Md_village_82, m_get, m_put, m_ia, m_is, m_la, m_ls, fl_sf, fl_sa, fl_sl, fl_sq, ar_sf, ar_sa, ar_sl, ar_sq, lr_sf, lr_sa, lr_sl, lr_sq, qr_sf, qr_sa, qr_sl, qr_sq, sf_1, sf_2, sa_1, sa_2, sl_1, sl_2, Option.isSome_some, Option.map_some, Option.map_none, Option.toList_some, Option.toList_none, List.nil_append, List.cons_append, List.singleton_append, if_true, if_false, ↓reduceIte, and_self, and_true, true_and, and_false, false_and, not_true, not_false_iff, reduceCtorEq, Nat.reduceEqDiff, Nat.reduceAdd, Nat.reduceSub, Nat.reduceMul, Nat.reduceLT, Nat.reduceLeDiff, Nat.reduceBEq, eq_self, ne_eq, Nat.add_eq_zero_iff, Nat.add_left_cancel_iff, Nat.add_right_cancel_iff, Nat.left_eq_add, Nat.add_eq_left, Bool.true_or, Bool.or_true, Bool.or_self, or_self, or_true, true_or, or_false, false_or, decide_true, decide_false, i_10, i_01, f3, f12, f18, r79, r83, r84, q1, i24, c24, z83, z84]
    exact c
theorem cM_village {g : xH} (c : xC M_Md_readText [.ref 75] h = some (some (.int (-9)), g)) (h75 : (fl h 75 9 0).isSome = true) (H : Hp g σ τ v s q e1 e2) (p5 : p ≤ 5) (t6 : t ≤ 6) (k4 : τ 75 4 = nI p) (k5 : τ 75 5 = nI t) (k6 : τ 75 6 = nI n) : ∃ h', xC M_Md_village [.ref 75] h = some (some (.int (10 * nI p + nI t)), h') ∧ Hp h' (us (sV3 σ p t) 96 (upd (upd (σ 96) 0 0) 1 0)) (ut (tV τ p t n) 75 23 0) v s q e1 e2 := by
  have cc := call_v (lv := 5) c h75 (by decide) (Nat.le_of_ble_eq_true rfl)
  have H1 := Hp_sf (c := 9) (Hp_sf (c := 9) (Hp_sf (c := 9) (Hp_sf (c := 9) (Hp_sf (c := 9) H (a := 75) (k := 13) rfl rfl (nI p)) (a := 75) (k := 14) rfl rfl (nI t)) (a := 75) (k := 15) rfl rfl (nI n)) (a := 75) (k := 16) rfl rfl (τ 75 7)) (a := 75) (k := 17) rfl rfl (τ 75 8)
  have es : sV1 σ 0 = σ := by
    unfold sV1
    rw [cpI_0, cpI_0, us_id, us_id] <;> rfl
  obtain ⟨h', c', H'⟩ := vl_1 (σ := σ) (τ := τ) (n := n) p5 t6 0 (by omega) _ (by rw [es]; exact H1)
  refine ⟨h', ?_, H'⟩
  rw [nI_0] at c'
  have f4 := hI H 75 9 4 rfl rfl
  have f5 := hI H 75 9 5 rfl rfl
  have f6 := hI H 75 9 6 rfl rfl
  have f7 := hI H 75 9 7 rfl rfl
  have f8 := hI H 75 9 8 rfl rfl
  have f13 := hI H 75 9 13 rfl rfl
  have f14 := hI H 75 9 14 rfl rfl
  have f15 := hI H 75 9 15 rfl rfl
  have f16 := hI H 75 9 16 rfl rfl
  have f17 := hI H 75 9 17 rfl rfl
  rw [k4] at f4
  rw [k5] at f5
  rw [k6] at f6
  simp only [k_Md_village, e_Md_village_0, e_Md_village_1, e_Md_village_4, e_Md_village_6, e_Md_village_9, e_Md_village_11, e_Md_village_12, e_Md_village_13, e_Md_village_14, e_Md_village_17, e_Md_village_20, e_Md_village_21, e_Md_village_22, e_Md_village_25, e_Md_village_28, e_Md_village_29, e_Md_village_30, e_Md_village_33, e_Md_village_36, e_Md_village_37, e_Md_village_38, e_Md_village_41, e_Md_village_44, e_Md_village_45, e_Md_village_46, e_Md_village_49, e_Md_village_52, e_Md_village_53, m_get, m_put, m_ia, m_is, m_la, m_ls, fl_sf, fl_sa, fl_sl, fl_sq, ar_sf, ar_sa, ar_sl, ar_sq, lr_sf, lr_sa, lr_sl, lr_sq, qr_sf, qr_sa, qr_sl, qr_sq, sf_1, sf_2, sa_1, sa_2, sl_1, sl_2, Option.isSome_some, Option.map_some, Option.map_none, Option.toList_some, Option.toList_none, List.nil_append, List.cons_append, List.singleton_append, if_true, if_false, ↓reduceIte, and_self, and_true, true_and, and_false, false_and, not_true, not_false_iff, reduceCtorEq, Nat.reduceEqDiff, Nat.reduceAdd, Nat.reduceSub, Nat.reduceMul, Nat.reduceLT, Nat.reduceLeDiff, Nat.reduceBEq, eq_self, ne_eq, Nat.add_eq_zero_iff, Nat.add_left_cancel_iff, Nat.add_right_cancel_iff, Nat.left_eq_add, Nat.add_eq_left, Bool.true_or, Bool.or_true, Bool.or_self, or_self, or_true, true_or, or_false, false_or, decide_true, decide_false, i_10, i_01, cc, f4, f5, f6, f7, f8, f13, f14, f15, f16, f17]
  exact c'
end VL
