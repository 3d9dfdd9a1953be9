
theorem int_inj {a b : Int32} (h : some (Value.int a) = some (Value.int b)) : a = b := by
  cases h
  rfl
theorem row_inj {n m : Nat} {f g : Nat → Int32} (h : some (n, f) = some (m, g)) : f = g := by
  cases h
  rfl
section RDALL
variable {h : xH} {σ τ : Nat → Nat → Int32} {v s : Nat} {q : Nat → Nat} {e1 e2 : Int64} {p t n A X len : Nat}
theorem Hp_rda (H : Hp h σ τ v s q e1 e2) : RdA h := by
  obtain ⟨_, _, _, ⟨y0, r0⟩, ⟨y1, r1⟩, ⟨y2, r2⟩, ⟨y3, r3⟩, ⟨y4, r4⟩⟩ := H.2.2.2.2.2.2.2.1
  exact ⟨y0, y1, y2, y3, y4, r0, r1, r2, r3, r4⟩
theorem Hp_mrd (H : Hp h σ τ v s q e1 e2) (hl : τ 75 20 = nI len) {a : Nat} (ha : τ 75 21 = nI a) : Mrd h len a (τ 75 22) (τ 75 4) (τ 75 5) (τ 75 6) (τ 75 7) (τ 75 8) (σ 76) (σ 77) (σ 78) (σ 79) (σ 85) := by
  refine ⟨⟨hR H 75 9 0 76 rfl rfl, hR H 75 9 1 77 rfl rfl, hR H 75 9 2 78 rfl rfl, hR H 75 9 3 79 rfl rfl, hR H 75 9 19 85 rfl rfl⟩, ⟨hI H 75 9 4 rfl rfl, hI H 75 9 5 rfl rfl, hI H 75 9 6 rfl rfl, hI H 75 9 7 rfl rfl, hI H 75 9 8 rfl rfl, ?_, ?_, hI H 75 9 22 rfl rfl⟩, ⟨hA H 76 0 5 rfl rfl, hA H 77 0 5 rfl rfl, hA H 78 0 18 rfl rfl, hA H 79 0 24 rfl rfl, hA H 85 0 90 rfl rfl⟩⟩
  · rw [← hl]; exact hI H 75 9 20 rfl rfl
  · rw [← ha]; exact hI H 75 9 21 rfl rfl
theorem rd_all (H : Hp h σ τ v s q e1 e2) (rt : rlT len σ τ) {w : Nat} (hw : w = 19 - v) : ∃ (r : Int32) (h1 : xH) (σ1 τ1 : Nat → Nat → Int32), xC M_Reader_readInto [.ref 3, .ref w, .ref 2, .int (nI len)] h = some (some (.int r), h1) ∧ Hp h1 σ1 τ1 v s q e1 e2 ∧ (∀ a, ¬ PP w a → σ1 a = σ a) ∧ (∀ a, ¬ PP w a → τ1 a = τ a) ∧
    ∀ (g : xH) (σg τg : Nat → Nat → Int32) (v' s' : Nat) (q' : Nat → Nat) (d1 d2 : Int64), Hp g σg τg v' s' q' d1 d2 → (∀ a, 76 ≤ a ∧ a ≤ 85 → σg a = σ a) → (∀ k, ¬ k = 23 → τg 75 k = τ 75 k) → ∃ (g' : xH) (σ' τ' : Nat → Nat → Int32), xC M_Md_readText [.ref 75] g = some (some (.int r), g') ∧ Hp g' σ' τ' v' s' q' d1 d2 ∧ (∀ a, ¬ PR a → σ' a = σg a) ∧ (∀ a k, ¬ (a = 75 ∧ KR k) → τ' a k = τg a k) ∧
      (r = -9 → ∃ p t n, RP (τ1 w 0) (τ1 w 1) p t n (σ1 (w + 1)) (σ1 (w + 2)) (σ1 (w + 3)) (σ1 (w + 4)) (σ1 (w + 5)) (σ1 (w + 6)) (σ1 (w + 7)) (σ1 (w + 8)) (σ1 (w + 9)) (σ1 (w + 10)) (τ' 75 7) (τ' 75 8) (σ' 76) (σ' 77) (σ' 78) (σ' 79) ∧ (τ1 w 2 = 0 ∧ τ1 w 3 = nI p ∧ τ1 w 4 = nI t ∧ τ1 w 5 = nI n) ∧ τ' 75 4 = nI p ∧ τ' 75 5 = nI t ∧ τ' 75 6 = nI n) := by
  have hv := H.2.2.2.1.1
  have hw' : w = 4 ∨ w = 15 := by omega
  obtain ⟨a, ha⟩ := nI_all (τ 75 21)
  obtain ⟨r, h1, c1, R1, V1, f1, hm⟩ := read_both (v := w) (len := len) (tx := σ 2) (by omega) rt.1 (Hp_rda H) (hA H 2 0 90 rfl rfl) ⟨_, _, _, _, _, _, _, _, _, _, _, _, _, _, _, _, Hp_vil H hw'⟩ (a := a) (ft := τ 75 22) (pe := τ 75 4) (th := τ 75 5) (ne := τ 75 6) (ru := τ 75 7) (hi := τ 75 8) (rc := σ 76) (rk := σ 77) (rt := σ 78) (rn := σ 79)
  obtain ⟨σ1, τ1, H1, s1, t1⟩ := Hp_rd H hw R1 V1 f1
  refine ⟨r, h1, σ1, τ1, c1, H1, s1, t1, fun g σg τg v' s' q' d1 d2 Hg sg tg => ?_⟩
  have Mg := Hp_mrd Hg (len := len) (a := a) (by rw [tg _ (by omega)]; exact rt.2.2.1) (by rw [tg _ (by omega)]; exact ha)
  rw [sg 76 (by omega), sg 77 (by omega), sg 78 (by omega), sg 79 (by omega), sg 85 (by omega), tg _ (by omega), tg _ (by omega), tg _ (by omega), tg _ (by omega), tg _ (by omega), tg _ (by omega), ← rt.2.2.2] at Mg
  obtain ⟨g', c2, M2, f2, hr⟩ := hm g Mg
  obtain ⟨σ', τ', H2, s2, t2⟩ := Hp_md Hg M2 f2
  refine ⟨g', σ', τ', c2, H2, s2, t2, fun hr9 => ?_⟩
  obtain ⟨la, ca, p, t, n, co, kn, ow, so, gr, ho, ou, np, ns, nd, a', f', ru', hi', rc', rk', rt', rn', V, M, rp⟩ := hr hr9
  have W := Hp_vil H1 hw'
  obtain ⟨⟨v0, v1, v2, v3, v4, v5⟩, _, a1, a2, a3, a4, a5', a6, a7, a8, a9, a10⟩ := V
  obtain ⟨⟨u0, u1, u2, u3, u4, u5⟩, _, b1, b2, b3, b4, b5, b6, b7, b8, b9, b10⟩ := W
  obtain ⟨_, ⟨z4, z5, z6, z7, z8, z20, z21, z22⟩, y76, y77, y78, y79, y85⟩ := M
  have i0 := int_inj (v0.symm.trans u0)
  have i1 := int_inj (v1.symm.trans u1)
  have i2 := int_inj (v2.symm.trans u2)
  have i3 := int_inj (v3.symm.trans u3)
  have i4 := int_inj (v4.symm.trans u4)
  have i5 := int_inj (v5.symm.trans u5)
  have j1 := row_inj (a1.symm.trans b1)
  have j2 := row_inj (a2.symm.trans b2)
  have j3 := row_inj (a3.symm.trans b3)
  have j4 := row_inj (a4.symm.trans b4)
  have j5 := row_inj (a5'.symm.trans b5)
  have j6 := row_inj (a6.symm.trans b6)
  have j7 := row_inj (a7.symm.trans b7)
  have j8 := row_inj (a8.symm.trans b8)
  have j9 := row_inj (a9.symm.trans b9)
  have j10 := row_inj (a10.symm.trans b10)
  have m4 := int_inj (z4.symm.trans (hI H2 75 9 4 rfl rfl))
  have m5 := int_inj (z5.symm.trans (hI H2 75 9 5 rfl rfl))
  have m6 := int_inj (z6.symm.trans (hI H2 75 9 6 rfl rfl))
  have m7 := int_inj (z7.symm.trans (hI H2 75 9 7 rfl rfl))
  have m8 := int_inj (z8.symm.trans (hI H2 75 9 8 rfl rfl))
  have k6 := row_inj (y76.symm.trans (hA H2 76 0 5 rfl rfl))
  have k7 := row_inj (y77.symm.trans (hA H2 77 0 5 rfl rfl))
  have k8 := row_inj (y78.symm.trans (hA H2 78 0 18 rfl rfl))
  have k9 := row_inj (y79.symm.trans (hA H2 79 0 24 rfl rfl))
  rw [i0, i1, j1, j2, j3, j4, j5, j6, j7, j8, j9, j10, m7, m8, k6, k7, k8, k9] at rp
  exact ⟨p, t, n, rp, ⟨i2.symm, i3.symm, i4.symm, i5.symm⟩, m4.symm, m5.symm, m6.symm⟩
theorem Hp_3 (H : Hp h σ τ v s q e1 e2) : (fl h 3 5 0).isSome = true := by
  obtain ⟨y, hy⟩ := H.2.2.2.2.2.2.2.1.2.2.2.1
  rw [hy]
  rfl
theorem op_fault (R : Rel h) : Op h M_Sp_fault M_Md_fault [] := by
  obtain ⟨σ, τ, v, s, q, e, p, t, n, len, A, X, z, H, rv, rt, ra, rk, rs, ry⟩ := R
  have m := H.2.2.2
  have hv := m.1.1
  obtain ⟨r, h1, σ1, τ1, c1, H1, s1, t1, hm⟩ := rd_all H rt (w := 19 - v) rfl
  have np : ∀ j, ¬ (j = 3 ∨ (19 - v ≤ j ∧ j ≤ 19 - v + 10)) → ¬ PP (19 - v) j := fun j hj => hj
  obtain ⟨h2, σ2, τ2, c2, H2, s2, t2, _⟩ := hm h1 σ1 τ1 v s q e e H1 (fun a ha => s1 a (np a (by omega))) (fun k hk => by rw [t1 75 (np 75 (by omega))])
  have cc := call_v (lv := 6) c1 (Hp_3 H) (by decide) (Nat.le_of_ble_eq_true rfl)
  have dd := call_v (lv := 5) c2 (Hp_75 H1) (by decide) (Nat.le_of_ble_eq_true rfl)
  have f0 := hR H 1 8 0 2 rfl rfl
  have f2 := hR H 1 8 2 3 rfl rfl
  have f1 := hI H 1 8 1 rfl rfl
  rw [rt.2.1] at f1
  have f4 := m.1.2.2
  have S : ∀ a, ¬ (a = 3 ∨ (19 - v ≤ a ∧ a ≤ 19 - v + 10) ∨ (76 ≤ a ∧ a ≤ 79)) → σ2 a = σ a := fun a ha => by rw [s2 a (fun z => ha (Or.inr (Or.inr z))), s1 a (np a (by omega))]
  have T : ∀ a k, ¬ (a = 3 ∨ (19 - v ≤ a ∧ a ≤ 19 - v + 10) ∨ (a = 75 ∧ (k = 4 ∨ k = 5 ∨ k = 6 ∨ k = 7 ∨ k = 8 ∨ k = 21 ∨ k = 22))) → τ2 a k = τ a k := fun a k ha => by rw [t2 a k (fun z => ha (Or.inr (Or.inr z))), t1 a (np a (by omega))]
  refine ⟨.int r, h1, h2, ?_, ?_, ⟨σ2, τ2, v, s, q, e, p, t, n, len, A, X, z, H2, rlV_cg rv (fun a ha => S a (by omega)) (fun k hk => T _ _ (by omega)) (fun k hk => T _ _ (by omega)), rlT_cg rt ⟨S _ (by omega), S _ (by omega)⟩ ⟨T _ _ (by omega), T _ _ (by omega)⟩, rlA_cg ra ⟨S _ (by omega), S _ (by omega), S _ (by omega)⟩ ⟨T _ _ (by omega), T _ _ (by omega), T _ _ (by omega)⟩ (fun o ho => funext fun k => T _ _ (by omega)), rlK_cg rk (fun a ha => S a (by omega)) (fun b k hk => T _ _ (by omega)), rlS_cg rs (fun a ha => S a (by omega)) ⟨T _ _ (by omega), T _ _ (by omega)⟩, rlY_cg ry (S _ (by omega))⟩, Hp_1 H, Hp_75 H1⟩
  · simp only [k_Sp_fault, e_Sp_fault_0, e_Sp_fault_1, e_Sp_fault_4, e_Sp_fault_5, e_Sp_fault_8, e_Sp_fault_9, e_Sp_fault_12, e_Sp_fault_13, e_Sp_fault_16, e_Sp_fault_19, m_get, m_put, m_ia, m_is, m_la, m_ls, fl_sf, fl_sa, fl_sl, fl_sq, ar_sf, ar_sa, ar_sl, ar_sq, lr_sf, lr_sa, lr_sl, lr_sq, qr_sf, qr_sa, qr_sl, qr_sq, sf_1, sf_2, sa_1, sa_2, sl_1, sl_2, Option.isSome_some, Option.map_some, Option.map_none, Option.toList_some, Option.toList_none, List.nil_append, List.cons_append, List.singleton_append, if_true, if_false, ↓reduceIte, and_self, and_true, true_and, and_false, false_and, not_true, not_false_iff, reduceCtorEq, Nat.reduceEqDiff, Nat.reduceAdd, Nat.reduceSub, Nat.reduceMul, Nat.reduceLT, Nat.reduceLeDiff, Nat.reduceBEq, eq_self, ne_eq, Nat.add_eq_zero_iff, Nat.add_left_cancel_iff, Nat.add_right_cancel_iff, Nat.left_eq_add, Nat.add_eq_left, Bool.true_or, Bool.or_true, Bool.or_self, or_self, or_true, true_or, or_false, false_or, decide_true, decide_false, i_10, i_01, f0, f1, f2, f4, cc]
  · simp only [k_Md_fault, e_Md_fault_0, e_Md_fault_1, e_Md_fault_4, m_get, m_put, m_ia, m_is, m_la, m_ls, fl_sf, fl_sa, fl_sl, fl_sq, ar_sf, ar_sa, ar_sl, ar_sq, lr_sf, lr_sa, lr_sl, lr_sq, qr_sf, qr_sa, qr_sl, qr_sq, sf_1, sf_2, sa_1, sa_2, sl_1, sl_2, Option.isSome_some, Option.map_some, Option.map_none, Option.toList_some, Option.toList_none, List.nil_append, List.cons_append, List.singleton_append, if_true, if_false, ↓reduceIte, and_self, and_true, true_and, and_false, false_and, not_true, not_false_iff, reduceCtorEq, Nat.reduceEqDiff, Nat.reduceAdd, Nat.reduceSub, Nat.reduceMul, Nat.reduceLT, Nat.reduceLeDiff, Nat.reduceBEq, eq_self, ne_eq, Nat.add_eq_zero_iff, Nat.add_left_cancel_iff, Nat.add_right_cancel_iff, Nat.left_eq_add, Nat.add_eq_left, Bool.true_or, Bool.or_true, Bool.or_self, or_self, or_true, true_or, or_false, false_or, decide_true, decide_false, i_10, i_01, dd]
end RDALL
