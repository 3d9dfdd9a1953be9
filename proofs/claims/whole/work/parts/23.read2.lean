def PP (v : Nat) : Nat → Prop := fun j => j = 3 ∨ (v ≤ j ∧ j ≤ v + 10)
def PV (v : Nat) : Nat → Prop := fun j => v ≤ j ∧ j ≤ v + 10
theorem stg_bit {p : Nat} (hp : p ≤ 5) {kn : Nat → Int32} {i k : Nat} (hk : k < 32) (hb : bt (stg p kn i) k = true) : k < p := by
  unfold stg at hb
  rw [b_and, b_and, b_mask p hp k hk] at hb
  simp only [Bool.and_eq_true, decide_eq_true_eq] at hb
  exact hb.1.1
theorem who_bit {p : Nat} {kn : Nat → Int32} {k : Nat} (hk : k < 32) : ∀ n, n < 32 → bt (who p kn n) k = true → k < n
  | 0, _, hb => by rw [who, b_0] at hb; cases hb
  | n + 1, hn, hb => by
    rw [who, b_or] at hb
    by_cases q : bt (who p kn n) k = true
    · have := who_bit hk n (by omega) q
      omega
    · rw [Bool.or_eq_true] at hb
      rcases hb with hb | hb
      · exact absurd hb q
      · split at hb
        · rw [b_0] at hb; cases hb
        · rw [b_pw (by omega) hk] at hb
          have : k = n := of_decide_eq_true hb
          omega
theorem srt_bit {np ns nd : Nat → Int32} {x : Int32} {m k : Nat} (hk : k < 32) : ∀ n, n < 32 → bt (srt np ns nd x m n) k = true → k < n
  | 0, _, hb => by rw [srt, b_0] at hb; cases hb
  | n + 1, hn, hb => by
    rw [srt, b_or] at hb
    by_cases q : bt (srt np ns nd x m n) k = true
    · have := srt_bit hk n (by omega) q
      omega
    · rw [Bool.or_eq_true] at hb
      rcases hb with hb | hb
      · exact absurd hb q
      · split at hb
        · rw [b_0] at hb; cases hb
        · rw [b_pw (by omega) hk] at hb
          have : k = n := of_decide_eq_true hb
          omega
theorem b_15 : ∀ k, k < 32 → bt 15 k = decide (k < 4) := by decide +kernel
theorem fdy_bit {np ns nd : Nat → Int32} {x y : Int32} {k : Nat} (hk : k < 32) : ∀ n, bt (fdy np ns nd x y n) k = true → k < 4
  | 0, hb => by rw [fdy, b_15 k hk] at hb; exact of_decide_eq_true hb
  | n + 1, hb => by
    rw [fdy, b_and, Bool.and_eq_true] at hb
    exact fdy_bit hk n hb.1
theorem b_7 : ∀ k, k < 32 → bt 7 k = decide (k < 3) := by decide +kernel
section RD2
variable {h : xH} {v : Nat} {la ca da : Int32} {p t n : Nat} {co kn ow so gr ho ou np ns nd : Nat → Int32}
variable {len a : Nat} {tx : Nat → Int32}
theorem V3 (hv : 4 ≤ v) {h' : xH} {pe th ne : Int32} (hV : Vil h v la ca da pe th ne co kn ow so gr ho ou np ns nd) (f : fr (fun j => j = 3) h h') : Vil h' v la ca da pe th ne co kn ow so gr ho ou np ns nd := Vil_fr hV f (fun j q1 q2 (q3 : j = 3) => by omega)
theorem f3P {h' : xH} (f : fr (fun j => j = 3) h h') : fr (PP v) h h' := fr_mono f (fun j (q : j = 3) => Or.inl q)
theorem fVP {h' : xH} (f : fr (PV v) h h') : fr (PP v) h h' := fr_mono f (fun j q => Or.inr q)
theorem RV (hv : 4 ≤ v) {h' : xH} {st : Int32} (hR : Rdr h v len a st tx) (f : fr (PV v) h h') : Rdr h' v len a st tx := Rdr_fr hR f (fun q => by have := q.1; omega) (fun q => by have := q.1; omega)
/-- what a part that fails leaves: the reader stands at e, the draft is as it was -/
def Fl (h h' : xH) (v len e : Nat) (tx : Nat → Int32) (la ca da : Int32) (p t n : Nat) (co kn ow so gr ho ou np ns nd : Nat → Int32) : Prop := Rdr h' v len e 1 tx ∧ Vil h' v la ca da (nI p) (nI t) (nI n) co kn ow so gr ho ou np ns nd ∧ fr (PP v) h h'
theorem rp_ok (hv : 4 ≤ v) (hR : Rdr h v len a 0 tx) (hV : Vil h v la ca da (nI p) (nI t) (nI n) co kn ow so gr ho ou np ns nd) (hp : p < 5) (hl : len ≤ 90) (k1 : fgk tx len a 1023) (k2 : fgk tx len (a + 1) 1023) : ∃ h', xC M_Reader_readPerson [.ref 3] h = some (none, h') ∧ Rdr h' v len (a + 1 + 1) 0 tx ∧ Vil h' v la ca da (nI (p + 1)) (nI t) (nI n) (upd co p (10 * nI (fg tx a) + nI (fg tx (a + 1)))) (upd kn p 0) ow so gr ho ou np ns nd ∧ fr (PP v) h h' := by
  obtain ⟨h1, d1, R1, f1⟩ := fig_ok hR hl k1
  obtain ⟨h2, d2, R2, f2⟩ := fig_ok R1 hl k2
  have V2 := V3 hv (V3 hv hV f1) f2
  have c1 := call_v (lv := 1) d1 (Rdr_is hR) (by decide) (Nat.le_of_ble_eq_true rfl)
  have c2 := call_v (lv := 1) d2 (Rdr_is R1) (by decide) (Nat.le_of_ble_eq_true rfl)
  have c3 := call_v (lv := 1) (c_addPerson hp V2 (10 * nI (fg tx a) + nI (fg tx (a + 1)))) (Vil_is V2) (by decide) (Nat.le_of_ble_eq_true rfl)
  have V3' := Vil_f3 (Vil_a2 (Vil_a1 V2 (upd co p (10 * nI (fg tx a) + nI (fg tx (a + 1))))) (upd kn p 0)) (nI p + 1)
  rw [nI_1] at V3' c3
  have fr3 : fr (PV v) h2 (sf (sa (sa h2 (v + 1) 0 (upd co p (10 * nI (fg tx a) + nI (fg tx (a + 1))))) (v + 2) 0 (upd kn p 0)) v 7 3 (.int (nI (p + 1)))) := fr_sf (fr_sa (fr_sa (fr_refl _ _) ⟨by omega, by omega⟩) ⟨by omega, by omega⟩) ⟨by omega, by omega⟩
  refine ⟨_, ?_, RV hv R2 fr3, V3', fr_trans (fr_trans (f3P f1) (f3P f2)) (fVP fr3)⟩
  obtain ⟨r0, r1, r2, r3, r4, r5⟩ := R2
  simp only [k_Reader_readPerson, e_Reader_readPerson_0, e_Reader_readPerson_1, e_Reader_readPerson_4, e_Reader_readPerson_7, e_Reader_readPerson_8, e_Reader_readPerson_9, e_Reader_readPerson_12, e_Reader_readPerson_15, e_Reader_readPerson_16, e_Reader_readPerson_17, e_Reader_readPerson_20, e_Reader_readPerson_23, e_Reader_readPerson_24, e_Reader_readPerson_27, e_Reader_readPerson_29, e_Reader_readPerson_30, e_Reader_readPerson_31, e_Reader_readPerson_32, e_Reader_readPerson_33, e_Reader_readPerson_36, m_get, m_put, m_ia, m_is, m_la, m_ls, fl_sf, fl_sa, fl_sl, fl_sq, ar_sf, ar_sa, ar_sl, ar_sq, lr_sf, lr_sa, lr_sl, lr_sq, qr_sf, qr_sa, qr_sl, qr_sq, sf_1, sf_2, sa_1, sa_2, sl_1, sl_2, Option.isSome_some, Option.map_some, Option.map_none, Option.toList_some, Option.toList_none, List.nil_append, List.cons_append, List.singleton_append, if_true, if_false, ↓reduceIte, and_self, and_true, true_and, and_false, false_and, not_true, not_false_iff, reduceCtorEq, Nat.reduceEqDiff, Nat.reduceAdd, Nat.reduceSub, Nat.reduceMul, Nat.reduceLT, Nat.reduceLeDiff, Nat.reduceBEq, eq_self, ne_eq, Nat.add_eq_zero_iff, Nat.add_left_cancel_iff, Nat.add_right_cancel_iff, Nat.left_eq_add, Nat.add_eq_left, Bool.true_or, Bool.or_true, Bool.or_self, or_self, or_true, true_or, or_false, false_or, decide_true, decide_false, i_10, i_01, r0, r1, r2, r3, r4, r5, c1, c2, c3]
theorem rp_f2 (hv : 4 ≤ v) (hR : Rdr h v len a 0 tx) (hV : Vil h v la ca da (nI p) (nI t) (nI n) co kn ow so gr ho ou np ns nd) (hl : len ≤ 90) (q1 : fgk tx len a 1023) (q2 : ¬ fgk tx len (a + 1) 1023) : ∃ h', xC M_Reader_readPerson [.ref 3] h = some (none, h') ∧ Fl h h' v len (a + 1) tx la ca da p t n co kn ow so gr ho ou np ns nd := by
  obtain ⟨h1, d1, R1, f1⟩ := fig_ok hR hl q1
  obtain ⟨h2, d2, R2, f2⟩ := fig_no R1 hl (by have := q1.1; omega) q2
  have c1 := call_v (lv := 1) d1 (Rdr_is hR) (by decide) (Nat.le_of_ble_eq_true rfl)
  have c2 := call_v (lv := 1) d2 (Rdr_is R1) (by decide) (Nat.le_of_ble_eq_true rfl)
  refine ⟨h2, ?_, R2, V3 hv (V3 hv hV f1) f2, fr_trans (f3P f1) (f3P f2)⟩
  obtain ⟨r0, r1, r2, r3, r4, r5⟩ := R2
  simp only [k_Reader_readPerson, e_Reader_readPerson_0, e_Reader_readPerson_1, e_Reader_readPerson_4, e_Reader_readPerson_7, e_Reader_readPerson_8, e_Reader_readPerson_9, e_Reader_readPerson_12, e_Reader_readPerson_15, e_Reader_readPerson_16, e_Reader_readPerson_17, e_Reader_readPerson_20, e_Reader_readPerson_23, e_Reader_readPerson_24, e_Reader_readPerson_27, e_Reader_readPerson_29, e_Reader_readPerson_30, e_Reader_readPerson_31, e_Reader_readPerson_32, e_Reader_readPerson_33, e_Reader_readPerson_36, m_get, m_put, m_ia, m_is, m_la, m_ls, fl_sf, fl_sa, fl_sl, fl_sq, ar_sf, ar_sa, ar_sl, ar_sq, lr_sf, lr_sa, lr_sl, lr_sq, qr_sf, qr_sa, qr_sl, qr_sq, sf_1, sf_2, sa_1, sa_2, sl_1, sl_2, Option.isSome_some, Option.map_some, Option.map_none, Option.toList_some, Option.toList_none, List.nil_append, List.cons_append, List.singleton_append, if_true, if_false, ↓reduceIte, and_self, and_true, true_and, and_false, false_and, not_true, not_false_iff, reduceCtorEq, Nat.reduceEqDiff, Nat.reduceAdd, Nat.reduceSub, Nat.reduceMul, Nat.reduceLT, Nat.reduceLeDiff, Nat.reduceBEq, eq_self, ne_eq, Nat.add_eq_zero_iff, Nat.add_left_cancel_iff, Nat.add_right_cancel_iff, Nat.left_eq_add, Nat.add_eq_left, Bool.true_or, Bool.or_true, Bool.or_self, or_self, or_true, true_or, or_false, false_or, decide_true, decide_false, i_10, i_01, r0, r1, r2, r3, r4, r5, c1, c2]
theorem rp_f1 (hv : 4 ≤ v) (hR : Rdr h v len a 0 tx) (hV : Vil h v la ca da (nI p) (nI t) (nI n) co kn ow so gr ho ou np ns nd) (hl : len ≤ 90) (ha : a ≤ len) (q1 : ¬ fgk tx len a 1023) : ∃ h', xC M_Reader_readPerson [.ref 3] h = some (none, h') ∧ Fl h h' v len a tx la ca da p t n co kn ow so gr ho ou np ns nd := by
  obtain ⟨h1, d1, R1, f1⟩ := fig_no hR hl ha q1
  obtain ⟨h2, d2, R2, f2⟩ := fig_st (al := 1023) R1
  have c1 := call_v (lv := 1) d1 (Rdr_is hR) (by decide) (Nat.le_of_ble_eq_true rfl)
  have c2 := call_v (lv := 1) d2 (Rdr_is R1) (by decide) (Nat.le_of_ble_eq_true rfl)
  refine ⟨h2, ?_, R2, V3 hv (V3 hv hV f1) f2, fr_trans (f3P f1) (f3P f2)⟩
  obtain ⟨r0, r1, r2, r3, r4, r5⟩ := R2
  simp only [k_Reader_readPerson, e_Reader_readPerson_0, e_Reader_readPerson_1, e_Reader_readPerson_4, e_Reader_readPerson_7, e_Reader_readPerson_8, e_Reader_readPerson_9, e_Reader_readPerson_12, e_Reader_readPerson_15, e_Reader_readPerson_16, e_Reader_readPerson_17, e_Reader_readPerson_20, e_Reader_readPerson_23, e_Reader_readPerson_24, e_Reader_readPerson_27, e_Reader_readPerson_29, e_Reader_readPerson_30, e_Reader_readPerson_31, e_Reader_readPerson_32, e_Reader_readPerson_33, e_Reader_readPerson_36, m_get, m_put, m_ia, m_is, m_la, m_ls, fl_sf, fl_sa, fl_sl, fl_sq, ar_sf, ar_sa, ar_sl, ar_sq, lr_sf, lr_sa, lr_sl, lr_sq, qr_sf, qr_sa, qr_sl, qr_sq, sf_1, sf_2, sa_1, sa_2, sl_1, sl_2, Option.isSome_some, Option.map_some, Option.map_none, Option.toList_some, Option.toList_none, List.nil_append, List.cons_append, List.singleton_append, if_true, if_false, ↓reduceIte, and_self, and_true, true_and, and_false, false_and, not_true, not_false_iff, reduceCtorEq, Nat.reduceEqDiff, Nat.reduceAdd, Nat.reduceSub, Nat.reduceMul, Nat.reduceLT, Nat.reduceLeDiff, Nat.reduceBEq, eq_self, ne_eq, Nat.add_eq_zero_iff, Nat.add_left_cancel_iff, Nat.add_right_cancel_iff, Nat.left_eq_add, Nat.add_eq_left, Bool.true_or, Bool.or_true, Bool.or_self, or_self, or_true, true_or, or_false, false_or, decide_true, decide_false, i_10, i_01, r0, r1, r2, r3, r4, r5, c1, c2]
def kn2 (kn : Nat → Int32) (i j : Nat) : Nat → Int32 := upd (upd kn i (kn i ||| ((1 : Int32) <<< (nI j &&& 31)))) j (upd kn i (kn i ||| ((1 : Int32) <<< (nI j &&& 31))) j ||| ((1 : Int32) <<< (nI i &&& 31)))
theorem rk_ok (hv : 4 ≤ v) (hR : Rdr h v len a 0 tx) (hV : Vil h v la ca da (nI p) (nI t) (nI n) co kn ow so gr ho ou np ns nd) (hp : p ≤ 5) (hl : len ≤ 90) (k1 : fgk tx len a (who p kn p)) (k2 : fgk tx len (a + 1) (stg p kn (fg tx a))) : ∃ h', xC M_Reader_readKnowing [.ref 3] h = some (none, h') ∧ Rdr h' v len (a + 1 + 1) 0 tx ∧ Vil h' v la ca da (nI p) (nI t) (nI n) co (kn2 kn (fg tx a) (fg tx (a + 1))) ow so gr ho ou np ns nd ∧ fr (PP v) h h' := by
  have b1 : fg tx a < p := who_bit (by have := (fgk_nI k1).2.1; omega) p (by omega) ((b_z1 (by have := (fgk_nI k1).2.1; omega)).mp (fgk_nI k1).2.2)
  have b2 : fg tx (a + 1) < p := stg_bit hp (by have := (fgk_nI k2).2.1; omega) ((b_z1 (by have := (fgk_nI k2).2.1; omega)).mp (fgk_nI k2).2.2)
  obtain ⟨h1, d1, R1, f1⟩ := fig_ok hR hl k1
  obtain ⟨h2, d2, R2, f2⟩ := fig_ok R1 hl k2
  have V1 := V3 hv hV f1
  have V2 := V3 hv V1 f2
  have c0 := call_v (lv := 3) (c_whoCan hp hR hV) (Rdr_is hR) (by decide) (Nat.le_of_ble_eq_true rfl)
  have c1 := call_v (lv := 3) d1 (Rdr_is hR) (by decide) (Nat.le_of_ble_eq_true rfl)
  have c2 := call_v (lv := 3) (c_strangersOf R1 V1 (show fg tx a < 5 by omega)) (Rdr_is R1) (by decide) (Nat.le_of_ble_eq_true rfl)
  have c3 := call_v (lv := 3) d2 (Rdr_is R1) (by decide) (Nat.le_of_ble_eq_true rfl)
  have V4 := Vil_a2 V2 (kn2 kn (fg tx a) (fg tx (a + 1)))
  have fr3 : fr (PV v) h2 (sa h2 (v + 2) 0 (kn2 kn (fg tx a) (fg tx (a + 1)))) := fr_sa (fr_refl _ _) ⟨by omega, by omega⟩
  refine ⟨_, ?_, RV hv R2 fr3, V4, fr_trans (fr_trans (f3P f1) (f3P f2)) (fVP fr3)⟩
  have r4' := R1.2.2.2.2.1
  obtain ⟨r0, r1, r2, r3, r4, r5⟩ := R2
  obtain ⟨⟨v0, v1, v2, v3, v4, v5⟩, ⟨w1, w2, w3, w4, w5, w6, w7, w8, w9, w10⟩, ⟨a1, a2, a3, a4, a5, a6, a7, a8, a9, a10⟩⟩ := V2
  have i6 := xin_nI (show fg tx a < 5 by omega) (by decide)
  have c6 := nI_clamp (show fg tx a < 2 ^ 31 by omega)
  have i7 := xin_nI (show fg tx (a + 1) < 5 by omega) (by decide)
  have c7 := nI_clamp (show fg tx (a + 1) < 2 ^ 31 by omega)
  simp only [k_Reader_readKnowing, e_Reader_readKnowing_0, e_Reader_readKnowing_1, e_Reader_readKnowing_2, e_Reader_readKnowing_5, e_Reader_readKnowing_8, e_Reader_readKnowing_9, e_Reader_readKnowing_10, e_Reader_readKnowing_13, e_Reader_readKnowing_16, e_Reader_readKnowing_17, e_Reader_readKnowing_20, e_Reader_readKnowing_21, e_Reader_readKnowing_22, e_Reader_readKnowing_23, e_Reader_readKnowing_26, e_Reader_readKnowing_29, e_Reader_readKnowing_30, e_Reader_readKnowing_31, e_Reader_readKnowing_34, e_Reader_readKnowing_37, e_Reader_readKnowing_38, e_Reader_readKnowing_41, e_Reader_readKnowing_44, e_Reader_readKnowing_45, e_Reader_readKnowing_46, e_Reader_readKnowing_47, e_Reader_readKnowing_48, e_Reader_readKnowing_49, e_Reader_readKnowing_50, e_Reader_readKnowing_51, e_Reader_readKnowing_52, e_Reader_readKnowing_53, e_Reader_readKnowing_56, e_Reader_readKnowing_59, e_Reader_readKnowing_60, e_Reader_readKnowing_61, e_Reader_readKnowing_62, e_Reader_readKnowing_63, e_Reader_readKnowing_64, e_Reader_readKnowing_65, e_Reader_readKnowing_66, e_Reader_readKnowing_67, m_get, m_put, m_ia, m_is, m_la, m_ls, fl_sf, fl_sa, fl_sl, fl_sq, ar_sf, ar_sa, ar_sl, ar_sq, lr_sf, lr_sa, lr_sl, lr_sq, qr_sf, qr_sa, qr_sl, qr_sq, sf_1, sf_2, sa_1, sa_2, sl_1, sl_2, Option.isSome_some, Option.map_some, Option.map_none, Option.toList_some, Option.toList_none, List.nil_append, List.cons_append, List.singleton_append, if_true, if_false, ↓reduceIte, and_self, and_true, true_and, and_false, false_and, not_true, not_false_iff, reduceCtorEq, Nat.reduceEqDiff, Nat.reduceAdd, Nat.reduceSub, Nat.reduceMul, Nat.reduceLT, Nat.reduceLeDiff, Nat.reduceBEq, eq_self, ne_eq, Nat.add_eq_zero_iff, Nat.add_left_cancel_iff, Nat.add_right_cancel_iff, Nat.left_eq_add, Nat.add_eq_left, Bool.true_or, Bool.or_true, Bool.or_self, or_self, or_true, true_or, or_false, false_or, decide_true, decide_false, i_10, i_01, r0, r1, r2, r3, r4, r5, v0, v1, v2, v3, v4, v5, w1, w2, w3, w4, w5, w6, w7, w8, w9, w10, a1, a2, a3, a4, a5, a6, a7, a8, a9, a10, r4', c0, c1, c2, c3, i6, c6, i7, c7, sa_sa, kn2]
theorem rk_f2 (hv : 4 ≤ v) (hR : Rdr h v len a 0 tx) (hV : Vil h v la ca da (nI p) (nI t) (nI n) co kn ow so gr ho ou np ns nd) (hp : p ≤ 5) (hl : len ≤ 90) (q1 : fgk tx len a (who p kn p)) (q2 : ¬ fgk tx len (a + 1) (stg p kn (fg tx a))) : ∃ h', xC M_Reader_readKnowing [.ref 3] h = some (none, h') ∧ Fl h h' v len (a + 1) tx la ca da p t n co kn ow so gr ho ou np ns nd := by
  have c0 := call_v (lv := 3) (c_whoCan hp hR hV) (Rdr_is hR) (by decide) (Nat.le_of_ble_eq_true rfl)
  have b1 : fg tx a < p := who_bit (by have := (fgk_nI q1).2.1; omega) p (by omega) ((b_z1 (by have := (fgk_nI q1).2.1; omega)).mp (fgk_nI q1).2.2)
  obtain ⟨h1, d1, R1, f1⟩ := fig_ok hR hl q1
  obtain ⟨h2, d2, R2, f2⟩ := fig_no R1 hl (by have := q1.1; omega) q2
  have V1 := V3 hv hV f1
  have c1 := call_v (lv := 3) d1 (Rdr_is hR) (by decide) (Nat.le_of_ble_eq_true rfl)
  have c2 := call_v (lv := 3) (c_strangersOf R1 V1 (show fg tx a < 5 by omega)) (Rdr_is R1) (by decide) (Nat.le_of_ble_eq_true rfl)
  have c3 := call_v (lv := 3) d2 (Rdr_is R1) (by decide) (Nat.le_of_ble_eq_true rfl)
  refine ⟨h2, ?_, R2, V3 hv V1 f2, fr_trans (f3P f1) (f3P f2)⟩
  have r4' := R1.2.2.2.2.1
  obtain ⟨r0, r1, r2, r3, r4, r5⟩ := R2
  simp only [k_Reader_readKnowing, e_Reader_readKnowing_0, e_Reader_readKnowing_1, e_Reader_readKnowing_2, e_Reader_readKnowing_5, e_Reader_readKnowing_8, e_Reader_readKnowing_9, e_Reader_readKnowing_10, e_Reader_readKnowing_13, e_Reader_readKnowing_16, e_Reader_readKnowing_17, e_Reader_readKnowing_20, e_Reader_readKnowing_21, e_Reader_readKnowing_22, e_Reader_readKnowing_23, e_Reader_readKnowing_26, e_Reader_readKnowing_29, e_Reader_readKnowing_30, e_Reader_readKnowing_31, e_Reader_readKnowing_34, e_Reader_readKnowing_37, e_Reader_readKnowing_38, e_Reader_readKnowing_41, e_Reader_readKnowing_44, e_Reader_readKnowing_45, e_Reader_readKnowing_46, e_Reader_readKnowing_47, e_Reader_readKnowing_48, e_Reader_readKnowing_49, e_Reader_readKnowing_50, e_Reader_readKnowing_51, e_Reader_readKnowing_52, e_Reader_readKnowing_53, e_Reader_readKnowing_56, e_Reader_readKnowing_59, e_Reader_readKnowing_60, e_Reader_readKnowing_61, e_Reader_readKnowing_62, e_Reader_readKnowing_63, e_Reader_readKnowing_64, e_Reader_readKnowing_65, e_Reader_readKnowing_66, e_Reader_readKnowing_67, m_get, m_put, m_ia, m_is, m_la, m_ls, fl_sf, fl_sa, fl_sl, fl_sq, ar_sf, ar_sa, ar_sl, ar_sq, lr_sf, lr_sa, lr_sl, lr_sq, qr_sf, qr_sa, qr_sl, qr_sq, sf_1, sf_2, sa_1, sa_2, sl_1, sl_2, Option.isSome_some, Option.map_some, Option.map_none, Option.toList_some, Option.toList_none, List.nil_append, List.cons_append, List.singleton_append, if_true, if_false, ↓reduceIte, and_self, and_true, true_and, and_false, false_and, not_true, not_false_iff, reduceCtorEq, Nat.reduceEqDiff, Nat.reduceAdd, Nat.reduceSub, Nat.reduceMul, Nat.reduceLT, Nat.reduceLeDiff, Nat.reduceBEq, eq_self, ne_eq, Nat.add_eq_zero_iff, Nat.add_left_cancel_iff, Nat.add_right_cancel_iff, Nat.left_eq_add, Nat.add_eq_left, Bool.true_or, Bool.or_true, Bool.or_self, or_self, or_true, true_or, or_false, false_or, decide_true, decide_false, i_10, i_01, r0, r1, r2, r3, r4, r5, r4', c0, c1, c2, c3]
theorem rk_f1 (hv : 4 ≤ v) (hR : Rdr h v len a 0 tx) (hV : Vil h v la ca da (nI p) (nI t) (nI n) co kn ow so gr ho ou np ns nd) (hp : p ≤ 5) (hl : len ≤ 90) (ha : a ≤ len) (q1 : ¬ fgk tx len a (who p kn p)) : ∃ h', xC M_Reader_readKnowing [.ref 3] h = some (none, h') ∧ Fl h h' v len a tx la ca da p t n co kn ow so gr ho ou np ns nd := by
  have c0 := call_v (lv := 3) (c_whoCan hp hR hV) (Rdr_is hR) (by decide) (Nat.le_of_ble_eq_true rfl)
  obtain ⟨h1, d1, R1, f1⟩ := fig_no hR hl ha q1
  have c1 := call_v (lv := 3) d1 (Rdr_is hR) (by decide) (Nat.le_of_ble_eq_true rfl)
  refine ⟨h1, ?_, R1, V3 hv hV f1, f3P f1⟩
  obtain ⟨r0, r1, r2, r3, r4, r5⟩ := R1
  simp only [k_Reader_readKnowing, e_Reader_readKnowing_0, e_Reader_readKnowing_1, e_Reader_readKnowing_2, e_Reader_readKnowing_5, e_Reader_readKnowing_8, e_Reader_readKnowing_9, e_Reader_readKnowing_10, e_Reader_readKnowing_13, e_Reader_readKnowing_16, e_Reader_readKnowing_17, e_Reader_readKnowing_20, e_Reader_readKnowing_21, e_Reader_readKnowing_22, e_Reader_readKnowing_23, e_Reader_readKnowing_26, e_Reader_readKnowing_29, e_Reader_readKnowing_30, e_Reader_readKnowing_31, e_Reader_readKnowing_34, e_Reader_readKnowing_37, e_Reader_readKnowing_38, e_Reader_readKnowing_41, e_Reader_readKnowing_44, e_Reader_readKnowing_45, e_Reader_readKnowing_46, e_Reader_readKnowing_47, e_Reader_readKnowing_48, e_Reader_readKnowing_49, e_Reader_readKnowing_50, e_Reader_readKnowing_51, e_Reader_readKnowing_52, e_Reader_readKnowing_53, e_Reader_readKnowing_56, e_Reader_readKnowing_59, e_Reader_readKnowing_60, e_Reader_readKnowing_61, e_Reader_readKnowing_62, e_Reader_readKnowing_63, e_Reader_readKnowing_64, e_Reader_readKnowing_65, e_Reader_readKnowing_66, e_Reader_readKnowing_67, m_get, m_put, m_ia, m_is, m_la, m_ls, fl_sf, fl_sa, fl_sl, fl_sq, ar_sf, ar_sa, ar_sl, ar_sq, lr_sf, lr_sa, lr_sl, lr_sq, qr_sf, qr_sa, qr_sl, qr_sq, sf_1, sf_2, sa_1, sa_2, sl_1, sl_2, Option.isSome_some, Option.map_some, Option.map_none, Option.toList_some, Option.toList_none, List.nil_append, List.cons_append, List.singleton_append, if_true, if_false, ↓reduceIte, and_self, and_true, true_and, and_false, false_and, not_true, not_false_iff, reduceCtorEq, Nat.reduceEqDiff, Nat.reduceAdd, Nat.reduceSub, Nat.reduceMul, Nat.reduceLT, Nat.reduceLeDiff, Nat.reduceBEq, eq_self, ne_eq, Nat.add_eq_zero_iff, Nat.add_left_cancel_iff, Nat.add_right_cancel_iff, Nat.left_eq_add, Nat.add_eq_left, Bool.true_or, Bool.or_true, Bool.or_self, or_self, or_true, true_or, or_false, false_or, decide_true, decide_false, i_10, i_01, r0, r1, r2, r3, r4, r5, c0, c1]
def evb (p : Nat) : Int32 := ((1 : Int32) <<< (nI p &&& 31)) - 1
def gmk (ca : Int32) : Int32 := ((1 : Int32) <<< ((ca + 1) &&& 31)) - 1
theorem rt_ok (hv : 4 ≤ v) (hR : Rdr h v len a 0 tx) (hV : Vil h v la ca da (nI p) (nI t) (nI n) co kn ow so gr ho ou np ns nd) (ht : t < 6) (hl : len ≤ 90) (k1 : fgk tx len a (evb p)) (k2 : fgk tx len (a + 1) 7) (k3 : fgk tx len (a + 1 + 1) (gmk ca)) : ∃ h', xC M_Reader_readThing [.ref 3] h = some (none, h') ∧ Rdr h' v len (a + 1 + 1 + 1) 0 tx ∧ Vil h' v la ca da (nI p) (nI (t + 1)) (nI n) co kn (upd ow t (nI (fg tx a))) (upd so t (nI (fg tx (a + 1)))) (upd gr t (nI (fg tx (a + 1 + 1)))) (upd ho t (nI (fg tx a))) (upd ou t 0) np ns nd ∧ fr (PP v) h h' := by
  obtain ⟨h1, d1, R1, f1⟩ := fig_ok hR hl k1
  obtain ⟨h2, d2, R2, f2⟩ := fig_ok R1 hl k2
  obtain ⟨h3, d3, R3, f3⟩ := fig_ok R2 hl k3
  have V2 := V3 hv (V3 hv hV f1) f2
  have V3' := V3 hv V2 f3
  obtain ⟨h4, d4, V4, f4⟩ := c_addThing ht V3' (nI (fg tx a)) (nI (fg tx (a + 1))) (nI (fg tx (a + 1 + 1)))
  have c0 := call_v (lv := 2) (c_everybody hV) (Vil_is hV) (by decide) (Nat.le_of_ble_eq_true rfl)
  have c1 := call_v (lv := 2) d1 (Rdr_is hR) (by decide) (Nat.le_of_ble_eq_true rfl)
  have c2 := call_v (lv := 2) d2 (Rdr_is R1) (by decide) (Nat.le_of_ble_eq_true rfl)
  have c3 := call_v (lv := 2) d3 (Rdr_is R2) (by decide) (Nat.le_of_ble_eq_true rfl)
  have c4 := call_v (lv := 2) d4 (Vil_is V3') (by decide) (Nat.le_of_ble_eq_true rfl)
  rw [nI_1] at V4
  refine ⟨h4, ?_, RV hv R3 f4, V4, fr_trans (fr_trans (fr_trans (f3P f1) (f3P f2)) (f3P f3)) (fVP f4)⟩
  have z0 := hR.1
  have z2 := R2.1
  have z3 := V2.1.2.1
  simp only [evb, gmk] at c1 c3
  obtain ⟨r0, r1, r2, r3, r4, r5⟩ := R3
  simp only [k_Reader_readThing, e_Reader_readThing_0, e_Reader_readThing_1, e_Reader_readThing_2, e_Reader_readThing_5, e_Reader_readThing_8, e_Reader_readThing_11, e_Reader_readThing_12, e_Reader_readThing_13, e_Reader_readThing_15, e_Reader_readThing_18, e_Reader_readThing_19, e_Reader_readThing_20, e_Reader_readThing_21, e_Reader_readThing_22, e_Reader_readThing_25, e_Reader_readThing_28, e_Reader_readThing_29, e_Reader_readThing_30, e_Reader_readThing_31, e_Reader_readThing_32, e_Reader_readThing_33, e_Reader_readThing_36, e_Reader_readThing_37, e_Reader_readThing_38, e_Reader_readThing_41, e_Reader_readThing_44, e_Reader_readThing_45, e_Reader_readThing_48, e_Reader_readThing_49, e_Reader_readThing_50, e_Reader_readThing_51, e_Reader_readThing_54, m_get, m_put, m_ia, m_is, m_la, m_ls, fl_sf, fl_sa, fl_sl, fl_sq, ar_sf, ar_sa, ar_sl, ar_sq, lr_sf, lr_sa, lr_sl, lr_sq, qr_sf, qr_sa, qr_sl, qr_sq, sf_1, sf_2, sa_1, sa_2, sl_1, sl_2, Option.isSome_some, Option.map_some, Option.map_none, Option.toList_some, Option.toList_none, List.nil_append, List.cons_append, List.singleton_append, if_true, if_false, ↓reduceIte, and_self, and_true, true_and, and_false, false_and, not_true, not_false_iff, reduceCtorEq, Nat.reduceEqDiff, Nat.reduceAdd, Nat.reduceSub, Nat.reduceMul, Nat.reduceLT, Nat.reduceLeDiff, Nat.reduceBEq, eq_self, ne_eq, Nat.add_eq_zero_iff, Nat.add_left_cancel_iff, Nat.add_right_cancel_iff, Nat.left_eq_add, Nat.add_eq_left, Bool.true_or, Bool.or_true, Bool.or_self, or_self, or_true, true_or, or_false, false_or, decide_true, decide_false, i_10, i_01, r0, r1, r2, r3, r4, r5, z0, z2, z3, c0, c1, c2, c3, c4]
theorem rt_f3 (hv : 4 ≤ v) (hR : Rdr h v len a 0 tx) (hV : Vil h v la ca da (nI p) (nI t) (nI n) co kn ow so gr ho ou np ns nd) (hl : len ≤ 90) (k1 : fgk tx len a (evb p)) (k2 : fgk tx len (a + 1) 7) (k3 : ¬ fgk tx len (a + 1 + 1) (gmk ca)) : ∃ h', xC M_Reader_readThing [.ref 3] h = some (none, h') ∧ Fl h h' v len (a + 1 + 1) tx la ca da p t n co kn ow so gr ho ou np ns nd := by
  obtain ⟨h1, d1, R1, f1⟩ := fig_ok hR hl k1
  obtain ⟨h2, d2, R2, f2⟩ := fig_ok R1 hl k2
  obtain ⟨h3, d3, R3, f3⟩ := fig_no R2 hl (by have := k2.1; omega) k3
  have V2 := V3 hv (V3 hv hV f1) f2
  have c0 := call_v (lv := 2) (c_everybody hV) (Vil_is hV) (by decide) (Nat.le_of_ble_eq_true rfl)
  have c1 := call_v (lv := 2) d1 (Rdr_is hR) (by decide) (Nat.le_of_ble_eq_true rfl)
  have c2 := call_v (lv := 2) d2 (Rdr_is R1) (by decide) (Nat.le_of_ble_eq_true rfl)
  have c3 := call_v (lv := 2) d3 (Rdr_is R2) (by decide) (Nat.le_of_ble_eq_true rfl)
  refine ⟨h3, ?_, R3, V3 hv V2 f3, fr_trans (fr_trans (f3P f1) (f3P f2)) (f3P f3)⟩
  have z0 := hR.1
  have z2 := R2.1
  have z3 := V2.1.2.1
  simp only [evb, gmk] at c1 c3
  obtain ⟨r0, r1, r2, r3, r4, r5⟩ := R3
  simp only [k_Reader_readThing, e_Reader_readThing_0, e_Reader_readThing_1, e_Reader_readThing_2, e_Reader_readThing_5, e_Reader_readThing_8, e_Reader_readThing_11, e_Reader_readThing_12, e_Reader_readThing_13, e_Reader_readThing_15, e_Reader_readThing_18, e_Reader_readThing_19, e_Reader_readThing_20, e_Reader_readThing_21, e_Reader_readThing_22, e_Reader_readThing_25, e_Reader_readThing_28, e_Reader_readThing_29, e_Reader_readThing_30, e_Reader_readThing_31, e_Reader_readThing_32, e_Reader_readThing_33, e_Reader_readThing_36, e_Reader_readThing_37, e_Reader_readThing_38, e_Reader_readThing_41, e_Reader_readThing_44, e_Reader_readThing_45, e_Reader_readThing_48, e_Reader_readThing_49, e_Reader_readThing_50, e_Reader_readThing_51, e_Reader_readThing_54, m_get, m_put, m_ia, m_is, m_la, m_ls, fl_sf, fl_sa, fl_sl, fl_sq, ar_sf, ar_sa, ar_sl, ar_sq, lr_sf, lr_sa, lr_sl, lr_sq, qr_sf, qr_sa, qr_sl, qr_sq, sf_1, sf_2, sa_1, sa_2, sl_1, sl_2, Option.isSome_some, Option.map_some, Option.map_none, Option.toList_some, Option.toList_none, List.nil_append, List.cons_append, List.singleton_append, if_true, if_false, ↓reduceIte, and_self, and_true, true_and, and_false, false_and, not_true, not_false_iff, reduceCtorEq, Nat.reduceEqDiff, Nat.reduceAdd, Nat.reduceSub, Nat.reduceMul, Nat.reduceLT, Nat.reduceLeDiff, Nat.reduceBEq, eq_self, ne_eq, Nat.add_eq_zero_iff, Nat.add_left_cancel_iff, Nat.add_right_cancel_iff, Nat.left_eq_add, Nat.add_eq_left, Bool.true_or, Bool.or_true, Bool.or_self, or_self, or_true, true_or, or_false, false_or, decide_true, decide_false, i_10, i_01, r0, r1, r2, r3, r4, r5, z0, z2, z3, c0, c1, c2, c3]
theorem rt_f2 (hv : 4 ≤ v) (hR : Rdr h v len a 0 tx) (hV : Vil h v la ca da (nI p) (nI t) (nI n) co kn ow so gr ho ou np ns nd) (hl : len ≤ 90) (k1 : fgk tx len a (evb p)) (k2 : ¬ fgk tx len (a + 1) 7) : ∃ h', xC M_Reader_readThing [.ref 3] h = some (none, h') ∧ Fl h h' v len (a + 1) tx la ca da p t n co kn ow so gr ho ou np ns nd := by
  obtain ⟨h1, d1, R1, f1⟩ := fig_ok hR hl k1
  obtain ⟨h2, d2, R2, f2⟩ := fig_no R1 hl (by have := k1.1; omega) k2
  obtain ⟨h3, d3, R3, f3⟩ := fig_st (al := gmk ca) R2
  have V2 := V3 hv (V3 hv hV f1) f2
  have c0 := call_v (lv := 2) (c_everybody hV) (Vil_is hV) (by decide) (Nat.le_of_ble_eq_true rfl)
  have c1 := call_v (lv := 2) d1 (Rdr_is hR) (by decide) (Nat.le_of_ble_eq_true rfl)
  have c2 := call_v (lv := 2) d2 (Rdr_is R1) (by decide) (Nat.le_of_ble_eq_true rfl)
  have c3 := call_v (lv := 2) d3 (Rdr_is R2) (by decide) (Nat.le_of_ble_eq_true rfl)
  refine ⟨h3, ?_, R3, V3 hv V2 f3, fr_trans (fr_trans (f3P f1) (f3P f2)) (f3P f3)⟩
  have z0 := hR.1
  have z2 := R2.1
  have z3 := V2.1.2.1
  simp only [evb, gmk] at c1 c3
  obtain ⟨r0, r1, r2, r3, r4, r5⟩ := R3
  simp only [k_Reader_readThing, e_Reader_readThing_0, e_Reader_readThing_1, e_Reader_readThing_2, e_Reader_readThing_5, e_Reader_readThing_8, e_Reader_readThing_11, e_Reader_readThing_12, e_Reader_readThing_13, e_Reader_readThing_15, e_Reader_readThing_18, e_Reader_readThing_19, e_Reader_readThing_20, e_Reader_readThing_21, e_Reader_readThing_22, e_Reader_readThing_25, e_Reader_readThing_28, e_Reader_readThing_29, e_Reader_readThing_30, e_Reader_readThing_31, e_Reader_readThing_32, e_Reader_readThing_33, e_Reader_readThing_36, e_Reader_readThing_37, e_Reader_readThing_38, e_Reader_readThing_41, e_Reader_readThing_44, e_Reader_readThing_45, e_Reader_readThing_48, e_Reader_readThing_49, e_Reader_readThing_50, e_Reader_readThing_51, e_Reader_readThing_54, m_get, m_put, m_ia, m_is, m_la, m_ls, fl_sf, fl_sa, fl_sl, fl_sq, ar_sf, ar_sa, ar_sl, ar_sq, lr_sf, lr_sa, lr_sl, lr_sq, qr_sf, qr_sa, qr_sl, qr_sq, sf_1, sf_2, sa_1, sa_2, sl_1, sl_2, Option.isSome_some, Option.map_some, Option.map_none, Option.toList_some, Option.toList_none, List.nil_append, List.cons_append, List.singleton_append, if_true, if_false, ↓reduceIte, and_self, and_true, true_and, and_false, false_and, not_true, not_false_iff, reduceCtorEq, Nat.reduceEqDiff, Nat.reduceAdd, Nat.reduceSub, Nat.reduceMul, Nat.reduceLT, Nat.reduceLeDiff, Nat.reduceBEq, eq_self, ne_eq, Nat.add_eq_zero_iff, Nat.add_left_cancel_iff, Nat.add_right_cancel_iff, Nat.left_eq_add, Nat.add_eq_left, Bool.true_or, Bool.or_true, Bool.or_self, or_self, or_true, true_or, or_false, false_or, decide_true, decide_false, i_10, i_01, r0, r1, r2, r3, r4, r5, z0, z2, z3, c0, c1, c2, c3]
theorem rt_f1 (hv : 4 ≤ v) (hR : Rdr h v len a 0 tx) (hV : Vil h v la ca da (nI p) (nI t) (nI n) co kn ow so gr ho ou np ns nd) (hl : len ≤ 90) (ha : a ≤ len) (k1 : ¬ fgk tx len a (evb p)) : ∃ h', xC M_Reader_readThing [.ref 3] h = some (none, h') ∧ Fl h h' v len a tx la ca da p t n co kn ow so gr ho ou np ns nd := by
  obtain ⟨h1, d1, R1, f1⟩ := fig_no hR hl ha k1
  obtain ⟨h2, d2, R2, f2⟩ := fig_st (al := 7) R1
  obtain ⟨h3, d3, R3, f3⟩ := fig_st (al := gmk ca) R2
  have V2 := V3 hv (V3 hv hV f1) f2
  have c0 := call_v (lv := 2) (c_everybody hV) (Vil_is hV) (by decide) (Nat.le_of_ble_eq_true rfl)
  have c1 := call_v (lv := 2) d1 (Rdr_is hR) (by decide) (Nat.le_of_ble_eq_true rfl)
  have c2 := call_v (lv := 2) d2 (Rdr_is R1) (by decide) (Nat.le_of_ble_eq_true rfl)
  have c3 := call_v (lv := 2) d3 (Rdr_is R2) (by decide) (Nat.le_of_ble_eq_true rfl)
  refine ⟨h3, ?_, R3, V3 hv V2 f3, fr_trans (fr_trans (f3P f1) (f3P f2)) (f3P f3)⟩
  have z0 := hR.1
  have z2 := R2.1
  have z3 := V2.1.2.1
  simp only [evb, gmk] at c1 c3
  obtain ⟨r0, r1, r2, r3, r4, r5⟩ := R3
  simp only [k_Reader_readThing, e_Reader_readThing_0, e_Reader_readThing_1, e_Reader_readThing_2, e_Reader_readThing_5, e_Reader_readThing_8, e_Reader_readThing_11, e_Reader_readThing_12, e_Reader_readThing_13, e_Reader_readThing_15, e_Reader_readThing_18, e_Reader_readThing_19, e_Reader_readThing_20, e_Reader_readThing_21, e_Reader_readThing_22, e_Reader_readThing_25, e_Reader_readThing_28, e_Reader_readThing_29, e_Reader_readThing_30, e_Reader_readThing_31, e_Reader_readThing_32, e_Reader_readThing_33, e_Reader_readThing_36, e_Reader_readThing_37, e_Reader_readThing_38, e_Reader_readThing_41, e_Reader_readThing_44, e_Reader_readThing_45, e_Reader_readThing_48, e_Reader_readThing_49, e_Reader_readThing_50, e_Reader_readThing_51, e_Reader_readThing_54, m_get, m_put, m_ia, m_is, m_la, m_ls, fl_sf, fl_sa, fl_sl, fl_sq, ar_sf, ar_sa, ar_sl, ar_sq, lr_sf, lr_sa, lr_sl, lr_sq, qr_sf, qr_sa, qr_sl, qr_sq, sf_1, sf_2, sa_1, sa_2, sl_1, sl_2, Option.isSome_some, Option.map_some, Option.map_none, Option.toList_some, Option.toList_none, List.nil_append, List.cons_append, List.singleton_append, if_true, if_false, ↓reduceIte, and_self, and_true, true_and, and_false, false_and, not_true, not_false_iff, reduceCtorEq, Nat.reduceEqDiff, Nat.reduceAdd, Nat.reduceSub, Nat.reduceMul, Nat.reduceLT, Nat.reduceLeDiff, Nat.reduceBEq, eq_self, ne_eq, Nat.add_eq_zero_iff, Nat.add_left_cancel_iff, Nat.add_right_cancel_iff, Nat.left_eq_add, Nat.add_eq_left, Bool.true_or, Bool.or_true, Bool.or_self, or_self, or_true, true_or, or_false, false_or, decide_true, decide_false, i_10, i_01, r0, r1, r2, r3, r4, r5, z0, z2, z3, c0, c1, c2, c3]
theorem rn_ok (hv : 4 ≤ v) (hR : Rdr h v len a 0 tx) (hV : Vil h v la ca da (nI p) (nI t) (nI n) co kn ow so gr ho ou np ns nd) (hn : n < 8) (hl : len ≤ 90) (k1 : fgk tx len a (evb p)) (k2 : fgk tx len (a + 1) (srt np ns nd (nI (fg tx a)) n 3)) (k3 : fgk tx len (a + 1 + 1) (fdy np ns nd (nI (fg tx a)) (nI (fg tx (a + 1))) n)) : ∃ h', xC M_Reader_readNeed [.ref 3] h = some (none, h') ∧ Rdr h' v len (a + 1 + 1 + 1) 0 tx ∧ Vil h' v la ca da (nI p) (nI t) (nI (n + 1)) co kn ow so gr ho ou (upd np n (nI (fg tx a))) (upd ns n (nI (fg tx (a + 1)))) (upd nd n (nI (fg tx (a + 1 + 1)))) ∧ fr (PP v) h h' := by
  obtain ⟨h1, d1, R1, f1⟩ := fig_ok hR hl k1
  obtain ⟨h2, d2, R2, f2⟩ := fig_ok R1 hl k2
  obtain ⟨h3, d3, R3, f3⟩ := fig_ok R2 hl k3
  have V1 := V3 hv hV f1
  have V2 := V3 hv V1 f2
  have V3' := V3 hv V2 f3
  have c0 := call_v (lv := 2) (c_everybody hV) (Vil_is hV) (by decide) (Nat.le_of_ble_eq_true rfl)
  have c1 := call_v (lv := 2) d1 (Rdr_is hR) (by decide) (Nat.le_of_ble_eq_true rfl)
  have b2 := call_v (lv := 2) (c_sortsWith (by omega) R1 V1 (nI (fg tx a))) (Rdr_is R1) (by decide) (Nat.le_of_ble_eq_true rfl)
  have c2 := call_v (lv := 2) d2 (Rdr_is R1) (by decide) (Nat.le_of_ble_eq_true rfl)
  have b3 := call_v (lv := 2) (c_freeDays (by omega) R2 V2 (nI (fg tx a)) (nI (fg tx (a + 1)))) (Rdr_is R2) (by decide) (Nat.le_of_ble_eq_true rfl)
  have c3 := call_v (lv := 2) d3 (Rdr_is R2) (by decide) (Nat.le_of_ble_eq_true rfl)
  have c4 := call_v (lv := 2) (c_addNeed hn V3' (nI (fg tx a)) (nI (fg tx (a + 1))) (nI (fg tx (a + 1 + 1)))) (Vil_is V3') (by decide) (Nat.le_of_ble_eq_true rfl)
  have V4 := Vil_f5 (Vil_a10 (Vil_a9 (Vil_a8 V3' (upd np n (nI (fg tx a)))) (upd ns n (nI (fg tx (a + 1))))) (upd nd n (nI (fg tx (a + 1 + 1))))) (nI n + 1)
  have f4 : fr (PV v) h3 (sf (sa (sa (sa h3 (v + 8) 0 (upd np n (nI (fg tx a)))) (v + 9) 0 (upd ns n (nI (fg tx (a + 1))))) (v + 10) 0 (upd nd n (nI (fg tx (a + 1 + 1))))) v 7 5 (.int (nI n + 1))) := fr_sf (fr_sa (fr_sa (fr_sa (fr_refl _ _) ⟨by omega, by omega⟩) ⟨by omega, by omega⟩) ⟨by omega, by omega⟩) ⟨by omega, by omega⟩
  refine ⟨_, ?_, RV hv R3 f4, by rw [← nI_1]; exact V4, fr_trans (fr_trans (fr_trans (f3P f1) (f3P f2)) (f3P f3)) (fVP f4)⟩
  have z0 := hR.1
  simp only [evb] at c1
  obtain ⟨r0, r1, r2, r3, r4, r5⟩ := R3
  simp only [k_Reader_readNeed, e_Reader_readNeed_0, e_Reader_readNeed_1, e_Reader_readNeed_2, e_Reader_readNeed_5, e_Reader_readNeed_8, e_Reader_readNeed_11, e_Reader_readNeed_12, e_Reader_readNeed_13, e_Reader_readNeed_14, e_Reader_readNeed_15, e_Reader_readNeed_18, e_Reader_readNeed_21, e_Reader_readNeed_22, e_Reader_readNeed_23, e_Reader_readNeed_24, e_Reader_readNeed_25, e_Reader_readNeed_26, e_Reader_readNeed_29, e_Reader_readNeed_32, e_Reader_readNeed_33, e_Reader_readNeed_34, e_Reader_readNeed_37, e_Reader_readNeed_40, e_Reader_readNeed_41, e_Reader_readNeed_44, e_Reader_readNeed_45, e_Reader_readNeed_46, e_Reader_readNeed_47, e_Reader_readNeed_50, m_get, m_put, m_ia, m_is, m_la, m_ls, fl_sf, fl_sa, fl_sl, fl_sq, ar_sf, ar_sa, ar_sl, ar_sq, lr_sf, lr_sa, lr_sl, lr_sq, qr_sf, qr_sa, qr_sl, qr_sq, sf_1, sf_2, sa_1, sa_2, sl_1, sl_2, Option.isSome_some, Option.map_some, Option.map_none, Option.toList_some, Option.toList_none, List.nil_append, List.cons_append, List.singleton_append, if_true, if_false, ↓reduceIte, and_self, and_true, true_and, and_false, false_and, not_true, not_false_iff, reduceCtorEq, Nat.reduceEqDiff, Nat.reduceAdd, Nat.reduceSub, Nat.reduceMul, Nat.reduceLT, Nat.reduceLeDiff, Nat.reduceBEq, eq_self, ne_eq, Nat.add_eq_zero_iff, Nat.add_left_cancel_iff, Nat.add_right_cancel_iff, Nat.left_eq_add, Nat.add_eq_left, Bool.true_or, Bool.or_true, Bool.or_self, or_self, or_true, true_or, or_false, false_or, decide_true, decide_false, i_10, i_01, r0, r1, r2, r3, r4, r5, z0, c0, c1, b2, c2, b3, c3, c4]
theorem rn_f3 (hv : 4 ≤ v) (hR : Rdr h v len a 0 tx) (hV : Vil h v la ca da (nI p) (nI t) (nI n) co kn ow so gr ho ou np ns nd) (hn : n ≤ 8) (hl : len ≤ 90) (k1 : fgk tx len a (evb p)) (k2 : fgk tx len (a + 1) (srt np ns nd (nI (fg tx a)) n 3)) (k3 : ¬ fgk tx len (a + 1 + 1) (fdy np ns nd (nI (fg tx a)) (nI (fg tx (a + 1))) n)) : ∃ h', xC M_Reader_readNeed [.ref 3] h = some (none, h') ∧ Fl h h' v len (a + 1 + 1) tx la ca da p t n co kn ow so gr ho ou np ns nd := by
  obtain ⟨h1, d1, R1, f1⟩ := fig_ok hR hl k1
  obtain ⟨h2, d2, R2, f2⟩ := fig_ok R1 hl k2
  obtain ⟨h3, d3, R3, f3⟩ := fig_no R2 hl (by have := k2.1; omega) k3
  have V1 := V3 hv hV f1
  have V2 := V3 hv V1 f2
  have c0 := call_v (lv := 2) (c_everybody hV) (Vil_is hV) (by decide) (Nat.le_of_ble_eq_true rfl)
  have c1 := call_v (lv := 2) d1 (Rdr_is hR) (by decide) (Nat.le_of_ble_eq_true rfl)
  have b2 := call_v (lv := 2) (c_sortsWith hn R1 V1 (nI (fg tx a))) (Rdr_is R1) (by decide) (Nat.le_of_ble_eq_true rfl)
  have c2 := call_v (lv := 2) d2 (Rdr_is R1) (by decide) (Nat.le_of_ble_eq_true rfl)
  have b3 := call_v (lv := 2) (c_freeDays hn R2 V2 (nI (fg tx a)) (nI (fg tx (a + 1)))) (Rdr_is R2) (by decide) (Nat.le_of_ble_eq_true rfl)
  have c3 := call_v (lv := 2) d3 (Rdr_is R2) (by decide) (Nat.le_of_ble_eq_true rfl)
  refine ⟨h3, ?_, R3, V3 hv V2 f3, fr_trans (fr_trans (f3P f1) (f3P f2)) (f3P f3)⟩
  have z0 := hR.1
  simp only [evb] at c1
  obtain ⟨r0, r1, r2, r3, r4, r5⟩ := R3
  simp only [k_Reader_readNeed, e_Reader_readNeed_0, e_Reader_readNeed_1, e_Reader_readNeed_2, e_Reader_readNeed_5, e_Reader_readNeed_8, e_Reader_readNeed_11, e_Reader_readNeed_12, e_Reader_readNeed_13, e_Reader_readNeed_14, e_Reader_readNeed_15, e_Reader_readNeed_18, e_Reader_readNeed_21, e_Reader_readNeed_22, e_Reader_readNeed_23, e_Reader_readNeed_24, e_Reader_readNeed_25, e_Reader_readNeed_26, e_Reader_readNeed_29, e_Reader_readNeed_32, e_Reader_readNeed_33, e_Reader_readNeed_34, e_Reader_readNeed_37, e_Reader_readNeed_40, e_Reader_readNeed_41, e_Reader_readNeed_44, e_Reader_readNeed_45, e_Reader_readNeed_46, e_Reader_readNeed_47, e_Reader_readNeed_50, m_get, m_put, m_ia, m_is, m_la, m_ls, fl_sf, fl_sa, fl_sl, fl_sq, ar_sf, ar_sa, ar_sl, ar_sq, lr_sf, lr_sa, lr_sl, lr_sq, qr_sf, qr_sa, qr_sl, qr_sq, sf_1, sf_2, sa_1, sa_2, sl_1, sl_2, Option.isSome_some, Option.map_some, Option.map_none, Option.toList_some, Option.toList_none, List.nil_append, List.cons_append, List.singleton_append, if_true, if_false, ↓reduceIte, and_self, and_true, true_and, and_false, false_and, not_true, not_false_iff, reduceCtorEq, Nat.reduceEqDiff, Nat.reduceAdd, Nat.reduceSub, Nat.reduceMul, Nat.reduceLT, Nat.reduceLeDiff, Nat.reduceBEq, eq_self, ne_eq, Nat.add_eq_zero_iff, Nat.add_left_cancel_iff, Nat.add_right_cancel_iff, Nat.left_eq_add, Nat.add_eq_left, Bool.true_or, Bool.or_true, Bool.or_self, or_self, or_true, true_or, or_false, false_or, decide_true, decide_false, i_10, i_01, r0, r1, r2, r3, r4, r5, z0, c0, c1, b2, c2, b3, c3]
theorem rn_f2 (hv : 4 ≤ v) (hR : Rdr h v len a 0 tx) (hV : Vil h v la ca da (nI p) (nI t) (nI n) co kn ow so gr ho ou np ns nd) (hn : n ≤ 8) (hl : len ≤ 90) (k1 : fgk tx len a (evb p)) (k2 : ¬ fgk tx len (a + 1) (srt np ns nd (nI (fg tx a)) n 3)) : ∃ h', xC M_Reader_readNeed [.ref 3] h = some (none, h') ∧ Fl h h' v len (a + 1) tx la ca da p t n co kn ow so gr ho ou np ns nd := by
  obtain ⟨h1, d1, R1, f1⟩ := fig_ok hR hl k1
  obtain ⟨h2, d2, R2, f2⟩ := fig_no R1 hl (by have := k1.1; omega) k2
  have V1 := V3 hv hV f1
  have V2 := V3 hv V1 f2
  have c0 := call_v (lv := 2) (c_everybody hV) (Vil_is hV) (by decide) (Nat.le_of_ble_eq_true rfl)
  have c1 := call_v (lv := 2) d1 (Rdr_is hR) (by decide) (Nat.le_of_ble_eq_true rfl)
  have b2 := call_v (lv := 2) (c_sortsWith hn R1 V1 (nI (fg tx a))) (Rdr_is R1) (by decide) (Nat.le_of_ble_eq_true rfl)
  have c2 := call_v (lv := 2) d2 (Rdr_is R1) (by decide) (Nat.le_of_ble_eq_true rfl)
  have b3 := call_v (lv := 2) (c_freeDays hn R2 V2 (nI (fg tx a)) 0) (Rdr_is R2) (by decide) (Nat.le_of_ble_eq_true rfl)
  obtain ⟨h3, d3, R3, f3⟩ := fig_st (al := fdy np ns nd (nI (fg tx a)) 0 n) R2
  have c3 := call_v (lv := 2) d3 (Rdr_is R2) (by decide) (Nat.le_of_ble_eq_true rfl)
  refine ⟨h3, ?_, R3, V3 hv V2 f3, fr_trans (fr_trans (f3P f1) (f3P f2)) (f3P f3)⟩
  have z0 := hR.1
  simp only [evb] at c1
  obtain ⟨r0, r1, r2, r3, r4, r5⟩ := R3
  simp only [k_Reader_readNeed, e_Reader_readNeed_0, e_Reader_readNeed_1, e_Reader_readNeed_2, e_Reader_readNeed_5, e_Reader_readNeed_8, e_Reader_readNeed_11, e_Reader_readNeed_12, e_Reader_readNeed_13, e_Reader_readNeed_14, e_Reader_readNeed_15, e_Reader_readNeed_18, e_Reader_readNeed_21, e_Reader_readNeed_22, e_Reader_readNeed_23, e_Reader_readNeed_24, e_Reader_readNeed_25, e_Reader_readNeed_26, e_Reader_readNeed_29, e_Reader_readNeed_32, e_Reader_readNeed_33, e_Reader_readNeed_34, e_Reader_readNeed_37, e_Reader_readNeed_40, e_Reader_readNeed_41, e_Reader_readNeed_44, e_Reader_readNeed_45, e_Reader_readNeed_46, e_Reader_readNeed_47, e_Reader_readNeed_50, m_get, m_put, m_ia, m_is, m_la, m_ls, fl_sf, fl_sa, fl_sl, fl_sq, ar_sf, ar_sa, ar_sl, ar_sq, lr_sf, lr_sa, lr_sl, lr_sq, qr_sf, qr_sa, qr_sl, qr_sq, sf_1, sf_2, sa_1, sa_2, sl_1, sl_2, Option.isSome_some, Option.map_some, Option.map_none, Option.toList_some, Option.toList_none, List.nil_append, List.cons_append, List.singleton_append, if_true, if_false, ↓reduceIte, and_self, and_true, true_and, and_false, false_and, not_true, not_false_iff, reduceCtorEq, Nat.reduceEqDiff, Nat.reduceAdd, Nat.reduceSub, Nat.reduceMul, Nat.reduceLT, Nat.reduceLeDiff, Nat.reduceBEq, eq_self, ne_eq, Nat.add_eq_zero_iff, Nat.add_left_cancel_iff, Nat.add_right_cancel_iff, Nat.left_eq_add, Nat.add_eq_left, Bool.true_or, Bool.or_true, Bool.or_self, or_self, or_true, true_or, or_false, false_or, decide_true, decide_false, i_10, i_01, r0, r1, r2, r3, r4, r5, z0, c0, c1, b2, c2, b3, c3]
theorem rn_f1 (hv : 4 ≤ v) (hR : Rdr h v len a 0 tx) (hV : Vil h v la ca da (nI p) (nI t) (nI n) co kn ow so gr ho ou np ns nd) (hn : n ≤ 8) (hl : len ≤ 90) (ha : a ≤ len) (k1 : ¬ fgk tx len a (evb p)) : ∃ h', xC M_Reader_readNeed [.ref 3] h = some (none, h') ∧ Fl h h' v len a tx la ca da p t n co kn ow so gr ho ou np ns nd := by
  obtain ⟨h1, d1, R1, f1⟩ := fig_no hR hl ha k1
  have V1 := V3 hv hV f1
  have c0 := call_v (lv := 2) (c_everybody hV) (Vil_is hV) (by decide) (Nat.le_of_ble_eq_true rfl)
  have c1 := call_v (lv := 2) d1 (Rdr_is hR) (by decide) (Nat.le_of_ble_eq_true rfl)
  have b2 := call_v (lv := 2) (c_sortsWith hn R1 V1 0) (Rdr_is R1) (by decide) (Nat.le_of_ble_eq_true rfl)
  obtain ⟨h2, d2, R2, f2⟩ := fig_st (al := srt np ns nd 0 n 3) R1
  have V2 := V3 hv V1 f2
  have c2 := call_v (lv := 2) d2 (Rdr_is R1) (by decide) (Nat.le_of_ble_eq_true rfl)
  have b3 := call_v (lv := 2) (c_freeDays hn R2 V2 0 0) (Rdr_is R2) (by decide) (Nat.le_of_ble_eq_true rfl)
  obtain ⟨h3, d3, R3, f3⟩ := fig_st (al := fdy np ns nd 0 0 n) R2
  have c3 := call_v (lv := 2) d3 (Rdr_is R2) (by decide) (Nat.le_of_ble_eq_true rfl)
  refine ⟨h3, ?_, R3, V3 hv V2 f3, fr_trans (fr_trans (f3P f1) (f3P f2)) (f3P f3)⟩
  have z0 := hR.1
  simp only [evb] at c1
  obtain ⟨r0, r1, r2, r3, r4, r5⟩ := R3
  simp only [k_Reader_readNeed, e_Reader_readNeed_0, e_Reader_readNeed_1, e_Reader_readNeed_2, e_Reader_readNeed_5, e_Reader_readNeed_8, e_Reader_readNeed_11, e_Reader_readNeed_12, e_Reader_readNeed_13, e_Reader_readNeed_14, e_Reader_readNeed_15, e_Reader_readNeed_18, e_Reader_readNeed_21, e_Reader_readNeed_22, e_Reader_readNeed_23, e_Reader_readNeed_24, e_Reader_readNeed_25, e_Reader_readNeed_26, e_Reader_readNeed_29, e_Reader_readNeed_32, e_Reader_readNeed_33, e_Reader_readNeed_34, e_Reader_readNeed_37, e_Reader_readNeed_40, e_Reader_readNeed_41, e_Reader_readNeed_44, e_Reader_readNeed_45, e_Reader_readNeed_46, e_Reader_readNeed_47, e_Reader_readNeed_50, m_get, m_put, m_ia, m_is, m_la, m_ls, fl_sf, fl_sa, fl_sl, fl_sq, ar_sf, ar_sa, ar_sl, ar_sq, lr_sf, lr_sa, lr_sl, lr_sq, qr_sf, qr_sa, qr_sl, qr_sq, sf_1, sf_2, sa_1, sa_2, sl_1, sl_2, Option.isSome_some, Option.map_some, Option.map_none, Option.toList_some, Option.toList_none, List.nil_append, List.cons_append, List.singleton_append, if_true, if_false, ↓reduceIte, and_self, and_true, true_and, and_false, false_and, not_true, not_false_iff, reduceCtorEq, Nat.reduceEqDiff, Nat.reduceAdd, Nat.reduceSub, Nat.reduceMul, Nat.reduceLT, Nat.reduceLeDiff, Nat.reduceBEq, eq_self, ne_eq, Nat.add_eq_zero_iff, Nat.add_left_cancel_iff, Nat.add_right_cancel_iff, Nat.left_eq_add, Nat.add_eq_left, Bool.true_or, Bool.or_true, Bool.or_self, or_self, or_true, true_or, or_false, false_or, decide_true, decide_false, i_10, i_01, r0, r1, r2, r3, r4, r5, z0, c0, c1, b2, c2, b3, c3]
end RD2
