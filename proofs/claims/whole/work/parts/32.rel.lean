/-! The relation between the class's objects and the reference's. -/
def St (p t : Nat) (ow S : Nat → Int32) : Prop := ∀ j, j < t → (∃ g, g ≤ 9 ∧ S (5 + j) = nI g) ∧ (∃ x, x < p ∧ S (11 + j) = nI x) ∧ (S (11 + j) = ow j → S (17 + j) = 0)
def rl (p t k : Nat) : Prop := k < p ∨ (5 ≤ k ∧ k < 5 + t) ∨ (11 ≤ k ∧ k < 11 + t) ∨ (17 ≤ k ∧ k < 17 + t) ∨ k = 23
/-- a day back -/
def dyb (ow S : Nat → Int32) : Nat → Int32 := fun k => if k = 23 then S 23 + (-1) else if 17 ≤ k ∧ S (k - 6) ≠ ow (k - 17) then S k + (-1) else S k
/-- S' is S with the act F undone -/
def Un (p t : Nat) (ow : Nat → Int32) (F : Nat → Int32) (S S' : Nat → Int32) : Prop :=
  (F 0 = 2 ∧ ∀ k, rl p t k → S' k = dyb ow S k) ∨
  (F 0 = 0 ∧ ∃ x, x < t ∧ F 1 = nI x ∧ ∀ k, rl p t k → S' k = upd (upd S (11 + x) (ow x)) (17 + x) 0 k) ∨
  (F 0 = 1 ∧ ∃ x y, x < t ∧ y < p ∧ F 1 = nI x ∧ F 2 = nI y ∧ ∀ k, rl p t k → S' k = upd (upd (upd (upd S y (S y + F 5)) (5 + x) (S (5 + x) - F 4)) (11 + x) (F 2)) (17 + x) (F 3) k)
/-- the state a acts ago -/
def sn (σ : Nat → Nat → Int32) (X a : Nat) : Nat → Int32 := if a = 0 then σ 84 else fun k => σ 86 (24 * ((X + 16 - a) % 16) + k)
def rlV (p t n v : Nat) (σ τ : Nat → Nat → Int32) : Prop :=
  ((τ 75 13 = nI p ∧ τ 75 14 = nI t ∧ τ 75 15 = nI n) ∧ p ≤ 5 ∧ t ≤ 6 ∧ n ≤ 8) ∧
  (τ v 0 = τ 75 16 ∧ τ v 1 = τ 75 17 ∧ τ v 2 = σ 84 23 ∧ τ v 3 = nI p ∧ τ v 4 = nI t ∧ τ v 5 = nI n) ∧
  ((∃ l, l ≤ 3 ∧ τ 75 16 = nI l) ∧ ∃ c, 1 ≤ c ∧ c ≤ 9 ∧ τ 75 17 = nI c) ∧
  (∀ i, i < p → σ (v + 1) i = σ 84 i ∧ σ (v + 2) i = σ 80 i) ∧
  (∀ j, j < t → σ (v + 3) j = σ 81 j ∧ σ (v + 4) j = σ 82 j ∧ σ (v + 5) j = σ 84 (5 + j) ∧ σ (v + 6) j = σ 84 (11 + j) ∧ σ (v + 7) j = σ 84 (17 + j)) ∧
  (∀ k, k < n → σ (v + 8) k = σ 83 (3 * k + 0) ∧ σ (v + 9) k = σ 83 (3 * k + 1) ∧ σ (v + 10) k = σ 83 (3 * k + 2)) ∧
  (∀ j, j < t → (∃ x, x < p ∧ σ 81 j = nI x) ∧ ∃ s, s < 3 ∧ σ 82 j = nI s) ∧
  (∀ k, k < n → (∃ x, x < p ∧ σ 83 (3 * k + 0) = nI x) ∧ (∃ s, s < 3 ∧ σ 83 (3 * k + 1) = nI s) ∧ ∃ d, d < 4 ∧ σ 83 (3 * k + 2) = nI d) ∧
  KS p (σ 80) ∧ St p t (σ 81) (σ 84)
def rlT (len : Nat) (σ τ : Nat → Nat → Int32) : Prop := len ≤ 90 ∧ τ 1 1 = nI len ∧ τ 75 20 = nI len ∧ σ 2 = σ 85
def rlA (A X p t : Nat) (σ τ : Nat → Nat → Int32) (q : Nat → Nat) : Prop :=
  (A ≤ 16 ∧ X < 16 ∧ τ 26 1 = nI A ∧ τ 75 23 = nI A ∧ τ 75 24 = nI X) ∧
  ((∀ i, i < 16 → 28 ≤ q i ∧ q i ≤ 43) ∧ ∀ i j, i < 16 → j < 16 → q i = q j → i = j) ∧
  ∀ a, a < A → St p t (σ 81) (sn σ X (a + 1)) ∧ Un p t (σ 81) (τ (q (A - 1 - a))) (sn σ X a) (sn σ X (a + 1))
def rlK1 (b s p t : Nat) (σ τ : Nat → Nat → Int32) : Prop :=
  (τ b 0 = σ 96 s ∧ (σ 96 s = 0 ∨ σ 96 s = 1)) ∧
  (¬ σ 96 s = 0 → St p t (σ 81) (fun k => σ 97 (24 * s + k)) ∧ τ b 1 = σ 97 (24 * s + 23) ∧ (∀ i, i < p → σ (b + 1) i = σ 97 (24 * s + i)) ∧
    ∀ j, j < t → σ (b + 2) j = σ 97 (24 * s + (5 + j)) ∧ σ (b + 3) j = σ 97 (24 * s + (11 + j)) ∧ σ (b + 4) j = σ 97 (24 * s + (17 + j)))
def rlK (p t : Nat) (σ τ : Nat → Nat → Int32) : Prop := rlK1 45 0 p t σ τ ∧ rlK1 50 1 p t σ τ
def rlS (z : Nat) (σ τ : Nat → Nat → Int32) : Prop := (z ≤ 6 ∧ τ 66 0 = nI z ∧ τ 75 32 = nI z) ∧ ∀ i, i < z → σ 67 i = σ 91 i ∧ σ 68 i = σ 92 i ∧ σ 69 i = σ 93 i ∧ (σ 93 i = 0 ∨ σ 93 i = 1) ∧ ∃ w, w < 5 ∧ σ 92 i = nI w
def tlN (k : Nat) : Nat := k % 2 + 4 * (k / 2 % 2) + 16 * (k / 4 % 2) + 64 * (k / 8 % 2) + 256 * (k / 16 % 2) + 1024 * (k / 32 % 2)
def rlY (σ : Nat → Nat → Int32) : Prop := ∀ k, k < 64 → σ 61 k = nI (tlN k)
def Rl (h : xH) (σ τ : Nat → Nat → Int32) (v s : Nat) (q : Nat → Nat) (e : Int64) (p t n len A X z : Nat) : Prop :=
  Hp h σ τ v s q e e ∧ rlV p t n v σ τ ∧ rlT len σ τ ∧ rlA A X p t σ τ q ∧ rlK p t σ τ ∧ rlS z σ τ ∧ rlY σ
def Rel (h : xH) : Prop := ∃ (σ τ : Nat → Nat → Int32) (v s : Nat) (q : Nat → Nat) (e : Int64) (p t n len A X z : Nat), Rl h σ τ v s q e p t n len A X z
/-- a call of both answers alike, and both stand alike afterwards -/
def Op (h : xH) (MS MM : xM) (a : List Value) : Prop := ∃ (r : Value) (h1 h2 : xH), xC MS (.ref 1 :: a) h = some (some r, h1) ∧ xC MM (.ref 75 :: a) h1 = some (some r, h2) ∧ Rel h2 ∧ (fl h 1 8 0).isSome = true ∧ (fl h1 75 9 0).isSome = true
section REL
variable {h : xH} {σ τ σ' τ' : Nat → Nat → Int32} {v s : Nat} {q : Nat → Nat} {e1 e2 : Int64} {p t n len A X z : Nat}
theorem Hp_1 (H : Hp h σ τ v s q e1 e2) : (fl h 1 8 0).isSome = true := by rw [hR H 1 8 0 2 rfl rfl]; rfl
theorem Hp_75 (H : Hp h σ τ v s q e1 e2) : (fl h 75 9 0).isSome = true := by rw [hR H 75 9 0 76 rfl rfl]; rfl
theorem rlV_cg (R : rlV p t n v σ τ) (hs : ∀ a, (v < a ∧ a ≤ v + 10) ∨ (80 ≤ a ∧ a ≤ 84) → σ' a = σ a) (ht : ∀ k, k < 6 → τ' v k = τ v k) (h5 : ∀ k, 13 ≤ k ∧ k ≤ 17 → τ' 75 k = τ 75 k) : rlV p t n v σ' τ' := by
  unfold rlV at *
  simp only [hs (v + 1) (by omega), hs (v + 2) (by omega), hs (v + 3) (by omega), hs (v + 4) (by omega), hs (v + 5) (by omega), hs (v + 6) (by omega), hs (v + 7) (by omega), hs (v + 8) (by omega), hs (v + 9) (by omega), hs (v + 10) (by omega), hs 80 (by omega), hs 81 (by omega), hs 82 (by omega), hs 83 (by omega), hs 84 (by omega), ht 0 (by omega), ht 1 (by omega), ht 2 (by omega), ht 3 (by omega), ht 4 (by omega), ht 5 (by omega), h5 13 (by omega), h5 14 (by omega), h5 15 (by omega), h5 16 (by omega), h5 17 (by omega)]
  exact R
theorem rlT_cg (R : rlT len σ τ) (hs : σ' 2 = σ 2 ∧ σ' 85 = σ 85) (ht : τ' 1 1 = τ 1 1 ∧ τ' 75 20 = τ 75 20) : rlT len σ' τ' := by
  unfold rlT at *
  rw [hs.1, hs.2, ht.1, ht.2]
  exact R
theorem rlA_cg (R : rlA A X p t σ τ q) (hs : σ' 81 = σ 81 ∧ σ' 84 = σ 84 ∧ σ' 86 = σ 86) (ht : τ' 26 1 = τ 26 1 ∧ τ' 75 23 = τ 75 23 ∧ τ' 75 24 = τ 75 24) (ho : ∀ o, 28 ≤ o ∧ o ≤ 43 → τ' o = τ o) : rlA A X p t σ' τ' q := by
  obtain ⟨r1, r2, r3⟩ := R
  refine ⟨by rw [ht.1, ht.2.1, ht.2.2]; exact r1, r2, fun a ha => ?_⟩
  have e : ∀ b, sn σ' X b = sn σ X b := fun b => by unfold sn; rw [hs.2.1, hs.2.2]
  rw [e, e, hs.1, ho _ (r2.1 (A - 1 - a) (by omega))]
  exact r3 a ha
theorem rlK_cg (R : rlK p t σ τ) (hs : ∀ a, (46 ≤ a ∧ a ≤ 54) ∨ a = 81 ∨ a = 96 ∨ a = 97 → σ' a = σ a) (ht : ∀ b k, (b = 45 ∨ b = 50) ∧ k < 2 → τ' b k = τ b k) : rlK p t σ' τ' := by
  unfold rlK rlK1 at *
  simp only [hs (45 + 1) (by omega), hs (45 + 2) (by omega), hs (45 + 3) (by omega), hs (45 + 4) (by omega), hs (50 + 1) (by omega), hs (50 + 2) (by omega), hs (50 + 3) (by omega), hs (50 + 4) (by omega), hs 81 (by omega), hs 96 (by omega), hs 97 (by omega), ht 45 0 (by omega), ht 45 1 (by omega), ht 50 0 (by omega), ht 50 1 (by omega)]
  exact R
theorem rlS_cg (R : rlS z σ τ) (hs : ∀ a, (67 ≤ a ∧ a ≤ 69) ∨ (91 ≤ a ∧ a ≤ 93) → σ' a = σ a) (ht : τ' 66 0 = τ 66 0 ∧ τ' 75 32 = τ 75 32) : rlS z σ' τ' := by
  unfold rlS at *
  simp only [hs 67 (by omega), hs 68 (by omega), hs 69 (by omega), hs 91 (by omega), hs 92 (by omega), hs 93 (by omega), ht.1, ht.2]
  exact R
theorem rlY_cg (R : rlY σ) (hs : σ' 61 = σ 61) : rlY σ' := by
  unfold rlY at *
  rw [hs]
  exact R
/-- a heap of the same shape: its data, and what of them stays -/
theorem Hp_fr {h' : xH} {v' s' : Nat} {q' : Nat → Nat} {d1 d2 : Int64} (σ τ : Nat → Nat → Int32) (H : Hp h σ τ v s q e1 e2) (r : ∀ a n, rsz a = some n → ∃ g, ar h' a (rty a) = some (n, g)) (i : ∀ a k, ifd a k = true → ∃ x, fl h' a (ocl a) k = some (.int x)) (c : ∀ a k r, rfd a k = some r → fl h' a (ocl a) k = some (.ref r)) (m : Hm h' v' s' q' d1 d2) : ∃ σ' τ', Hp h' σ' τ' v' s' q' d1 d2 ∧ (∀ a, ar h' a (rty a) = ar h a (rty a) → σ' a = σ a) ∧ (∀ a k, fl h' a (ocl a) k = fl h a (ocl a) k → τ' a k = τ a k) := by
  refine ⟨fun a => if (rsz a).isSome = true then (match ar h' a (rty a) with | some x => x.2 | none => σ a) else σ a, fun a k => if ifd a k = true then (match fl h' a (ocl a) k with | some (.int x) => x | _ => τ a k) else τ a k, ⟨fun a n hn => ?_, fun a k hk => ?_, c, m⟩, fun a ha => ?_, fun a k ha => ?_⟩
  · obtain ⟨g, hg⟩ := r a n hn
    simp only [hg, hn, Option.isSome_some, if_true]
  · obtain ⟨x, hx⟩ := i a k hk
    simp only [hx, if_pos hk]
  · simp only
    rcases hz : rsz a with _ | m
    · rfl
    · rw [ha, H.1 a m hz]
      rfl
  · simp only
    by_cases hk : ifd a k = true
    · rw [if_pos hk, ha, H.2.1 a k hk]
    · rw [if_neg hk]
end REL
section OPS1
variable {h : xH}
theorem op_wipe (R : Rel h) : Op h M_Sp_wipe M_Md_wipe [] := by
  obtain ⟨σ, τ, v, s, q, e, p, t, n, len, A, X, z, H, rv, rt, ra, rk, rs, ry⟩ := R
  have hv := H.2.2.2.1.1
  have H1 := Hp_sf H (a := 1) (c := 8) (k := 1) rfl rfl 0
  have H2 := Hp_sf H1 (a := 75) (c := 9) (k := 20) rfl rfl 0
  refine ⟨.int (nI len), _, _, ?_, ?_, ⟨_, _, _, _, _, _, _, _, _, 0, _, _, _, H2, rlV_cg rv (fun a ha => by first | rfl | (simp only [us]; repeat rw [if_neg (by omega)])) (fun k hk => by first | rfl | (simp only [ut]; repeat rw [if_neg (by omega)])) (fun k hk => by first | rfl | (simp only [ut]; repeat rw [if_neg (by omega)])), ?_, rlA_cg ra (by simp only [us, Nat.reduceEqDiff, if_false, and_self]) (by simp only [ut, Nat.reduceEqDiff, false_and, and_false, if_false, and_self]) (fun o ho => by first | rfl | (funext k; simp only [ut]; repeat rw [if_neg (by omega)])), rlK_cg rk (fun a ha => by first | rfl | (simp only [us]; repeat rw [if_neg (by omega)])) (fun b k hk => by first | rfl | (simp only [ut]; repeat rw [if_neg (by omega)])), rlS_cg rs (fun a ha => by first | rfl | (simp only [us]; repeat rw [if_neg (by omega)])) (by simp only [ut, Nat.reduceEqDiff, false_and, and_false, if_false, and_self]), rlY_cg ry (by simp only [us, Nat.reduceEqDiff, if_false, and_self])⟩, Hp_1 H, Hp_75 H1⟩
  · rw [← rt.2.1]
    simp only [k_Sp_wipe, e_Sp_wipe_0, e_Sp_wipe_1, e_Sp_wipe_4, e_Sp_wipe_5, e_Sp_wipe_6, e_Sp_wipe_7, e_Sp_wipe_10, e_Sp_wipe_11, m_get, m_put, m_ia, m_is, m_la, m_ls, fl_sf, fl_sa, fl_sl, fl_sq, ar_sf, ar_sa, ar_sl, ar_sq, lr_sf, lr_sa, lr_sl, lr_sq, qr_sf, qr_sa, qr_sl, qr_sq, sf_1, sf_2, sa_1, sa_2, sl_1, sl_2, Option.isSome_some, Option.map_some, Option.map_none, Option.toList_some, Option.toList_none, List.nil_append, List.cons_append, List.singleton_append, if_true, if_false, ↓reduceIte, and_self, and_true, true_and, and_false, false_and, not_true, not_false_iff, reduceCtorEq, Nat.reduceEqDiff, Nat.reduceAdd, Nat.reduceSub, Nat.reduceMul, Nat.reduceLT, Nat.reduceLeDiff, Nat.reduceBEq, eq_self, ne_eq, Nat.add_eq_zero_iff, Nat.add_left_cancel_iff, Nat.add_right_cancel_iff, Nat.left_eq_add, Nat.add_eq_left, Bool.true_or, Bool.or_true, Bool.or_self, or_self, or_true, true_or, or_false, false_or, decide_true, decide_false, i_10, i_01, hI H 1 8 1 rfl rfl]
  · rw [← rt.2.2.1]
    simp only [k_Md_wipe, e_Md_wipe_0, e_Md_wipe_1, e_Md_wipe_4, e_Md_wipe_5, e_Md_wipe_6, e_Md_wipe_7, e_Md_wipe_10, e_Md_wipe_11, m_get, m_put, m_ia, m_is, m_la, m_ls, fl_sf, fl_sa, fl_sl, fl_sq, ar_sf, ar_sa, ar_sl, ar_sq, lr_sf, lr_sa, lr_sl, lr_sq, qr_sf, qr_sa, qr_sl, qr_sq, sf_1, sf_2, sa_1, sa_2, sl_1, sl_2, Option.isSome_some, Option.map_some, Option.map_none, Option.toList_some, Option.toList_none, List.nil_append, List.cons_append, List.singleton_append, if_true, if_false, ↓reduceIte, and_self, and_true, true_and, and_false, false_and, not_true, not_false_iff, reduceCtorEq, Nat.reduceEqDiff, Nat.reduceAdd, Nat.reduceSub, Nat.reduceMul, Nat.reduceLT, Nat.reduceLeDiff, Nat.reduceBEq, eq_self, ne_eq, Nat.add_eq_zero_iff, Nat.add_left_cancel_iff, Nat.add_right_cancel_iff, Nat.left_eq_add, Nat.add_eq_left, Bool.true_or, Bool.or_true, Bool.or_self, or_self, or_true, true_or, or_false, false_or, decide_true, decide_false, i_10, i_01, hI H 75 9 20 rfl rfl]
  · exact ⟨by omega, by simp only [ut, nI_0]; rfl, by simp only [ut, nI_0]; rfl, rt.2.2.2⟩
end OPS1
