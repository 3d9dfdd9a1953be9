
section HIST
variable {σ τ σ' τ' : Nat → Nat → Int32} {q q' : Nat → Nat} {p t A X B : Nat}
theorem St_cg {ow S S' : Nat → Int32} (t6 : t ≤ 6) (hs : ∀ k, k < 24 → S' k = S k) (st : St p t ow S) : St p t ow S' := fun j hj => by
  rw [hs _ (by omega), hs _ (by omega), hs _ (by omega)]
  exact st j hj
theorem upd_cg {S S' : Nat → Int32} (hs : ∀ k, k < 24 → S' k = S k) {i : Nat} {x y : Int32} (hx : x = y) : ∀ k, k < 24 → upd S' i x k = upd S i y k := fun k hk => by
  unfold upd
  rw [hx, hs k hk]
theorem Un_cg {ow F S1 S1' S2 S2' : Nat → Int32} (p5 : p ≤ 5) (t6 : t ≤ 6) (h1 : ∀ k, k < 24 → S1' k = S1 k) (h2 : ∀ k, k < 24 → S2' k = S2 k) (u : Un p t ow F S1 S2) : Un p t ow F S1' S2' := by
  have lt : ∀ k, rl p t k → k < 24 := fun k hk => by unfold rl at hk; omega
  rcases u with ⟨u1, u2⟩ | ⟨u1, x, hx, u2, u3⟩ | ⟨u1, x, y, hx, hy, u2, u3, u4⟩
  · refine Or.inl ⟨u1, fun k hk => ?_⟩
    have := lt k hk
    rw [h2 k this, u2 k hk]
    unfold dyb
    rw [h1 23 (by omega), h1 k this, h1 (k - 6) (by omega)]
  · refine Or.inr (Or.inl ⟨u1, x, hx, u2, fun k hk => ?_⟩)
    rw [h2 k (lt k hk), u3 k hk]
    exact (upd_cg (upd_cg h1 rfl) rfl k (lt k hk)).symm
  · refine Or.inr (Or.inr ⟨u1, x, y, hx, hy, u2, u3, fun k hk => ?_⟩)
    rw [h2 k (lt k hk), u4 k hk]
    exact (upd_cg (upd_cg (upd_cg (upd_cg h1 (by rw [h1 y (by omega)])) (by rw [h1 _ (by omega)])) rfl) rfl k (lt k hk)).symm
/-- a new act -/
theorem rlA_push (p5 : p ≤ 5) (t6 : t ≤ 6) (R : rlA A X p t σ τ q) (hB1 : A < 16 → B = A) (hB2 : A = 16 → B = 15) (s81 : σ' 81 = σ 81) (s86 : σ' 86 = cpI (σ 86) (σ 84) (24 * X) 24) (t26 : τ' 26 1 = nI (B + 1)) (t23 : τ' 75 23 = nI (B + 1)) (t24 : τ' 75 24 = nI ((X + 1) % 16)) (qb : ∀ i, i < 16 → 28 ≤ q' i ∧ q' i ≤ 43) (qi : ∀ i j, i < 16 → j < 16 → q' i = q' j → i = j) (qo : ∀ a, a < B → q' (B - 1 - a) = q (A - 1 - a)) (to : ∀ i, i < 16 → i ≠ B → τ' (q' i) = τ (q' i)) (st : St p t (σ 81) (σ 84)) (un : Un p t (σ 81) (τ' (q' B)) (σ' 84) (σ 84)) : rlA (B + 1) ((X + 1) % 16) p t σ' τ' q' := by
  obtain ⟨⟨hA, hX, x26, x23, x24⟩, ⟨b1, b2⟩, hh⟩ := R
  have hB : B ≤ 15 ∧ B ≤ A := by
    rcases Nat.lt_or_ge A 16 with w | w
    · have := hB1 w; omega
    · have := hB2 (by omega); omega
  have sn1 : ∀ k, k < 24 → sn σ' ((X + 1) % 16) 1 k = σ 84 k := fun k hk => by
    unfold sn
    rw [if_neg (by omega), s86]
    rw [show ((X + 1) % 16 + 16 - 1) % 16 = X by omega]
    exact cpI_in hk
  have sns : ∀ a, 1 ≤ a → a ≤ 15 → ∀ k, k < 24 → sn σ' ((X + 1) % 16) (a + 1) k = sn σ X a k := fun a h1 h15 k hk => by
    unfold sn
    rw [if_neg (by omega), if_neg (by omega), s86]
    rw [show ((X + 1) % 16 + 16 - (a + 1)) % 16 = (X + 16 - a) % 16 by omega]
    have : (X + 16 - a) % 16 ≠ X := by omega
    exact cpI_out (by omega)
  have sna : ∀ a, a ≤ 15 → ∀ k, k < 24 → sn σ' ((X + 1) % 16) (a + 1) k = sn σ X a k := fun a ha k hk => by
    rcases Nat.eq_zero_or_pos a with w | w
    · subst w
      rw [sn1 k hk]
      rfl
    · exact sns a w ha k hk
  refine ⟨⟨by omega, by omega, t26, t23, t24⟩, ⟨qb, qi⟩, fun a ha => ?_⟩
  rw [s81]
  rcases Nat.eq_zero_or_pos a with w | w
  · subst w
    refine ⟨St_cg t6 sn1 st, ?_⟩
    rw [show B + 1 - 1 - 0 = B by omega]
    exact Un_cg p5 t6 (fun k _ => rfl) sn1 un
  · obtain ⟨g1, g2⟩ := hh (a - 1) (by omega)
    rw [show a - 1 + 1 = a by omega] at g1 g2
    refine ⟨St_cg t6 (sna a (by omega)) g1, ?_⟩
    have e := qo (a - 1) (by omega)
    rw [show B + 1 - 1 - a = B - 1 - (a - 1) by omega, to _ (by omega) (by omega), e]
    refine Un_cg p5 t6 ?_ (sna a (by omega)) g2
    intro k hk
    have := sna (a - 1) (by omega) k hk
    rw [show a - 1 + 1 = a by omega] at this
    exact this
/-- the last act undone -/
theorem rlA_pop (p5 : p ≤ 5) (t6 : t ≤ 6) (R : rlA A X p t σ τ q) (hA0 : 0 < A) (s81 : σ' 81 = σ 81) (s86 : σ' 86 = σ 86) (s84 : ∀ k, k < 24 → σ' 84 k = sn σ X 1 k) (t26 : τ' 26 1 = nI (A - 1)) (t23 : τ' 75 23 = nI (A - 1)) (t24 : τ' 75 24 = nI ((X + 15) % 16)) (to : ∀ i, i < 16 → τ' (q i) = τ (q i)) : rlA (A - 1) ((X + 15) % 16) p t σ' τ' q := by
  obtain ⟨⟨hA, hX, x26, x23, x24⟩, ⟨b1, b2⟩, hh⟩ := R
  have sns : ∀ a, a < A → ∀ k, k < 24 → sn σ' ((X + 15) % 16) a k = sn σ X (a + 1) k := fun a ha k hk => by
    rcases Nat.eq_zero_or_pos a with w | w
    · subst w
      exact s84 k hk
    · unfold sn
      rw [if_neg (by omega), if_neg (by omega), s86]
      rw [show ((X + 15) % 16 + 16 - a) % 16 = (X + 16 - (a + 1)) % 16 by omega]
  refine ⟨⟨by omega, by omega, t26, t23, t24⟩, ⟨b1, b2⟩, fun a ha => ?_⟩
  obtain ⟨g1, g2⟩ := hh (a + 1) (by omega)
  rw [s81]
  refine ⟨St_cg t6 (sns (a + 1) (by omega)) g1, ?_⟩
  rw [to _ (by omega), show A - 1 - 1 - a = A - 1 - (a + 1) by omega]
  exact Un_cg p5 t6 (sns a (by omega)) (sns (a + 1) (by omega)) g2
end HIST
