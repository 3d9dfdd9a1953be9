section PA
variable {C : Nat} {pr li : Nat → Nat → Nat} {lc : Nat → Nat} {SF : Nat → Nat → Prop}
theorem pl_A (hC : C ≤ 6) (h1 : ∀ d, d < 4 → ∀ k, k < lc d → li d k < 2 ^ C) (h2 : ∀ d, d < 4 → ∀ L, SF d L → ∃ k, k < lc d ∧ ∀ c, c < C → bi (li d k) c ≤ bi L c) : ∀ r d T n, r + d = 4 → Sn C d T n → ∀ L : Nat → Nat, (∀ e, d ≤ e → e < 4 → SF e (L e)) → cfT C pr li lc r d T + Ph C pr n ≤ Ph C pr (fun c => n c + tt L r d c)
  | 0, d, T, n, hd, hS, L, hL => by
    rw [cfT, Nat.zero_add]
    exact Ph_mono (fun c _ => Nat.le_add_right _ _)
  | r + 1, d, T, n, hd, hS, L, hL => by
    obtain ⟨k, hk, hs⟩ := h2 d (by omega) (L d) (hL d (Nat.le_refl _) (by omega))
    have b := h1 d (by omega) k hk
    have ih := pl_A hC h1 h2 r (d + 1) (T + tlN (li d k)) _ (by omega) (Sn_step hC hS (by omega) b) L (fun e h3 h4 => hL e (by omega) h4)
    have m : cfT C pr li lc (r + 1) d T ≤ csT C pr (li d k) T + cfT C pr li lc r (d + 1) (T + tlN (li d k)) := by
      rw [cfT]
      exact mn_le (lc d) k hk
    have p := cs_Ph (C := C) (pr := pr) (L := li d k) (hS (by omega)).2
    have mo : Ph C pr (fun c => n c + bi (li d k) c + tt L r (d + 1) c) ≤ Ph C pr (fun c => n c + tt L (r + 1) d c) := Ph_mono (fun c hc => by
      have := hs c hc
      rw [tt]
      omega)
    omega
theorem cs_bd (hp : ∀ c b, pr c b ≤ 100) (L T : Nat) : ∀ C, csT C pr L T ≤ 100 * C
  | 0 => Nat.le_refl _
  | C + 1 => by
    have ih := cs_bd hp L T C
    unfold csT at *
    rw [sN]
    have : (if bi L C = 1 then pr C (dg T C) else 0) ≤ 100 := by
      split
      · exact hp _ _
      · omega
    omega
theorem pl_bd (hC : C ≤ 6) (hp : ∀ c b, pr c b ≤ 100) (hpos : ∀ d, d < 4 → 0 < lc d) : ∀ r d T, r + d ≤ 4 → cfT C pr li lc r d T ≤ 600 * r
  | 0, _, _, _ => Nat.le_refl _
  | r + 1, d, T, hd => by
    have m : cfT C pr li lc (r + 1) d T ≤ csT C pr (li d 0) T + cfT C pr li lc r (d + 1) (T + tlN (li d 0)) := by
      rw [cfT]
      exact mn_le (lc d) 0 (hpos d (by omega))
    have := cs_bd hp (li d 0) T C
    have := pl_bd hC hp hpos r (d + 1) (T + tlN (li d 0)) (by omega)
    omega
theorem pl_att (hC : C ≤ 6) (hp : ∀ c b, pr c b ≤ 100) (hpos : ∀ d, d < 4 → 0 < lc d) {r d T : Nat} (hd : r + 1 + d ≤ 4) : ∃ k, k < lc d ∧ cfT C pr li lc (r + 1) d T = csT C pr (li d k) T + cfT C pr li lc r (d + 1) (T + tlN (li d k)) := by
  obtain ⟨k, hk, e⟩ := mn_att (f := fun k => csT C pr (li d k) T + cfT C pr li lc r (d + 1) (T + tlN (li d k))) (lc d) (hpos d (by omega)) (fun j hj => by
    have := cs_bd hp (li d j) T C
    have := pl_bd (C := C) (li := li) hC hp hpos r (d + 1) (T + tlN (li d j)) (by omega)
    omega)
  exact ⟨k, hk, by rw [cfT]; exact e⟩
theorem pl_B (hC : C ≤ 6) (hp : ∀ c b, pr c b ≤ 100) (hpos : ∀ d, d < 4 → 0 < lc d) (h1 : ∀ d, d < 4 → ∀ k, k < lc d → li d k < 2 ^ C) (h3 : ∀ d, d < 4 → ∀ k, k < lc d → SF d (li d k)) : ∀ r d T n, r + d = 4 → Sn C d T n → ∃ L : Nat → Nat, (∀ e, d ≤ e → e < 4 → SF e (L e)) ∧ cfT C pr li lc r d T + Ph C pr n = Ph C pr (fun c => n c + tt L r d c)
  | 0, d, T, n, hd, hS => ⟨fun _ => 0, fun e h4 h5 => by omega, by
    rw [cfT, Nat.zero_add]
    exact Ph_cg (fun c _ => rfl)⟩
  | r + 1, d, T, n, hd, hS => by
    obtain ⟨k, hk, e⟩ := pl_att (C := C) (li := li) (T := T) hC hp hpos (show r + 1 + d ≤ 4 by omega)
    have b := h1 d (by omega) k hk
    obtain ⟨L, hL, f⟩ := pl_B hC hp hpos h1 h3 r (d + 1) (T + tlN (li d k)) _ (by omega) (Sn_step hC hS (by omega) b)
    refine ⟨fun e => if e = d then li d k else L e, fun e h4 h5 => ?_, ?_⟩
    · by_cases w : e = d
      · simp only [w, if_true]
        exact h3 d (by omega) k hk
      · simp only [w, if_false]
        exact hL e (by omega) h5
    · have p := cs_Ph (C := C) (pr := pr) (L := li d k) (hS (by omega)).2
      rw [e, Nat.add_right_comm, p, Nat.add_comm, f]
      refine Ph_cg (fun c _ => ?_)
      have e2 : tt (fun e => if e = d then li d k else L e) r (d + 1) c = tt L r (d + 1) c := tt_cg r (d + 1) c (fun e h4 h5 => if_neg (by omega))
      rw [tt, if_pos rfl, e2]
      omega
end PA
/-! assignments -/
def DF (C : Nat) (ok : Nat → Nat → Bool) (a : Nat → Nat) (lo hi : Nat) : Prop := ∀ i, lo ≤ i → i < hi → a i < C ∧ ok i (a i) = true ∧ ∀ k, lo ≤ k → k < i → a k ≠ a i
theorem DF_cg {C : Nat} {ok : Nat → Nat → Bool} {a a' : Nat → Nat} {lo hi : Nat} (h : DF C ok a lo hi) (e : ∀ i, lo ≤ i → i < hi → a' i = a i) : DF C ok a' lo hi := fun i h1 h2 => by
  obtain ⟨x, y, z⟩ := h i h1 h2
  rw [e i h1 h2]
  exact ⟨x, y, fun k h3 h4 => by rw [e k h3 (by omega)]; exact z k h3 h4⟩
def msk (ln : Nat → Nat → Bool) (a : Nat → Nat) (lo : Nat) : Nat → Nat
  | 0 => 0
  | r + 1 => if ln (lo + r) (a (lo + r)) = true then msk ln a lo r ||| 2 ^ (a (lo + r)) else msk ln a lo r
theorem msk_cg {ln : Nat → Nat → Bool} {a a' : Nat → Nat} {lo : Nat} : ∀ r, (∀ i, lo ≤ i → i < lo + r → a' i = a i) → msk ln a' lo r = msk ln a lo r
  | 0, _ => rfl
  | r + 1, e => by rw [msk, msk, e (lo + r) (by omega) (by omega), msk_cg r (fun i h1 h2 => e i h1 (by omega))]
def cnt (ln : Nat → Nat → Bool) (a : Nat → Nat) (c : Nat) : Nat → Nat
  | 0 => 0
  | i + 1 => cnt ln a c i + (if a i = c ∧ ln i c = true then 1 else 0)
theorem cnt_cg {ln : Nat → Nat → Bool} {a a' : Nat → Nat} {c : Nat} : ∀ r, (∀ i, i < r → a' i = a i) → cnt ln a' c r = cnt ln a c r
  | 0, _ => rfl
  | r + 1, e => by rw [cnt, cnt, e r (by omega), cnt_cg r (fun i h => e i (by omega))]
theorem bi_0 (c : Nat) : bi 0 c = 0 := by unfold bi; rw [Nat.zero_div]
theorem msk_bit {ln : Nat → Nat → Bool} {a : Nat → Nat} {lo c : Nat} : ∀ r, bi (msk ln a lo r) c = 1 → ∃ k, lo ≤ k ∧ k < lo + r ∧ a k = c
  | 0, h => by rw [msk, bi_0] at h; omega
  | r + 1, h => by
    rw [msk] at h
    by_cases w : ln (lo + r) (a (lo + r)) = true
    · rw [if_pos w, bi_or] at h
      by_cases w2 : c = a (lo + r)
      · exact ⟨lo + r, by omega, by omega, w2.symm⟩
      · rw [if_neg w2] at h
        obtain ⟨k, x, y, z⟩ := msk_bit r h
        exact ⟨k, x, by omega, z⟩
    · rw [if_neg w] at h
      obtain ⟨k, x, y, z⟩ := msk_bit r h
      exact ⟨k, x, by omega, z⟩
theorem msk_lt {C : Nat} {ln : Nat → Nat → Bool} {a : Nat → Nat} {lo : Nat} : ∀ r, (∀ i, lo ≤ i → i < lo + r → a i < C) → msk ln a lo r < 2 ^ C
  | 0, _ => Nat.pow_pos (by omega)
  | r + 1, h => by
    have ih := msk_lt (C := C) (ln := ln) r (fun i h1 h2 => h i h1 (by omega))
    rw [msk]
    split
    · exact Nat.or_lt_two_pow ih (Nat.pow_lt_pow_right (by omega) (h (lo + r) (by omega) (by omega)))
    · exact ih
theorem cnt_day {C : Nat} {ok ln : Nat → Nat → Bool} {a : Nat → Nat} {lo c : Nat} : ∀ r, DF C ok a lo (lo + r) → cnt ln a c (lo + r) = cnt ln a c lo + bi (msk ln a lo r) c
  | 0, _ => by rw [msk, bi_0]; rfl
  | r + 1, h => by
    have ih := cnt_day (ln := ln) (c := c) r (fun i h1 h2 => h i h1 (by omega))
    rw [← Nat.add_assoc, cnt, ih, msk]
    by_cases w : a (lo + r) = c
    · by_cases w2 : ln (lo + r) (a (lo + r)) = true
      · rw [if_pos ⟨w, by rw [← w]; exact w2⟩, if_pos w2, bi_or, if_pos w.symm]
        rcases bi01 (msk ln a lo r) c with q | q
        · omega
        · obtain ⟨k, x, y, z⟩ := msk_bit r q
          exact absurd (by rw [z, w]) ((h (lo + r) (by omega) (by omega)).2.2 k x y)
      · rw [if_neg (fun y => w2 (by rw [w]; exact y.2)), if_neg w2]
        rfl
    · rw [if_neg (fun y => w y.1)]
      by_cases w2 : ln (lo + r) (a (lo + r)) = true
      · rw [if_pos w2, bi_or, if_neg (fun y => w y.symm)]
        rfl
      · rw [if_neg w2]
        rfl
def coC (pr : Nat → Nat → Nat) (ln : Nat → Nat → Bool) (a : Nat → Nat) : Nat → Nat
  | 0 => 0
  | i + 1 => coC pr ln a i + (if ln i (a i) = true then pr (a i) (cnt ln a (a i) i) else 0)
theorem sN_up {f g : Nat → Nat} {x y : Nat} : ∀ k, x < k → (∀ c, c < k → g c = if c = x then f c + y else f c) → sN g k = sN f k + y
  | 0, h, _ => by omega
  | k + 1, h, e => by
    rw [sN, sN, e k (by omega)]
    by_cases w : k = x
    · rw [if_pos w, sN_cg k (fun c hc => by rw [e c (by omega), if_neg (by omega)])]
      omega
    · rw [if_neg w, sN_up k (by omega) (fun c hc => e c (by omega))]
      omega
theorem co_Ph {C : Nat} {pr : Nat → Nat → Nat} {ln : Nat → Nat → Bool} {a : Nat → Nat} : ∀ i, (∀ k, k < i → a k < C) → coC pr ln a i = Ph C pr (fun c => cnt ln a c i)
  | 0, _ => by
    rw [coC]
    exact (sN_0 C).symm
  | i + 1, h => by
    rw [coC, co_Ph i (fun k hk => h k (by omega))]
    by_cases w : ln i (a i) = true
    · rw [if_pos w]
      unfold Ph
      refine (sN_up C (h i (by omega)) (fun c hc => ?_)).symm
      show PS pr c (cnt ln a c i + (if a i = c ∧ ln i c = true then 1 else 0)) = if c = a i then PS pr c (cnt ln a c i) + pr (a i) (cnt ln a (a i) i) else PS pr c (cnt ln a c i)
      by_cases q : c = a i
      · subst q
        rw [if_pos ⟨rfl, w⟩, if_pos rfl]
        rfl
      · rw [if_neg (fun y => q y.1.symm), if_neg q, Nat.add_zero]
    · rw [if_neg w, Nat.add_zero]
      refine Ph_cg (fun c _ => ?_)
      show _ = cnt ln a c i + (if a i = c ∧ ln i c = true then 1 else 0)
      rw [if_neg (fun y => w (by rw [y.1]; exact y.2)), Nat.add_zero]
