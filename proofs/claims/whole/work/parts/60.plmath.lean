/-! The planner: its sums and its least. -/
def bi (L c : Nat) : Nat := L / 2 ^ c % 2
def dg (T c : Nat) : Nat := T / 4 ^ c % 4
theorem bi01 (L c : Nat) : bi L c = 0 ∨ bi L c = 1 := by
  have : bi L c < 2 := Nat.mod_lt _ (by omega)
  omega
theorem bi_tb (L c : Nat) : bi L c = (L.testBit c).toNat := (Nat.toNat_testBit L c).symm
theorem bi_or (L x c : Nat) : bi (L ||| 2 ^ x) c = if c = x then 1 else bi L c := by
  rw [bi_tb, Nat.testBit_or, Nat.testBit_two_pow, bi_tb]
  by_cases w : c = x
  · rw [if_pos w, w]
    simp
  · rw [if_neg w]
    have : ¬ x = c := fun y => w y.symm
    simp [this]
def mn (f : Nat → Nat) : Nat → Nat
  | 0 => 536870912
  | k + 1 => if f k < mn f k then f k else mn f k
theorem mn_le {f : Nat → Nat} : ∀ k j, j < k → mn f k ≤ f j
  | 0, j, h => by omega
  | k + 1, j, h => by
    rw [mn]
    by_cases w : j = k
    · subst w
      split <;> omega
    · have := mn_le (f := f) k j (by omega)
      split <;> omega
theorem mn_att {f : Nat → Nat} : ∀ k, 0 < k → (∀ j, j < k → f j < 536870912) → ∃ j, j < k ∧ mn f k = f j
  | 0, h, _ => by omega
  | k + 1, _, hb => by
    rw [mn]
    by_cases w : f k < mn f k
    · exact ⟨k, by omega, by rw [if_pos w]⟩
    · rw [if_neg w]
      rcases Nat.eq_zero_or_pos k with k0 | k0
      · subst k0
        exact absurd (hb 0 (by omega)) w
      · obtain ⟨j, hj, e⟩ := mn_att k k0 (fun j hj => hb j (by omega))
        exact ⟨j, by omega, e⟩
def PS (pr : Nat → Nat → Nat) (c k : Nat) : Nat := sN (pr c) k
def Ph (C : Nat) (pr : Nat → Nat → Nat) (n : Nat → Nat) : Nat := sN (fun c => PS pr c (n c)) C
def csT (C : Nat) (pr : Nat → Nat → Nat) (L T : Nat) : Nat := sN (fun c => if bi L c = 1 then pr c (dg T c) else 0) C
theorem sN_mono (f : Nat → Nat) {a b : Nat} (h : a ≤ b) : sN f a ≤ sN f b := by
  obtain ⟨d, rfl⟩ : ∃ d, b = a + d := ⟨b - a, by omega⟩
  rw [sN_app]
  omega
theorem Ph_mono {C : Nat} {pr : Nat → Nat → Nat} {n n' : Nat → Nat} (h : ∀ c, c < C → n c ≤ n' c) : Ph C pr n ≤ Ph C pr n' := sN_le C (fun c hc => sN_mono _ (h c hc))
theorem Ph_cg {C : Nat} {pr : Nat → Nat → Nat} {n n' : Nat → Nat} (h : ∀ c, c < C → n c = n' c) : Ph C pr n = Ph C pr n' := sN_cg C (fun c hc => by rw [h c hc])
theorem cs_Ph {C : Nat} {pr : Nat → Nat → Nat} {L T : Nat} {n : Nat → Nat} (h : ∀ c, c < C → dg T c = n c) : csT C pr L T + Ph C pr n = Ph C pr (fun c => n c + bi L c) := by
  unfold csT Ph
  rw [← sN_two]
  refine sN_cg C fun c hc => ?_
  rw [h c hc]
  show (if bi L c = 1 then pr c (n c) else 0) + sN (pr c) (n c) = sN (pr c) (n c + bi L c)
  rcases bi01 L c with w | w
  · rw [w, if_neg (by omega), Nat.zero_add, Nat.add_zero]
  · rw [w, if_pos rfl, sN, Nat.add_comm]
def cfT (C : Nat) (pr li : Nat → Nat → Nat) (lc : Nat → Nat) : Nat → Nat → Nat → Nat
  | 0, _, _ => 0
  | r + 1, d, T => mn (fun k => csT C pr (li d k) T + cfT C pr li lc r (d + 1) (T + tlN (li d k))) (lc d)
def Tok (C d T : Nat) : Prop := T < 4 ^ C ∧ ∀ c, c < C → dg T c ≤ d
theorem dig6 {a0 a1 a2 a3 a4 a5 T : Nat} (hT : T = a0 + 4 * a1 + 16 * a2 + 64 * a3 + 256 * a4 + 1024 * a5) (h0 : a0 ≤ 3) (h1 : a1 ≤ 3) (h2 : a2 ≤ 3) (h3 : a3 ≤ 3) (h4 : a4 ≤ 3) (h5 : a5 ≤ 3) : dg T 0 = a0 ∧ dg T 1 = a1 ∧ dg T 2 = a2 ∧ dg T 3 = a3 ∧ dg T 4 = a4 ∧ dg T 5 = a5 := by
  unfold dg
  simp only [Nat.reducePow]
  refine ⟨?_, ?_, ?_, ?_, ?_, ?_⟩ <;> omega
theorem dig6' {T : Nat} (hT : T < 4096) : T = dg T 0 + 4 * dg T 1 + 16 * dg T 2 + 64 * dg T 3 + 256 * dg T 4 + 1024 * dg T 5 := by
  unfold dg
  simp only [Nat.reducePow]
  omega
theorem tl6 {L : Nat} : tlN L = bi L 0 + 4 * bi L 1 + 16 * bi L 2 + 64 * bi L 3 + 256 * bi L 4 + 1024 * bi L 5 := by
  unfold tlN bi
  simp only [Nat.reducePow, Nat.div_one]
theorem bi_hi {L C c : Nat} (hL : L < 2 ^ C) (hc : C ≤ c) : bi L c = 0 := by
  unfold bi
  have : 2 ^ C ≤ 2 ^ c := Nat.pow_le_pow_right (by omega) hc
  rw [Nat.div_eq_of_lt (by omega)]
theorem dg_hi {T C c : Nat} (hT : T < 4 ^ C) (hc : C ≤ c) : dg T c = 0 := by
  unfold dg
  have : 4 ^ C ≤ 4 ^ c := Nat.pow_le_pow_right (by omega) hc
  rw [Nat.div_eq_of_lt (by omega)]
theorem T_step {C d T L : Nat} (hC : C ≤ 6) (hd : d < 3) (h : Tok C d T) (hL : L < 2 ^ C) : Tok C (d + 1) (T + tlN L) ∧ ∀ c, c < C → dg (T + tlN L) c = dg T c + bi L c := by
  have hT : T < 4096 := Nat.lt_of_lt_of_le h.1 (Nat.le_trans (Nat.pow_le_pow_right (by omega) hC) (by decide))
  have b : ∀ c, dg T c ≤ 2 := fun c => by
    by_cases w : c < C
    · have := h.2 c w; omega
    · rw [dg_hi h.1 (by omega)]; omega
  have e := dig6' hT
  have f := tl6 (L := L)
  have d0 := b 0; have d1 := b 1; have d2 := b 2; have d3 := b 3; have d4 := b 4; have d5 := b 5
  have c0 := bi01 L 0; have c1 := bi01 L 1; have c2 := bi01 L 2; have c3 := bi01 L 3; have c4 := bi01 L 4; have c5 := bi01 L 5
  obtain ⟨g0, g1, g2, g3, g4, g5⟩ := dig6 (T := T + tlN L) (a0 := dg T 0 + bi L 0) (a1 := dg T 1 + bi L 1) (a2 := dg T 2 + bi L 2) (a3 := dg T 3 + bi L 3) (a4 := dg T 4 + bi L 4) (a5 := dg T 5 + bi L 5) (by omega) (by omega) (by omega) (by omega) (by omega) (by omega) (by omega)
  have all : ∀ c, c < C → dg (T + tlN L) c = dg T c + bi L c := fun c hc => by
    rcases (by omega : c = 0 ∨ c = 1 ∨ c = 2 ∨ c = 3 ∨ c = 4 ∨ c = 5) with rfl | rfl | rfl | rfl | rfl | rfl <;> assumption
  refine ⟨⟨?_, fun c hc => ?_⟩, all⟩
  · have z : ∀ c, C ≤ c → dg T c = 0 ∧ bi L c = 0 := fun c hc => ⟨dg_hi h.1 hc, bi_hi hL hc⟩
    rcases (by omega : C = 0 ∨ C = 1 ∨ C = 2 ∨ C = 3 ∨ C = 4 ∨ C = 5 ∨ C = 6) with rfl | rfl | rfl | rfl | rfl | rfl | rfl <;> simp only [Nat.reducePow] <;> have z0 := z 0 <;> have z1 := z 1 <;> have z2 := z 2 <;> have z3 := z 3 <;> have z4 := z 4 <;> have z5 := z 5 <;> omega
  · have := all c hc
    have := h.2 c hc
    have := bi01 L c
    omega
def Sn (C d T : Nat) (n : Nat → Nat) : Prop := d ≤ 3 → Tok C d T ∧ ∀ c, c < C → dg T c = n c
theorem Sn_step {C d T L : Nat} {n : Nat → Nat} (hC : C ≤ 6) (h : Sn C d T n) (hd : d ≤ 3) (hL : L < 2 ^ C) : Sn C (d + 1) (T + tlN L) (fun c => n c + bi L c) := fun h4 => by
  obtain ⟨a, b⟩ := h hd
  have := T_step hC (by omega) a hL
  exact ⟨this.1, fun c hc => by rw [this.2 c hc, b c hc]⟩
def tt (L : Nat → Nat) : Nat → Nat → Nat → Nat
  | 0, _, _ => 0
  | r + 1, d, c => bi (L d) c + tt L r (d + 1) c
theorem tt_cg {L L' : Nat → Nat} : ∀ r d c, (∀ e, d ≤ e → e < d + r → L e = L' e) → tt L r d c = tt L' r d c
  | 0, _, _, _ => rfl
  | r + 1, d, c, h => by rw [tt, tt, h d (by omega) (by omega), tt_cg r (d + 1) c (fun e h1 h2 => h e (by omega) (by omega))]
