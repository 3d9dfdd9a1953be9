/-! Chances: the sums. -/
def sN (f : Nat → Nat) : Nat → Nat
  | 0 => 0
  | k + 1 => sN f k + f k
theorem sN_cg {f g : Nat → Nat} : ∀ k, (∀ i, i < k → f i = g i) → sN f k = sN g k
  | 0, _ => rfl
  | k + 1, hh => by rw [sN, sN, sN_cg k (fun i hi => hh i (by omega)), hh k (by omega)]
theorem sN_le {f g : Nat → Nat} : ∀ k, (∀ i, i < k → f i ≤ g i) → sN f k ≤ sN g k
  | 0, _ => Nat.le_refl _
  | k + 1, hh => by
    rw [sN, sN]
    exact Nat.add_le_add (sN_le k (fun i hi => hh i (by omega))) (hh k (by omega))
theorem sN_two (f g : Nat → Nat) : ∀ k, sN (fun i => f i + g i) k = sN f k + sN g k
  | 0 => rfl
  | k + 1 => by rw [sN, sN, sN, sN_two f g k]; omega
theorem sN_mul (c : Nat) (f : Nat → Nat) : ∀ k, sN (fun i => c * f i) k = c * sN f k
  | 0 => rfl
  | k + 1 => by rw [sN, sN, sN_mul c f k, Nat.mul_add]
theorem sN_app (f : Nat → Nat) (a : Nat) : ∀ b, sN f (a + b) = sN f a + sN (fun i => f (a + i)) b
  | 0 => rfl
  | b + 1 => by rw [← Nat.add_assoc, sN, sN, sN_app f a b, Nat.add_assoc]
theorem sN_0 : ∀ k, sN (fun _ => 0) k = 0
  | 0 => rfl
  | k + 1 => by rw [sN, sN_0 k]
/-- in how many ways a thing is needed k times -/
def wy (x : Nat) : Nat → Nat → Nat
  | 0, k => if k = 0 then 1 else 0
  | n + 1, 0 => wy x n 0 * (10 - x)
  | n + 1, k + 1 => wy x n (k + 1) * (10 - x) + wy x n k * x
theorem wy_big (x : Nat) : ∀ n k, n < k → wy x n k = 0
  | 0, k, h => by rw [wy, if_neg (by omega)]
  | n + 1, 0, h => by omega
  | n + 1, k + 1, h => by rw [wy, wy_big x n (k + 1) (by omega), wy_big x n k (by omega)]; omega
/-- a set's weight, and how many are in it -/
def wS (x set : Nat) : Nat → Nat
  | 0 => 1
  | k + 1 => wS x set k * (if set.testBit k = true then x else 10 - x)
def pS (set : Nat) : Nat → Nat
  | 0 => 0
  | k + 1 => pS set k + (if set.testBit k = true then 1 else 0)
theorem wS_add (x n : Nat) (s : Nat) : ∀ k, k ≤ n → wS x (2 ^ n + s) k = wS x s k ∧ pS (2 ^ n + s) k = pS s k
  | 0, _ => ⟨rfl, rfl⟩
  | k + 1, h => by
    have := wS_add x n s k (by omega)
    rw [wS, wS, pS, pS, this.1, this.2, Nat.testBit_two_pow_add_gt (by omega)]
    exact ⟨rfl, rfl⟩
def Sw (x n : Nat) (f : Nat → Nat) : Nat := sN (fun s => wS x s n * f (pS s n)) (2 ^ n)
theorem Sw_s (x n : Nat) (f : Nat → Nat) : Sw x (n + 1) f = Sw x n (fun k => (10 - x) * f k + x * f (k + 1)) := by
  unfold Sw
  rw [show 2 ^ (n + 1) = 2 ^ n + 2 ^ n by omega, sN_app]
  rw [← sN_two]
  refine sN_cg _ fun s hs => ?_
  have t0 : s.testBit n = false := Nat.testBit_lt_two_pow hs
  have e := wS_add x n s n (Nat.le_refl _)
  simp only [wS, pS, e.1, e.2, Nat.testBit_two_pow_add_eq, t0, Bool.not_false, Bool.false_eq_true, if_true, if_false, Nat.add_zero]
  rw [Nat.mul_add, Nat.mul_assoc, Nat.mul_assoc]
theorem wy_s (x n : Nat) (f : Nat → Nat) : ∀ K, sN (fun k => wy x (n + 1) k * f k) (K + 1) = sN (fun k => wy x n k * ((10 - x) * f k)) (K + 1) + sN (fun k => wy x n k * (x * f (k + 1))) K
  | 0 => by
    simp only [sN, wy, Nat.zero_add, Nat.add_zero, Nat.mul_assoc]
  | K + 1 => by
    rw [sN, wy_s x n f K]
    conv => rhs; rw [sN]
    conv => rhs; rhs; rw [sN]
    simp only [wy, Nat.add_mul, Nat.mul_assoc]
    omega
theorem Sw_wy (x : Nat) : ∀ n f K, n < K → Sw x n f = sN (fun k => wy x n k * f k) K
  | 0, f, K, h => by
    unfold Sw
    obtain ⟨K, rfl⟩ : ∃ j, K = 1 + j := ⟨K - 1, by omega⟩
    rw [sN_app]
    have e : sN (fun i => wy x 0 (1 + i) * f (1 + i)) K = sN (fun _ => 0) K := sN_cg K (fun i _ => by rw [wy, if_neg (by omega), Nat.zero_mul])
    rw [e, sN_0]
    rfl
  | n + 1, f, K, h => by
    obtain ⟨K, rfl⟩ : ∃ j, K = j + 1 := ⟨K - 1, by omega⟩
    rw [Sw_s, Sw_wy x n _ K (by omega), wy_s, sN, wy_big x n K (by omega), Nat.zero_mul, Nat.add_zero, ← sN_two]
    exact sN_cg K (fun i _ => Nat.mul_add _ _ _)
theorem Sw_1 {x : Nat} (hx : x ≤ 10) : ∀ n, Sw x n (fun _ => 1) = 10 ^ n
  | 0 => rfl
  | n + 1 => by
    rw [Sw_s, Nat.pow_succ, ← Sw_1 hx n]
    unfold Sw
    rw [Nat.mul_comm (sN _ _) 10, ← sN_mul]
    refine sN_cg _ fun s _ => ?_
    simp only [Nat.mul_one]
    rw [show 10 - x + x = 10 by omega, Nat.mul_comm]
theorem Sw_le {x n c : Nat} {f : Nat → Nat} (h : ∀ k, f k ≤ c) : Sw x n f ≤ c * Sw x n (fun _ => 1) := by
  unfold Sw
  rw [← sN_mul]
  refine sN_le _ fun s _ => ?_
  rw [Nat.mul_one, Nat.mul_comm]
  exact Nat.mul_le_mul_right _ (h _)
/-- what so many betterments cost -/
def cN (s g : Nat) : Nat → Nat
  | 0 => 0
  | k + 1 => cN s g k + (s + 1) * (g + k + 1)
theorem nI_mul (a b : Nat) : nI a * nI b = nI (a * b) := (Int32.ofNat_mul a b).symm
theorem cst_N (s g : Nat) : ∀ k, cst (nI s) (nI g) k = nI (cN s g k)
  | 0 => rfl
  | k + 1 => by
    rw [cst, cN, cst_N s g k, nI_add, nI_1, nI_1, nI_mul, nI_add]
theorem cN_le {s g : Nat} (hs : s ≤ 2) (hg : g ≤ 9) : ∀ k, k ≤ 10 → cN s g k ≤ 60 * k
  | 0, _ => Nat.le_refl _
  | k + 1, h => by
    have ih := cN_le hs hg k (by omega)
    have : (s + 1) * (g + k + 1) ≤ 3 * 20 := Nat.mul_le_mul (by omega) (by omega)
    rw [cN]
    omega
theorem bt_nI {a k : Nat} (hk : k < 32) : bt (nI a) k = a.testBit k := by
  show (BitVec.ofNat 32 a).getLsbD k = _
  rw [BitVec.getLsbD_ofNat]
  simp [hk]
theorem ten_sub : ∀ x, x ≤ 10 → (10 : Int32) - nI x = nI (10 - x) := by decide +kernel
theorem nI_sub {a b : Nat} (h : b ≤ a) : nI a - nI b = nI (a - b) := by
  obtain ⟨c, rfl⟩ : ∃ c, a = b + c := ⟨a - b, by omega⟩
  rw [Nat.add_sub_cancel_left, ← nI_add]
  apply Int32.toBitVec_inj.mp
  rw [Int32.toBitVec_sub, Int32.toBitVec_add, BitVec.add_comm, BitVec.add_sub_cancel]
theorem lg0 (x y : Int64) : (lg_cmp x y = 0) ↔ x = y := by
  unfold lg_cmp
  by_cases h1 : x > y
  · rw [if_pos h1]
    refine ⟨fun w => absurd w (by decide), fun w => ?_⟩
    rw [w] at h1
    exact absurd h1 (Int64.lt_irrefl)
  · rw [if_neg h1]
    by_cases h2 : x = y
    · rw [if_pos h2]
      exact ⟨fun _ => h2, fun _ => rfl⟩
    · rw [if_neg h2]
      exact ⟨fun w => absurd w (by decide), fun w => absurd w h2⟩
