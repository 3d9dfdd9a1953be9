/-! The whole heap by tables: rows, int fields, fixed refs. -/
def rty (a : Nat) : Nat := if a = 69 then 2 else if a = 93 then 2 else if a = 96 then 2 else 0
def rsz (a : Nat) : Option Nat :=
  if a = 2 then some 90 else if a = 5 then some 5 else if a = 6 then some 5 else if a = 7 then some 6 else if a = 8 then some 6 else if a = 9 then some 6 else if a = 10 then some 6 else if a = 11 then some 6 else if a = 12 then some 8 else if a = 13 then some 8 else if a = 14 then some 8
  else if a = 16 then some 5 else if a = 17 then some 5 else if a = 18 then some 6 else if a = 19 then some 6 else if a = 20 then some 6 else if a = 21 then some 6 else if a = 22 then some 6 else if a = 23 then some 8 else if a = 24 then some 8 else if a = 25 then some 8
  else if a = 46 then some 5 else if a = 47 then some 6 else if a = 48 then some 6 else if a = 49 then some 6 else if a = 51 then some 5 else if a = 52 then some 6 else if a = 53 then some 6 else if a = 54 then some 6
  else if a = 56 then some 6 else if a = 57 then some 8 else if a = 58 then some 5 else if a = 59 then some 256 else if a = 60 then some 4 else if a = 61 then some 64 else if a = 62 then some 24 else if a = 63 then some 8192 else if a = 64 then some 8 else if a = 65 then some 10
  else if a = 67 then some 6 else if a = 68 then some 6 else if a = 69 then some 6 else if a = 70 then some 5 else if a = 71 then some 5 else if a = 74 then some 6
  else if a = 76 then some 5 else if a = 77 then some 5 else if a = 78 then some 18 else if a = 79 then some 24 else if a = 80 then some 5 else if a = 81 then some 6 else if a = 82 then some 6 else if a = 83 then some 24 else if a = 84 then some 24 else if a = 85 then some 90 else if a = 86 then some 384 else if a = 87 then some 8 else if a = 88 then some 9 else if a = 89 then some 8 else if a = 90 then some 6 else if a = 91 then some 6 else if a = 92 then some 6 else if a = 93 then some 6 else if a = 94 then some 5 else if a = 95 then some 5 else if a = 96 then some 2 else if a = 97 then some 48
  else none
def ocl (a : Nat) : Nat := if a = 1 then 8 else if a = 3 then 5 else if a = 4 then 7 else if a = 15 then 7 else if a = 26 then 1 else if a = 45 then 3 else if a = 50 then 3 else if a = 55 then 4 else if a = 66 then 6 else if a = 72 then 2 else if a = 75 then 9 else 0
def ifd (a k : Nat) : Bool := decide (a < 98 ∧ k < 41) &&
  if a = 1 then decide (k = 1) else if a = 4 then decide (k < 6) else if a = 15 then decide (k < 6) else if a = 26 then decide (k = 1) else if a = 45 then decide (k < 2) else if a = 50 then decide (k < 2) else if a = 55 then decide (k = 1 ∨ k = 2 ∨ k = 4 ∨ k = 7 ∨ k = 15 ∨ k = 16) else if a = 66 then decide (k = 0) else if a = 75 then decide ((4 ≤ k ∧ k ≤ 8) ∨ (13 ≤ k ∧ k ≤ 17) ∨ (20 ≤ k ∧ k ≤ 24) ∨ k = 27 ∨ k = 31 ∨ k = 32) else decide (28 ≤ a ∧ a ≤ 43 ∧ k < 6)
def rfd (a k : Nat) : Option Nat :=
  if a = 1 then (if k = 0 then some 2 else if k = 2 then some 3 else if k = 5 then some 26 else if k = 6 then some 44 else if k = 7 then some 55 else if k = 8 then some 65 else if k = 9 then some 66 else if k = 10 then some 72 else if k = 11 then some 74 else none)
  else if a = 4 then (if 6 ≤ k ∧ k ≤ 15 then some (k - 1) else none)
  else if a = 15 then (if 6 ≤ k ∧ k ≤ 15 then some (k + 10) else none)
  else if a = 26 then (if k = 0 then some 27 else none)
  else if a = 45 then (if 2 ≤ k ∧ k ≤ 5 then some (k + 44) else none)
  else if a = 50 then (if 2 ≤ k ∧ k ≤ 5 then some (k + 49) else none)
  else if a = 55 then (if k = 3 then some 56 else if k = 5 then some 57 else if k = 6 then some 58 else if k = 9 then some 59 else if k = 10 then some 60 else if k = 11 then some 61 else if k = 12 then some 62 else if k = 13 then some 63 else if k = 14 then some 64 else none)
  else if a = 66 then (if k = 1 then some 67 else if k = 2 then some 68 else if k = 3 then some 69 else none)
  else if a = 72 then (if k = 0 then some 73 else none)
  else if a = 75 then (if k < 4 then some (76 + k) else if 9 ≤ k ∧ k ≤ 12 then some (71 + k) else if k = 18 then some 84 else if k = 19 then some 85 else if k = 25 then some 86 else if k = 26 then some 87 else if 28 ≤ k ∧ k ≤ 30 then some (60 + k) else if 33 ≤ k ∧ k ≤ 37 then some (58 + k) else if k = 39 then some 96 else if k = 40 then some 97 else none)
  else none
def qf (q : Nat → Nat) : Nat → Option Nat := fun i => if i < 16 then some (q i) else none
/-- the values that are neither ints nor fixed -/
def Hm (h : xH) (v s : Nat) (q : Nat → Nat) (e1 e2 : Int64) : Prop :=
  ((v = 4 ∨ v = 15) ∧ fl h 1 8 3 = some (.ref v) ∧ fl h 1 8 4 = some (.ref (19 - v))) ∧
  ((s = 70 ∨ s = 71) ∧ fl h 66 6 4 = some (.ref s) ∧ fl h 66 6 5 = some (.ref (141 - s))) ∧
  (qr h 27 3 = some (16, qf q) ∧ (∃ g, qr h 44 4 = some (2, g) ∧ g 0 = some 45 ∧ g 1 = some 50)) ∧
  (fl h 1 8 12 = some (.long e1) ∧ fl h 75 9 38 = some (.long e2)) ∧
  ((∃ x, fl h 55 4 8 = some (.long x)) ∧ (∃ g, lr h 73 = some (9, g)) ∧ (∃ x, fl h 55 4 0 = some x) ∧ (∃ x, fl h 3 5 0 = some x) ∧ (∃ x, fl h 3 5 1 = some x) ∧ (∃ x, fl h 3 5 2 = some x) ∧ (∃ x, fl h 3 5 3 = some x) ∧ (∃ x, fl h 3 5 4 = some x)) ∧
  (h.1 ≤ 600000 ∧ h.2.1 ≤ 7302250)
def Hp (h : xH) (σ τ : Nat → Nat → Int32) (v s : Nat) (q : Nat → Nat) (e1 e2 : Int64) : Prop :=
  (∀ a n, rsz a = some n → ar h a (rty a) = some (n, σ a)) ∧
  (∀ a k, ifd a k = true → fl h a (ocl a) k = some (.int (τ a k))) ∧
  (∀ a k r, rfd a k = some r → fl h a (ocl a) k = some (.ref r)) ∧ Hm h v s q e1 e2
def us (σ : Nat → Nat → Int32) (a : Nat) (g : Nat → Int32) : Nat → Nat → Int32 := fun b => if b = a then g else σ b
def ut (τ : Nat → Nat → Int32) (a k : Nat) (x : Int32) : Nat → Nat → Int32 := fun b j => if b = a ∧ j = k then x else τ b j
theorem ifd_rfd0 : ∀ a, a < 98 → ∀ k, k < 41 → ifd a k = true → rfd a k = none := by decide +kernel
theorem ifd_lt {a k : Nat} (h : ifd a k = true) : a < 98 ∧ k < 41 := of_decide_eq_true ((Bool.and_eq_true _ _).mp h).1
theorem ifd_rfd {a k : Nat} (h : ifd a k = true) : rfd a k = none := ifd_rfd0 a (ifd_lt h).1 k (ifd_lt h).2 h
section HP
variable {h : xH} {σ τ : Nat → Nat → Int32} {v s : Nat} {q : Nat → Nat} {e1 e2 : Int64}
theorem hA (H : Hp h σ τ v s q e1 e2) (a t n : Nat) (ht : rty a = t) (hn : rsz a = some n) : ar h a t = some (n, σ a) := by
  rw [← ht]
  exact H.1 a n hn
theorem hI (H : Hp h σ τ v s q e1 e2) (a c k : Nat) (hc : ocl a = c) (hk : ifd a k = true) : fl h a c k = some (.int (τ a k)) := by
  rw [← hc]
  exact H.2.1 a k hk
theorem hR (H : Hp h σ τ v s q e1 e2) (a c k r : Nat) (hc : ocl a = c) (hk : rfd a k = some r) : fl h a c k = some (.ref r) := by
  rw [← hc]
  exact H.2.2.1 a k r hk
theorem Hp_vil (H : Hp h σ τ v s q e1 e2) {u : Nat} (hu : u = 4 ∨ u = 15) : Vil h u (τ u 0) (τ u 1) (τ u 2) (τ u 3) (τ u 4) (τ u 5) (σ (u + 1)) (σ (u + 2)) (σ (u + 3)) (σ (u + 4)) (σ (u + 5)) (σ (u + 6)) (σ (u + 7)) (σ (u + 8)) (σ (u + 9)) (σ (u + 10)) := by
  rcases hu with rfl | rfl
  · exact ⟨⟨hI H 4 7 0 rfl rfl, hI H 4 7 1 rfl rfl, hI H 4 7 2 rfl rfl, hI H 4 7 3 rfl rfl, hI H 4 7 4 rfl rfl, hI H 4 7 5 rfl rfl⟩, ⟨hR H 4 7 6 5 rfl rfl, hR H 4 7 7 6 rfl rfl, hR H 4 7 8 7 rfl rfl, hR H 4 7 9 8 rfl rfl, hR H 4 7 10 9 rfl rfl, hR H 4 7 11 10 rfl rfl, hR H 4 7 12 11 rfl rfl, hR H 4 7 13 12 rfl rfl, hR H 4 7 14 13 rfl rfl, hR H 4 7 15 14 rfl rfl⟩, ⟨hA H 5 0 5 rfl rfl, hA H 6 0 5 rfl rfl, hA H 7 0 6 rfl rfl, hA H 8 0 6 rfl rfl, hA H 9 0 6 rfl rfl, hA H 10 0 6 rfl rfl, hA H 11 0 6 rfl rfl, hA H 12 0 8 rfl rfl, hA H 13 0 8 rfl rfl, hA H 14 0 8 rfl rfl⟩⟩
  · exact ⟨⟨hI H 15 7 0 rfl rfl, hI H 15 7 1 rfl rfl, hI H 15 7 2 rfl rfl, hI H 15 7 3 rfl rfl, hI H 15 7 4 rfl rfl, hI H 15 7 5 rfl rfl⟩, ⟨hR H 15 7 6 16 rfl rfl, hR H 15 7 7 17 rfl rfl, hR H 15 7 8 18 rfl rfl, hR H 15 7 9 19 rfl rfl, hR H 15 7 10 20 rfl rfl, hR H 15 7 11 21 rfl rfl, hR H 15 7 12 22 rfl rfl, hR H 15 7 13 23 rfl rfl, hR H 15 7 14 24 rfl rfl, hR H 15 7 15 25 rfl rfl⟩, ⟨hA H 16 0 5 rfl rfl, hA H 17 0 5 rfl rfl, hA H 18 0 6 rfl rfl, hA H 19 0 6 rfl rfl, hA H 20 0 6 rfl rfl, hA H 21 0 6 rfl rfl, hA H 22 0 6 rfl rfl, hA H 23 0 8 rfl rfl, hA H 24 0 8 rfl rfl, hA H 25 0 8 rfl rfl⟩⟩
theorem Hm_sa (H : Hm h v s q e1 e2) (a t : Nat) (g : Nat → Int32) : Hm (sa h a t g) v s q e1 e2 := by
  unfold Hm at *
  simp only [fl_sa, qr_sa, lr_sa, sa_1, sa_2]
  exact H
/-- a row is written -/
theorem Hp_sa (H : Hp h σ τ v s q e1 e2) {a t n : Nat} (ht : rty a = t) (hn : rsz a = some n) (g : Nat → Int32) : Hp (sa h a t g) (us σ a g) τ v s q e1 e2 := by
  refine ⟨fun b m hm => ?_, fun b k hk => ?_, fun b k r hk => ?_, Hm_sa H.2.2.2 _ _ _⟩
  · rw [ar_sa]
    by_cases e : b = a
    · subst e
      rw [if_pos ⟨rfl, ht⟩, hA H b t n ht hn]
      rw [hn] at hm
      cases hm
      simp only [us, if_true, Option.map_some]
    · rw [if_neg (fun z => e z.1), H.1 b m hm]
      simp only [us, if_neg e]
  · rw [fl_sa]; exact H.2.1 b k hk
  · rw [fl_sa]; exact H.2.2.1 b k r hk
/-- an int field is written -/
theorem Hp_sf (H : Hp h σ τ v s q e1 e2) {a c k : Nat} (hc : ocl a = c) (hk : ifd a k = true) (x : Int32) : Hp (sf h a c k (.int x)) σ (ut τ a k x) v s q e1 e2 := by
  have z : ∀ b j, (¬ (b = a ∧ j = k)) → ∀ c', fl (sf h a c k (.int x)) b c' j = fl h b c' j := fun b j hn c' => by rw [fl_sf, if_neg (fun w => hn ⟨w.1, w.2.2⟩)]
  refine ⟨fun b m hm => by rw [ar_sf]; exact H.1 b m hm, fun b j hj => ?_, fun b j r hj => ?_, ?_⟩
  · by_cases e : b = a ∧ j = k
    · obtain ⟨e1, e2⟩ := e
      subst e1 e2
      rw [fl_sf, if_pos ⟨rfl, hc, rfl⟩, hI H b c j hc hj]
      simp only [ut, and_self, if_true, Option.map_some]
    · rw [z b j e, H.2.1 b j hj]
      simp only [ut, if_neg e]
  · rw [z b j ?_, H.2.2.1 b j r hj]
    rintro ⟨rfl, rfl⟩
    rw [ifd_rfd hk] at hj
    cases hj
  · have n1 : ¬ (1 = a ∧ 3 = k) := by rintro ⟨rfl, rfl⟩; exact absurd hk (by decide)
    have n2 : ¬ (1 = a ∧ 4 = k) := by rintro ⟨rfl, rfl⟩; exact absurd hk (by decide)
    have n3 : ¬ (1 = a ∧ 12 = k) := by rintro ⟨rfl, rfl⟩; exact absurd hk (by decide)
    have n4 : ¬ (66 = a ∧ 4 = k) := by rintro ⟨rfl, rfl⟩; exact absurd hk (by decide)
    have n5 : ¬ (66 = a ∧ 5 = k) := by rintro ⟨rfl, rfl⟩; exact absurd hk (by decide)
    have n6 : ¬ (75 = a ∧ 38 = k) := by rintro ⟨rfl, rfl⟩; exact absurd hk (by decide)
    have n7 : ¬ (55 = a ∧ 8 = k) := by rintro ⟨rfl, rfl⟩; exact absurd hk (by decide)
    have n8 : ¬ (55 = a ∧ 0 = k) := by rintro ⟨rfl, rfl⟩; exact absurd hk (by decide)
    have n9 : ¬ (3 = a ∧ 0 = k) := by rintro ⟨rfl, rfl⟩; exact absurd hk (by decide)
    have n10 : ¬ (3 = a ∧ 1 = k) := by rintro ⟨rfl, rfl⟩; exact absurd hk (by decide)
    have n11 : ¬ (3 = a ∧ 2 = k) := by rintro ⟨rfl, rfl⟩; exact absurd hk (by decide)
    have n12 : ¬ (3 = a ∧ 3 = k) := by rintro ⟨rfl, rfl⟩; exact absurd hk (by decide)
    have n13 : ¬ (3 = a ∧ 4 = k) := by rintro ⟨rfl, rfl⟩; exact absurd hk (by decide)
    have Z := H.2.2.2
    unfold Hm at *
    simp only [z _ _ n1, z _ _ n2, z _ _ n3, z _ _ n4, z _ _ n5, z _ _ n6, z _ _ n7, z _ _ n8, z _ _ n9, z _ _ n10, z _ _ n11, z _ _ n12, z _ _ n13, qr_sf, lr_sf, sf_1, sf_2]
    exact Z
theorem nI_all (x : Int32) : ∃ a : Nat, x = nI a := ⟨x.toUInt32.toNat, by
  unfold nI
  apply Int32.toBitVec_inj.mp
  simp⟩
end HP
