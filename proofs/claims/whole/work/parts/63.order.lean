/-! The order of the needs, the things of a sort. -/
def okK (P : Nat → Bool) (c0 : Nat) (o0 : Nat → Nat) : Nat → Nat × (Nat → Nat)
  | 0 => (c0, o0)
  | k + 1 => if P k = true then ((okK P c0 o0 k).1 + 1, fun i => if i = (okK P c0 o0 k).1 then k else (okK P c0 o0 k).2 i) else okK P c0 o0 k
def okD (P : Nat → Nat → Bool) (n : Nat) : Nat → Nat × (Nat → Nat)
  | 0 => (0, fun _ => 0)
  | d + 1 => okK (P d) (okD P n d).1 (okD P n d).2 n
section OK
variable {P : Nat → Bool} {c0 : Nat} {o0 : Nat → Nat}
theorem okK_1 (k : Nat) (h : P k = true) : okK P c0 o0 (k + 1) = ((okK P c0 o0 k).1 + 1, fun i => if i = (okK P c0 o0 k).1 then k else (okK P c0 o0 k).2 i) := by rw [okK, if_pos h]
theorem okK_2 (k : Nat) (h : ¬ P k = true) : okK P c0 o0 (k + 1) = okK P c0 o0 k := by rw [okK, if_neg h]
theorem okK_m1 (k : Nat) : (okK P c0 o0 k).1 ≤ (okK P c0 o0 (k + 1)).1 := by
  by_cases w : P k = true
  · rw [okK_1 k w]
    exact Nat.le_succ _
  · rw [okK_2 k w]
    exact Nat.le_refl _
theorem okK_mono (k : Nat) : ∀ d, (okK P c0 o0 k).1 ≤ (okK P c0 o0 (k + d)).1
  | 0 => Nat.le_refl _
  | d + 1 => Nat.le_trans (okK_mono k d) (okK_m1 (k + d))
theorem okK_le {k m : Nat} (h : k ≤ m) : (okK P c0 o0 k).1 ≤ (okK P c0 o0 m).1 := by
  have := okK_mono (P := P) (c0 := c0) (o0 := o0) k (m - k)
  rw [show k + (m - k) = m by omega] at this
  exact this
theorem okK_c (k : Nat) : c0 ≤ (okK P c0 o0 k).1 := okK_le (k := 0) (Nat.zero_le _)
theorem okK_up : ∀ k, (okK P c0 o0 k).1 ≤ c0 + k
  | 0 => Nat.le_refl _
  | k + 1 => by
    have := okK_up k
    by_cases w : P k = true
    · rw [okK_1 k w]
      show _ + 1 ≤ _
      omega
    · rw [okK_2 k w]
      omega
theorem okK_eq (k : Nat) : ∀ d, (okK P c0 o0 (k + d)).1 = (okK P c0 o0 k).1 → okK P c0 o0 (k + d) = okK P c0 o0 k
  | 0, _ => rfl
  | d + 1, h => by
    have a := okK_mono (P := P) (c0 := c0) (o0 := o0) k d
    have b := okK_m1 (P := P) (c0 := c0) (o0 := o0) (k + d)
    rw [← Nat.add_assoc] at h ⊢
    by_cases w : P (k + d) = true
    · rw [okK_1 _ w] at h
      have h : (okK P c0 o0 (k + d)).1 + 1 = (okK P c0 o0 k).1 := h
      omega
    · rw [okK_2 _ w] at h ⊢
      exact okK_eq k d h
theorem okK_old {i : Nat} (hi : i < c0) : ∀ k, (okK P c0 o0 k).2 i = o0 i
  | 0 => rfl
  | k + 1 => by
    by_cases w : P k = true
    · rw [okK_1 k w]
      have := okK_c (P := P) (c0 := c0) (o0 := o0) k
      show (if i = _ then k else _) = _
      rw [if_neg (by omega)]
      exact okK_old hi k
    · rw [okK_2 k w]
      exact okK_old hi k
theorem okK_new {i : Nat} (hi : c0 ≤ i) : ∀ k, i < (okK P c0 o0 k).1 → (okK P c0 o0 k).2 i < k ∧ P ((okK P c0 o0 k).2 i) = true
  | 0, h => absurd h (by show ¬ i < c0; omega)
  | k + 1, h => by
    by_cases w : P k = true
    · rw [okK_1 k w] at h ⊢
      have h : i < (okK P c0 o0 k).1 + 1 := h
      show (if i = _ then k else _) < k + 1 ∧ P (if i = _ then k else _) = true
      by_cases e : i = (okK P c0 o0 k).1
      · rw [if_pos e]
        exact ⟨by omega, w⟩
      · rw [if_neg e]
        have := okK_new hi k (by omega)
        exact ⟨by omega, this.2⟩
    · rw [okK_2 k w] at h ⊢
      have := okK_new hi k h
      exact ⟨by omega, this.2⟩
theorem okK_inc {i j : Nat} (hi : c0 ≤ i) (hij : i < j) : ∀ k, j < (okK P c0 o0 k).1 → (okK P c0 o0 k).2 i < (okK P c0 o0 k).2 j
  | 0, h => absurd h (by show ¬ j < c0; omega)
  | k + 1, h => by
    by_cases w : P k = true
    · rw [okK_1 k w] at h ⊢
      have h : j < (okK P c0 o0 k).1 + 1 := h
      show (if i = _ then k else _) < (if j = _ then k else _)
      rw [if_neg (by omega)]
      by_cases e : j = (okK P c0 o0 k).1
      · rw [if_pos e]
        exact (okK_new hi k (by omega)).1
      · rw [if_neg e]
        exact okK_inc hi hij k (by omega)
    · rw [okK_2 k w] at h ⊢
      exact okK_inc hi hij k h
theorem okK_sur {j : Nat} (hP : P j = true) : ∀ k, j < k → ∃ i, c0 ≤ i ∧ i < (okK P c0 o0 k).1 ∧ (okK P c0 o0 k).2 i = j
  | 0, h => by omega
  | k + 1, h => by
    by_cases e : j = k
    · subst e
      rw [okK_1 j hP]
      exact ⟨_, okK_c j, Nat.lt_succ_self _, if_pos rfl⟩
    · obtain ⟨i, a, b, c⟩ := okK_sur hP k (by omega)
      by_cases w : P k = true
      · rw [okK_1 k w]
        exact ⟨i, a, Nat.lt_succ_of_lt b, by show (if i = _ then k else _) = j; rw [if_neg (by omega)]; exact c⟩
      · rw [okK_2 k w]
        exact ⟨i, a, b, c⟩
theorem okK_sum : ∀ k, (okK P c0 o0 k).1 = c0 + sN (fun j => if P j = true then 1 else 0) k
  | 0 => rfl
  | k + 1 => by
    rw [sN]
    have := okK_sum k
    by_cases w : P k = true
    · rw [okK_1 k w, if_pos w]
      show _ + 1 = _
      omega
    · rw [okK_2 k w, if_neg w]
      omega
theorem okK_cg {P' : Nat → Bool} : ∀ k, (∀ j, j < k → P j = P' j) → okK P c0 o0 k = okK P' c0 o0 k
  | 0, _ => rfl
  | k + 1, h => by rw [okK, okK, okK_cg k (fun j hj => h j (by omega)), h k (by omega)]
end OK
section OD
variable {P : Nat → Nat → Bool} {n : Nat}
theorem okD_1 (d : Nat) : (okD P n d).1 ≤ (okD P n (d + 1)).1 := okK_c n
theorem okD_le {d e : Nat} (h : d ≤ e) : (okD P n d).1 ≤ (okD P n e).1 := by
  obtain ⟨k, rfl⟩ : ∃ k, e = d + k := ⟨e - d, by omega⟩
  clear h
  induction k with
  | zero => exact Nat.le_refl _
  | succ k ih => exact Nat.le_trans ih (okD_1 (d + k))
theorem okD_old {i d : Nat} (h : i < (okD P n d).1) : ∀ k, (okD P n (d + k)).2 i = (okD P n d).2 i
  | 0 => rfl
  | k + 1 => by
    have := okD_le (P := P) (n := n) (show d ≤ d + k by omega)
    exact (okK_old (Nat.lt_of_lt_of_le h this) n).trans (okD_old h k)
theorem okD_day {i e d : Nat} (he : e < d) (h1 : (okD P n e).1 ≤ i) (h2 : i < (okD P n (e + 1)).1) : (okD P n d).2 i < n ∧ P e ((okD P n d).2 i) = true := by
  have := okD_old h2 (d - (e + 1))
  rw [show e + 1 + (d - (e + 1)) = d by omega] at this
  rw [this]
  exact okK_new h1 n h2
theorem okD_fd {i : Nat} : ∀ d, i < (okD P n d).1 → ∃ e, e < d ∧ (okD P n e).1 ≤ i ∧ i < (okD P n (e + 1)).1
  | 0, h => absurd h (Nat.not_lt_zero _)
  | d + 1, h => by
    by_cases w : i < (okD P n d).1
    · obtain ⟨e, a, b, c⟩ := okD_fd d w
      exact ⟨e, by omega, b, c⟩
    · exact ⟨d, by omega, by omega, h⟩
theorem okD_sum : ∀ d, (okD P n d).1 = sN (fun k => sN (fun e => if P e k = true then 1 else 0) d) n
  | 0 => (sN_0 n).symm
  | d + 1 => by
    show (okK (P d) _ _ n).1 = _
    rw [okK_sum, okD_sum d, ← sN_two]
    rfl
theorem sN_one {f : Nat → Nat} (h1 : ∀ e, f e ≤ 1) : ∀ d, (∀ e e', e < d → e' < d → f e = 1 → f e' = 1 → e = e') → sN f d ≤ 1
  | 0, _ => Nat.zero_le _
  | d + 1, h => by
    have a := sN_one h1 d (fun e e' he he' => h e e' (by omega) (by omega))
    rw [sN]
    have b := h1 d
    by_cases w : f d = 1
    · have z : sN f d = 0 := by
        rw [sN_cg (g := fun _ => 0) d (fun e he => ?_)]
        · exact sN_0 d
        · have := h1 e
          by_cases y : f e = 1
          · have := h e d (by omega) (by omega) y w
            omega
          · show f e = 0
            omega
      omega
    · omega
theorem okD_n (d : Nat) (hx : ∀ e e' k, e < d → e' < d → P e k = true → P e' k = true → e = e') : (okD P n d).1 ≤ n := by
  rw [okD_sum]
  refine Nat.le_trans (sN_le (g := fun _ => 1) n (fun k _ => sN_one (fun e => ?_) d (fun e e' he he' a b => ?_))) ?_
  · show (if P e k = true then 1 else 0) ≤ 1
    split <;> omega
  · refine hx e e' k he he' ?_ ?_
    · by_cases y : P e k = true
      · exact y
      · rw [if_neg y] at a; omega
    · by_cases y : P e' k = true
      · exact y
      · rw [if_neg y] at b; omega
  · clear hx
    induction n with
    | zero => exact Nat.le_refl _
    | succ n ih => rw [sN]; omega
theorem okD_cg {P' : Nat → Nat → Bool} : ∀ d, (∀ e k, e < d → k < n → P e k = P' e k) → okD P n d = okD P' n d
  | 0, _ => rfl
  | d + 1, h => by
    show okK _ _ _ n = okK _ _ _ n
    rw [okD_cg d (fun e k he hk => h e k (by omega) hk)]
    exact okK_cg n (fun j hj => h d j (by omega) hj)
end OD
