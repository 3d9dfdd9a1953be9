/-! The first heap stands well; the law's loop. -/
def σ0 (a : Nat) : Nat → Int32 := match T0 a with
  | .inl (_, _, .inl g) => g
  | _ => fun _ => 0
def τ0 (a k : Nat) : Int32 := match T0 a with
  | .inr (_, fs) => (match fs[k]? with
    | some (.int x) => x
    | _ => 0)
  | _ => 0
def chkA (a n : Nat) : Bool := match T0 a with
  | .inl (t, m, .inl _) => t == rty a && m == n
  | _ => false
def chkI (a k : Nat) : Bool := match T0 a with
  | .inr (c, fs) => c == ocl a && (match fs[k]? with
    | some (.int _) => true
    | _ => false)
  | _ => false
def chkR (a k r : Nat) : Bool := match T0 a with
  | .inr (c, fs) => c == ocl a && (match fs[k]? with
    | some (.ref x) => x == r
    | _ => false)
  | _ => false
theorem all_A : ∀ a, a < 98 → (match rsz a with
  | some n => chkA a n
  | none => true) = true := by decide +kernel
theorem all_I : ∀ a, a < 98 → ∀ k, k < 41 → ifd a k = true → chkI a k = true := by decide +kernel
theorem all_R : ∀ a, a < 98 → ∀ k, k < 41 → (match rfd a k with
  | some r => chkR a k r
  | none => true) = true := by decide +kernel
theorem rsz_lt {a n : Nat} (h : rsz a = some n) : a < 98 := by
  by_cases w : a < 98
  · exact w
  · unfold rsz at h
    repeat rw [if_neg (by omega)] at h
    cases h
theorem rfd_lt {a k r : Nat} (h : rfd a k = some r) : a < 98 ∧ k < 41 := by
  by_cases w : a < 98 ∧ k < 41
  · exact w
  · exfalso
    have z : rfd a k = none := by
      unfold rfd
      by_cases w98 : 98 ≤ a
      · repeat rw [if_neg (by omega)]
      by_cases e1 : a = 1
      · rw [if_pos e1]
        repeat rw [if_neg (by omega)]
      rw [if_neg e1]
      by_cases e4 : a = 4
      · rw [if_pos e4]
        repeat rw [if_neg (by omega)]
      rw [if_neg e4]
      by_cases e15 : a = 15
      · rw [if_pos e15]
        repeat rw [if_neg (by omega)]
      rw [if_neg e15]
      by_cases e26 : a = 26
      · rw [if_pos e26]
        repeat rw [if_neg (by omega)]
      rw [if_neg e26]
      by_cases e45 : a = 45
      · rw [if_pos e45]
        repeat rw [if_neg (by omega)]
      rw [if_neg e45]
      by_cases e50 : a = 50
      · rw [if_pos e50]
        repeat rw [if_neg (by omega)]
      rw [if_neg e50]
      by_cases e55 : a = 55
      · rw [if_pos e55]
        repeat rw [if_neg (by omega)]
      rw [if_neg e55]
      by_cases e66 : a = 66
      · rw [if_pos e66]
        repeat rw [if_neg (by omega)]
      rw [if_neg e66]
      by_cases e72 : a = 72
      · rw [if_pos e72]
        repeat rw [if_neg (by omega)]
      rw [if_neg e72]
      by_cases e75 : a = 75
      · rw [if_pos e75]
        repeat rw [if_neg (by omega)]
      rw [if_neg e75]
    rw [z] at h
    cases h
theorem T0_0 : T0 0 = cI 0 0 := rfl
theorem Hp_0 : Hp (tH 97 9827 T0) σ0 τ0 4 70 (fun i => 28 + i) 0 0 := by
  refine ⟨fun a n hn => ?_, fun a k hk => ?_, fun a k r hk => ?_, ?_⟩
  · have lt := rsz_lt hn
    have c := all_A a lt
    rw [hn] at c
    have c : chkA a n = true := c
    have a0 : a ≠ 0 := fun w => by
      rw [w, show rsz 0 = none from rfl] at hn
      cases hn
    unfold ar
    rw [tH_at (by omega) (by omega)]
    unfold chkA at c
    unfold σ0
    rcases hT : T0 a with ⟨t, m, (g | g | g | g | g)⟩ | ⟨c', fs⟩ <;> rw [hT] at c <;> simp only at c ⊢
    · have c1 := (Bool.and_eq_true _ _).mp c
      have e1 : t = rty a := by simpa using c1.1
      have e2 : m = n := by simpa using c1.2
      rw [if_pos e1, e2]
    all_goals cases c
  · obtain ⟨a98, k41⟩ := ifd_lt hk
    have c := all_I a a98 k k41 hk
    have a0 : a ≠ 0 := fun w => by
      rw [w] at c
      exact absurd c (by unfold chkI; rw [T0_0]; exact Bool.false_ne_true)
    unfold fl
    rw [tH_at (by omega) (by omega)]
    unfold chkI at c
    unfold τ0
    rcases hT : T0 a with ⟨t, m, g⟩ | ⟨c', fs⟩ <;> rw [hT] at c <;> simp only at c ⊢
    · cases c
    · have c1 := (Bool.and_eq_true _ _).mp c
      have e1 : c' = ocl a := by simpa using c1.1
      have c2 := c1.2
      rw [if_pos e1]
      split at c2
      · rename_i x hx
        rw [hx]
      · cases c2
  · obtain ⟨a98, k41⟩ := rfd_lt hk
    have c := all_R a a98 k k41
    rw [hk] at c
    have c : chkR a k r = true := c
    have a0 : a ≠ 0 := fun w => by
      rw [w] at c
      exact absurd c (by unfold chkR; rw [T0_0]; exact Bool.false_ne_true)
    unfold fl
    rw [tH_at (by omega) (by omega)]
    unfold chkR at c
    rcases hT : T0 a with ⟨t, m, g⟩ | ⟨c', fs⟩ <;> rw [hT] at c <;> simp only at c ⊢
    · cases c
    · have c1 := (Bool.and_eq_true _ _).mp c
      have e1 : c' = ocl a := by simpa using c1.1
      have c2 := c1.2
      rw [if_pos e1]
      split at c2
      · rename_i x hx
        have : x = r := by simpa using c2
        rw [hx, this]
      · cases c2
  · exact ⟨⟨Or.inl rfl, rfl, rfl⟩, ⟨Or.inl rfl, rfl, rfl⟩, ⟨rfl, _, rfl, rfl, rfl⟩, ⟨rfl, rfl⟩, ⟨⟨_, rfl⟩, ⟨_, rfl⟩, ⟨_, rfl⟩, ⟨_, rfl⟩, ⟨_, rfl⟩, ⟨_, rfl⟩, ⟨_, rfl⟩, ⟨_, rfl⟩⟩, ⟨Nat.le_of_ble_eq_true rfl, Nat.le_of_ble_eq_true rfl⟩⟩
theorem Rel_0 : Rel (tH 97 9827 T0) := by
  refine ⟨σ0, τ0, 4, 70, fun i => 28 + i, 0, 0, 0, 0, 0, 0, 0, 0, Hp_0, ?_, ?_, ?_, ?_, ?_, ?_⟩
  · exact ⟨⟨⟨rfl, rfl, rfl⟩, by omega, by omega, by omega⟩, ⟨rfl, rfl, rfl, rfl, rfl, rfl⟩, ⟨⟨0, by omega, rfl⟩, 1, by omega, by omega, rfl⟩, fun i hi => by omega, fun i hi => by omega, fun i hi => by omega, fun i hi => by omega, fun i hi => by omega, fun i j hi => by omega, fun i hi => by omega⟩
  · exact ⟨by omega, rfl, rfl, rfl⟩
  · exact ⟨⟨by omega, by omega, rfl, rfl, rfl⟩, ⟨fun i hi => (by show 28 ≤ 28 + i ∧ 28 + i ≤ 43; omega), fun i j _ _ h => by
      have h : 28 + i = 28 + j := h
      omega⟩, fun a ha => by omega⟩
  · exact ⟨⟨⟨rfl, Or.inl rfl⟩, fun w => absurd rfl w⟩, ⟨⟨rfl, Or.inl rfl⟩, fun w => absurd rfl w⟩⟩
  · exact ⟨⟨by omega, rfl, rfl⟩, fun i hi => by omega⟩
  · intro k hk
    show tgR 64 k = _
    exact if_pos hk
section LOOP
variable {L : Nat} {xs : Nat → Int32}
theorem law_step {h : xH} {i : Nat} (R : Rel h) (hi : i + 6 ≤ L) (hL : L ≤ 3072) : ∃ h2, xR (some (L, xs)) 19 M_law 18 [some (.ref 0), some (.ref 1), some (.ref 75), some (.int (nI i))] [] h = xR (some (L, xs)) 19 M_law 880 [some (.ref 0), some (.ref 1), some (.ref 75), some (.int (nI i))] [] h2 ∧ Rel h2 := by
  have q1 : ¬ Int32.ofNat L - 6 < nI i := by
    rw [show Int32.ofNat L - 6 = nI (L - 6) from nI_sub (b := 6) (by omega)]
    exact nI_nlt (by omega) (by omega)
  have x0' := xin_nI (show i < L by omega) (show L < 2 ^ 31 by omega)
  have c0 := nI_clamp (show i < 2 ^ 31 by omega)
  have st : xR (some (L, xs)) 19 M_law 18 [some (.ref 0), some (.ref 1), some (.ref 75), some (.int (nI i))] [] h = xR (some (L, xs)) 19 M_law 33 [some (.ref 0), some (.ref 1), some (.ref 75), some (.int (nI i))] [.int (xs i &&& 31)] h := by
    simp only [e_law_18, e_law_19, e_law_20, e_law_21, e_law_23, e_law_24, e_law_27, e_law_28, e_law_29, e_law_30, e_law_32, rsc, Option.isSome_some, Option.map_some, Option.map_none, Option.toList_some, Option.toList_none, List.nil_append, List.cons_append, List.singleton_append, if_true, if_false, ↓reduceIte, and_self, and_true, true_and, and_false, false_and, not_true, not_false_iff, reduceCtorEq, Nat.reduceEqDiff, Nat.reduceAdd, Nat.reduceSub, Nat.reduceMul, Nat.reduceLT, Nat.reduceLeDiff, Nat.reduceBEq, eq_self, ne_eq, Nat.add_eq_zero_iff, Nat.add_left_cancel_iff, Nat.add_right_cancel_iff, Nat.left_eq_add, Nat.add_eq_left, Bool.true_or, Bool.or_true, Bool.or_self, or_self, or_true, true_or, or_false, false_or, decide_true, decide_false, i_10, i_01, q1, x0', c0]
  rw [st, e_law_33]
  by_cases w0 : xs i &&& 31 = 0
  · rw [if_pos w0]
    exact lw_write R hi hL
  rw [if_neg w0]
  by_cases w1 : xs i &&& 31 = 1
  · rw [if_pos w1]
    exact lw_wipe R hi hL
  rw [if_neg w1]
  by_cases w2 : xs i &&& 31 = 2
  · rw [if_pos w2]
    exact lw_fault R hi hL
  rw [if_neg w2]
  by_cases w3 : xs i &&& 31 = 3
  · rw [if_pos w3]
    exact lw_village R hi hL
  rw [if_neg w3]
  by_cases w4 : xs i &&& 31 = 4
  · rw [if_pos w4]
    exact lw_person R hi hL
  rw [if_neg w4]
  by_cases w5 : xs i &&& 31 = 5
  · rw [if_pos w5]
    exact lw_thing R hi hL
  rw [if_neg w5]
  by_cases w6 : xs i &&& 31 = 6
  · rw [if_pos w6]
    exact lw_law R hi hL
  rw [if_neg w6]
  by_cases w7 : xs i &&& 31 = 7
  · rw [if_pos w7]
    exact lw_lend R hi hL
  rw [if_neg w7]
  by_cases w8 : xs i &&& 31 = 8
  · rw [if_pos w8]
    exact lw_back R hi hL
  rw [if_neg w8]
  by_cases w9 : xs i &&& 31 = 9
  · rw [if_pos w9]
    exact lw_day R hi hL
  rw [if_neg w9]
  by_cases w10 : xs i &&& 31 = 10
  · rw [if_pos w10]
    exact lw_undo R hi hL
  rw [if_neg w10]
  by_cases w11 : xs i &&& 31 = 11
  · rw [if_pos w11]
    exact lw_least R hi hL
  rw [if_neg w11]
  by_cases w12 : xs i &&& 31 = 12
  · rw [if_pos w12]
    exact lw_leastAt R hi hL
  rw [if_neg w12]
  by_cases w13 : xs i &&& 31 = 13
  · rw [if_pos w13]
    exact lw_cap R hi hL
  rw [if_neg w13]
  by_cases w14 : xs i &&& 31 = 14
  · rw [if_pos w14]
    exact lw_see R hi hL
  rw [if_neg w14]
  by_cases w15 : xs i &&& 31 = 15
  · rw [if_pos w15]
    exact lw_unsee R hi hL
  rw [if_neg w15]
  by_cases w16 : xs i &&& 31 = 16
  · rw [if_pos w16]
    exact lw_hands R hi hL
  rw [if_neg w16]
  by_cases w17 : xs i &&& 31 = 17
  · rw [if_pos w17]
    exact lw_surely R hi hL
  rw [if_neg w17]
  by_cases w18 : xs i &&& 31 = 18
  · rw [if_pos w18]
    exact lw_borrow R hi hL
  rw [if_neg w18]
  by_cases w19 : xs i &&& 31 = 19
  · rw [if_pos w19]
    exact lw_seed R hi hL
  rw [if_neg w19]
  by_cases w20 : xs i &&& 31 = 20
  · rw [if_pos w20]
    exact lw_year R hi hL
  rw [if_neg w20]
  by_cases w21 : xs i &&& 31 = 21
  · rw [if_pos w21]
    exact lw_keep R hi hL
  rw [if_neg w21]
  by_cases w22 : xs i &&& 31 = 22
  · rw [if_pos w22]
    exact lw_again R hi hL
  rw [if_neg w22]
  by_cases w23 : xs i &&& 31 = 23
  · rw [if_pos w23]
    exact lw_count R hi hL
  rw [if_neg w23]
  exact ⟨h, rfl, R⟩
theorem neg6 : ∀ L, L < 6 → Int32.ofNat L - 6 < 0 := by decide +kernel
theorem law_exit {h : xH} {i : Nat} (R : Rel h) (hi : L < i + 6) (hL : L ≤ 3072) (hi2 : i ≤ L) : ∃ h', xR (some (L, xs)) 19 M_law 18 [some (.ref 0), some (.ref 1), some (.ref 75), some (.int (nI i))] [] h = some (some (.int 1), h') ∧ h'.1 ≤ 600000 ∧ h'.2.1 ≤ 7302250 := by
  have q1 : Int32.ofNat L - 6 < nI i := by
    rcases Nat.lt_or_ge L 6 with w | w
    · exact Int32.lt_of_lt_of_le (neg6 L w) (nI_pos' (by omega))
    · rw [show Int32.ofNat L - 6 = nI (L - 6) from nI_sub (b := 6) w]
      exact nI_lt (by omega) (by omega)
  obtain ⟨σ, τ, v, s, q, e, p, t, n, len, A, X, z, H, _⟩ := R
  refine ⟨h, ?_, H.2.2.2.2.2.2.2.2⟩
  simp only [e_law_18, e_law_19, e_law_20, e_law_21, e_law_23, e_law_24, e_law_886, e_law_887, Option.isSome_some, Option.map_some, Option.map_none, Option.toList_some, Option.toList_none, List.nil_append, List.cons_append, List.singleton_append, if_true, if_false, ↓reduceIte, and_self, and_true, true_and, and_false, false_and, not_true, not_false_iff, reduceCtorEq, Nat.reduceEqDiff, Nat.reduceAdd, Nat.reduceSub, Nat.reduceMul, Nat.reduceLT, Nat.reduceLeDiff, Nat.reduceBEq, eq_self, ne_eq, Nat.add_eq_zero_iff, Nat.add_left_cancel_iff, Nat.add_right_cancel_iff, Nat.left_eq_add, Nat.add_eq_left, Bool.true_or, Bool.or_true, Bool.or_self, or_self, or_true, true_or, or_false, false_or, decide_true, decide_false, i_10, i_01, q1]
theorem law_loop (hL : L ≤ 3072) : ∀ k i, L ≤ i + k → i ≤ L → ∀ h, Rel h → ∃ h', xR (some (L, xs)) 19 M_law 18 [some (.ref 0), some (.ref 1), some (.ref 75), some (.int (nI i))] [] h = some (some (.int 1), h') ∧ h'.1 ≤ 600000 ∧ h'.2.1 ≤ 7302250
  | 0, i, hk, hi, h, R => law_exit R (by omega) hL hi
  | k + 1, i, hk, hi, h, R => by
    rcases Nat.lt_or_ge L (i + 6) with w | w
    · exact law_exit R w hL hi
    · obtain ⟨h2, e, R2⟩ := law_step (xs := xs) R w hL
      obtain ⟨h', c, b⟩ := law_loop hL k (i + 6) (by omega) w h2 R2
      refine ⟨h', ?_, b⟩
      have p6 : nI i + 6 = nI (i + 6) := nI_add i 6
      rw [e, e_law_880, e_law_883, p6]
      exact c
theorem xrun_law (L : Nat) (xs : Nat → Int32) (hL : L ≤ 3072) : ∃ h', xR (some (L, xs)) 19 M_law 0 (xent 4 [.ref 0]) [] x0 = some (some (.int 1), h') ∧ h'.1 ≤ 600000 ∧ h'.2.1 ≤ 7302250 := by
  obtain ⟨h', c, b⟩ := law_loop (xs := xs) hL L 0 (by omega) (by omega) _ Rel_0
  refine ⟨h', ?_, b⟩
  have c1 := fun f => call_l (lv := 19) i_Sp (Nat.le_of_ble_eq_true rfl) f
  have c2 := fun f => call_l (lv := 19) i_Md0 (Nat.le_of_ble_eq_true rfl) f
  rw [nI_0] at c
  show xR (some (L, xs)) 19 M_law 0 [some (.ref 0), none, none, none] [] x0 = _
  rw [x0_tH, e_law_0, tH_nw, tH_1, e_law_3, e_law_4]
  refine (c1 _).trans ?_
  simp only [Option.toList_none, List.nil_append]
  rw [e_law_7, e_law_8, tH_nw, tH_1, e_law_11, e_law_12]
  refine (c2 _).trans ?_
  simp only [Option.toList_none, List.nil_append]
  rw [e_law_15, e_law_16, e_law_17]
  exact c
end LOOP
