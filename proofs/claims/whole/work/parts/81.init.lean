/-! The first heap, by a table. -/
def cI (t n : Nat) : xE := .inl (t, n, .inl (fun _ => 0))
def cT (g : Nat → Int32) : xE := .inl (0, 64, .inl g)
def cL : xE := .inl (1, 9, .inr (.inl (fun _ => 0)))
def rA (g : Nat → Option Nat) : xE := .inl (3, 16, .inr (.inr (.inr (.inr g))))
def rK (g : Nat → Option Nat) : xE := .inl (4, 2, .inr (.inr (.inr (.inr g))))
def tgR (k : Nat) : Nat → Int32 := fun i => if i < k then nI (tlN i) else 0
def tabL : List xE := [cI 0 0,
  .inr (8, [.ref 2, .int 0, .ref 3, .ref 4, .ref 15, .ref 26, .ref 44, .ref 55, .ref 65, .ref 66, .ref 72, .ref 74, .long 0]),
  cI 0 90,
  .inr (5, xbl 5),
  .inr (7, [.int 0, .int 1, .int 0, .int 0, .int 0, .int 0, .ref 5, .ref 6, .ref 7, .ref 8, .ref 9, .ref 10, .ref 11, .ref 12, .ref 13, .ref 14]),
  cI 0 5,
  cI 0 5,
  cI 0 6,
  cI 0 6,
  cI 0 6,
  cI 0 6,
  cI 0 6,
  cI 0 8,
  cI 0 8,
  cI 0 8,
  .inr (7, [.int 0, .int 1, .int 0, .int 0, .int 0, .int 0, .ref 16, .ref 17, .ref 18, .ref 19, .ref 20, .ref 21, .ref 22, .ref 23, .ref 24, .ref 25]),
  cI 0 5,
  cI 0 5,
  cI 0 6,
  cI 0 6,
  cI 0 6,
  cI 0 6,
  cI 0 6,
  cI 0 8,
  cI 0 8,
  cI 0 8,
  .inr (1, [.ref 27, .int 0]),
  rA (qf (fun i => 28 + i)),
  .inr (0, xbl 0),
  .inr (0, xbl 0),
  .inr (0, xbl 0),
  .inr (0, xbl 0),
  .inr (0, xbl 0),
  .inr (0, xbl 0),
  .inr (0, xbl 0),
  .inr (0, xbl 0),
  .inr (0, xbl 0),
  .inr (0, xbl 0),
  .inr (0, xbl 0),
  .inr (0, xbl 0),
  .inr (0, xbl 0),
  .inr (0, xbl 0),
  .inr (0, xbl 0),
  .inr (0, xbl 0),
  rK (va_up (va_up (fun _ => none) 0 (some 45)) 1 (some 50)),
  .inr (3, [.int 0, .int 0, .ref 46, .ref 47, .ref 48, .ref 49]),
  cI 0 5,
  cI 0 6,
  cI 0 6,
  cI 0 6,
  .inr (3, [.int 0, .int 0, .ref 51, .ref 52, .ref 53, .ref 54]),
  cI 0 5,
  cI 0 6,
  cI 0 6,
  cI 0 6,
  .inr (4, [.null, .int 0, .int 0, .ref 56, .int 0, .ref 57, .ref 58, .int 0, .long 0, .ref 59, .ref 60, .ref 61, .ref 62, .ref 63, .ref 64, .int 0, .int 0]),
  cI 0 6,
  cI 0 8,
  cI 0 5,
  cI 0 256,
  cI 0 4,
  cT (tgR 64),
  cI 0 24,
  cI 0 8192,
  cI 0 8,
  cI 0 10,
  .inr (6, [.int 0, .ref 67, .ref 68, .ref 69, .ref 70, .ref 71]),
  cI 0 6,
  cI 0 6,
  cI 2 6,
  cI 0 5,
  cI 0 5,
  .inr (2, [.ref 73]),
  cL,
  cI 0 6,
  .inr (9, [.ref 76, .ref 77, .ref 78, .ref 79, .int 0, .int 0, .int 0, .int 0, .int 0, .ref 80, .ref 81, .ref 82, .ref 83, .int 0, .int 0, .int 0, .int 0, .int 1, .ref 84, .ref 85, .int 0, .int 0, .int 0, .int 0, .int 0, .ref 86, .ref 87, .int 0, .ref 88, .ref 89, .ref 90, .int 0, .int 0, .ref 91, .ref 92, .ref 93, .ref 94, .ref 95, .long 0, .ref 96, .ref 97]),
  cI 0 5,
  cI 0 5,
  cI 0 18,
  cI 0 24,
  cI 0 5,
  cI 0 6,
  cI 0 6,
  cI 0 24,
  cI 0 24,
  cI 0 90,
  cI 0 384,
  cI 0 8,
  cI 0 9,
  cI 0 8,
  cI 0 6,
  cI 0 6,
  cI 0 6,
  cI 2 6,
  cI 0 5,
  cI 0 5,
  cI 2 2,
  cI 0 48]
def T0 (j : Nat) : xE := (tabL[j]?).getD (cI 0 0)
def UU (T : Nat → xE) (a : Nat) (e : xE) : Nat → xE := fun j => if j = a then e else T j
def tH (m n : Nat) (T : Nat → xE) : xH := (m, n, fun j => if j = 0 ∨ m < j then none else some (T j))
theorem UU_same (T : Nat → xE) (a : Nat) (e : xE) : UU T a e a = e := if_pos rfl
theorem UU_ne {T : Nat → xE} {a : Nat} {e : xE} {j : Nat} (h : j ≠ a) : UU T a e j = T j := if_neg h
theorem UU_UU (T : Nat → xE) (a : Nat) (e e' : xE) : UU (UU T a e) a e' = UU T a e' := by
  funext j
  unfold UU
  by_cases w : j = a
  · rw [if_pos w, if_pos w]
  · rw [if_neg w, if_neg w, if_neg w]
theorem UU_done {T : Nat → xE} {a : Nat} {e : xE} (h : T a = e) : UU T a e = T := by
  funext j
  unfold UU
  by_cases w : j = a
  · rw [if_pos w, w, h]
  · rw [if_neg w]
theorem UU_comm {T : Nat → xE} {a b : Nat} {e e' : xE} (h : a ≠ b) : UU (UU T a e) b e' = UU (UU T b e') a e := by
  funext j
  unfold UU
  by_cases w : j = b
  · rw [if_pos w, if_neg (by omega), if_pos w]
  · rw [if_neg w]
    by_cases u : j = a
    · rw [if_pos u, if_pos u]
    · rw [if_neg u, if_neg u, if_neg w]
theorem tH_1 (m n : Nat) (T : Nat → xE) : (tH m n T).1 = m := rfl
theorem tH_at {m n : Nat} {T : Nat → xE} {a : Nat} (h1 : 1 ≤ a) (h2 : a ≤ m) : (tH m n T).2.2 a = some (T a) := if_neg (by omega)
theorem tH_nw (m n k : Nat) (T : Nat → xE) (c : xE) : xnw (tH m n T) k c = tH (m + 1) (n + k) (UU T (m + 1) c) := by
  refine Prod.ext rfl (Prod.ext rfl ?_)
  funext j
  show (if j = m + 1 then some c else if j = 0 ∨ m < j then none else some (T j)) = if j = 0 ∨ m + 1 < j then none else some (UU T (m + 1) c j)
  unfold UU
  by_cases w : j = m + 1
  · rw [if_pos w, if_neg (by omega), if_pos w]
  · rw [if_neg w, if_neg w]
    by_cases u : j = 0 ∨ m < j
    · rw [if_pos u, if_pos (by omega)]
    · rw [if_neg u, if_neg (by omega)]
theorem tH_nx {m n k : Nat} {T : Nat → xE} {c : xE} (h : T (m + 1) = c) : xnw (tH m n T) k c = tH (m + 1) (n + k) T := by rw [tH_nw, UU_done h]
theorem tH_up {m n : Nat} {T : Nat → xE} {a : Nat} {c : xE} (h1 : 1 ≤ a) (h2 : a ≤ m) : xup (tH m n T) a c = tH m n (UU T a c) := by
  refine Prod.ext rfl (Prod.ext rfl ?_)
  funext j
  show (if j = a then some c else if j = 0 ∨ m < j then none else some (T j)) = if j = 0 ∨ m < j then none else some (UU T a c j)
  unfold UU
  by_cases w : j = a
  · rw [if_pos w, if_neg (by omega), if_pos w]
  · rw [if_neg w, if_neg w]
/-- a field of an object is laid -/
theorem tH_put {m n : Nat} {T : Nat → xE} {a c k : Nat} {fs : List Value} {v : Value} {f : xH → xQ} (hT : T a = .inr (c, fs)) (h1 : 1 ≤ a) (h2 : a ≤ m) (hk : k < fs.length) : rpt (tH m n T) a c k true v f = f (tH m n (UU T a (.inr (c, fs.set k v)))) := by
  unfold rpt
  rw [tH_at h1 h2, hT]
  show (if c = c ∧ k < fs.length ∧ true = true then _ else _) = _
  rw [if_pos ⟨rfl, hk, rfl⟩, tH_up h1 h2]
theorem na_gen {m n k : Nat} {T : Nat → xE} {f : xH → xQ} (hk : k ≤ 65536) (hT : T (m + 1) = cI 0 k) : rna (tH m n T) 0 (nI k) f = f (tH (m + 1) (n + k) T) := by
  unfold rna
  rw [if_neg]
  · show f (xnw _ (nI k).toNatClampNeg (.inl (0, (nI k).toNatClampNeg, .inl (fun _ => 0)))) = _
    rw [nI_clamp (by omega)]
    exact congrArg f (tH_nx hT)
  · rw [nI_clamp (by omega)]
    rintro (w | w)
    · exact nI_pos (by omega) w
    · omega
theorem nb_gen {m n k : Nat} {T : Nat → xE} {f : xH → xQ} (hk : k ≤ 65536) (hT : T (m + 1) = cI 2 k) : rna (tH m n T) 2 (nI k) f = f (tH (m + 1) (n + k) T) := by
  unfold rna
  rw [if_neg]
  · show f (xnw _ (nI k).toNatClampNeg (.inl (2, (nI k).toNatClampNeg, .inl (fun _ => 0)))) = _
    rw [nI_clamp (by omega)]
    exact congrArg f (tH_nx hT)
  · rw [nI_clamp (by omega)]
    rintro (w | w)
    · exact nI_pos (by omega) w
    · omega
/-- an array is made and laid into a field -/
theorem ap_gen {m n k a c i : Nat} {T : Nat → xE} {fs : List Value} {F : xH → xQ} {G : xH → xQ} (hk : k ≤ 65536) (hT : T (m + 1) = cI 0 k) (h1 : 1 ≤ a) (h2 : a ≤ m) (hi : i < fs.length) (hF : ∀ h, F h = rpt h a c i true (.ref h.1) G) : rna (tH m n (UU T a (.inr (c, fs)))) 0 (nI k) F = G (tH (m + 1) (n + k) (UU T a (.inr (c, fs.set i (.ref (m + 1)))))) := by
  rw [na_gen hk (by rw [UU_ne (by omega)]; exact hT), hF, tH_put (UU_same _ _ _) h1 (by omega) hi, UU_UU]
  rfl
theorem bp_gen {m n k a c i : Nat} {T : Nat → xE} {fs : List Value} {F : xH → xQ} {G : xH → xQ} (hk : k ≤ 65536) (hT : T (m + 1) = cI 2 k) (h1 : 1 ≤ a) (h2 : a ≤ m) (hi : i < fs.length) (hF : ∀ h, F h = rpt h a c i true (.ref h.1) G) : rna (tH m n (UU T a (.inr (c, fs)))) 2 (nI k) F = G (tH (m + 1) (n + k) (UU T a (.inr (c, fs.set i (.ref (m + 1)))))) := by
  rw [nb_gen hk (by rw [UU_ne (by omega)]; exact hT), hF, tH_put (UU_same _ _ _) h1 (by omega) hi, UU_UU]
  rfl
theorem xbl_7 : xbl 7 = [.int 0, .int 0, .int 0, .int 0, .int 0, .int 0, .null, .null, .null, .null, .null, .null, .null, .null, .null, .null] := rfl
theorem xbl_3 : xbl 3 = [.int 0, .int 0, .null, .null, .null, .null] := rfl
theorem xbl_6 : xbl 6 = [.int 0, .null, .null, .null, .null, .null] := rfl
theorem xbl_2 : xbl 2 = [.null] := rfl
theorem xbl_1 : xbl 1 = [.null, .int 0] := rfl
theorem xbl_4 : xbl 4 = [.null, .int 0, .int 0, .null, .int 0, .null, .null, .int 0, .long 0, .null, .null, .null, .null, .null, .null, .int 0, .int 0] := rfl
theorem xbl_8 : xbl 8 = [.null, .int 0, .null, .null, .null, .null, .null, .null, .null, .null, .null, .null, .long 0] := rfl
theorem xbl_9 : xbl 9 = [.null, .null, .null, .null, .int 0, .int 0, .int 0, .int 0, .int 0, .null, .null, .null, .null, .int 0, .int 0, .int 0, .int 0, .int 0, .null, .null, .int 0, .int 0, .int 0, .int 0, .int 0, .null, .null, .int 0, .null, .null, .null, .int 0, .int 0, .null, .null, .null, .null, .null, .long 0, .null, .null] := rfl
theorem s_Village_init_4 {T : Nat → xE} {b m n : Nat} {fs : List Value} (hT : T (m + 1) = cI 0 5) (h1 : 1 ≤ b) (h2 : b ≤ m) (hi : 6 < fs.length) : xR none 0 M_Village_init 4 [some (.ref b)] [] (tH m n (UU T b (.inr (7, fs)))) = xR none 0 M_Village_init 11 [some (.ref b)] [] (tH (m + 1) (n + 5) (UU T b (.inr (7, fs.set 6 (.ref (m + 1)))))) := by
  rw [e_Village_init_4, e_Village_init_5, e_Village_init_6]
  exact ap_gen (k := 5) (i := 6) (by omega) hT h1 h2 hi (fun h => e_Village_init_8 _ _ _ _ _)
theorem s_Village_init_11 {T : Nat → xE} {b m n : Nat} {fs : List Value} (hT : T (m + 1) = cI 0 5) (h1 : 1 ≤ b) (h2 : b ≤ m) (hi : 7 < fs.length) : xR none 0 M_Village_init 11 [some (.ref b)] [] (tH m n (UU T b (.inr (7, fs)))) = xR none 0 M_Village_init 18 [some (.ref b)] [] (tH (m + 1) (n + 5) (UU T b (.inr (7, fs.set 7 (.ref (m + 1)))))) := by
  rw [e_Village_init_11, e_Village_init_12, e_Village_init_13]
  exact ap_gen (k := 5) (i := 7) (by omega) hT h1 h2 hi (fun h => e_Village_init_15 _ _ _ _ _)
theorem s_Village_init_18 {T : Nat → xE} {b m n : Nat} {fs : List Value} (hT : T (m + 1) = cI 0 6) (h1 : 1 ≤ b) (h2 : b ≤ m) (hi : 8 < fs.length) : xR none 0 M_Village_init 18 [some (.ref b)] [] (tH m n (UU T b (.inr (7, fs)))) = xR none 0 M_Village_init 26 [some (.ref b)] [] (tH (m + 1) (n + 6) (UU T b (.inr (7, fs.set 8 (.ref (m + 1)))))) := by
  rw [e_Village_init_18, e_Village_init_19, e_Village_init_21]
  exact ap_gen (k := 6) (i := 8) (by omega) hT h1 h2 hi (fun h => e_Village_init_23 _ _ _ _ _)
theorem s_Village_init_26 {T : Nat → xE} {b m n : Nat} {fs : List Value} (hT : T (m + 1) = cI 0 6) (h1 : 1 ≤ b) (h2 : b ≤ m) (hi : 9 < fs.length) : xR none 0 M_Village_init 26 [some (.ref b)] [] (tH m n (UU T b (.inr (7, fs)))) = xR none 0 M_Village_init 34 [some (.ref b)] [] (tH (m + 1) (n + 6) (UU T b (.inr (7, fs.set 9 (.ref (m + 1)))))) := by
  rw [e_Village_init_26, e_Village_init_27, e_Village_init_29]
  exact ap_gen (k := 6) (i := 9) (by omega) hT h1 h2 hi (fun h => e_Village_init_31 _ _ _ _ _)
theorem s_Village_init_34 {T : Nat → xE} {b m n : Nat} {fs : List Value} (hT : T (m + 1) = cI 0 6) (h1 : 1 ≤ b) (h2 : b ≤ m) (hi : 10 < fs.length) : xR none 0 M_Village_init 34 [some (.ref b)] [] (tH m n (UU T b (.inr (7, fs)))) = xR none 0 M_Village_init 42 [some (.ref b)] [] (tH (m + 1) (n + 6) (UU T b (.inr (7, fs.set 10 (.ref (m + 1)))))) := by
  rw [e_Village_init_34, e_Village_init_35, e_Village_init_37]
  exact ap_gen (k := 6) (i := 10) (by omega) hT h1 h2 hi (fun h => e_Village_init_39 _ _ _ _ _)
theorem s_Village_init_42 {T : Nat → xE} {b m n : Nat} {fs : List Value} (hT : T (m + 1) = cI 0 6) (h1 : 1 ≤ b) (h2 : b ≤ m) (hi : 11 < fs.length) : xR none 0 M_Village_init 42 [some (.ref b)] [] (tH m n (UU T b (.inr (7, fs)))) = xR none 0 M_Village_init 50 [some (.ref b)] [] (tH (m + 1) (n + 6) (UU T b (.inr (7, fs.set 11 (.ref (m + 1)))))) := by
  rw [e_Village_init_42, e_Village_init_43, e_Village_init_45]
  exact ap_gen (k := 6) (i := 11) (by omega) hT h1 h2 hi (fun h => e_Village_init_47 _ _ _ _ _)
theorem s_Village_init_50 {T : Nat → xE} {b m n : Nat} {fs : List Value} (hT : T (m + 1) = cI 0 6) (h1 : 1 ≤ b) (h2 : b ≤ m) (hi : 12 < fs.length) : xR none 0 M_Village_init 50 [some (.ref b)] [] (tH m n (UU T b (.inr (7, fs)))) = xR none 0 M_Village_init 58 [some (.ref b)] [] (tH (m + 1) (n + 6) (UU T b (.inr (7, fs.set 12 (.ref (m + 1)))))) := by
  rw [e_Village_init_50, e_Village_init_51, e_Village_init_53]
  exact ap_gen (k := 6) (i := 12) (by omega) hT h1 h2 hi (fun h => e_Village_init_55 _ _ _ _ _)
theorem s_Village_init_58 {T : Nat → xE} {b m n : Nat} {fs : List Value} (hT : T (m + 1) = cI 0 8) (h1 : 1 ≤ b) (h2 : b ≤ m) (hi : 13 < fs.length) : xR none 0 M_Village_init 58 [some (.ref b)] [] (tH m n (UU T b (.inr (7, fs)))) = xR none 0 M_Village_init 66 [some (.ref b)] [] (tH (m + 1) (n + 8) (UU T b (.inr (7, fs.set 13 (.ref (m + 1)))))) := by
  rw [e_Village_init_58, e_Village_init_59, e_Village_init_61]
  exact ap_gen (k := 8) (i := 13) (by omega) hT h1 h2 hi (fun h => e_Village_init_63 _ _ _ _ _)
theorem s_Village_init_66 {T : Nat → xE} {b m n : Nat} {fs : List Value} (hT : T (m + 1) = cI 0 8) (h1 : 1 ≤ b) (h2 : b ≤ m) (hi : 14 < fs.length) : xR none 0 M_Village_init 66 [some (.ref b)] [] (tH m n (UU T b (.inr (7, fs)))) = xR none 0 M_Village_init 74 [some (.ref b)] [] (tH (m + 1) (n + 8) (UU T b (.inr (7, fs.set 14 (.ref (m + 1)))))) := by
  rw [e_Village_init_66, e_Village_init_67, e_Village_init_69]
  exact ap_gen (k := 8) (i := 14) (by omega) hT h1 h2 hi (fun h => e_Village_init_71 _ _ _ _ _)
theorem s_Village_init_74 {T : Nat → xE} {b m n : Nat} {fs : List Value} (hT : T (m + 1) = cI 0 8) (h1 : 1 ≤ b) (h2 : b ≤ m) (hi : 15 < fs.length) : xR none 0 M_Village_init 74 [some (.ref b)] [] (tH m n (UU T b (.inr (7, fs)))) = xR none 0 M_Village_init 82 [some (.ref b)] [] (tH (m + 1) (n + 8) (UU T b (.inr (7, fs.set 15 (.ref (m + 1)))))) := by
  rw [e_Village_init_74, e_Village_init_75, e_Village_init_77]
  exact ap_gen (k := 8) (i := 15) (by omega) hT h1 h2 hi (fun h => e_Village_init_79 _ _ _ _ _)
theorem s_Kept_init_4 {T : Nat → xE} {b m n : Nat} {fs : List Value} (hT : T (m + 1) = cI 0 5) (h1 : 1 ≤ b) (h2 : b ≤ m) (hi : 2 < fs.length) : xR none 0 M_Kept_init 4 [some (.ref b)] [] (tH m n (UU T b (.inr (3, fs)))) = xR none 0 M_Kept_init 11 [some (.ref b)] [] (tH (m + 1) (n + 5) (UU T b (.inr (3, fs.set 2 (.ref (m + 1)))))) := by
  rw [e_Kept_init_4, e_Kept_init_5, e_Kept_init_6]
  exact ap_gen (k := 5) (i := 2) (by omega) hT h1 h2 hi (fun h => e_Kept_init_8 _ _ _ _ _)
theorem s_Kept_init_11 {T : Nat → xE} {b m n : Nat} {fs : List Value} (hT : T (m + 1) = cI 0 6) (h1 : 1 ≤ b) (h2 : b ≤ m) (hi : 3 < fs.length) : xR none 0 M_Kept_init 11 [some (.ref b)] [] (tH m n (UU T b (.inr (3, fs)))) = xR none 0 M_Kept_init 19 [some (.ref b)] [] (tH (m + 1) (n + 6) (UU T b (.inr (3, fs.set 3 (.ref (m + 1)))))) := by
  rw [e_Kept_init_11, e_Kept_init_12, e_Kept_init_14]
  exact ap_gen (k := 6) (i := 3) (by omega) hT h1 h2 hi (fun h => e_Kept_init_16 _ _ _ _ _)
theorem s_Kept_init_19 {T : Nat → xE} {b m n : Nat} {fs : List Value} (hT : T (m + 1) = cI 0 6) (h1 : 1 ≤ b) (h2 : b ≤ m) (hi : 4 < fs.length) : xR none 0 M_Kept_init 19 [some (.ref b)] [] (tH m n (UU T b (.inr (3, fs)))) = xR none 0 M_Kept_init 27 [some (.ref b)] [] (tH (m + 1) (n + 6) (UU T b (.inr (3, fs.set 4 (.ref (m + 1)))))) := by
  rw [e_Kept_init_19, e_Kept_init_20, e_Kept_init_22]
  exact ap_gen (k := 6) (i := 4) (by omega) hT h1 h2 hi (fun h => e_Kept_init_24 _ _ _ _ _)
theorem s_Kept_init_27 {T : Nat → xE} {b m n : Nat} {fs : List Value} (hT : T (m + 1) = cI 0 6) (h1 : 1 ≤ b) (h2 : b ≤ m) (hi : 5 < fs.length) : xR none 0 M_Kept_init 27 [some (.ref b)] [] (tH m n (UU T b (.inr (3, fs)))) = xR none 0 M_Kept_init 35 [some (.ref b)] [] (tH (m + 1) (n + 6) (UU T b (.inr (3, fs.set 5 (.ref (m + 1)))))) := by
  rw [e_Kept_init_27, e_Kept_init_28, e_Kept_init_30]
  exact ap_gen (k := 6) (i := 5) (by omega) hT h1 h2 hi (fun h => e_Kept_init_32 _ _ _ _ _)
theorem s_Sight_init_4 {T : Nat → xE} {b m n : Nat} {fs : List Value} (hT : T (m + 1) = cI 0 6) (h1 : 1 ≤ b) (h2 : b ≤ m) (hi : 1 < fs.length) : xR none 0 M_Sight_init 4 [some (.ref b)] [] (tH m n (UU T b (.inr (6, fs)))) = xR none 0 M_Sight_init 12 [some (.ref b)] [] (tH (m + 1) (n + 6) (UU T b (.inr (6, fs.set 1 (.ref (m + 1)))))) := by
  rw [e_Sight_init_4, e_Sight_init_5, e_Sight_init_7]
  exact ap_gen (k := 6) (i := 1) (by omega) hT h1 h2 hi (fun h => e_Sight_init_9 _ _ _ _ _)
theorem s_Sight_init_12 {T : Nat → xE} {b m n : Nat} {fs : List Value} (hT : T (m + 1) = cI 0 6) (h1 : 1 ≤ b) (h2 : b ≤ m) (hi : 2 < fs.length) : xR none 0 M_Sight_init 12 [some (.ref b)] [] (tH m n (UU T b (.inr (6, fs)))) = xR none 0 M_Sight_init 20 [some (.ref b)] [] (tH (m + 1) (n + 6) (UU T b (.inr (6, fs.set 2 (.ref (m + 1)))))) := by
  rw [e_Sight_init_12, e_Sight_init_13, e_Sight_init_15]
  exact ap_gen (k := 6) (i := 2) (by omega) hT h1 h2 hi (fun h => e_Sight_init_17 _ _ _ _ _)
theorem s_Sight_init_20 {T : Nat → xE} {b m n : Nat} {fs : List Value} (hT : T (m + 1) = cI 2 6) (h1 : 1 ≤ b) (h2 : b ≤ m) (hi : 3 < fs.length) : xR none 0 M_Sight_init 20 [some (.ref b)] [] (tH m n (UU T b (.inr (6, fs)))) = xR none 0 M_Sight_init 28 [some (.ref b)] [] (tH (m + 1) (n + 6) (UU T b (.inr (6, fs.set 3 (.ref (m + 1)))))) := by
  rw [e_Sight_init_20, e_Sight_init_21, e_Sight_init_23]
  exact bp_gen (k := 6) (i := 3) (by omega) hT h1 h2 hi (fun h => e_Sight_init_25 _ _ _ _ _)
theorem s_Sight_init_28 {T : Nat → xE} {b m n : Nat} {fs : List Value} (hT : T (m + 1) = cI 0 5) (h1 : 1 ≤ b) (h2 : b ≤ m) (hi : 4 < fs.length) : xR none 0 M_Sight_init 28 [some (.ref b)] [] (tH m n (UU T b (.inr (6, fs)))) = xR none 0 M_Sight_init 35 [some (.ref b)] [] (tH (m + 1) (n + 5) (UU T b (.inr (6, fs.set 4 (.ref (m + 1)))))) := by
  rw [e_Sight_init_28, e_Sight_init_29, e_Sight_init_30]
  exact ap_gen (k := 5) (i := 4) (by omega) hT h1 h2 hi (fun h => e_Sight_init_32 _ _ _ _ _)
theorem s_Sight_init_35 {T : Nat → xE} {b m n : Nat} {fs : List Value} (hT : T (m + 1) = cI 0 5) (h1 : 1 ≤ b) (h2 : b ≤ m) (hi : 5 < fs.length) : xR none 0 M_Sight_init 35 [some (.ref b)] [] (tH m n (UU T b (.inr (6, fs)))) = xR none 0 M_Sight_init 42 [some (.ref b)] [] (tH (m + 1) (n + 5) (UU T b (.inr (6, fs.set 5 (.ref (m + 1)))))) := by
  rw [e_Sight_init_35, e_Sight_init_36, e_Sight_init_37]
  exact ap_gen (k := 5) (i := 5) (by omega) hT h1 h2 hi (fun h => e_Sight_init_39 _ _ _ _ _)
theorem s_Md_init_4 {T : Nat → xE} {b m n : Nat} {fs : List Value} (hT : T (m + 1) = cI 0 5) (h1 : 1 ≤ b) (h2 : b ≤ m) (hi : 0 < fs.length) : xR none 0 M_Md_init 4 [some (.ref b)] [] (tH m n (UU T b (.inr (9, fs)))) = xR none 0 M_Md_init 11 [some (.ref b)] [] (tH (m + 1) (n + 5) (UU T b (.inr (9, fs.set 0 (.ref (m + 1)))))) := by
  rw [e_Md_init_4, e_Md_init_5, e_Md_init_6]
  exact ap_gen (k := 5) (i := 0) (by omega) hT h1 h2 hi (fun h => e_Md_init_8 _ _ _ _ _)
theorem s_Md_init_11 {T : Nat → xE} {b m n : Nat} {fs : List Value} (hT : T (m + 1) = cI 0 5) (h1 : 1 ≤ b) (h2 : b ≤ m) (hi : 1 < fs.length) : xR none 0 M_Md_init 11 [some (.ref b)] [] (tH m n (UU T b (.inr (9, fs)))) = xR none 0 M_Md_init 18 [some (.ref b)] [] (tH (m + 1) (n + 5) (UU T b (.inr (9, fs.set 1 (.ref (m + 1)))))) := by
  rw [e_Md_init_11, e_Md_init_12, e_Md_init_13]
  exact ap_gen (k := 5) (i := 1) (by omega) hT h1 h2 hi (fun h => e_Md_init_15 _ _ _ _ _)
theorem s_Md_init_18 {T : Nat → xE} {b m n : Nat} {fs : List Value} (hT : T (m + 1) = cI 0 18) (h1 : 1 ≤ b) (h2 : b ≤ m) (hi : 2 < fs.length) : xR none 0 M_Md_init 18 [some (.ref b)] [] (tH m n (UU T b (.inr (9, fs)))) = xR none 0 M_Md_init 26 [some (.ref b)] [] (tH (m + 1) (n + 18) (UU T b (.inr (9, fs.set 2 (.ref (m + 1)))))) := by
  rw [e_Md_init_18, e_Md_init_19, e_Md_init_21]
  exact ap_gen (k := 18) (i := 2) (by omega) hT h1 h2 hi (fun h => e_Md_init_23 _ _ _ _ _)
theorem s_Md_init_26 {T : Nat → xE} {b m n : Nat} {fs : List Value} (hT : T (m + 1) = cI 0 24) (h1 : 1 ≤ b) (h2 : b ≤ m) (hi : 3 < fs.length) : xR none 0 M_Md_init 26 [some (.ref b)] [] (tH m n (UU T b (.inr (9, fs)))) = xR none 0 M_Md_init 34 [some (.ref b)] [] (tH (m + 1) (n + 24) (UU T b (.inr (9, fs.set 3 (.ref (m + 1)))))) := by
  rw [e_Md_init_26, e_Md_init_27, e_Md_init_29]
  exact ap_gen (k := 24) (i := 3) (by omega) hT h1 h2 hi (fun h => e_Md_init_31 _ _ _ _ _)
theorem s_Md_init_34 {T : Nat → xE} {b m n : Nat} {fs : List Value} (hT : T (m + 1) = cI 0 5) (h1 : 1 ≤ b) (h2 : b ≤ m) (hi : 9 < fs.length) : xR none 0 M_Md_init 34 [some (.ref b)] [] (tH m n (UU T b (.inr (9, fs)))) = xR none 0 M_Md_init 41 [some (.ref b)] [] (tH (m + 1) (n + 5) (UU T b (.inr (9, fs.set 9 (.ref (m + 1)))))) := by
  rw [e_Md_init_34, e_Md_init_35, e_Md_init_36]
  exact ap_gen (k := 5) (i := 9) (by omega) hT h1 h2 hi (fun h => e_Md_init_38 _ _ _ _ _)
theorem s_Md_init_41 {T : Nat → xE} {b m n : Nat} {fs : List Value} (hT : T (m + 1) = cI 0 6) (h1 : 1 ≤ b) (h2 : b ≤ m) (hi : 10 < fs.length) : xR none 0 M_Md_init 41 [some (.ref b)] [] (tH m n (UU T b (.inr (9, fs)))) = xR none 0 M_Md_init 49 [some (.ref b)] [] (tH (m + 1) (n + 6) (UU T b (.inr (9, fs.set 10 (.ref (m + 1)))))) := by
  rw [e_Md_init_41, e_Md_init_42, e_Md_init_44]
  exact ap_gen (k := 6) (i := 10) (by omega) hT h1 h2 hi (fun h => e_Md_init_46 _ _ _ _ _)
theorem s_Md_init_49 {T : Nat → xE} {b m n : Nat} {fs : List Value} (hT : T (m + 1) = cI 0 6) (h1 : 1 ≤ b) (h2 : b ≤ m) (hi : 11 < fs.length) : xR none 0 M_Md_init 49 [some (.ref b)] [] (tH m n (UU T b (.inr (9, fs)))) = xR none 0 M_Md_init 57 [some (.ref b)] [] (tH (m + 1) (n + 6) (UU T b (.inr (9, fs.set 11 (.ref (m + 1)))))) := by
  rw [e_Md_init_49, e_Md_init_50, e_Md_init_52]
  exact ap_gen (k := 6) (i := 11) (by omega) hT h1 h2 hi (fun h => e_Md_init_54 _ _ _ _ _)
theorem s_Md_init_57 {T : Nat → xE} {b m n : Nat} {fs : List Value} (hT : T (m + 1) = cI 0 24) (h1 : 1 ≤ b) (h2 : b ≤ m) (hi : 12 < fs.length) : xR none 0 M_Md_init 57 [some (.ref b)] [] (tH m n (UU T b (.inr (9, fs)))) = xR none 0 M_Md_init 65 [some (.ref b)] [] (tH (m + 1) (n + 24) (UU T b (.inr (9, fs.set 12 (.ref (m + 1)))))) := by
  rw [e_Md_init_57, e_Md_init_58, e_Md_init_60]
  exact ap_gen (k := 24) (i := 12) (by omega) hT h1 h2 hi (fun h => e_Md_init_62 _ _ _ _ _)
theorem s_Md_init_65 {T : Nat → xE} {b m n : Nat} {fs : List Value} (hT : T (m + 1) = cI 0 24) (h1 : 1 ≤ b) (h2 : b ≤ m) (hi : 18 < fs.length) : xR none 0 M_Md_init 65 [some (.ref b)] [] (tH m n (UU T b (.inr (9, fs)))) = xR none 0 M_Md_init 73 [some (.ref b)] [] (tH (m + 1) (n + 24) (UU T b (.inr (9, fs.set 18 (.ref (m + 1)))))) := by
  rw [e_Md_init_65, e_Md_init_66, e_Md_init_68]
  exact ap_gen (k := 24) (i := 18) (by omega) hT h1 h2 hi (fun h => e_Md_init_70 _ _ _ _ _)
theorem s_Md_init_73 {T : Nat → xE} {b m n : Nat} {fs : List Value} (hT : T (m + 1) = cI 0 90) (h1 : 1 ≤ b) (h2 : b ≤ m) (hi : 19 < fs.length) : xR none 0 M_Md_init 73 [some (.ref b)] [] (tH m n (UU T b (.inr (9, fs)))) = xR none 0 M_Md_init 81 [some (.ref b)] [] (tH (m + 1) (n + 90) (UU T b (.inr (9, fs.set 19 (.ref (m + 1)))))) := by
  rw [e_Md_init_73, e_Md_init_74, e_Md_init_76]
  exact ap_gen (k := 90) (i := 19) (by omega) hT h1 h2 hi (fun h => e_Md_init_78 _ _ _ _ _)
theorem s_Md_init_81 {T : Nat → xE} {b m n : Nat} {fs : List Value} (hT : T (m + 1) = cI 0 384) (h1 : 1 ≤ b) (h2 : b ≤ m) (hi : 25 < fs.length) : xR none 0 M_Md_init 81 [some (.ref b)] [] (tH m n (UU T b (.inr (9, fs)))) = xR none 0 M_Md_init 90 [some (.ref b)] [] (tH (m + 1) (n + 384) (UU T b (.inr (9, fs.set 25 (.ref (m + 1)))))) := by
  rw [e_Md_init_81, e_Md_init_82, e_Md_init_85]
  exact ap_gen (k := 384) (i := 25) (by omega) hT h1 h2 hi (fun h => e_Md_init_87 _ _ _ _ _)
theorem s_Md_init_90 {T : Nat → xE} {b m n : Nat} {fs : List Value} (hT : T (m + 1) = cI 0 8) (h1 : 1 ≤ b) (h2 : b ≤ m) (hi : 26 < fs.length) : xR none 0 M_Md_init 90 [some (.ref b)] [] (tH m n (UU T b (.inr (9, fs)))) = xR none 0 M_Md_init 98 [some (.ref b)] [] (tH (m + 1) (n + 8) (UU T b (.inr (9, fs.set 26 (.ref (m + 1)))))) := by
  rw [e_Md_init_90, e_Md_init_91, e_Md_init_93]
  exact ap_gen (k := 8) (i := 26) (by omega) hT h1 h2 hi (fun h => e_Md_init_95 _ _ _ _ _)
theorem s_Md_init_98 {T : Nat → xE} {b m n : Nat} {fs : List Value} (hT : T (m + 1) = cI 0 9) (h1 : 1 ≤ b) (h2 : b ≤ m) (hi : 28 < fs.length) : xR none 0 M_Md_init 98 [some (.ref b)] [] (tH m n (UU T b (.inr (9, fs)))) = xR none 0 M_Md_init 106 [some (.ref b)] [] (tH (m + 1) (n + 9) (UU T b (.inr (9, fs.set 28 (.ref (m + 1)))))) := by
  rw [e_Md_init_98, e_Md_init_99, e_Md_init_101]
  exact ap_gen (k := 9) (i := 28) (by omega) hT h1 h2 hi (fun h => e_Md_init_103 _ _ _ _ _)
theorem s_Md_init_106 {T : Nat → xE} {b m n : Nat} {fs : List Value} (hT : T (m + 1) = cI 0 8) (h1 : 1 ≤ b) (h2 : b ≤ m) (hi : 29 < fs.length) : xR none 0 M_Md_init 106 [some (.ref b)] [] (tH m n (UU T b (.inr (9, fs)))) = xR none 0 M_Md_init 114 [some (.ref b)] [] (tH (m + 1) (n + 8) (UU T b (.inr (9, fs.set 29 (.ref (m + 1)))))) := by
  rw [e_Md_init_106, e_Md_init_107, e_Md_init_109]
  exact ap_gen (k := 8) (i := 29) (by omega) hT h1 h2 hi (fun h => e_Md_init_111 _ _ _ _ _)
theorem s_Md_init_114 {T : Nat → xE} {b m n : Nat} {fs : List Value} (hT : T (m + 1) = cI 0 6) (h1 : 1 ≤ b) (h2 : b ≤ m) (hi : 30 < fs.length) : xR none 0 M_Md_init 114 [some (.ref b)] [] (tH m n (UU T b (.inr (9, fs)))) = xR none 0 M_Md_init 122 [some (.ref b)] [] (tH (m + 1) (n + 6) (UU T b (.inr (9, fs.set 30 (.ref (m + 1)))))) := by
  rw [e_Md_init_114, e_Md_init_115, e_Md_init_117]
  exact ap_gen (k := 6) (i := 30) (by omega) hT h1 h2 hi (fun h => e_Md_init_119 _ _ _ _ _)
theorem s_Md_init_122 {T : Nat → xE} {b m n : Nat} {fs : List Value} (hT : T (m + 1) = cI 0 6) (h1 : 1 ≤ b) (h2 : b ≤ m) (hi : 33 < fs.length) : xR none 0 M_Md_init 122 [some (.ref b)] [] (tH m n (UU T b (.inr (9, fs)))) = xR none 0 M_Md_init 130 [some (.ref b)] [] (tH (m + 1) (n + 6) (UU T b (.inr (9, fs.set 33 (.ref (m + 1)))))) := by
  rw [e_Md_init_122, e_Md_init_123, e_Md_init_125]
  exact ap_gen (k := 6) (i := 33) (by omega) hT h1 h2 hi (fun h => e_Md_init_127 _ _ _ _ _)
theorem s_Md_init_130 {T : Nat → xE} {b m n : Nat} {fs : List Value} (hT : T (m + 1) = cI 0 6) (h1 : 1 ≤ b) (h2 : b ≤ m) (hi : 34 < fs.length) : xR none 0 M_Md_init 130 [some (.ref b)] [] (tH m n (UU T b (.inr (9, fs)))) = xR none 0 M_Md_init 138 [some (.ref b)] [] (tH (m + 1) (n + 6) (UU T b (.inr (9, fs.set 34 (.ref (m + 1)))))) := by
  rw [e_Md_init_130, e_Md_init_131, e_Md_init_133]
  exact ap_gen (k := 6) (i := 34) (by omega) hT h1 h2 hi (fun h => e_Md_init_135 _ _ _ _ _)
theorem s_Md_init_138 {T : Nat → xE} {b m n : Nat} {fs : List Value} (hT : T (m + 1) = cI 2 6) (h1 : 1 ≤ b) (h2 : b ≤ m) (hi : 35 < fs.length) : xR none 0 M_Md_init 138 [some (.ref b)] [] (tH m n (UU T b (.inr (9, fs)))) = xR none 0 M_Md_init 146 [some (.ref b)] [] (tH (m + 1) (n + 6) (UU T b (.inr (9, fs.set 35 (.ref (m + 1)))))) := by
  rw [e_Md_init_138, e_Md_init_139, e_Md_init_141]
  exact bp_gen (k := 6) (i := 35) (by omega) hT h1 h2 hi (fun h => e_Md_init_143 _ _ _ _ _)
theorem s_Md_init_146 {T : Nat → xE} {b m n : Nat} {fs : List Value} (hT : T (m + 1) = cI 0 5) (h1 : 1 ≤ b) (h2 : b ≤ m) (hi : 36 < fs.length) : xR none 0 M_Md_init 146 [some (.ref b)] [] (tH m n (UU T b (.inr (9, fs)))) = xR none 0 M_Md_init 153 [some (.ref b)] [] (tH (m + 1) (n + 5) (UU T b (.inr (9, fs.set 36 (.ref (m + 1)))))) := by
  rw [e_Md_init_146, e_Md_init_147, e_Md_init_148]
  exact ap_gen (k := 5) (i := 36) (by omega) hT h1 h2 hi (fun h => e_Md_init_150 _ _ _ _ _)
theorem s_Md_init_153 {T : Nat → xE} {b m n : Nat} {fs : List Value} (hT : T (m + 1) = cI 0 5) (h1 : 1 ≤ b) (h2 : b ≤ m) (hi : 37 < fs.length) : xR none 0 M_Md_init 153 [some (.ref b)] [] (tH m n (UU T b (.inr (9, fs)))) = xR none 0 M_Md_init 160 [some (.ref b)] [] (tH (m + 1) (n + 5) (UU T b (.inr (9, fs.set 37 (.ref (m + 1)))))) := by
  rw [e_Md_init_153, e_Md_init_154, e_Md_init_155]
  exact ap_gen (k := 5) (i := 37) (by omega) hT h1 h2 hi (fun h => e_Md_init_157 _ _ _ _ _)
theorem s_Md_init_160 {T : Nat → xE} {b m n : Nat} {fs : List Value} (hT : T (m + 1) = cI 2 2) (h1 : 1 ≤ b) (h2 : b ≤ m) (hi : 39 < fs.length) : xR none 0 M_Md_init 160 [some (.ref b)] [] (tH m n (UU T b (.inr (9, fs)))) = xR none 0 M_Md_init 167 [some (.ref b)] [] (tH (m + 1) (n + 2) (UU T b (.inr (9, fs.set 39 (.ref (m + 1)))))) := by
  rw [e_Md_init_160, e_Md_init_161, e_Md_init_162]
  exact bp_gen (k := 2) (i := 39) (by omega) hT h1 h2 hi (fun h => e_Md_init_164 _ _ _ _ _)
theorem s_Md_init_167 {T : Nat → xE} {b m n : Nat} {fs : List Value} (hT : T (m + 1) = cI 0 48) (h1 : 1 ≤ b) (h2 : b ≤ m) (hi : 40 < fs.length) : xR none 0 M_Md_init 167 [some (.ref b)] [] (tH m n (UU T b (.inr (9, fs)))) = xR none 0 M_Md_init 175 [some (.ref b)] [] (tH (m + 1) (n + 48) (UU T b (.inr (9, fs.set 40 (.ref (m + 1)))))) := by
  rw [e_Md_init_167, e_Md_init_168, e_Md_init_170]
  exact ap_gen (k := 48) (i := 40) (by omega) hT h1 h2 hi (fun h => e_Md_init_172 _ _ _ _ _)
theorem s_Planner_init_4 {T : Nat → xE} {b m n : Nat} {fs : List Value} (hT : T (m + 1) = cI 0 6) (h1 : 1 ≤ b) (h2 : b ≤ m) (hi : 3 < fs.length) : xR none 0 M_Planner_init 4 [some (.ref b), none] [] (tH m n (UU T b (.inr (4, fs)))) = xR none 0 M_Planner_init 12 [some (.ref b), none] [] (tH (m + 1) (n + 6) (UU T b (.inr (4, fs.set 3 (.ref (m + 1)))))) := by
  rw [e_Planner_init_4, e_Planner_init_5, e_Planner_init_7]
  exact ap_gen (k := 6) (i := 3) (by omega) hT h1 h2 hi (fun h => e_Planner_init_9 _ _ _ _ _ _)
theorem s_Planner_init_12 {T : Nat → xE} {b m n : Nat} {fs : List Value} (hT : T (m + 1) = cI 0 8) (h1 : 1 ≤ b) (h2 : b ≤ m) (hi : 5 < fs.length) : xR none 0 M_Planner_init 12 [some (.ref b), none] [] (tH m n (UU T b (.inr (4, fs)))) = xR none 0 M_Planner_init 20 [some (.ref b), none] [] (tH (m + 1) (n + 8) (UU T b (.inr (4, fs.set 5 (.ref (m + 1)))))) := by
  rw [e_Planner_init_12, e_Planner_init_13, e_Planner_init_15]
  exact ap_gen (k := 8) (i := 5) (by omega) hT h1 h2 hi (fun h => e_Planner_init_17 _ _ _ _ _ _)
theorem s_Planner_init_20 {T : Nat → xE} {b m n : Nat} {fs : List Value} (hT : T (m + 1) = cI 0 5) (h1 : 1 ≤ b) (h2 : b ≤ m) (hi : 6 < fs.length) : xR none 0 M_Planner_init 20 [some (.ref b), none] [] (tH m n (UU T b (.inr (4, fs)))) = xR none 0 M_Planner_init 27 [some (.ref b), none] [] (tH (m + 1) (n + 5) (UU T b (.inr (4, fs.set 6 (.ref (m + 1)))))) := by
  rw [e_Planner_init_20, e_Planner_init_21, e_Planner_init_22]
  exact ap_gen (k := 5) (i := 6) (by omega) hT h1 h2 hi (fun h => e_Planner_init_24 _ _ _ _ _ _)
theorem s_Planner_init_27 {T : Nat → xE} {b m n : Nat} {fs : List Value} (hT : T (m + 1) = cI 0 256) (h1 : 1 ≤ b) (h2 : b ≤ m) (hi : 9 < fs.length) : xR none 0 M_Planner_init 27 [some (.ref b), none] [] (tH m n (UU T b (.inr (4, fs)))) = xR none 0 M_Planner_init 36 [some (.ref b), none] [] (tH (m + 1) (n + 256) (UU T b (.inr (4, fs.set 9 (.ref (m + 1)))))) := by
  rw [e_Planner_init_27, e_Planner_init_28, e_Planner_init_31]
  exact ap_gen (k := 256) (i := 9) (by omega) hT h1 h2 hi (fun h => e_Planner_init_33 _ _ _ _ _ _)
theorem s_Planner_init_36 {T : Nat → xE} {b m n : Nat} {fs : List Value} (hT : T (m + 1) = cI 0 4) (h1 : 1 ≤ b) (h2 : b ≤ m) (hi : 10 < fs.length) : xR none 0 M_Planner_init 36 [some (.ref b), none] [] (tH m n (UU T b (.inr (4, fs)))) = xR none 0 M_Planner_init 43 [some (.ref b), none] [] (tH (m + 1) (n + 4) (UU T b (.inr (4, fs.set 10 (.ref (m + 1)))))) := by
  rw [e_Planner_init_36, e_Planner_init_37, e_Planner_init_38]
  exact ap_gen (k := 4) (i := 10) (by omega) hT h1 h2 hi (fun h => e_Planner_init_40 _ _ _ _ _ _)
theorem s_Planner_init_43 {T : Nat → xE} {b m n : Nat} {fs : List Value} (hT : T (m + 1) = cI 0 64) (h1 : 1 ≤ b) (h2 : b ≤ m) (hi : 11 < fs.length) : xR none 0 M_Planner_init 43 [some (.ref b), none] [] (tH m n (UU T b (.inr (4, fs)))) = xR none 0 M_Planner_init 51 [some (.ref b), none] [] (tH (m + 1) (n + 64) (UU T b (.inr (4, fs.set 11 (.ref (m + 1)))))) := by
  rw [e_Planner_init_43, e_Planner_init_44, e_Planner_init_46]
  exact ap_gen (k := 64) (i := 11) (by omega) hT h1 h2 hi (fun h => e_Planner_init_48 _ _ _ _ _ _)
theorem s_Planner_init_51 {T : Nat → xE} {b m n : Nat} {fs : List Value} (hT : T (m + 1) = cI 0 24) (h1 : 1 ≤ b) (h2 : b ≤ m) (hi : 12 < fs.length) : xR none 0 M_Planner_init 51 [some (.ref b), none] [] (tH m n (UU T b (.inr (4, fs)))) = xR none 0 M_Planner_init 59 [some (.ref b), none] [] (tH (m + 1) (n + 24) (UU T b (.inr (4, fs.set 12 (.ref (m + 1)))))) := by
  rw [e_Planner_init_51, e_Planner_init_52, e_Planner_init_54]
  exact ap_gen (k := 24) (i := 12) (by omega) hT h1 h2 hi (fun h => e_Planner_init_56 _ _ _ _ _ _)
theorem s_Planner_init_59 {T : Nat → xE} {b m n : Nat} {fs : List Value} (hT : T (m + 1) = cI 0 8192) (h1 : 1 ≤ b) (h2 : b ≤ m) (hi : 13 < fs.length) : xR none 0 M_Planner_init 59 [some (.ref b), none] [] (tH m n (UU T b (.inr (4, fs)))) = xR none 0 M_Planner_init 68 [some (.ref b), none] [] (tH (m + 1) (n + 8192) (UU T b (.inr (4, fs.set 13 (.ref (m + 1)))))) := by
  rw [e_Planner_init_59, e_Planner_init_60, e_Planner_init_63]
  exact ap_gen (k := 8192) (i := 13) (by omega) hT h1 h2 hi (fun h => e_Planner_init_65 _ _ _ _ _ _)
theorem s_Planner_init_68 {T : Nat → xE} {b m n : Nat} {fs : List Value} (hT : T (m + 1) = cI 0 8) (h1 : 1 ≤ b) (h2 : b ≤ m) (hi : 14 < fs.length) : xR none 0 M_Planner_init 68 [some (.ref b), none] [] (tH m n (UU T b (.inr (4, fs)))) = xR none 0 M_Planner_init 76 [some (.ref b), none] [] (tH (m + 1) (n + 8) (UU T b (.inr (4, fs.set 14 (.ref (m + 1)))))) := by
  rw [e_Planner_init_68, e_Planner_init_69, e_Planner_init_71]
  exact ap_gen (k := 8) (i := 14) (by omega) hT h1 h2 hi (fun h => e_Planner_init_73 _ _ _ _ _ _)
theorem s_Village_init_82 {T : Nat → xE} {b m n : Nat} {fs : List Value} (h1 : 1 ≤ b) (h2 : b ≤ m) (hi : 0 < fs.length) : xR none 0 M_Village_init 82 [some (.ref b)] [] (tH m n (UU T b (.inr (7, fs)))) = xR none 0 M_Village_init 87 [some (.ref b)] [] (tH m n (UU T b (.inr (7, fs.set 0 (.int 0))))) := by
  rw [e_Village_init_82, e_Village_init_83, e_Village_init_84, tH_put (UU_same _ _ _) h1 h2 hi, UU_UU]
theorem s_Village_init_87 {T : Nat → xE} {b m n : Nat} {fs : List Value} (h1 : 1 ≤ b) (h2 : b ≤ m) (hi : 1 < fs.length) : xR none 0 M_Village_init 87 [some (.ref b)] [] (tH m n (UU T b (.inr (7, fs)))) = xR none 0 M_Village_init 92 [some (.ref b)] [] (tH m n (UU T b (.inr (7, fs.set 1 (.int 1))))) := by
  rw [e_Village_init_87, e_Village_init_88, e_Village_init_89, tH_put (UU_same _ _ _) h1 h2 hi, UU_UU]
theorem s_Md_init_175 {T : Nat → xE} {b m n : Nat} {fs : List Value} (h1 : 1 ≤ b) (h2 : b ≤ m) (hi : 17 < fs.length) : xR none 0 M_Md_init 175 [some (.ref b)] [] (tH m n (UU T b (.inr (9, fs)))) = xR none 0 M_Md_init 180 [some (.ref b)] [] (tH m n (UU T b (.inr (9, fs.set 17 (.int 1))))) := by
  rw [e_Md_init_175, e_Md_init_176, e_Md_init_177, tH_put (UU_same _ _ _) h1 h2 hi, UU_UU]
theorem i_Village {T : Nat → xE} {b n : Nat} (h1 : 1 ≤ b) (t1 : T (b + 1) = cI 0 5) (t2 : T (b + 2) = cI 0 5) (t3 : T (b + 3) = cI 0 6) (t4 : T (b + 4) = cI 0 6) (t5 : T (b + 5) = cI 0 6) (t6 : T (b + 6) = cI 0 6) (t7 : T (b + 7) = cI 0 6) (t8 : T (b + 8) = cI 0 8) (t9 : T (b + 9) = cI 0 8) (t10 : T (b + 10) = cI 0 8) : xC M_Village_init [.ref b] (tH b n (UU T b (.inr (7, xbl 7)))) = some (none, tH (b + 10) (n + 64) (UU T b (.inr (7, [.int 0, .int 1, .int 0, .int 0, .int 0, .int 0, .ref (b + 1), .ref (b + 2), .ref (b + 3), .ref (b + 4), .ref (b + 5), .ref (b + 6), .ref (b + 7), .ref (b + 8), .ref (b + 9), .ref (b + 10)])))) := by
  rw [k_Village_init, xbl_7, e_Village_init_0, e_Village_init_1]
  refine (s_Village_init_4 (m := b + 0) (n := n + 0) (fs := [.int 0, .int 0, .int 0, .int 0, .int 0, .int 0, .null, .null, .null, .null, .null, .null, .null, .null, .null, .null]) t1 h1 (by omega) (Nat.le_of_ble_eq_true rfl)).trans ?_
  refine (s_Village_init_11 (m := b + 1) (n := n + 5) (fs := [.int 0, .int 0, .int 0, .int 0, .int 0, .int 0, .ref (b + 1), .null, .null, .null, .null, .null, .null, .null, .null, .null]) t2 h1 (by omega) (Nat.le_of_ble_eq_true rfl)).trans ?_
  refine (s_Village_init_18 (m := b + 2) (n := n + 10) (fs := [.int 0, .int 0, .int 0, .int 0, .int 0, .int 0, .ref (b + 1), .ref (b + 2), .null, .null, .null, .null, .null, .null, .null, .null]) t3 h1 (by omega) (Nat.le_of_ble_eq_true rfl)).trans ?_
  refine (s_Village_init_26 (m := b + 3) (n := n + 16) (fs := [.int 0, .int 0, .int 0, .int 0, .int 0, .int 0, .ref (b + 1), .ref (b + 2), .ref (b + 3), .null, .null, .null, .null, .null, .null, .null]) t4 h1 (by omega) (Nat.le_of_ble_eq_true rfl)).trans ?_
  refine (s_Village_init_34 (m := b + 4) (n := n + 22) (fs := [.int 0, .int 0, .int 0, .int 0, .int 0, .int 0, .ref (b + 1), .ref (b + 2), .ref (b + 3), .ref (b + 4), .null, .null, .null, .null, .null, .null]) t5 h1 (by omega) (Nat.le_of_ble_eq_true rfl)).trans ?_
  refine (s_Village_init_42 (m := b + 5) (n := n + 28) (fs := [.int 0, .int 0, .int 0, .int 0, .int 0, .int 0, .ref (b + 1), .ref (b + 2), .ref (b + 3), .ref (b + 4), .ref (b + 5), .null, .null, .null, .null, .null]) t6 h1 (by omega) (Nat.le_of_ble_eq_true rfl)).trans ?_
  refine (s_Village_init_50 (m := b + 6) (n := n + 34) (fs := [.int 0, .int 0, .int 0, .int 0, .int 0, .int 0, .ref (b + 1), .ref (b + 2), .ref (b + 3), .ref (b + 4), .ref (b + 5), .ref (b + 6), .null, .null, .null, .null]) t7 h1 (by omega) (Nat.le_of_ble_eq_true rfl)).trans ?_
  refine (s_Village_init_58 (m := b + 7) (n := n + 40) (fs := [.int 0, .int 0, .int 0, .int 0, .int 0, .int 0, .ref (b + 1), .ref (b + 2), .ref (b + 3), .ref (b + 4), .ref (b + 5), .ref (b + 6), .ref (b + 7), .null, .null, .null]) t8 h1 (by omega) (Nat.le_of_ble_eq_true rfl)).trans ?_
  refine (s_Village_init_66 (m := b + 8) (n := n + 48) (fs := [.int 0, .int 0, .int 0, .int 0, .int 0, .int 0, .ref (b + 1), .ref (b + 2), .ref (b + 3), .ref (b + 4), .ref (b + 5), .ref (b + 6), .ref (b + 7), .ref (b + 8), .null, .null]) t9 h1 (by omega) (Nat.le_of_ble_eq_true rfl)).trans ?_
  refine (s_Village_init_74 (m := b + 9) (n := n + 56) (fs := [.int 0, .int 0, .int 0, .int 0, .int 0, .int 0, .ref (b + 1), .ref (b + 2), .ref (b + 3), .ref (b + 4), .ref (b + 5), .ref (b + 6), .ref (b + 7), .ref (b + 8), .ref (b + 9), .null]) t10 h1 (by omega) (Nat.le_of_ble_eq_true rfl)).trans ?_
  refine (s_Village_init_82 (m := b + 10) (n := n + 64) (fs := [.int 0, .int 0, .int 0, .int 0, .int 0, .int 0, .ref (b + 1), .ref (b + 2), .ref (b + 3), .ref (b + 4), .ref (b + 5), .ref (b + 6), .ref (b + 7), .ref (b + 8), .ref (b + 9), .ref (b + 10)]) h1 (by omega) (Nat.le_of_ble_eq_true rfl)).trans ?_
  refine (s_Village_init_87 (m := b + 10) (n := n + 64) (fs := [.int 0, .int 0, .int 0, .int 0, .int 0, .int 0, .ref (b + 1), .ref (b + 2), .ref (b + 3), .ref (b + 4), .ref (b + 5), .ref (b + 6), .ref (b + 7), .ref (b + 8), .ref (b + 9), .ref (b + 10)]) h1 (by omega) (Nat.le_of_ble_eq_true rfl)).trans ?_
  rw [e_Village_init_92]
  rfl
theorem i_Kept {T : Nat → xE} {b n : Nat} (h1 : 1 ≤ b) (t1 : T (b + 1) = cI 0 5) (t2 : T (b + 2) = cI 0 6) (t3 : T (b + 3) = cI 0 6) (t4 : T (b + 4) = cI 0 6) : xC M_Kept_init [.ref b] (tH b n (UU T b (.inr (3, xbl 3)))) = some (none, tH (b + 4) (n + 23) (UU T b (.inr (3, [.int 0, .int 0, .ref (b + 1), .ref (b + 2), .ref (b + 3), .ref (b + 4)])))) := by
  rw [k_Kept_init, xbl_3, e_Kept_init_0, e_Kept_init_1]
  refine (s_Kept_init_4 (m := b + 0) (n := n + 0) (fs := [.int 0, .int 0, .null, .null, .null, .null]) t1 h1 (by omega) (Nat.le_of_ble_eq_true rfl)).trans ?_
  refine (s_Kept_init_11 (m := b + 1) (n := n + 5) (fs := [.int 0, .int 0, .ref (b + 1), .null, .null, .null]) t2 h1 (by omega) (Nat.le_of_ble_eq_true rfl)).trans ?_
  refine (s_Kept_init_19 (m := b + 2) (n := n + 11) (fs := [.int 0, .int 0, .ref (b + 1), .ref (b + 2), .null, .null]) t3 h1 (by omega) (Nat.le_of_ble_eq_true rfl)).trans ?_
  refine (s_Kept_init_27 (m := b + 3) (n := n + 17) (fs := [.int 0, .int 0, .ref (b + 1), .ref (b + 2), .ref (b + 3), .null]) t4 h1 (by omega) (Nat.le_of_ble_eq_true rfl)).trans ?_
  rw [e_Kept_init_35]
  rfl
theorem i_Sight {T : Nat → xE} {b n : Nat} (h1 : 1 ≤ b) (t1 : T (b + 1) = cI 0 6) (t2 : T (b + 2) = cI 0 6) (t3 : T (b + 3) = cI 2 6) (t4 : T (b + 4) = cI 0 5) (t5 : T (b + 5) = cI 0 5) : xC M_Sight_init [.ref b] (tH b n (UU T b (.inr (6, xbl 6)))) = some (none, tH (b + 5) (n + 28) (UU T b (.inr (6, [.int 0, .ref (b + 1), .ref (b + 2), .ref (b + 3), .ref (b + 4), .ref (b + 5)])))) := by
  rw [k_Sight_init, xbl_6, e_Sight_init_0, e_Sight_init_1]
  refine (s_Sight_init_4 (m := b + 0) (n := n + 0) (fs := [.int 0, .null, .null, .null, .null, .null]) t1 h1 (by omega) (Nat.le_of_ble_eq_true rfl)).trans ?_
  refine (s_Sight_init_12 (m := b + 1) (n := n + 6) (fs := [.int 0, .ref (b + 1), .null, .null, .null, .null]) t2 h1 (by omega) (Nat.le_of_ble_eq_true rfl)).trans ?_
  refine (s_Sight_init_20 (m := b + 2) (n := n + 12) (fs := [.int 0, .ref (b + 1), .ref (b + 2), .null, .null, .null]) t3 h1 (by omega) (Nat.le_of_ble_eq_true rfl)).trans ?_
  refine (s_Sight_init_28 (m := b + 3) (n := n + 18) (fs := [.int 0, .ref (b + 1), .ref (b + 2), .ref (b + 3), .null, .null]) t4 h1 (by omega) (Nat.le_of_ble_eq_true rfl)).trans ?_
  refine (s_Sight_init_35 (m := b + 4) (n := n + 23) (fs := [.int 0, .ref (b + 1), .ref (b + 2), .ref (b + 3), .ref (b + 4), .null]) t5 h1 (by omega) (Nat.le_of_ble_eq_true rfl)).trans ?_
  rw [e_Sight_init_42]
  rfl
theorem i_Md {T : Nat → xE} {b n : Nat} (h1 : 1 ≤ b) (t1 : T (b + 1) = cI 0 5) (t2 : T (b + 2) = cI 0 5) (t3 : T (b + 3) = cI 0 18) (t4 : T (b + 4) = cI 0 24) (t5 : T (b + 5) = cI 0 5) (t6 : T (b + 6) = cI 0 6) (t7 : T (b + 7) = cI 0 6) (t8 : T (b + 8) = cI 0 24) (t9 : T (b + 9) = cI 0 24) (t10 : T (b + 10) = cI 0 90) (t11 : T (b + 11) = cI 0 384) (t12 : T (b + 12) = cI 0 8) (t13 : T (b + 13) = cI 0 9) (t14 : T (b + 14) = cI 0 8) (t15 : T (b + 15) = cI 0 6) (t16 : T (b + 16) = cI 0 6) (t17 : T (b + 17) = cI 0 6) (t18 : T (b + 18) = cI 2 6) (t19 : T (b + 19) = cI 0 5) (t20 : T (b + 20) = cI 0 5) (t21 : T (b + 21) = cI 2 2) (t22 : T (b + 22) = cI 0 48) : xC M_Md_init [.ref b] (tH b n (UU T b (.inr (9, xbl 9)))) = some (none, tH (b + 22) (n + 700) (UU T b (.inr (9, [.ref (b + 1), .ref (b + 2), .ref (b + 3), .ref (b + 4), .int 0, .int 0, .int 0, .int 0, .int 0, .ref (b + 5), .ref (b + 6), .ref (b + 7), .ref (b + 8), .int 0, .int 0, .int 0, .int 0, .int 1, .ref (b + 9), .ref (b + 10), .int 0, .int 0, .int 0, .int 0, .int 0, .ref (b + 11), .ref (b + 12), .int 0, .ref (b + 13), .ref (b + 14), .ref (b + 15), .int 0, .int 0, .ref (b + 16), .ref (b + 17), .ref (b + 18), .ref (b + 19), .ref (b + 20), .long 0, .ref (b + 21), .ref (b + 22)])))) := by
  rw [k_Md_init, xbl_9, e_Md_init_0, e_Md_init_1]
  refine (s_Md_init_4 (m := b + 0) (n := n + 0) (fs := [.null, .null, .null, .null, .int 0, .int 0, .int 0, .int 0, .int 0, .null, .null, .null, .null, .int 0, .int 0, .int 0, .int 0, .int 0, .null, .null, .int 0, .int 0, .int 0, .int 0, .int 0, .null, .null, .int 0, .null, .null, .null, .int 0, .int 0, .null, .null, .null, .null, .null, .long 0, .null, .null]) t1 h1 (by omega) (Nat.le_of_ble_eq_true rfl)).trans ?_
  refine (s_Md_init_11 (m := b + 1) (n := n + 5) (fs := [.ref (b + 1), .null, .null, .null, .int 0, .int 0, .int 0, .int 0, .int 0, .null, .null, .null, .null, .int 0, .int 0, .int 0, .int 0, .int 0, .null, .null, .int 0, .int 0, .int 0, .int 0, .int 0, .null, .null, .int 0, .null, .null, .null, .int 0, .int 0, .null, .null, .null, .null, .null, .long 0, .null, .null]) t2 h1 (by omega) (Nat.le_of_ble_eq_true rfl)).trans ?_
  refine (s_Md_init_18 (m := b + 2) (n := n + 10) (fs := [.ref (b + 1), .ref (b + 2), .null, .null, .int 0, .int 0, .int 0, .int 0, .int 0, .null, .null, .null, .null, .int 0, .int 0, .int 0, .int 0, .int 0, .null, .null, .int 0, .int 0, .int 0, .int 0, .int 0, .null, .null, .int 0, .null, .null, .null, .int 0, .int 0, .null, .null, .null, .null, .null, .long 0, .null, .null]) t3 h1 (by omega) (Nat.le_of_ble_eq_true rfl)).trans ?_
  refine (s_Md_init_26 (m := b + 3) (n := n + 28) (fs := [.ref (b + 1), .ref (b + 2), .ref (b + 3), .null, .int 0, .int 0, .int 0, .int 0, .int 0, .null, .null, .null, .null, .int 0, .int 0, .int 0, .int 0, .int 0, .null, .null, .int 0, .int 0, .int 0, .int 0, .int 0, .null, .null, .int 0, .null, .null, .null, .int 0, .int 0, .null, .null, .null, .null, .null, .long 0, .null, .null]) t4 h1 (by omega) (Nat.le_of_ble_eq_true rfl)).trans ?_
  refine (s_Md_init_34 (m := b + 4) (n := n + 52) (fs := [.ref (b + 1), .ref (b + 2), .ref (b + 3), .ref (b + 4), .int 0, .int 0, .int 0, .int 0, .int 0, .null, .null, .null, .null, .int 0, .int 0, .int 0, .int 0, .int 0, .null, .null, .int 0, .int 0, .int 0, .int 0, .int 0, .null, .null, .int 0, .null, .null, .null, .int 0, .int 0, .null, .null, .null, .null, .null, .long 0, .null, .null]) t5 h1 (by omega) (Nat.le_of_ble_eq_true rfl)).trans ?_
  refine (s_Md_init_41 (m := b + 5) (n := n + 57) (fs := [.ref (b + 1), .ref (b + 2), .ref (b + 3), .ref (b + 4), .int 0, .int 0, .int 0, .int 0, .int 0, .ref (b + 5), .null, .null, .null, .int 0, .int 0, .int 0, .int 0, .int 0, .null, .null, .int 0, .int 0, .int 0, .int 0, .int 0, .null, .null, .int 0, .null, .null, .null, .int 0, .int 0, .null, .null, .null, .null, .null, .long 0, .null, .null]) t6 h1 (by omega) (Nat.le_of_ble_eq_true rfl)).trans ?_
  refine (s_Md_init_49 (m := b + 6) (n := n + 63) (fs := [.ref (b + 1), .ref (b + 2), .ref (b + 3), .ref (b + 4), .int 0, .int 0, .int 0, .int 0, .int 0, .ref (b + 5), .ref (b + 6), .null, .null, .int 0, .int 0, .int 0, .int 0, .int 0, .null, .null, .int 0, .int 0, .int 0, .int 0, .int 0, .null, .null, .int 0, .null, .null, .null, .int 0, .int 0, .null, .null, .null, .null, .null, .long 0, .null, .null]) t7 h1 (by omega) (Nat.le_of_ble_eq_true rfl)).trans ?_
  refine (s_Md_init_57 (m := b + 7) (n := n + 69) (fs := [.ref (b + 1), .ref (b + 2), .ref (b + 3), .ref (b + 4), .int 0, .int 0, .int 0, .int 0, .int 0, .ref (b + 5), .ref (b + 6), .ref (b + 7), .null, .int 0, .int 0, .int 0, .int 0, .int 0, .null, .null, .int 0, .int 0, .int 0, .int 0, .int 0, .null, .null, .int 0, .null, .null, .null, .int 0, .int 0, .null, .null, .null, .null, .null, .long 0, .null, .null]) t8 h1 (by omega) (Nat.le_of_ble_eq_true rfl)).trans ?_
  refine (s_Md_init_65 (m := b + 8) (n := n + 93) (fs := [.ref (b + 1), .ref (b + 2), .ref (b + 3), .ref (b + 4), .int 0, .int 0, .int 0, .int 0, .int 0, .ref (b + 5), .ref (b + 6), .ref (b + 7), .ref (b + 8), .int 0, .int 0, .int 0, .int 0, .int 0, .null, .null, .int 0, .int 0, .int 0, .int 0, .int 0, .null, .null, .int 0, .null, .null, .null, .int 0, .int 0, .null, .null, .null, .null, .null, .long 0, .null, .null]) t9 h1 (by omega) (Nat.le_of_ble_eq_true rfl)).trans ?_
  refine (s_Md_init_73 (m := b + 9) (n := n + 117) (fs := [.ref (b + 1), .ref (b + 2), .ref (b + 3), .ref (b + 4), .int 0, .int 0, .int 0, .int 0, .int 0, .ref (b + 5), .ref (b + 6), .ref (b + 7), .ref (b + 8), .int 0, .int 0, .int 0, .int 0, .int 0, .ref (b + 9), .null, .int 0, .int 0, .int 0, .int 0, .int 0, .null, .null, .int 0, .null, .null, .null, .int 0, .int 0, .null, .null, .null, .null, .null, .long 0, .null, .null]) t10 h1 (by omega) (Nat.le_of_ble_eq_true rfl)).trans ?_
  refine (s_Md_init_81 (m := b + 10) (n := n + 207) (fs := [.ref (b + 1), .ref (b + 2), .ref (b + 3), .ref (b + 4), .int 0, .int 0, .int 0, .int 0, .int 0, .ref (b + 5), .ref (b + 6), .ref (b + 7), .ref (b + 8), .int 0, .int 0, .int 0, .int 0, .int 0, .ref (b + 9), .ref (b + 10), .int 0, .int 0, .int 0, .int 0, .int 0, .null, .null, .int 0, .null, .null, .null, .int 0, .int 0, .null, .null, .null, .null, .null, .long 0, .null, .null]) t11 h1 (by omega) (Nat.le_of_ble_eq_true rfl)).trans ?_
  refine (s_Md_init_90 (m := b + 11) (n := n + 591) (fs := [.ref (b + 1), .ref (b + 2), .ref (b + 3), .ref (b + 4), .int 0, .int 0, .int 0, .int 0, .int 0, .ref (b + 5), .ref (b + 6), .ref (b + 7), .ref (b + 8), .int 0, .int 0, .int 0, .int 0, .int 0, .ref (b + 9), .ref (b + 10), .int 0, .int 0, .int 0, .int 0, .int 0, .ref (b + 11), .null, .int 0, .null, .null, .null, .int 0, .int 0, .null, .null, .null, .null, .null, .long 0, .null, .null]) t12 h1 (by omega) (Nat.le_of_ble_eq_true rfl)).trans ?_
  refine (s_Md_init_98 (m := b + 12) (n := n + 599) (fs := [.ref (b + 1), .ref (b + 2), .ref (b + 3), .ref (b + 4), .int 0, .int 0, .int 0, .int 0, .int 0, .ref (b + 5), .ref (b + 6), .ref (b + 7), .ref (b + 8), .int 0, .int 0, .int 0, .int 0, .int 0, .ref (b + 9), .ref (b + 10), .int 0, .int 0, .int 0, .int 0, .int 0, .ref (b + 11), .ref (b + 12), .int 0, .null, .null, .null, .int 0, .int 0, .null, .null, .null, .null, .null, .long 0, .null, .null]) t13 h1 (by omega) (Nat.le_of_ble_eq_true rfl)).trans ?_
  refine (s_Md_init_106 (m := b + 13) (n := n + 608) (fs := [.ref (b + 1), .ref (b + 2), .ref (b + 3), .ref (b + 4), .int 0, .int 0, .int 0, .int 0, .int 0, .ref (b + 5), .ref (b + 6), .ref (b + 7), .ref (b + 8), .int 0, .int 0, .int 0, .int 0, .int 0, .ref (b + 9), .ref (b + 10), .int 0, .int 0, .int 0, .int 0, .int 0, .ref (b + 11), .ref (b + 12), .int 0, .ref (b + 13), .null, .null, .int 0, .int 0, .null, .null, .null, .null, .null, .long 0, .null, .null]) t14 h1 (by omega) (Nat.le_of_ble_eq_true rfl)).trans ?_
  refine (s_Md_init_114 (m := b + 14) (n := n + 616) (fs := [.ref (b + 1), .ref (b + 2), .ref (b + 3), .ref (b + 4), .int 0, .int 0, .int 0, .int 0, .int 0, .ref (b + 5), .ref (b + 6), .ref (b + 7), .ref (b + 8), .int 0, .int 0, .int 0, .int 0, .int 0, .ref (b + 9), .ref (b + 10), .int 0, .int 0, .int 0, .int 0, .int 0, .ref (b + 11), .ref (b + 12), .int 0, .ref (b + 13), .ref (b + 14), .null, .int 0, .int 0, .null, .null, .null, .null, .null, .long 0, .null, .null]) t15 h1 (by omega) (Nat.le_of_ble_eq_true rfl)).trans ?_
  refine (s_Md_init_122 (m := b + 15) (n := n + 622) (fs := [.ref (b + 1), .ref (b + 2), .ref (b + 3), .ref (b + 4), .int 0, .int 0, .int 0, .int 0, .int 0, .ref (b + 5), .ref (b + 6), .ref (b + 7), .ref (b + 8), .int 0, .int 0, .int 0, .int 0, .int 0, .ref (b + 9), .ref (b + 10), .int 0, .int 0, .int 0, .int 0, .int 0, .ref (b + 11), .ref (b + 12), .int 0, .ref (b + 13), .ref (b + 14), .ref (b + 15), .int 0, .int 0, .null, .null, .null, .null, .null, .long 0, .null, .null]) t16 h1 (by omega) (Nat.le_of_ble_eq_true rfl)).trans ?_
  refine (s_Md_init_130 (m := b + 16) (n := n + 628) (fs := [.ref (b + 1), .ref (b + 2), .ref (b + 3), .ref (b + 4), .int 0, .int 0, .int 0, .int 0, .int 0, .ref (b + 5), .ref (b + 6), .ref (b + 7), .ref (b + 8), .int 0, .int 0, .int 0, .int 0, .int 0, .ref (b + 9), .ref (b + 10), .int 0, .int 0, .int 0, .int 0, .int 0, .ref (b + 11), .ref (b + 12), .int 0, .ref (b + 13), .ref (b + 14), .ref (b + 15), .int 0, .int 0, .ref (b + 16), .null, .null, .null, .null, .long 0, .null, .null]) t17 h1 (by omega) (Nat.le_of_ble_eq_true rfl)).trans ?_
  refine (s_Md_init_138 (m := b + 17) (n := n + 634) (fs := [.ref (b + 1), .ref (b + 2), .ref (b + 3), .ref (b + 4), .int 0, .int 0, .int 0, .int 0, .int 0, .ref (b + 5), .ref (b + 6), .ref (b + 7), .ref (b + 8), .int 0, .int 0, .int 0, .int 0, .int 0, .ref (b + 9), .ref (b + 10), .int 0, .int 0, .int 0, .int 0, .int 0, .ref (b + 11), .ref (b + 12), .int 0, .ref (b + 13), .ref (b + 14), .ref (b + 15), .int 0, .int 0, .ref (b + 16), .ref (b + 17), .null, .null, .null, .long 0, .null, .null]) t18 h1 (by omega) (Nat.le_of_ble_eq_true rfl)).trans ?_
  refine (s_Md_init_146 (m := b + 18) (n := n + 640) (fs := [.ref (b + 1), .ref (b + 2), .ref (b + 3), .ref (b + 4), .int 0, .int 0, .int 0, .int 0, .int 0, .ref (b + 5), .ref (b + 6), .ref (b + 7), .ref (b + 8), .int 0, .int 0, .int 0, .int 0, .int 0, .ref (b + 9), .ref (b + 10), .int 0, .int 0, .int 0, .int 0, .int 0, .ref (b + 11), .ref (b + 12), .int 0, .ref (b + 13), .ref (b + 14), .ref (b + 15), .int 0, .int 0, .ref (b + 16), .ref (b + 17), .ref (b + 18), .null, .null, .long 0, .null, .null]) t19 h1 (by omega) (Nat.le_of_ble_eq_true rfl)).trans ?_
  refine (s_Md_init_153 (m := b + 19) (n := n + 645) (fs := [.ref (b + 1), .ref (b + 2), .ref (b + 3), .ref (b + 4), .int 0, .int 0, .int 0, .int 0, .int 0, .ref (b + 5), .ref (b + 6), .ref (b + 7), .ref (b + 8), .int 0, .int 0, .int 0, .int 0, .int 0, .ref (b + 9), .ref (b + 10), .int 0, .int 0, .int 0, .int 0, .int 0, .ref (b + 11), .ref (b + 12), .int 0, .ref (b + 13), .ref (b + 14), .ref (b + 15), .int 0, .int 0, .ref (b + 16), .ref (b + 17), .ref (b + 18), .ref (b + 19), .null, .long 0, .null, .null]) t20 h1 (by omega) (Nat.le_of_ble_eq_true rfl)).trans ?_
  refine (s_Md_init_160 (m := b + 20) (n := n + 650) (fs := [.ref (b + 1), .ref (b + 2), .ref (b + 3), .ref (b + 4), .int 0, .int 0, .int 0, .int 0, .int 0, .ref (b + 5), .ref (b + 6), .ref (b + 7), .ref (b + 8), .int 0, .int 0, .int 0, .int 0, .int 0, .ref (b + 9), .ref (b + 10), .int 0, .int 0, .int 0, .int 0, .int 0, .ref (b + 11), .ref (b + 12), .int 0, .ref (b + 13), .ref (b + 14), .ref (b + 15), .int 0, .int 0, .ref (b + 16), .ref (b + 17), .ref (b + 18), .ref (b + 19), .ref (b + 20), .long 0, .null, .null]) t21 h1 (by omega) (Nat.le_of_ble_eq_true rfl)).trans ?_
  refine (s_Md_init_167 (m := b + 21) (n := n + 652) (fs := [.ref (b + 1), .ref (b + 2), .ref (b + 3), .ref (b + 4), .int 0, .int 0, .int 0, .int 0, .int 0, .ref (b + 5), .ref (b + 6), .ref (b + 7), .ref (b + 8), .int 0, .int 0, .int 0, .int 0, .int 0, .ref (b + 9), .ref (b + 10), .int 0, .int 0, .int 0, .int 0, .int 0, .ref (b + 11), .ref (b + 12), .int 0, .ref (b + 13), .ref (b + 14), .ref (b + 15), .int 0, .int 0, .ref (b + 16), .ref (b + 17), .ref (b + 18), .ref (b + 19), .ref (b + 20), .long 0, .ref (b + 21), .null]) t22 h1 (by omega) (Nat.le_of_ble_eq_true rfl)).trans ?_
  refine (s_Md_init_175 (m := b + 22) (n := n + 700) (fs := [.ref (b + 1), .ref (b + 2), .ref (b + 3), .ref (b + 4), .int 0, .int 0, .int 0, .int 0, .int 0, .ref (b + 5), .ref (b + 6), .ref (b + 7), .ref (b + 8), .int 0, .int 0, .int 0, .int 0, .int 0, .ref (b + 9), .ref (b + 10), .int 0, .int 0, .int 0, .int 0, .int 0, .ref (b + 11), .ref (b + 12), .int 0, .ref (b + 13), .ref (b + 14), .ref (b + 15), .int 0, .int 0, .ref (b + 16), .ref (b + 17), .ref (b + 18), .ref (b + 19), .ref (b + 20), .long 0, .ref (b + 21), .ref (b + 22)]) h1 (by omega) (Nat.le_of_ble_eq_true rfl)).trans ?_
  rw [e_Md_init_180]
  rfl
