/-! The constructors, further. -/
theorem tH_cg {m n : Nat} {T T' : Nat → xE} (h : ∀ j, 1 ≤ j → j ≤ m → T j = T' j) : tH m n T = tH m n T' := by
  refine Prod.ext rfl (Prod.ext rfl ?_)
  funext j
  show (if j = 0 ∨ m < j then none else some (T j)) = if j = 0 ∨ m < j then none else some (T' j)
  by_cases w : j = 0 ∨ m < j
  · rw [if_pos w, if_pos w]
  · rw [if_neg w, if_neg w, h j (by omega) (by omega)]
theorem tH_get {m n : Nat} {T : Nat → xE} {a c k : Nat} {fs : List Value} {v : Value} {f : Value → xQ} (hT : T a = .inr (c, fs)) (h1 : 1 ≤ a) (h2 : a ≤ m) (hk : fs[k]? = some v) : rgt (tH m n T) a c k f = f v := by
  unfold rgt
  rw [tH_at h1 h2, hT]
  show (if c = c then (match fs[k]? with
    | some v => f v
    | none => none) else none) = _
  rw [if_pos rfl, hk]
theorem i_Act {a : Nat} {h : xH} : xC M_Act_init [.ref a] h = some (none, h) := by rw [k_Act_init, e_Act_init_0, e_Act_init_1, e_Act_init_4]
theorem i_Reader {a : Nat} {h : xH} : xC M_Reader_init [.ref a] h = some (none, h) := by rw [k_Reader_init, e_Reader_init_0, e_Reader_init_1, e_Reader_init_4]
theorem nl_9 {m n : Nat} {T : Nat → xE} {f : xH → xQ} (hT : T (m + 1) = cL) : rna (tH m n T) 1 9 f = f (tH (m + 1) (n + 9) T) := by
  unfold rna
  rw [if_neg (by decide)]
  exact congrArg f (tH_nx (k := 9) hT)
theorem i_Chances {T : Nat → xE} {b n : Nat} (h1 : 1 ≤ b) (t1 : T (b + 1) = cL) : xC M_Chances_init [.ref b] (tH b n (UU T b (.inr (2, xbl 2)))) = some (none, tH (b + 1) (n + 9) (UU T b (.inr (2, [.ref (b + 1)])))) := by
  rw [k_Chances_init, xbl_2, e_Chances_init_0, e_Chances_init_1, e_Chances_init_4, e_Chances_init_5, e_Chances_init_7, nl_9 (by rw [UU_ne (by omega)]; exact t1), e_Chances_init_9, tH_put (UU_same _ _ _) h1 (by omega) (Nat.le_of_ble_eq_true rfl), UU_UU, e_Chances_init_12]
  rfl
/-! the row of acts -/
def gaR (i : Nat) : Nat → Option Nat := fun j => if j < i then some (28 + j) else none
theorem gaR_s (i : Nat) : va_up (gaR i) i (some (28 + i)) = gaR (i + 1) := by
  funext j
  unfold va_up gaR
  by_cases w : j = i
  · rw [if_pos w, if_pos (by omega), w]
  · rw [if_neg w]
    by_cases u : j < i
    · rw [if_pos u, if_pos (by omega)]
    · rw [if_neg u, if_neg (by omega)]
theorem gaR_0 : gaR 0 = fun _ => none := by
  funext j
  unfold gaR
  rw [if_neg (by omega)]
theorem n3_16 {m n : Nat} {T : Nat → xE} {f : xH → xQ} : rna (tH m n T) 3 16 f = f (tH (m + 1) (n + 16) (UU T (m + 1) (rA (gaR 0)))) := by
  unfold rna
  rw [if_neg (by decide), gaR_0]
  exact congrArg f (tH_nw m n 16 T _)
theorem i_ActRow {T : Nat → xE} {n : Nat} (t : ∀ i, i < 16 → T (28 + i) = .inr (0, xbl 0)) : xC M_ActRow_init [.ref 26] (tH 26 n (UU T 26 (.inr (1, xbl 1)))) = some (none, tH 43 (n + 16 + 96) (UU (UU T 26 (.inr (1, [.ref 27, .int 0]))) 27 (rA (gaR 16)))) := by
  have key := loop_dn (t := 16) (P := fun i => xR none 1 M_ActRow_init 15 [some (.ref 26), some (.int (nI i))] [] (tH (27 + i) (n + 16 + 6 * i) (UU (UU T 26 (.inr (1, [.ref 27, .int 0]))) 27 (rA (gaR i)))) = some (none, tH 43 (n + 16 + 96) (UU (UU T 26 (.inr (1, [.ref 27, .int 0]))) 27 (rA (gaR 16))))) ?_ ?_ 0 (Nat.zero_le _)
  · rw [k_ActRow_init, xbl_1, e_ActRow_init_0, e_ActRow_init_1, e_ActRow_init_4, e_ActRow_init_5, e_ActRow_init_7, n3_16, e_ActRow_init_10, tH_put (c := 1) (fs := [.null, .int 0]) (by rw [UU_ne (by omega), UU_same]) (by omega) (by omega) (Nat.le_of_ble_eq_true rfl), ← UU_comm (by omega), UU_UU, e_ActRow_init_13, e_ActRow_init_14]
    exact key
  · rw [e_ActRow_init_15, e_ActRow_init_16, e_ActRow_init_17, tH_get (c := 1) (fs := [.ref 27, .int 0]) (v := .ref 27) (by rw [UU_ne (by omega), UU_same]) (by omega) (by omega) rfl, e_ActRow_init_20]
    have ln : ∀ f, rln (tH (27 + 16) (n + 16 + 6 * 16) (UU (UU T 26 (.inr (1, [.ref 27, .int 0]))) 27 (rA (gaR 16)))) 27 f = f (nI 16) := fun f => by
      unfold rln
      rw [if_neg (by omega), tH_at (by omega) (by omega), UU_same]
      rfl
    rw [ln, e_ActRow_init_21, if_pos (Int32.le_refl _), e_ActRow_init_43]
  · intro i hi ih
    have q1 : ¬ nI 16 ≤ nI i := nI_ge hi (by omega)
    have ln : ∀ f, rln (tH (27 + i) (n + 16 + 6 * i) (UU (UU T 26 (.inr (1, [.ref 27, .int 0]))) 27 (rA (gaR i)))) 27 f = f (nI 16) := fun f => by
      unfold rln
      rw [if_neg (by omega), tH_at (by omega) (by omega), UU_same]
      rfl
    have ca := fun (a : Nat) (h : xH) f => call_l (lv := 1) (i_Act (a := a) (h := h)) (Nat.le_of_ble_eq_true rfl) f
    have T28 : (UU (UU T 26 (.inr (1, [.ref 27, .int 0]))) 27 (rA (gaR i))) (27 + i + 1) = .inr (0, xbl 0) := by
      rw [UU_ne (by omega), UU_ne (by omega), show 27 + i + 1 = 28 + i by omega]
      exact t i hi
    rw [e_ActRow_init_15, e_ActRow_init_16, e_ActRow_init_17, tH_get (c := 1) (fs := [.ref 27, .int 0]) (v := .ref 27) (by rw [UU_ne (by omega), UU_same]) (by omega) (by omega) rfl, e_ActRow_init_20, ln, e_ActRow_init_21, if_neg q1, e_ActRow_init_24, e_ActRow_init_25, tH_get (c := 1) (fs := [.ref 27, .int 0]) (v := .ref 27) (by rw [UU_ne (by omega), UU_same]) (by omega) (by omega) rfl, e_ActRow_init_28, e_ActRow_init_29, tH_nx T28, e_ActRow_init_32, e_ActRow_init_33, ca]
    simp only [Option.toList_none, List.nil_append]
    rw [e_ActRow_init_36]
    have as : ∀ f, ras (tH (27 + i + 1) (n + 16 + 6 * i + 6) (UU (UU T 26 (.inr (1, [.ref 27, .int 0]))) 27 (rA (gaR i)))) 27 (nI i) (27 + i + 1) f = f (tH (27 + i + 1) (n + 16 + 6 * i + 6) (UU (UU T 26 (.inr (1, [.ref 27, .int 0]))) 27 (rA (gaR (i + 1))))) := fun f => by
      unfold ras
      rw [tH_at (by omega) (by omega), tH_at (by omega) (by omega), T28, UU_same]
      show (if ((3 = 3 ∧ 0 = 0) ∨ (3 = 4 ∧ 0 = 3)) ∧ xinB (nI i) 16 = true then f (xup _ 27 (rA (va_up (gaR i) (nI i).toNatClampNeg (some (27 + i + 1))))) else none) = _
      rw [if_pos ⟨Or.inl ⟨rfl, rfl⟩, xin_nI hi (by decide)⟩, nI_clamp (by omega), show 27 + i + 1 = 28 + i by omega, gaR_s, tH_up (by omega) (by omega), UU_UU]
    rw [tH_1, as, e_ActRow_init_37, e_ActRow_init_40, nI_1]
    have e1 : 27 + i + 1 = 27 + (i + 1) := by omega
    have e2 : n + 16 + 6 * i + 6 = n + 16 + 6 * (i + 1) := by omega
    rw [e1, e2]
    exact ih
/-! the tallies -/
theorem tg_1 : cI 0 64 = cT (tgR 1) := by
  have : tgR 1 = fun _ => 0 := by
    funext j
    unfold tgR
    by_cases w : j < 1
    · rw [if_pos w, show j = 0 by omega]
      rfl
    · rw [if_neg w]
  rw [this]
  rfl
theorem tg_s (k : Nat) : upd (tgR k) k (nI (tlN k)) = tgR (k + 1) := by
  funext j
  unfold upd tgR
  by_cases w : j = k
  · rw [if_pos w, if_pos (by omega), w]
  · rw [if_neg w]
    by_cases u : j < k
    · rw [if_pos u, if_pos (by omega)]
    · rw [if_neg u, if_neg (by omega)]
theorem tg_v : ∀ k, k < 64 → ((nI (tlN (k / 2))) <<< ((2 : Int32) &&& 31)) ||| (nI k &&& 1) = nI (tlN k) := by decide +kernel
theorem tg_h : ∀ k, k < 64 → nI k >>> ((1 : Int32) &&& 31) = nI (k / 2) := by decide +kernel
theorem s_Sp_init_4 {T : Nat → xE} {b m n : Nat} {fs : List Value} (hT : T (m + 1) = cI 0 90) (h1 : 1 ≤ b) (h2 : b ≤ m) (hi : 0 < fs.length) : xR none 2 M_Sp_init 4 [some (.ref b)] [] (tH m n (UU T b (.inr (8, fs)))) = xR none 2 M_Sp_init 12 [some (.ref b)] [] (tH (m + 1) (n + 90) (UU T b (.inr (8, fs.set 0 (.ref (m + 1)))))) := by
  rw [e_Sp_init_4, e_Sp_init_5, e_Sp_init_7]
  exact ap_gen (k := 90) (i := 0) (by omega) hT h1 h2 hi (fun h => e_Sp_init_9 _ _ _ _ _)
theorem s_Sp_init_100 {T : Nat → xE} {b m n : Nat} {fs : List Value} (hT : T (m + 1) = cI 0 10) (h1 : 1 ≤ b) (h2 : b ≤ m) (hi : 8 < fs.length) : xR none 2 M_Sp_init 100 [some (.ref b)] [] (tH m n (UU T b (.inr (8, fs)))) = xR none 2 M_Sp_init 108 [some (.ref b)] [] (tH (m + 1) (n + 10) (UU T b (.inr (8, fs.set 8 (.ref (m + 1)))))) := by
  rw [e_Sp_init_100, e_Sp_init_101, e_Sp_init_103]
  exact ap_gen (k := 10) (i := 8) (by omega) hT h1 h2 hi (fun h => e_Sp_init_105 _ _ _ _ _)
theorem s_Sp_init_130 {T : Nat → xE} {b m n : Nat} {fs : List Value} (hT : T (m + 1) = cI 0 6) (h1 : 1 ≤ b) (h2 : b ≤ m) (hi : 11 < fs.length) : xR none 2 M_Sp_init 130 [some (.ref b)] [] (tH m n (UU T b (.inr (8, fs)))) = xR none 2 M_Sp_init 138 [some (.ref b)] [] (tH (m + 1) (n + 6) (UU T b (.inr (8, fs.set 11 (.ref (m + 1)))))) := by
  rw [e_Sp_init_130, e_Sp_init_131, e_Sp_init_133]
  exact ap_gen (k := 6) (i := 11) (by omega) hT h1 h2 hi (fun h => e_Sp_init_135 _ _ _ _ _)
theorem i_Planner {T : Nat → xE} {n : Nat} (t1 : T 56 = cI 0 6) (t2 : T 57 = cI 0 8) (t3 : T 58 = cI 0 5) (t4 : T 59 = cI 0 256) (t5 : T 60 = cI 0 4) (t6 : T 61 = cI 0 64) (t7 : T 62 = cI 0 24) (t8 : T 63 = cI 0 8192) (t9 : T 64 = cI 0 8) : xC M_Planner_init [.ref 55] (tH 55 n (UU T 55 (.inr (4, xbl 4)))) = some (none, tH 64 (n + 8567) (UU (UU T 55 (.inr (4, [.null, .int 0, .int 0, .ref 56, .int 0, .ref 57, .ref 58, .int 0, .long 0, .ref 59, .ref 60, .ref 61, .ref 62, .ref 63, .ref 64, .int 0, .int 0]))) 61 (cT (tgR 64)))) := by
  have key := loop_dn (t := 64) (P := fun k => 1 ≤ k → xR none 0 M_Planner_init 78 [some (.ref 55), some (.int (nI k))] [] (tH 64 (n + 8567) (UU (UU T 55 (.inr (4, [.null, .int 0, .int 0, .ref 56, .int 0, .ref 57, .ref 58, .int 0, .long 0, .ref 59, .ref 60, .ref 61, .ref 62, .ref 63, .ref 64, .int 0, .int 0]))) 61 (cT (tgR k)))) = some (none, tH 64 (n + 8567) (UU (UU T 55 (.inr (4, [.null, .int 0, .int 0, .ref 56, .int 0, .ref 57, .ref 58, .int 0, .long 0, .ref 59, .ref 60, .ref 61, .ref 62, .ref 63, .ref 64, .int 0, .int 0]))) 61 (cT (tgR 64))))) ?_ ?_ 1 (by omega) (Nat.le_refl _)
  · rw [k_Planner_init, xbl_4, e_Planner_init_0, e_Planner_init_1]
    refine (s_Planner_init_4 (b := 55) (m := 55) (n := n + 0) (fs := [.null, .int 0, .int 0, .null, .int 0, .null, .null, .int 0, .long 0, .null, .null, .null, .null, .null, .null, .int 0, .int 0]) t1 (by omega) (by omega) (Nat.le_of_ble_eq_true rfl)).trans ?_
    rw [show n + 0 + 6 = n + 6 by omega]
    refine (s_Planner_init_12 (b := 55) (m := 56) (n := n + 6) (fs := [.null, .int 0, .int 0, .ref 56, .int 0, .null, .null, .int 0, .long 0, .null, .null, .null, .null, .null, .null, .int 0, .int 0]) t2 (by omega) (by omega) (Nat.le_of_ble_eq_true rfl)).trans ?_
    rw [show n + 6 + 8 = n + 14 by omega]
    refine (s_Planner_init_20 (b := 55) (m := 57) (n := n + 14) (fs := [.null, .int 0, .int 0, .ref 56, .int 0, .ref 57, .null, .int 0, .long 0, .null, .null, .null, .null, .null, .null, .int 0, .int 0]) t3 (by omega) (by omega) (Nat.le_of_ble_eq_true rfl)).trans ?_
    rw [show n + 14 + 5 = n + 19 by omega]
    refine (s_Planner_init_27 (b := 55) (m := 58) (n := n + 19) (fs := [.null, .int 0, .int 0, .ref 56, .int 0, .ref 57, .ref 58, .int 0, .long 0, .null, .null, .null, .null, .null, .null, .int 0, .int 0]) t4 (by omega) (by omega) (Nat.le_of_ble_eq_true rfl)).trans ?_
    rw [show n + 19 + 256 = n + 275 by omega]
    refine (s_Planner_init_36 (b := 55) (m := 59) (n := n + 275) (fs := [.null, .int 0, .int 0, .ref 56, .int 0, .ref 57, .ref 58, .int 0, .long 0, .ref 59, .null, .null, .null, .null, .null, .int 0, .int 0]) t5 (by omega) (by omega) (Nat.le_of_ble_eq_true rfl)).trans ?_
    rw [show n + 275 + 4 = n + 279 by omega]
    refine (s_Planner_init_43 (b := 55) (m := 60) (n := n + 279) (fs := [.null, .int 0, .int 0, .ref 56, .int 0, .ref 57, .ref 58, .int 0, .long 0, .ref 59, .ref 60, .null, .null, .null, .null, .int 0, .int 0]) t6 (by omega) (by omega) (Nat.le_of_ble_eq_true rfl)).trans ?_
    rw [show n + 279 + 64 = n + 343 by omega]
    refine (s_Planner_init_51 (b := 55) (m := 61) (n := n + 343) (fs := [.null, .int 0, .int 0, .ref 56, .int 0, .ref 57, .ref 58, .int 0, .long 0, .ref 59, .ref 60, .ref 61, .null, .null, .null, .int 0, .int 0]) t7 (by omega) (by omega) (Nat.le_of_ble_eq_true rfl)).trans ?_
    rw [show n + 343 + 24 = n + 367 by omega]
    refine (s_Planner_init_59 (b := 55) (m := 62) (n := n + 367) (fs := [.null, .int 0, .int 0, .ref 56, .int 0, .ref 57, .ref 58, .int 0, .long 0, .ref 59, .ref 60, .ref 61, .ref 62, .null, .null, .int 0, .int 0]) t8 (by omega) (by omega) (Nat.le_of_ble_eq_true rfl)).trans ?_
    rw [show n + 367 + 8192 = n + 8559 by omega]
    refine (s_Planner_init_68 (b := 55) (m := 63) (n := n + 8559) (fs := [.null, .int 0, .int 0, .ref 56, .int 0, .ref 57, .ref 58, .int 0, .long 0, .ref 59, .ref 60, .ref 61, .ref 62, .ref 63, .null, .int 0, .int 0]) t9 (by omega) (by omega) (Nat.le_of_ble_eq_true rfl)).trans ?_
    rw [show n + 8559 + 8 = n + 8567 by omega]
    rw [e_Planner_init_76, e_Planner_init_77]
    rw [UU_done (show UU T 55 (.inr (4, [.null, .int 0, .int 0, .ref 56, .int 0, .ref 57, .ref 58, .int 0, .long 0, .ref 59, .ref 60, .ref 61, .ref 62, .ref 63, .ref 64, .int 0, .int 0])) 61 = cT (tgR 1) from by rw [UU_ne (by omega), t6, tg_1])] at key
    exact key
  · intro _
    have z : (64 : Int32) ≤ nI 64 := Int32.le_refl _
    rw [e_Planner_init_78, e_Planner_init_79, e_Planner_init_81, if_pos z, e_Planner_init_110]
  · intro k hk ih h1
    have q1 : ¬ (64 : Int32) ≤ nI k := nI_ge (b := 64) hk (by omega)
    have g11 : ∀ f, rgt (tH 64 (n + 8567) (UU (UU T 55 (.inr (4, [.null, .int 0, .int 0, .ref 56, .int 0, .ref 57, .ref 58, .int 0, .long 0, .ref 59, .ref 60, .ref 61, .ref 62, .ref 63, .ref 64, .int 0, .int 0]))) 61 (cT (tgR k)))) 55 4 11 f = f (.ref 61) := fun f => tH_get (fs := [.null, .int 0, .int 0, .ref 56, .int 0, .ref 57, .ref 58, .int 0, .long 0, .ref 59, .ref 60, .ref 61, .ref 62, .ref 63, .ref 64, .int 0, .int 0]) (by rw [UU_ne (by omega), UU_same]) (by omega) (by omega) rfl
    have ld : ∀ f, ria (tH 64 (n + 8567) (UU (UU T 55 (.inr (4, [.null, .int 0, .int 0, .ref 56, .int 0, .ref 57, .ref 58, .int 0, .long 0, .ref 59, .ref 60, .ref 61, .ref 62, .ref 63, .ref 64, .int 0, .int 0]))) 61 (cT (tgR k)))) 0 61 (nI (k / 2)) f = f (nI (tlN (k / 2))) := fun f => by
      unfold ria
      rw [if_neg (by omega), tH_at (by omega) (by omega), UU_same]
      show (if 0 = 0 ∧ xinB (nI (k / 2)) 64 = true then f (tgR k (nI (k / 2)).toNatClampNeg) else none) = _
      rw [if_pos ⟨rfl, xin_nI (by omega) (by decide)⟩, nI_clamp (by omega), tgR, if_pos (by omega)]
    have st : ∀ f, ris (tH 64 (n + 8567) (UU (UU T 55 (.inr (4, [.null, .int 0, .int 0, .ref 56, .int 0, .ref 57, .ref 58, .int 0, .long 0, .ref 59, .ref 60, .ref 61, .ref 62, .ref 63, .ref 64, .int 0, .int 0]))) 61 (cT (tgR k)))) 0 61 (nI k) (nI (tlN k)) f = f (tH 64 (n + 8567) (UU (UU T 55 (.inr (4, [.null, .int 0, .int 0, .ref 56, .int 0, .ref 57, .ref 58, .int 0, .long 0, .ref 59, .ref 60, .ref 61, .ref 62, .ref 63, .ref 64, .int 0, .int 0]))) 61 (cT (tgR (k + 1))))) := fun f => by
      unfold ris
      rw [tH_at (by omega) (by omega), UU_same]
      show (if 0 = 0 ∧ xinB (nI k) 64 = true then f (xup _ 61 (cT (upd (tgR k) (nI k).toNatClampNeg (nI (tlN k))))) else none) = _
      rw [if_pos ⟨rfl, xin_nI hk (by decide)⟩, nI_clamp (by omega), tg_s, tH_up (by omega) (by omega), UU_UU]
    have ih := ih (by omega)
    rw [← nI_1] at ih
    rw [e_Planner_init_78, e_Planner_init_79, e_Planner_init_81, if_neg q1, e_Planner_init_84, e_Planner_init_85, g11, e_Planner_init_88, e_Planner_init_89, e_Planner_init_90, g11, e_Planner_init_93, e_Planner_init_94, e_Planner_init_95, tg_h k hk, e_Planner_init_96, ld, e_Planner_init_97, e_Planner_init_98, e_Planner_init_99, e_Planner_init_100, e_Planner_init_101, e_Planner_init_102, tg_v k hk, e_Planner_init_103, st, e_Planner_init_104, e_Planner_init_107]
    exact ih
theorem s_Sp_init_12 {m n : Nat} {fs : List Value} (h2 : 1 ≤ m) (hi : 1 < fs.length) : xR none 2 M_Sp_init 12 [some (.ref 1)] [] (tH m n (UU T0 1 (.inr (8, fs)))) = xR none 2 M_Sp_init 17 [some (.ref 1)] [] (tH m n (UU T0 1 (.inr (8, fs.set 1 (.int 0))))) := by
  rw [e_Sp_init_12, e_Sp_init_13, e_Sp_init_14, tH_put (UU_same _ _ _) (by omega) h2 hi, UU_UU]
theorem s_Sp_init_138 {m n : Nat} {fs : List Value} (h2 : 1 ≤ m) (hi : 12 < fs.length) : xR none 2 M_Sp_init 138 [some (.ref 1)] [] (tH m n (UU T0 1 (.inr (8, fs)))) = xR none 2 M_Sp_init 143 [some (.ref 1)] [] (tH m n (UU T0 1 (.inr (8, fs.set 12 (.long 0))))) := by
  rw [e_Sp_init_138, e_Sp_init_139, e_Sp_init_140, tH_put (UU_same _ _ _) (by omega) h2 hi, UU_UU]
theorem s_Sp_init_17 {n : Nat} {fs : List Value} (hi : 2 < fs.length) : xR none 2 M_Sp_init 17 [some (.ref 1)] [] (tH 2 n (UU T0 1 (.inr (8, fs)))) = xR none 2 M_Sp_init 28 [some (.ref 1)] [] (tH 3 (n + 5 + 0) (UU T0 1 (.inr (8, fs.set 2 (.ref 3))))) := by
  have c := fun f => call_l (lv := 2) (i_Reader (a := 3) (h := tH 3 (n + 5) (UU (UU T0 1 (.inr (8, fs))) 3 (.inr (5, xbl 5))))) (Nat.le_of_ble_eq_true rfl) f
  rw [e_Sp_init_17, e_Sp_init_18, tH_nw, tH_1, e_Sp_init_21, e_Sp_init_22]
  refine (c _).trans ?_
  simp only [Option.toList_none, List.nil_append]
  rw [UU_done (show (UU T0 1 (.inr (8, fs))) 3 = .inr (5, xbl 5) from rfl)]
  rw [e_Sp_init_25]
  refine (tH_put (UU_same _ _ _) (by omega) (by omega) hi).trans ?_
  rw [UU_UU]
theorem s_Sp_init_28 {n : Nat} {fs : List Value} (hi : 3 < fs.length) : xR none 2 M_Sp_init 28 [some (.ref 1)] [] (tH 3 n (UU T0 1 (.inr (8, fs)))) = xR none 2 M_Sp_init 39 [some (.ref 1)] [] (tH 14 (n + 16 + 64) (UU T0 1 (.inr (8, fs.set 3 (.ref 4))))) := by
  have c := fun f => call_l (lv := 2) (i_Village (T := UU T0 1 (.inr (8, fs))) (b := 4) (n := n + 16) (by omega) rfl rfl rfl rfl rfl rfl rfl rfl rfl rfl) (Nat.le_of_ble_eq_true rfl) f
  rw [e_Sp_init_28, e_Sp_init_29, tH_nw, tH_1, e_Sp_init_32, e_Sp_init_33]
  refine (c _).trans ?_
  simp only [Option.toList_none, List.nil_append]
  rw [UU_done (show (UU T0 1 (.inr (8, fs))) 4 = .inr (7, [.int 0, .int 1, .int 0, .int 0, .int 0, .int 0, .ref (4 + 1), .ref (4 + 2), .ref (4 + 3), .ref (4 + 4), .ref (4 + 5), .ref (4 + 6), .ref (4 + 7), .ref (4 + 8), .ref (4 + 9), .ref (4 + 10)]) from rfl)]
  rw [e_Sp_init_36]
  refine (tH_put (UU_same _ _ _) (by omega) (by omega) hi).trans ?_
  rw [UU_UU]
theorem s_Sp_init_39 {n : Nat} {fs : List Value} (hi : 4 < fs.length) : xR none 2 M_Sp_init 39 [some (.ref 1)] [] (tH 14 n (UU T0 1 (.inr (8, fs)))) = xR none 2 M_Sp_init 50 [some (.ref 1)] [] (tH 25 (n + 16 + 64) (UU T0 1 (.inr (8, fs.set 4 (.ref 15))))) := by
  have c := fun f => call_l (lv := 2) (i_Village (T := UU T0 1 (.inr (8, fs))) (b := 15) (n := n + 16) (by omega) rfl rfl rfl rfl rfl rfl rfl rfl rfl rfl) (Nat.le_of_ble_eq_true rfl) f
  rw [e_Sp_init_39, e_Sp_init_40, tH_nw, tH_1, e_Sp_init_43, e_Sp_init_44]
  refine (c _).trans ?_
  simp only [Option.toList_none, List.nil_append]
  rw [UU_done (show (UU T0 1 (.inr (8, fs))) 15 = .inr (7, [.int 0, .int 1, .int 0, .int 0, .int 0, .int 0, .ref (15 + 1), .ref (15 + 2), .ref (15 + 3), .ref (15 + 4), .ref (15 + 5), .ref (15 + 6), .ref (15 + 7), .ref (15 + 8), .ref (15 + 9), .ref (15 + 10)]) from rfl)]
  rw [e_Sp_init_47]
  refine (tH_put (UU_same _ _ _) (by omega) (by omega) hi).trans ?_
  rw [UU_UU]
theorem ga16 : gaR 16 = qf (fun i => 28 + i) := rfl
theorem t28 {e : xE} : ∀ i, i < 16 → (UU T0 1 e) (28 + i) = .inr (0, xbl 0) := by
  intro i hi
  rw [UU_ne (by omega)]
  rcases (by omega : i = 0 ∨ i = 1 ∨ i = 2 ∨ i = 3 ∨ i = 4 ∨ i = 5 ∨ i = 6 ∨ i = 7 ∨ i = 8 ∨ i = 9 ∨ i = 10 ∨ i = 11 ∨ i = 12 ∨ i = 13 ∨ i = 14 ∨ i = 15) with rfl | rfl | rfl | rfl | rfl | rfl | rfl | rfl | rfl | rfl | rfl | rfl | rfl | rfl | rfl | rfl <;> rfl
theorem s_Sp_init_50 {n : Nat} {fs : List Value} (hi : 5 < fs.length) : xR none 2 M_Sp_init 50 [some (.ref 1)] [] (tH 25 n (UU T0 1 (.inr (8, fs)))) = xR none 2 M_Sp_init 61 [some (.ref 1)] [] (tH 43 (n + 2 + 112) (UU T0 1 (.inr (8, fs.set 5 (.ref 26))))) := by
  have c := fun f => call_l (lv := 2) (i_ActRow (T := UU T0 1 (.inr (8, fs))) (n := n + 2) t28) (Nat.le_of_ble_eq_true rfl) f
  rw [e_Sp_init_50, e_Sp_init_51, tH_nw, tH_1, e_Sp_init_54, e_Sp_init_55]
  refine (c _).trans ?_
  simp only [Option.toList_none, List.nil_append]
  rw [UU_done (show (UU T0 1 (.inr (8, fs))) 26 = .inr (1, [.ref 27, .int 0]) from rfl), UU_done (show (UU T0 1 (.inr (8, fs))) 27 = rA (gaR 16) from rfl)]
  rw [e_Sp_init_58]
  refine (tH_put (UU_same _ _ _) (by omega) (by omega) hi).trans ?_
  rw [UU_UU]
theorem n4_2 {m n : Nat} {T : Nat → xE} {f : xH → xQ} : rna (tH m n T) 4 2 f = f (tH (m + 1) (n + 2) (UU T (m + 1) (rK (fun _ => none)))) := by
  unfold rna
  rw [if_neg (by decide)]
  exact congrArg f (tH_nw m n 2 T _)
theorem as44 {m n v : Nat} {T : Nat → xE} {g : Nat → Option Nat} {i : Nat} {fs : List Value} {f : xH → xQ} (hi : i < 2) (h1 : 44 ≤ m) (h2 : 44 < v) (h3 : v ≤ m) (hv : T v = .inr (3, fs)) : ras (tH m n (UU T 44 (rK g))) 44 (nI i) v f = f (tH m n (UU T 44 (rK (va_up g i (some v))))) := by
  unfold ras
  rw [tH_at (by omega) (by omega), tH_at (by omega) (by omega), UU_ne (show v ≠ 44 by omega), hv, UU_same]
  show (if ((4 = 3 ∧ 3 = 0) ∨ (4 = 4 ∧ 3 = 3)) ∧ xinB (nI i) 2 = true then f (xup _ 44 (rK (va_up g (nI i).toNatClampNeg (some v)))) else none) = _
  rw [if_pos ⟨Or.inr ⟨rfl, rfl⟩, xin_nI hi (by decide)⟩, nI_clamp (by omega), tH_up (by omega) (by omega), UU_UU]
theorem s_Sp_init_61 {n : Nat} {fs : List Value} (hi : 6 < fs.length) : xR none 2 M_Sp_init 61 [some (.ref 1)] [] (tH 43 n (UU T0 1 (.inr (8, fs)))) = xR none 2 M_Sp_init 89 [some (.ref 1)] [] (tH 54 (n + 2 + 6 + 23 + 6 + 23) (UU T0 1 (.inr (8, fs.set 6 (.ref 44))))) := by
  have c1 := fun g f => call_l (lv := 2) (i_Kept (T := UU (UU T0 1 (.inr (8, fs))) 44 (rK g)) (b := 45) (n := n + 2 + 6) (by omega) rfl rfl rfl rfl) (Nat.le_of_ble_eq_true rfl) f
  have c2 := fun g f => call_l (lv := 2) (i_Kept (T := UU (UU T0 1 (.inr (8, fs))) 44 (rK g)) (b := 50) (n := n + 2 + 6 + 23 + 6) (by omega) rfl rfl rfl rfl) (Nat.le_of_ble_eq_true rfl) f
  rw [e_Sp_init_61, e_Sp_init_62, e_Sp_init_63, n4_2, tH_1, e_Sp_init_66, e_Sp_init_67, e_Sp_init_68, tH_nw, tH_1, e_Sp_init_71, e_Sp_init_72]
  refine (c1 _ _).trans ?_
  simp only [Option.toList_none, List.nil_append]
  rw [UU_done (show (UU (UU T0 1 (.inr (8, fs))) 44 (rK (fun _ => none))) 45 = .inr (3, [.int 0, .int 0, .ref (45 + 1), .ref (45 + 2), .ref (45 + 3), .ref (45 + 4)]) from rfl), e_Sp_init_75]
  refine (as44 (i := 0) (fs := [.int 0, .int 0, .ref (45 + 1), .ref (45 + 2), .ref (45 + 3), .ref (45 + 4)]) (by omega) (by omega) (by omega) (by omega) rfl).trans ?_
  rw [e_Sp_init_76, e_Sp_init_77, e_Sp_init_78, tH_nw, tH_1, e_Sp_init_81, e_Sp_init_82]
  refine (c2 _ _).trans ?_
  simp only [Option.toList_none, List.nil_append]
  rw [UU_done (show (UU (UU T0 1 (.inr (8, fs))) 44 (rK (va_up (fun _ => none) 0 (some (44 + 1))))) 50 = .inr (3, [.int 0, .int 0, .ref (50 + 1), .ref (50 + 2), .ref (50 + 3), .ref (50 + 4)]) from rfl), e_Sp_init_85]
  refine (as44 (i := 1) (fs := [.int 0, .int 0, .ref (50 + 1), .ref (50 + 2), .ref (50 + 3), .ref (50 + 4)]) (by omega) (by omega) (by omega) (by omega) rfl).trans ?_
  rw [UU_done (show (UU T0 1 (.inr (8, fs))) 44 = rK (va_up (va_up (fun _ => none) 0 (some 45)) 1 (some 50)) from rfl), e_Sp_init_86]
  refine (tH_put (UU_same _ _ _) (by omega) (by omega) hi).trans ?_
  rw [UU_UU]
theorem s_Sp_init_89 {n : Nat} {fs : List Value} (hi : 7 < fs.length) : xR none 2 M_Sp_init 89 [some (.ref 1)] [] (tH 54 n (UU T0 1 (.inr (8, fs)))) = xR none 2 M_Sp_init 100 [some (.ref 1)] [] (tH 64 (n + 17 + 8567) (UU T0 1 (.inr (8, fs.set 7 (.ref 55))))) := by
  have e0 : tH 55 (n + 17) (UU (UU T0 1 (.inr (8, fs))) 55 (.inr (4, xbl 4))) = tH 55 (n + 17) (UU (UU (UU T0 1 (.inr (8, fs))) 61 (cI 0 64)) 55 (.inr (4, xbl 4))) := tH_cg (fun j _ h2 => by
    unfold UU
    by_cases w : j = 55
    · rw [if_pos w, if_pos w]
    · rw [if_neg w, if_neg w, if_neg (show ¬ j = 61 by omega)])
  have c := fun f => call_l (lv := 2) (i_Planner (T := UU (UU T0 1 (.inr (8, fs))) 61 (cI 0 64)) (n := n + 17) rfl rfl rfl rfl rfl rfl rfl rfl rfl) (Nat.le_of_ble_eq_true rfl) f
  rw [e_Sp_init_89, e_Sp_init_90, tH_nw, tH_1, e_Sp_init_93, e_Sp_init_94]
  rw [show 54 + 1 = 55 from rfl, e0]
  refine (c _).trans ?_
  simp only [Option.toList_none, List.nil_append]
  rw [UU_comm (show 61 ≠ 55 by omega), UU_UU, UU_comm (show 55 ≠ 61 by omega), UU_done (show (UU T0 1 (.inr (8, fs))) 61 = cT (tgR 64) from rfl), UU_done (show (UU T0 1 (.inr (8, fs))) 55 = .inr (4, [.null, .int 0, .int 0, .ref 56, .int 0, .ref 57, .ref 58, .int 0, .long 0, .ref 59, .ref 60, .ref 61, .ref 62, .ref 63, .ref 64, .int 0, .int 0]) from rfl), e_Sp_init_97]
  refine (tH_put (UU_same _ _ _) (by omega) (by omega) hi).trans ?_
  rw [UU_UU]
theorem s_Sp_init_108 {n : Nat} {fs : List Value} (hi : 9 < fs.length) : xR none 2 M_Sp_init 108 [some (.ref 1)] [] (tH 65 n (UU T0 1 (.inr (8, fs)))) = xR none 2 M_Sp_init 119 [some (.ref 1)] [] (tH 71 (n + 6 + 28) (UU T0 1 (.inr (8, fs.set 9 (.ref 66))))) := by
  have c := fun f => call_l (lv := 2) (i_Sight (T := UU T0 1 (.inr (8, fs))) (b := 66) (n := n + 6) (by omega) rfl rfl rfl rfl rfl) (Nat.le_of_ble_eq_true rfl) f
  rw [e_Sp_init_108, e_Sp_init_109, tH_nw, tH_1, e_Sp_init_112, e_Sp_init_113]
  refine (c _).trans ?_
  simp only [Option.toList_none, List.nil_append]
  rw [UU_done (show (UU T0 1 (.inr (8, fs))) 66 = .inr (6, [.int 0, .ref (66 + 1), .ref (66 + 2), .ref (66 + 3), .ref (66 + 4), .ref (66 + 5)]) from rfl)]
  rw [e_Sp_init_116]
  refine (tH_put (UU_same _ _ _) (by omega) (by omega) hi).trans ?_
  rw [UU_UU]
theorem s_Sp_init_119 {n : Nat} {fs : List Value} (hi : 10 < fs.length) : xR none 2 M_Sp_init 119 [some (.ref 1)] [] (tH 71 n (UU T0 1 (.inr (8, fs)))) = xR none 2 M_Sp_init 130 [some (.ref 1)] [] (tH 73 (n + 1 + 9) (UU T0 1 (.inr (8, fs.set 10 (.ref 72))))) := by
  have c := fun f => call_l (lv := 2) (i_Chances (T := UU T0 1 (.inr (8, fs))) (b := 72) (n := n + 1) (by omega) rfl) (Nat.le_of_ble_eq_true rfl) f
  rw [e_Sp_init_119, e_Sp_init_120, tH_nw, tH_1, e_Sp_init_123, e_Sp_init_124]
  refine (c _).trans ?_
  simp only [Option.toList_none, List.nil_append]
  rw [UU_done (show (UU T0 1 (.inr (8, fs))) 72 = .inr (2, [.ref (72 + 1)]) from rfl)]
  rw [e_Sp_init_127]
  refine (tH_put (UU_same _ _ _) (by omega) (by omega) hi).trans ?_
  rw [UU_UU]
theorem i_Sp : xC M_Sp_init [.ref 1] (tH 1 13 (UU T0 1 (.inr (8, xbl 8)))) = some (none, tH 74 9086 T0) := by
  rw [k_Sp_init, xbl_8, e_Sp_init_0, e_Sp_init_1]
  refine (s_Sp_init_4 (T := T0) (b := 1) (m := 1) (n := 13) (fs := [.null, .int 0, .null, .null, .null, .null, .null, .null, .null, .null, .null, .null, .long 0]) rfl (by omega) (by omega) (Nat.le_of_ble_eq_true rfl)).trans ?_
  refine (s_Sp_init_12 (m := 2) (n := 103) (fs := [.ref 2, .int 0, .null, .null, .null, .null, .null, .null, .null, .null, .null, .null, .long 0]) (by omega) (Nat.le_of_ble_eq_true rfl)).trans ?_
  refine (s_Sp_init_17 (n := 103) (fs := [.ref 2, .int 0, .null, .null, .null, .null, .null, .null, .null, .null, .null, .null, .long 0]) (Nat.le_of_ble_eq_true rfl)).trans ?_
  refine (s_Sp_init_28 (n := 108) (fs := [.ref 2, .int 0, .ref 3, .null, .null, .null, .null, .null, .null, .null, .null, .null, .long 0]) (Nat.le_of_ble_eq_true rfl)).trans ?_
  refine (s_Sp_init_39 (n := 188) (fs := [.ref 2, .int 0, .ref 3, .ref 4, .null, .null, .null, .null, .null, .null, .null, .null, .long 0]) (Nat.le_of_ble_eq_true rfl)).trans ?_
  refine (s_Sp_init_50 (n := 268) (fs := [.ref 2, .int 0, .ref 3, .ref 4, .ref 15, .null, .null, .null, .null, .null, .null, .null, .long 0]) (Nat.le_of_ble_eq_true rfl)).trans ?_
  refine (s_Sp_init_61 (n := 382) (fs := [.ref 2, .int 0, .ref 3, .ref 4, .ref 15, .ref 26, .null, .null, .null, .null, .null, .null, .long 0]) (Nat.le_of_ble_eq_true rfl)).trans ?_
  refine (s_Sp_init_89 (n := 442) (fs := [.ref 2, .int 0, .ref 3, .ref 4, .ref 15, .ref 26, .ref 44, .null, .null, .null, .null, .null, .long 0]) (Nat.le_of_ble_eq_true rfl)).trans ?_
  refine (s_Sp_init_100 (T := T0) (b := 1) (m := 64) (n := 9026) (fs := [.ref 2, .int 0, .ref 3, .ref 4, .ref 15, .ref 26, .ref 44, .ref 55, .null, .null, .null, .null, .long 0]) rfl (by omega) (by omega) (Nat.le_of_ble_eq_true rfl)).trans ?_
  refine (s_Sp_init_108 (n := 9036) (fs := [.ref 2, .int 0, .ref 3, .ref 4, .ref 15, .ref 26, .ref 44, .ref 55, .ref 65, .null, .null, .null, .long 0]) (Nat.le_of_ble_eq_true rfl)).trans ?_
  refine (s_Sp_init_119 (n := 9070) (fs := [.ref 2, .int 0, .ref 3, .ref 4, .ref 15, .ref 26, .ref 44, .ref 55, .ref 65, .ref 66, .null, .null, .long 0]) (Nat.le_of_ble_eq_true rfl)).trans ?_
  refine (s_Sp_init_130 (T := T0) (b := 1) (m := 73) (n := 9080) (fs := [.ref 2, .int 0, .ref 3, .ref 4, .ref 15, .ref 26, .ref 44, .ref 55, .ref 65, .ref 66, .ref 72, .null, .long 0]) rfl (by omega) (by omega) (Nat.le_of_ble_eq_true rfl)).trans ?_
  refine (s_Sp_init_138 (m := 74) (n := 9086) (fs := [.ref 2, .int 0, .ref 3, .ref 4, .ref 15, .ref 26, .ref 44, .ref 55, .ref 65, .ref 66, .ref 72, .ref 74, .long 0]) (by omega) (Nat.le_of_ble_eq_true rfl)).trans ?_
  rw [e_Sp_init_143]
  exact congrArg (fun T => some ((none : Option Value), tH 74 9086 T)) (UU_done (T := T0) (a := 1) (e := .inr (8, [.ref 2, .int 0, .ref 3, .ref 4, .ref 15, .ref 26, .ref 44, .ref 55, .ref 65, .ref 66, .ref 72, .ref 74, .long 0])) rfl)
theorem x0_tH : x0 = tH 0 0 T0 := by
  refine Prod.ext rfl (Prod.ext rfl ?_)
  funext j
  show none = if j = 0 ∨ 0 < j then none else some (T0 j)
  rw [if_pos (by omega)]
theorem i_Md0 : xC M_Md_init [.ref 75] (tH 75 9127 (UU T0 75 (.inr (9, xbl 9)))) = some (none, tH 97 9827 T0) := by
  refine (i_Md (T := T0) (b := 75) (n := 9127) (by omega) rfl rfl rfl rfl rfl rfl rfl rfl rfl rfl rfl rfl rfl rfl rfl rfl rfl rfl rfl rfl rfl rfl).trans ?_
  exact congrArg (fun T => some ((none : Option Value), tH 97 9827 T)) (UU_done rfl)
