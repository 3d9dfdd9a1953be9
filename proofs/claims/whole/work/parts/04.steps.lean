/-! The abstract heap in the machine's heap. -/
def xad (b base k : Nat) : Nat := if k = 0 then b else base + k
def xcv (b base : Nat) (v : Value) : Value := match v with
  | .ref k => .ref (xad b base k)
  | v => v
def xcA (b base : Nat) (a : vp_A) : vp_A := match a with
  | (n, .inr (.inr (.inr (.inr f)))) => (n, .inr (.inr (.inr (.inr (fun j => (f j).map (xad b base))))))
  | a => a
def xcE (ca : Nat → ClassId) (b base : Nat) (e : xE) : va_E := match e with
  | .inl (t, a) => .inl (ca t, xcA b base a)
  | .inr (ci, fs) => .inr (ci, fs.map (xcv b base))
def xw (ca : Nat → ClassId) (b base : Nat) (h : xH) : va_W := (List.range h.1).map (fun i => (base + (i + 1), xcE ca b base ((h.2.2 (i + 1)).getD (.inr (0, [])))))
def xwf (h : xH) : Prop := ∀ k, (∃ c, h.2.2 k = some c) ↔ (1 ≤ k ∧ k ≤ h.1)
def xtys (ca : Nat → ClassId) : List (ClassId × FieldType) := [(ca 0, xTyA 0), (ca 1, xTyA 1), (ca 2, xTyA 2), (ca 3, xTyA 3), (ca 4, xTyA 4)]
theorem xtys_at (ca : Nat → ClassId) {t : Nat} (h : t < 5) : (xtys ca)[t]? = some (ca t, xTyA t) := by
  rcases (show t = 0 ∨ t = 1 ∨ t = 2 ∨ t = 3 ∨ t = 4 by omega) with rfl | rfl | rfl | rfl | rfl <;> rfl
theorem xcv_cat (b base : Nat) (v : Value) : (xcv b base v).category = v.category := by cases v <;> rfl
theorem xcat_map (b base : Nat) (st : List Value) : ((st.map (xcv b base)).map fun v => v.category).sum = xcat st := by
  unfold xcat
  rw [List.map_map]
  congr 1
  exact List.map_congr_left (fun v _ => xcv_cat b base v)
theorem xw_get {ca : Nat → ClassId} {b base : Nat} {h : xH} (hw : xwf h) {k : Nat} {c : xE} (hk : h.2.2 k = some c) : 1 ≤ k ∧ k ≤ h.1 ∧ (xw ca b base h)[k - 1]? = some (base + k, xcE ca b base c) := by
  have h1 := (hw k).mp ⟨c, hk⟩
  refine ⟨h1.1, h1.2, ?_⟩
  unfold xw
  rw [List.getElem?_map, List.getElem?_range (by omega)]
  simp only [Option.map_some]
  rw [show k - 1 + 1 = k by omega, hk]
  rfl
theorem xw_up {ca : Nat → ClassId} {b base : Nat} {h : xH} {k : Nat} (c : xE) (hk : 1 ≤ k ∧ k ≤ h.1) : xw ca b base (xup h k c) = (xw ca b base h).set (k - 1) (base + k, xcE ca b base c) := by
  apply List.ext_getElem?
  intro i
  rw [List.getElem?_set]
  unfold xw xup
  simp only [List.getElem?_map, List.length_map, List.length_range]
  by_cases hi : i < h.1
  · rw [List.getElem?_range hi]
    simp only [Option.map_some]
    by_cases e : k - 1 = i
    · rw [if_pos e, if_pos (by omega), if_pos (by omega)]
      rw [show i + 1 = k by omega]
      rfl
    · rw [if_neg e, if_neg (by omega)]
  · rw [List.getElem?_eq_none (by simpa using hi)]
    simp only [Option.map_none]
    rw [if_neg (by omega)]
theorem xw_nw {ca : Nat → ClassId} {b base : Nat} {h : xH} (n : Nat) (c : xE) : xw ca b base (xnw h n c) = xw ca b base h ++ [(base + (h.1 + 1), xcE ca b base c)] := by
  unfold xw xnw
  simp only
  rw [List.range_succ, List.map_append]
  congr 1
  · apply List.map_congr_left
    intro i hi
    have := List.mem_range.mp hi
    rw [if_neg (by omega)]
  · simp
theorem xw_D (ca : Nat → ClassId) (b base : Nat) (h : xH) : va_D (fun q => base < q) (xw ca b base h) := by
  have key : ∀ (i : Nat) (p : Nat × va_E), (xw ca b base h)[i]? = some p → p.1 = base + (i + 1) := by
    intro i p hp
    unfold xw at hp
    rw [List.getElem?_map] at hp
    by_cases hi : i < h.1
    · rw [List.getElem?_range hi] at hp
      simp only [Option.map_some, Option.some.injEq] at hp
      rw [← hp]
    · rw [List.getElem?_eq_none (by simpa using hi)] at hp
      simp at hp
  refine ⟨fun i j p q hp hq e => ?_, fun k q hq => ?_⟩
  · have h1 := key i p hp
    have h2 := key j q hq
    omega
  · have h1 := key k q hq
    show base < q.1
    omega
theorem xwf_up {h : xH} (hw : xwf h) {k : Nat} {c0 : xE} (hk : h.2.2 k = some c0) (c : xE) : xwf (xup h k c) := by
  intro j
  show (∃ c', (if j = k then some c else h.2.2 j) = some c') ↔ _
  by_cases e : j = k
  · rw [if_pos e, e]
    exact ⟨fun _ => (hw k).mp ⟨c0, hk⟩, fun _ => ⟨c, rfl⟩⟩
  · rw [if_neg e]
    exact hw j
theorem xwf_nw {h : xH} (hw : xwf h) (n : Nat) (c : xE) : xwf (xnw h n c) := by
  intro j
  show (∃ c', (if j = h.1 + 1 then some c else h.2.2 j) = some c') ↔ (1 ≤ j ∧ j ≤ h.1 + 1)
  by_cases e : j = h.1 + 1
  · rw [if_pos e, e]
    exact ⟨fun _ => by omega, fun _ => ⟨c, rfl⟩⟩
  · rw [if_neg e, hw j]
    omega
/-- the locals as the kit lists them -/
def xlva (b base : Nat) : Nat → List (Option Value) → List (Nat × Value)
  | _, [] => []
  | k, none :: r => xlva b base (k + 1) r
  | k, some v :: r => (k, xcv b base v) :: xlva b base (k + 1) r
def xlv (b base : Nat) (ls : List (Option Value)) : List (Nat × Value) := xlva b base 0 ls
theorem xlva_mem (b base : Nat) : ∀ (ls : List (Option Value)) (k i : Nat) (w : Value), (i, w) ∈ xlva b base k ls ↔ ∃ v, k ≤ i ∧ ls[i - k]? = some (some v) ∧ w = xcv b base v
  | [], k, i, w => by simp [xlva]
  | none :: r, k, i, w => by
    rw [xlva, xlva_mem b base r (k + 1) i w]
    constructor
    · rintro ⟨v, h1, h2, h3⟩
      refine ⟨v, by omega, ?_, h3⟩
      rw [show i - k = (i - (k + 1)) + 1 by omega, List.getElem?_cons_succ]
      exact h2
    · rintro ⟨v, h1, h2, h3⟩
      by_cases e : i = k
      · subst e
        simp at h2
      · refine ⟨v, by omega, ?_, h3⟩
        rw [show i - k = (i - (k + 1)) + 1 by omega, List.getElem?_cons_succ] at h2
        exact h2
  | some u :: r, k, i, w => by
    rw [xlva, List.mem_cons, xlva_mem b base r (k + 1) i w]
    constructor
    · rintro (h | ⟨v, h1, h2, h3⟩)
      · cases h
        exact ⟨u, Nat.le_refl _, by simp, rfl⟩
      · refine ⟨v, by omega, ?_, h3⟩
        rw [show i - k = (i - (k + 1)) + 1 by omega, List.getElem?_cons_succ]
        exact h2
    · rintro ⟨v, h1, h2, h3⟩
      by_cases e : i = k
      · subst e
        simp at h2
        left
        rw [h3, h2]
      · right
        refine ⟨v, by omega, ?_, h3⟩
        rw [show i - k = (i - (k + 1)) + 1 by omega, List.getElem?_cons_succ] at h2
        exact h2
theorem xlv_mem {b base : Nat} {ls : List (Option Value)} {i : Nat} {w : Value} : (i, w) ∈ xlv b base ls ↔ ∃ v, ls[i]? = some (some v) ∧ w = xcv b base v := by
  unfold xlv
  rw [xlva_mem]
  simp
theorem xlv_at {b base : Nat} {ls : List (Option Value)} {lsC : Array Slot} {nL i : Nat} {v : Value} (hl : lv_has lsC nL (xlv b base ls)) (h : ls[i]? = some (some v)) : lsC[i]? = some (.val (xcv b base v)) := hl.2.2 (i, xcv b base v) (xlv_mem.mpr ⟨v, h, rfl⟩)
theorem xclr_get {ls : List (Option Value)} {i j : Nat} {v : Value} (h : (xclr ls i)[j]? = some (some v)) : ls[j]? = some (some v) ∧ ¬ (j + 1 = i ∧ v.category = 2) := by
  cases i with
  | zero => exact ⟨h, fun q => by omega⟩
  | succ i =>
    simp only [xclr] at h
    split at h
    · rw [List.getElem?_set] at h
      split at h
      · split at h <;> cases h
      · exact ⟨h, fun q => by omega⟩
    · rw [List.getElem?_set] at h
      split at h
      · split at h <;> cases h
      · exact ⟨h, fun q => by omega⟩
    · rename_i h1 h2
      refine ⟨h, fun q => ?_⟩
      obtain ⟨q1, q2⟩ := q
      have : j = i := by omega
      subst this
      cases v <;> simp [Value.category] at q2
      · exact h1 _ h
      · exact h2 _ h
theorem xlv_st1 {b base : Nat} {ls : List (Option Value)} {lsC : Array Slot} {nL i : Nat} {v : Value} (hl : lv_has lsC nL ((i, xcv b base v) :: (xlv b base ls).filter (fun q => !(q.1 == i) && !(q.1 + 1 == i && q.2.category == 2)))) : lv_has lsC nL (xlv b base (xst1 ls i v)) := by
  refine ⟨hl.1, hl.2.1, fun q hq => hl.2.2 q ?_⟩
  obtain ⟨j, w⟩ := q
  obtain ⟨u, hu, rfl⟩ := xlv_mem.mp hq
  unfold xst1 at hu
  rw [List.getElem?_set] at hu
  by_cases e : i = j
  · rw [if_pos e] at hu
    split at hu
    · cases hu
      rw [e]
      exact List.mem_cons_self
    · cases hu
  · rw [if_neg e] at hu
    obtain ⟨h1, h2⟩ := xclr_get hu
    refine List.mem_cons_of_mem _ (List.mem_filter.mpr ⟨xlv_mem.mpr ⟨u, h1, rfl⟩, ?_⟩)
    simp only [Bool.and_eq_true, Bool.not_eq_true', beq_eq_false_iff_ne, Bool.and_eq_false_iff, xcv_cat]
    refine ⟨fun q => e q.symm, ?_⟩
    by_cases e2 : j + 1 = i
    · exact Or.inr (fun q => h2 ⟨e2, q⟩)
    · exact Or.inl e2
theorem xlv_st2 {b base : Nat} {ls : List (Option Value)} {lsC : Array Slot} {nL i : Nat} {v : Value} (hl : lv_has lsC nL ((i, xcv b base v) :: (xlv b base ls).filter (fun q => !(q.1 == i) && (!(q.1 == i + 1) && !(q.1 + 1 == i && q.2.category == 2))))) : lv_has lsC nL (xlv b base (xst2 ls i v)) := by
  refine ⟨hl.1, hl.2.1, fun q hq => hl.2.2 q ?_⟩
  obtain ⟨j, w⟩ := q
  obtain ⟨u, hu, rfl⟩ := xlv_mem.mp hq
  unfold xst2 at hu
  rw [List.getElem?_set] at hu
  by_cases e0 : i + 1 = j
  · rw [if_pos e0] at hu
    split at hu <;> cases hu
  · rw [if_neg e0, List.getElem?_set] at hu
    by_cases e : i = j
    · rw [if_pos e] at hu
      split at hu
      · cases hu
        rw [e]
        exact List.mem_cons_self
      · cases hu
    · rw [if_neg e] at hu
      obtain ⟨h1, h2⟩ := xclr_get hu
      refine List.mem_cons_of_mem _ (List.mem_filter.mpr ⟨xlv_mem.mpr ⟨u, h1, rfl⟩, ?_⟩)
      simp only [Bool.and_eq_true, Bool.not_eq_true', beq_eq_false_iff_ne, Bool.and_eq_false_iff, xcv_cat]
      refine ⟨fun q => e q.symm, fun q => e0 q.symm, ?_⟩
      by_cases e2 : j + 1 = i
      · exact Or.inr (fun q => h2 ⟨e2, q⟩)
      · exact Or.inl e2
/-! inversions -/
theorem if_inv {c : Prop} [Decidable c] {a : Option xU} {u : xU} (h : (if c then a else none) = some u) : c ∧ a = some u := by
  by_cases hc : c
  · rw [if_pos hc] at h; exact ⟨hc, h⟩
  · rw [if_neg hc] at h; cases h
theorem if_invn {c : Prop} [Decidable c] {a : Option xU} {u : xU} (h : (if c then none else a) = some u) : ¬ c ∧ a = some u := by
  by_cases hc : c
  · rw [if_pos hc] at h; cases h
  · rw [if_neg hc] at h; exact ⟨hc, h⟩
theorem xn_inv {pc pc' : Nat} {ls ls' : List (Option Value)} {st st' : List Value} {h h' : xH} (e : xn pc ls st h = some (.inl (pc', ls', st', h'))) : pc = pc' ∧ ls = ls' ∧ st = st' ∧ h = h' := by
  unfold xn at e
  simp only [Option.some.injEq, Sum.inl.injEq, Prod.mk.injEq] at e
  exact e
theorem xlg_inv {ls : List (Option Value)} {i : Nat} {f : Value → Option xU} {u : xU} (h : xlg ls i f = some u) : ∃ v, ls[i]? = some (some v) ∧ f v = some u := by
  unfold xlg at h
  split at h
  · rename_i v hv; exact ⟨v, hv, h⟩
  · cases h
theorem xi1_inv {st : List Value} {f : Int32 → List Value → Option xU} {u : xU} (h : xi1 st f = some u) : ∃ x r, st = .int x :: r ∧ f x r = some u := by
  unfold xi1 at h
  split at h
  · exact ⟨_, _, rfl, h⟩
  · cases h
theorem xi2_inv {st : List Value} {f : Int32 → Int32 → List Value → Option xU} {u : xU} (h : xi2 st f = some u) : ∃ x y r, st = .int y :: .int x :: r ∧ f x y r = some u := by
  unfold xi2 at h
  split at h
  · exact ⟨_, _, _, rfl, h⟩
  · cases h
theorem xl1_inv {st : List Value} {f : Int64 → List Value → Option xU} {u : xU} (h : xl1 st f = some u) : ∃ x r, st = .long x :: r ∧ f x r = some u := by
  unfold xl1 at h
  split at h
  · exact ⟨_, _, rfl, h⟩
  · cases h
theorem xl2_inv {st : List Value} {f : Int64 → Int64 → List Value → Option xU} {u : xU} (h : xl2 st f = some u) : ∃ x y r, st = .long y :: .long x :: r ∧ f x y r = some u := by
  unfold xl2 at h
  split at h
  · exact ⟨_, _, _, rfl, h⟩
  · cases h
theorem xli_inv {st : List Value} {f : Int64 → Int32 → List Value → Option xU} {u : xU} (h : xli st f = some u) : ∃ x y r, st = .int y :: .long x :: r ∧ f x y r = some u := by
  unfold xli at h
  split at h
  · exact ⟨_, _, _, rfl, h⟩
  · cases h
theorem xr1_inv {st : List Value} {f : Nat → List Value → Option xU} {u : xU} (h : xr1 st f = some u) : ∃ x r, st = .ref x :: r ∧ f x r = some u := by
  unfold xr1 at h
  split at h
  · exact ⟨_, _, rfl, h⟩
  · cases h
theorem xri_inv {st : List Value} {f : Nat → Int32 → List Value → Option xU} {u : xU} (h : xri st f = some u) : ∃ a i r, st = .int i :: .ref a :: r ∧ f a i r = some u := by
  unfold xri at h
  split at h
  · exact ⟨_, _, _, rfl, h⟩
  · cases h
theorem xrv_inv {st : List Value} {f : Nat → Value → List Value → Option xU} {u : xU} (h : xrv st f = some u) : ∃ a v r, st = v :: .ref a :: r ∧ f a v r = some u := by
  unfold xrv at h
  split at h
  · exact ⟨_, _, _, rfl, h⟩
  · cases h
theorem xriv_inv {st : List Value} {f : Nat → Int32 → Value → List Value → Option xU} {u : xU} (h : xriv st f = some u) : ∃ a i v r, st = v :: .int i :: .ref a :: r ∧ f a i v r = some u := by
  unfold xriv at h
  split at h
  · exact ⟨_, _, _, _, rfl, h⟩
  · cases h
theorem xtg_inv {pc : Nat} {off : Int} {f : Nat → Option xU} {u : xU} (h : xtg pc off f = some u) : ∃ t : Nat, (pc : Int) + off = (t : Int) ∧ f t = some u := by
  unfold xtg at h
  obtain ⟨h1, h2⟩ := if_inv h
  exact ⟨_, by omega, h2⟩
theorem xinB_in {i : Int32} {n : Nat} (h : xinB i n = true) : vp_in i n := by
  unfold xinB at h
  have h' : ¬ (i < 0 ∨ n ≤ i.toNatClampNeg) := of_decide_eq_true h
  exact h'
theorem xfit_ok {ty : FieldType} {v : Value} (b base : Nat) (h : xfit ty v = true) : narrow ty (xcv b base v) = xcv b base v ∧ fits ty (xcv b base v) = true := by
  unfold xfit at h
  split at h
  · exact ⟨rfl, rfl⟩
  · exact ⟨rfl, rfl⟩
  · simp only [Bool.or_eq_true, beq_iff_eq] at h
    rcases h with rfl | rfl
    · exact ⟨(by decide : narrow .boolean (Value.int 0) = Value.int 0), rfl⟩
    · exact ⟨(by decide : narrow .boolean (Value.int 1) = Value.int 1), rfl⟩
  · exact ⟨rfl, rfl⟩
  · exact ⟨rfl, rfl⟩
  · cases h
section XSIM
variable {p : Program} {l : Launch} {e : Env} {R : Room} {s : State} {m : MethodId} {args : Array Value} {below : List Frame} {meth : Method} {c : Code} {Q : State → Prop}
variable {D : va_G} {ca : Nat → ClassId} {b base : Nat} {M : xM} {scr : xSc} {lv : Nat} {h0 : xH} {pc len : Nat} {ls : List (Option Value)} {st : List Value} {h : xH} {lsC : Array Slot} {H : Heap} {locs : List Loc}
variable {pc' : Nat} {ls' : List (Option Value)} {st' : List Value} {h' : xH}
/-- what stands through a method's body -/
def xCx (p : Program) (R : Room) (s : State) (m : MethodId) (args : Array Value) (meth : Method) (c : Code) (D : va_G) (ca : Nat → ClassId) (M : xM) (lv base : Nat) (h0 : xH) : Prop :=
  p.tables.exec = Jvm.exec ∧ c.code = xmc M ∧ c.maxLocals = xmL M ∧ s.vm.findClass (xcn (xmo M)) = some m.cls ∧ (∀ w ∈ xGood, w.before args s = true) ∧ (M.1.name = "<init>" → meth.name = "<init>") ∧ meth.locks = false ∧ va_K D xCl (xtys ca) s ∧ (∀ w ∈ xNest, va_Nw w s) ∧ va_AO "SpoonfulMore$Act" s ∧ va_AO "SpoonfulMore$Kept" s ∧ xcn (xmo M) = M.1.cls ∧ lv + 1 ≤ R.frames ∧ 64 * (lv + 1) ≤ R.locals ∧ s.heap.size = base + h0.1 + 1
def xSX (scr : xSc) (b base : Nat) (s : State) : Prop := ∀ n g, scr = some (n, g) → va_X b n g s s.heap ∧ b < s.heap.size ∧ b ≤ base
def xSt (s : State) (D : va_G) (ca : Nat → ClassId) (b base : Nat) (h0 h : xH) (H : Heap) (locs : List Loc) : Prop :=
  va_P D xCl (xw ca b base h) H ∧ xwf h ∧ va_S (fun q => base < q) s.heap H locs ∧ h0.1 ≤ h.1 ∧ h0.2.1 ≤ h.2.1
abbrev xGo (p : Program) (l : Launch) (e : Env) (R : Room) (s : State) (m : MethodId) (args : Array Value) (below : List Frame) (meth : Method) (c : Code) (Q : State → Prop) (b base : Nat) (h0 : xH) (pc : Nat) (st : List Value) (h : xH) (lsC : Array Slot) (H : Heap) (locs : List Loc) : Prop :=
  W p l e R s m args below meth c H locs (h.1 - h0.1) (h.2.1 - h0.2.1) Q (F0 m pc lsC (st.map (xcv b base)))
theorem xSt_up {k : Nat} {c0 : xE} {cn : xE} {H' : Heap} {locs' : List Loc} (S : xSt s D ca b base h0 h H locs) (hk : h.2.2 k = some c0) (hP : va_P D xCl ((xw ca b base h).set (k - 1) (base + k, xcE ca b base cn)) H') (hS : va_S (fun q => base < q) s.heap H' locs') : xSt s D ca b base h0 (xup h k cn) H' locs' := by
  have g := xw_get (ca := ca) (b := b) (base := base) S.2.1 hk
  refine ⟨?_, xwf_up S.2.1 hk cn, hS, S.2.2.2.1, S.2.2.2.2⟩
  rw [xw_up cn ⟨g.1, g.2.1⟩]
  exact hP
theorem xad_pos {b base k : Nat} (h : 1 ≤ k) : xad b base k = base + k := by
  unfold xad
  rw [if_neg (by omega)]
theorem xW_sized {g : JFrame} {cells slots : Nat} (k : H.size ≤ s.heap.size + cells → W p l e R s m args below meth c H locs cells slots Q g) : W p l e R s m args below meth c H locs cells slots Q g :=
  fun T hT X => k (by rw [← hT]; exact X.heapSize) T hT X
theorem xSt_size (C : s.heap.size = base + h0.1 + 1) (S : xSt s D ca b base h0 h H locs) (hz : H.size ≤ s.heap.size + (h.1 - h0.1)) : H.size = base + h.1 + 1 := by
  obtain ⟨hP, hw, hS, h1, h2⟩ := S
  by_cases e : h.1 = h0.1
  · have := hS.1
    omega
  · obtain ⟨c, hc⟩ := (hw h.1).mpr ⟨by omega, Nat.le_refl _⟩
    obtain ⟨-, -, hg⟩ := xw_get (ca := ca) (b := b) (base := base) hw hc
    have := (hP _ _ hg).lt
    simp only at this
    omega
theorem xs_iconst {k : Int} (C : xCx p R s m args meth c D ca M lv base h0) (X : xSX scr b base s) (S : xSt s D ca b base h0 h H locs) (hl : lv_has lsC (xmL M) (xlv b base ls)) (hd : decode (xmc M) pc = .ok (.iconst k, len)) (ho : xO scr lv M pc len ls st h (.iconst k) = some (.inl (pc', ls', st', h'))) (hc : h'.1 - h0.1 ≤ R.cells) (hs : h'.2.1 - h0.2.1 ≤ R.slots) (kk : ∀ (H' : Heap) (locs' : List Loc) (lsC' : Array Slot), xSt s D ca b base h0 h' H' locs' → lv_has lsC' (xmL M) (xlv b base ls') → xGo p l e R s m args below meth c Q b base h0 pc' st' h' lsC' H' locs') : xGo p l e R s m args below meth c Q b base h0 pc st h lsC H locs := by
  simp only [xO] at ho
  replace ho := if_inv ho
  obtain ⟨rfl, ho⟩ := ho
  obtain ⟨rfl, rfl, rfl, rfl⟩ := xn_inv ho
  exact lv_iconst C.1 C.2.1 hd rfl (kk _ _ _ S hl)
theorem xs_bipush {k : Int} (C : xCx p R s m args meth c D ca M lv base h0) (X : xSX scr b base s) (S : xSt s D ca b base h0 h H locs) (hl : lv_has lsC (xmL M) (xlv b base ls)) (hd : decode (xmc M) pc = .ok (.bipush k, len)) (ho : xO scr lv M pc len ls st h (.bipush k) = some (.inl (pc', ls', st', h'))) (hc : h'.1 - h0.1 ≤ R.cells) (hs : h'.2.1 - h0.2.1 ≤ R.slots) (kk : ∀ (H' : Heap) (locs' : List Loc) (lsC' : Array Slot), xSt s D ca b base h0 h' H' locs' → lv_has lsC' (xmL M) (xlv b base ls') → xGo p l e R s m args below meth c Q b base h0 pc' st' h' lsC' H' locs') : xGo p l e R s m args below meth c Q b base h0 pc st h lsC H locs := by
  simp only [xO] at ho
  replace ho := if_inv ho
  obtain ⟨rfl, ho⟩ := ho
  obtain ⟨rfl, rfl, rfl, rfl⟩ := xn_inv ho
  exact lv_bipush C.1 C.2.1 hd rfl (kk _ _ _ S hl)
theorem xs_sipush {k : Int} (C : xCx p R s m args meth c D ca M lv base h0) (X : xSX scr b base s) (S : xSt s D ca b base h0 h H locs) (hl : lv_has lsC (xmL M) (xlv b base ls)) (hd : decode (xmc M) pc = .ok (.sipush k, len)) (ho : xO scr lv M pc len ls st h (.sipush k) = some (.inl (pc', ls', st', h'))) (hc : h'.1 - h0.1 ≤ R.cells) (hs : h'.2.1 - h0.2.1 ≤ R.slots) (kk : ∀ (H' : Heap) (locs' : List Loc) (lsC' : Array Slot), xSt s D ca b base h0 h' H' locs' → lv_has lsC' (xmL M) (xlv b base ls') → xGo p l e R s m args below meth c Q b base h0 pc' st' h' lsC' H' locs') : xGo p l e R s m args below meth c Q b base h0 pc st h lsC H locs := by
  simp only [xO] at ho
  replace ho := if_inv ho
  obtain ⟨rfl, ho⟩ := ho
  obtain ⟨rfl, rfl, rfl, rfl⟩ := xn_inv ho
  exact lv_sipush C.1 C.2.1 hd rfl (kk _ _ _ S hl)
theorem xs_lconst {k : Fin 2} (C : xCx p R s m args meth c D ca M lv base h0) (X : xSX scr b base s) (S : xSt s D ca b base h0 h H locs) (hl : lv_has lsC (xmL M) (xlv b base ls)) (hd : decode (xmc M) pc = .ok (.lconst k, len)) (ho : xO scr lv M pc len ls st h (.lconst k) = some (.inl (pc', ls', st', h'))) (hc : h'.1 - h0.1 ≤ R.cells) (hs : h'.2.1 - h0.2.1 ≤ R.slots) (kk : ∀ (H' : Heap) (locs' : List Loc) (lsC' : Array Slot), xSt s D ca b base h0 h' H' locs' → lv_has lsC' (xmL M) (xlv b base ls') → xGo p l e R s m args below meth c Q b base h0 pc' st' h' lsC' H' locs') : xGo p l e R s m args below meth c Q b base h0 pc st h lsC H locs := by
  simp only [xO] at ho
  replace ho := if_inv ho
  obtain ⟨rfl, ho⟩ := ho
  obtain ⟨rfl, rfl, rfl, rfl⟩ := xn_inv ho
  exact lv_lconst C.1 C.2.1 hd rfl (kk _ _ _ S hl)
theorem xs_ldc {k : Nat} (C : xCx p R s m args meth c D ca M lv base h0) (X : xSX scr b base s) (S : xSt s D ca b base h0 h H locs) (hl : lv_has lsC (xmL M) (xlv b base ls)) (hd : decode (xmc M) pc = .ok (.ldc k, len)) (ho : xO scr lv M pc len ls st h (.ldc k) = some (.inl (pc', ls', st', h'))) (hc : h'.1 - h0.1 ≤ R.cells) (hs : h'.2.1 - h0.2.1 ≤ R.slots) (kk : ∀ (H' : Heap) (locs' : List Loc) (lsC' : Array Slot), xSt s D ca b base h0 h' H' locs' → lv_has lsC' (xmL M) (xlv b base ls') → xGo p l e R s m args below meth c Q b base h0 pc' st' h' lsC' H' locs') : xGo p l e R s m args below meth c Q b base h0 pc st h lsC H locs := by
  simp only [xO] at ho
  replace ho := if_inv ho
  obtain ⟨rfl, ho⟩ := ho
  split at ho
  · rename_i v hv
    obtain ⟨rfl, rfl, rfl, rfl⟩ := xn_inv ho
    exact lv_ldc C.1 C.2.1 C.2.2.2.1 (C.2.2.2.2.1 _ ((xLd_mem hv).2 _ List.mem_cons_self)) hd (kk _ _ _ S hl)
  · cases ho
theorem xs_ldc_w {k : Nat} (C : xCx p R s m args meth c D ca M lv base h0) (X : xSX scr b base s) (S : xSt s D ca b base h0 h H locs) (hl : lv_has lsC (xmL M) (xlv b base ls)) (hd : decode (xmc M) pc = .ok (.ldc_w k, len)) (ho : xO scr lv M pc len ls st h (.ldc_w k) = some (.inl (pc', ls', st', h'))) (hc : h'.1 - h0.1 ≤ R.cells) (hs : h'.2.1 - h0.2.1 ≤ R.slots) (kk : ∀ (H' : Heap) (locs' : List Loc) (lsC' : Array Slot), xSt s D ca b base h0 h' H' locs' → lv_has lsC' (xmL M) (xlv b base ls') → xGo p l e R s m args below meth c Q b base h0 pc' st' h' lsC' H' locs') : xGo p l e R s m args below meth c Q b base h0 pc st h lsC H locs := by
  simp only [xO] at ho
  replace ho := if_inv ho
  obtain ⟨rfl, ho⟩ := ho
  split at ho
  · rename_i v hv
    obtain ⟨rfl, rfl, rfl, rfl⟩ := xn_inv ho
    exact lv_ldcw C.1 C.2.1 C.2.2.2.1 (C.2.2.2.2.1 _ ((xLd_mem hv).2 _ List.mem_cons_self)) hd (kk _ _ _ S hl)
  · cases ho
theorem xs_ldc2_w {k : Nat} (C : xCx p R s m args meth c D ca M lv base h0) (X : xSX scr b base s) (S : xSt s D ca b base h0 h H locs) (hl : lv_has lsC (xmL M) (xlv b base ls)) (hd : decode (xmc M) pc = .ok (.ldc2_w k, len)) (ho : xO scr lv M pc len ls st h (.ldc2_w k) = some (.inl (pc', ls', st', h'))) (hc : h'.1 - h0.1 ≤ R.cells) (hs : h'.2.1 - h0.2.1 ≤ R.slots) (kk : ∀ (H' : Heap) (locs' : List Loc) (lsC' : Array Slot), xSt s D ca b base h0 h' H' locs' → lv_has lsC' (xmL M) (xlv b base ls') → xGo p l e R s m args below meth c Q b base h0 pc' st' h' lsC' H' locs') : xGo p l e R s m args below meth c Q b base h0 pc st h lsC H locs := by
  simp only [xO] at ho
  replace ho := if_inv ho
  obtain ⟨rfl, ho⟩ := ho
  split at ho
  · rename_i v hv
    obtain ⟨rfl, rfl, rfl, rfl⟩ := xn_inv ho
    exact lv_ldc2 C.1 C.2.1 C.2.2.2.1 (C.2.2.2.2.1 _ ((xL2_mem hv).2 _ List.mem_cons_self)) hd (kk _ _ _ S hl)
  · cases ho
theorem xs_iload {k : Nat} (C : xCx p R s m args meth c D ca M lv base h0) (X : xSX scr b base s) (S : xSt s D ca b base h0 h H locs) (hl : lv_has lsC (xmL M) (xlv b base ls)) (hd : decode (xmc M) pc = .ok (.iload k, len)) (ho : xO scr lv M pc len ls st h (.iload k) = some (.inl (pc', ls', st', h'))) (hc : h'.1 - h0.1 ≤ R.cells) (hs : h'.2.1 - h0.2.1 ≤ R.slots) (kk : ∀ (H' : Heap) (locs' : List Loc) (lsC' : Array Slot), xSt s D ca b base h0 h' H' locs' → lv_has lsC' (xmL M) (xlv b base ls') → xGo p l e R s m args below meth c Q b base h0 pc' st' h' lsC' H' locs') : xGo p l e R s m args below meth c Q b base h0 pc st h lsC H locs := by
  simp only [xO] at ho
  replace ho := if_inv ho
  obtain ⟨rfl, ho⟩ := ho
  replace ho := xlg_inv ho
  obtain ⟨v, hv, ho⟩ := ho
  replace ho := xi1_inv ho
  obtain ⟨x, r, hx, ho⟩ := ho
  cases hx
  obtain ⟨rfl, rfl, rfl, rfl⟩ := xn_inv ho
  exact lv_iload C.1 C.2.1 hd (xlv_at hl hv) (kk _ _ _ S hl)
theorem xs_iload_n {k : Fin 4} (C : xCx p R s m args meth c D ca M lv base h0) (X : xSX scr b base s) (S : xSt s D ca b base h0 h H locs) (hl : lv_has lsC (xmL M) (xlv b base ls)) (hd : decode (xmc M) pc = .ok (.iload_n k, len)) (ho : xO scr lv M pc len ls st h (.iload_n k) = some (.inl (pc', ls', st', h'))) (hc : h'.1 - h0.1 ≤ R.cells) (hs : h'.2.1 - h0.2.1 ≤ R.slots) (kk : ∀ (H' : Heap) (locs' : List Loc) (lsC' : Array Slot), xSt s D ca b base h0 h' H' locs' → lv_has lsC' (xmL M) (xlv b base ls') → xGo p l e R s m args below meth c Q b base h0 pc' st' h' lsC' H' locs') : xGo p l e R s m args below meth c Q b base h0 pc st h lsC H locs := by
  simp only [xO] at ho
  replace ho := if_inv ho
  obtain ⟨rfl, ho⟩ := ho
  replace ho := xlg_inv ho
  obtain ⟨v, hv, ho⟩ := ho
  replace ho := xi1_inv ho
  obtain ⟨x, r, hx, ho⟩ := ho
  cases hx
  obtain ⟨rfl, rfl, rfl, rfl⟩ := xn_inv ho
  exact lv_iload_n C.1 C.2.1 hd rfl (xlv_at hl hv) (kk _ _ _ S hl)
theorem xs_lload {k : Nat} (C : xCx p R s m args meth c D ca M lv base h0) (X : xSX scr b base s) (S : xSt s D ca b base h0 h H locs) (hl : lv_has lsC (xmL M) (xlv b base ls)) (hd : decode (xmc M) pc = .ok (.lload k, len)) (ho : xO scr lv M pc len ls st h (.lload k) = some (.inl (pc', ls', st', h'))) (hc : h'.1 - h0.1 ≤ R.cells) (hs : h'.2.1 - h0.2.1 ≤ R.slots) (kk : ∀ (H' : Heap) (locs' : List Loc) (lsC' : Array Slot), xSt s D ca b base h0 h' H' locs' → lv_has lsC' (xmL M) (xlv b base ls') → xGo p l e R s m args below meth c Q b base h0 pc' st' h' lsC' H' locs') : xGo p l e R s m args below meth c Q b base h0 pc st h lsC H locs := by
  simp only [xO] at ho
  replace ho := if_inv ho
  obtain ⟨rfl, ho⟩ := ho
  replace ho := xlg_inv ho
  obtain ⟨v, hv, ho⟩ := ho
  replace ho := xl1_inv ho
  obtain ⟨x, r, hx, ho⟩ := ho
  cases hx
  obtain ⟨rfl, rfl, rfl, rfl⟩ := xn_inv ho
  exact lv_lload C.1 C.2.1 hd (xlv_at hl hv) (kk _ _ _ S hl)
theorem xs_lload_n {k : Fin 4} (C : xCx p R s m args meth c D ca M lv base h0) (X : xSX scr b base s) (S : xSt s D ca b base h0 h H locs) (hl : lv_has lsC (xmL M) (xlv b base ls)) (hd : decode (xmc M) pc = .ok (.lload_n k, len)) (ho : xO scr lv M pc len ls st h (.lload_n k) = some (.inl (pc', ls', st', h'))) (hc : h'.1 - h0.1 ≤ R.cells) (hs : h'.2.1 - h0.2.1 ≤ R.slots) (kk : ∀ (H' : Heap) (locs' : List Loc) (lsC' : Array Slot), xSt s D ca b base h0 h' H' locs' → lv_has lsC' (xmL M) (xlv b base ls') → xGo p l e R s m args below meth c Q b base h0 pc' st' h' lsC' H' locs') : xGo p l e R s m args below meth c Q b base h0 pc st h lsC H locs := by
  simp only [xO] at ho
  replace ho := if_inv ho
  obtain ⟨rfl, ho⟩ := ho
  replace ho := xlg_inv ho
  obtain ⟨v, hv, ho⟩ := ho
  replace ho := xl1_inv ho
  obtain ⟨x, r, hx, ho⟩ := ho
  cases hx
  obtain ⟨rfl, rfl, rfl, rfl⟩ := xn_inv ho
  exact lv_lload_n C.1 C.2.1 hd rfl (xlv_at hl hv) (kk _ _ _ S hl)
theorem xs_aload {k : Nat} (C : xCx p R s m args meth c D ca M lv base h0) (X : xSX scr b base s) (S : xSt s D ca b base h0 h H locs) (hl : lv_has lsC (xmL M) (xlv b base ls)) (hd : decode (xmc M) pc = .ok (.aload k, len)) (ho : xO scr lv M pc len ls st h (.aload k) = some (.inl (pc', ls', st', h'))) (hc : h'.1 - h0.1 ≤ R.cells) (hs : h'.2.1 - h0.2.1 ≤ R.slots) (kk : ∀ (H' : Heap) (locs' : List Loc) (lsC' : Array Slot), xSt s D ca b base h0 h' H' locs' → lv_has lsC' (xmL M) (xlv b base ls') → xGo p l e R s m args below meth c Q b base h0 pc' st' h' lsC' H' locs') : xGo p l e R s m args below meth c Q b base h0 pc st h lsC H locs := by
  simp only [xO] at ho
  replace ho := if_inv ho
  obtain ⟨rfl, ho⟩ := ho
  replace ho := xlg_inv ho
  obtain ⟨v, hv, ho⟩ := ho
  replace ho := xr1_inv ho
  obtain ⟨x, r, hx, ho⟩ := ho
  cases hx
  obtain ⟨rfl, rfl, rfl, rfl⟩ := xn_inv ho
  exact lv_aload C.1 C.2.1 hd (xlv_at hl hv) (kk _ _ _ S hl)
theorem xs_aload_n {k : Fin 4} (C : xCx p R s m args meth c D ca M lv base h0) (X : xSX scr b base s) (S : xSt s D ca b base h0 h H locs) (hl : lv_has lsC (xmL M) (xlv b base ls)) (hd : decode (xmc M) pc = .ok (.aload_n k, len)) (ho : xO scr lv M pc len ls st h (.aload_n k) = some (.inl (pc', ls', st', h'))) (hc : h'.1 - h0.1 ≤ R.cells) (hs : h'.2.1 - h0.2.1 ≤ R.slots) (kk : ∀ (H' : Heap) (locs' : List Loc) (lsC' : Array Slot), xSt s D ca b base h0 h' H' locs' → lv_has lsC' (xmL M) (xlv b base ls') → xGo p l e R s m args below meth c Q b base h0 pc' st' h' lsC' H' locs') : xGo p l e R s m args below meth c Q b base h0 pc st h lsC H locs := by
  simp only [xO] at ho
  replace ho := if_inv ho
  obtain ⟨rfl, ho⟩ := ho
  replace ho := xlg_inv ho
  obtain ⟨v, hv, ho⟩ := ho
  replace ho := xr1_inv ho
  obtain ⟨x, r, hx, ho⟩ := ho
  cases hx
  obtain ⟨rfl, rfl, rfl, rfl⟩ := xn_inv ho
  exact lv_aload_n C.1 C.2.1 hd rfl (xlv_at hl hv) (kk _ _ _ S hl)
theorem xs_istore {k : Nat} (C : xCx p R s m args meth c D ca M lv base h0) (X : xSX scr b base s) (S : xSt s D ca b base h0 h H locs) (hl : lv_has lsC (xmL M) (xlv b base ls)) (hd : decode (xmc M) pc = .ok (.istore k, len)) (ho : xO scr lv M pc len ls st h (.istore k) = some (.inl (pc', ls', st', h'))) (hc : h'.1 - h0.1 ≤ R.cells) (hs : h'.2.1 - h0.2.1 ≤ R.slots) (kk : ∀ (H' : Heap) (locs' : List Loc) (lsC' : Array Slot), xSt s D ca b base h0 h' H' locs' → lv_has lsC' (xmL M) (xlv b base ls') → xGo p l e R s m args below meth c Q b base h0 pc' st' h' lsC' H' locs') : xGo p l e R s m args below meth c Q b base h0 pc st h lsC H locs := by
  simp only [xO] at ho
  replace ho := if_inv ho
  obtain ⟨⟨rfl, hk⟩, ho⟩ := ho
  replace ho := xi1_inv ho
  obtain ⟨x, r, rfl, ho⟩ := ho
  obtain ⟨rfl, rfl, rfl, rfl⟩ := xn_inv ho
  exact lv_istore C.1 C.2.1 hd hl hk rfl (fun _ hl' => kk _ _ _ S (xlv_st1 hl'))
theorem xs_istore_n {k : Fin 4} (C : xCx p R s m args meth c D ca M lv base h0) (X : xSX scr b base s) (S : xSt s D ca b base h0 h H locs) (hl : lv_has lsC (xmL M) (xlv b base ls)) (hd : decode (xmc M) pc = .ok (.istore_n k, len)) (ho : xO scr lv M pc len ls st h (.istore_n k) = some (.inl (pc', ls', st', h'))) (hc : h'.1 - h0.1 ≤ R.cells) (hs : h'.2.1 - h0.2.1 ≤ R.slots) (kk : ∀ (H' : Heap) (locs' : List Loc) (lsC' : Array Slot), xSt s D ca b base h0 h' H' locs' → lv_has lsC' (xmL M) (xlv b base ls') → xGo p l e R s m args below meth c Q b base h0 pc' st' h' lsC' H' locs') : xGo p l e R s m args below meth c Q b base h0 pc st h lsC H locs := by
  simp only [xO] at ho
  replace ho := if_inv ho
  obtain ⟨⟨rfl, hk⟩, ho⟩ := ho
  replace ho := xi1_inv ho
  obtain ⟨x, r, rfl, ho⟩ := ho
  obtain ⟨rfl, rfl, rfl, rfl⟩ := xn_inv ho
  exact lv_istore_n C.1 C.2.1 hd rfl hl hk rfl (fun _ hl' => kk _ _ _ S (xlv_st1 hl'))
theorem xs_lstore {k : Nat} (C : xCx p R s m args meth c D ca M lv base h0) (X : xSX scr b base s) (S : xSt s D ca b base h0 h H locs) (hl : lv_has lsC (xmL M) (xlv b base ls)) (hd : decode (xmc M) pc = .ok (.lstore k, len)) (ho : xO scr lv M pc len ls st h (.lstore k) = some (.inl (pc', ls', st', h'))) (hc : h'.1 - h0.1 ≤ R.cells) (hs : h'.2.1 - h0.2.1 ≤ R.slots) (kk : ∀ (H' : Heap) (locs' : List Loc) (lsC' : Array Slot), xSt s D ca b base h0 h' H' locs' → lv_has lsC' (xmL M) (xlv b base ls') → xGo p l e R s m args below meth c Q b base h0 pc' st' h' lsC' H' locs') : xGo p l e R s m args below meth c Q b base h0 pc st h lsC H locs := by
  simp only [xO] at ho
  replace ho := if_inv ho
  obtain ⟨⟨rfl, hk⟩, ho⟩ := ho
  replace ho := xl1_inv ho
  obtain ⟨x, r, rfl, ho⟩ := ho
  obtain ⟨rfl, rfl, rfl, rfl⟩ := xn_inv ho
  exact lv_lstore C.1 C.2.1 hd hl hk rfl (fun _ hl' => kk _ _ _ S (xlv_st2 hl'))
theorem xs_lstore_n {k : Fin 4} (C : xCx p R s m args meth c D ca M lv base h0) (X : xSX scr b base s) (S : xSt s D ca b base h0 h H locs) (hl : lv_has lsC (xmL M) (xlv b base ls)) (hd : decode (xmc M) pc = .ok (.lstore_n k, len)) (ho : xO scr lv M pc len ls st h (.lstore_n k) = some (.inl (pc', ls', st', h'))) (hc : h'.1 - h0.1 ≤ R.cells) (hs : h'.2.1 - h0.2.1 ≤ R.slots) (kk : ∀ (H' : Heap) (locs' : List Loc) (lsC' : Array Slot), xSt s D ca b base h0 h' H' locs' → lv_has lsC' (xmL M) (xlv b base ls') → xGo p l e R s m args below meth c Q b base h0 pc' st' h' lsC' H' locs') : xGo p l e R s m args below meth c Q b base h0 pc st h lsC H locs := by
  simp only [xO] at ho
  replace ho := if_inv ho
  obtain ⟨⟨rfl, hk⟩, ho⟩ := ho
  replace ho := xl1_inv ho
  obtain ⟨x, r, rfl, ho⟩ := ho
  obtain ⟨rfl, rfl, rfl, rfl⟩ := xn_inv ho
  exact lv_lstore_n C.1 C.2.1 hd rfl hl hk rfl (fun _ hl' => kk _ _ _ S (xlv_st2 hl'))
theorem xs_astore {k : Nat} (C : xCx p R s m args meth c D ca M lv base h0) (X : xSX scr b base s) (S : xSt s D ca b base h0 h H locs) (hl : lv_has lsC (xmL M) (xlv b base ls)) (hd : decode (xmc M) pc = .ok (.astore k, len)) (ho : xO scr lv M pc len ls st h (.astore k) = some (.inl (pc', ls', st', h'))) (hc : h'.1 - h0.1 ≤ R.cells) (hs : h'.2.1 - h0.2.1 ≤ R.slots) (kk : ∀ (H' : Heap) (locs' : List Loc) (lsC' : Array Slot), xSt s D ca b base h0 h' H' locs' → lv_has lsC' (xmL M) (xlv b base ls') → xGo p l e R s m args below meth c Q b base h0 pc' st' h' lsC' H' locs') : xGo p l e R s m args below meth c Q b base h0 pc st h lsC H locs := by
  simp only [xO] at ho
  replace ho := if_inv ho
  obtain ⟨⟨rfl, hk⟩, ho⟩ := ho
  replace ho := xr1_inv ho
  obtain ⟨x, r, rfl, ho⟩ := ho
  obtain ⟨rfl, rfl, rfl, rfl⟩ := xn_inv ho
  exact lv_astore C.1 C.2.1 hd hl hk rfl (fun _ hl' => kk _ _ _ S (xlv_st1 hl'))
theorem xs_astore_n {k : Fin 4} (C : xCx p R s m args meth c D ca M lv base h0) (X : xSX scr b base s) (S : xSt s D ca b base h0 h H locs) (hl : lv_has lsC (xmL M) (xlv b base ls)) (hd : decode (xmc M) pc = .ok (.astore_n k, len)) (ho : xO scr lv M pc len ls st h (.astore_n k) = some (.inl (pc', ls', st', h'))) (hc : h'.1 - h0.1 ≤ R.cells) (hs : h'.2.1 - h0.2.1 ≤ R.slots) (kk : ∀ (H' : Heap) (locs' : List Loc) (lsC' : Array Slot), xSt s D ca b base h0 h' H' locs' → lv_has lsC' (xmL M) (xlv b base ls') → xGo p l e R s m args below meth c Q b base h0 pc' st' h' lsC' H' locs') : xGo p l e R s m args below meth c Q b base h0 pc st h lsC H locs := by
  simp only [xO] at ho
  replace ho := if_inv ho
  obtain ⟨⟨rfl, hk⟩, ho⟩ := ho
  replace ho := xr1_inv ho
  obtain ⟨x, r, rfl, ho⟩ := ho
  obtain ⟨rfl, rfl, rfl, rfl⟩ := xn_inv ho
  exact lv_astore_n C.1 C.2.1 hd rfl hl hk rfl (fun _ hl' => kk _ _ _ S (xlv_st1 hl'))
theorem xs_iinc {k : Nat} {z : Int} (C : xCx p R s m args meth c D ca M lv base h0) (X : xSX scr b base s) (S : xSt s D ca b base h0 h H locs) (hl : lv_has lsC (xmL M) (xlv b base ls)) (hd : decode (xmc M) pc = .ok (.iinc k z, len)) (ho : xO scr lv M pc len ls st h (.iinc k z) = some (.inl (pc', ls', st', h'))) (hc : h'.1 - h0.1 ≤ R.cells) (hs : h'.2.1 - h0.2.1 ≤ R.slots) (kk : ∀ (H' : Heap) (locs' : List Loc) (lsC' : Array Slot), xSt s D ca b base h0 h' H' locs' → lv_has lsC' (xmL M) (xlv b base ls') → xGo p l e R s m args below meth c Q b base h0 pc' st' h' lsC' H' locs') : xGo p l e R s m args below meth c Q b base h0 pc st h lsC H locs := by
  simp only [xO] at ho
  replace ho := if_inv ho
  obtain ⟨⟨rfl, hk⟩, ho⟩ := ho
  replace ho := xlg_inv ho
  obtain ⟨v, hv, ho⟩ := ho
  replace ho := xi1_inv ho
  obtain ⟨x, r, hx, ho⟩ := ho
  cases hx
  obtain ⟨rfl, rfl, rfl, rfl⟩ := xn_inv ho
  obtain ⟨j, hj⟩ := List.getElem?_of_mem (xlv_mem (b := b) (base := base).mpr ⟨_, hv, rfl⟩)
  exact lv_iinc C.1 C.2.1 hd hl hj rfl hk rfl (fun _ hl' => kk _ _ _ S (xlv_st1 (v := .int (x + Int32.ofInt z)) hl'))
theorem xs_iadd (C : xCx p R s m args meth c D ca M lv base h0) (X : xSX scr b base s) (S : xSt s D ca b base h0 h H locs) (hl : lv_has lsC (xmL M) (xlv b base ls)) (hd : decode (xmc M) pc = .ok (.iadd, len)) (ho : xO scr lv M pc len ls st h (.iadd) = some (.inl (pc', ls', st', h'))) (hc : h'.1 - h0.1 ≤ R.cells) (hs : h'.2.1 - h0.2.1 ≤ R.slots) (kk : ∀ (H' : Heap) (locs' : List Loc) (lsC' : Array Slot), xSt s D ca b base h0 h' H' locs' → lv_has lsC' (xmL M) (xlv b base ls') → xGo p l e R s m args below meth c Q b base h0 pc' st' h' lsC' H' locs') : xGo p l e R s m args below meth c Q b base h0 pc st h lsC H locs := by
  simp only [xO] at ho
  replace ho := if_inv ho
  obtain ⟨rfl, ho⟩ := ho
  replace ho := xi2_inv ho
  obtain ⟨x, y, r, rfl, ho⟩ := ho
  obtain ⟨rfl, rfl, rfl, rfl⟩ := xn_inv ho
  exact lv_iadd C.1 C.2.1 hd (kk _ _ _ S hl)
theorem xs_isub (C : xCx p R s m args meth c D ca M lv base h0) (X : xSX scr b base s) (S : xSt s D ca b base h0 h H locs) (hl : lv_has lsC (xmL M) (xlv b base ls)) (hd : decode (xmc M) pc = .ok (.isub, len)) (ho : xO scr lv M pc len ls st h (.isub) = some (.inl (pc', ls', st', h'))) (hc : h'.1 - h0.1 ≤ R.cells) (hs : h'.2.1 - h0.2.1 ≤ R.slots) (kk : ∀ (H' : Heap) (locs' : List Loc) (lsC' : Array Slot), xSt s D ca b base h0 h' H' locs' → lv_has lsC' (xmL M) (xlv b base ls') → xGo p l e R s m args below meth c Q b base h0 pc' st' h' lsC' H' locs') : xGo p l e R s m args below meth c Q b base h0 pc st h lsC H locs := by
  simp only [xO] at ho
  replace ho := if_inv ho
  obtain ⟨rfl, ho⟩ := ho
  replace ho := xi2_inv ho
  obtain ⟨x, y, r, rfl, ho⟩ := ho
  obtain ⟨rfl, rfl, rfl, rfl⟩ := xn_inv ho
  exact lv_isub C.1 C.2.1 hd (kk _ _ _ S hl)
theorem xs_imul (C : xCx p R s m args meth c D ca M lv base h0) (X : xSX scr b base s) (S : xSt s D ca b base h0 h H locs) (hl : lv_has lsC (xmL M) (xlv b base ls)) (hd : decode (xmc M) pc = .ok (.imul, len)) (ho : xO scr lv M pc len ls st h (.imul) = some (.inl (pc', ls', st', h'))) (hc : h'.1 - h0.1 ≤ R.cells) (hs : h'.2.1 - h0.2.1 ≤ R.slots) (kk : ∀ (H' : Heap) (locs' : List Loc) (lsC' : Array Slot), xSt s D ca b base h0 h' H' locs' → lv_has lsC' (xmL M) (xlv b base ls') → xGo p l e R s m args below meth c Q b base h0 pc' st' h' lsC' H' locs') : xGo p l e R s m args below meth c Q b base h0 pc st h lsC H locs := by
  simp only [xO] at ho
  replace ho := if_inv ho
  obtain ⟨rfl, ho⟩ := ho
  replace ho := xi2_inv ho
  obtain ⟨x, y, r, rfl, ho⟩ := ho
  obtain ⟨rfl, rfl, rfl, rfl⟩ := xn_inv ho
  exact lv_imul C.1 C.2.1 hd (kk _ _ _ S hl)
theorem xs_iand (C : xCx p R s m args meth c D ca M lv base h0) (X : xSX scr b base s) (S : xSt s D ca b base h0 h H locs) (hl : lv_has lsC (xmL M) (xlv b base ls)) (hd : decode (xmc M) pc = .ok (.iand, len)) (ho : xO scr lv M pc len ls st h (.iand) = some (.inl (pc', ls', st', h'))) (hc : h'.1 - h0.1 ≤ R.cells) (hs : h'.2.1 - h0.2.1 ≤ R.slots) (kk : ∀ (H' : Heap) (locs' : List Loc) (lsC' : Array Slot), xSt s D ca b base h0 h' H' locs' → lv_has lsC' (xmL M) (xlv b base ls') → xGo p l e R s m args below meth c Q b base h0 pc' st' h' lsC' H' locs') : xGo p l e R s m args below meth c Q b base h0 pc st h lsC H locs := by
  simp only [xO] at ho
  replace ho := if_inv ho
  obtain ⟨rfl, ho⟩ := ho
  replace ho := xi2_inv ho
  obtain ⟨x, y, r, rfl, ho⟩ := ho
  obtain ⟨rfl, rfl, rfl, rfl⟩ := xn_inv ho
  exact lv_iand C.1 C.2.1 hd (kk _ _ _ S hl)
theorem xs_ior (C : xCx p R s m args meth c D ca M lv base h0) (X : xSX scr b base s) (S : xSt s D ca b base h0 h H locs) (hl : lv_has lsC (xmL M) (xlv b base ls)) (hd : decode (xmc M) pc = .ok (.ior, len)) (ho : xO scr lv M pc len ls st h (.ior) = some (.inl (pc', ls', st', h'))) (hc : h'.1 - h0.1 ≤ R.cells) (hs : h'.2.1 - h0.2.1 ≤ R.slots) (kk : ∀ (H' : Heap) (locs' : List Loc) (lsC' : Array Slot), xSt s D ca b base h0 h' H' locs' → lv_has lsC' (xmL M) (xlv b base ls') → xGo p l e R s m args below meth c Q b base h0 pc' st' h' lsC' H' locs') : xGo p l e R s m args below meth c Q b base h0 pc st h lsC H locs := by
  simp only [xO] at ho
  replace ho := if_inv ho
  obtain ⟨rfl, ho⟩ := ho
  replace ho := xi2_inv ho
  obtain ⟨x, y, r, rfl, ho⟩ := ho
  obtain ⟨rfl, rfl, rfl, rfl⟩ := xn_inv ho
  exact lv_ior C.1 C.2.1 hd (kk _ _ _ S hl)
theorem xs_ixor (C : xCx p R s m args meth c D ca M lv base h0) (X : xSX scr b base s) (S : xSt s D ca b base h0 h H locs) (hl : lv_has lsC (xmL M) (xlv b base ls)) (hd : decode (xmc M) pc = .ok (.ixor, len)) (ho : xO scr lv M pc len ls st h (.ixor) = some (.inl (pc', ls', st', h'))) (hc : h'.1 - h0.1 ≤ R.cells) (hs : h'.2.1 - h0.2.1 ≤ R.slots) (kk : ∀ (H' : Heap) (locs' : List Loc) (lsC' : Array Slot), xSt s D ca b base h0 h' H' locs' → lv_has lsC' (xmL M) (xlv b base ls') → xGo p l e R s m args below meth c Q b base h0 pc' st' h' lsC' H' locs') : xGo p l e R s m args below meth c Q b base h0 pc st h lsC H locs := by
  simp only [xO] at ho
  replace ho := if_inv ho
  obtain ⟨rfl, ho⟩ := ho
  replace ho := xi2_inv ho
  obtain ⟨x, y, r, rfl, ho⟩ := ho
  obtain ⟨rfl, rfl, rfl, rfl⟩ := xn_inv ho
  exact lv_ixor C.1 C.2.1 hd (kk _ _ _ S hl)
theorem xs_ishl (C : xCx p R s m args meth c D ca M lv base h0) (X : xSX scr b base s) (S : xSt s D ca b base h0 h H locs) (hl : lv_has lsC (xmL M) (xlv b base ls)) (hd : decode (xmc M) pc = .ok (.ishl, len)) (ho : xO scr lv M pc len ls st h (.ishl) = some (.inl (pc', ls', st', h'))) (hc : h'.1 - h0.1 ≤ R.cells) (hs : h'.2.1 - h0.2.1 ≤ R.slots) (kk : ∀ (H' : Heap) (locs' : List Loc) (lsC' : Array Slot), xSt s D ca b base h0 h' H' locs' → lv_has lsC' (xmL M) (xlv b base ls') → xGo p l e R s m args below meth c Q b base h0 pc' st' h' lsC' H' locs') : xGo p l e R s m args below meth c Q b base h0 pc st h lsC H locs := by
  simp only [xO] at ho
  replace ho := if_inv ho
  obtain ⟨rfl, ho⟩ := ho
  replace ho := xi2_inv ho
  obtain ⟨x, y, r, rfl, ho⟩ := ho
  obtain ⟨rfl, rfl, rfl, rfl⟩ := xn_inv ho
  exact lv_ishl C.1 C.2.1 hd (kk _ _ _ S hl)
theorem xs_ishr (C : xCx p R s m args meth c D ca M lv base h0) (X : xSX scr b base s) (S : xSt s D ca b base h0 h H locs) (hl : lv_has lsC (xmL M) (xlv b base ls)) (hd : decode (xmc M) pc = .ok (.ishr, len)) (ho : xO scr lv M pc len ls st h (.ishr) = some (.inl (pc', ls', st', h'))) (hc : h'.1 - h0.1 ≤ R.cells) (hs : h'.2.1 - h0.2.1 ≤ R.slots) (kk : ∀ (H' : Heap) (locs' : List Loc) (lsC' : Array Slot), xSt s D ca b base h0 h' H' locs' → lv_has lsC' (xmL M) (xlv b base ls') → xGo p l e R s m args below meth c Q b base h0 pc' st' h' lsC' H' locs') : xGo p l e R s m args below meth c Q b base h0 pc st h lsC H locs := by
  simp only [xO] at ho
  replace ho := if_inv ho
  obtain ⟨rfl, ho⟩ := ho
  replace ho := xi2_inv ho
  obtain ⟨x, y, r, rfl, ho⟩ := ho
  obtain ⟨rfl, rfl, rfl, rfl⟩ := xn_inv ho
  exact lv_ishr C.1 C.2.1 hd (kk _ _ _ S hl)
theorem xs_iushr (C : xCx p R s m args meth c D ca M lv base h0) (X : xSX scr b base s) (S : xSt s D ca b base h0 h H locs) (hl : lv_has lsC (xmL M) (xlv b base ls)) (hd : decode (xmc M) pc = .ok (.iushr, len)) (ho : xO scr lv M pc len ls st h (.iushr) = some (.inl (pc', ls', st', h'))) (hc : h'.1 - h0.1 ≤ R.cells) (hs : h'.2.1 - h0.2.1 ≤ R.slots) (kk : ∀ (H' : Heap) (locs' : List Loc) (lsC' : Array Slot), xSt s D ca b base h0 h' H' locs' → lv_has lsC' (xmL M) (xlv b base ls') → xGo p l e R s m args below meth c Q b base h0 pc' st' h' lsC' H' locs') : xGo p l e R s m args below meth c Q b base h0 pc st h lsC H locs := by
  simp only [xO] at ho
  replace ho := if_inv ho
  obtain ⟨rfl, ho⟩ := ho
  replace ho := xi2_inv ho
  obtain ⟨x, y, r, rfl, ho⟩ := ho
  obtain ⟨rfl, rfl, rfl, rfl⟩ := xn_inv ho
  exact lv_iushr C.1 C.2.1 hd rfl (kk _ _ _ S hl)
theorem xs_idiv (C : xCx p R s m args meth c D ca M lv base h0) (X : xSX scr b base s) (S : xSt s D ca b base h0 h H locs) (hl : lv_has lsC (xmL M) (xlv b base ls)) (hd : decode (xmc M) pc = .ok (.idiv, len)) (ho : xO scr lv M pc len ls st h (.idiv) = some (.inl (pc', ls', st', h'))) (hc : h'.1 - h0.1 ≤ R.cells) (hs : h'.2.1 - h0.2.1 ≤ R.slots) (kk : ∀ (H' : Heap) (locs' : List Loc) (lsC' : Array Slot), xSt s D ca b base h0 h' H' locs' → lv_has lsC' (xmL M) (xlv b base ls') → xGo p l e R s m args below meth c Q b base h0 pc' st' h' lsC' H' locs') : xGo p l e R s m args below meth c Q b base h0 pc st h lsC H locs := by
  simp only [xO] at ho
  replace ho := if_inv ho
  obtain ⟨rfl, ho⟩ := ho
  replace ho := xi2_inv ho
  obtain ⟨x, y, r, rfl, ho⟩ := ho
  replace ho := if_invn ho
  obtain ⟨hy, ho⟩ := ho
  obtain ⟨rfl, rfl, rfl, rfl⟩ := xn_inv ho
  exact lv_idiv C.1 C.2.1 hd hy (kk _ _ _ S hl)
theorem xs_irem (C : xCx p R s m args meth c D ca M lv base h0) (X : xSX scr b base s) (S : xSt s D ca b base h0 h H locs) (hl : lv_has lsC (xmL M) (xlv b base ls)) (hd : decode (xmc M) pc = .ok (.irem, len)) (ho : xO scr lv M pc len ls st h (.irem) = some (.inl (pc', ls', st', h'))) (hc : h'.1 - h0.1 ≤ R.cells) (hs : h'.2.1 - h0.2.1 ≤ R.slots) (kk : ∀ (H' : Heap) (locs' : List Loc) (lsC' : Array Slot), xSt s D ca b base h0 h' H' locs' → lv_has lsC' (xmL M) (xlv b base ls') → xGo p l e R s m args below meth c Q b base h0 pc' st' h' lsC' H' locs') : xGo p l e R s m args below meth c Q b base h0 pc st h lsC H locs := by
  simp only [xO] at ho
  replace ho := if_inv ho
  obtain ⟨rfl, ho⟩ := ho
  replace ho := xi2_inv ho
  obtain ⟨x, y, r, rfl, ho⟩ := ho
  replace ho := if_invn ho
  obtain ⟨hy, ho⟩ := ho
  obtain ⟨rfl, rfl, rfl, rfl⟩ := xn_inv ho
  exact lv_irem C.1 C.2.1 hd hy (kk _ _ _ S hl)
theorem xs_ladd (C : xCx p R s m args meth c D ca M lv base h0) (X : xSX scr b base s) (S : xSt s D ca b base h0 h H locs) (hl : lv_has lsC (xmL M) (xlv b base ls)) (hd : decode (xmc M) pc = .ok (.ladd, len)) (ho : xO scr lv M pc len ls st h (.ladd) = some (.inl (pc', ls', st', h'))) (hc : h'.1 - h0.1 ≤ R.cells) (hs : h'.2.1 - h0.2.1 ≤ R.slots) (kk : ∀ (H' : Heap) (locs' : List Loc) (lsC' : Array Slot), xSt s D ca b base h0 h' H' locs' → lv_has lsC' (xmL M) (xlv b base ls') → xGo p l e R s m args below meth c Q b base h0 pc' st' h' lsC' H' locs') : xGo p l e R s m args below meth c Q b base h0 pc st h lsC H locs := by
  simp only [xO] at ho
  replace ho := if_inv ho
  obtain ⟨rfl, ho⟩ := ho
  replace ho := xl2_inv ho
  obtain ⟨x, y, r, rfl, ho⟩ := ho
  obtain ⟨rfl, rfl, rfl, rfl⟩ := xn_inv ho
  exact lv_ladd C.1 C.2.1 hd (kk _ _ _ S hl)
theorem xs_lmul (C : xCx p R s m args meth c D ca M lv base h0) (X : xSX scr b base s) (S : xSt s D ca b base h0 h H locs) (hl : lv_has lsC (xmL M) (xlv b base ls)) (hd : decode (xmc M) pc = .ok (.lmul, len)) (ho : xO scr lv M pc len ls st h (.lmul) = some (.inl (pc', ls', st', h'))) (hc : h'.1 - h0.1 ≤ R.cells) (hs : h'.2.1 - h0.2.1 ≤ R.slots) (kk : ∀ (H' : Heap) (locs' : List Loc) (lsC' : Array Slot), xSt s D ca b base h0 h' H' locs' → lv_has lsC' (xmL M) (xlv b base ls') → xGo p l e R s m args below meth c Q b base h0 pc' st' h' lsC' H' locs') : xGo p l e R s m args below meth c Q b base h0 pc st h lsC H locs := by
  simp only [xO] at ho
  replace ho := if_inv ho
  obtain ⟨rfl, ho⟩ := ho
  replace ho := xl2_inv ho
  obtain ⟨x, y, r, rfl, ho⟩ := ho
  obtain ⟨rfl, rfl, rfl, rfl⟩ := xn_inv ho
  exact lv_lmul C.1 C.2.1 hd (kk _ _ _ S hl)
theorem xs_land (C : xCx p R s m args meth c D ca M lv base h0) (X : xSX scr b base s) (S : xSt s D ca b base h0 h H locs) (hl : lv_has lsC (xmL M) (xlv b base ls)) (hd : decode (xmc M) pc = .ok (.land, len)) (ho : xO scr lv M pc len ls st h (.land) = some (.inl (pc', ls', st', h'))) (hc : h'.1 - h0.1 ≤ R.cells) (hs : h'.2.1 - h0.2.1 ≤ R.slots) (kk : ∀ (H' : Heap) (locs' : List Loc) (lsC' : Array Slot), xSt s D ca b base h0 h' H' locs' → lv_has lsC' (xmL M) (xlv b base ls') → xGo p l e R s m args below meth c Q b base h0 pc' st' h' lsC' H' locs') : xGo p l e R s m args below meth c Q b base h0 pc st h lsC H locs := by
  simp only [xO] at ho
  replace ho := if_inv ho
  obtain ⟨rfl, ho⟩ := ho
  replace ho := xl2_inv ho
  obtain ⟨x, y, r, rfl, ho⟩ := ho
  obtain ⟨rfl, rfl, rfl, rfl⟩ := xn_inv ho
  exact lv_land C.1 C.2.1 hd (kk _ _ _ S hl)
theorem xs_lor (C : xCx p R s m args meth c D ca M lv base h0) (X : xSX scr b base s) (S : xSt s D ca b base h0 h H locs) (hl : lv_has lsC (xmL M) (xlv b base ls)) (hd : decode (xmc M) pc = .ok (.lor, len)) (ho : xO scr lv M pc len ls st h (.lor) = some (.inl (pc', ls', st', h'))) (hc : h'.1 - h0.1 ≤ R.cells) (hs : h'.2.1 - h0.2.1 ≤ R.slots) (kk : ∀ (H' : Heap) (locs' : List Loc) (lsC' : Array Slot), xSt s D ca b base h0 h' H' locs' → lv_has lsC' (xmL M) (xlv b base ls') → xGo p l e R s m args below meth c Q b base h0 pc' st' h' lsC' H' locs') : xGo p l e R s m args below meth c Q b base h0 pc st h lsC H locs := by
  simp only [xO] at ho
  replace ho := if_inv ho
  obtain ⟨rfl, ho⟩ := ho
  replace ho := xl2_inv ho
  obtain ⟨x, y, r, rfl, ho⟩ := ho
  obtain ⟨rfl, rfl, rfl, rfl⟩ := xn_inv ho
  exact lv_lor C.1 C.2.1 hd (kk _ _ _ S hl)
theorem xs_ldiv (C : xCx p R s m args meth c D ca M lv base h0) (X : xSX scr b base s) (S : xSt s D ca b base h0 h H locs) (hl : lv_has lsC (xmL M) (xlv b base ls)) (hd : decode (xmc M) pc = .ok (.ldiv, len)) (ho : xO scr lv M pc len ls st h (.ldiv) = some (.inl (pc', ls', st', h'))) (hc : h'.1 - h0.1 ≤ R.cells) (hs : h'.2.1 - h0.2.1 ≤ R.slots) (kk : ∀ (H' : Heap) (locs' : List Loc) (lsC' : Array Slot), xSt s D ca b base h0 h' H' locs' → lv_has lsC' (xmL M) (xlv b base ls') → xGo p l e R s m args below meth c Q b base h0 pc' st' h' lsC' H' locs') : xGo p l e R s m args below meth c Q b base h0 pc st h lsC H locs := by
  simp only [xO] at ho
  replace ho := if_inv ho
  obtain ⟨rfl, ho⟩ := ho
  replace ho := xl2_inv ho
  obtain ⟨x, y, r, rfl, ho⟩ := ho
  replace ho := if_invn ho
  obtain ⟨hy, ho⟩ := ho
  obtain ⟨rfl, rfl, rfl, rfl⟩ := xn_inv ho
  exact lv_ldiv C.1 C.2.1 hd hy (kk _ _ _ S hl)
theorem xs_lrem (C : xCx p R s m args meth c D ca M lv base h0) (X : xSX scr b base s) (S : xSt s D ca b base h0 h H locs) (hl : lv_has lsC (xmL M) (xlv b base ls)) (hd : decode (xmc M) pc = .ok (.lrem, len)) (ho : xO scr lv M pc len ls st h (.lrem) = some (.inl (pc', ls', st', h'))) (hc : h'.1 - h0.1 ≤ R.cells) (hs : h'.2.1 - h0.2.1 ≤ R.slots) (kk : ∀ (H' : Heap) (locs' : List Loc) (lsC' : Array Slot), xSt s D ca b base h0 h' H' locs' → lv_has lsC' (xmL M) (xlv b base ls') → xGo p l e R s m args below meth c Q b base h0 pc' st' h' lsC' H' locs') : xGo p l e R s m args below meth c Q b base h0 pc st h lsC H locs := by
  simp only [xO] at ho
  replace ho := if_inv ho
  obtain ⟨rfl, ho⟩ := ho
  replace ho := xl2_inv ho
  obtain ⟨x, y, r, rfl, ho⟩ := ho
  replace ho := if_invn ho
  obtain ⟨hy, ho⟩ := ho
  obtain ⟨rfl, rfl, rfl, rfl⟩ := xn_inv ho
  exact lv_lrem C.1 C.2.1 hd hy (kk _ _ _ S hl)
theorem xs_lcmp (C : xCx p R s m args meth c D ca M lv base h0) (X : xSX scr b base s) (S : xSt s D ca b base h0 h H locs) (hl : lv_has lsC (xmL M) (xlv b base ls)) (hd : decode (xmc M) pc = .ok (.lcmp, len)) (ho : xO scr lv M pc len ls st h (.lcmp) = some (.inl (pc', ls', st', h'))) (hc : h'.1 - h0.1 ≤ R.cells) (hs : h'.2.1 - h0.2.1 ≤ R.slots) (kk : ∀ (H' : Heap) (locs' : List Loc) (lsC' : Array Slot), xSt s D ca b base h0 h' H' locs' → lv_has lsC' (xmL M) (xlv b base ls') → xGo p l e R s m args below meth c Q b base h0 pc' st' h' lsC' H' locs') : xGo p l e R s m args below meth c Q b base h0 pc st h lsC H locs := by
  simp only [xO] at ho
  replace ho := if_inv ho
  obtain ⟨rfl, ho⟩ := ho
  replace ho := xl2_inv ho
  obtain ⟨x, y, r, rfl, ho⟩ := ho
  obtain ⟨rfl, rfl, rfl, rfl⟩ := xn_inv ho
  exact W.lcmp C.1 C.2.1 hd (kk _ _ _ S hl)
theorem xs_lshl (C : xCx p R s m args meth c D ca M lv base h0) (X : xSX scr b base s) (S : xSt s D ca b base h0 h H locs) (hl : lv_has lsC (xmL M) (xlv b base ls)) (hd : decode (xmc M) pc = .ok (.lshl, len)) (ho : xO scr lv M pc len ls st h (.lshl) = some (.inl (pc', ls', st', h'))) (hc : h'.1 - h0.1 ≤ R.cells) (hs : h'.2.1 - h0.2.1 ≤ R.slots) (kk : ∀ (H' : Heap) (locs' : List Loc) (lsC' : Array Slot), xSt s D ca b base h0 h' H' locs' → lv_has lsC' (xmL M) (xlv b base ls') → xGo p l e R s m args below meth c Q b base h0 pc' st' h' lsC' H' locs') : xGo p l e R s m args below meth c Q b base h0 pc st h lsC H locs := by
  simp only [xO] at ho
  replace ho := if_inv ho
  obtain ⟨rfl, ho⟩ := ho
  replace ho := xli_inv ho
  obtain ⟨x, y, r, rfl, ho⟩ := ho
  obtain ⟨rfl, rfl, rfl, rfl⟩ := xn_inv ho
  exact lv_lshl C.1 C.2.1 hd rfl (kk _ _ _ S hl)
theorem xs_lshr (C : xCx p R s m args meth c D ca M lv base h0) (X : xSX scr b base s) (S : xSt s D ca b base h0 h H locs) (hl : lv_has lsC (xmL M) (xlv b base ls)) (hd : decode (xmc M) pc = .ok (.lshr, len)) (ho : xO scr lv M pc len ls st h (.lshr) = some (.inl (pc', ls', st', h'))) (hc : h'.1 - h0.1 ≤ R.cells) (hs : h'.2.1 - h0.2.1 ≤ R.slots) (kk : ∀ (H' : Heap) (locs' : List Loc) (lsC' : Array Slot), xSt s D ca b base h0 h' H' locs' → lv_has lsC' (xmL M) (xlv b base ls') → xGo p l e R s m args below meth c Q b base h0 pc' st' h' lsC' H' locs') : xGo p l e R s m args below meth c Q b base h0 pc st h lsC H locs := by
  simp only [xO] at ho
  replace ho := if_inv ho
  obtain ⟨rfl, ho⟩ := ho
  replace ho := xli_inv ho
  obtain ⟨x, y, r, rfl, ho⟩ := ho
  obtain ⟨rfl, rfl, rfl, rfl⟩ := xn_inv ho
  exact lv_lshr C.1 C.2.1 hd rfl (kk _ _ _ S hl)
theorem xs_lushr (C : xCx p R s m args meth c D ca M lv base h0) (X : xSX scr b base s) (S : xSt s D ca b base h0 h H locs) (hl : lv_has lsC (xmL M) (xlv b base ls)) (hd : decode (xmc M) pc = .ok (.lushr, len)) (ho : xO scr lv M pc len ls st h (.lushr) = some (.inl (pc', ls', st', h'))) (hc : h'.1 - h0.1 ≤ R.cells) (hs : h'.2.1 - h0.2.1 ≤ R.slots) (kk : ∀ (H' : Heap) (locs' : List Loc) (lsC' : Array Slot), xSt s D ca b base h0 h' H' locs' → lv_has lsC' (xmL M) (xlv b base ls') → xGo p l e R s m args below meth c Q b base h0 pc' st' h' lsC' H' locs') : xGo p l e R s m args below meth c Q b base h0 pc st h lsC H locs := by
  simp only [xO] at ho
  replace ho := if_inv ho
  obtain ⟨rfl, ho⟩ := ho
  replace ho := xli_inv ho
  obtain ⟨x, y, r, rfl, ho⟩ := ho
  obtain ⟨rfl, rfl, rfl, rfl⟩ := xn_inv ho
  exact lv_lushr C.1 C.2.1 hd rfl (kk _ _ _ S hl)
theorem xs_i2l (C : xCx p R s m args meth c D ca M lv base h0) (X : xSX scr b base s) (S : xSt s D ca b base h0 h H locs) (hl : lv_has lsC (xmL M) (xlv b base ls)) (hd : decode (xmc M) pc = .ok (.i2l, len)) (ho : xO scr lv M pc len ls st h (.i2l) = some (.inl (pc', ls', st', h'))) (hc : h'.1 - h0.1 ≤ R.cells) (hs : h'.2.1 - h0.2.1 ≤ R.slots) (kk : ∀ (H' : Heap) (locs' : List Loc) (lsC' : Array Slot), xSt s D ca b base h0 h' H' locs' → lv_has lsC' (xmL M) (xlv b base ls') → xGo p l e R s m args below meth c Q b base h0 pc' st' h' lsC' H' locs') : xGo p l e R s m args below meth c Q b base h0 pc st h lsC H locs := by
  simp only [xO] at ho
  replace ho := if_inv ho
  obtain ⟨rfl, ho⟩ := ho
  replace ho := xi1_inv ho
  obtain ⟨x, r, rfl, ho⟩ := ho
  obtain ⟨rfl, rfl, rfl, rfl⟩ := xn_inv ho
  exact lv_i2l C.1 C.2.1 hd rfl (kk _ _ _ S hl)
theorem xs_l2i (C : xCx p R s m args meth c D ca M lv base h0) (X : xSX scr b base s) (S : xSt s D ca b base h0 h H locs) (hl : lv_has lsC (xmL M) (xlv b base ls)) (hd : decode (xmc M) pc = .ok (.l2i, len)) (ho : xO scr lv M pc len ls st h (.l2i) = some (.inl (pc', ls', st', h'))) (hc : h'.1 - h0.1 ≤ R.cells) (hs : h'.2.1 - h0.2.1 ≤ R.slots) (kk : ∀ (H' : Heap) (locs' : List Loc) (lsC' : Array Slot), xSt s D ca b base h0 h' H' locs' → lv_has lsC' (xmL M) (xlv b base ls') → xGo p l e R s m args below meth c Q b base h0 pc' st' h' lsC' H' locs') : xGo p l e R s m args below meth c Q b base h0 pc st h lsC H locs := by
  simp only [xO] at ho
  replace ho := if_inv ho
  obtain ⟨rfl, ho⟩ := ho
  replace ho := xl1_inv ho
  obtain ⟨x, r, rfl, ho⟩ := ho
  obtain ⟨rfl, rfl, rfl, rfl⟩ := xn_inv ho
  exact lv_l2i C.1 C.2.1 hd rfl (kk _ _ _ S hl)
theorem xs_dup (C : xCx p R s m args meth c D ca M lv base h0) (X : xSX scr b base s) (S : xSt s D ca b base h0 h H locs) (hl : lv_has lsC (xmL M) (xlv b base ls)) (hd : decode (xmc M) pc = .ok (.dup, len)) (ho : xO scr lv M pc len ls st h (.dup) = some (.inl (pc', ls', st', h'))) (hc : h'.1 - h0.1 ≤ R.cells) (hs : h'.2.1 - h0.2.1 ≤ R.slots) (kk : ∀ (H' : Heap) (locs' : List Loc) (lsC' : Array Slot), xSt s D ca b base h0 h' H' locs' → lv_has lsC' (xmL M) (xlv b base ls') → xGo p l e R s m args below meth c Q b base h0 pc' st' h' lsC' H' locs') : xGo p l e R s m args below meth c Q b base h0 pc st h lsC H locs := by
  simp only [xO] at ho
  replace ho := if_inv ho
  obtain ⟨rfl, ho⟩ := ho
  split at ho
  · rename_i v r
    replace ho := if_inv ho
    obtain ⟨hv, ho⟩ := ho
    obtain ⟨rfl, rfl, rfl, rfl⟩ := xn_inv ho
    exact lv_dup C.1 C.2.1 hd (by rw [xcv_cat]; exact hv) (kk _ _ _ S hl)
  · cases ho
theorem xs_pop (C : xCx p R s m args meth c D ca M lv base h0) (X : xSX scr b base s) (S : xSt s D ca b base h0 h H locs) (hl : lv_has lsC (xmL M) (xlv b base ls)) (hd : decode (xmc M) pc = .ok (.pop, len)) (ho : xO scr lv M pc len ls st h (.pop) = some (.inl (pc', ls', st', h'))) (hc : h'.1 - h0.1 ≤ R.cells) (hs : h'.2.1 - h0.2.1 ≤ R.slots) (kk : ∀ (H' : Heap) (locs' : List Loc) (lsC' : Array Slot), xSt s D ca b base h0 h' H' locs' → lv_has lsC' (xmL M) (xlv b base ls') → xGo p l e R s m args below meth c Q b base h0 pc' st' h' lsC' H' locs') : xGo p l e R s m args below meth c Q b base h0 pc st h lsC H locs := by
  simp only [xO] at ho
  replace ho := if_inv ho
  obtain ⟨rfl, ho⟩ := ho
  split at ho
  · rename_i v r
    replace ho := if_inv ho
    obtain ⟨hv, ho⟩ := ho
    obtain ⟨rfl, rfl, rfl, rfl⟩ := xn_inv ho
    exact lv_pop C.1 C.2.1 hd (by rw [xcv_cat]; exact hv) (kk _ _ _ S hl)
  · cases ho
theorem xs_dup2 (C : xCx p R s m args meth c D ca M lv base h0) (X : xSX scr b base s) (S : xSt s D ca b base h0 h H locs) (hl : lv_has lsC (xmL M) (xlv b base ls)) (hd : decode (xmc M) pc = .ok (.dup2, len)) (ho : xO scr lv M pc len ls st h (.dup2) = some (.inl (pc', ls', st', h'))) (hc : h'.1 - h0.1 ≤ R.cells) (hs : h'.2.1 - h0.2.1 ≤ R.slots) (kk : ∀ (H' : Heap) (locs' : List Loc) (lsC' : Array Slot), xSt s D ca b base h0 h' H' locs' → lv_has lsC' (xmL M) (xlv b base ls') → xGo p l e R s m args below meth c Q b base h0 pc' st' h' lsC' H' locs') : xGo p l e R s m args below meth c Q b base h0 pc st h lsC H locs := by
  simp only [xO] at ho
  replace ho := if_inv ho
  obtain ⟨rfl, ho⟩ := ho
  split at ho
  · rename_i v w r
    by_cases hv : v.category = 1 ∧ w.category = 1
    · rw [if_pos hv] at ho
      obtain ⟨rfl, rfl, rfl, rfl⟩ := xn_inv ho
      exact lv_dup2_11 C.1 C.2.1 hd (by rw [xcv_cat]; exact hv.1) (by rw [xcv_cat]; exact hv.2) (kk _ _ _ S hl)
    · rw [if_neg hv] at ho
      replace ho := if_inv ho
      obtain ⟨hv2, ho⟩ := ho
      obtain ⟨rfl, rfl, rfl, rfl⟩ := xn_inv ho
      exact lv_dup2_2 C.1 C.2.1 hd (by rw [xcv_cat]; exact hv2) (kk _ _ _ S hl)
  · rename_i v
    replace ho := if_inv ho
    obtain ⟨hv2, ho⟩ := ho
    obtain ⟨rfl, rfl, rfl, rfl⟩ := xn_inv ho
    exact lv_dup2_2 C.1 C.2.1 hd (by rw [xcv_cat]; exact hv2) (kk _ _ _ S hl)
  · cases ho
theorem xs_if_eq {off : Int} (C : xCx p R s m args meth c D ca M lv base h0) (X : xSX scr b base s) (S : xSt s D ca b base h0 h H locs) (hl : lv_has lsC (xmL M) (xlv b base ls)) (hd : decode (xmc M) pc = .ok (.ifCond .eq off, len)) (ho : xO scr lv M pc len ls st h (.ifCond .eq off) = some (.inl (pc', ls', st', h'))) (hc : h'.1 - h0.1 ≤ R.cells) (hs : h'.2.1 - h0.2.1 ≤ R.slots) (kk : ∀ (H' : Heap) (locs' : List Loc) (lsC' : Array Slot), xSt s D ca b base h0 h' H' locs' → lv_has lsC' (xmL M) (xlv b base ls') → xGo p l e R s m args below meth c Q b base h0 pc' st' h' lsC' H' locs') : xGo p l e R s m args below meth c Q b base h0 pc st h lsC H locs := by
  simp only [xO] at ho
  replace ho := if_inv ho
  obtain ⟨rfl, ho⟩ := ho
  replace ho := xi1_inv ho
  obtain ⟨x, r, rfl, ho⟩ := ho
  replace ho := xtg_inv ho
  obtain ⟨t, ht, ho⟩ := ho
  by_cases hc' : xcm .eq x 0 = true
  · rw [if_pos hc'] at ho
    obtain ⟨rfl, rfl, rfl, rfl⟩ := xn_inv ho
    exact lv_if_eq C.1 C.2.1 hd ht (fun _ => kk _ _ _ S hl) (fun q => absurd (of_decide_eq_true hc') q)
  · rw [if_neg hc'] at ho
    obtain ⟨rfl, rfl, rfl, rfl⟩ := xn_inv ho
    exact lv_if_eq C.1 C.2.1 hd ht (fun q => absurd (decide_eq_true q) hc') (fun _ => kk _ _ _ S hl)
theorem xs_icmp_eq {off : Int} (C : xCx p R s m args meth c D ca M lv base h0) (X : xSX scr b base s) (S : xSt s D ca b base h0 h H locs) (hl : lv_has lsC (xmL M) (xlv b base ls)) (hd : decode (xmc M) pc = .ok (.if_icmp .eq off, len)) (ho : xO scr lv M pc len ls st h (.if_icmp .eq off) = some (.inl (pc', ls', st', h'))) (hc : h'.1 - h0.1 ≤ R.cells) (hs : h'.2.1 - h0.2.1 ≤ R.slots) (kk : ∀ (H' : Heap) (locs' : List Loc) (lsC' : Array Slot), xSt s D ca b base h0 h' H' locs' → lv_has lsC' (xmL M) (xlv b base ls') → xGo p l e R s m args below meth c Q b base h0 pc' st' h' lsC' H' locs') : xGo p l e R s m args below meth c Q b base h0 pc st h lsC H locs := by
  simp only [xO] at ho
  replace ho := if_inv ho
  obtain ⟨rfl, ho⟩ := ho
  replace ho := xi2_inv ho
  obtain ⟨x, y, r, rfl, ho⟩ := ho
  replace ho := xtg_inv ho
  obtain ⟨t, ht, ho⟩ := ho
  by_cases hc' : xcm .eq x y = true
  · rw [if_pos hc'] at ho
    obtain ⟨rfl, rfl, rfl, rfl⟩ := xn_inv ho
    exact lv_icmp_eq C.1 C.2.1 hd ht (fun _ => kk _ _ _ S hl) (fun q => absurd (of_decide_eq_true hc') q)
  · rw [if_neg hc'] at ho
    obtain ⟨rfl, rfl, rfl, rfl⟩ := xn_inv ho
    exact lv_icmp_eq C.1 C.2.1 hd ht (fun q => absurd (decide_eq_true q) hc') (fun _ => kk _ _ _ S hl)
theorem xs_if_ne {off : Int} (C : xCx p R s m args meth c D ca M lv base h0) (X : xSX scr b base s) (S : xSt s D ca b base h0 h H locs) (hl : lv_has lsC (xmL M) (xlv b base ls)) (hd : decode (xmc M) pc = .ok (.ifCond .ne off, len)) (ho : xO scr lv M pc len ls st h (.ifCond .ne off) = some (.inl (pc', ls', st', h'))) (hc : h'.1 - h0.1 ≤ R.cells) (hs : h'.2.1 - h0.2.1 ≤ R.slots) (kk : ∀ (H' : Heap) (locs' : List Loc) (lsC' : Array Slot), xSt s D ca b base h0 h' H' locs' → lv_has lsC' (xmL M) (xlv b base ls') → xGo p l e R s m args below meth c Q b base h0 pc' st' h' lsC' H' locs') : xGo p l e R s m args below meth c Q b base h0 pc st h lsC H locs := by
  simp only [xO] at ho
  replace ho := if_inv ho
  obtain ⟨rfl, ho⟩ := ho
  replace ho := xi1_inv ho
  obtain ⟨x, r, rfl, ho⟩ := ho
  replace ho := xtg_inv ho
  obtain ⟨t, ht, ho⟩ := ho
  by_cases hc' : xcm .ne x 0 = true
  · rw [if_pos hc'] at ho
    obtain ⟨rfl, rfl, rfl, rfl⟩ := xn_inv ho
    exact lv_if_ne C.1 C.2.1 hd ht (fun _ => kk _ _ _ S hl) (fun q => absurd q (of_decide_eq_true hc'))
  · rw [if_neg hc'] at ho
    obtain ⟨rfl, rfl, rfl, rfl⟩ := xn_inv ho
    exact lv_if_ne C.1 C.2.1 hd ht (fun q => absurd (decide_eq_true q) hc') (fun _ => kk _ _ _ S hl)
theorem xs_icmp_ne {off : Int} (C : xCx p R s m args meth c D ca M lv base h0) (X : xSX scr b base s) (S : xSt s D ca b base h0 h H locs) (hl : lv_has lsC (xmL M) (xlv b base ls)) (hd : decode (xmc M) pc = .ok (.if_icmp .ne off, len)) (ho : xO scr lv M pc len ls st h (.if_icmp .ne off) = some (.inl (pc', ls', st', h'))) (hc : h'.1 - h0.1 ≤ R.cells) (hs : h'.2.1 - h0.2.1 ≤ R.slots) (kk : ∀ (H' : Heap) (locs' : List Loc) (lsC' : Array Slot), xSt s D ca b base h0 h' H' locs' → lv_has lsC' (xmL M) (xlv b base ls') → xGo p l e R s m args below meth c Q b base h0 pc' st' h' lsC' H' locs') : xGo p l e R s m args below meth c Q b base h0 pc st h lsC H locs := by
  simp only [xO] at ho
  replace ho := if_inv ho
  obtain ⟨rfl, ho⟩ := ho
  replace ho := xi2_inv ho
  obtain ⟨x, y, r, rfl, ho⟩ := ho
  replace ho := xtg_inv ho
  obtain ⟨t, ht, ho⟩ := ho
  by_cases hc' : xcm .ne x y = true
  · rw [if_pos hc'] at ho
    obtain ⟨rfl, rfl, rfl, rfl⟩ := xn_inv ho
    exact lv_icmp_ne C.1 C.2.1 hd ht (fun _ => kk _ _ _ S hl) (fun q => absurd q (of_decide_eq_true hc'))
  · rw [if_neg hc'] at ho
    obtain ⟨rfl, rfl, rfl, rfl⟩ := xn_inv ho
    exact lv_icmp_ne C.1 C.2.1 hd ht (fun q => absurd (decide_eq_true q) hc') (fun _ => kk _ _ _ S hl)
theorem xs_if_lt {off : Int} (C : xCx p R s m args meth c D ca M lv base h0) (X : xSX scr b base s) (S : xSt s D ca b base h0 h H locs) (hl : lv_has lsC (xmL M) (xlv b base ls)) (hd : decode (xmc M) pc = .ok (.ifCond .lt off, len)) (ho : xO scr lv M pc len ls st h (.ifCond .lt off) = some (.inl (pc', ls', st', h'))) (hc : h'.1 - h0.1 ≤ R.cells) (hs : h'.2.1 - h0.2.1 ≤ R.slots) (kk : ∀ (H' : Heap) (locs' : List Loc) (lsC' : Array Slot), xSt s D ca b base h0 h' H' locs' → lv_has lsC' (xmL M) (xlv b base ls') → xGo p l e R s m args below meth c Q b base h0 pc' st' h' lsC' H' locs') : xGo p l e R s m args below meth c Q b base h0 pc st h lsC H locs := by
  simp only [xO] at ho
  replace ho := if_inv ho
  obtain ⟨rfl, ho⟩ := ho
  replace ho := xi1_inv ho
  obtain ⟨x, r, rfl, ho⟩ := ho
  replace ho := xtg_inv ho
  obtain ⟨t, ht, ho⟩ := ho
  by_cases hc' : xcm .lt x 0 = true
  · rw [if_pos hc'] at ho
    obtain ⟨rfl, rfl, rfl, rfl⟩ := xn_inv ho
    exact lv_if_lt C.1 C.2.1 hd ht (fun _ => kk _ _ _ S hl) (fun q => absurd (of_decide_eq_true hc') q)
  · rw [if_neg hc'] at ho
    obtain ⟨rfl, rfl, rfl, rfl⟩ := xn_inv ho
    exact lv_if_lt C.1 C.2.1 hd ht (fun q => absurd (decide_eq_true q) hc') (fun _ => kk _ _ _ S hl)
theorem xs_icmp_lt {off : Int} (C : xCx p R s m args meth c D ca M lv base h0) (X : xSX scr b base s) (S : xSt s D ca b base h0 h H locs) (hl : lv_has lsC (xmL M) (xlv b base ls)) (hd : decode (xmc M) pc = .ok (.if_icmp .lt off, len)) (ho : xO scr lv M pc len ls st h (.if_icmp .lt off) = some (.inl (pc', ls', st', h'))) (hc : h'.1 - h0.1 ≤ R.cells) (hs : h'.2.1 - h0.2.1 ≤ R.slots) (kk : ∀ (H' : Heap) (locs' : List Loc) (lsC' : Array Slot), xSt s D ca b base h0 h' H' locs' → lv_has lsC' (xmL M) (xlv b base ls') → xGo p l e R s m args below meth c Q b base h0 pc' st' h' lsC' H' locs') : xGo p l e R s m args below meth c Q b base h0 pc st h lsC H locs := by
  simp only [xO] at ho
  replace ho := if_inv ho
  obtain ⟨rfl, ho⟩ := ho
  replace ho := xi2_inv ho
  obtain ⟨x, y, r, rfl, ho⟩ := ho
  replace ho := xtg_inv ho
  obtain ⟨t, ht, ho⟩ := ho
  by_cases hc' : xcm .lt x y = true
  · rw [if_pos hc'] at ho
    obtain ⟨rfl, rfl, rfl, rfl⟩ := xn_inv ho
    exact lv_icmp_lt C.1 C.2.1 hd ht (fun _ => kk _ _ _ S hl) (fun q => absurd (of_decide_eq_true hc') q)
  · rw [if_neg hc'] at ho
    obtain ⟨rfl, rfl, rfl, rfl⟩ := xn_inv ho
    exact lv_icmp_lt C.1 C.2.1 hd ht (fun q => absurd (decide_eq_true q) hc') (fun _ => kk _ _ _ S hl)
theorem xs_if_ge {off : Int} (C : xCx p R s m args meth c D ca M lv base h0) (X : xSX scr b base s) (S : xSt s D ca b base h0 h H locs) (hl : lv_has lsC (xmL M) (xlv b base ls)) (hd : decode (xmc M) pc = .ok (.ifCond .ge off, len)) (ho : xO scr lv M pc len ls st h (.ifCond .ge off) = some (.inl (pc', ls', st', h'))) (hc : h'.1 - h0.1 ≤ R.cells) (hs : h'.2.1 - h0.2.1 ≤ R.slots) (kk : ∀ (H' : Heap) (locs' : List Loc) (lsC' : Array Slot), xSt s D ca b base h0 h' H' locs' → lv_has lsC' (xmL M) (xlv b base ls') → xGo p l e R s m args below meth c Q b base h0 pc' st' h' lsC' H' locs') : xGo p l e R s m args below meth c Q b base h0 pc st h lsC H locs := by
  simp only [xO] at ho
  replace ho := if_inv ho
  obtain ⟨rfl, ho⟩ := ho
  replace ho := xi1_inv ho
  obtain ⟨x, r, rfl, ho⟩ := ho
  replace ho := xtg_inv ho
  obtain ⟨t, ht, ho⟩ := ho
  by_cases hc' : xcm .ge x 0 = true
  · rw [if_pos hc'] at ho
    obtain ⟨rfl, rfl, rfl, rfl⟩ := xn_inv ho
    exact lv_if_ge C.1 C.2.1 hd ht (fun _ => kk _ _ _ S hl) (fun q => absurd (of_decide_eq_true hc') q)
  · rw [if_neg hc'] at ho
    obtain ⟨rfl, rfl, rfl, rfl⟩ := xn_inv ho
    exact lv_if_ge C.1 C.2.1 hd ht (fun q => absurd (decide_eq_true q) hc') (fun _ => kk _ _ _ S hl)
theorem xs_icmp_ge {off : Int} (C : xCx p R s m args meth c D ca M lv base h0) (X : xSX scr b base s) (S : xSt s D ca b base h0 h H locs) (hl : lv_has lsC (xmL M) (xlv b base ls)) (hd : decode (xmc M) pc = .ok (.if_icmp .ge off, len)) (ho : xO scr lv M pc len ls st h (.if_icmp .ge off) = some (.inl (pc', ls', st', h'))) (hc : h'.1 - h0.1 ≤ R.cells) (hs : h'.2.1 - h0.2.1 ≤ R.slots) (kk : ∀ (H' : Heap) (locs' : List Loc) (lsC' : Array Slot), xSt s D ca b base h0 h' H' locs' → lv_has lsC' (xmL M) (xlv b base ls') → xGo p l e R s m args below meth c Q b base h0 pc' st' h' lsC' H' locs') : xGo p l e R s m args below meth c Q b base h0 pc st h lsC H locs := by
  simp only [xO] at ho
  replace ho := if_inv ho
  obtain ⟨rfl, ho⟩ := ho
  replace ho := xi2_inv ho
  obtain ⟨x, y, r, rfl, ho⟩ := ho
  replace ho := xtg_inv ho
  obtain ⟨t, ht, ho⟩ := ho
  by_cases hc' : xcm .ge x y = true
  · rw [if_pos hc'] at ho
    obtain ⟨rfl, rfl, rfl, rfl⟩ := xn_inv ho
    exact lv_icmp_ge C.1 C.2.1 hd ht (fun _ => kk _ _ _ S hl) (fun q => absurd (of_decide_eq_true hc') q)
  · rw [if_neg hc'] at ho
    obtain ⟨rfl, rfl, rfl, rfl⟩ := xn_inv ho
    exact lv_icmp_ge C.1 C.2.1 hd ht (fun q => absurd (decide_eq_true q) hc') (fun _ => kk _ _ _ S hl)
theorem xs_if_gt {off : Int} (C : xCx p R s m args meth c D ca M lv base h0) (X : xSX scr b base s) (S : xSt s D ca b base h0 h H locs) (hl : lv_has lsC (xmL M) (xlv b base ls)) (hd : decode (xmc M) pc = .ok (.ifCond .gt off, len)) (ho : xO scr lv M pc len ls st h (.ifCond .gt off) = some (.inl (pc', ls', st', h'))) (hc : h'.1 - h0.1 ≤ R.cells) (hs : h'.2.1 - h0.2.1 ≤ R.slots) (kk : ∀ (H' : Heap) (locs' : List Loc) (lsC' : Array Slot), xSt s D ca b base h0 h' H' locs' → lv_has lsC' (xmL M) (xlv b base ls') → xGo p l e R s m args below meth c Q b base h0 pc' st' h' lsC' H' locs') : xGo p l e R s m args below meth c Q b base h0 pc st h lsC H locs := by
  simp only [xO] at ho
  replace ho := if_inv ho
  obtain ⟨rfl, ho⟩ := ho
  replace ho := xi1_inv ho
  obtain ⟨x, r, rfl, ho⟩ := ho
  replace ho := xtg_inv ho
  obtain ⟨t, ht, ho⟩ := ho
  by_cases hc' : xcm .gt x 0 = true
  · rw [if_pos hc'] at ho
    obtain ⟨rfl, rfl, rfl, rfl⟩ := xn_inv ho
    exact lv_if_gt C.1 C.2.1 hd ht (fun _ => kk _ _ _ S hl) (fun q => absurd (of_decide_eq_true hc') q)
  · rw [if_neg hc'] at ho
    obtain ⟨rfl, rfl, rfl, rfl⟩ := xn_inv ho
    exact lv_if_gt C.1 C.2.1 hd ht (fun q => absurd (decide_eq_true q) hc') (fun _ => kk _ _ _ S hl)
theorem xs_icmp_gt {off : Int} (C : xCx p R s m args meth c D ca M lv base h0) (X : xSX scr b base s) (S : xSt s D ca b base h0 h H locs) (hl : lv_has lsC (xmL M) (xlv b base ls)) (hd : decode (xmc M) pc = .ok (.if_icmp .gt off, len)) (ho : xO scr lv M pc len ls st h (.if_icmp .gt off) = some (.inl (pc', ls', st', h'))) (hc : h'.1 - h0.1 ≤ R.cells) (hs : h'.2.1 - h0.2.1 ≤ R.slots) (kk : ∀ (H' : Heap) (locs' : List Loc) (lsC' : Array Slot), xSt s D ca b base h0 h' H' locs' → lv_has lsC' (xmL M) (xlv b base ls') → xGo p l e R s m args below meth c Q b base h0 pc' st' h' lsC' H' locs') : xGo p l e R s m args below meth c Q b base h0 pc st h lsC H locs := by
  simp only [xO] at ho
  replace ho := if_inv ho
  obtain ⟨rfl, ho⟩ := ho
  replace ho := xi2_inv ho
  obtain ⟨x, y, r, rfl, ho⟩ := ho
  replace ho := xtg_inv ho
  obtain ⟨t, ht, ho⟩ := ho
  by_cases hc' : xcm .gt x y = true
  · rw [if_pos hc'] at ho
    obtain ⟨rfl, rfl, rfl, rfl⟩ := xn_inv ho
    exact lv_icmp_gt C.1 C.2.1 hd ht (fun _ => kk _ _ _ S hl) (fun q => absurd (of_decide_eq_true hc') q)
  · rw [if_neg hc'] at ho
    obtain ⟨rfl, rfl, rfl, rfl⟩ := xn_inv ho
    exact lv_icmp_gt C.1 C.2.1 hd ht (fun q => absurd (decide_eq_true q) hc') (fun _ => kk _ _ _ S hl)
theorem xs_if_le {off : Int} (C : xCx p R s m args meth c D ca M lv base h0) (X : xSX scr b base s) (S : xSt s D ca b base h0 h H locs) (hl : lv_has lsC (xmL M) (xlv b base ls)) (hd : decode (xmc M) pc = .ok (.ifCond .le off, len)) (ho : xO scr lv M pc len ls st h (.ifCond .le off) = some (.inl (pc', ls', st', h'))) (hc : h'.1 - h0.1 ≤ R.cells) (hs : h'.2.1 - h0.2.1 ≤ R.slots) (kk : ∀ (H' : Heap) (locs' : List Loc) (lsC' : Array Slot), xSt s D ca b base h0 h' H' locs' → lv_has lsC' (xmL M) (xlv b base ls') → xGo p l e R s m args below meth c Q b base h0 pc' st' h' lsC' H' locs') : xGo p l e R s m args below meth c Q b base h0 pc st h lsC H locs := by
  simp only [xO] at ho
  replace ho := if_inv ho
  obtain ⟨rfl, ho⟩ := ho
  replace ho := xi1_inv ho
  obtain ⟨x, r, rfl, ho⟩ := ho
  replace ho := xtg_inv ho
  obtain ⟨t, ht, ho⟩ := ho
  by_cases hc' : xcm .le x 0 = true
  · rw [if_pos hc'] at ho
    obtain ⟨rfl, rfl, rfl, rfl⟩ := xn_inv ho
    exact lv_if_le C.1 C.2.1 hd ht (fun _ => kk _ _ _ S hl) (fun q => absurd (of_decide_eq_true hc') q)
  · rw [if_neg hc'] at ho
    obtain ⟨rfl, rfl, rfl, rfl⟩ := xn_inv ho
    exact lv_if_le C.1 C.2.1 hd ht (fun q => absurd (decide_eq_true q) hc') (fun _ => kk _ _ _ S hl)
theorem xs_icmp_le {off : Int} (C : xCx p R s m args meth c D ca M lv base h0) (X : xSX scr b base s) (S : xSt s D ca b base h0 h H locs) (hl : lv_has lsC (xmL M) (xlv b base ls)) (hd : decode (xmc M) pc = .ok (.if_icmp .le off, len)) (ho : xO scr lv M pc len ls st h (.if_icmp .le off) = some (.inl (pc', ls', st', h'))) (hc : h'.1 - h0.1 ≤ R.cells) (hs : h'.2.1 - h0.2.1 ≤ R.slots) (kk : ∀ (H' : Heap) (locs' : List Loc) (lsC' : Array Slot), xSt s D ca b base h0 h' H' locs' → lv_has lsC' (xmL M) (xlv b base ls') → xGo p l e R s m args below meth c Q b base h0 pc' st' h' lsC' H' locs') : xGo p l e R s m args below meth c Q b base h0 pc st h lsC H locs := by
  simp only [xO] at ho
  replace ho := if_inv ho
  obtain ⟨rfl, ho⟩ := ho
  replace ho := xi2_inv ho
  obtain ⟨x, y, r, rfl, ho⟩ := ho
  replace ho := xtg_inv ho
  obtain ⟨t, ht, ho⟩ := ho
  by_cases hc' : xcm .le x y = true
  · rw [if_pos hc'] at ho
    obtain ⟨rfl, rfl, rfl, rfl⟩ := xn_inv ho
    exact lv_icmp_le C.1 C.2.1 hd ht (fun _ => kk _ _ _ S hl) (fun q => absurd (of_decide_eq_true hc') q)
  · rw [if_neg hc'] at ho
    obtain ⟨rfl, rfl, rfl, rfl⟩ := xn_inv ho
    exact lv_icmp_le C.1 C.2.1 hd ht (fun q => absurd (decide_eq_true q) hc') (fun _ => kk _ _ _ S hl)
theorem xs_goto {off : Int} (C : xCx p R s m args meth c D ca M lv base h0) (X : xSX scr b base s) (S : xSt s D ca b base h0 h H locs) (hl : lv_has lsC (xmL M) (xlv b base ls)) (hd : decode (xmc M) pc = .ok (.goto off, len)) (ho : xO scr lv M pc len ls st h (.goto off) = some (.inl (pc', ls', st', h'))) (hc : h'.1 - h0.1 ≤ R.cells) (hs : h'.2.1 - h0.2.1 ≤ R.slots) (kk : ∀ (H' : Heap) (locs' : List Loc) (lsC' : Array Slot), xSt s D ca b base h0 h' H' locs' → lv_has lsC' (xmL M) (xlv b base ls') → xGo p l e R s m args below meth c Q b base h0 pc' st' h' lsC' H' locs') : xGo p l e R s m args below meth c Q b base h0 pc st h lsC H locs := by
  simp only [xO] at ho
  replace ho := if_inv ho
  obtain ⟨rfl, ho⟩ := ho
  replace ho := xtg_inv ho
  obtain ⟨t, ht, ho⟩ := ho
  obtain ⟨rfl, rfl, rfl, rfl⟩ := xn_inv ho
  exact lv_goto C.1 C.2.1 hd ht (kk _ _ _ S hl)
theorem xs_table {dflt lo hi : Int} {offs : Array Int} (C : xCx p R s m args meth c D ca M lv base h0) (X : xSX scr b base s) (S : xSt s D ca b base h0 h H locs) (hl : lv_has lsC (xmL M) (xlv b base ls)) (hd : decode (xmc M) pc = .ok (.tableswitch dflt lo hi offs, len)) (ho : xO scr lv M pc len ls st h (.tableswitch dflt lo hi offs) = some (.inl (pc', ls', st', h'))) (hc : h'.1 - h0.1 ≤ R.cells) (hs : h'.2.1 - h0.2.1 ≤ R.slots) (kk : ∀ (H' : Heap) (locs' : List Loc) (lsC' : Array Slot), xSt s D ca b base h0 h' H' locs' → lv_has lsC' (xmL M) (xlv b base ls') → xGo p l e R s m args below meth c Q b base h0 pc' st' h' lsC' H' locs') : xGo p l e R s m args below meth c Q b base h0 pc st h lsC H locs := by
  simp only [xO] at ho
  replace ho := xi1_inv ho
  obtain ⟨x, r, rfl, ho⟩ := ho
  by_cases hx : x.toInt < lo ∨ hi < x.toInt
  · rw [if_pos hx] at ho
    replace ho := xtg_inv ho
    obtain ⟨t, ht, ho⟩ := ho
    obtain ⟨rfl, rfl, rfl, rfl⟩ := xn_inv ho
    exact lv_tableOut C.1 C.2.1 hd hx ht (kk _ _ _ S hl)
  · rw [if_neg hx] at ho
    split at ho
    · rename_i off hoff
      replace ho := xtg_inv ho
      obtain ⟨t, ht, ho⟩ := ho
      obtain ⟨rfl, rfl, rfl, rfl⟩ := xn_inv ho
      exact lv_tableIn C.1 C.2.1 hd (fun q => hx (Or.inl q)) (fun q => hx (Or.inr q)) hoff ht (kk _ _ _ S hl)
    · cases ho
theorem xs_lookup {dflt : Int} {ps : Array (Int × Int)} (C : xCx p R s m args meth c D ca M lv base h0) (X : xSX scr b base s) (S : xSt s D ca b base h0 h H locs) (hl : lv_has lsC (xmL M) (xlv b base ls)) (hd : decode (xmc M) pc = .ok (.lookupswitch dflt ps, len)) (ho : xO scr lv M pc len ls st h (.lookupswitch dflt ps) = some (.inl (pc', ls', st', h'))) (hc : h'.1 - h0.1 ≤ R.cells) (hs : h'.2.1 - h0.2.1 ≤ R.slots) (kk : ∀ (H' : Heap) (locs' : List Loc) (lsC' : Array Slot), xSt s D ca b base h0 h' H' locs' → lv_has lsC' (xmL M) (xlv b base ls') → xGo p l e R s m args below meth c Q b base h0 pc' st' h' lsC' H' locs') : xGo p l e R s m args below meth c Q b base h0 pc st h lsC H locs := by
  simp only [xO] at ho
  replace ho := xi1_inv ho
  obtain ⟨x, r, rfl, ho⟩ := ho
  replace ho := if_inv ho
  obtain ⟨hp, ho⟩ := ho
  replace ho := xtg_inv ho
  obtain ⟨t, ht, ho⟩ := ho
  obtain ⟨rfl, rfl, rfl, rfl⟩ := xn_inv ho
  exact lv_lookup C.1 C.2.1 hd hp rfl ht (kk _ _ _ S hl)
theorem xs_getfield {k : Nat} (C : xCx p R s m args meth c D ca M lv base h0) (X : xSX scr b base s) (S : xSt s D ca b base h0 h H locs) (hl : lv_has lsC (xmL M) (xlv b base ls)) (hd : decode (xmc M) pc = .ok (.getfield k, len)) (ho : xO scr lv M pc len ls st h (.getfield k) = some (.inl (pc', ls', st', h'))) (hc : h'.1 - h0.1 ≤ R.cells) (hs : h'.2.1 - h0.2.1 ≤ R.slots) (kk : ∀ (H' : Heap) (locs' : List Loc) (lsC' : Array Slot), xSt s D ca b base h0 h' H' locs' → lv_has lsC' (xmL M) (xlv b base ls') → xGo p l e R s m args below meth c Q b base h0 pc' st' h' lsC' H' locs') : xGo p l e R s m args below meth c Q b base h0 pc st h lsC H locs := by
  simp only [xO] at ho
  replace ho := if_inv ho
  obtain ⟨rfl, ho⟩ := ho
  split at ho
  · rename_i ci j hf
    replace ho := xr1_inv ho
    obtain ⟨a, r, rfl, ho⟩ := ho
    unfold xgt at ho
    split at ho
    · rename_i c1 fs ha
      replace ho := if_inv ho
      obtain ⟨rfl, ho⟩ := ho
      split at ho
      · rename_i v hv
        obtain ⟨rfl, rfl, rfl, rfl⟩ := xn_inv ho
        obtain ⟨g1, g2, g3⟩ := xFd_spec hf
        obtain ⟨a1, a2, a3⟩ := xw_get (ca := ca) (b := b) (base := base) S.2.1 ha
        have hcl := xCl_lt g2
        show W p l e R s m args below meth c H locs _ _ Q (F0 m pc lsC (.ref (xad b base a) :: r.map (xcv b base)))
        rw [xad_pos a1]
        exact va_get C.1 C.2.1 C.2.2.2.2.1 (xCl_in hcl) C.2.2.2.1 C.2.2.2.2.2.2.2.1 S.1 (a - 1) a3 hcl j g3 (C.2.2.2.2.1 _ g1) (fun x q => q) (v := xcv b base v) (by rw [List.getElem?_map, hv]; rfl) hd (kk _ _ _ S hl)
      · cases ho
    · cases ho
  · cases ho
theorem xs_putfield {k : Nat} (C : xCx p R s m args meth c D ca M lv base h0) (X : xSX scr b base s) (S : xSt s D ca b base h0 h H locs) (hl : lv_has lsC (xmL M) (xlv b base ls)) (hd : decode (xmc M) pc = .ok (.putfield k, len)) (ho : xO scr lv M pc len ls st h (.putfield k) = some (.inl (pc', ls', st', h'))) (hc : h'.1 - h0.1 ≤ R.cells) (hs : h'.2.1 - h0.2.1 ≤ R.slots) (kk : ∀ (H' : Heap) (locs' : List Loc) (lsC' : Array Slot), xSt s D ca b base h0 h' H' locs' → lv_has lsC' (xmL M) (xlv b base ls') → xGo p l e R s m args below meth c Q b base h0 pc' st' h' lsC' H' locs') : xGo p l e R s m args below meth c Q b base h0 pc st h lsC H locs := by
  simp only [xO] at ho
  replace ho := if_inv ho
  obtain ⟨rfl, ho⟩ := ho
  split at ho
  · rename_i ci j hf
    replace ho := xrv_inv ho
    obtain ⟨a, v, r, rfl, ho⟩ := ho
    unfold xpt at ho
    split at ho
    · rename_i c1 fs ha
      replace ho := if_inv ho
      obtain ⟨⟨rfl, hj, hfit, hfin⟩, ho⟩ := ho
      obtain ⟨rfl, rfl, rfl, rfl⟩ := xn_inv ho
      obtain ⟨g1, g2, g3⟩ := xFd_spec hf
      obtain ⟨a1, a2, a3⟩ := xw_get (ca := ca) (b := b) (base := base) S.2.1 ha
      have hcl := xCl_lt g2
      have hft := xfit_ok b base hfit
      have hset : (fs.map (xcv b base)).set j (xcv b base v) = (fs.set j v).map (xcv b base) := by rw [List.map_set]
      show W p l e R s m args below meth c H locs _ _ Q (F0 m pc lsC (xcv b base v :: .ref (xad b base a) :: r.map (xcv b base)))
      rw [xad_pos a1]
      by_cases hfl : ((xCT c1).2.1 j).2.2.2 = true
      · refine va_putF C.1 C.2.1 C.2.2.2.2.1 (xCl_in hcl) (xTy c1) (xTy_ok g2) (xNm_ok g2) C.2.2.2.1 C.2.2.2.2.2.2.2.1 S.1 (xw_D ca b base h) S.2.2.1 (a - 1) a3 hcl j g3 (C.2.2.2.2.1 _ g1) (fun x q => q) hfl (C.2.2.2.2.2.1 (hfin hfl).1) ((hfin hfl).2.trans C.2.2.2.2.2.2.2.2.2.2.2.1.symm) (xTy_ok g2 j g3) hft.1 hft.2 (by simpa using hj) hd (fun H1 locs1 hP1 _ hS1 => ?_)
        rw [hset] at hP1
        exact kk _ _ _ (xSt_up S ha hP1 hS1) hl
      · refine va_put C.1 C.2.1 C.2.2.2.2.1 (xCl_in hcl) (xTy c1) (xTy_ok g2) (xNm_ok g2) C.2.2.2.1 C.2.2.2.2.2.2.2.1 S.1 (xw_D ca b base h) S.2.2.1 (a - 1) a3 hcl j g3 (C.2.2.2.2.1 _ g1) (fun x q => q) (by simpa using hfl) (xTy_ok g2 j g3) hft.1 hft.2 (by simpa using hj) hd (fun H1 locs1 hP1 _ hS1 => ?_)
        rw [hset] at hP1
        exact kk _ _ _ (xSt_up S ha hP1 hS1) hl
    · cases ho
  · cases ho
theorem xs_iaload (C : xCx p R s m args meth c D ca M lv base h0) (X : xSX scr b base s) (S : xSt s D ca b base h0 h H locs) (hl : lv_has lsC (xmL M) (xlv b base ls)) (hd : decode (xmc M) pc = .ok (.iaload, len)) (ho : xO scr lv M pc len ls st h (.iaload) = some (.inl (pc', ls', st', h'))) (hc : h'.1 - h0.1 ≤ R.cells) (hs : h'.2.1 - h0.2.1 ≤ R.slots) (kk : ∀ (H' : Heap) (locs' : List Loc) (lsC' : Array Slot), xSt s D ca b base h0 h' H' locs' → lv_has lsC' (xmL M) (xlv b base ls') → xGo p l e R s m args below meth c Q b base h0 pc' st' h' lsC' H' locs') : xGo p l e R s m args below meth c Q b base h0 pc st h lsC H locs := by
  simp only [xO] at ho
  replace ho := if_inv ho
  obtain ⟨rfl, ho⟩ := ho
  replace ho := xri_inv ho
  obtain ⟨a, i, r, rfl, ho⟩ := ho
  unfold xial at ho
  by_cases ha0 : a = 0
  · rw [if_pos ha0] at ho
    split at ho
    · rename_i n g
      replace ho := if_inv ho
      obtain ⟨⟨-, hi⟩, ho⟩ := ho
      obtain ⟨rfl, rfl, rfl, rfl⟩ := xn_inv ho
      obtain ⟨x1, x2, x3⟩ := X n g rfl
      subst ha0
      exact va_sld C.1 C.2.1 x1 x2 (show ¬ base < b by omega) S.2.2.1 (xinB_in hi) hd (kk _ _ _ S hl)
    · cases ho
  · rw [if_neg ha0] at ho
    split at ho
    · rename_i t' n g ha
      replace ho := if_inv ho
      obtain ⟨⟨rfl, hi⟩, ho⟩ := ho
      obtain ⟨rfl, rfl, rfl, rfl⟩ := xn_inv ho
      obtain ⟨a1, a2, a3⟩ := xw_get (ca := ca) (b := b) (base := base) S.2.1 ha
      show W p l e R s m args below meth c H locs _ _ Q (F0 m pc lsC (.int i :: .ref (xad b base a) :: r.map (xcv b base)))
      rw [xad_pos a1]
      exact va_iald C.1 C.2.1 C.2.2.2.2.2.2.2.1 S.1 (a - 1) 0 a3 (xtys_at ca (by decide)) (xinB_in hi) hd (kk _ _ _ S hl)
    · cases ho
theorem xs_baload (C : xCx p R s m args meth c D ca M lv base h0) (X : xSX scr b base s) (S : xSt s D ca b base h0 h H locs) (hl : lv_has lsC (xmL M) (xlv b base ls)) (hd : decode (xmc M) pc = .ok (.baload, len)) (ho : xO scr lv M pc len ls st h (.baload) = some (.inl (pc', ls', st', h'))) (hc : h'.1 - h0.1 ≤ R.cells) (hs : h'.2.1 - h0.2.1 ≤ R.slots) (kk : ∀ (H' : Heap) (locs' : List Loc) (lsC' : Array Slot), xSt s D ca b base h0 h' H' locs' → lv_has lsC' (xmL M) (xlv b base ls') → xGo p l e R s m args below meth c Q b base h0 pc' st' h' lsC' H' locs') : xGo p l e R s m args below meth c Q b base h0 pc st h lsC H locs := by
  simp only [xO] at ho
  replace ho := if_inv ho
  obtain ⟨rfl, ho⟩ := ho
  replace ho := xri_inv ho
  obtain ⟨a, i, r, rfl, ho⟩ := ho
  unfold xial at ho
  by_cases ha0 : a = 0
  · rw [if_pos ha0] at ho
    cases ho
  · rw [if_neg ha0] at ho
    split at ho
    · rename_i t' n g ha
      replace ho := if_inv ho
      obtain ⟨⟨rfl, hi⟩, ho⟩ := ho
      obtain ⟨rfl, rfl, rfl, rfl⟩ := xn_inv ho
      obtain ⟨a1, a2, a3⟩ := xw_get (ca := ca) (b := b) (base := base) S.2.1 ha
      show W p l e R s m args below meth c H locs _ _ Q (F0 m pc lsC (.int i :: .ref (xad b base a) :: r.map (xcv b base)))
      rw [xad_pos a1]
      exact va_zald C.1 C.2.1 C.2.2.2.2.2.2.2.1 S.1 (a - 1) 2 a3 (xtys_at ca (by decide)) (xinB_in hi) hd (kk _ _ _ S hl)
    · cases ho
theorem xs_laload (C : xCx p R s m args meth c D ca M lv base h0) (X : xSX scr b base s) (S : xSt s D ca b base h0 h H locs) (hl : lv_has lsC (xmL M) (xlv b base ls)) (hd : decode (xmc M) pc = .ok (.laload, len)) (ho : xO scr lv M pc len ls st h (.laload) = some (.inl (pc', ls', st', h'))) (hc : h'.1 - h0.1 ≤ R.cells) (hs : h'.2.1 - h0.2.1 ≤ R.slots) (kk : ∀ (H' : Heap) (locs' : List Loc) (lsC' : Array Slot), xSt s D ca b base h0 h' H' locs' → lv_has lsC' (xmL M) (xlv b base ls') → xGo p l e R s m args below meth c Q b base h0 pc' st' h' lsC' H' locs') : xGo p l e R s m args below meth c Q b base h0 pc st h lsC H locs := by
  simp only [xO] at ho
  replace ho := if_inv ho
  obtain ⟨rfl, ho⟩ := ho
  replace ho := xri_inv ho
  obtain ⟨a, i, r, rfl, ho⟩ := ho
  unfold xlal at ho
  split at ho
  · rename_i t' n g ha
    replace ho := if_inv ho
    obtain ⟨⟨rfl, hi⟩, ho⟩ := ho
    obtain ⟨rfl, rfl, rfl, rfl⟩ := xn_inv ho
    obtain ⟨a1, a2, a3⟩ := xw_get (ca := ca) (b := b) (base := base) S.2.1 ha
    show W p l e R s m args below meth c H locs _ _ Q (F0 m pc lsC (.int i :: .ref (xad b base a) :: r.map (xcv b base)))
    rw [xad_pos a1]
    exact va_lald C.1 C.2.1 C.2.2.2.2.2.2.2.1 S.1 (a - 1) 1 a3 (xtys_at ca (by decide)) (xinB_in hi) hd (kk _ _ _ S hl)
  · cases ho
theorem xs_aaload (C : xCx p R s m args meth c D ca M lv base h0) (X : xSX scr b base s) (S : xSt s D ca b base h0 h H locs) (hl : lv_has lsC (xmL M) (xlv b base ls)) (hd : decode (xmc M) pc = .ok (.aaload, len)) (ho : xO scr lv M pc len ls st h (.aaload) = some (.inl (pc', ls', st', h'))) (hc : h'.1 - h0.1 ≤ R.cells) (hs : h'.2.1 - h0.2.1 ≤ R.slots) (kk : ∀ (H' : Heap) (locs' : List Loc) (lsC' : Array Slot), xSt s D ca b base h0 h' H' locs' → lv_has lsC' (xmL M) (xlv b base ls') → xGo p l e R s m args below meth c Q b base h0 pc' st' h' lsC' H' locs') : xGo p l e R s m args below meth c Q b base h0 pc st h lsC H locs := by
  simp only [xO] at ho
  replace ho := if_inv ho
  obtain ⟨rfl, ho⟩ := ho
  replace ho := xri_inv ho
  obtain ⟨a, i, r, rfl, ho⟩ := ho
  unfold xaal at ho
  split at ho
  · rename_i t' n g ha
    replace ho := if_inv ho
    obtain ⟨⟨ht, hi⟩, ho⟩ := ho
    split at ho
    · rename_i k hk
      obtain ⟨rfl, rfl, rfl, rfl⟩ := xn_inv ho
      obtain ⟨a1, a2, a3⟩ := xw_get (ca := ca) (b := b) (base := base) S.2.1 ha
      show W p l e R s m args below meth c H locs _ _ Q (F0 m pc lsC (.int i :: .ref (xad b base a) :: r.map (xcv b base)))
      rw [xad_pos a1]
      have kk1 := kk _ _ _ S hl
      have e1 : Value.ref (xad b base k) = va_rf ((fun j => (g j).map (xad b base)) i.toNatClampNeg) := by simp only [hk, Option.map_some]; rfl
      have kk2 : W p l e R s m args below meth c H locs _ _ Q (F0 m (pc + 1) lsC (.ref (xad b base k) :: r.map (xcv b base))) := kk1
      rw [e1] at kk2
      rcases ht with rfl | rfl
      · exact va_aldq C.1 C.2.1 C.2.2.2.2.2.2.2.1 S.1 (a - 1) 3 a3 (xtys_at ca (t := 3) (by decide)) (xinB_in hi) hd kk2
      · exact va_aldq C.1 C.2.1 C.2.2.2.2.2.2.2.1 S.1 (a - 1) 4 a3 (xtys_at ca (t := 4) (by decide)) (xinB_in hi) hd kk2
    · cases ho
  · cases ho
theorem xs_iastore (C : xCx p R s m args meth c D ca M lv base h0) (X : xSX scr b base s) (S : xSt s D ca b base h0 h H locs) (hl : lv_has lsC (xmL M) (xlv b base ls)) (hd : decode (xmc M) pc = .ok (.iastore, len)) (ho : xO scr lv M pc len ls st h (.iastore) = some (.inl (pc', ls', st', h'))) (hc : h'.1 - h0.1 ≤ R.cells) (hs : h'.2.1 - h0.2.1 ≤ R.slots) (kk : ∀ (H' : Heap) (locs' : List Loc) (lsC' : Array Slot), xSt s D ca b base h0 h' H' locs' → lv_has lsC' (xmL M) (xlv b base ls') → xGo p l e R s m args below meth c Q b base h0 pc' st' h' lsC' H' locs') : xGo p l e R s m args below meth c Q b base h0 pc st h lsC H locs := by
  simp only [xO] at ho
  replace ho := if_inv ho
  obtain ⟨rfl, ho⟩ := ho
  replace ho := xriv_inv ho
  obtain ⟨a, i, v, r, rfl, ho⟩ := ho
  replace ho := xi1_inv ho
  obtain ⟨x, r1, hx, ho⟩ := ho
  cases hx
  unfold xias at ho
  split at ho
  · rename_i t' n g ha
    replace ho := if_inv ho
    obtain ⟨⟨rfl, hi⟩, ho⟩ := ho
    obtain ⟨rfl, rfl, rfl, rfl⟩ := xn_inv ho
    obtain ⟨a1, a2, a3⟩ := xw_get (ca := ca) (b := b) (base := base) S.2.1 ha
    show W p l e R s m args below meth c H locs _ _ Q (F0 m pc lsC (.int x :: .int i :: .ref (xad b base a) :: r.map (xcv b base)))
    rw [xad_pos a1]
    exact va_iast C.1 C.2.1 C.2.2.2.2.2.2.2.1 S.1 (xw_D ca b base h) S.2.2.1 (a - 1) 0 a3 (xtys_at ca (by decide)) (xinB_in hi) hd (fun H1 locs1 hP1 _ hS1 => kk _ _ _ (xSt_up S ha hP1 hS1) hl)
  · cases ho
theorem xs_bastore (C : xCx p R s m args meth c D ca M lv base h0) (X : xSX scr b base s) (S : xSt s D ca b base h0 h H locs) (hl : lv_has lsC (xmL M) (xlv b base ls)) (hd : decode (xmc M) pc = .ok (.bastore, len)) (ho : xO scr lv M pc len ls st h (.bastore) = some (.inl (pc', ls', st', h'))) (hc : h'.1 - h0.1 ≤ R.cells) (hs : h'.2.1 - h0.2.1 ≤ R.slots) (kk : ∀ (H' : Heap) (locs' : List Loc) (lsC' : Array Slot), xSt s D ca b base h0 h' H' locs' → lv_has lsC' (xmL M) (xlv b base ls') → xGo p l e R s m args below meth c Q b base h0 pc' st' h' lsC' H' locs') : xGo p l e R s m args below meth c Q b base h0 pc st h lsC H locs := by
  simp only [xO] at ho
  replace ho := if_inv ho
  obtain ⟨rfl, ho⟩ := ho
  replace ho := xriv_inv ho
  obtain ⟨a, i, v, r, rfl, ho⟩ := ho
  replace ho := xi1_inv ho
  obtain ⟨x, r1, hx, ho⟩ := ho
  cases hx
  unfold xias at ho
  split at ho
  · rename_i t' n g ha
    replace ho := if_inv ho
    obtain ⟨⟨rfl, hi⟩, ho⟩ := ho
    obtain ⟨rfl, rfl, rfl, rfl⟩ := xn_inv ho
    obtain ⟨a1, a2, a3⟩ := xw_get (ca := ca) (b := b) (base := base) S.2.1 ha
    show W p l e R s m args below meth c H locs _ _ Q (F0 m pc lsC (.int x :: .int i :: .ref (xad b base a) :: r.map (xcv b base)))
    rw [xad_pos a1]
    exact va_zast C.1 C.2.1 C.2.2.2.2.2.2.2.1 S.1 (xw_D ca b base h) S.2.2.1 (a - 1) 2 a3 (xtys_at ca (by decide)) (xinB_in hi) hd (fun H1 locs1 hP1 _ hS1 => kk _ _ _ (xSt_up S ha hP1 hS1) hl)
  · cases ho
theorem xs_lastore (C : xCx p R s m args meth c D ca M lv base h0) (X : xSX scr b base s) (S : xSt s D ca b base h0 h H locs) (hl : lv_has lsC (xmL M) (xlv b base ls)) (hd : decode (xmc M) pc = .ok (.lastore, len)) (ho : xO scr lv M pc len ls st h (.lastore) = some (.inl (pc', ls', st', h'))) (hc : h'.1 - h0.1 ≤ R.cells) (hs : h'.2.1 - h0.2.1 ≤ R.slots) (kk : ∀ (H' : Heap) (locs' : List Loc) (lsC' : Array Slot), xSt s D ca b base h0 h' H' locs' → lv_has lsC' (xmL M) (xlv b base ls') → xGo p l e R s m args below meth c Q b base h0 pc' st' h' lsC' H' locs') : xGo p l e R s m args below meth c Q b base h0 pc st h lsC H locs := by
  simp only [xO] at ho
  replace ho := if_inv ho
  obtain ⟨rfl, ho⟩ := ho
  replace ho := xriv_inv ho
  obtain ⟨a, i, v, r, rfl, ho⟩ := ho
  replace ho := xl1_inv ho
  obtain ⟨x, r1, hx, ho⟩ := ho
  cases hx
  unfold xlas at ho
  split at ho
  · rename_i t' n g ha
    replace ho := if_inv ho
    obtain ⟨⟨rfl, hi⟩, ho⟩ := ho
    obtain ⟨rfl, rfl, rfl, rfl⟩ := xn_inv ho
    obtain ⟨a1, a2, a3⟩ := xw_get (ca := ca) (b := b) (base := base) S.2.1 ha
    show W p l e R s m args below meth c H locs _ _ Q (F0 m pc lsC (.long x :: .int i :: .ref (xad b base a) :: r.map (xcv b base)))
    rw [xad_pos a1]
    exact va_last C.1 C.2.1 C.2.2.2.2.2.2.2.1 S.1 (xw_D ca b base h) S.2.2.1 (a - 1) 1 a3 (xtys_at ca (by decide)) (xinB_in hi) hd (fun H1 locs1 hP1 _ hS1 => kk _ _ _ (xSt_up S ha hP1 hS1) hl)
  · cases ho
theorem xs_aastore (C : xCx p R s m args meth c D ca M lv base h0) (X : xSX scr b base s) (S : xSt s D ca b base h0 h H locs) (hl : lv_has lsC (xmL M) (xlv b base ls)) (hd : decode (xmc M) pc = .ok (.aastore, len)) (ho : xO scr lv M pc len ls st h (.aastore) = some (.inl (pc', ls', st', h'))) (hc : h'.1 - h0.1 ≤ R.cells) (hs : h'.2.1 - h0.2.1 ≤ R.slots) (kk : ∀ (H' : Heap) (locs' : List Loc) (lsC' : Array Slot), xSt s D ca b base h0 h' H' locs' → lv_has lsC' (xmL M) (xlv b base ls') → xGo p l e R s m args below meth c Q b base h0 pc' st' h' lsC' H' locs') : xGo p l e R s m args below meth c Q b base h0 pc st h lsC H locs := by
  simp only [xO] at ho
  replace ho := if_inv ho
  obtain ⟨rfl, ho⟩ := ho
  replace ho := xriv_inv ho
  obtain ⟨a, i, v, r, rfl, ho⟩ := ho
  replace ho := xr1_inv ho
  obtain ⟨x, r1, hx, ho⟩ := ho
  cases hx
  unfold xaas at ho
  split at ho
  · rename_i t' n g ci vs ha hv
    replace ho := if_inv ho
    obtain ⟨⟨ht, hi⟩, ho⟩ := ho
    obtain ⟨rfl, rfl, rfl, rfl⟩ := xn_inv ho
    obtain ⟨a1, a2, a3⟩ := xw_get (ca := ca) (b := b) (base := base) S.2.1 ha
    obtain ⟨v1, v2, v3⟩ := xw_get (ca := ca) (b := b) (base := base) S.2.1 hv
    show W p l e R s m args below meth c H locs _ _ Q (F0 m pc lsC (.ref (xad b base x) :: .int i :: .ref (xad b base a) :: r.map (xcv b base)))
    rw [xad_pos a1, xad_pos v1]
    have hset : va_up (fun j => (g j).map (xad b base)) i.toNatClampNeg (some (base + x)) = (fun j => (va_up g i.toNatClampNeg (some x) j).map (xad b base)) := by
      funext j
      unfold va_up
      by_cases q : j = i.toNatClampNeg
      · rw [if_pos q, if_pos q, Option.map_some, xad_pos v1]
      · rw [if_neg q, if_neg q]
    have fin : ∀ (H1 : Heap) (locs1 : List Loc), va_P D xCl ((xw ca b base h).set (a - 1) (base + a, .inl (ca t', n, .inr (.inr (.inr (.inr (va_up (fun j => (g j).map (xad b base)) i.toNatClampNeg (some (base + x))))))))) H1 → va_S (fun q => base < q) s.heap H1 locs1 → W p l e R s m args below meth c H1 locs1 (h.1 - h0.1) (h.2.1 - h0.2.1) Q (F0 m (pc + 1) lsC (r.map (xcv b base))) := by
      intro H1 locs1 hP1 hS1
      rw [hset] at hP1
      exact kk _ _ _ (xSt_up S ha hP1 hS1) hl
    rcases ht with ⟨rfl, rfl⟩ | ⟨rfl, rfl⟩
    · exact va_astq (r := ("SpoonfulMore$Act", TX0, 6)) C.1 C.2.1 C.2.2.2.2.2.2.2.1 S.1 (xw_D ca b base h) S.2.2.1 (a - 1) 3 (x - 1) 0 a3 (xtys_at ca (t := 3) (by decide)) v3 rfl (xinB_in hi) hd (fun H1 locs1 hP1 _ hS1 => fin H1 locs1 hP1 hS1)
    · exact va_astq (r := ("SpoonfulMore$Kept", TX3, 6)) C.1 C.2.1 C.2.2.2.2.2.2.2.1 S.1 (xw_D ca b base h) S.2.2.1 (a - 1) 4 (x - 1) 3 a3 (xtys_at ca (t := 4) (by decide)) v3 rfl (xinB_in hi) hd (fun H1 locs1 hP1 _ hS1 => fin H1 locs1 hP1 hS1)
  · cases ho
theorem xs_arraylength (C : xCx p R s m args meth c D ca M lv base h0) (X : xSX scr b base s) (S : xSt s D ca b base h0 h H locs) (hl : lv_has lsC (xmL M) (xlv b base ls)) (hd : decode (xmc M) pc = .ok (.arraylength, len)) (ho : xO scr lv M pc len ls st h (.arraylength) = some (.inl (pc', ls', st', h'))) (hc : h'.1 - h0.1 ≤ R.cells) (hs : h'.2.1 - h0.2.1 ≤ R.slots) (kk : ∀ (H' : Heap) (locs' : List Loc) (lsC' : Array Slot), xSt s D ca b base h0 h' H' locs' → lv_has lsC' (xmL M) (xlv b base ls') → xGo p l e R s m args below meth c Q b base h0 pc' st' h' lsC' H' locs') : xGo p l e R s m args below meth c Q b base h0 pc st h lsC H locs := by
  simp only [xO] at ho
  replace ho := if_inv ho
  obtain ⟨rfl, ho⟩ := ho
  replace ho := xr1_inv ho
  obtain ⟨a, r, rfl, ho⟩ := ho
  unfold xlen at ho
  by_cases ha0 : a = 0
  · rw [if_pos ha0] at ho
    split at ho
    · rename_i n g
      obtain ⟨rfl, rfl, rfl, rfl⟩ := xn_inv ho
      obtain ⟨x1, x2, x3⟩ := X n g rfl
      subst ha0
      exact va_slen C.1 C.2.1 x1 x2 (show ¬ base < b by omega) S.2.2.1 hd (kk _ _ _ S hl)
    · cases ho
  · rw [if_neg ha0] at ho
    split at ho
    · rename_i t n g ha
      replace ho := if_inv ho
      obtain ⟨ht, ho⟩ := ho
      obtain ⟨rfl, rfl, rfl, rfl⟩ := xn_inv ho
      obtain ⟨a1, a2, a3⟩ := xw_get (ca := ca) (b := b) (base := base) S.2.1 ha
      show W p l e R s m args below meth c H locs _ _ Q (F0 m pc lsC (.ref (xad b base a) :: r.map (xcv b base)))
      rw [xad_pos a1]
      exact va_alen C.1 C.2.1 C.2.2.2.2.2.2.2.1 S.1 (a - 1) t (x := xcA b base (n, g)) a3 (xtys_at ca ht) (by unfold xcA; split <;> simp_all) hd (kk _ _ _ S hl)
    · cases ho
theorem xSt_nw {H' : Heap} {n : Nat} {cn : xE} (C : s.heap.size = base + h0.1 + 1) (S : xSt s D ca b base h0 h H locs) (hz : H.size = base + h.1 + 1) (hz' : H'.size = H.size + 1) (hq : ∀ q, q < H.size → H'[q]? = H[q]?) (ha : va_at D xCl (base + (h.1 + 1), xcE ca b base cn) H') : xSt s D ca b base h0 (xnw h n cn) H' locs := by
  obtain ⟨hP, hw, hS, h1, h2⟩ := S
  refine ⟨?_, xwf_nw hw n cn, ⟨?_, fun q q1 q2 => ?_, hS.2.2⟩, ?_, ?_⟩
  · rw [xw_nw]
    refine (hP.kept (fun k q hk => hq q.1 ((hP k q hk).lt))).app (fun k q hk => ?_)
    have hk1 : k < 1 := (List.getElem?_eq_some_iff.mp hk).1
    obtain rfl : k = 0 := by omega
    cases hk
    exact ha
  · exact Nat.le_trans hS.1 (by omega)
  · rw [hq q (Nat.lt_of_lt_of_le q1 hS.1)]
    exact hS.2.1 q q1 q2
  · show h0.1 ≤ h.1 + 1
    omega
  · show h0.2.1 ≤ h.2.1 + n
    omega
theorem xRA_prim {U : State} {cA : ClassId} {t : Nat} (ht : t < 3) (hK : va_K D xCl (xtys ca) U) (h : U.vm.findClass ("[" ++ (xTyA t).toString) = some cA) : cA = ca t := by
  have h1 := (hK.2 t _ (xtys_at ca (by omega))).2
  rcases (show t = 0 ∨ t = 1 ∨ t = 2 by omega) with rfl | rfl | rfl <;> exact Option.some.inj (h.symm.trans h1)
theorem xRA_obj {U : State} {cA : ClassId} {t : Nat} (ht : t = 3 ∨ t = 4) (hK : va_K D xCl (xtys ca) U) (h : U.vm.findClass ("[" ++ (FieldType.object (xTyC t)).toString) = some cA) : cA = ca t := by
  have h1 := (hK.2 t _ (xtys_at ca (by omega))).2
  rcases ht with rfl | rfl
  · obtain ⟨_, _, _, _, _, h2⟩ := h1
    exact Option.some.inj (h.symm.trans h2)
  · obtain ⟨_, _, _, _, _, h2⟩ := h1
    exact Option.some.inj (h.symm.trans h2)
theorem xs_newarray_int (C : xCx p R s m args meth c D ca M lv base h0) (X : xSX scr b base s) (S : xSt s D ca b base h0 h H locs) (hl : lv_has lsC (xmL M) (xlv b base ls)) (hd : decode (xmc M) pc = .ok (.newarray .int, len)) (ho : xO scr lv M pc len ls st h (.newarray .int) = some (.inl (pc', ls', st', h'))) (hc : h'.1 - h0.1 ≤ R.cells) (hs : h'.2.1 - h0.2.1 ≤ R.slots) (kk : ∀ (H' : Heap) (locs' : List Loc) (lsC' : Array Slot), xSt s D ca b base h0 h' H' locs' → lv_has lsC' (xmL M) (xlv b base ls') → xGo p l e R s m args below meth c Q b base h0 pc' st' h' lsC' H' locs') : xGo p l e R s m args below meth c Q b base h0 pc st h lsC H locs := by
  simp only [xO] at ho
  replace ho := if_inv ho
  obtain ⟨rfl, ho⟩ := ho
  replace ho := xi1_inv ho
  obtain ⟨n, r, rfl, ho⟩ := ho
  unfold xna at ho
  replace ho := if_invn ho
  obtain ⟨hn, ho⟩ := ho
  simp only at ho
  obtain ⟨rfl, rfl, rfl, rfl⟩ := xn_inv ho
  have hsz := C.2.2.2.2.2.2.2.2.2.2.2.2.2.2
  refine xW_sized fun hz => ?_
  have hz1 := xSt_size hsz S hz
  have hc1 : h.1 - h0.1 + 1 ≤ R.cells := by have := S.2.2.2.1; simp only [xnw] at hc; omega
  have hs1 : h.2.1 - h0.2.1 + n.toNatClampNeg ≤ R.slots := by have := S.2.2.2.2; simp only [xnw] at hs; omega
  refine va_newaK C.1 C.2.1 (atype := .int) (C.2.2.2.2.1 _ xArr_int) rfl hd rfl (fun q => hn (Or.inl q)) rfl (by have : ¬ 65536 < n.toNatClampNeg := fun q => hn (Or.inr q); show _ * _ ≤ _; simp only [newarray.typeOf, componentBytes]; omega) hc1 hs1 rfl fun H' cA e1 z1 o1 hAr hNm => ?_
  have hca : cA = ca 0 := xRA_prim (t := 0) (by decide) C.2.2.2.2.2.2.2.1 hNm
  have hk := kk H' locs lsC (xSt_nw hsz S hz1 z1 o1 (by
    show H'[base + (h.1 + 1)]? = some _
    rw [show base + (h.1 + 1) = H.size by omega, e1, hca]
    rfl)) hl
  have e2 : (xnw h n.toNatClampNeg (.inl (0, n.toNatClampNeg, .inl (fun _ => 0)))).1 - h0.1 = h.1 - h0.1 + 1 := by have := S.2.2.2.1; simp only [xnw]; omega
  have e3 : (xnw h n.toNatClampNeg (.inl (0, n.toNatClampNeg, .inl (fun _ => 0)))).2.1 - h0.2.1 = h.2.1 - h0.2.1 + n.toNatClampNeg := by have := S.2.2.2.2; simp only [xnw]; omega
  unfold xGo at hk
  rw [e2, e3] at hk
  have e4 : xad b base (h.1 + 1) = H.size := by rw [xad_pos (by omega)]; omega
  have hk2 : W p l e R s m args below meth c H' locs _ _ Q (F0 m (pc + 2) lsC (.ref (xad b base (h.1 + 1)) :: r.map (xcv b base))) := hk
  rw [e4] at hk2
  exact hk2
theorem xs_newarray_long (C : xCx p R s m args meth c D ca M lv base h0) (X : xSX scr b base s) (S : xSt s D ca b base h0 h H locs) (hl : lv_has lsC (xmL M) (xlv b base ls)) (hd : decode (xmc M) pc = .ok (.newarray .long, len)) (ho : xO scr lv M pc len ls st h (.newarray .long) = some (.inl (pc', ls', st', h'))) (hc : h'.1 - h0.1 ≤ R.cells) (hs : h'.2.1 - h0.2.1 ≤ R.slots) (kk : ∀ (H' : Heap) (locs' : List Loc) (lsC' : Array Slot), xSt s D ca b base h0 h' H' locs' → lv_has lsC' (xmL M) (xlv b base ls') → xGo p l e R s m args below meth c Q b base h0 pc' st' h' lsC' H' locs') : xGo p l e R s m args below meth c Q b base h0 pc st h lsC H locs := by
  simp only [xO] at ho
  replace ho := if_inv ho
  obtain ⟨rfl, ho⟩ := ho
  replace ho := xi1_inv ho
  obtain ⟨n, r, rfl, ho⟩ := ho
  unfold xna at ho
  replace ho := if_invn ho
  obtain ⟨hn, ho⟩ := ho
  simp only at ho
  obtain ⟨rfl, rfl, rfl, rfl⟩ := xn_inv ho
  have hsz := C.2.2.2.2.2.2.2.2.2.2.2.2.2.2
  refine xW_sized fun hz => ?_
  have hz1 := xSt_size hsz S hz
  have hc1 : h.1 - h0.1 + 1 ≤ R.cells := by have := S.2.2.2.1; simp only [xnw] at hc; omega
  have hs1 : h.2.1 - h0.2.1 + n.toNatClampNeg ≤ R.slots := by have := S.2.2.2.2; simp only [xnw] at hs; omega
  refine va_newaK C.1 C.2.1 (atype := .long) (C.2.2.2.2.1 _ xArr_long) rfl hd rfl (fun q => hn (Or.inl q)) rfl (by have : ¬ 65536 < n.toNatClampNeg := fun q => hn (Or.inr q); show _ * _ ≤ _; simp only [newarray.typeOf, componentBytes]; omega) hc1 hs1 rfl fun H' cA e1 z1 o1 hAr hNm => ?_
  have hca : cA = ca 1 := xRA_prim (t := 1) (by decide) C.2.2.2.2.2.2.2.1 hNm
  have hk := kk H' locs lsC (xSt_nw hsz S hz1 z1 o1 (by
    show H'[base + (h.1 + 1)]? = some _
    rw [show base + (h.1 + 1) = H.size by omega, e1, hca]
    rfl)) hl
  have e2 : (xnw h n.toNatClampNeg (.inl (1, n.toNatClampNeg, .inr (.inl (fun _ => 0))))).1 - h0.1 = h.1 - h0.1 + 1 := by have := S.2.2.2.1; simp only [xnw]; omega
  have e3 : (xnw h n.toNatClampNeg (.inl (1, n.toNatClampNeg, .inr (.inl (fun _ => 0))))).2.1 - h0.2.1 = h.2.1 - h0.2.1 + n.toNatClampNeg := by have := S.2.2.2.2; simp only [xnw]; omega
  unfold xGo at hk
  rw [e2, e3] at hk
  have e4 : xad b base (h.1 + 1) = H.size := by rw [xad_pos (by omega)]; omega
  have hk2 : W p l e R s m args below meth c H' locs _ _ Q (F0 m (pc + 2) lsC (.ref (xad b base (h.1 + 1)) :: r.map (xcv b base))) := hk
  rw [e4] at hk2
  exact hk2
theorem xs_newarray_boolean (C : xCx p R s m args meth c D ca M lv base h0) (X : xSX scr b base s) (S : xSt s D ca b base h0 h H locs) (hl : lv_has lsC (xmL M) (xlv b base ls)) (hd : decode (xmc M) pc = .ok (.newarray .boolean, len)) (ho : xO scr lv M pc len ls st h (.newarray .boolean) = some (.inl (pc', ls', st', h'))) (hc : h'.1 - h0.1 ≤ R.cells) (hs : h'.2.1 - h0.2.1 ≤ R.slots) (kk : ∀ (H' : Heap) (locs' : List Loc) (lsC' : Array Slot), xSt s D ca b base h0 h' H' locs' → lv_has lsC' (xmL M) (xlv b base ls') → xGo p l e R s m args below meth c Q b base h0 pc' st' h' lsC' H' locs') : xGo p l e R s m args below meth c Q b base h0 pc st h lsC H locs := by
  simp only [xO] at ho
  replace ho := if_inv ho
  obtain ⟨rfl, ho⟩ := ho
  replace ho := xi1_inv ho
  obtain ⟨n, r, rfl, ho⟩ := ho
  unfold xna at ho
  replace ho := if_invn ho
  obtain ⟨hn, ho⟩ := ho
  simp only at ho
  obtain ⟨rfl, rfl, rfl, rfl⟩ := xn_inv ho
  have hsz := C.2.2.2.2.2.2.2.2.2.2.2.2.2.2
  refine xW_sized fun hz => ?_
  have hz1 := xSt_size hsz S hz
  have hc1 : h.1 - h0.1 + 1 ≤ R.cells := by have := S.2.2.2.1; simp only [xnw] at hc; omega
  have hs1 : h.2.1 - h0.2.1 + n.toNatClampNeg ≤ R.slots := by have := S.2.2.2.2; simp only [xnw] at hs; omega
  refine va_newaK C.1 C.2.1 (atype := .boolean) (C.2.2.2.2.1 _ xArr_boolean) rfl hd rfl (fun q => hn (Or.inl q)) rfl (by have : ¬ 65536 < n.toNatClampNeg := fun q => hn (Or.inr q); show _ * _ ≤ _; simp only [newarray.typeOf, componentBytes]; omega) hc1 hs1 rfl fun H' cA e1 z1 o1 hAr hNm => ?_
  have hca : cA = ca 2 := xRA_prim (t := 2) (by decide) C.2.2.2.2.2.2.2.1 hNm
  have hk := kk H' locs lsC (xSt_nw hsz S hz1 z1 o1 (by
    show H'[base + (h.1 + 1)]? = some _
    rw [show base + (h.1 + 1) = H.size by omega, e1, hca]
    rfl)) hl
  have e2 : (xnw h n.toNatClampNeg (.inl (2, n.toNatClampNeg, .inl (fun _ => 0)))).1 - h0.1 = h.1 - h0.1 + 1 := by have := S.2.2.2.1; simp only [xnw]; omega
  have e3 : (xnw h n.toNatClampNeg (.inl (2, n.toNatClampNeg, .inl (fun _ => 0)))).2.1 - h0.2.1 = h.2.1 - h0.2.1 + n.toNatClampNeg := by have := S.2.2.2.2; simp only [xnw]; omega
  unfold xGo at hk
  rw [e2, e3] at hk
  have e4 : xad b base (h.1 + 1) = H.size := by rw [xad_pos (by omega)]; omega
  have hk2 : W p l e R s m args below meth c H' locs _ _ Q (F0 m (pc + 2) lsC (.ref (xad b base (h.1 + 1)) :: r.map (xcv b base))) := hk
  rw [e4] at hk2
  exact hk2
theorem xs_anewarray {k : Nat} (C : xCx p R s m args meth c D ca M lv base h0) (X : xSX scr b base s) (S : xSt s D ca b base h0 h H locs) (hl : lv_has lsC (xmL M) (xlv b base ls)) (hd : decode (xmc M) pc = .ok (.anewarray k, len)) (ho : xO scr lv M pc len ls st h (.anewarray k) = some (.inl (pc', ls', st', h'))) (hc : h'.1 - h0.1 ≤ R.cells) (hs : h'.2.1 - h0.2.1 ≤ R.slots) (kk : ∀ (H' : Heap) (locs' : List Loc) (lsC' : Array Slot), xSt s D ca b base h0 h' H' locs' → lv_has lsC' (xmL M) (xlv b base ls') → xGo p l e R s m args below meth c Q b base h0 pc' st' h' lsC' H' locs') : xGo p l e R s m args below meth c Q b base h0 pc st h lsC H locs := by
  simp only [xO] at ho
  replace ho := if_inv ho
  obtain ⟨rfl, ho⟩ := ho
  split at ho
  · rename_i t hA
    replace ho := xi1_inv ho
    obtain ⟨n, r, rfl, ho⟩ := ho
    have ht := xAn_t hA
    unfold xna at ho
    replace ho := if_invn ho
    obtain ⟨hn, ho⟩ := ho
    have ho : xn (pc + 3) ls (.ref (xnw h n.toNatClampNeg (.inl (t, n.toNatClampNeg, .inr (.inr (.inr (.inr (fun _ => none))))))).1 :: r) (xnw h n.toNatClampNeg (.inl (t, n.toNatClampNeg, .inr (.inr (.inr (.inr (fun _ => none))))))) = some (.inl (pc', ls', st', h')) := by
      rcases ht with rfl | rfl <;> exact ho
    obtain ⟨rfl, rfl, rfl, rfl⟩ := xn_inv ho
    have hsz := C.2.2.2.2.2.2.2.2.2.2.2.2.2.2
    refine xW_sized fun hz => ?_
    have hz1 := xSt_size hsz S hz
    have hc1 : h.1 - h0.1 + 1 ≤ R.cells := by have := S.2.2.2.1; simp only [xnw] at hc; omega
    have hs1 : h.2.1 - h0.2.1 + n.toNatClampNeg ≤ R.slots := by have := S.2.2.2.2; simp only [xnw] at hs; omega
    have hov : (Cond.arrayOver (.object (xTyC t))).before args s = true := by
      rcases ht with rfl | rfl
      · exact va_AO.use C.2.2.2.2.2.2.2.2.2.1
      · exact va_AO.use C.2.2.2.2.2.2.2.2.2.2.1
    refine W.anew C.1 C.2.1 C.2.2.2.1 (C.2.2.2.2.1 _ ((xAn_mem hA).2 _ List.mem_cons_self)) hov rfl hd rfl (fun q => hn (Or.inl q)) (by have : ¬ 65536 < n.toNatClampNeg := fun q => hn (Or.inr q); omega) hc1 hs1 fun cA kA comp f1 f2 f3 f4 => ?_
    have hca : cA = ca t := xRA_obj ht C.2.2.2.2.2.2.2.1 f1
    have hk := kk _ locs lsC (xSt_nw (H' := H.push ({ cls := cA, slots := Array.replicate n.toNatClampNeg .null, vm := .none } : Cell)) (n := n.toNatClampNeg) (cn := .inl (t, n.toNatClampNeg, .inr (.inr (.inr (.inr (fun _ => none)))))) hsz S hz1 (by simp) (fun q hq => by rw [Array.getElem?_push, if_neg (Nat.ne_of_lt hq)]) (by
      show (H.push _)[base + (h.1 + 1)]? = some _
      rw [show base + (h.1 + 1) = H.size by omega, Array.getElem?_push_size, hca, arrV_new]
      rfl)) hl
    have e2 : (xnw h n.toNatClampNeg (.inl (t, n.toNatClampNeg, .inr (.inr (.inr (.inr (fun _ => none))))))).1 - h0.1 = h.1 - h0.1 + 1 := by have := S.2.2.2.1; simp only [xnw]; omega
    have e3 : (xnw h n.toNatClampNeg (.inl (t, n.toNatClampNeg, .inr (.inr (.inr (.inr (fun _ => none))))))).2.1 - h0.2.1 = h.2.1 - h0.2.1 + n.toNatClampNeg := by have := S.2.2.2.2; simp only [xnw]; omega
    unfold xGo at hk
    rw [e2, e3] at hk
    have e4 : xad b base (h.1 + 1) = H.size := by rw [xad_pos (by omega)]; omega
    have hk2 : W p l e R s m args below meth c (H.push ({ cls := cA, slots := Array.replicate n.toNatClampNeg .null, vm := .none } : Cell)) locs _ _ Q (F0 m (pc + 3) lsC (.ref (xad b base (h.1 + 1)) :: r.map (xcv b base))) := hk
    rw [e4] at hk2
    exact hk2
  · cases ho
theorem xdf_ok (b base : Nat) {ci : Nat} (hci : ci < 10) : ∀ j, j < (xCT ci).2.2 → defaultValue (xTy ci j) = vp_V ((xbl ci).map (xcv b base)) j := by
  intro j hj
  have h1 : xcv b base (xdf (xTy ci j)) = xdf (xTy ci j) := by
    generalize xTy ci j = ty
    cases ty <;> rfl
  have h2 : defaultValue (xTy ci j) = xdf (xTy ci j) := by
    have := List.all_eq_true.mp (show (List.range 10).all (fun c => (List.range (xCT c).2.2).all (fun k => decide (defaultValue (xTy c k) = xdf (xTy c k)))) = true by decide +kernel) ci (List.mem_range.mpr hci)
    exact of_decide_eq_true (List.all_eq_true.mp this j (List.mem_range.mpr hj))
  unfold vp_V xbl
  rw [List.getD_eq_getElem?_getD, List.getElem?_map, List.getElem?_map, List.getElem?_range hj]
  simp only [Option.map_some, Option.getD_some]
  rw [h1, h2]
theorem xs_new {k : Nat} (C : xCx p R s m args meth c D ca M lv base h0) (X : xSX scr b base s) (S : xSt s D ca b base h0 h H locs) (hl : lv_has lsC (xmL M) (xlv b base ls)) (hd : decode (xmc M) pc = .ok (.new k, len)) (ho : xO scr lv M pc len ls st h (.new k) = some (.inl (pc', ls', st', h'))) (hc : h'.1 - h0.1 ≤ R.cells) (hs : h'.2.1 - h0.2.1 ≤ R.slots) (kk : ∀ (H' : Heap) (locs' : List Loc) (lsC' : Array Slot), xSt s D ca b base h0 h' H' locs' → lv_has lsC' (xmL M) (xlv b base ls') → xGo p l e R s m args below meth c Q b base h0 pc' st' h' lsC' H' locs') : xGo p l e R s m args below meth c Q b base h0 pc st h lsC H locs := by
  simp only [xO] at ho
  replace ho := if_inv ho
  obtain ⟨rfl, ho⟩ := ho
  split at ho
  · rename_i ci hN
    have hci := xNe_lt hN
    obtain ⟨-, hw⟩ := xNe_mem hN
    obtain ⟨rfl, rfl, rfl, rfl⟩ := xn_inv ho
    have hsz := C.2.2.2.2.2.2.2.2.2.2.2.2.2.2
    have hcl := xCl_lt hci
    have hKn := C.2.2.2.2.2.2.2.1.1 ci _ hcl
    refine xW_sized fun hz => ?_
    have hz1 := xSt_size hsz S hz
    have hc1 : h.1 - h0.1 + 1 ≤ R.cells := by have := S.2.2.2.1; simp only [xnw] at hc; omega
    have hs1 : h.2.1 - h0.2.1 + (xCT ci).2.2 ≤ R.slots := by have := S.2.2.2.2; simp only [xnw] at hs; omega
    have gw : ∀ w ∈ xNeN ((xmo M, k), ci), w.before args s = true := fun w q => C.2.2.2.2.1 w (hw w q)
    refine W.newcK C.1 C.2.1 C.2.2.2.1 (gw (.classLink (xcn (xmo M)) k (xCT ci).1) (by simp [xNeN])) (gw (.instantiable (xCT ci).1 (xCT ci).2.2) (by simp [xNeN])) (gw (.initialized (xCT ci).1) (by simp [xNeN])) rfl hd hc1 hs1 hKn.2.1 rfl fun H' kC hkC e1 z1 o1 => ?_
    have hk := kk H' locs lsC (xSt_nw (n := (xCT ci).2.2) (cn := .inr (ci, xbl ci)) hsz S hz1 z1 o1 ⟨_, hcl, by
      show t_OB (base + (h.1 + 1)) _ _ _ _ _
      rw [show base + (h.1 + 1) = H.size by omega]
      exact (u_born (xTy ci) C.2.2.2.2.1 (xCl_in hcl) hKn hkC e1 (xTy_ok hci)).to (xdf_ok b base hci)⟩) hl
    have e2 : (xnw h (xCT ci).2.2 (.inr (ci, xbl ci))).1 - h0.1 = h.1 - h0.1 + 1 := by have := S.2.2.2.1; simp only [xnw]; omega
    have e3 : (xnw h (xCT ci).2.2 (.inr (ci, xbl ci))).2.1 - h0.2.1 = h.2.1 - h0.2.1 + (xCT ci).2.2 := by have := S.2.2.2.2; simp only [xnw]; omega
    unfold xGo at hk
    rw [e2, e3] at hk
    have e4 : xad b base (h.1 + 1) = H.size := by rw [xad_pos (by omega)]; omega
    have hk2 : W p l e R s m args below meth c H' locs _ _ Q (F0 m (pc + 3) lsC (.ref (xad b base (h.1 + 1)) :: st.map (xcv b base))) := hk
    rw [e4] at hk2
    exact hk2
  · cases ho
end XSIM
