/-! One equation an instruction. -/
abbrev xQ : Type := Option (Option Value × xH)
/-- what a call gives -/
noncomputable def xC (M : xM) (a : List Value) (h : xH) : xQ := xR none (xmk M a) M 0 (xent (xmL M) a) [] h
noncomputable def xK (scr : xSc) (lv : Nat) (M : xM) (h : xH) (u : Option xU) : xQ := match u with
  | none => none
  | some (.inl (pc, ls, st, h')) => xR scr lv M pc ls st h'
  | some (.inr (.inl (M', a, pc, ls, r))) => if (xea a).length ≤ xmL M' then (match xC M' a h with
    | some (v, h') => xR scr lv M pc ls (v.toList ++ r) h'
    | none => none) else none
  | some (.inr (.inr v)) => some (v, h)
theorem xR_un {scr : xSc} {lv : Nat} {M : xM} {pc len : Nat} {ls : List (Option Value)} {st : List Value} {h : xH} {ins : Instr} (hd : decode (xmc M) pc = .ok (ins, len)) : xR scr lv M pc ls st h = xK scr lv M h (xO scr lv M pc len ls st h ins) := by
  cases ho : xO scr lv M pc len ls st h ins with
  | none =>
    refine xR_none fun n => ?_
    cases n with
    | zero => rfl
    | succ n =>
      rw [xA, hd]
      simp only
      rw [ho]
  | some u =>
    rcases u with ⟨pc1, ls1, st1, h1⟩ | ⟨M', a, pc1, ls1, r1⟩ | v1
    · exact xR_next hd ho
    · show _ = if (xea a).length ≤ xmL M' then _ else _
      by_cases hl : (xea a).length ≤ xmL M'
      · rw [if_pos hl]
        cases hc : xC M' a h with
        | some w =>
          obtain ⟨v, h'⟩ := w
          exact xR_call hd ho hl hc
        | none =>
          refine xR_none fun n => ?_
          cases n with
          | zero => rfl
          | succ n =>
            rw [xA, hd]
            simp only
            rw [ho]
            simp only
            rw [if_pos hl]
            cases hn : xA n none (xmk M' a) M' 0 (xent (xmL M') a) [] h with
            | none => rfl
            | some w =>
              have := xR_of hn
              unfold xC at hc
              rw [hc] at this
              cases this
      · rw [if_neg hl]
        refine xR_none fun n => ?_
        cases n with
        | zero => rfl
        | succ n =>
          rw [xA, hd]
          simp only
          rw [ho]
          simp only
          rw [if_neg hl]
    · exact xR_ret hd ho
def rgt (h : xH) (a ci k : Nat) (f : Value → xQ) : xQ := match h.2.2 a with
  | some (.inr (c, fs)) => if c = ci then (match fs[k]? with
    | some v => f v
    | none => none) else none
  | _ => none
def rpt (h : xH) (a ci k : Nat) (b : Bool) (v : Value) (f : xH → xQ) : xQ := match h.2.2 a with
  | some (.inr (c, fs)) => if c = ci ∧ k < fs.length ∧ b = true then f (xup h a (.inr (c, fs.set k v))) else none
  | _ => none
def ria (h : xH) (t a : Nat) (i : Int32) (f : Int32 → xQ) : xQ := if a = 0 then none else match h.2.2 a with
  | some (.inl (t', n, .inl g)) => if t' = t ∧ xinB i n = true then f (g i.toNatClampNeg) else none
  | _ => none
def rsc (n : Nat) (g : Nat → Int32) (i : Int32) (f : Int32 → xQ) : xQ := if xinB i n = true then f (g i.toNatClampNeg) else none
def ris (h : xH) (t a : Nat) (i : Int32) (x : Int32) (f : xH → xQ) : xQ := match h.2.2 a with
  | some (.inl (t', n, .inl g)) => if t' = t ∧ xinB i n = true then f (xup h a (.inl (t', n, .inl (upd g i.toNatClampNeg x)))) else none
  | _ => none
def rla (h : xH) (a : Nat) (i : Int32) (f : Int64 → xQ) : xQ := match h.2.2 a with
  | some (.inl (t', n, .inr (.inl g))) => if t' = 1 ∧ xinB i n = true then f (g i.toNatClampNeg) else none
  | _ => none
def rls (h : xH) (a : Nat) (i : Int32) (x : Int64) (f : xH → xQ) : xQ := match h.2.2 a with
  | some (.inl (t', n, .inr (.inl g))) => if t' = 1 ∧ xinB i n = true then f (xup h a (.inl (t', n, .inr (.inl (vp_updL g i.toNatClampNeg x))))) else none
  | _ => none
def raa (h : xH) (a : Nat) (i : Int32) (f : Nat → xQ) : xQ := match h.2.2 a with
  | some (.inl (t', n, .inr (.inr (.inr (.inr g))))) => if (t' = 3 ∨ t' = 4) ∧ xinB i n = true then (match g i.toNatClampNeg with
    | some k => f k
    | none => none) else none
  | _ => none
def ras (h : xH) (a : Nat) (i : Int32) (v : Nat) (f : xH → xQ) : xQ := match h.2.2 a, h.2.2 v with
  | some (.inl (t', n, .inr (.inr (.inr (.inr g))))), some (.inr (ci, _)) => if ((t' = 3 ∧ ci = 0) ∨ (t' = 4 ∧ ci = 3)) ∧ xinB i n = true then f (xup h a (.inl (t', n, .inr (.inr (.inr (.inr (va_up g i.toNatClampNeg (some v)))))))) else none
  | _, _ => none
def rln (h : xH) (a : Nat) (f : Int32 → xQ) : xQ := if a = 0 then none else match h.2.2 a with
  | some (.inl (t, n, _)) => if t < 5 then f (Int32.ofNat n) else none
  | _ => none
def rna (h : xH) (t : Nat) (n : Int32) (f : xH → xQ) : xQ :=
  if n < 0 ∨ 65536 < n.toNatClampNeg then none else match t with
  | 0 => f (xnw h n.toNatClampNeg (.inl (0, n.toNatClampNeg, .inl (fun _ => 0))))
  | 1 => f (xnw h n.toNatClampNeg (.inl (1, n.toNatClampNeg, .inr (.inl (fun _ => 0)))))
  | 2 => f (xnw h n.toNatClampNeg (.inl (2, n.toNatClampNeg, .inl (fun _ => 0))))
  | t => f (xnw h n.toNatClampNeg (.inl (t, n.toNatClampNeg, .inr (.inr (.inr (.inr (fun _ => none)))))))
def rcp (h : xH) (a a' : Nat) (sp dp n : Int32) (f : xH → xQ) : xQ := match h.2.2 a, h.2.2 a' with
  | some (.inl (0, n0, .inl g)), some (.inl (0, n1, .inl g')) => if ¬ sp < 0 ∧ ¬ dp < 0 ∧ ¬ n < 0 ∧ sp.toNatClampNeg + n.toNatClampNeg ≤ n0 ∧ dp.toNatClampNeg + n.toNatClampNeg ≤ n1 then f (xup h a' (.inl (0, n1, .inl (va_cpy g g' sp.toNatClampNeg dp.toNatClampNeg n.toNatClampNeg)))) else none
  | _, _ => none
/-- a call at a level, and how it goes on -/
noncomputable def rcl (lv : Nat) (M : xM) (a : List Value) (h : xH) (f : Option Value → xH → xQ) : xQ := if xmk M a < lv then (match xC M a h with
  | some (v, h') => f v h'
  | none => none) else none
noncomputable def rcv (lv : Nat) (M : xM) (a : List Value) (h : xH) (f : Option Value → xH → xQ) : xQ := if xrc h M a = true ∧ xmk M a < lv then (match xC M a h with
  | some (v, h') => f v h'
  | none => none) else none
section RR
variable {scr : xSc} {lv : Nat} {M : xM} {pc : Nat} {ls ls' : List (Option Value)} {st : List Value} {h : xH}
theorem r_iconst {n : Int} {v : Int32} (hd : decode (xmc M) pc = .ok (.iconst n, 1)) (hv : Int32.ofInt n = v) : xR scr lv M pc ls st h = xR scr lv M (pc + 1) ls (.int v :: st) h := by rw [xR_un hd, ← hv]; rfl
theorem r_bipush {n : Int} {v : Int32} (hd : decode (xmc M) pc = .ok (.bipush n, 2)) (hv : (Int8.ofInt n).toInt32 = v) : xR scr lv M pc ls st h = xR scr lv M (pc + 2) ls (.int v :: st) h := by rw [xR_un hd, ← hv]; rfl
theorem r_sipush {n : Int} {v : Int32} (hd : decode (xmc M) pc = .ok (.sipush n, 3)) (hv : (Int16.ofInt n).toInt32 = v) : xR scr lv M pc ls st h = xR scr lv M (pc + 3) ls (.int v :: st) h := by rw [xR_un hd, ← hv]; rfl
theorem r_lconst {n : Fin 2} {v : Int64} (hd : decode (xmc M) pc = .ok (.lconst n, 1)) (hv : Int64.ofNat n.val = v) : xR scr lv M pc ls st h = xR scr lv M (pc + 1) ls (.long v :: st) h := by rw [xR_un hd, ← hv]; rfl
theorem r_ldc {i : Nat} {v : Int32} (hd : decode (xmc M) pc = .ok (.ldc i, 2)) (hv : xLd (xmo M) i = some v) : xR scr lv M pc ls st h = xR scr lv M (pc + 2) ls (.int v :: st) h := by
  rw [xR_un hd]
  simp only [xO, hv]
  rfl
theorem r_ldcw {i : Nat} {v : Int32} (hd : decode (xmc M) pc = .ok (.ldc_w i, 3)) (hv : xLd (xmo M) i = some v) : xR scr lv M pc ls st h = xR scr lv M (pc + 3) ls (.int v :: st) h := by
  rw [xR_un hd]
  simp only [xO, hv]
  rfl
theorem r_ldc2 {i : Nat} {v : Int64} (hd : decode (xmc M) pc = .ok (.ldc2_w i, 3)) (hv : xL2 (xmo M) i = some v) : xR scr lv M pc ls st h = xR scr lv M (pc + 3) ls (.long v :: st) h := by
  rw [xR_un hd]
  simp only [xO, hv]
  rfl
theorem r_iload {i : Nat} {x : Int32} (hd : decode (xmc M) pc = .ok (.iload i, 2)) (hl : ls[i]? = some (some (.int x))) : xR scr lv M pc ls st h = xR scr lv M (pc + 2) ls (.int x :: st) h := by
  rw [xR_un hd]
  simp only [xO, xlg, hl]
  rfl
theorem r_iload_n {i : Fin 4} {x : Int32} (hd : decode (xmc M) pc = .ok (.iload_n i, 1)) (hl : ls[i.val]? = some (some (.int x))) : xR scr lv M pc ls st h = xR scr lv M (pc + 1) ls (.int x :: st) h := by
  rw [xR_un hd]
  simp only [xO, xlg, hl]
  rfl
theorem r_lload {i : Nat} {x : Int64} (hd : decode (xmc M) pc = .ok (.lload i, 2)) (hl : ls[i]? = some (some (.long x))) : xR scr lv M pc ls st h = xR scr lv M (pc + 2) ls (.long x :: st) h := by
  rw [xR_un hd]
  simp only [xO, xlg, hl]
  rfl
theorem r_lload_n {i : Fin 4} {x : Int64} (hd : decode (xmc M) pc = .ok (.lload_n i, 1)) (hl : ls[i.val]? = some (some (.long x))) : xR scr lv M pc ls st h = xR scr lv M (pc + 1) ls (.long x :: st) h := by
  rw [xR_un hd]
  simp only [xO, xlg, hl]
  rfl
theorem r_aload {i : Nat} {x : Nat} (hd : decode (xmc M) pc = .ok (.aload i, 2)) (hl : ls[i]? = some (some (.ref x))) : xR scr lv M pc ls st h = xR scr lv M (pc + 2) ls (.ref x :: st) h := by
  rw [xR_un hd]
  simp only [xO, xlg, hl]
  rfl
theorem r_aload_n {i : Fin 4} {x : Nat} (hd : decode (xmc M) pc = .ok (.aload_n i, 1)) (hl : ls[i.val]? = some (some (.ref x))) : xR scr lv M pc ls st h = xR scr lv M (pc + 1) ls (.ref x :: st) h := by
  rw [xR_un hd]
  simp only [xO, xlg, hl]
  rfl
theorem r_istore {i : Nat} {x : Int32} (hd : decode (xmc M) pc = .ok (.istore i, 2)) (hk : i < xmL M) (hl : xst1 ls i (.int x) = ls') : xR scr lv M pc ls (.int x :: st) h = xR scr lv M (pc + 2) ls' st h := by
  rw [xR_un hd]
  simp only [xO, xi1, hl]
  rw [if_pos ⟨trivial, hk⟩]
  rfl
theorem r_istore_n {i : Fin 4} {x : Int32} (hd : decode (xmc M) pc = .ok (.istore_n i, 1)) (hk : i.val < xmL M) (hl : xst1 ls i.val (.int x) = ls') : xR scr lv M pc ls (.int x :: st) h = xR scr lv M (pc + 1) ls' st h := by
  rw [xR_un hd]
  simp only [xO, xi1, hl]
  rw [if_pos ⟨trivial, hk⟩]
  rfl
theorem r_lstore {i : Nat} {x : Int64} (hd : decode (xmc M) pc = .ok (.lstore i, 2)) (hk : i + 1 < xmL M) (hl : xst2 ls i (.long x) = ls') : xR scr lv M pc ls (.long x :: st) h = xR scr lv M (pc + 2) ls' st h := by
  rw [xR_un hd]
  simp only [xO, xl1, hl]
  rw [if_pos ⟨trivial, hk⟩]
  rfl
theorem r_lstore_n {i : Fin 4} {x : Int64} (hd : decode (xmc M) pc = .ok (.lstore_n i, 1)) (hk : i.val + 1 < xmL M) (hl : xst2 ls i.val (.long x) = ls') : xR scr lv M pc ls (.long x :: st) h = xR scr lv M (pc + 1) ls' st h := by
  rw [xR_un hd]
  simp only [xO, xl1, hl]
  rw [if_pos ⟨trivial, hk⟩]
  rfl
theorem r_astore {i : Nat} {x : Nat} (hd : decode (xmc M) pc = .ok (.astore i, 2)) (hk : i < xmL M) (hl : xst1 ls i (.ref x) = ls') : xR scr lv M pc ls (.ref x :: st) h = xR scr lv M (pc + 2) ls' st h := by
  rw [xR_un hd]
  simp only [xO, xr1, hl]
  rw [if_pos ⟨trivial, hk⟩]
  rfl
theorem r_astore_n {i : Fin 4} {x : Nat} (hd : decode (xmc M) pc = .ok (.astore_n i, 1)) (hk : i.val < xmL M) (hl : xst1 ls i.val (.ref x) = ls') : xR scr lv M pc ls (.ref x :: st) h = xR scr lv M (pc + 1) ls' st h := by
  rw [xR_un hd]
  simp only [xO, xr1, hl]
  rw [if_pos ⟨trivial, hk⟩]
  rfl
theorem r_iinc {i : Nat} {n : Int} {x d : Int32} (hd : decode (xmc M) pc = .ok (.iinc i n, 3)) (hk : i < xmL M) (hx : ls[i]? = some (some (.int x))) (hn : Int32.ofInt n = d) (hl : xst1 ls i (.int (x + d)) = ls') : xR scr lv M pc ls st h = xR scr lv M (pc + 3) ls' st h := by
  subst hn
  rw [xR_un hd]
  simp only [xO, xlg, hx, xi1, hl]
  rw [if_pos ⟨trivial, hk⟩]
  rfl
theorem r_iadd {x y : Int32} (hd : decode (xmc M) pc = .ok (.iadd, 1)) : xR scr lv M pc ls (.int y :: .int x :: st) h = xR scr lv M (pc + 1) ls (.int (x + y) :: st) h := by rw [xR_un hd]; rfl
theorem r_isub {x y : Int32} (hd : decode (xmc M) pc = .ok (.isub, 1)) : xR scr lv M pc ls (.int y :: .int x :: st) h = xR scr lv M (pc + 1) ls (.int (x - y) :: st) h := by rw [xR_un hd]; rfl
theorem r_imul {x y : Int32} (hd : decode (xmc M) pc = .ok (.imul, 1)) : xR scr lv M pc ls (.int y :: .int x :: st) h = xR scr lv M (pc + 1) ls (.int (x * y) :: st) h := by rw [xR_un hd]; rfl
theorem r_iand {x y : Int32} (hd : decode (xmc M) pc = .ok (.iand, 1)) : xR scr lv M pc ls (.int y :: .int x :: st) h = xR scr lv M (pc + 1) ls (.int (x &&& y) :: st) h := by rw [xR_un hd]; rfl
theorem r_ior {x y : Int32} (hd : decode (xmc M) pc = .ok (.ior, 1)) : xR scr lv M pc ls (.int y :: .int x :: st) h = xR scr lv M (pc + 1) ls (.int (x ||| y) :: st) h := by rw [xR_un hd]; rfl
theorem r_ixor {x y : Int32} (hd : decode (xmc M) pc = .ok (.ixor, 1)) : xR scr lv M pc ls (.int y :: .int x :: st) h = xR scr lv M (pc + 1) ls (.int (x ^^^ y) :: st) h := by rw [xR_un hd]; rfl
theorem r_ishl {x y : Int32} (hd : decode (xmc M) pc = .ok (.ishl, 1)) : xR scr lv M pc ls (.int y :: .int x :: st) h = xR scr lv M (pc + 1) ls (.int (x <<< (y &&& 31)) :: st) h := by rw [xR_un hd]; rfl
theorem r_ishr {x y : Int32} (hd : decode (xmc M) pc = .ok (.ishr, 1)) : xR scr lv M pc ls (.int y :: .int x :: st) h = xR scr lv M (pc + 1) ls (.int (x >>> (y &&& 31)) :: st) h := by rw [xR_un hd]; rfl
theorem r_iushr {x y : Int32} (hd : decode (xmc M) pc = .ok (.iushr, 1)) : xR scr lv M pc ls (.int y :: .int x :: st) h = xR scr lv M (pc + 1) ls (.int ((x.toUInt32 >>> (y.toUInt32 &&& Int32.toUInt32 31)).toInt32) :: st) h := by rw [xR_un hd]; rfl
theorem r_ladd {x y : Int64} (hd : decode (xmc M) pc = .ok (.ladd, 1)) : xR scr lv M pc ls (.long y :: .long x :: st) h = xR scr lv M (pc + 1) ls (.long (x + y) :: st) h := by rw [xR_un hd]; rfl
theorem r_lmul {x y : Int64} (hd : decode (xmc M) pc = .ok (.lmul, 1)) : xR scr lv M pc ls (.long y :: .long x :: st) h = xR scr lv M (pc + 1) ls (.long (x * y) :: st) h := by rw [xR_un hd]; rfl
theorem r_land {x y : Int64} (hd : decode (xmc M) pc = .ok (.land, 1)) : xR scr lv M pc ls (.long y :: .long x :: st) h = xR scr lv M (pc + 1) ls (.long (x &&& y) :: st) h := by rw [xR_un hd]; rfl
theorem r_lor {x y : Int64} (hd : decode (xmc M) pc = .ok (.lor, 1)) : xR scr lv M pc ls (.long y :: .long x :: st) h = xR scr lv M (pc + 1) ls (.long (x ||| y) :: st) h := by rw [xR_un hd]; rfl
theorem r_idiv {x y : Int32} (hd : decode (xmc M) pc = .ok (.idiv, 1)) : xR scr lv M pc ls (.int y :: .int x :: st) h = if y = 0 then none else xR scr lv M (pc + 1) ls (.int (x / y) :: st) h := by
  rw [xR_un hd]
  by_cases q : y = 0
  · rw [if_pos q]
    simp only [xO, xi2, q]
    rfl
  · rw [if_neg q]
    simp only [xO, xi2, q]
    rfl
theorem r_irem {x y : Int32} (hd : decode (xmc M) pc = .ok (.irem, 1)) : xR scr lv M pc ls (.int y :: .int x :: st) h = if y = 0 then none else xR scr lv M (pc + 1) ls (.int (x - x / y * y) :: st) h := by
  rw [xR_un hd]
  by_cases q : y = 0
  · rw [if_pos q]
    simp only [xO, xi2, q]
    rfl
  · rw [if_neg q]
    simp only [xO, xi2, q]
    rfl
theorem r_ldiv {x y : Int64} (hd : decode (xmc M) pc = .ok (.ldiv, 1)) : xR scr lv M pc ls (.long y :: .long x :: st) h = if y = 0 then none else xR scr lv M (pc + 1) ls (.long (x / y) :: st) h := by
  rw [xR_un hd]
  by_cases q : y = 0
  · rw [if_pos q]
    simp only [xO, xl2, q]
    rfl
  · rw [if_neg q]
    simp only [xO, xl2, q]
    rfl
theorem r_lrem {x y : Int64} (hd : decode (xmc M) pc = .ok (.lrem, 1)) : xR scr lv M pc ls (.long y :: .long x :: st) h = if y = 0 then none else xR scr lv M (pc + 1) ls (.long (x - x / y * y) :: st) h := by
  rw [xR_un hd]
  by_cases q : y = 0
  · rw [if_pos q]
    simp only [xO, xl2, q]
    rfl
  · rw [if_neg q]
    simp only [xO, xl2, q]
    rfl
theorem r_lcmp {x y : Int64} (hd : decode (xmc M) pc = .ok (.lcmp, 1)) : xR scr lv M pc ls (.long y :: .long x :: st) h = xR scr lv M (pc + 1) ls (.int (lg_cmp x y) :: st) h := by rw [xR_un hd]; rfl
theorem r_lshl {x : Int64} {y : Int32} (hd : decode (xmc M) pc = .ok (.lshl, 1)) : xR scr lv M pc ls (.int y :: .long x :: st) h = xR scr lv M (pc + 1) ls (.long (x <<< (y.toInt64 &&& 63)) :: st) h := by rw [xR_un hd]; rfl
theorem r_lshr {x : Int64} {y : Int32} (hd : decode (xmc M) pc = .ok (.lshr, 1)) : xR scr lv M pc ls (.int y :: .long x :: st) h = xR scr lv M (pc + 1) ls (.long (x >>> (y.toInt64 &&& 63)) :: st) h := by rw [xR_un hd]; rfl
theorem r_lushr {x : Int64} {y : Int32} (hd : decode (xmc M) pc = .ok (.lushr, 1)) : xR scr lv M pc ls (.int y :: .long x :: st) h = xR scr lv M (pc + 1) ls (.long ((x.toUInt64 >>> (y.toInt64.toUInt64 &&& Int64.toUInt64 63)).toInt64) :: st) h := by rw [xR_un hd]; rfl
theorem r_i2l {x : Int32} (hd : decode (xmc M) pc = .ok (.i2l, 1)) : xR scr lv M pc ls (.int x :: st) h = xR scr lv M (pc + 1) ls (.long x.toInt64 :: st) h := by rw [xR_un hd]; rfl
theorem r_l2i {x : Int64} (hd : decode (xmc M) pc = .ok (.l2i, 1)) : xR scr lv M pc ls (.long x :: st) h = xR scr lv M (pc + 1) ls (.int x.toInt32 :: st) h := by rw [xR_un hd]; rfl
theorem r_dup {v : Value} (hd : decode (xmc M) pc = .ok (.dup, 1)) (hv : v.category = 1) : xR scr lv M pc ls (v :: st) h = xR scr lv M (pc + 1) ls (v :: v :: st) h := by
  rw [xR_un hd]
  simp only [xO]
  rw [if_pos trivial, if_pos hv]
  rfl
theorem r_pop {v : Value} (hd : decode (xmc M) pc = .ok (.pop, 1)) (hv : v.category = 1) : xR scr lv M pc ls (v :: st) h = xR scr lv M (pc + 1) ls st h := by
  rw [xR_un hd]
  simp only [xO]
  rw [if_pos trivial, if_pos hv]
  rfl
theorem r_dup2_11 {v w : Value} (hd : decode (xmc M) pc = .ok (.dup2, 1)) (hv : v.category = 1 ∧ w.category = 1) : xR scr lv M pc ls (v :: w :: st) h = xR scr lv M (pc + 1) ls (v :: w :: v :: w :: st) h := by
  rw [xR_un hd]
  simp only [xO]
  rw [if_pos trivial, if_pos hv]
  rfl
theorem r_if {c : Jvm.ClassFile.Cond} {off : Int} {t : Nat} {x : Int32} (hd : decode (xmc M) pc = .ok (.ifCond c off, 3)) (ht : (pc : Int) + off = (t : Int)) : xR scr lv M pc ls (.int x :: st) h = if xcm c x 0 = true then xR scr lv M t ls st h else xR scr lv M (pc + 3) ls st h := by
  rw [xR_un hd]
  simp only [xO, xi1, xtg, ht]
  rw [if_pos trivial, if_pos (by omega)]
  by_cases q : xcm c x 0 = true
  · rw [if_pos q, if_pos q]; rfl
  · rw [if_neg q, if_neg q]; rfl
theorem r_icmp {c : Jvm.ClassFile.Cond} {off : Int} {t : Nat} {x y : Int32} (hd : decode (xmc M) pc = .ok (.if_icmp c off, 3)) (ht : (pc : Int) + off = (t : Int)) : xR scr lv M pc ls (.int y :: .int x :: st) h = if xcm c x y = true then xR scr lv M t ls st h else xR scr lv M (pc + 3) ls st h := by
  rw [xR_un hd]
  simp only [xO, xi2, xtg, ht]
  rw [if_pos trivial, if_pos (by omega)]
  by_cases q : xcm c x y = true
  · rw [if_pos q, if_pos q]; rfl
  · rw [if_neg q, if_neg q]; rfl
theorem ite_iff {α : Type} {p q : Prop} [Decidable p] [Decidable q] (hpq : p ↔ q) (a b : α) : (if p then a else b) = (if q then a else b) := by
  by_cases hp : p
  · rw [if_pos hp, if_pos (hpq.mp hp)]
  · rw [if_neg hp, if_neg (fun z => hp (hpq.mpr z))]
theorem r_if_eq {off : Int} {t : Nat} {x : Int32} (hd : decode (xmc M) pc = .ok (.ifCond .eq off, 3)) (ht : (pc : Int) + off = (t : Int)) : xR scr lv M pc ls (.int x :: st) h = if x = 0 then xR scr lv M t ls st h else xR scr lv M (pc + 3) ls st h := (r_if hd ht).trans (ite_iff decide_eq_true_iff _ _)
theorem r_icmp_eq {off : Int} {t : Nat} {x y : Int32} (hd : decode (xmc M) pc = .ok (.if_icmp .eq off, 3)) (ht : (pc : Int) + off = (t : Int)) : xR scr lv M pc ls (.int y :: .int x :: st) h = if x = y then xR scr lv M t ls st h else xR scr lv M (pc + 3) ls st h := (r_icmp hd ht).trans (ite_iff decide_eq_true_iff _ _)
theorem r_if_ne {off : Int} {t : Nat} {x : Int32} (hd : decode (xmc M) pc = .ok (.ifCond .ne off, 3)) (ht : (pc : Int) + off = (t : Int)) : xR scr lv M pc ls (.int x :: st) h = if ¬ x = 0 then xR scr lv M t ls st h else xR scr lv M (pc + 3) ls st h := (r_if hd ht).trans (ite_iff decide_eq_true_iff _ _)
theorem r_icmp_ne {off : Int} {t : Nat} {x y : Int32} (hd : decode (xmc M) pc = .ok (.if_icmp .ne off, 3)) (ht : (pc : Int) + off = (t : Int)) : xR scr lv M pc ls (.int y :: .int x :: st) h = if ¬ x = y then xR scr lv M t ls st h else xR scr lv M (pc + 3) ls st h := (r_icmp hd ht).trans (ite_iff decide_eq_true_iff _ _)
theorem r_if_lt {off : Int} {t : Nat} {x : Int32} (hd : decode (xmc M) pc = .ok (.ifCond .lt off, 3)) (ht : (pc : Int) + off = (t : Int)) : xR scr lv M pc ls (.int x :: st) h = if x < 0 then xR scr lv M t ls st h else xR scr lv M (pc + 3) ls st h := (r_if hd ht).trans (ite_iff decide_eq_true_iff _ _)
theorem r_icmp_lt {off : Int} {t : Nat} {x y : Int32} (hd : decode (xmc M) pc = .ok (.if_icmp .lt off, 3)) (ht : (pc : Int) + off = (t : Int)) : xR scr lv M pc ls (.int y :: .int x :: st) h = if x < y then xR scr lv M t ls st h else xR scr lv M (pc + 3) ls st h := (r_icmp hd ht).trans (ite_iff decide_eq_true_iff _ _)
theorem r_if_ge {off : Int} {t : Nat} {x : Int32} (hd : decode (xmc M) pc = .ok (.ifCond .ge off, 3)) (ht : (pc : Int) + off = (t : Int)) : xR scr lv M pc ls (.int x :: st) h = if 0 ≤ x then xR scr lv M t ls st h else xR scr lv M (pc + 3) ls st h := (r_if hd ht).trans (ite_iff decide_eq_true_iff _ _)
theorem r_icmp_ge {off : Int} {t : Nat} {x y : Int32} (hd : decode (xmc M) pc = .ok (.if_icmp .ge off, 3)) (ht : (pc : Int) + off = (t : Int)) : xR scr lv M pc ls (.int y :: .int x :: st) h = if y ≤ x then xR scr lv M t ls st h else xR scr lv M (pc + 3) ls st h := (r_icmp hd ht).trans (ite_iff decide_eq_true_iff _ _)
theorem r_if_gt {off : Int} {t : Nat} {x : Int32} (hd : decode (xmc M) pc = .ok (.ifCond .gt off, 3)) (ht : (pc : Int) + off = (t : Int)) : xR scr lv M pc ls (.int x :: st) h = if 0 < x then xR scr lv M t ls st h else xR scr lv M (pc + 3) ls st h := (r_if hd ht).trans (ite_iff decide_eq_true_iff _ _)
theorem r_icmp_gt {off : Int} {t : Nat} {x y : Int32} (hd : decode (xmc M) pc = .ok (.if_icmp .gt off, 3)) (ht : (pc : Int) + off = (t : Int)) : xR scr lv M pc ls (.int y :: .int x :: st) h = if y < x then xR scr lv M t ls st h else xR scr lv M (pc + 3) ls st h := (r_icmp hd ht).trans (ite_iff decide_eq_true_iff _ _)
theorem r_if_le {off : Int} {t : Nat} {x : Int32} (hd : decode (xmc M) pc = .ok (.ifCond .le off, 3)) (ht : (pc : Int) + off = (t : Int)) : xR scr lv M pc ls (.int x :: st) h = if x ≤ 0 then xR scr lv M t ls st h else xR scr lv M (pc + 3) ls st h := (r_if hd ht).trans (ite_iff decide_eq_true_iff _ _)
theorem r_icmp_le {off : Int} {t : Nat} {x y : Int32} (hd : decode (xmc M) pc = .ok (.if_icmp .le off, 3)) (ht : (pc : Int) + off = (t : Int)) : xR scr lv M pc ls (.int y :: .int x :: st) h = if x ≤ y then xR scr lv M t ls st h else xR scr lv M (pc + 3) ls st h := (r_icmp hd ht).trans (ite_iff decide_eq_true_iff _ _)
theorem r_goto {off : Int} {t : Nat} (hd : decode (xmc M) pc = .ok (.goto off, 3)) (ht : (pc : Int) + off = (t : Int)) : xR scr lv M pc ls st h = xR scr lv M t ls st h := by
  rw [xR_un hd]
  simp only [xO, xtg, ht]
  rw [if_pos trivial, if_pos (by omega)]
  rfl
theorem r_table {dflt lo hi : Int} {offs : Array Int} {len td : Nat} {x : Int32} (hd : decode (xmc M) pc = .ok (.tableswitch dflt lo hi offs, len)) (ht : (pc : Int) + dflt = (td : Int)) : xR scr lv M pc ls (.int x :: st) h = if x.toInt < lo ∨ hi < x.toInt then xR scr lv M td ls st h else (match offs[(x.toInt - lo).toNat]? with
    | some off => if 0 ≤ (pc : Int) + off then xR scr lv M ((pc : Int) + off).toNat ls st h else none
    | none => none) := by
  rw [xR_un hd]
  simp only [xO, xi1, xtg, ht]
  by_cases q : x.toInt < lo ∨ hi < x.toInt
  · rw [if_pos q, if_pos q, if_pos (by omega)]
    rfl
  · rw [if_neg q, if_neg q]
    cases offs[(x.toInt - lo).toNat]? with
    | none => rfl
    | some off =>
      simp only
      by_cases q2 : 0 ≤ (pc : Int) + off
      · rw [if_pos q2, if_pos q2]; rfl
      · rw [if_neg q2, if_neg q2]; rfl
theorem r_lookup {dflt : Int} {ps : Array (Int × Int)} {len : Nat} {x : Int32} (hd : decode (xmc M) pc = .ok (.lookupswitch dflt ps, len)) (hp : (ps.toList.zip (ps.toList.drop 1)).all (fun (a, next) => a.1 < next.1) = true) : xR scr lv M pc ls (.int x :: st) h = if 0 ≤ (pc : Int) + Op.lookupswitch.offset ps.toList dflt x.toInt then xR scr lv M ((pc : Int) + Op.lookupswitch.offset ps.toList dflt x.toInt).toNat ls st h else none := by
  rw [xR_un hd]
  simp only [xO, xi1, xtg]
  rw [if_pos hp]
  by_cases q2 : 0 ≤ (pc : Int) + Op.lookupswitch.offset ps.toList dflt x.toInt
  · rw [if_pos q2, if_pos q2]; rfl
  · rw [if_neg q2, if_neg q2]; rfl
theorem r_get {i ci k a : Nat} (hd : decode (xmc M) pc = .ok (.getfield i, 3)) (hf : xFd (xmo M) i = some (ci, k)) : xR scr lv M pc ls (.ref a :: st) h = rgt h a ci k (fun v => xR scr lv M (pc + 3) ls (v :: st) h) := by
  rw [xR_un hd]
  simp only [xO, hf, xr1, xgt, rgt]
  rw [if_pos trivial]
  rcases hz : h.2.2 a with _ | (x | ⟨c, fs⟩)
  · rfl
  · rfl
  · by_cases q : c = ci
    · simp only [q, if_true]
      cases fs[k]? <;> rfl
    · simp only [q, if_false]
      rfl
theorem r_put {i ci k a : Nat} {v : Value} {bb : Bool} (hd : decode (xmc M) pc = .ok (.putfield i, 3)) (hf : xFd (xmo M) i = some (ci, k)) (hfin : ((xCT ci).2.1 k).2.2.2 = true → M.1.name = "<init>" ∧ ((xCT ci).2.1 k).1 = M.1.cls) (hb : xfit (xTy ci k) v = bb) : xR scr lv M pc ls (v :: .ref a :: st) h = rpt h a ci k bb v (fun h' => xR scr lv M (pc + 3) ls st h') := by
  rw [xR_un hd]
  simp only [xO, hf, xrv, xpt, rpt, hb]
  rw [if_pos trivial]
  rcases hz : h.2.2 a with _ | (x | ⟨c, fs⟩)
  · rfl
  · rfl
  · simp only
    by_cases q : c = ci ∧ k < fs.length ∧ bb = true
    · rw [if_pos ⟨q.1, q.2.1, q.2.2, hfin⟩, if_pos q]; rfl
    · rw [if_neg (fun z => q ⟨z.1, z.2.1, z.2.2.1⟩), if_neg q]; rfl
theorem r_iaload {a : Nat} {i : Int32} (hd : decode (xmc M) pc = .ok (.iaload, 1)) : xR none lv M pc ls (.int i :: .ref a :: st) h = ria h 0 a i (fun x => xR none lv M (pc + 1) ls (.int x :: st) h) := by
  rw [xR_un hd]
  simp only [xO, xri, xial, ria]
  rw [if_pos trivial]
  by_cases ha : a = 0
  · rw [if_pos ha, if_pos ha]
    rfl
  · rw [if_neg ha, if_neg ha]
    rcases hz : h.2.2 a with _ | (⟨t', n, (g | g | g | g | g)⟩ | ⟨c, fs⟩)
    · rfl
    · simp only
      split <;> rfl
    · rfl
    · rfl
    · rfl
    · rfl
    · rfl
theorem r_baload {a : Nat} {i : Int32} (hd : decode (xmc M) pc = .ok (.baload, 1)) : xR scr lv M pc ls (.int i :: .ref a :: st) h = ria h 2 a i (fun x => xR scr lv M (pc + 1) ls (.int x :: st) h) := by
  rw [xR_un hd]
  simp only [xO, xri, xial, ria]
  rw [if_pos trivial]
  by_cases ha : a = 0
  · rw [if_pos ha, if_pos ha]
    rfl
  · rw [if_neg ha, if_neg ha]
    rcases hz : h.2.2 a with _ | (⟨t', n, (g | g | g | g | g)⟩ | ⟨c, fs⟩)
    · rfl
    · simp only
      split <;> rfl
    · rfl
    · rfl
    · rfl
    · rfl
    · rfl
theorem r_script {n : Nat} {g : Nat → Int32} {i : Int32} (hd : decode (xmc M) pc = .ok (.iaload, 1)) : xR (some (n, g)) lv M pc ls (.int i :: .ref 0 :: st) h = rsc n g i (fun x => xR (some (n, g)) lv M (pc + 1) ls (.int x :: st) h) := by
  rw [xR_un hd]
  simp only [xO, xri, xial, rsc]
  rw [if_pos trivial, if_pos trivial]
  by_cases q : xinB i n = true
  · rw [if_pos ⟨trivial, q⟩, if_pos q]; rfl
  · rw [if_neg (fun z => q z.2), if_neg q]; rfl
theorem r_sclen {n : Nat} {g : Nat → Int32} (hd : decode (xmc M) pc = .ok (.arraylength, 1)) : xR (some (n, g)) lv M pc ls (.ref 0 :: st) h = xR (some (n, g)) lv M (pc + 1) ls (.int (Int32.ofNat n) :: st) h := by
  rw [xR_un hd]
  simp only [xO, xr1, xlen]
  rw [if_pos trivial, if_pos trivial]
  rfl
theorem r_laload {a : Nat} {i : Int32} (hd : decode (xmc M) pc = .ok (.laload, 1)) : xR scr lv M pc ls (.int i :: .ref a :: st) h = rla h a i (fun x => xR scr lv M (pc + 1) ls (.long x :: st) h) := by
  rw [xR_un hd]
  simp only [xO, xri, xlal, rla]
  rw [if_pos trivial]
  rcases hz : h.2.2 a with _ | (⟨t', n, (g | g | g | g | g)⟩ | ⟨c, fs⟩)
  · rfl
  · rfl
  · simp only
    split <;> rfl
  · rfl
  · rfl
  · rfl
  · rfl
theorem r_aaload {a : Nat} {i : Int32} (hd : decode (xmc M) pc = .ok (.aaload, 1)) : xR scr lv M pc ls (.int i :: .ref a :: st) h = raa h a i (fun x => xR scr lv M (pc + 1) ls (.ref x :: st) h) := by
  rw [xR_un hd]
  simp only [xO, xri, xaal, raa]
  rw [if_pos trivial]
  rcases hz : h.2.2 a with _ | (⟨t', n, (g | g | g | g | g)⟩ | ⟨c, fs⟩)
  · rfl
  · rfl
  · rfl
  · rfl
  · rfl
  · simp only
    by_cases q : (t' = 3 ∨ t' = 4) ∧ xinB i n = true
    · rw [if_pos q, if_pos q]
      cases g i.toNatClampNeg <;> rfl
    · rw [if_neg q, if_neg q]
      rfl
  · rfl
theorem r_iastore {a : Nat} {i x : Int32} (hd : decode (xmc M) pc = .ok (.iastore, 1)) : xR scr lv M pc ls (.int x :: .int i :: .ref a :: st) h = ris h 0 a i x (fun h' => xR scr lv M (pc + 1) ls st h') := by
  rw [xR_un hd]
  simp only [xO, xriv, xi1, xias, ris]
  rw [if_pos trivial]
  rcases hz : h.2.2 a with _ | (⟨t', n, (g | g | g | g | g)⟩ | ⟨c, fs⟩)
  · rfl
  · simp only
    split <;> rfl
  · rfl
  · rfl
  · rfl
  · rfl
  · rfl
theorem r_bastore {a : Nat} {i x : Int32} (hd : decode (xmc M) pc = .ok (.bastore, 1)) : xR scr lv M pc ls (.int x :: .int i :: .ref a :: st) h = ris h 2 a i (vp_nar .boolean x) (fun h' => xR scr lv M (pc + 1) ls st h') := by
  rw [xR_un hd]
  simp only [xO, xriv, xi1, xias, ris]
  rw [if_pos trivial]
  rcases hz : h.2.2 a with _ | (⟨t', n, (g | g | g | g | g)⟩ | ⟨c, fs⟩)
  · rfl
  · simp only
    split <;> rfl
  · rfl
  · rfl
  · rfl
  · rfl
  · rfl
theorem r_lastore {a : Nat} {i : Int32} {x : Int64} (hd : decode (xmc M) pc = .ok (.lastore, 1)) : xR scr lv M pc ls (.long x :: .int i :: .ref a :: st) h = rls h a i x (fun h' => xR scr lv M (pc + 1) ls st h') := by
  rw [xR_un hd]
  simp only [xO, xriv, xl1, xlas, rls]
  rw [if_pos trivial]
  rcases hz : h.2.2 a with _ | (⟨t', n, (g | g | g | g | g)⟩ | ⟨c, fs⟩)
  · rfl
  · rfl
  · simp only
    split <;> rfl
  · rfl
  · rfl
  · rfl
  · rfl
theorem r_aastore {a x : Nat} {i : Int32} (hd : decode (xmc M) pc = .ok (.aastore, 1)) : xR scr lv M pc ls (.ref x :: .int i :: .ref a :: st) h = ras h a i x (fun h' => xR scr lv M (pc + 1) ls st h') := by
  rw [xR_un hd]
  simp only [xO, xriv, xr1, xaas, ras]
  rw [if_pos trivial]
  rcases hz : h.2.2 a with _ | (⟨t', n, (g | g | g | g | g)⟩ | ⟨c, fs⟩) <;> rcases hy : h.2.2 x with _ | (y | ⟨c', fs'⟩) <;> first | rfl | (simp only; split <;> rfl)
theorem r_arraylength {a : Nat} (hd : decode (xmc M) pc = .ok (.arraylength, 1)) : xR none lv M pc ls (.ref a :: st) h = rln h a (fun x => xR none lv M (pc + 1) ls (.int x :: st) h) := by
  rw [xR_un hd]
  simp only [xO, xr1, xlen, rln]
  rw [if_pos trivial]
  by_cases ha : a = 0
  · rw [if_pos ha, if_pos ha]
    rfl
  · rw [if_neg ha, if_neg ha]
    rcases hz : h.2.2 a with _ | (⟨t', n, g⟩ | ⟨c, fs⟩)
    · rfl
    · simp only
      split <;> rfl
    · rfl
theorem r_newarray_int {n : Int32} (hd : decode (xmc M) pc = .ok (.newarray .int, 2)) : xR scr lv M pc ls (.int n :: st) h = rna h 0 n (fun h' => xR scr lv M (pc + 2) ls (.ref h'.1 :: st) h') := by
  rw [xR_un hd]
  simp only [xO, xi1, xna, rna]
  rw [if_pos trivial]
  split <;> rfl
theorem r_newarray_long {n : Int32} (hd : decode (xmc M) pc = .ok (.newarray .long, 2)) : xR scr lv M pc ls (.int n :: st) h = rna h 1 n (fun h' => xR scr lv M (pc + 2) ls (.ref h'.1 :: st) h') := by
  rw [xR_un hd]
  simp only [xO, xi1, xna, rna]
  rw [if_pos trivial]
  split <;> rfl
theorem r_newarray_boolean {n : Int32} (hd : decode (xmc M) pc = .ok (.newarray .boolean, 2)) : xR scr lv M pc ls (.int n :: st) h = rna h 2 n (fun h' => xR scr lv M (pc + 2) ls (.ref h'.1 :: st) h') := by
  rw [xR_un hd]
  simp only [xO, xi1, xna, rna]
  rw [if_pos trivial]
  split <;> rfl
theorem r_anewarray {i t : Nat} {n : Int32} (hd : decode (xmc M) pc = .ok (.anewarray i, 3)) (ht : xAn (xmo M) i = some t) : xR scr lv M pc ls (.int n :: st) h = rna h t n (fun h' => xR scr lv M (pc + 3) ls (.ref h'.1 :: st) h') := by
  rw [xR_un hd]
  simp only [xO, ht, xi1, xna, rna]
  rw [if_pos trivial]
  split
  · rfl
  · rcases xAn_t ht with rfl | rfl <;> rfl
theorem r_new {i ci : Nat} (hd : decode (xmc M) pc = .ok (.new i, 3)) (ht : xNe (xmo M) i = some ci) : xR scr lv M pc ls st h = xR scr lv M (pc + 3) ls (.ref (h.1 + 1) :: st) (xnw h (xCT ci).2.2 (.inr (ci, xbl ci))) := by
  rw [xR_un hd]
  simp only [xO, ht]
  rfl
theorem r_cpy {i n0 : Nat} {M0 : xM} {n dp sp : Int32} {a a' : Nat} (hd : decode (xmc M) pc = .ok (.invokestatic i, 3)) (ht : xIv (xmo M) i = some (6, n0, M0)) (hc : xcat st ≤ 8) : xR scr lv M pc ls (.int n :: .int dp :: .ref a' :: .int sp :: .ref a :: st) h = rcp h a a' sp dp n (fun h' => xR scr lv M (pc + 3) ls st h') := by
  rw [xR_un hd]
  simp only [xO, ht, xcp, rcp]
  rw [if_pos trivial, if_pos hc]
  rcases hz : h.2.2 a with _ | (⟨(_ | t'), n0', (g | g | g | g | g)⟩ | ⟨c, fs⟩) <;> rcases hy : h.2.2 a' with _ | (⟨(_ | t2), n1, (g' | g' | g' | g' | g')⟩ | ⟨c', fs'⟩) <;> first | rfl | (simp only; split <;> rfl)
theorem r_maxI {i n0 : Nat} {M0 : xM} {x y : Int32} (hd : decode (xmc M) pc = .ok (.invokestatic i, 3)) (ht : xIv (xmo M) i = some (7, n0, M0)) (hc : xcat st ≤ 8) : xR scr lv M pc ls (.int y :: .int x :: st) h = xR scr lv M (pc + 3) ls (.int (if x < y then y else x) :: st) h := by
  rw [xR_un hd]
  simp only [xO, ht, xi2]
  rw [if_pos trivial, if_pos hc]
  rfl
theorem r_minI {i n0 : Nat} {M0 : xM} {x y : Int32} (hd : decode (xmc M) pc = .ok (.invokestatic i, 3)) (ht : xIv (xmo M) i = some (8, n0, M0)) (hc : xcat st ≤ 8) : xR scr lv M pc ls (.int y :: .int x :: st) h = xR scr lv M (pc + 3) ls (.int (if y < x then y else x) :: st) h := by
  rw [xR_un hd]
  simp only [xO, ht, xi2]
  rw [if_pos trivial, if_pos hc]
  rfl
theorem r_maxJ {i n0 : Nat} {M0 : xM} {x y : Int64} (hd : decode (xmc M) pc = .ok (.invokestatic i, 3)) (ht : xIv (xmo M) i = some (9, n0, M0)) (hc : xcat st ≤ 8) : xR scr lv M pc ls (.long y :: .long x :: st) h = xR scr lv M (pc + 3) ls (.long (if y < x then x else y) :: st) h := by
  rw [xR_un hd]
  simp only [xO, ht, xl2]
  rw [if_pos trivial, if_pos hc]
  rfl
theorem r_obj {i n0 : Nat} {M0 : xM} {a : Nat} (hd : decode (xmc M) pc = .ok (.invokespecial i, 3)) (ht : xIv (xmo M) i = some (5, n0, M0)) (hc : xcat st ≤ 8) : xR scr lv M pc ls (.ref a :: st) h = xR scr lv M (pc + 3) ls st h := by
  rw [xR_un hd]
  simp only [xO, ht, xr1]
  rw [if_pos trivial, if_pos hc]
  rfl
theorem r_callK {M' : xM} {a r : List Value} {pc' : Nat} (hl : (xea a).length ≤ xmL M') (hc : xcat r ≤ 8) : xK scr lv M h (xca lv M' a pc' ls r) = rcl lv M' a h (fun v h' => xR scr lv M pc' ls (v.toList ++ r) h') := by
  unfold xca rcl
  by_cases q : xmk M' a < lv
  · rw [if_pos ⟨q, hc⟩, if_pos q]
    show (if (xea a).length ≤ xmL M' then _ else _) = _
    rw [if_pos hl]
  · rw [if_neg (fun z => q z.1), if_neg q]
    rfl
theorem r_virt {i n : Nat} {M' : xM} {a r : List Value} (hd : decode (xmc M) pc = .ok (.invokevirtual i, 3)) (ht : xIv (xmo M) i = some (0, n, M')) (hn : n < st.length) (ha : (st.take (n + 1)).reverse = a) (hr : st.drop (n + 1) = r) (hl : (xea a).length ≤ xmL M') (hc : xcat r ≤ 8) : xR scr lv M pc ls st h = rcv lv M' a h (fun v h' => xR scr lv M (pc + 3) ls (v.toList ++ r) h') := by
  rw [xR_un hd]
  simp only [xO, ht, ha, hr]
  rw [if_pos trivial]
  unfold rcv
  by_cases q : xrc h M' a = true
  · rw [if_pos ⟨hn, q⟩, r_callK hl hc]
    unfold rcl
    by_cases q2 : xmk M' a < lv
    · rw [if_pos q2, if_pos ⟨q, q2⟩]
    · rw [if_neg q2, if_neg (fun z => q2 z.2)]
  · rw [if_neg (fun z => q z.2), if_neg (fun z => q z.1)]
    rfl
theorem r_stat {i n : Nat} {M' : xM} {a r : List Value} (hd : decode (xmc M) pc = .ok (.invokestatic i, 3)) (ht : xIv (xmo M) i = some (1, n, M') ∨ xIv (xmo M) i = some (3, n, M')) (hn : n ≤ st.length) (ha : (st.take n).reverse = a) (hr : st.drop n = r) (hl : (xea a).length ≤ xmL M') (hc : xcat r ≤ 8) : xR scr lv M pc ls st h = rcl lv M' a h (fun v h' => xR scr lv M (pc + 3) ls (v.toList ++ r) h') := by
  rw [xR_un hd]
  rcases ht with ht | ht
  · simp only [xO, ht, ha, hr]
    rw [if_pos trivial, if_pos hn, r_callK hl hc]
  · simp only [xO, ht, ha, hr]
    rw [if_pos trivial, if_pos hn, r_callK hl hc]
theorem r_spec {i n x : Nat} {M' : xM} {As r : List Value} (hd : decode (xmc M) pc = .ok (.invokespecial i, 3)) (ht : xIv (xmo M) i = some (2, n, M') ∨ xIv (xmo M) i = some (4, n, M')) (hn : n < st.length) (ha : (st.take (n + 1)).reverse = .ref x :: As) (hr : st.drop (n + 1) = r) (hl : (xea (.ref x :: As)).length ≤ xmL M') (hc : xcat r ≤ 8) : xR scr lv M pc ls st h = rcl lv M' (.ref x :: As) h (fun v h' => xR scr lv M (pc + 3) ls (v.toList ++ r) h') := by
  rw [xR_un hd]
  rcases ht with ht | ht
  · simp only [xO, ht, ha, hr]
    rw [if_pos trivial, if_pos hn, r_callK hl hc]
  · simp only [xO, ht, ha, hr]
    rw [if_pos trivial, if_pos hn, r_callK hl hc]
theorem r_ireturn {x : Int32} (hd : decode (xmc M) pc = .ok (.ireturn, 1)) (hr : xmr M = some .int) : xR scr lv M pc ls [.int x] h = some (some (.int x), h) := by
  rw [xR_un hd]
  simp only [xO, hr]
  rfl
theorem r_zreturn {x : Int32} (hd : decode (xmc M) pc = .ok (.ireturn, 1)) (hr : xmr M = some .boolean) : xR scr lv M pc ls [.int x] h = if x = 0 ∨ x = 1 then some (some (.int x), h) else none := by
  rw [xR_un hd]
  simp only [xO, hr]
  rw [if_pos trivial]
  by_cases q : x = 0 ∨ x = 1
  · rw [if_pos (Or.inr ⟨trivial, q⟩), if_pos q]; rfl
  · rw [if_neg (fun z => z.elim (fun z => by cases z) (fun z => q z.2)), if_neg q]; rfl
theorem r_lreturn {x : Int64} (hd : decode (xmc M) pc = .ok (.lreturn, 1)) (hr : xmr M = some .long) : xR scr lv M pc ls [.long x] h = some (some (.long x), h) := by
  rw [xR_un hd]
  simp only [xO, hr]
  rfl
theorem r_areturn {x : Nat} (hd : decode (xmc M) pc = .ok (.areturn, 1)) (hr : xmr M = some (.object "SpoonfulMore$Act")) : xR scr lv M pc ls [.ref x] h = some (some (.ref x), h) := by
  rw [xR_un hd]
  simp only [xO, hr]
  rfl
theorem r_return {x : Nat} (hd : decode (xmc M) pc = .ok (.return_, 1)) (hr : xmr M = none) : xR scr lv M pc ls [] h = some (none, h) := by
  rw [xR_un hd]
  simp only [xO, hr]
  rfl
end RR
