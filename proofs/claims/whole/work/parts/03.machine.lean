/-! A small machine over an abstract heap: what the bytecode does, by number of cell. -/
abbrev xE : Type := (Nat × vp_A) ⊕ (Nat × List Value)
abbrev xH : Type := Nat × Nat × (Nat → Option xE)
abbrev xF : Type := Nat × List (Option Value) × List Value × xH
abbrev xU : Type := xF ⊕ ((xM × List Value × Nat × List (Option Value) × List Value) ⊕ Option Value)
abbrev xSc : Type := Option (Nat × (Nat → Int32))
def xup (h : xH) (k : Nat) (c : xE) : xH := (h.1, h.2.1, fun j => if j = k then some c else h.2.2 j)
def xnw (h : xH) (n : Nat) (c : xE) : xH := (h.1 + 1, h.2.1 + n, fun j => if j = h.1 + 1 then some c else h.2.2 j)
def xn (pc : Nat) (ls : List (Option Value)) (st : List Value) (h : xH) : Option xU := some (.inl (pc, ls, st, h))
def xclr (ls : List (Option Value)) (i : Nat) : List (Option Value) := match i with
  | 0 => ls
  | j + 1 => match ls[j]? with
    | some (some (.long _)) => ls.set j none
    | some (some (.double _)) => ls.set j none
    | _ => ls
def xst1 (ls : List (Option Value)) (i : Nat) (v : Value) : List (Option Value) := (xclr ls i).set i (some v)
def xst2 (ls : List (Option Value)) (i : Nat) (v : Value) : List (Option Value) := ((xclr ls i).set i (some v)).set (i + 1) none
def xlg (ls : List (Option Value)) (i : Nat) (f : Value → Option xU) : Option xU := match ls[i]? with
  | some (some v) => f v
  | _ => none
def xi1 (st : List Value) (f : Int32 → List Value → Option xU) : Option xU := match st with
  | .int x :: r => f x r
  | _ => none
def xi2 (st : List Value) (f : Int32 → Int32 → List Value → Option xU) : Option xU := match st with
  | .int y :: .int x :: r => f x y r
  | _ => none
def xl1 (st : List Value) (f : Int64 → List Value → Option xU) : Option xU := match st with
  | .long x :: r => f x r
  | _ => none
def xl2 (st : List Value) (f : Int64 → Int64 → List Value → Option xU) : Option xU := match st with
  | .long y :: .long x :: r => f x y r
  | _ => none
def xli (st : List Value) (f : Int64 → Int32 → List Value → Option xU) : Option xU := match st with
  | .int y :: .long x :: r => f x y r
  | _ => none
def xr1 (st : List Value) (f : Nat → List Value → Option xU) : Option xU := match st with
  | .ref a :: r => f a r
  | _ => none
def xri (st : List Value) (f : Nat → Int32 → List Value → Option xU) : Option xU := match st with
  | .int i :: .ref a :: r => f a i r
  | _ => none
def xrv (st : List Value) (f : Nat → Value → List Value → Option xU) : Option xU := match st with
  | v :: .ref a :: r => f a v r
  | _ => none
def xriv (st : List Value) (f : Nat → Int32 → Value → List Value → Option xU) : Option xU := match st with
  | v :: .int i :: .ref a :: r => f a i v r
  | _ => none
def xtg (pc : Nat) (off : Int) (f : Nat → Option xU) : Option xU := if 0 ≤ (pc : Int) + off then f ((pc : Int) + off).toNat else none
def xcm (c : Jvm.ClassFile.Cond) (x y : Int32) : Bool := match c with
  | .eq => decide (x = y)
  | .ne => decide (x ≠ y)
  | .lt => decide (x < y)
  | .ge => decide (y ≤ x)
  | .gt => decide (y < x)
  | .le => decide (x ≤ y)
def xcat (st : List Value) : Nat := (st.map fun v => v.category).sum
def xinB (i : Int32) (n : Nat) : Bool := decide (¬ (i < 0 ∨ n ≤ i.toNatClampNeg))
def xfit (ty : FieldType) (v : Value) : Bool := match ty, v with
  | .int, .int _ => true
  | .long, .long _ => true
  | .boolean, .int x => x == 0 || x == 1
  | .object _, .ref _ => true
  | .array _, .ref _ => true
  | _, _ => false
def xdf (ty : FieldType) : Value := match ty with
  | .int => .int 0
  | .boolean => .int 0
  | .long => .long 0
  | _ => .null
def xbl (ci : Nat) : List Value := (List.range (xCT ci).2.2).map (fun k => xdf (xTy ci k))
def xgt (h : xH) (a ci k : Nat) (f : Value → Option xU) : Option xU := match h.2.2 a with
  | some (.inr (c, fs)) => if c = ci then (match fs[k]? with
    | some v => f v
    | none => none) else none
  | _ => none
def xpt (M : xM) (h : xH) (a ci k : Nat) (v : Value) (f : xH → Option xU) : Option xU := match h.2.2 a with
  | some (.inr (c, fs)) => if c = ci ∧ k < fs.length ∧ xfit (xTy ci k) v = true ∧ (((xCT ci).2.1 k).2.2.2 = true → M.1.name = "<init>" ∧ ((xCT ci).2.1 k).1 = M.1.cls) then f (xup h a (.inr (c, fs.set k v))) else none
  | _ => none
def xial (scr : xSc) (h : xH) (t a : Nat) (i : Int32) (f : Int32 → Option xU) : Option xU :=
  if a = 0 then (match scr with
    | some (n, g) => if t = 0 ∧ xinB i n = true then f (g i.toNatClampNeg) else none
    | none => none)
  else match h.2.2 a with
  | some (.inl (t', n, .inl g)) => if t' = t ∧ xinB i n = true then f (g i.toNatClampNeg) else none
  | _ => none
def xias (h : xH) (t a : Nat) (i : Int32) (x : Int32) (f : xH → Option xU) : Option xU := match h.2.2 a with
  | some (.inl (t', n, .inl g)) => if t' = t ∧ xinB i n = true then f (xup h a (.inl (t', n, .inl (upd g i.toNatClampNeg x)))) else none
  | _ => none
def xlal (h : xH) (a : Nat) (i : Int32) (f : Int64 → Option xU) : Option xU := match h.2.2 a with
  | some (.inl (t', n, .inr (.inl g))) => if t' = 1 ∧ xinB i n = true then f (g i.toNatClampNeg) else none
  | _ => none
def xlas (h : xH) (a : Nat) (i : Int32) (x : Int64) (f : xH → Option xU) : Option xU := match h.2.2 a with
  | some (.inl (t', n, .inr (.inl g))) => if t' = 1 ∧ xinB i n = true then f (xup h a (.inl (t', n, .inr (.inl (vp_updL g i.toNatClampNeg x))))) else none
  | _ => none
def xaal (h : xH) (a : Nat) (i : Int32) (f : Nat → Option xU) : Option xU := match h.2.2 a with
  | some (.inl (t', n, .inr (.inr (.inr (.inr g))))) => if (t' = 3 ∨ t' = 4) ∧ xinB i n = true then (match g i.toNatClampNeg with
    | some k => f k
    | none => none) else none
  | _ => none
def xaas (h : xH) (a : Nat) (i : Int32) (v : Nat) (f : xH → Option xU) : Option xU := match h.2.2 a, h.2.2 v with
  | some (.inl (t', n, .inr (.inr (.inr (.inr g))))), some (.inr (ci, _)) => if ((t' = 3 ∧ ci = 0) ∨ (t' = 4 ∧ ci = 3)) ∧ xinB i n = true then f (xup h a (.inl (t', n, .inr (.inr (.inr (.inr (va_up g i.toNatClampNeg (some v)))))))) else none
  | _, _ => none
def xlen (scr : xSc) (h : xH) (a : Nat) (f : Int32 → Option xU) : Option xU :=
  if a = 0 then (match scr with
    | some (n, _) => f (Int32.ofNat n)
    | none => none)
  else match h.2.2 a with
  | some (.inl (t, n, _)) => if t < 5 then f (Int32.ofNat n) else none
  | _ => none
def xna (h : xH) (t : Nat) (n : Int32) (f : xH → Option xU) : Option xU :=
  if n < 0 ∨ 65536 < n.toNatClampNeg then none else match t with
  | 0 => f (xnw h n.toNatClampNeg (.inl (0, n.toNatClampNeg, .inl (fun _ => 0))))
  | 1 => f (xnw h n.toNatClampNeg (.inl (1, n.toNatClampNeg, .inr (.inl (fun _ => 0)))))
  | 2 => f (xnw h n.toNatClampNeg (.inl (2, n.toNatClampNeg, .inl (fun _ => 0))))
  | t => f (xnw h n.toNatClampNeg (.inl (t, n.toNatClampNeg, .inr (.inr (.inr (.inr (fun _ => none)))))))
def xcp (h : xH) (a a' : Nat) (sp dp n : Int32) (f : xH → Option xU) : Option xU := match h.2.2 a, h.2.2 a' with
  | some (.inl (0, n0, .inl g)), some (.inl (0, n1, .inl g')) => if ¬ sp < 0 ∧ ¬ dp < 0 ∧ ¬ n < 0 ∧ sp.toNatClampNeg + n.toNatClampNeg ≤ n0 ∧ dp.toNatClampNeg + n.toNatClampNeg ≤ n1 then f (xup h a' (.inl (0, n1, .inl (va_cpy g g' sp.toNatClampNeg dp.toNatClampNeg n.toNatClampNeg)))) else none
  | _, _ => none
def xca (lv : Nat) (M : xM) (a : List Value) (pc : Nat) (ls : List (Option Value)) (r : List Value) : Option xU :=
  if xmk M a < lv ∧ xcat r ≤ 8 then some (.inr (.inl (M, a, pc, ls, r))) else none
/-- the receiver of a virtual call is of the callee's class -/
def xrc (h : xH) (M : xM) (a : List Value) : Bool := match a with
  | .ref k :: _ => (match h.2.2 k with
    | some (.inr (c, _)) => c == xmo M && decide (c < 10)
    | _ => false)
  | _ => false
def xO (scr : xSc) (lv : Nat) (M : xM) (pc len : Nat) (ls : List (Option Value)) (st : List Value) (h : xH) (ins : Instr) : Option xU :=
  match ins with
  | .iconst n => if len = 1 then xn (pc + 1) ls (.int (Int32.ofInt n) :: st) h else none
  | .bipush n => if len = 2 then xn (pc + 2) ls (.int (Int8.ofInt n).toInt32 :: st) h else none
  | .sipush n => if len = 3 then xn (pc + 3) ls (.int (Int16.ofInt n).toInt32 :: st) h else none
  | .lconst n => if len = 1 then xn (pc + 1) ls (.long (Int64.ofNat n.val) :: st) h else none
  | .ldc i => if len = 2 then (match xLd (xmo M) i with
    | some v => xn (pc + 2) ls (.int v :: st) h
    | none => none) else none
  | .ldc_w i => if len = 3 then (match xLd (xmo M) i with
    | some v => xn (pc + 3) ls (.int v :: st) h
    | none => none) else none
  | .ldc2_w i => if len = 3 then (match xL2 (xmo M) i with
    | some v => xn (pc + 3) ls (.long v :: st) h
    | none => none) else none
  | .iload i => if len = 2 then xlg ls i (fun v => xi1 (v :: st) (fun x r => xn (pc + 2) ls (.int x :: r) h)) else none
  | .iload_n i => if len = 1 then xlg ls i.val (fun v => xi1 (v :: st) (fun x r => xn (pc + 1) ls (.int x :: r) h)) else none
  | .lload i => if len = 2 then xlg ls i (fun v => xl1 (v :: st) (fun x r => xn (pc + 2) ls (.long x :: r) h)) else none
  | .lload_n i => if len = 1 then xlg ls i.val (fun v => xl1 (v :: st) (fun x r => xn (pc + 1) ls (.long x :: r) h)) else none
  | .aload i => if len = 2 then xlg ls i (fun v => xr1 (v :: st) (fun x r => xn (pc + 2) ls (.ref x :: r) h)) else none
  | .aload_n i => if len = 1 then xlg ls i.val (fun v => xr1 (v :: st) (fun x r => xn (pc + 1) ls (.ref x :: r) h)) else none
  | .istore i => if len = 2 ∧ i < xmL M then xi1 st (fun x r => xn (pc + 2) (xst1 ls i (.int x)) r h) else none
  | .istore_n i => if len = 1 ∧ i.val < xmL M then xi1 st (fun x r => xn (pc + 1) (xst1 ls i.val (.int x)) r h) else none
  | .lstore i => if len = 2 ∧ i + 1 < xmL M then xl1 st (fun x r => xn (pc + 2) (xst2 ls i (.long x)) r h) else none
  | .lstore_n i => if len = 1 ∧ i.val + 1 < xmL M then xl1 st (fun x r => xn (pc + 1) (xst2 ls i.val (.long x)) r h) else none
  | .astore i => if len = 2 ∧ i < xmL M then xr1 st (fun x r => xn (pc + 2) (xst1 ls i (.ref x)) r h) else none
  | .astore_n i => if len = 1 ∧ i.val < xmL M then xr1 st (fun x r => xn (pc + 1) (xst1 ls i.val (.ref x)) r h) else none
  | .iinc i n => if len = 3 ∧ i < xmL M then xlg ls i (fun v => xi1 [v] (fun x _ => xn (pc + 3) (xst1 ls i (.int (x + Int32.ofInt n))) st h)) else none
  | .iadd => if len = 1 then xi2 st (fun x y r => xn (pc + 1) ls (.int (x + y) :: r) h) else none
  | .isub => if len = 1 then xi2 st (fun x y r => xn (pc + 1) ls (.int (x - y) :: r) h) else none
  | .imul => if len = 1 then xi2 st (fun x y r => xn (pc + 1) ls (.int (x * y) :: r) h) else none
  | .iand => if len = 1 then xi2 st (fun x y r => xn (pc + 1) ls (.int (x &&& y) :: r) h) else none
  | .ior => if len = 1 then xi2 st (fun x y r => xn (pc + 1) ls (.int (x ||| y) :: r) h) else none
  | .ixor => if len = 1 then xi2 st (fun x y r => xn (pc + 1) ls (.int (x ^^^ y) :: r) h) else none
  | .ishl => if len = 1 then xi2 st (fun x y r => xn (pc + 1) ls (.int (x <<< (y &&& 31)) :: r) h) else none
  | .ishr => if len = 1 then xi2 st (fun x y r => xn (pc + 1) ls (.int (x >>> (y &&& 31)) :: r) h) else none
  | .iushr => if len = 1 then xi2 st (fun x y r => xn (pc + 1) ls (.int (x.toUInt32 >>> (y.toUInt32 &&& Int32.toUInt32 31)).toInt32 :: r) h) else none
  | .idiv => if len = 1 then xi2 st (fun x y r => if y = 0 then none else xn (pc + 1) ls (.int (x / y) :: r) h) else none
  | .irem => if len = 1 then xi2 st (fun x y r => if y = 0 then none else xn (pc + 1) ls (.int (x - x / y * y) :: r) h) else none
  | .ladd => if len = 1 then xl2 st (fun x y r => xn (pc + 1) ls (.long (x + y) :: r) h) else none
  | .lmul => if len = 1 then xl2 st (fun x y r => xn (pc + 1) ls (.long (x * y) :: r) h) else none
  | .land => if len = 1 then xl2 st (fun x y r => xn (pc + 1) ls (.long (x &&& y) :: r) h) else none
  | .lor => if len = 1 then xl2 st (fun x y r => xn (pc + 1) ls (.long (x ||| y) :: r) h) else none
  | .ldiv => if len = 1 then xl2 st (fun x y r => if y = 0 then none else xn (pc + 1) ls (.long (x / y) :: r) h) else none
  | .lrem => if len = 1 then xl2 st (fun x y r => if y = 0 then none else xn (pc + 1) ls (.long (x - x / y * y) :: r) h) else none
  | .lcmp => if len = 1 then xl2 st (fun x y r => xn (pc + 1) ls (.int (lg_cmp x y) :: r) h) else none
  | .lshl => if len = 1 then xli st (fun x y r => xn (pc + 1) ls (.long (x <<< (y.toInt64 &&& 63)) :: r) h) else none
  | .lshr => if len = 1 then xli st (fun x y r => xn (pc + 1) ls (.long (x >>> (y.toInt64 &&& 63)) :: r) h) else none
  | .lushr => if len = 1 then xli st (fun x y r => xn (pc + 1) ls (.long (x.toUInt64 >>> (y.toInt64.toUInt64 &&& Int64.toUInt64 63)).toInt64 :: r) h) else none
  | .i2l => if len = 1 then xi1 st (fun x r => xn (pc + 1) ls (.long x.toInt64 :: r) h) else none
  | .l2i => if len = 1 then xl1 st (fun x r => xn (pc + 1) ls (.int x.toInt32 :: r) h) else none
  | .dup => if len = 1 then (match st with
    | v :: r => if v.category = 1 then xn (pc + 1) ls (v :: v :: r) h else none
    | _ => none) else none
  | .dup2 => if len = 1 then (match st with
    | v :: w :: r => if v.category = 1 ∧ w.category = 1 then xn (pc + 1) ls (v :: w :: v :: w :: r) h else if v.category = 2 then xn (pc + 1) ls (v :: v :: w :: r) h else none
    | [v] => if v.category = 2 then xn (pc + 1) ls [v, v] h else none
    | _ => none) else none
  | .pop => if len = 1 then (match st with
    | v :: r => if v.category = 1 then xn (pc + 1) ls r h else none
    | _ => none) else none
  | .ifCond c off => if len = 3 then xi1 st (fun x r => xtg pc off (fun t => if xcm c x 0 = true then xn t ls r h else xn (pc + 3) ls r h)) else none
  | .if_icmp c off => if len = 3 then xi2 st (fun x y r => xtg pc off (fun t => if xcm c x y = true then xn t ls r h else xn (pc + 3) ls r h)) else none
  | .goto off => if len = 3 then xtg pc off (fun t => xn t ls st h) else none
  | .tableswitch dflt lo hi offs => xi1 st (fun x r => if x.toInt < lo ∨ hi < x.toInt then xtg pc dflt (fun t => xn t ls r h) else (match offs[(x.toInt - lo).toNat]? with
    | some off => xtg pc off (fun t => xn t ls r h)
    | none => none))
  | .lookupswitch dflt ps => xi1 st (fun x r => if (ps.toList.zip (ps.toList.drop 1)).all (fun (a, next) => a.1 < next.1) = true then xtg pc (Op.lookupswitch.offset ps.toList dflt x.toInt) (fun t => xn t ls r h) else none)
  | .getfield i => if len = 3 then (match xFd (xmo M) i with
    | some (ci, k) => xr1 st (fun a r => xgt h a ci k (fun v => xn (pc + 3) ls (v :: r) h))
    | none => none) else none
  | .putfield i => if len = 3 then (match xFd (xmo M) i with
    | some (ci, k) => xrv st (fun a v r => xpt M h a ci k v (fun h' => xn (pc + 3) ls r h'))
    | none => none) else none
  | .iaload => if len = 1 then xri st (fun a i r => xial scr h 0 a i (fun x => xn (pc + 1) ls (.int x :: r) h)) else none
  | .baload => if len = 1 then xri st (fun a i r => xial none h 2 a i (fun x => xn (pc + 1) ls (.int x :: r) h)) else none
  | .laload => if len = 1 then xri st (fun a i r => xlal h a i (fun x => xn (pc + 1) ls (.long x :: r) h)) else none
  | .aaload => if len = 1 then xri st (fun a i r => xaal h a i (fun k => xn (pc + 1) ls (.ref k :: r) h)) else none
  | .iastore => if len = 1 then xriv st (fun a i v r => xi1 [v] (fun x _ => xias h 0 a i x (fun h' => xn (pc + 1) ls r h'))) else none
  | .bastore => if len = 1 then xriv st (fun a i v r => xi1 [v] (fun x _ => xias h 2 a i (vp_nar .boolean x) (fun h' => xn (pc + 1) ls r h'))) else none
  | .lastore => if len = 1 then xriv st (fun a i v r => xl1 [v] (fun x _ => xlas h a i x (fun h' => xn (pc + 1) ls r h'))) else none
  | .aastore => if len = 1 then xriv st (fun a i v r => xr1 [v] (fun x _ => xaas h a i x (fun h' => xn (pc + 1) ls r h'))) else none
  | .arraylength => if len = 1 then xr1 st (fun a r => xlen scr h a (fun n => xn (pc + 1) ls (.int n :: r) h)) else none
  | .newarray .int => if len = 2 then xi1 st (fun n r => xna h 0 n (fun h' => xn (pc + 2) ls (.ref h'.1 :: r) h')) else none
  | .newarray .long => if len = 2 then xi1 st (fun n r => xna h 1 n (fun h' => xn (pc + 2) ls (.ref h'.1 :: r) h')) else none
  | .newarray .boolean => if len = 2 then xi1 st (fun n r => xna h 2 n (fun h' => xn (pc + 2) ls (.ref h'.1 :: r) h')) else none
  | .anewarray i => if len = 3 then (match xAn (xmo M) i with
    | some t => xi1 st (fun n r => xna h t n (fun h' => xn (pc + 3) ls (.ref h'.1 :: r) h'))
    | none => none) else none
  | .new i => if len = 3 then (match xNe (xmo M) i with
    | some ci => xn (pc + 3) ls (.ref (h.1 + 1) :: st) (xnw h (xCT ci).2.2 (.inr (ci, xbl ci)))
    | none => none) else none
  | .invokevirtual i => if len = 3 then (match xIv (xmo M) i with
    | some (0, n, M') => if n < st.length ∧ xrc h M' (st.take (n + 1)).reverse = true then xca lv M' (st.take (n + 1)).reverse (pc + 3) ls (st.drop (n + 1)) else none
    | _ => none) else none
  | .invokestatic i => if len = 3 then (match xIv (xmo M) i with
    | some (1, n, M') => if n ≤ st.length then xca lv M' (st.take n).reverse (pc + 3) ls (st.drop n) else none
    | some (3, n, M') => if n ≤ st.length then xca lv M' (st.take n).reverse (pc + 3) ls (st.drop n) else none
    | some (6, _, _) => (match st with
      | .int n :: .int dp :: .ref a' :: .int sp :: .ref a :: r => if xcat r ≤ 8 then xcp h a a' sp dp n (fun h' => xn (pc + 3) ls r h') else none
      | _ => none)
    | some (7, _, _) => xi2 st (fun x y r => if xcat r ≤ 8 then xn (pc + 3) ls (.int (if x < y then y else x) :: r) h else none)
    | some (8, _, _) => xi2 st (fun x y r => if xcat r ≤ 8 then xn (pc + 3) ls (.int (if y < x then y else x) :: r) h else none)
    | some (9, _, _) => xl2 st (fun x y r => if xcat r ≤ 8 then xn (pc + 3) ls (.long (if y < x then x else y) :: r) h else none)
    | _ => none) else none
  | .invokespecial i => if len = 3 then (match xIv (xmo M) i with
    | some (2, n, M') => (match (st.take (n + 1)).reverse with
      | .ref a :: As => if n < st.length then xca lv M' (.ref a :: As) (pc + 3) ls (st.drop (n + 1)) else none
      | _ => none)
    | some (4, n, M') => (match (st.take (n + 1)).reverse with
      | .ref a :: As => if n < st.length then xca lv M' (.ref a :: As) (pc + 3) ls (st.drop (n + 1)) else none
      | _ => none)
    | some (5, _, _) => xr1 st (fun _ r => if xcat r ≤ 8 then xn (pc + 3) ls r h else none)
    | _ => none) else none
  | .ireturn => if len = 1 then (match st with
    | [.int x] => if xmr M = some .int ∨ (xmr M = some .boolean ∧ (x = 0 ∨ x = 1)) then some (.inr (.inr (some (.int x)))) else none
    | _ => none) else none
  | .lreturn => if len = 1 then (match st with
    | [.long x] => if xmr M = some .long then some (.inr (.inr (some (.long x)))) else none
    | _ => none) else none
  | .areturn => if len = 1 then (match st with
    | [.ref a] => if xmr M = some (.object "SpoonfulMore$Act") then some (.inr (.inr (some (.ref a)))) else none
    | _ => none) else none
  | .return_ => if len = 1 then (match st with
    | [] => if xmr M = none then some (.inr (.inr none)) else none
    | _ => none) else none
  | _ => none
/-- a method's locals at its start -/
def xea : List Value → List (Option Value)
  | [] => []
  | v :: vs => if v.category = 2 then some v :: none :: xea vs else some v :: xea vs
def xent (n : Nat) (a : List Value) : List (Option Value) := xea a ++ List.replicate (n - (xea a).length) none
/-- so many steps -/
def xA : Nat → xSc → Nat → xM → Nat → List (Option Value) → List Value → xH → Option (Option Value × xH)
  | 0, _, _, _, _, _, _, _ => none
  | n + 1, scr, lv, M, pc, ls, st, h => match decode (xmc M) pc with
    | .ok (ins, len) => match xO scr lv M pc len ls st h ins with
      | some (.inl (pc', ls', st', h')) => xA n scr lv M pc' ls' st' h'
      | some (.inr (.inl (M', a, pc', ls', r))) => if (xea a).length ≤ xmL M' then (match xA n none (xmk M' a) M' 0 (xent (xmL M') a) [] h with
        | some (v, h') => xA n scr lv M pc' ls' (v.toList ++ r) h'
        | none => none) else none
      | some (.inr (.inr v)) => some (v, h)
      | none => none
    | _ => none
theorem xA_up : ∀ (n : Nat) (scr : xSc) (lv : Nat) (M : xM) (pc : Nat) (ls : List (Option Value)) (st : List Value) (h : xH) (r : Option Value × xH), xA n scr lv M pc ls st h = some r → xA (n + 1) scr lv M pc ls st h = some r := by
  intro n
  induction n with
  | zero => intro scr lv M pc ls st h r hr; simp [xA] at hr
  | succ n ih =>
    intro scr lv M pc ls st h r hr
    rw [xA] at hr
    rw [xA]
    cases hd : decode (xmc M) pc with
    | error e => rw [hd] at hr; simp at hr
    | ok q =>
      obtain ⟨ins, len⟩ := q
      rw [hd] at hr
      simp only at hr ⊢
      cases ho : xO scr lv M pc len ls st h ins with
      | none => rw [ho] at hr; simp at hr
      | some u =>
        rw [ho] at hr
        rcases u with ⟨pc', ls', st', h'⟩ | ⟨M', a, pc', ls', r'⟩ | v
        · simp only at hr ⊢
          exact ih _ _ _ _ _ _ _ _ hr
        · simp only at hr ⊢
          by_cases hl : (xea a).length ≤ xmL M'
          · rw [if_pos hl] at hr ⊢
            cases hc : xA n none (xmk M' a) M' 0 (xent (xmL M') a) [] h with
            | none => rw [hc] at hr; simp at hr
            | some w =>
              obtain ⟨v, h'⟩ := w
              rw [hc] at hr
              rw [ih _ _ _ _ _ _ _ _ hc]
              simp only at hr ⊢
              exact ih _ _ _ _ _ _ _ _ hr
          · rw [if_neg hl] at hr; simp at hr
        · simp only at hr ⊢
          exact hr
theorem xA_le {n k : Nat} {scr : xSc} {lv : Nat} {M : xM} {pc : Nat} {ls : List (Option Value)} {st : List Value} {h : xH} {r : Option Value × xH} (hr : xA n scr lv M pc ls st h = some r) (hk : n ≤ k) : xA k scr lv M pc ls st h = some r := by
  induction hk with
  | refl => exact hr
  | step _ ih => exact xA_up _ _ _ _ _ _ _ _ _ ih
/-- what comes of it, however long it takes -/
noncomputable def xR (scr : xSc) (lv : Nat) (M : xM) (pc : Nat) (ls : List (Option Value)) (st : List Value) (h : xH) : Option (Option Value × xH) := by
  classical
  exact if H : ∃ (n : Nat) (r : Option Value × xH), xA n scr lv M pc ls st h = some r then some H.choose_spec.choose else none
theorem xR_of {n : Nat} {scr : xSc} {lv : Nat} {M : xM} {pc : Nat} {ls : List (Option Value)} {st : List Value} {h : xH} {r : Option Value × xH} (hr : xA n scr lv M pc ls st h = some r) : xR scr lv M pc ls st h = some r := by
  have H : ∃ (n : Nat) (r : Option Value × xH), xA n scr lv M pc ls st h = some r := ⟨n, r, hr⟩
  unfold xR
  rw [dif_pos H]
  have h1 := H.choose_spec.choose_spec
  have h2 := xA_le h1 (Nat.le_max_left H.choose n)
  have h3 := xA_le hr (Nat.le_max_right H.choose n)
  rw [h2] at h3
  exact h3
theorem xR_ex {scr : xSc} {lv : Nat} {M : xM} {pc : Nat} {ls : List (Option Value)} {st : List Value} {h : xH} {r : Option Value × xH} (hr : xR scr lv M pc ls st h = some r) : ∃ n, xA n scr lv M pc ls st h = some r := by
  unfold xR at hr
  split at hr
  · rename_i H
    cases hr
    exact ⟨H.choose, H.choose_spec.choose_spec⟩
  · cases hr
theorem xR_none {scr : xSc} {lv : Nat} {M : xM} {pc : Nat} {ls : List (Option Value)} {st : List Value} {h : xH} (H : ∀ n, xA n scr lv M pc ls st h = none) : xR scr lv M pc ls st h = none := by
  cases hr : xR scr lv M pc ls st h with
  | none => rfl
  | some r =>
    obtain ⟨n, hn⟩ := xR_ex hr
    rw [H n] at hn
    cases hn
theorem xR_ext {scr scr' : xSc} {lv lv' : Nat} {M M' : xM} {pc pc' : Nat} {ls ls' : List (Option Value)} {st st' : List Value} {h h' : xH} (e : ∀ n, xA (n + 1) scr lv M pc ls st h = xA n scr' lv' M' pc' ls' st' h') : xR scr lv M pc ls st h = xR scr' lv' M' pc' ls' st' h' := by
  cases hr : xR scr' lv' M' pc' ls' st' h' with
  | some r =>
    obtain ⟨n, hn⟩ := xR_ex hr
    exact xR_of ((e n).trans hn)
  | none =>
    refine xR_none fun n => ?_
    cases n with
    | zero => rfl
    | succ n =>
      rw [e n]
      cases hn : xA n scr' lv' M' pc' ls' st' h' with
      | none => rfl
      | some r => rw [xR_of hn] at hr; cases hr
/-- one step -/
theorem xR_next {scr : xSc} {lv : Nat} {M : xM} {pc len : Nat} {ls : List (Option Value)} {st : List Value} {h : xH} {ins : Instr} {pc' : Nat} {ls' : List (Option Value)} {st' : List Value} {h' : xH} (hd : decode (xmc M) pc = .ok (ins, len)) (ho : xO scr lv M pc len ls st h ins = some (.inl (pc', ls', st', h'))) : xR scr lv M pc ls st h = xR scr lv M pc' ls' st' h' := by
  refine xR_ext fun n => ?_
  rw [xA, hd]
  simp only
  rw [ho]
theorem xR_ret {scr : xSc} {lv : Nat} {M : xM} {pc len : Nat} {ls : List (Option Value)} {st : List Value} {h : xH} {ins : Instr} {v : Option Value} (hd : decode (xmc M) pc = .ok (ins, len)) (ho : xO scr lv M pc len ls st h ins = some (.inr (.inr v))) : xR scr lv M pc ls st h = some (v, h) := by
  refine xR_of (n := 1) ?_
  rw [xA, hd]
  simp only
  rw [ho]
/-- a call, by what the callee gives -/
theorem xR_call {scr : xSc} {lv : Nat} {M : xM} {pc len : Nat} {ls : List (Option Value)} {st : List Value} {h : xH} {ins : Instr} {M' : xM} {a : List Value} {pc' : Nat} {ls' : List (Option Value)} {r : List Value} {v : Option Value} {h' : xH} (hd : decode (xmc M) pc = .ok (ins, len)) (ho : xO scr lv M pc len ls st h ins = some (.inr (.inl (M', a, pc', ls', r)))) (hl : (xea a).length ≤ xmL M') (hc : xR none (xmk M' a) M' 0 (xent (xmL M') a) [] h = some (v, h')) : xR scr lv M pc ls st h = xR scr lv M pc' ls' (v.toList ++ r) h' := by
  obtain ⟨k, hk⟩ := xR_ex hc
  have e : ∀ n, k ≤ n → xA (n + 1) scr lv M pc ls st h = xA n scr lv M pc' ls' (v.toList ++ r) h' := by
    intro n hn
    rw [xA, hd]
    simp only
    rw [ho]
    simp only
    rw [if_pos hl, xA_le hk hn]
  cases hr : xR scr lv M pc' ls' (v.toList ++ r) h' with
  | some w =>
    obtain ⟨n, hn⟩ := xR_ex hr
    exact xR_of ((e (max n k) (Nat.le_max_right _ _)).trans (xA_le hn (Nat.le_max_left _ _)))
  | none =>
    refine xR_none fun n => ?_
    cases hn : xA n scr lv M pc ls st h with
    | none => rfl
    | some w =>
      have h1 := xA_le hn (show n ≤ max n k + 1 by omega)
      rw [e (max n k) (Nat.le_max_right _ _)] at h1
      rw [xR_of h1] at hr
      cases hr
