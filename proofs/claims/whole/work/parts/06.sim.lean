section XCALL
variable {p : Program} {l : Launch} {e : Env} {R : Room} {s : State} {m : MethodId} {args : Array Value} {below : List Frame} {meth : Method} {c : Code} {Q : State → Prop}
variable {D : va_G} {ca : Nat → ClassId} {b base : Nat} {M : xM} {scr : xSc} {lv : Nat} {h0 : xH} {pc len : Nat} {ls : List (Option Value)} {st : List Value} {h : xH} {lsC : Array Slot} {H : Heap} {locs : List Loc}
variable {pc' : Nat} {ls' : List (Option Value)} {st' : List Value} {h' : xH}
theorem xca_inl {M' : xM} {a : List Value} {r : List Value} {f : xF} (ho : xca lv M' a pc ls r = some (.inl f)) : False := by
  unfold xca at ho
  have := (if_inv ho).2
  cases this

theorem xs_static {k : Nat} (C : xCx p R s m args meth c D ca M lv base h0) (X : xSX scr b base s) (S : xSt s D ca b base h0 h H locs) (hl : lv_has lsC (xmL M) (xlv b base ls)) (hd : decode (xmc M) pc = .ok (.invokestatic k, len)) (ho : xO scr lv M pc len ls st h (.invokestatic k) = some (.inl (pc', ls', st', h'))) (hc : h'.1 - h0.1 ≤ R.cells) (hs : h'.2.1 - h0.2.1 ≤ R.slots) (kk : ∀ (H' : Heap) (locs' : List Loc) (lsC' : Array Slot), xSt s D ca b base h0 h' H' locs' → lv_has lsC' (xmL M) (xlv b base ls') → xGo p l e R s m args below meth c Q b base h0 pc' st' h' lsC' H' locs') : xGo p l e R s m args below meth c Q b base h0 pc st h lsC H locs := by
  simp only [xO] at ho
  replace ho := if_inv ho
  obtain ⟨rfl, ho⟩ := ho
  have hml : c.maxLocals = lsC.size := by rw [C.2.2.1, hl.1]
  have hfr : lv + 1 ≤ R.frames := C.2.2.2.2.2.2.2.2.2.2.2.2.1
  have hlo : 64 * (lv + 1) ≤ R.locals := C.2.2.2.2.2.2.2.2.2.2.2.2.2.1
  split at ho
  · exact (xca_inl (if_inv ho).2).elim
  · exact (xca_inl (if_inv ho).2).elim
  · rename_i n M' hI
    have hn : ∀ w ∈ ([.methodLink (xcn (xmo M)) k arraycopyName, .native arraycopyName, .static arraycopyName, .initialized "java/lang/System"] : List Cond), w.before args s = true := fun w q => C.2.2.2.2.1 w ((xIv_need hI).2 w q)
    split at ho
    · rename_i n dp a' sp a r
      replace ho := if_inv ho
      obtain ⟨hr, ho⟩ := ho
      unfold xcp at ho
      split at ho
      · rename_i n0 g n1 g' ha ha'
        replace ho := if_inv ho
        obtain ⟨⟨q1, q2, q3, q4, q5⟩, ho⟩ := ho
        replace ho := xn_inv ho
        obtain ⟨rfl, rfl, rfl, rfl⟩ := ho
        obtain ⟨a1, a2, a3⟩ := xw_get (ca := ca) (b := b) (base := base) S.2.1 ha
        obtain ⟨b1, b2, b3⟩ := xw_get (ca := ca) (b := b) (base := base) S.2.1 ha'
        show W p l e R s m args below meth c H locs _ _ Q (F0 m pc lsC (.int n :: .int dp :: .ref (xad b base a') :: .int sp :: .ref (xad b base a) :: r.map (xcv b base)))
        rw [xad_pos a1, xad_pos b1]
        have hnf : nativeFrameWords "java/lang/System" "arraycopy" 5 = 7 := by decide
        refine va_copyi C.1 C.2.1 hml C.2.2.2.1 (hn _ (by simp)) (hn _ (by simp)) (hn _ (by simp)) (hn _ (by simp)) C.2.2.2.2.2.2.2.1 S.1 (xw_D ca b base h) S.2.2.1 (a - 1) (a' - 1) 0 0 a3 b3 (xtys_at ca (by decide)) (xtys_at ca (by decide)) rfl q1 q2 q3 q4 q5 (fun i _ => rfl) (by omega) (by rw [xcat_map, hnf]; omega) hd (fun H1 locs1 hP1 _ hS1 => ?_)
        exact kk _ _ _ (xSt_up S ha' hP1 hS1) hl
      · cases ho
    · cases ho
  · rename_i n M' hI
    have hn : ∀ w ∈ ([.methodLink (xcn (xmo M)) k Lib.Math.max.name, .static Lib.Math.max.name, .initialized "java/lang/Math", .code Lib.Math.max.name Lib.Math.max.code 2 (some .int)] : List Cond), w.before args s = true := fun w q => C.2.2.2.2.1 w ((xIv_need hI).2 w q)
    replace ho := xi2_inv ho
    obtain ⟨x, y, r, rfl, ho⟩ := ho
    replace ho := if_inv ho
    obtain ⟨hr, ho⟩ := ho
    replace ho := xn_inv ho
    obtain ⟨rfl, rfl, rfl, rfl⟩ := ho
    exact va_mmax C.1 C.2.1 hml C.2.2.2.1 (hn _ (by simp)) (hn _ (by simp)) (hn _ (by simp)) (hn _ (by simp)) (by omega) (by rw [xcat_map]; omega) hc hs hd (kk _ _ _ S hl)
  · rename_i n M' hI
    have hn : ∀ w ∈ ([.methodLink (xcn (xmo M)) k Lib.Math.min.name, .static Lib.Math.min.name, .initialized "java/lang/Math", .code Lib.Math.min.name Lib.Math.min.code 2 (some .int)] : List Cond), w.before args s = true := fun w q => C.2.2.2.2.1 w ((xIv_need hI).2 w q)
    replace ho := xi2_inv ho
    obtain ⟨x, y, r, rfl, ho⟩ := ho
    replace ho := if_inv ho
    obtain ⟨hr, ho⟩ := ho
    replace ho := xn_inv ho
    obtain ⟨rfl, rfl, rfl, rfl⟩ := ho
    exact va_mmin C.1 C.2.1 hml C.2.2.2.1 (hn _ (by simp)) (hn _ (by simp)) (hn _ (by simp)) (hn _ (by simp)) (by omega) (by rw [xcat_map]; omega) hc hs hd (kk _ _ _ S hl)
  · rename_i n M' hI
    have hn : ∀ w ∈ ([.methodLink (xcn (xmo M)) k Lib.MathLoose.max_long.x, .static Lib.MathLoose.max_long.x, .initialized "java/lang/Math", .code Lib.MathLoose.max_long.x Lib.MathLoose.max_long.code 4 (some .long)] : List Cond), w.before args s = true := fun w q => C.2.2.2.2.1 w ((xIv_need hI).2 w q)
    replace ho := xl2_inv ho
    obtain ⟨x, y, r, rfl, ho⟩ := ho
    replace ho := if_inv ho
    obtain ⟨hr, ho⟩ := ho
    replace ho := xn_inv ho
    obtain ⟨rfl, rfl, rfl, rfl⟩ := ho
    exact va_mmax_long C.1 C.2.1 hml C.2.2.2.1 (hn _ (by simp)) (hn _ (by simp)) (hn _ (by simp)) (hn _ (by simp)) (by omega) (by rw [xcat_map]; omega) hc hs hd (kk _ _ _ S hl)
  · cases ho
theorem xs_special {k : Nat} (C : xCx p R s m args meth c D ca M lv base h0) (X : xSX scr b base s) (S : xSt s D ca b base h0 h H locs) (hl : lv_has lsC (xmL M) (xlv b base ls)) (hd : decode (xmc M) pc = .ok (.invokespecial k, len)) (ho : xO scr lv M pc len ls st h (.invokespecial k) = some (.inl (pc', ls', st', h'))) (hc : h'.1 - h0.1 ≤ R.cells) (hs : h'.2.1 - h0.2.1 ≤ R.slots) (kk : ∀ (H' : Heap) (locs' : List Loc) (lsC' : Array Slot), xSt s D ca b base h0 h' H' locs' → lv_has lsC' (xmL M) (xlv b base ls') → xGo p l e R s m args below meth c Q b base h0 pc' st' h' lsC' H' locs') : xGo p l e R s m args below meth c Q b base h0 pc st h lsC H locs := by
  simp only [xO] at ho
  replace ho := if_inv ho
  obtain ⟨rfl, ho⟩ := ho
  have hml : lsC.size = c.maxLocals := by rw [C.2.2.1, hl.1]
  have hfr : lv + 1 ≤ R.frames := C.2.2.2.2.2.2.2.2.2.2.2.2.1
  have hlo : 64 * (lv + 1) ≤ R.locals := C.2.2.2.2.2.2.2.2.2.2.2.2.2.1
  split at ho
  · split at ho
    · exact (xca_inl (if_inv ho).2).elim
    · cases ho
  · split at ho
    · exact (xca_inl (if_inv ho).2).elim
    · cases ho
  · rename_i n M' hI
    have hn : ∀ w ∈ ([.methodLink (xcn (xmo M)) k objectInit, .instanceMethod objectInit, .code objectInit ⟨#[0xb1]⟩ 1 none] : List Cond), w.before args s = true := fun w q => C.2.2.2.2.1 w ((xIv_need hI).2 w q)
    replace ho := xr1_inv ho
    obtain ⟨x, r, rfl, ho⟩ := ho
    replace ho := if_inv ho
    obtain ⟨hr, ho⟩ := ho
    replace ho := xn_inv ho
    obtain ⟨rfl, rfl, rfl, rfl⟩ := ho
    exact W.objInit C.1 C.2.1 C.2.2.2.1 (hn _ (by simp)) (hn _ (by simp)) (hn _ (by simp)) rfl hml rfl hd (by omega) (by show 2 * 0 + _ + 12 ≤ _; rw [xcat_map]; omega) (kk _ _ _ S hl)
  · cases ho
theorem xs_virtual {k : Nat} (C : xCx p R s m args meth c D ca M lv base h0) (X : xSX scr b base s) (S : xSt s D ca b base h0 h H locs) (hl : lv_has lsC (xmL M) (xlv b base ls)) (hd : decode (xmc M) pc = .ok (.invokevirtual k, len)) (ho : xO scr lv M pc len ls st h (.invokevirtual k) = some (.inl (pc', ls', st', h'))) (hc : h'.1 - h0.1 ≤ R.cells) (hs : h'.2.1 - h0.2.1 ≤ R.slots) (kk : ∀ (H' : Heap) (locs' : List Loc) (lsC' : Array Slot), xSt s D ca b base h0 h' H' locs' → lv_has lsC' (xmL M) (xlv b base ls') → xGo p l e R s m args below meth c Q b base h0 pc' st' h' lsC' H' locs') : xGo p l e R s m args below meth c Q b base h0 pc st h lsC H locs := by
  simp only [xO] at ho
  replace ho := if_inv ho
  obtain ⟨rfl, ho⟩ := ho
  split at ho
  · exact (xca_inl (if_inv ho).2).elim
  · cases ho
set_option maxHeartbeats 4000000 in
theorem xs_all (ins : Instr) (C : xCx p R s m args meth c D ca M lv base h0) (X : xSX scr b base s) (S : xSt s D ca b base h0 h H locs) (hl : lv_has lsC (xmL M) (xlv b base ls)) (hd : decode (xmc M) pc = .ok (ins, len)) (ho : xO scr lv M pc len ls st h ins = some (.inl (pc', ls', st', h'))) (hc : h'.1 - h0.1 ≤ R.cells) (hs : h'.2.1 - h0.2.1 ≤ R.slots) (kk : ∀ (H' : Heap) (locs' : List Loc) (lsC' : Array Slot), xSt s D ca b base h0 h' H' locs' → lv_has lsC' (xmL M) (xlv b base ls') → xGo p l e R s m args below meth c Q b base h0 pc' st' h' lsC' H' locs') : xGo p l e R s m args below meth c Q b base h0 pc st h lsC H locs := by
  cases ins with
  | aaload => exact xs_aaload C X S hl hd ho hc hs kk
  | aastore => exact xs_aastore C X S hl hd ho hc hs kk
  | arraylength => exact xs_arraylength C X S hl hd ho hc hs kk
  | baload => exact xs_baload C X S hl hd ho hc hs kk
  | bastore => exact xs_bastore C X S hl hd ho hc hs kk
  | dup => exact xs_dup C X S hl hd ho hc hs kk
  | dup2 => exact xs_dup2 C X S hl hd ho hc hs kk
  | i2l => exact xs_i2l C X S hl hd ho hc hs kk
  | iadd => exact xs_iadd C X S hl hd ho hc hs kk
  | iaload => exact xs_iaload C X S hl hd ho hc hs kk
  | iand => exact xs_iand C X S hl hd ho hc hs kk
  | iastore => exact xs_iastore C X S hl hd ho hc hs kk
  | idiv => exact xs_idiv C X S hl hd ho hc hs kk
  | imul => exact xs_imul C X S hl hd ho hc hs kk
  | ior => exact xs_ior C X S hl hd ho hc hs kk
  | irem => exact xs_irem C X S hl hd ho hc hs kk
  | ishl => exact xs_ishl C X S hl hd ho hc hs kk
  | ishr => exact xs_ishr C X S hl hd ho hc hs kk
  | isub => exact xs_isub C X S hl hd ho hc hs kk
  | iushr => exact xs_iushr C X S hl hd ho hc hs kk
  | ixor => exact xs_ixor C X S hl hd ho hc hs kk
  | l2i => exact xs_l2i C X S hl hd ho hc hs kk
  | ladd => exact xs_ladd C X S hl hd ho hc hs kk
  | laload => exact xs_laload C X S hl hd ho hc hs kk
  | land => exact xs_land C X S hl hd ho hc hs kk
  | lastore => exact xs_lastore C X S hl hd ho hc hs kk
  | lcmp => exact xs_lcmp C X S hl hd ho hc hs kk
  | ldiv => exact xs_ldiv C X S hl hd ho hc hs kk
  | lmul => exact xs_lmul C X S hl hd ho hc hs kk
  | lor => exact xs_lor C X S hl hd ho hc hs kk
  | lrem => exact xs_lrem C X S hl hd ho hc hs kk
  | lshl => exact xs_lshl C X S hl hd ho hc hs kk
  | lshr => exact xs_lshr C X S hl hd ho hc hs kk
  | lushr => exact xs_lushr C X S hl hd ho hc hs kk
  | pop => exact xs_pop C X S hl hd ho hc hs kk
  | aload k => exact xs_aload C X S hl hd ho hc hs kk
  | aload_n k => exact xs_aload_n C X S hl hd ho hc hs kk
  | anewarray k => exact xs_anewarray C X S hl hd ho hc hs kk
  | astore k => exact xs_astore C X S hl hd ho hc hs kk
  | astore_n k => exact xs_astore_n C X S hl hd ho hc hs kk
  | bipush k => exact xs_bipush C X S hl hd ho hc hs kk
  | getfield k => exact xs_getfield C X S hl hd ho hc hs kk
  | iconst k => exact xs_iconst C X S hl hd ho hc hs kk
  | iload k => exact xs_iload C X S hl hd ho hc hs kk
  | iload_n k => exact xs_iload_n C X S hl hd ho hc hs kk
  | istore k => exact xs_istore C X S hl hd ho hc hs kk
  | istore_n k => exact xs_istore_n C X S hl hd ho hc hs kk
  | lconst k => exact xs_lconst C X S hl hd ho hc hs kk
  | ldc k => exact xs_ldc C X S hl hd ho hc hs kk
  | ldc_w k => exact xs_ldc_w C X S hl hd ho hc hs kk
  | ldc2_w k => exact xs_ldc2_w C X S hl hd ho hc hs kk
  | lload k => exact xs_lload C X S hl hd ho hc hs kk
  | lload_n k => exact xs_lload_n C X S hl hd ho hc hs kk
  | lstore k => exact xs_lstore C X S hl hd ho hc hs kk
  | lstore_n k => exact xs_lstore_n C X S hl hd ho hc hs kk
  | new k => exact xs_new C X S hl hd ho hc hs kk
  | putfield k => exact xs_putfield C X S hl hd ho hc hs kk
  | sipush k => exact xs_sipush C X S hl hd ho hc hs kk
  | goto k => exact xs_goto C X S hl hd ho hc hs kk
  | iinc k z => exact xs_iinc C X S hl hd ho hc hs kk
  | invokestatic k => exact xs_static C X S hl hd ho hc hs kk
  | invokespecial k => exact xs_special C X S hl hd ho hc hs kk
  | invokevirtual k => exact xs_virtual C X S hl hd ho hc hs kk
  | tableswitch dflt lo hi offs => exact xs_table C X S hl hd ho hc hs kk
  | lookupswitch dflt ps => exact xs_lookup C X S hl hd ho hc hs kk
  | ifCond c off => cases c with
    | eq => exact xs_if_eq C X S hl hd ho hc hs kk
    | ne => exact xs_if_ne C X S hl hd ho hc hs kk
    | lt => exact xs_if_lt C X S hl hd ho hc hs kk
    | ge => exact xs_if_ge C X S hl hd ho hc hs kk
    | gt => exact xs_if_gt C X S hl hd ho hc hs kk
    | le => exact xs_if_le C X S hl hd ho hc hs kk
  | if_icmp c off => cases c with
    | eq => exact xs_icmp_eq C X S hl hd ho hc hs kk
    | ne => exact xs_icmp_ne C X S hl hd ho hc hs kk
    | lt => exact xs_icmp_lt C X S hl hd ho hc hs kk
    | ge => exact xs_icmp_ge C X S hl hd ho hc hs kk
    | gt => exact xs_icmp_gt C X S hl hd ho hc hs kk
    | le => exact xs_icmp_le C X S hl hd ho hc hs kk
  | newarray t => cases t with
    | int => exact xs_newarray_int C X S hl hd ho hc hs kk
    | long => exact xs_newarray_long C X S hl hd ho hc hs kk
    | boolean => exact xs_newarray_boolean C X S hl hd ho hc hs kk
    | _ => simp [xO] at ho
  | ireturn =>
    simp only [xO] at ho
    replace ho := (if_inv ho).2
    split at ho
    · have q := (if_inv ho).2
      cases q
    · cases ho
  | lreturn =>
    simp only [xO] at ho
    replace ho := (if_inv ho).2
    split at ho
    · have q := (if_inv ho).2
      cases q
    · cases ho
  | areturn =>
    simp only [xO] at ho
    replace ho := (if_inv ho).2
    split at ho
    · have q := (if_inv ho).2
      cases q
    · cases ho
  | return_ =>
    simp only [xO] at ho
    replace ho := (if_inv ho).2
    split at ho
    · have q := (if_inv ho).2
      cases q
    · cases ho
  | _ => simp [xO] at ho
/-- what a call's contract is -/
def xKN (D : va_G) (ca : Nat → ClassId) (U : State) : Prop := va_K D xCl (xtys ca) U ∧ (∀ w ∈ xNest, va_Nw w U) ∧ va_AO "SpoonfulMore$Act" U ∧ va_AO "SpoonfulMore$Kept" U
def xPc (D : va_G) (ca : Nat → ClassId) (b base : Nat) (a : List Value) (h : xH) : Array Value → State → Prop := va_Pc (a.map (xcv b base)) (fun U => U.heap.size = base + h.1 + 1 ∧ va_P D xCl (xw ca b base h) U.heap ∧ xKN D ca U)
def xQc (D : va_G) (ca : Nat → ClassId) (b base : Nat) (v : Option Value) (h' : xH) : Array Value → State → Outcome → State → Prop := fun _ st o t => o = .returned (v.map (xcv b base)) ∧ va_P D xCl (xw ca b base h') t.heap ∧ va_F (fun q => base < q) st t
def xRm (M : xM) (a : List Value) (h h' : xH) : Room := { frames := xmk M a + 1, cells := h'.1 - h.1, slots := h'.2.1 - h.2.1, locals := 64 * (xmk M a + 1) }
abbrev xMet (l : Launch) (D : va_G) (ca : Nat → ClassId) (b base : Nat) (M : xM) (a : List Value) (h : xH) (v : Option Value) (h' : xH) : Prop :=
  Met l (xmy M) (xCd M :: xGood) (xRm M a h h') (xPc D ca b base a h) (xQc D ca b base v h') (h'.1 - h.1) (h'.2.1 - h.2.1) (fun q => base < q)
theorem xNest_form : ∀ w ∈ xNest, ∃ (o : String) (i : Nat) (x : MethodName) (hs : String), w = .methodLinkNest o i x hs := by
  intro w hw
  simp only [xNest, List.mem_cons, List.not_mem_nil, or_false] at hw
  rcases hw with rfl | rfl | rfl | rfl | rfl | rfl | rfl | rfl <;> exact ⟨_, _, _, _, rfl⟩
theorem xKN_warm {U : State} (hK : xKN D ca s) (hW : s.WarmedH U.vm) : xKN D ca U := by
  obtain ⟨k1, k2, k3, k4⟩ := hK
  refine ⟨va_K.moved hW.alike k1, fun w hw => ?_, va_AO.moved hW.alike k3, va_AO.moved hW.alike k4⟩
  obtain ⟨o, i, x, hs, rfl⟩ := xNest_form w hw
  exact va_Nw.warmM hW (k2 _ hw)
theorem xPc_blind {a : List Value} : FrameBlind (xPc D ca b base a h) := by
  intro A U g mk q
  obtain ⟨q1, q2, q3, k1, k2, k3, k4⟩ := q
  refine ⟨q1, q2, q3, va_K.moved (u := U) (U := U.calling g mk A) (Vm.Alike.refl U.vm) k1, fun w hw => ?_, va_AO.moved (u := U) (U := U.calling g mk A) (Vm.Alike.refl U.vm) k3, va_AO.moved (u := U) (U := U.calling g mk A) (Vm.Alike.refl U.vm) k4⟩
  obtain ⟨o, i, x, hs, rfl⟩ := xNest_form w hw
  exact va_Nw.same rfl (rfl : U.vm = (U.calling g mk A).vm) (k2 _ hw)
theorem xGoodIn {ws : List Cond} (hw : ∀ w ∈ ws, w ∈ xGood) : GoodIn xGood ws := fun w q => ⟨hw w q, good_of_word (List.mem_filter.mp (hw w q)).2⟩
theorem xcall_fin {st0 rest : List Value} {v1 : Option Value} {h1 : xH} {A : Array Value} {mc ms : Nat} (hw1 : xwf h1) (hle : h.1 ≤ h1.1 ∧ h.2.1 ≤ h1.2.1) (hmc : mc = h1.1 - h.1) (hms : ms = h1.2.1 - h.2.1) (S : xSt s D ca b base h0 h H locs)
    (hr : va_Run p l e R s m args below meth c H locs (h.1 - h0.1) (h.2.1 - h0.2.1) mc ms (F0 m pc lsC st0) rest (xQc D ca b base v1 h1 A) (fun q => base < q))
    (kk : ∀ (H' : Heap) (locs' : List Loc), xSt s D ca b base h0 h1 H' locs' → W p l e R s m args below meth c H' locs' (h1.1 - h0.1) (h1.2.1 - h0.2.1) Q (F0 m (pc + 3) lsC ((v1.map (xcv b base)).toList ++ rest))) : W p l e R s m args below meth c H locs (h.1 - h0.1) (h.2.1 - h0.2.1) Q (F0 m pc lsC st0) := by
  intro T hT X
  obtain ⟨v, st₀, t, T', L, e0, X', hL, e1, e2, ⟨hv, hP1, hz, hk⟩, stp⟩ := hr T hT X
  cases hv
  obtain ⟨hP, hw, hS, z1, z2⟩ := S
  have hS' : va_S (fun q => base < q) s.heap T'.heap (locs ++ L) := by
    rw [e0] at hz hk
    refine ⟨Nat.le_trans hS.1 (by rw [e1]; exact hz), fun q q1 q2 => ?_, fun q hq => ?_⟩
    · rw [e1, hk q (Nat.lt_of_lt_of_le q1 hS.1) q2]
      exact hS.2.1 q q1 q2
    · rcases List.mem_append.mp hq with q1 | q1
      · exact hS.2.2 q q1
      · exact hL q q1
  have k1 := kk T'.heap (locs ++ L) ⟨by rw [e1]; exact hP1, hw1, hS', by omega, by omega⟩
  rw [show h1.1 - h0.1 = h.1 - h0.1 + mc by omega, show h1.2.1 - h0.2.1 = h.2.1 - h0.2.1 + ms by omega] at k1
  obtain ⟨t2, a1, b1⟩ := k1 T' rfl X'
  exact ⟨t2, stp t2 a1, b1⟩
theorem xCT_name {ci : Nat} (hci : ci < 10) : (xCT ci).1 = xcn ci := by
  rcases (show ci = 0 ∨ ci = 1 ∨ ci = 2 ∨ ci = 3 ∨ ci = 4 ∨ ci = 5 ∨ ci = 6 ∨ ci = 7 ∨ ci = 8 ∨ ci = 9 by omega) with rfl | rfl | rfl | rfl | rfl | rfl | rfl | rfl | rfl | rfl <;> rfl
/-- what the table says of a callee -/
def xMok (n : Nat) (M : xM) : Prop := xcn (xmo M) = M.1.cls ∧ plainName M.1.cls = true ∧ M.1.cls ≠ "java/lang/invoke/MethodHandle" ∧ M.1.cls ≠ "java/lang/invoke/VarHandle" ∧ xmL M ≤ 20 ∧ (parseMethodDescriptor M.1.desc).map (fun d => d.parameters.length) = some n ∧ xCd M ∈ xGood
theorem xMok_of {o i kd n : Nat} {M' : xM} (hk : kd < 5) (h : xIv o i = some (kd, n, M')) : xMok n M' := by
  have hm := (xIv_need h).1
  have h1 := List.all_eq_true.mp xKB_all _ hm
  have h2 := xCdL_all _ hm hk
  have h3 : xMokB n M' = true := by
    rcases (show kd = 0 ∨ kd = 1 ∨ kd = 2 ∨ kd = 3 ∨ kd = 4 by omega) with rfl | rfl | rfl | rfl | rfl
    · exact h1
    · exact h1
    · simp only [xKB, Bool.and_eq_true] at h1; exact h1.1.1
    · simp only [xKB, Bool.and_eq_true] at h1; exact h1.1
    · simp only [xKB, Bool.and_eq_true] at h1; exact h1.1.1.1
  simp only [xMokB, Bool.and_eq_true, decide_eq_true_eq] at h3
  exact ⟨h3.1.1.1.1.1, h3.1.1.1.1.2, h3.1.1.1.2, h3.1.1.2, h3.1.2, h3.2, h2⟩
theorem xrest_cat {r : List Value} (hr : xcat r ≤ 8) : 2 * (F0 m pc lsC (r.map (xcv b base))).monitorRoom + ((r.map (xcv b base)).map fun v => v.category).sum ≤ 8 := by
  show 2 * 0 + _ ≤ 8
  rw [xcat_map]
  omega

theorem xc_V {k n : Nat} {M' : xM} {a r : List Value} {v1 : Option Value} {h1 : xH} (C : xCx p R s m args meth c D ca M lv base h0) (S : xSt s D ca b base h0 h H locs) (hl : lv_has lsC (xmL M) (xlv b base ls)) (hd : decode (xmc M) pc = .ok (.invokevirtual k, 3)) (hI : xIv (xmo M) k = some (0, n, M')) (hlv : xmk M' a < lv) (hr : xcat r ≤ 8) {x : Nat} {As : List Value} (ha : a = .ref x :: As) (hAs : As.length = n) (hst : st = As.reverse ++ .ref x :: r) (hrc : xrc h M' a = true) (hw1 : xwf h1) (hle : h.1 ≤ h1.1 ∧ h.2.1 ≤ h1.2.1) (hc : h1.1 - h0.1 ≤ R.cells) (hs : h1.2.1 - h0.2.1 ≤ R.slots) (hM : xMet l D ca b base M' a h v1 h1)
    (kk : ∀ (H' : Heap) (locs' : List Loc), xSt s D ca b base h0 h1 H' locs' → W p l e R s m args below meth c H' locs' (h1.1 - h0.1) (h1.2.1 - h0.2.1) Q (F0 m (pc + 3) lsC ((v1.map (xcv b base)).toList ++ r.map (xcv b base)))) : W p l e R s m args below meth c H locs (h.1 - h0.1) (h.2.1 - h0.2.1) Q (F0 m pc lsC (st.map (xcv b base))) := by
  have hok := xMok_of (by decide) hI
  obtain ⟨o1, o2, o3, o4, o5, o6, o7⟩ := hok
  have hfr : lv + 1 ≤ R.frames := C.2.2.2.2.2.2.2.2.2.2.2.2.1
  have hlo : 64 * (lv + 1) ≤ R.locals := C.2.2.2.2.2.2.2.2.2.2.2.2.2.1
  have hsz := C.2.2.2.2.2.2.2.2.2.2.2.2.2.2
  have hKN : xKN D ca s := ⟨C.2.2.2.2.2.2.2.1, C.2.2.2.2.2.2.2.2.1, C.2.2.2.2.2.2.2.2.2.1, C.2.2.2.2.2.2.2.2.2.2.1⟩
  have hNe := (xIv_need hI).2
  have hGi : ∀ w ∈ xCd M' :: xGood, w ∈ xGood := fun w q => (List.mem_cons.mp q).elim (fun e => e ▸ o7) id
  have z1 := S.2.2.2.1
  have z2 := S.2.2.2.2
  refine xW_sized fun hz => ?_
  have hz1 := xSt_size hsz S hz
  have hPre : ∀ U : State, U.heap = H → s.WarmedH U.vm → xPc D ca b base a h (a.map (xcv b base)).toArray U := fun U hU hW => ⟨rfl, by rw [hU]; exact hz1, by rw [hU]; exact S.1, xKN_warm hKN hW⟩
  have hfix : CallFix p m c (xmc M) (xmL M) s args xGood (xcn (xmo M)) := ⟨C.1, C.2.1, C.2.2.1, C.2.2.2.1, C.2.2.2.2.1⟩
  subst ha
  subst hst
  have hrec : ∃ fs, h.2.2 x = some (.inr (xmo M', fs)) ∧ xmo M' < 10 := by
    unfold xrc at hrc
    simp only at hrc
    split at hrc
    · rename_i c0 fs0 hx0
      simp only [Bool.and_eq_true, beq_iff_eq, decide_eq_true_eq] at hrc
      obtain ⟨rfl, q⟩ := hrc
      exact ⟨fs0, hx0, q⟩
    · cases hrc
  obtain ⟨fs, hx, hlt⟩ := hrec
  obtain ⟨a1, a2, a3⟩ := xw_get (ca := ca) (b := b) (base := base) S.2.1 hx
  have hrv := va_recv (a := base + x) hKN.1 S.1 (xCl_lt hlt) a3
  rw [xCT_name hlt, o1] at hrv
  refine xcall_fin (rest := r.map (xcv b base)) hw1 hle rfl rfl S (va_runV (As := As.map (xcv b base)) (b := base + x) (n := n) hfix hM (cwV n C.2.2.2.2.1 (xGoodIn fun w q => ?_) rfl rfl rfl ⟨rfl, o3, o4, o6⟩ ⟨?_, ?_⟩) ⟨xPc_blind, hrv, fun U hU hW => ?_⟩ rfl (by rw [List.length_map]; exact hAs) hl.1 ?_ (xrest_cat (b := b) (base := base) (m := m) (pc := pc) (lsC := lsC) hr) hd ⟨by omega, by omega⟩) kk
  · rcases List.mem_append.mp q with q | q
    · exact hNe w q
    · exact hGi w q
  · show xmk M' (.ref x :: As) + 1 + 1 ≤ R.frames
    omega
  · show 8 + (xmL M' + 11) + 64 * (xmk M' (.ref x :: As) + 1) ≤ R.locals
    omega
  · have := hPre U hU hW
    rw [List.map_cons, show xcv b base (.ref x) = .ref (base + x) from congrArg Value.ref (xad_pos a1)] at this
    exact this
  · show (As.reverse ++ .ref x :: r).map (xcv b base) = _
    rw [List.map_append, List.map_reverse, List.map_cons, show xcv b base (.ref x) = .ref (base + x) from congrArg Value.ref (xad_pos a1)]
theorem xc_S {k n : Nat} {M' : xM} {a r : List Value} {v1 : Option Value} {h1 : xH} (C : xCx p R s m args meth c D ca M lv base h0) (S : xSt s D ca b base h0 h H locs) (hl : lv_has lsC (xmL M) (xlv b base ls)) (hd : decode (xmc M) pc = .ok (.invokestatic k, 3)) (hI : xIv (xmo M) k = some (1, n, M')) (hlv : xmk M' a < lv) (hr : xcat r ≤ 8) (hAs : a.length = n) (hst : st = a.reverse ++ r) (hw1 : xwf h1) (hle : h.1 ≤ h1.1 ∧ h.2.1 ≤ h1.2.1) (hc : h1.1 - h0.1 ≤ R.cells) (hs : h1.2.1 - h0.2.1 ≤ R.slots) (hM : xMet l D ca b base M' a h v1 h1)
    (kk : ∀ (H' : Heap) (locs' : List Loc), xSt s D ca b base h0 h1 H' locs' → W p l e R s m args below meth c H' locs' (h1.1 - h0.1) (h1.2.1 - h0.2.1) Q (F0 m (pc + 3) lsC ((v1.map (xcv b base)).toList ++ r.map (xcv b base)))) : W p l e R s m args below meth c H locs (h.1 - h0.1) (h.2.1 - h0.2.1) Q (F0 m pc lsC (st.map (xcv b base))) := by
  have hok := xMok_of (by decide) hI
  obtain ⟨o1, o2, o3, o4, o5, o6, o7⟩ := hok
  have hfr : lv + 1 ≤ R.frames := C.2.2.2.2.2.2.2.2.2.2.2.2.1
  have hlo : 64 * (lv + 1) ≤ R.locals := C.2.2.2.2.2.2.2.2.2.2.2.2.2.1
  have hsz := C.2.2.2.2.2.2.2.2.2.2.2.2.2.2
  have hKN : xKN D ca s := ⟨C.2.2.2.2.2.2.2.1, C.2.2.2.2.2.2.2.2.1, C.2.2.2.2.2.2.2.2.2.1, C.2.2.2.2.2.2.2.2.2.2.1⟩
  have hNe := (xIv_need hI).2
  have hGi : ∀ w ∈ xCd M' :: xGood, w ∈ xGood := fun w q => (List.mem_cons.mp q).elim (fun e => e ▸ o7) id
  have z1 := S.2.2.2.1
  have z2 := S.2.2.2.2
  refine xW_sized fun hz => ?_
  have hz1 := xSt_size hsz S hz
  have hPre : ∀ U : State, U.heap = H → s.WarmedH U.vm → xPc D ca b base a h (a.map (xcv b base)).toArray U := fun U hU hW => ⟨rfl, by rw [hU]; exact hz1, by rw [hU]; exact S.1, xKN_warm hKN hW⟩
  have hfix : CallFix p m c (xmc M) (xmL M) s args xGood (xcn (xmo M)) := ⟨C.1, C.2.1, C.2.2.1, C.2.2.2.1, C.2.2.2.2.1⟩
  subst hst
  refine xcall_fin (rest := r.map (xcv b base)) hw1 hle rfl rfl S (va_runS (As := a.map (xcv b base)) (n := n) hfix hM (va_cwS n C.2.2.2.2.1 (xGoodIn fun w q => ?_) rfl rfl rfl ⟨o3, o4, o6⟩ ⟨?_, ?_⟩) ⟨xPc_blind, hPre⟩ rfl (by rw [List.length_map]; exact hAs) hl.1 ?_ (xrest_cat (b := b) (base := base) (m := m) (pc := pc) (lsC := lsC) hr) hd ⟨by omega, by omega⟩) kk
  · rcases List.mem_append.mp q with q | q
    · exact hNe w q
    · exact hGi w q
  · show xmk M' a + 1 + 1 ≤ R.frames
    omega
  · show 8 + (xmL M' + 11) + 64 * (xmk M' a + 1) ≤ R.locals
    omega
  · show (a.reverse ++ r).map (xcv b base) = _
    rw [List.map_append, List.map_reverse]
theorem xc_SN {k n : Nat} {M' : xM} {a r : List Value} {v1 : Option Value} {h1 : xH} (C : xCx p R s m args meth c D ca M lv base h0) (S : xSt s D ca b base h0 h H locs) (hl : lv_has lsC (xmL M) (xlv b base ls)) (hd : decode (xmc M) pc = .ok (.invokestatic k, 3)) (hI : xIv (xmo M) k = some (3, n, M')) (hlv : xmk M' a < lv) (hr : xcat r ≤ 8) (hAs : a.length = n) (hst : st = a.reverse ++ r) (hw1 : xwf h1) (hle : h.1 ≤ h1.1 ∧ h.2.1 ≤ h1.2.1) (hc : h1.1 - h0.1 ≤ R.cells) (hs : h1.2.1 - h0.2.1 ≤ R.slots) (hM : xMet l D ca b base M' a h v1 h1)
    (kk : ∀ (H' : Heap) (locs' : List Loc), xSt s D ca b base h0 h1 H' locs' → W p l e R s m args below meth c H' locs' (h1.1 - h0.1) (h1.2.1 - h0.2.1) Q (F0 m (pc + 3) lsC ((v1.map (xcv b base)).toList ++ r.map (xcv b base)))) : W p l e R s m args below meth c H locs (h.1 - h0.1) (h.2.1 - h0.2.1) Q (F0 m pc lsC (st.map (xcv b base))) := by
  have hok := xMok_of (by decide) hI
  obtain ⟨o1, o2, o3, o4, o5, o6, o7⟩ := hok
  have hfr : lv + 1 ≤ R.frames := C.2.2.2.2.2.2.2.2.2.2.2.2.1
  have hlo : 64 * (lv + 1) ≤ R.locals := C.2.2.2.2.2.2.2.2.2.2.2.2.2.1
  have hsz := C.2.2.2.2.2.2.2.2.2.2.2.2.2.2
  have hKN : xKN D ca s := ⟨C.2.2.2.2.2.2.2.1, C.2.2.2.2.2.2.2.2.1, C.2.2.2.2.2.2.2.2.2.1, C.2.2.2.2.2.2.2.2.2.2.1⟩
  have hNe := (xIv_need hI).2
  have hGi : ∀ w ∈ xCd M' :: xGood, w ∈ xGood := fun w q => (List.mem_cons.mp q).elim (fun e => e ▸ o7) id
  have z1 := S.2.2.2.1
  have z2 := S.2.2.2.2
  refine xW_sized fun hz => ?_
  have hz1 := xSt_size hsz S hz
  have hPre : ∀ U : State, U.heap = H → s.WarmedH U.vm → xPc D ca b base a h (a.map (xcv b base)).toArray U := fun U hU hW => ⟨rfl, by rw [hU]; exact hz1, by rw [hU]; exact S.1, xKN_warm hKN hW⟩
  have hfix : CallFix p m c (xmc M) (xmL M) s args xGood (xcn (xmo M)) := ⟨C.1, C.2.1, C.2.2.1, C.2.2.2.1, C.2.2.2.2.1⟩
  subst hst
  have hnst : va_Nw (.methodLinkNest (xcn (xmo M)) k M'.1 "SpoonfulMore") s := by
    have q1 := List.all_eq_true.mp xKB_all _ (xIv_need hI).1
    simp only [xKB, Bool.and_eq_true, decide_eq_true_eq] at q1
    exact hKN.2.1 _ q1.2
  refine xcall_fin (rest := r.map (xcv b base)) hw1 hle rfl rfl S (va_runSN (As := a.map (xcv b base)) (n := n) hfix hM ⟨va_cnB n C.2.2.2.2.1 (xGoodIn hGi) rfl rfl rfl hnst (C.2.2.2.2.1 _ (hNe (.initialized M'.1.cls) (by simp [xNeed]))) ⟨o3, o4, o6⟩ ⟨?_, ?_⟩, C.2.2.2.2.1 _ (hNe (.static M'.1) (by simp [xNeed])), trivial⟩ ⟨xPc_blind, hPre⟩ rfl (by rw [List.length_map]; exact hAs) hl.1 ?_ (xrest_cat (b := b) (base := base) (m := m) (pc := pc) (lsC := lsC) hr) hd ⟨by omega, by omega⟩) kk
  · show xmk M' a + 1 + 1 ≤ R.frames
    omega
  · show 8 + (xmL M' + 11) + 64 * (xmk M' a + 1) ≤ R.locals
    omega
  · show (a.reverse ++ r).map (xcv b base) = _
    rw [List.map_append, List.map_reverse]
theorem xret_none {z : Nat} {v1 : Option Value} (hr : v1 = v1) : True := trivial
theorem xc_I {k n : Nat} {M' : xM} {a r : List Value} {v1 : Option Value} {h1 : xH} (C : xCx p R s m args meth c D ca M lv base h0) (S : xSt s D ca b base h0 h H locs) (hl : lv_has lsC (xmL M) (xlv b base ls)) (hd : decode (xmc M) pc = .ok (.invokespecial k, 3)) (hI : xIv (xmo M) k = some (2, n, M')) (hlv : xmk M' a < lv) (hr : xcat r ≤ 8) {x : Nat} {As : List Value} (ha : a = .ref x :: As) (hAs : As.length = n) (hst : st = As.reverse ++ .ref x :: r) (hw1 : xwf h1) (hle : h.1 ≤ h1.1 ∧ h.2.1 ≤ h1.2.1) (hc : h1.1 - h0.1 ≤ R.cells) (hs : h1.2.1 - h0.2.1 ≤ R.slots) (hM : xMet l D ca b base M' a h v1 h1)
    (kk : ∀ (H' : Heap) (locs' : List Loc), xSt s D ca b base h0 h1 H' locs' → W p l e R s m args below meth c H' locs' (h1.1 - h0.1) (h1.2.1 - h0.2.1) Q (F0 m (pc + 3) lsC ((v1.map (xcv b base)).toList ++ r.map (xcv b base)))) : W p l e R s m args below meth c H locs (h.1 - h0.1) (h.2.1 - h0.2.1) Q (F0 m pc lsC (st.map (xcv b base))) := by
  have hok := xMok_of (by decide) hI
  obtain ⟨o1, o2, o3, o4, o5, o6, o7⟩ := hok
  have hfr : lv + 1 ≤ R.frames := C.2.2.2.2.2.2.2.2.2.2.2.2.1
  have hlo : 64 * (lv + 1) ≤ R.locals := C.2.2.2.2.2.2.2.2.2.2.2.2.2.1
  have hsz := C.2.2.2.2.2.2.2.2.2.2.2.2.2.2
  have hKN : xKN D ca s := ⟨C.2.2.2.2.2.2.2.1, C.2.2.2.2.2.2.2.2.1, C.2.2.2.2.2.2.2.2.2.1, C.2.2.2.2.2.2.2.2.2.2.1⟩
  have hNe := (xIv_need hI).2
  have hGi : ∀ w ∈ xCd M' :: xGood, w ∈ xGood := fun w q => (List.mem_cons.mp q).elim (fun e => e ▸ o7) id
  have z1 := S.2.2.2.1
  have z2 := S.2.2.2.2
  refine xW_sized fun hz => ?_
  have hz1 := xSt_size hsz S hz
  have hPre : ∀ U : State, U.heap = H → s.WarmedH U.vm → xPc D ca b base a h (a.map (xcv b base)).toArray U := fun U hU hW => ⟨rfl, by rw [hU]; exact hz1, by rw [hU]; exact S.1, xKN_warm hKN hW⟩
  have hfix : CallFix p m c (xmc M) (xmL M) s args xGood (xcn (xmo M)) := ⟨C.1, C.2.1, C.2.2.1, C.2.2.2.1, C.2.2.2.2.1⟩
  subst ha
  subst hst
  have q1 := List.all_eq_true.mp xKB_all _ (xIv_need hI).1
  simp only [xKB, Bool.and_eq_true, decide_eq_true_eq] at q1
  obtain ⟨⟨-, hnm⟩, hrn⟩ := q1
  have hw : xCd M' :: xGood = Cond.code (xmy M') (xmc M') (xmL M') none :: xGood := by unfold xCd; rw [hrn]
  refine xcall_fin (rest := r.map (xcv b base)) hw1 hle rfl rfl S (va_runI (As := As.map (xcv b base)) (b := xad b base x) (n := n) (bytes := xmc M') (maxL := xmL M') hfix hM (cwI n C.2.2.2.2.1 (xGoodIn hGi) hw rfl rfl (C.2.2.2.2.1 _ (hNe (.initialized M'.1.cls) (by simp [xNeed]))) (C.2.2.2.2.1 _ (hNe (.methodLink (xcn (xmo M)) k M'.1) (by simp [xNeed]))) (C.2.2.2.2.1 _ (hNe (.instanceMethod M'.1) (by simp [xNeed]))) hnm ⟨o3, o4, o6⟩ ⟨?_, ?_⟩) ⟨xPc_blind, hPre⟩ rfl (by rw [List.length_map]; exact hAs) hl.1 ?_ (xrest_cat (b := b) (base := base) (m := m) (pc := pc) (lsC := lsC) hr) hd ⟨by omega, by omega⟩) kk
  · show xmk M' (.ref x :: As) + 1 + 1 ≤ R.frames
    omega
  · show 8 + (xmL M' + 11) + 64 * (xmk M' (.ref x :: As) + 1) ≤ R.locals
    omega
  · show (As.reverse ++ .ref x :: r).map (xcv b base) = _
    rw [List.map_append, List.map_reverse, List.map_cons]
    rfl
theorem xc_IN {k n : Nat} {M' : xM} {a r : List Value} {v1 : Option Value} {h1 : xH} (C : xCx p R s m args meth c D ca M lv base h0) (S : xSt s D ca b base h0 h H locs) (hl : lv_has lsC (xmL M) (xlv b base ls)) (hd : decode (xmc M) pc = .ok (.invokespecial k, 3)) (hI : xIv (xmo M) k = some (4, n, M')) (hlv : xmk M' a < lv) (hr : xcat r ≤ 8) {x : Nat} {As : List Value} (ha : a = .ref x :: As) (hAs : As.length = n) (hst : st = As.reverse ++ .ref x :: r) (hw1 : xwf h1) (hle : h.1 ≤ h1.1 ∧ h.2.1 ≤ h1.2.1) (hc : h1.1 - h0.1 ≤ R.cells) (hs : h1.2.1 - h0.2.1 ≤ R.slots) (hM : xMet l D ca b base M' a h v1 h1)
    (kk : ∀ (H' : Heap) (locs' : List Loc), xSt s D ca b base h0 h1 H' locs' → W p l e R s m args below meth c H' locs' (h1.1 - h0.1) (h1.2.1 - h0.2.1) Q (F0 m (pc + 3) lsC ((v1.map (xcv b base)).toList ++ r.map (xcv b base)))) : W p l e R s m args below meth c H locs (h.1 - h0.1) (h.2.1 - h0.2.1) Q (F0 m pc lsC (st.map (xcv b base))) := by
  have hok := xMok_of (by decide) hI
  obtain ⟨o1, o2, o3, o4, o5, o6, o7⟩ := hok
  have hfr : lv + 1 ≤ R.frames := C.2.2.2.2.2.2.2.2.2.2.2.2.1
  have hlo : 64 * (lv + 1) ≤ R.locals := C.2.2.2.2.2.2.2.2.2.2.2.2.2.1
  have hsz := C.2.2.2.2.2.2.2.2.2.2.2.2.2.2
  have hKN : xKN D ca s := ⟨C.2.2.2.2.2.2.2.1, C.2.2.2.2.2.2.2.2.1, C.2.2.2.2.2.2.2.2.2.1, C.2.2.2.2.2.2.2.2.2.2.1⟩
  have hNe := (xIv_need hI).2
  have hGi : ∀ w ∈ xCd M' :: xGood, w ∈ xGood := fun w q => (List.mem_cons.mp q).elim (fun e => e ▸ o7) id
  have z1 := S.2.2.2.1
  have z2 := S.2.2.2.2
  refine xW_sized fun hz => ?_
  have hz1 := xSt_size hsz S hz
  have hPre : ∀ U : State, U.heap = H → s.WarmedH U.vm → xPc D ca b base a h (a.map (xcv b base)).toArray U := fun U hU hW => ⟨rfl, by rw [hU]; exact hz1, by rw [hU]; exact S.1, xKN_warm hKN hW⟩
  have hfix : CallFix p m c (xmc M) (xmL M) s args xGood (xcn (xmo M)) := ⟨C.1, C.2.1, C.2.2.1, C.2.2.2.1, C.2.2.2.2.1⟩
  subst ha
  subst hst
  have q1 := List.all_eq_true.mp xKB_all _ (xIv_need hI).1
  simp only [xKB, Bool.and_eq_true, decide_eq_true_eq] at q1
  obtain ⟨⟨⟨-, hin⟩, hnm⟩, hrn⟩ := q1
  have hw : xCd M' :: xGood = Cond.code (xmy M') (xmc M') (xmL M') none :: xGood := by unfold xCd; rw [hrn]
  refine xcall_fin (rest := r.map (xcv b base)) hw1 hle rfl rfl S (va_runIN (As := As.map (xcv b base)) (b := xad b base x) (n := n) (bytes := xmc M') (maxL := xmL M') hfix hM ⟨va_cnB n C.2.2.2.2.1 (xGoodIn hGi) hw rfl rfl (hKN.2.1 _ hin) (C.2.2.2.2.1 _ (hNe (.initialized M'.1.cls) (by simp [xNeed]))) ⟨o3, o4, o6⟩ ⟨?_, ?_⟩, hnm, C.2.2.2.2.1 _ (hNe (.instanceMethod M'.1) (by simp [xNeed]))⟩ ⟨xPc_blind, hPre⟩ rfl (by rw [List.length_map]; exact hAs) hl.1 ?_ (xrest_cat (b := b) (base := base) (m := m) (pc := pc) (lsC := lsC) hr) hd ⟨by omega, by omega⟩) kk
  · show xmk M' (.ref x :: As) + 1 + 1 ≤ R.frames
    omega
  · show 8 + (xmL M' + 11) + 64 * (xmk M' (.ref x :: As) + 1) ≤ R.locals
    omega
  · show (As.reverse ++ .ref x :: r).map (xcv b base) = _
    rw [List.map_append, List.map_reverse, List.map_cons]
    rfl
end XCALL
