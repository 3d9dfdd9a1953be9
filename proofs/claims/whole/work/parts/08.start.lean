/-! THE CLAIM OUT OF ONE WALK OF THE LAW'S BODY. Your part is whole_start (and what it stands on); all else here is the same for every law, but numbers. -/
def R_law : String := "SpoonfulMoreLaw"
def lw_P (b : Addr) (xs : List Int32) (args : Array Value) (s : State) : Prop := args = #[.ref b] ∧ s.IntsAt b xs ∧ xs.length ≤ 3072 ∧ (Jvm.Cond.and given_1 narrow_1).before args s = true
def lw_Q (_ : Array Value) (s : State) (o : Outcome) (t : State) : Prop := o = .returned (some (.int 1)) ∧ Framed s o t [] 600000 7302250
def lw_Z (below : List Frame) (a : Array Value) (s : State) : State → Prop := fun t => ∃ o, t.status = .running ∧ Ended t below o ∧ lw_Q a s o t
/-- the law's own end, with 1 on the stack, nothing written that was there before, its room as the claim has it -/
theorem lw_ret {p : Program} {l : Launch} {e : Env} {s : State} {m : MethodId} {below : List Frame} {meth : Method} {c : Code} {b : Nat} (hx : p.tables.exec = Jvm.exec) (hb : c.code = code) (hr : meth.sig.returnType = ret) (hlocks : meth.locks = false) {pc : Nat} {H : Heap} {ls : Array Slot} (hdg : decode code pc = .ok (.ireturn, 1)) : W p l e room_1 s m #[Value.ref b] below meth c H [] 600000 7302250 (lw_Z below #[Value.ref b] s) (F0 m pc ls [.int 1]) := by
  intro T hT X
  obtain ⟨fs, hret, hrun, hended, hW, hframe⟩ := X.leave (v := some (.int 1)) (hlocks := hlocks) (fun h => by rw [hr] at h; cases h)
  have hmeth' : T.vm.method? m = some meth := X.method'
  refine ⟨T.setFrames fs, ?_, .returned (some (.int 1)), hrun, hended, rfl, ⟨_, rfl⟩, hW, hframe⟩
  jvm_step X.here [X.here.top, hx, hb, hdg, hmeth', hr, ret, narrow_b1]
  (try refine ⟨rfl, ?_⟩); (try refine ⟨rfl, ?_⟩)
  first | (intro acts; rw [hret _ acts rfl rfl rfl]) | rw [hret _ _ rfl rfl rfl]
  exact Steps.refl _
/-- what holds at the law's entry: the machine, the code, the tables' words (any of lw_tbl by 'hts w (by decide +kernel)'), the script of L ints xs at the cell b, what the Statement gives of the start (any of its parts by flat_of_before) -/
def lw_At (p : Program) (s : State) (m : MethodId) (meth : Method) (c : Code) (b L : Nat) (xs : Nat → Int32) : Prop :=
  p.tables.exec = Jvm.exec ∧ c.code = code ∧ meth.sig.returnType = ret ∧ c.maxLocals = 4 ∧ s.vm.findClass R_law = some m.cls ∧ (∀ w ∈ lw_tbl, w.before #[Value.ref b] s = true) ∧ va_X b L xs s s.heap ∧ b < s.heap.size ∧ meth.locks = false ∧ (Jvm.Cond.and given_1 narrow_1).before #[Value.ref b] s = true
def x0 : xH := (0, 0, fun _ => none)
theorem x0_wf : xwf x0 := by
  intro k
  constructor
  · rintro ⟨c, hc⟩
    cases hc
  · rintro ⟨h1, h2⟩
    have : k ≤ 0 := h2
    omega
theorem xNest_in : ∀ w ∈ xNest, w ∈ lw_tbl := by
  intro w hw
  simp only [xNest, List.mem_cons, List.not_mem_nil, or_false] at hw
  rcases hw with rfl | rfl | rfl | rfl | rfl | rfl | rfl | rfl
  · exact List.mem_of_getElem? (i := 199) (by decide +kernel)
  · exact List.mem_of_getElem? (i := 720) (by decide +kernel)
  · exact List.mem_of_getElem? (i := 643) (by decide +kernel)
  · exact List.mem_of_getElem? (i := 524) (by decide +kernel)
  · exact List.mem_of_getElem? (i := 70) (by decide +kernel)
  · exact List.mem_of_getElem? (i := 239) (by decide +kernel)
  · exact List.mem_of_getElem? (i := 322) (by decide +kernel)
  · exact List.mem_of_getElem? (i := 349) (by decide +kernel)
theorem xAO_in : Cond.arrayOver (.object "SpoonfulMore$Act") ∈ lw_tbl ∧ Cond.arrayOver (.object "SpoonfulMore$Kept") ∈ lw_tbl := ⟨List.mem_of_getElem? (i := 197) (by decide +kernel), List.mem_of_getElem? (i := 237) (by decide +kernel)⟩
theorem xInst_0 : Cond.instantiable "SpoonfulMore$Act" 6 ∈ lw_tbl := List.mem_of_getElem? (i := 198) (by decide +kernel)
theorem xInst_1 : Cond.instantiable "SpoonfulMore$ActRow" 2 ∈ lw_tbl := List.mem_of_getElem? (i := 191) (by decide +kernel)
theorem xInst_2 : Cond.instantiable "SpoonfulMore$Chances" 1 ∈ lw_tbl := List.mem_of_getElem? (i := 348) (by decide +kernel)
theorem xInst_3 : Cond.instantiable "SpoonfulMore$Kept" 6 ∈ lw_tbl := List.mem_of_getElem? (i := 238) (by decide +kernel)
theorem xInst_4 : Cond.instantiable "SpoonfulMore$Planner" 17 ∈ lw_tbl := List.mem_of_getElem? (i := 263) (by decide +kernel)
theorem xInst_5 : Cond.instantiable "SpoonfulMore$Reader" 5 ∈ lw_tbl := List.mem_of_getElem? (i := 69) (by decide +kernel)
theorem xInst_6 : Cond.instantiable "SpoonfulMore$Sightings" 6 ∈ lw_tbl := List.mem_of_getElem? (i := 321) (by decide +kernel)
theorem xInst_7 : Cond.instantiable "SpoonfulMore$Village" 16 ∈ lw_tbl := List.mem_of_getElem? (i := 92) (by decide +kernel)
theorem xInst_8 : Cond.instantiable "SpoonfulMore" 13 ∈ lw_tbl := List.mem_of_getElem? (i := 61) (by decide +kernel)
theorem xInst_9 : Cond.instantiable "SpoonfulMoreModel" 41 ∈ lw_tbl := List.mem_of_getElem? (i := 783) (by decide +kernel)
theorem xK_start {s : State} {args : Array Value} (hts : ∀ w ∈ lw_tbl, w.before args s = true) : ∃ (D : va_G) (ca : Nat → ClassId), va_K D xCl (xtys ca) s := by
  have hg : ∀ w ∈ xGood, w.before args s = true := fun w q => hts w (List.mem_filter.mp q).1
  obtain ⟨c0, i0, h0⟩ := u_known (C := "SpoonfulMore$Act") (T := TX0) (N := 6) (n := 6) hg (xCl_in (ci := 0) rfl) (hts _ xInst_0)
  obtain ⟨c1, i1, h1⟩ := u_known (C := "SpoonfulMore$ActRow") (T := TX1) (N := 2) (n := 2) hg (xCl_in (ci := 1) rfl) (hts _ xInst_1)
  obtain ⟨c2, i2, h2⟩ := u_known (C := "SpoonfulMore$Chances") (T := TX2) (N := 1) (n := 1) hg (xCl_in (ci := 2) rfl) (hts _ xInst_2)
  obtain ⟨c3, i3, h3⟩ := u_known (C := "SpoonfulMore$Kept") (T := TX3) (N := 6) (n := 6) hg (xCl_in (ci := 3) rfl) (hts _ xInst_3)
  obtain ⟨c4, i4, h4⟩ := u_known (C := "SpoonfulMore$Planner") (T := TX4) (N := 17) (n := 17) hg (xCl_in (ci := 4) rfl) (hts _ xInst_4)
  obtain ⟨c5, i5, h5⟩ := u_known (C := "SpoonfulMore$Reader") (T := TX5) (N := 5) (n := 5) hg (xCl_in (ci := 5) rfl) (hts _ xInst_5)
  obtain ⟨c6, i6, h6⟩ := u_known (C := "SpoonfulMore$Sightings") (T := TX6) (N := 6) (n := 6) hg (xCl_in (ci := 6) rfl) (hts _ xInst_6)
  obtain ⟨c7, i7, h7⟩ := u_known (C := "SpoonfulMore$Village") (T := TX7) (N := 16) (n := 16) hg (xCl_in (ci := 7) rfl) (hts _ xInst_7)
  obtain ⟨c8, i8, h8⟩ := u_known (C := "SpoonfulMore") (T := TX8) (N := 13) (n := 13) hg (xCl_in (ci := 8) rfl) (hts _ xInst_8)
  obtain ⟨c9, i9, h9⟩ := u_known (C := "SpoonfulMoreModel") (T := TX9) (N := 41) (n := 41) hg (xCl_in (ci := 9) rfl) (hts _ xInst_9)
  obtain ⟨dC, dI, hKc⟩ : ∃ (dC : Nat → ClassId) (dI : Nat → Nat → Nat), ∀ (k : Nat) (q : vw_C), xCl[k]? = some q → u_Kn s q.1 q.2.1 q.2.2 (dC k) (dI k) := by
    refine ⟨fun k => match k with
      | 0 => c0
      | 1 => c1
      | 2 => c2
      | 3 => c3
      | 4 => c4
      | 5 => c5
      | 6 => c6
      | 7 => c7
      | 8 => c8
      | _ => c9, fun k => match k with
      | 0 => i0
      | 1 => i1
      | 2 => i2
      | 3 => i3
      | 4 => i4
      | 5 => i5
      | 6 => i6
      | 7 => i7
      | 8 => i8
      | _ => i9, ?_⟩
    intro k q hq
    match k, hq with
    | 0, hq => cases hq; exact h0
    | 1, hq => cases hq; exact h1
    | 2, hq => cases hq; exact h2
    | 3, hq => cases hq; exact h3
    | 4, hq => cases hq; exact h4
    | 5, hq => cases hq; exact h5
    | 6, hq => cases hq; exact h6
    | 7, hq => cases hq; exact h7
    | 8, hq => cases hq; exact h8
    | 9, hq => cases hq; exact h9
    | k + 10, hq => simp [xCl] at hq
  obtain ⟨ai, ki, mi, ai1, ai2, ai3⟩ := Cond.arrayClass_spec (hg _ xArr_int)
  obtain ⟨al, kl, ml, al1, al2, al3⟩ := Cond.arrayClass_spec (hg _ xArr_long)
  obtain ⟨az, kz, mz, az1, az2, az3⟩ := Cond.arrayClass_spec (hg _ xArr_boolean)
  obtain ⟨mA, aA, kA, aA1, aA2, aA3, aA4, aA5⟩ := Cond.arrayOver_spec (hts _ xAO_in.1)
  obtain ⟨mB, aB, kB, aB1, aB2, aB3, aB4, aB5⟩ := Cond.arrayOver_spec (hts _ xAO_in.2)
  refine ⟨(dC, dI), fun t => match t with
    | 0 => ai
    | 1 => al
    | 2 => az
    | 3 => aA
    | _ => aB, hKc, fun k q hq => ?_⟩
  match k, hq with
  | 0, hq => cases hq; exact ⟨fun n z => ⟨fun k h => (by cases h), ki, ai2, mi, ai3⟩, ai1⟩
  | 1, hq => cases hq; exact ⟨fun n z => ⟨fun k h => (by cases h), kl, al2, ml, al3⟩, al1⟩
  | 2, hq => cases hq; exact ⟨fun n z => ⟨fun k h => (by cases h), kz, az2, mz, az3⟩, az1⟩
  | 3, hq => cases hq; exact ⟨fun n z => ⟨fun k h => (by cases h), kA, aA3, mA, aA4⟩, kA, mA, aA3, aA4, aA1, aA5⟩
  | 4, hq => cases hq; exact ⟨fun n z => ⟨fun k h => (by cases h), kB, aB3, mB, aB4⟩, kB, mB, aB3, aB4, aB1, aB5⟩
  | k + 5, hq => simp [xtys] at hq
/-- THE LAW, from its entry, out of one run of the abstract machine -/
theorem xstart {p : Program} {e : Env} {s : State} {m : MethodId} {below : List Frame} {meth : Method} {c : Code} (l : Launch) {b L : Nat} {xs : Nat → Int32} (C0 : lw_At p s m meth c b L xs) {h' : xH} (hrun : xR (some (L, xs)) 19 M_law 0 (xent 4 [.ref 0]) [] x0 = some (some (.int 1), h')) (hc : h'.1 ≤ 600000) (hs : h'.2.1 ≤ 7302250) : W p l e room_1 s m #[Value.ref b] below meth c s.heap [] 0 0 (lw_Z below #[Value.ref b] s) (entryFrame m ([Value.ref b] : List Value).toArray 4) := by
  obtain ⟨hx, hb, hr, hml, hown, hts, hX, hbl, hlocks, hgv⟩ := id C0
  obtain ⟨D, ca, hK⟩ := xK_start hts
  obtain ⟨n, hn⟩ := xR_ex hrun
  have hz : s.heap.size = (s.heap.size - 1) + x0.1 + 1 := by show s.heap.size = (s.heap.size - 1) + 0 + 1; omega
  have C : xCx p room_1 s m #[Value.ref b] meth c D ca M_law 19 (s.heap.size - 1) x0 := ⟨hx, hb, hml, hown, fun w q => hts w (List.mem_filter.mp q).1, fun q => absurd q (by decide), hlocks, hK, fun w q => by
    obtain ⟨o, i, x, z, rfl⟩ := xNest_form w q
    exact va_Nw.of rfl (hts _ (xNest_in _ q)), va_AO.of (hts _ xAO_in.1), va_AO.of (hts _ xAO_in.2), rfl, by decide, by decide, hz⟩
  have X : xSX (some (L, xs)) b (s.heap.size - 1) s := fun n g q => by
    cases q
    exact ⟨hX, hbl, by omega⟩
  have S : xSt s D ca b (s.heap.size - 1) x0 x0 s.heap [] := ⟨fun k q hk => by simp [xw, x0] at hk, x0_wf, va_S.rf, Nat.le_refl _, Nat.le_refl _⟩
  have hL := xent_has b (s.heap.size - 1) (n := 4) (a := [.ref 0]) (by decide)
  rw [lg_entry_eq]
  have k := xsim_all l D ca b (s.heap.size - 1) n (some (L, xs)) 19 M_law 0 (xent 4 [.ref 0]) [] x0 (some (.int 1)) h' hn p e room_1 s m #[Value.ref b] below meth c (lw_Z below #[Value.ref b] s) x0 _ s.heap [] C X S hL (by show h'.1 - 0 ≤ 600000; omega) (by show h'.2.1 - 0 ≤ 7302250; omega) (fun ins len pc' ls' st' lsC' H' locs' hd ho S' => by
    cases ins with
    | ireturn =>
      simp only [xO] at ho
      replace ho := if_inv ho
      obtain ⟨rfl, ho⟩ := ho
      split at ho
      · rename_i x
        replace ho := if_inv ho
        obtain ⟨-, ho⟩ := ho
        cases ho
        refine va_forget (fun q hq => ?_) ?_
        · have := S'.2.2.1.2.2 q hq
          simp only at this
          omega
        · refine W.widen (k := 600000) (n := 7302250) (by show h'.1 - 0 ≤ _; omega) (by show h'.2.1 - 0 ≤ _; omega) ?_
          exact lw_ret hx hb hr hlocks hd
      · cases ho
    | lreturn =>
      simp only [xO] at ho
      replace ho := if_inv ho
      obtain ⟨rfl, ho⟩ := ho
      split at ho
      · replace ho := if_inv ho
        obtain ⟨-, ho⟩ := ho
        cases ho
      · cases ho
    | areturn =>
      simp only [xO] at ho
      replace ho := if_inv ho
      obtain ⟨rfl, ho⟩ := ho
      split at ho
      · replace ho := if_inv ho
        obtain ⟨-, ho⟩ := ho
        cases ho
      · cases ho
    | return_ =>
      simp only [xO] at ho
      replace ho := if_inv ho
      obtain ⟨rfl, ho⟩ := ho
      split at ho
      · replace ho := if_inv ho
        obtain ⟨-, ho⟩ := ho
        cases ho
      · cases ho
    | newarray ty =>
      exfalso
      cases ty <;> simp only [xO] at ho <;>
      repeat' first
        | cases ho
        | (replace ho := xi1_inv ho; obtain ⟨_, _, -, ho⟩ := ho)
        | (simp only [xn, xna] at ho)
        | split at ho
    | _ =>
      exfalso
      simp only [xO] at ho
      repeat' first
        | cases ho
        | (replace ho := xi1_inv ho; obtain ⟨_, _, -, ho⟩ := ho)
        | (replace ho := xi2_inv ho; obtain ⟨_, _, _, -, ho⟩ := ho)
        | (replace ho := xl1_inv ho; obtain ⟨_, _, -, ho⟩ := ho)
        | (replace ho := xl2_inv ho; obtain ⟨_, _, _, -, ho⟩ := ho)
        | (replace ho := xli_inv ho; obtain ⟨_, _, _, -, ho⟩ := ho)
        | (replace ho := xr1_inv ho; obtain ⟨_, _, -, ho⟩ := ho)
        | (replace ho := xri_inv ho; obtain ⟨_, _, _, -, ho⟩ := ho)
        | (replace ho := xrv_inv ho; obtain ⟨_, _, _, -, ho⟩ := ho)
        | (replace ho := xriv_inv ho; obtain ⟨_, _, _, _, -, ho⟩ := ho)
        | (replace ho := xlg_inv ho; obtain ⟨_, -, ho⟩ := ho)
        | (replace ho := xtg_inv ho; obtain ⟨_, -, ho⟩ := ho)
        | (simp only [xn, xca, xgt, xpt, xial, xias, xlal, xlas, xaal, xaas, xlen, xna, xcp] at ho)
        | split at ho)
  exact k
