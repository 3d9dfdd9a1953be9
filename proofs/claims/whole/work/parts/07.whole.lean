/-! The simulation, and the law out of it. -/
theorem xlg_len (b base : Nat) : ∀ a : List Value, (lg_sl (a.map (xcv b base))).length = (xea a).length
  | [] => rfl
  | v :: vs => by
    have ih := xlg_len b base vs
    unfold lg_sl at ih ⊢
    rw [List.map_cons, List.flatMap_cons, List.length_append, ih, xcv_cat]
    by_cases hv : v.category = 2
    · rw [if_pos hv, xea, if_pos hv]
      simp only [List.length_cons, List.length_nil]
      omega
    · rw [if_neg hv, xea, if_neg hv]
      simp only [List.length_cons, List.length_nil]
      omega
theorem xlva_none (b base : Nat) : ∀ (j k : Nat), xlva b base k (List.replicate j none) = []
  | 0, _ => rfl
  | j + 1, k => by rw [List.replicate_succ, xlva, xlva_none b base j]
theorem xent_args (b base j : Nat) : ∀ (a : List Value) (k : Nat), xlva b base k (xea a ++ List.replicate j none) = lv_args k (a.map (xcv b base))
  | [], k => by rw [xea, List.nil_append, xlva_none]; rfl
  | v :: vs, k => by
    rw [List.map_cons, lv_args, xcv_cat, xea]
    by_cases hv : v.category = 2
    · rw [if_pos hv, if_pos hv, List.cons_append, List.cons_append, xlva, xlva, xent_args b base j vs]
    · rw [if_neg hv, if_neg hv, List.cons_append, xlva, xent_args b base j vs]
theorem xent_has (b base : Nat) {n : Nat} {a : List Value} (h : (xea a).length ≤ n) : lv_has ((lg_sl (a.map (xcv b base)) ++ List.replicate (n - (lg_sl (a.map (xcv b base))).length) Slot.unset).toArray) n (xlv b base (xent n a)) := by
  have h1 := lv_entry (a.map (xcv b base)) (n := n) (by rw [xlg_len]; exact h)
  unfold xlv xent
  rw [xent_args]
  exact h1
/-- every run of n steps of the abstract machine is the machine's -/
def xSim (l : Launch) (D : va_G) (ca : Nat → ClassId) (b base n : Nat) : Prop :=
  ∀ (scr : xSc) (lv : Nat) (M : xM) (pc : Nat) (ls : List (Option Value)) (st : List Value) (h : xH) (v : Option Value) (h' : xH), xA n scr lv M pc ls st h = some (v, h') →
    ∀ (p : Program) (e : Env) (R : Room) (s : State) (m : MethodId) (args : Array Value) (below : List Frame) (meth : Method) (c : Code) (Q : State → Prop) (h0 : xH) (lsC : Array Slot) (H : Heap) (locs : List Loc),
      xCx p R s m args meth c D ca M lv base h0 → xSX scr b base s → xSt s D ca b base h0 h H locs → lv_has lsC (xmL M) (xlv b base ls) → h'.1 - h0.1 ≤ R.cells → h'.2.1 - h0.2.1 ≤ R.slots →
      (∀ (ins : Instr) (len pc' : Nat) (ls' : List (Option Value)) (st' : List Value) (lsC' : Array Slot) (H' : Heap) (locs' : List Loc), decode (xmc M) pc' = .ok (ins, len) → xO scr lv M pc' len ls' st' h' ins = some (.inr (.inr v)) → xSt s D ca b base h0 h' H' locs' → W p l e R s m args below meth c H' locs' (h'.1 - h0.1) (h'.2.1 - h0.2.1) Q (F0 m pc' lsC' (st'.map (xcv b base)))) →
      W p l e R s m args below meth c H locs (h.1 - h0.1) (h.2.1 - h0.2.1) Q (F0 m pc lsC (st.map (xcv b base)))
/-- a method's end -/
theorem xret_all {p : Program} {l : Launch} {e : Env} {R : Room} {s : State} {m : MethodId} {args : Array Value} {below : List Frame} {meth : Method} {c : Code} {D : va_G} {ca : Nat → ClassId} {b base : Nat} {M : xM} {scr : xSc} {lv : Nat} {h0 h' : xH} {v : Option Value}
    (hx : p.tables.exec = Jvm.exec) (hb : c.code = xmc M) (hrt : meth.sig.returnType = xmr M) (hlocks : meth.locks = false)
    {ins : Instr} {len pc' : Nat} {ls' : List (Option Value)} {st' : List Value} {lsC' : Array Slot} {H' : Heap} {locs' : List Loc} (hd : decode (xmc M) pc' = .ok (ins, len)) (ho : xO scr lv M pc' len ls' st' h' ins = some (.inr (.inr v))) (S : xSt s D ca b base h0 h' H' locs') : W p l e R s m args below meth c H' locs' (h'.1 - h0.1) (h'.2.1 - h0.2.1) (MQ below (xQc D ca b base v h') args s (h'.1 - h0.1) (h'.2.1 - h0.2.1) (fun q => base < q)) (F0 m pc' lsC' (st'.map (xcv b base))) := by
  have hq : ∀ (w : Option Value), w = v.map (xcv b base) → ∀ t : State, t.heap = H' → s.WarmedH t.vm → xQc D ca b base v h' args s (.returned w) t := fun w hw t ht _ => ⟨by rw [hw], by rw [ht]; exact S.1, S.2.2.1.F ht⟩
  have hf : ∀ q ∈ locs', (fun q : Nat => base < q) q.base := S.2.2.1.2.2
  cases ins with
  | ireturn =>
    simp only [xO] at ho
    replace ho := if_inv ho
    obtain ⟨rfl, ho⟩ := ho
    split at ho
    · rename_i x
      replace ho := if_inv ho
      obtain ⟨hr, ho⟩ := ho
      cases ho
      rcases hr with hr | ⟨hr, h01⟩
      · exact W.iret hx hb (hrt.trans hr) (hq (some (.int x)) rfl) hf hd hlocks
      · refine W.zret hx hb (hrt.trans hr) ?_ (hq (some (.int x)) rfl) hf hd hlocks
        rcases h01 with rfl | rfl <;> decide
    · cases ho
  | lreturn =>
    simp only [xO] at ho
    replace ho := if_inv ho
    obtain ⟨rfl, ho⟩ := ho
    split at ho
    · rename_i x
      replace ho := if_inv ho
      obtain ⟨hr, ho⟩ := ho
      cases ho
      exact W.lret hx hb (hrt.trans hr) (hq (some (.long x)) rfl) hf hd hlocks
    · cases ho
  | areturn =>
    simp only [xO] at ho
    replace ho := if_inv ho
    obtain ⟨rfl, ho⟩ := ho
    split at ho
    · rename_i x
      replace ho := if_inv ho
      obtain ⟨hr, ho⟩ := ho
      cases ho
      exact W.aret hx hb (hrt.trans hr) (Or.inl ⟨_, rfl⟩) (Or.inr ⟨_, rfl⟩) (hq (some (.ref (xad b base x))) rfl) hf hd hlocks
    · cases ho
  | return_ =>
    simp only [xO] at ho
    replace ho := if_inv ho
    obtain ⟨rfl, ho⟩ := ho
    split at ho
    · replace ho := if_inv ho
      obtain ⟨hr, ho⟩ := ho
      cases ho
      exact W.vret hx hb (hrt.trans hr) (hq none rfl) hf hd hlocks
    · cases ho
  | newarray ty =>
    exfalso
    cases ty <;> simp only [xO] at ho <;>
    repeat' first
      | cases ho
      | (replace ho := xi1_inv ho; obtain ⟨_, _, -, ho⟩ := ho)
      | (simp only [xn, xna] at ho)
      | split at ho
  | _ =>
    exfalso
    simp only [xO] at ho
    repeat' first
      | cases ho
      | (replace ho := xi1_inv ho; obtain ⟨_, _, -, ho⟩ := ho)
      | (replace ho := xi2_inv ho; obtain ⟨_, _, _, -, ho⟩ := ho)
      | (replace ho := xl1_inv ho; obtain ⟨_, _, -, ho⟩ := ho)
      | (replace ho := xl2_inv ho; obtain ⟨_, _, _, -, ho⟩ := ho)
      | (replace ho := xli_inv ho; obtain ⟨_, _, _, -, ho⟩ := ho)
      | (replace ho := xr1_inv ho; obtain ⟨_, _, -, ho⟩ := ho)
      | (replace ho := xri_inv ho; obtain ⟨_, _, _, -, ho⟩ := ho)
      | (replace ho := xrv_inv ho; obtain ⟨_, _, _, -, ho⟩ := ho)
      | (replace ho := xriv_inv ho; obtain ⟨_, _, _, _, -, ho⟩ := ho)
      | (replace ho := xlg_inv ho; obtain ⟨_, -, ho⟩ := ho)
      | (replace ho := xtg_inv ho; obtain ⟨_, -, ho⟩ := ho)
      | (simp only [xn, xca, xgt, xpt, xial, xias, xlal, xlas, xaal, xaas, xlen, xna, xcp] at ho)
      | split at ho
/-- a contract out of a run -/
theorem xmet_of {l : Launch} {D : va_G} {ca : Nat → ClassId} {b base n : Nat} (ih : xSim l D ca b base n) {nn : Nat} {M : xM} (hok : xMok nn M) {a : List Value} {h : xH} {v : Option Value} {h' : xH} (hw : xwf h) (hl : (xea a).length ≤ xmL M) (hr : xA n none (xmk M a) M 0 (xent (xmL M) a) [] h = some (v, h')) : xMet l D ca b base M a h v h' := by
  obtain ⟨o1, o2, o3, o4, o5, o6, o7⟩ := hok
  refine Met.ofW (cc := xmc M) (maxL := xmL M) (ret := xmr M) o2 rfl ?_
  intro p e s m args below meth c s₁ B hml hv
  obtain ⟨rfl, hsz, hP, hKN⟩ := hv
  have hts := atoms_spec (ws := xCd M :: xGood) B.pre
  have hown : s.vm.findClass (xcn (xmo M)) = some m.cls := by rw [o1]; exact findClass_of_methodNamed B.named
  rw [lg_entry_eq]
  have hL := xent_has b base (n := xmL M) hl
  have S : xSt s D ca b base h h s.heap [] := ⟨hP, hw, va_S.rf, Nat.le_refl _, Nat.le_refl _⟩
  have C : xCx p (headSpec (xCd M :: xGood) (xRm M a h h')).room s m (a.map (xcv b base)).toArray meth c D ca M (xmk M a) base h := ⟨B.exec, B.bytes, hml, hown, fun w q => hts w (List.mem_cons_of_mem _ q), fun q => (name_of_methodNamed B.named B.method).1.trans q, B.notSynchronized, hKN.1, hKN.2.1, hKN.2.2.1, hKN.2.2.2, o1, Nat.le_refl _, Nat.le_refl _, hsz⟩
  have k := ih none (xmk M a) M 0 (xent (xmL M) a) [] h v h' hr p e _ s m _ below meth c (MQ below (xQc D ca b base v h') (a.map (xcv b base)).toArray s (h'.1 - h.1) (h'.2.1 - h.2.1) (fun q => base < q)) h _ s.heap [] C (fun _ _ q => by cases q) S hL (Nat.le_refl _) (Nat.le_refl _) (fun ins len pc' ls' st' lsC' H' locs' hd ho S' => xret_all B.exec B.bytes B.returns B.notSynchronized hd ho S')
  rw [Nat.sub_self, Nat.sub_self] at k
  exact k
theorem xst_split {st : List Value} {n : Nat} {x : Nat} {As : List Value} (hn : n < st.length) (hs : (st.take (n + 1)).reverse = .ref x :: As) : As.length = n ∧ st = As.reverse ++ .ref x :: st.drop (n + 1) := by
  have h1 : st.take (n + 1) = (Value.ref x :: As).reverse := by rw [← hs, List.reverse_reverse]
  have h2 : (st.take (n + 1)).length = n + 1 := by rw [List.length_take]; omega
  rw [h1] at h2
  simp only [List.length_reverse, List.length_cons] at h2
  refine ⟨by omega, ?_⟩
  have h3 := List.take_append_drop (n + 1) st
  rw [h1, List.reverse_cons, List.append_assoc] at h3
  exact h3.symm
theorem xsim_all (l : Launch) (D : va_G) (ca : Nat → ClassId) (b base : Nat) : ∀ n, xSim l D ca b base n := by
  intro n
  induction n with
  | zero => intro scr lv M pc ls st h v h' hr; simp [xA] at hr
  | succ n ih =>
    intro scr lv M pc ls st h v h' hr p e R s m args below meth c Q h0 lsC H locs C X S hl hc hs hret
    have hw := S.2.1
    have hr0 := hr
    rw [xA] at hr
    cases hd : decode (xmc M) pc with
    | error e => rw [hd] at hr; simp at hr
    | ok q =>
      obtain ⟨ins, len⟩ := q
      rw [hd] at hr
      simp only at hr
      cases ho : xO scr lv M pc len ls st h ins with
      | none => rw [ho] at hr; simp at hr
      | some u =>
        rw [ho] at hr
        rcases u with ⟨pc1, ls1, st1, h1⟩ | ⟨M', a, pc1, ls1, r1⟩ | v1
        · simp only at hr
          obtain ⟨w1, w2, w3⟩ := gd_xO scr lv M pc len ls st ins _ _ _ _ ho hw
          obtain ⟨z1, z2, z3⟩ := xA_mono _ _ _ _ _ _ _ _ _ _ hr w1
          exact xs_all ins C X S hl hd ho (by omega) (by omega) (fun H' locs' lsC' S' hl' => ih _ _ _ _ _ _ _ _ _ hr p e R s m args below meth c Q h0 lsC' H' locs' C X S' hl' hc hs hret)
        · simp only at hr
          by_cases hla : (xea a).length ≤ xmL M'
          · rw [if_pos hla] at hr
            cases hcl : xA n none (xmk M' a) M' 0 (xent (xmL M') a) [] h with
            | none => rw [hcl] at hr; simp at hr
            | some w =>
              obtain ⟨v2, h2⟩ := w
              rw [hcl] at hr
              simp only at hr
              obtain ⟨w1, w2, w3⟩ := xA_mono _ _ _ _ _ _ _ _ _ _ hcl hw
              obtain ⟨z1, z2, z3⟩ := xA_mono _ _ _ _ _ _ _ _ _ _ hr w1
              have e1 : ∀ rr : List Value, (v2.map (xcv b base)).toList ++ rr.map (xcv b base) = (v2.toList ++ rr).map (xcv b base) := by
                intro rr
                cases v2 <;> simp
              cases ins with
              | invokevirtual k =>
                simp only [xO] at ho
                replace ho := if_inv ho
                obtain ⟨rfl, ho⟩ := ho
                split at ho
                · rename_i n1 M1 hI
                  replace ho := if_inv ho
                  obtain ⟨⟨hn1, hrc⟩, ho⟩ := ho
                  unfold xca at ho
                  replace ho := if_inv ho
                  obtain ⟨⟨hlv, hcat⟩, ho⟩ := ho
                  cases ho
                  have hM := xmet_of ih (xMok_of (by decide) hI) hw hla hcl
                  cases hsp : (st.take (n1 + 1)).reverse with
                  | nil => rw [hsp] at hrc; cases hrc
                  | cons x As =>
                    rw [hsp] at hrc hM hlv
                    cases x with
                    | ref x =>
                      obtain ⟨q1, q2⟩ := xst_split hn1 hsp
                      refine xc_V C S hl hd hI hlv hcat rfl q1 q2 hrc w1 ⟨w2, w3⟩ (by omega) (by omega) hM (fun H' locs' S' => ?_)
                      rw [e1]
                      exact ih _ _ _ _ _ _ _ _ _ hr p e R s m args below meth c Q h0 lsC H' locs' C X S' hl hc hs hret
                    | _ => cases hrc
                · cases ho
              | invokestatic k =>
                simp only [xO] at ho
                replace ho := if_inv ho
                obtain ⟨rfl, ho⟩ := ho
                split at ho
                · rename_i n1 M1 hI
                  replace ho := if_inv ho
                  obtain ⟨hn1, ho⟩ := ho
                  unfold xca at ho
                  replace ho := if_inv ho
                  obtain ⟨⟨hlv, hcat⟩, ho⟩ := ho
                  cases ho
                  have hM := xmet_of ih (xMok_of (by decide) hI) hw hla hcl
                  refine xc_S C S hl hd hI hlv hcat (by rw [List.length_reverse, List.length_take]; omega) (by rw [List.reverse_reverse, List.take_append_drop]) w1 ⟨w2, w3⟩ (by omega) (by omega) hM (fun H' locs' S' => ?_)
                  rw [e1]
                  exact ih _ _ _ _ _ _ _ _ _ hr p e R s m args below meth c Q h0 lsC H' locs' C X S' hl hc hs hret
                · rename_i n1 M1 hI
                  replace ho := if_inv ho
                  obtain ⟨hn1, ho⟩ := ho
                  unfold xca at ho
                  replace ho := if_inv ho
                  obtain ⟨⟨hlv, hcat⟩, ho⟩ := ho
                  cases ho
                  have hM := xmet_of ih (xMok_of (by decide) hI) hw hla hcl
                  refine xc_SN C S hl hd hI hlv hcat (by rw [List.length_reverse, List.length_take]; omega) (by rw [List.reverse_reverse, List.take_append_drop]) w1 ⟨w2, w3⟩ (by omega) (by omega) hM (fun H' locs' S' => ?_)
                  rw [e1]
                  exact ih _ _ _ _ _ _ _ _ _ hr p e R s m args below meth c Q h0 lsC H' locs' C X S' hl hc hs hret
                all_goals
                  exfalso
                  repeat' first
                    | cases ho
                    | (replace ho := xi2_inv ho; obtain ⟨_, _, _, -, ho⟩ := ho)
                    | (replace ho := xl2_inv ho; obtain ⟨_, _, _, -, ho⟩ := ho)
                    | (simp only [xn, xcp] at ho)
                    | split at ho
              | invokespecial k =>
                simp only [xO] at ho
                replace ho := if_inv ho
                obtain ⟨rfl, ho⟩ := ho
                split at ho
                · rename_i n1 M1 hI
                  split at ho
                  · rename_i x As hsp
                    replace ho := if_inv ho
                    obtain ⟨hn1, ho⟩ := ho
                    unfold xca at ho
                    replace ho := if_inv ho
                    obtain ⟨⟨hlv, hcat⟩, ho⟩ := ho
                    cases ho
                    have hM := xmet_of ih (xMok_of (by decide) hI) hw hla hcl
                    obtain ⟨q1, q2⟩ := xst_split hn1 hsp
                    refine xc_I C S hl hd hI hlv hcat rfl q1 q2 w1 ⟨w2, w3⟩ (by omega) (by omega) hM (fun H' locs' S' => ?_)
                    rw [e1]
                    exact ih _ _ _ _ _ _ _ _ _ hr p e R s m args below meth c Q h0 lsC H' locs' C X S' hl hc hs hret
                  · cases ho
                · rename_i n1 M1 hI
                  split at ho
                  · rename_i x As hsp
                    replace ho := if_inv ho
                    obtain ⟨hn1, ho⟩ := ho
                    unfold xca at ho
                    replace ho := if_inv ho
                    obtain ⟨⟨hlv, hcat⟩, ho⟩ := ho
                    cases ho
                    have hM := xmet_of ih (xMok_of (by decide) hI) hw hla hcl
                    obtain ⟨q1, q2⟩ := xst_split hn1 hsp
                    refine xc_IN C S hl hd hI hlv hcat rfl q1 q2 w1 ⟨w2, w3⟩ (by omega) (by omega) hM (fun H' locs' S' => ?_)
                    rw [e1]
                    exact ih _ _ _ _ _ _ _ _ _ hr p e R s m args below meth c Q h0 lsC H' locs' C X S' hl hc hs hret
                  · cases ho
                all_goals
                  exfalso
                  repeat' first
                    | cases ho
                    | (replace ho := xr1_inv ho; obtain ⟨_, _, -, ho⟩ := ho)
                    | (simp only [xn] at ho)
                    | split at ho
              | newarray ty =>
                exfalso
                cases ty <;> simp only [xO] at ho <;>
                repeat' first
                  | cases ho
                  | (replace ho := xi1_inv ho; obtain ⟨_, _, -, ho⟩ := ho)
                  | (simp only [xn, xna] at ho)
                  | split at ho
              | _ =>
                exfalso
                simp only [xO] at ho
                repeat' first
                  | cases ho
                  | (replace ho := xi1_inv ho; obtain ⟨_, _, -, ho⟩ := ho)
                  | (replace ho := xi2_inv ho; obtain ⟨_, _, _, -, ho⟩ := ho)
                  | (replace ho := xl1_inv ho; obtain ⟨_, _, -, ho⟩ := ho)
                  | (replace ho := xl2_inv ho; obtain ⟨_, _, _, -, ho⟩ := ho)
                  | (replace ho := xli_inv ho; obtain ⟨_, _, _, -, ho⟩ := ho)
                  | (replace ho := xr1_inv ho; obtain ⟨_, _, -, ho⟩ := ho)
                  | (replace ho := xri_inv ho; obtain ⟨_, _, _, -, ho⟩ := ho)
                  | (replace ho := xrv_inv ho; obtain ⟨_, _, _, -, ho⟩ := ho)
                  | (replace ho := xriv_inv ho; obtain ⟨_, _, _, _, -, ho⟩ := ho)
                  | (replace ho := xlg_inv ho; obtain ⟨_, -, ho⟩ := ho)
                  | (replace ho := xtg_inv ho; obtain ⟨_, -, ho⟩ := ho)
                  | (simp only [xn, xgt, xpt, xial, xias, xlal, xlas, xaal, xaas, xlen, xna, xcp] at ho)
                  | split at ho
          · rw [if_neg hla] at hr; simp at hr
        · simp only at hr
          cases hr
          exact hret ins len pc ls st lsC H locs hd ho S
