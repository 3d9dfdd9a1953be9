/-! What a method gives is of its type. -/
def RT (M : xM) (v : Option Value) : Prop := (xmr M = some .int → ∃ x, v = some (.int x)) ∧ (xmr M = some .long → ∃ x, v = some (.long x))
def TT (M : xM) (u : Option xU) : Prop := ∀ v, u = some (.inr (.inr v)) → RT M v
section RETS
variable {M : xM}
theorem T_none : TT M none := fun v h => by cases h
theorem T_xn (pc : Nat) (ls : List (Option Value)) (st : List Value) (h : xH) : TT M (xn pc ls st h) := fun v h => by unfold xn at h; cases h
theorem T_ite {c : Prop} [Decidable c] {a b : Option xU} (ha : TT M a) (hb : TT M b) : TT M (if c then a else b) := by split; exact ha; exact hb
theorem T_xca (lv : Nat) (M' : xM) (a : List Value) (pc : Nat) (ls : List (Option Value)) (r : List Value) : TT M (xca lv M' a pc ls r) := fun v h => by
  unfold xca at h
  split at h <;> cases h
theorem T_xlg {ls : List (Option Value)} {i : Nat} {f : Value → Option xU} (hf : ∀ v, TT M (f v)) : TT M (xlg ls i f) := by unfold xlg; split; exact hf _; exact T_none
theorem T_xi1 {st : List Value} {f : Int32 → List Value → Option xU} (hf : ∀ x r, TT M (f x r)) : TT M (xi1 st f) := by unfold xi1; split; exact hf _ _; exact T_none
theorem T_xi2 {st : List Value} {f : Int32 → Int32 → List Value → Option xU} (hf : ∀ x y r, TT M (f x y r)) : TT M (xi2 st f) := by unfold xi2; split; exact hf _ _ _; exact T_none
theorem T_xl1 {st : List Value} {f : Int64 → List Value → Option xU} (hf : ∀ x r, TT M (f x r)) : TT M (xl1 st f) := by unfold xl1; split; exact hf _ _; exact T_none
theorem T_xl2 {st : List Value} {f : Int64 → Int64 → List Value → Option xU} (hf : ∀ x y r, TT M (f x y r)) : TT M (xl2 st f) := by unfold xl2; split; exact hf _ _ _; exact T_none
theorem T_xli {st : List Value} {f : Int64 → Int32 → List Value → Option xU} (hf : ∀ x y r, TT M (f x y r)) : TT M (xli st f) := by unfold xli; split; exact hf _ _ _; exact T_none
theorem T_xr1 {st : List Value} {f : Nat → List Value → Option xU} (hf : ∀ x r, TT M (f x r)) : TT M (xr1 st f) := by unfold xr1; split; exact hf _ _; exact T_none
theorem T_xri {st : List Value} {f : Nat → Int32 → List Value → Option xU} (hf : ∀ x y r, TT M (f x y r)) : TT M (xri st f) := by unfold xri; split; exact hf _ _ _; exact T_none
theorem T_xrv {st : List Value} {f : Nat → Value → List Value → Option xU} (hf : ∀ x y r, TT M (f x y r)) : TT M (xrv st f) := by unfold xrv; split; exact hf _ _ _; exact T_none
theorem T_xriv {st : List Value} {f : Nat → Int32 → Value → List Value → Option xU} (hf : ∀ x y z r, TT M (f x y z r)) : TT M (xriv st f) := by unfold xriv; split; exact hf _ _ _ _; exact T_none
theorem T_xtg {pc : Nat} {off : Int} {f : Nat → Option xU} (hf : ∀ x, TT M (f x)) : TT M (xtg pc off f) := by unfold xtg; split; exact hf _; exact T_none
theorem T_xgt {h : xH} {a ci k : Nat} {f : Value → Option xU} (hf : ∀ x, TT M (f x)) : TT M (xgt h a ci k f) := by
  unfold xgt
  repeat' split
  all_goals first | exact hf _ | exact T_none
theorem T_xpt {M' : xM} {h : xH} {a ci k : Nat} {v : Value} {f : xH → Option xU} (hf : ∀ x, TT M (f x)) : TT M (xpt M' h a ci k v f) := by
  unfold xpt
  repeat' split
  all_goals first | exact hf _ | exact T_none
theorem T_xial {scr : xSc} {h : xH} {t a : Nat} {i : Int32} {f : Int32 → Option xU} (hf : ∀ x, TT M (f x)) : TT M (xial scr h t a i f) := by
  unfold xial
  repeat' split
  all_goals first | exact hf _ | exact T_none
theorem T_xias {h : xH} {t a : Nat} {i x : Int32} {f : xH → Option xU} (hf : ∀ x, TT M (f x)) : TT M (xias h t a i x f) := by
  unfold xias
  repeat' split
  all_goals first | exact hf _ | exact T_none
theorem T_xlal {h : xH} {a : Nat} {i : Int32} {f : Int64 → Option xU} (hf : ∀ x, TT M (f x)) : TT M (xlal h a i f) := by
  unfold xlal
  repeat' split
  all_goals first | exact hf _ | exact T_none
theorem T_xlas {h : xH} {a : Nat} {i : Int32} {x : Int64} {f : xH → Option xU} (hf : ∀ x, TT M (f x)) : TT M (xlas h a i x f) := by
  unfold xlas
  repeat' split
  all_goals first | exact hf _ | exact T_none
theorem T_xaal {h : xH} {a : Nat} {i : Int32} {f : Nat → Option xU} (hf : ∀ x, TT M (f x)) : TT M (xaal h a i f) := by
  unfold xaal
  repeat' split
  all_goals first | exact hf _ | exact T_none
theorem T_xaas {h : xH} {a v : Nat} {i : Int32} {f : xH → Option xU} (hf : ∀ x, TT M (f x)) : TT M (xaas h a i v f) := by
  unfold xaas
  repeat' split
  all_goals first | exact hf _ | exact T_none
theorem T_xlen {scr : xSc} {h : xH} {a : Nat} {f : Int32 → Option xU} (hf : ∀ x, TT M (f x)) : TT M (xlen scr h a f) := by
  unfold xlen
  repeat' split
  all_goals first | exact hf _ | exact T_none
theorem T_xna {h : xH} {t : Nat} {n : Int32} {f : xH → Option xU} (hf : ∀ x, TT M (f x)) : TT M (xna h t n f) := by
  unfold xna
  repeat' split
  all_goals first | exact hf _ | exact T_none
theorem T_xcp {h : xH} {a a' : Nat} {sp dp n : Int32} {f : xH → Option xU} (hf : ∀ x, TT M (f x)) : TT M (xcp h a a' sp dp n f) := by
  unfold xcp
  repeat' split
  all_goals first | exact hf _ | exact T_none
theorem T_ireturn {x : Int32} : TT M (if xmr M = some .int ∨ (xmr M = some .boolean ∧ (x = 0 ∨ x = 1)) then some (.inr (.inr (some (.int x)))) else none) := fun v h => by
  split at h
  · rename_i c
    cases h
    refine ⟨fun _ => ⟨x, rfl⟩, fun e => ?_⟩
    rcases c with c | c
    · rw [c] at e; cases e
    · rw [c.1] at e; cases e
  · cases h
theorem T_lreturn {x : Int64} : TT M (if xmr M = some .long then some (.inr (.inr (some (.long x)))) else none) := fun v h => by
  split at h
  · rename_i c
    cases h
    exact ⟨fun e => (by rw [c] at e; cases e), fun _ => ⟨x, rfl⟩⟩
  · cases h
theorem T_areturn {a : Nat} : TT M (if xmr M = some (.object "SpoonfulMore$Act") then some (.inr (.inr (some (.ref a)))) else none) := fun v h => by
  split at h
  · rename_i c
    cases h
    exact ⟨fun e => (by rw [c] at e; cases e), fun e => (by rw [c] at e; cases e)⟩
  · cases h
theorem T_return : TT M (if xmr M = none then some (.inr (.inr none)) else none) := fun v h => by
  split at h
  · rename_i c
    cases h
    exact ⟨fun e => (by rw [c] at e; cases e), fun e => (by rw [c] at e; cases e)⟩
  · cases h
set_option maxHeartbeats 4000000 in
theorem xO_T (scr : xSc) (lv : Nat) (pc len : Nat) (ls : List (Option Value)) (st : List Value) (h : xH) (ins : Instr) : TT M (xO scr lv M pc len ls st h ins) := by
  unfold xO
  split
  all_goals repeat' (first | exact T_none | exact T_xn _ _ _ _ | exact T_xca _ _ _ _ _ _ | exact T_ireturn | exact T_lreturn | exact T_areturn | exact T_return | (refine T_xlg (fun _ => ?_)) | (refine T_xi1 (fun _ _ => ?_)) | (refine T_xi2 (fun _ _ _ => ?_)) | (refine T_xl1 (fun _ _ => ?_)) | (refine T_xl2 (fun _ _ _ => ?_)) | (refine T_xli (fun _ _ _ => ?_)) | (refine T_xr1 (fun _ _ => ?_)) | (refine T_xri (fun _ _ _ => ?_)) | (refine T_xrv (fun _ _ _ => ?_)) | (refine T_xriv (fun _ _ _ _ => ?_)) | (refine T_xtg (fun _ => ?_)) | (refine T_xgt (fun _ => ?_)) | (refine T_xpt (fun _ => ?_)) | (refine T_xial (fun _ => ?_)) | (refine T_xias (fun _ => ?_)) | (refine T_xlal (fun _ => ?_)) | (refine T_xlas (fun _ => ?_)) | (refine T_xaal (fun _ => ?_)) | (refine T_xaas (fun _ => ?_)) | (refine T_xlen (fun _ => ?_)) | (refine T_xna (fun _ => ?_)) | (refine T_xcp (fun _ => ?_)) | (refine T_ite ?_ ?_) | split)
theorem xA_T : ∀ n scr lv pc ls st h v h', xA n scr lv M pc ls st h = some (v, h') → RT M v := by
  intro n
  induction n with
  | zero => intro scr lv pc ls st h v h' hr; simp [xA] at hr
  | succ n ih =>
    intro scr lv pc ls st h v h' hr
    rw [xA] at hr
    cases hd : decode (xmc M) pc with
    | error e => rw [hd] at hr; simp at hr
    | ok q =>
      obtain ⟨ins, len⟩ := q
      rw [hd] at hr
      simp only at hr
      have T := xO_T (M := M) scr lv pc len ls st h ins
      cases ho : xO scr lv M pc len ls st h ins with
      | none => rw [ho] at hr; simp at hr
      | some u =>
        rw [ho] at hr T
        rcases u with ⟨pc', ls', st', h1⟩ | ⟨M', a, pc', ls', r'⟩ | w
        · simp only at hr
          exact ih _ _ _ _ _ _ _ _ hr
        · simp only at hr
          split at hr
          · split at hr
            · exact ih _ _ _ _ _ _ _ _ hr
            · cases hr
          · cases hr
        · simp only at hr
          cases hr
          exact T _ rfl
end RETS
theorem xC_int {M : xM} {a : List Value} {h h' : xH} {r : Value} (c : xC M a h = some (some r, h')) (hm : xmr M = some .int) : ∃ x, r = .int x := by
  obtain ⟨n, hn⟩ := xR_ex c
  obtain ⟨x, e⟩ := (xA_T n _ _ _ _ _ _ _ _ hn).1 hm
  exact ⟨x, Option.some.inj e⟩
theorem xC_long {M : xM} {a : List Value} {h h' : xH} {r : Value} (c : xC M a h = some (some r, h')) (hm : xmr M = some .long) : ∃ x, r = .long x := by
  obtain ⟨n, hn⟩ := xR_ex c
  obtain ⟨x, e⟩ := (xA_T n _ _ _ _ _ _ _ _ hn).2 hm
  exact ⟨x, Option.some.inj e⟩
