/-! Calls, and the whole: what the abstract machine comes to, the machine comes to. -/
section XGD
variable {h : xH}
def xgd (h : xH) (u : Option xU) : Prop := ∀ pc ls st h', u = some (.inl (pc, ls, st, h')) → xwf h → xwf h' ∧ h.1 ≤ h'.1 ∧ h.2.1 ≤ h'.2.1
theorem gd_none : xgd h none := fun _ _ _ _ q => by cases q
theorem gd_xn {pc : Nat} {ls : List (Option Value)} {st : List Value} : xgd h (xn pc ls st h) := fun _ _ _ _ q hw => by
  obtain ⟨-, -, -, rfl⟩ := xn_inv q
  exact ⟨hw, Nat.le_refl _, Nat.le_refl _⟩
theorem gd_r {u : (xM × List Value × Nat × List (Option Value) × List Value) ⊕ Option Value} : xgd h (some (.inr u)) := fun _ _ _ _ q => by cases q
theorem gd_if {c : Prop} [Decidable c] {a b : Option xU} (ha : xgd h a) (hb : xgd h b) : xgd h (if c then a else b) := by
  by_cases hc : c
  · rw [if_pos hc]; exact ha
  · rw [if_neg hc]; exact hb
theorem gd_xi1 {st : List Value} {f : Int32 → List Value → Option xU} (hf : ∀ x r, xgd h (f x r)) : xgd h (xi1 st f) := fun _ _ _ _ q hw => by
  obtain ⟨x, r, -, q⟩ := xi1_inv q
  exact hf x r _ _ _ _ q hw
theorem gd_xi2 {st : List Value} {f : Int32 → Int32 → List Value → Option xU} (hf : ∀ x y r, xgd h (f x y r)) : xgd h (xi2 st f) := fun _ _ _ _ q hw => by
  obtain ⟨x, y, r, -, q⟩ := xi2_inv q
  exact hf x y r _ _ _ _ q hw
theorem gd_xl1 {st : List Value} {f : Int64 → List Value → Option xU} (hf : ∀ x r, xgd h (f x r)) : xgd h (xl1 st f) := fun _ _ _ _ q hw => by
  obtain ⟨x, r, -, q⟩ := xl1_inv q
  exact hf x r _ _ _ _ q hw
theorem gd_xl2 {st : List Value} {f : Int64 → Int64 → List Value → Option xU} (hf : ∀ x y r, xgd h (f x y r)) : xgd h (xl2 st f) := fun _ _ _ _ q hw => by
  obtain ⟨x, y, r, -, q⟩ := xl2_inv q
  exact hf x y r _ _ _ _ q hw
theorem gd_xli {st : List Value} {f : Int64 → Int32 → List Value → Option xU} (hf : ∀ x y r, xgd h (f x y r)) : xgd h (xli st f) := fun _ _ _ _ q hw => by
  obtain ⟨x, y, r, -, q⟩ := xli_inv q
  exact hf x y r _ _ _ _ q hw
theorem gd_xr1 {st : List Value} {f : Nat → List Value → Option xU} (hf : ∀ x r, xgd h (f x r)) : xgd h (xr1 st f) := fun _ _ _ _ q hw => by
  obtain ⟨x, r, -, q⟩ := xr1_inv q
  exact hf x r _ _ _ _ q hw
theorem gd_xri {st : List Value} {f : Nat → Int32 → List Value → Option xU} (hf : ∀ x y r, xgd h (f x y r)) : xgd h (xri st f) := fun _ _ _ _ q hw => by
  obtain ⟨x, y, r, -, q⟩ := xri_inv q
  exact hf x y r _ _ _ _ q hw
theorem gd_xrv {st : List Value} {f : Nat → Value → List Value → Option xU} (hf : ∀ x y r, xgd h (f x y r)) : xgd h (xrv st f) := fun _ _ _ _ q hw => by
  obtain ⟨x, y, r, -, q⟩ := xrv_inv q
  exact hf x y r _ _ _ _ q hw
theorem gd_xriv {st : List Value} {f : Nat → Int32 → Value → List Value → Option xU} (hf : ∀ x y v r, xgd h (f x y v r)) : xgd h (xriv st f) := fun _ _ _ _ q hw => by
  obtain ⟨x, y, v, r, -, q⟩ := xriv_inv q
  exact hf x y v r _ _ _ _ q hw
theorem gd_xlg {ls : List (Option Value)} {i : Nat} {f : Value → Option xU} (hf : ∀ v, xgd h (f v)) : xgd h (xlg ls i f) := fun _ _ _ _ q hw => by
  obtain ⟨v, -, q⟩ := xlg_inv q
  exact hf v _ _ _ _ q hw
theorem gd_xtg {pc : Nat} {off : Int} {f : Nat → Option xU} (hf : ∀ t, xgd h (f t)) : xgd h (xtg pc off f) := fun _ _ _ _ q hw => by
  obtain ⟨t, -, q⟩ := xtg_inv q
  exact hf t _ _ _ _ q hw
theorem gd_up {k : Nat} {c0 c : xE} (hk : h.2.2 k = some c0) {pc : Nat} {ls : List (Option Value)} {st : List Value} : xgd h (xn pc ls st (xup h k c)) := fun _ _ _ _ q hw => by
  obtain ⟨-, -, -, rfl⟩ := xn_inv q
  exact ⟨xwf_up hw hk c, Nat.le_refl _, Nat.le_refl _⟩
theorem gd_nw {n : Nat} {c : xE} {pc : Nat} {ls : List (Option Value)} {st : List Value} : xgd h (xn pc ls st (xnw h n c)) := fun _ _ _ _ q hw => by
  obtain ⟨-, -, -, rfl⟩ := xn_inv q
  exact ⟨xwf_nw hw n c, Nat.le_succ _, Nat.le_add_right _ _⟩
theorem gd_xgt {a ci k : Nat} {f : Value → Option xU} (hf : ∀ v, xgd h (f v)) : xgd h (xgt h a ci k f) := by
  unfold xgt
  split
  · refine gd_if ?_ gd_none
    split
    · exact hf _
    · exact gd_none
  · exact gd_none
theorem gd_xpt {M : xM} {a ci k : Nat} {v : Value} {pc : Nat} {ls : List (Option Value)} {st : List Value} : xgd h (xpt M h a ci k v (fun h' => xn pc ls st h')) := by
  unfold xpt
  split
  · rename_i ha
    exact gd_if (gd_up ha) gd_none
  · exact gd_none
theorem gd_xial {scr : xSc} {t a : Nat} {i : Int32} {f : Int32 → Option xU} (hf : ∀ v, xgd h (f v)) : xgd h (xial scr h t a i f) := by
  unfold xial
  refine gd_if ?_ ?_
  · split
    · exact gd_if (hf _) gd_none
    · exact gd_none
  · split
    · exact gd_if (hf _) gd_none
    · exact gd_none
theorem gd_xlal {a : Nat} {i : Int32} {f : Int64 → Option xU} (hf : ∀ v, xgd h (f v)) : xgd h (xlal h a i f) := by
  unfold xlal
  split
  · exact gd_if (hf _) gd_none
  · exact gd_none
theorem gd_xaal {a : Nat} {i : Int32} {f : Nat → Option xU} (hf : ∀ v, xgd h (f v)) : xgd h (xaal h a i f) := by
  unfold xaal
  split
  · refine gd_if ?_ gd_none
    split
    · exact hf _
    · exact gd_none
  · exact gd_none
theorem gd_xias {t a : Nat} {i x : Int32} {pc : Nat} {ls : List (Option Value)} {st : List Value} : xgd h (xias h t a i x (fun h' => xn pc ls st h')) := by
  unfold xias
  split
  · rename_i ha
    exact gd_if (gd_up ha) gd_none
  · exact gd_none
theorem gd_xlas {a : Nat} {i : Int32} {x : Int64} {pc : Nat} {ls : List (Option Value)} {st : List Value} : xgd h (xlas h a i x (fun h' => xn pc ls st h')) := by
  unfold xlas
  split
  · rename_i ha
    exact gd_if (gd_up ha) gd_none
  · exact gd_none
theorem gd_xaas {a v : Nat} {i : Int32} {pc : Nat} {ls : List (Option Value)} {st : List Value} : xgd h (xaas h a i v (fun h' => xn pc ls st h')) := by
  unfold xaas
  split
  · rename_i ha hv
    exact gd_if (gd_up ha) gd_none
  · exact gd_none
theorem gd_xlen {scr : xSc} {a : Nat} {f : Int32 → Option xU} (hf : ∀ v, xgd h (f v)) : xgd h (xlen scr h a f) := by
  unfold xlen
  refine gd_if ?_ ?_
  · split
    · exact hf _
    · exact gd_none
  · split
    · exact gd_if (hf _) gd_none
    · exact gd_none
theorem gd_xna {t : Nat} {n : Int32} {pc : Nat} {ls : List (Option Value)} {st : List Value} : xgd h (xna h t n (fun h' => xn pc ls (.ref h'.1 :: st) h')) := by
  unfold xna
  refine gd_if gd_none ?_
  split <;> exact gd_nw
theorem gd_xcp {a a' : Nat} {sp dp n : Int32} {pc : Nat} {ls : List (Option Value)} {st : List Value} : xgd h (xcp h a a' sp dp n (fun h' => xn pc ls st h')) := by
  unfold xcp
  split
  · rename_i ha ha'
    exact gd_if (gd_up ha') gd_none
  · exact gd_none
theorem gd_xca {lv : Nat} {M : xM} {a : List Value} {pc : Nat} {ls : List (Option Value)} {r : List Value} : xgd h (xca lv M a pc ls r) := gd_if gd_r gd_none
set_option maxHeartbeats 4000000 in
theorem gd_xO (scr : xSc) (lv : Nat) (M : xM) (pc len : Nat) (ls : List (Option Value)) (st : List Value) (ins : Instr) : xgd h (xO scr lv M pc len ls st h ins) := by
  unfold xO
  split <;>
  repeat' first
    | exact gd_none
    | exact gd_xn
    | exact gd_r
    | exact gd_xca
    | exact gd_xpt
    | exact gd_xias
    | exact gd_xlas
    | exact gd_xaas
    | exact gd_xna
    | exact gd_xcp
    | exact gd_nw
    | refine gd_if ?_ ?_
    | refine gd_xi1 fun _ _ => ?_
    | refine gd_xi2 fun _ _ _ => ?_
    | refine gd_xl1 fun _ _ => ?_
    | refine gd_xl2 fun _ _ _ => ?_
    | refine gd_xli fun _ _ _ => ?_
    | refine gd_xr1 fun _ _ => ?_
    | refine gd_xri fun _ _ _ => ?_
    | refine gd_xrv fun _ _ _ => ?_
    | refine gd_xriv fun _ _ _ _ => ?_
    | refine gd_xlg fun _ => ?_
    | refine gd_xtg fun _ => ?_
    | refine gd_xgt fun _ => ?_
    | refine gd_xial fun _ => ?_
    | refine gd_xlal fun _ => ?_
    | refine gd_xaal fun _ => ?_
    | refine gd_xlen fun _ => ?_
    | split
end XGD
theorem xA_mono : ∀ (n : Nat) (scr : xSc) (lv : Nat) (M : xM) (pc : Nat) (ls : List (Option Value)) (st : List Value) (h : xH) (v : Option Value) (h' : xH), xA n scr lv M pc ls st h = some (v, h') → xwf h → xwf h' ∧ h.1 ≤ h'.1 ∧ h.2.1 ≤ h'.2.1 := by
  intro n
  induction n with
  | zero => intro scr lv M pc ls st h v h' hr; simp [xA] at hr
  | succ n ih =>
    intro scr lv M pc ls st h v h' hr hw
    rw [xA] at hr
    cases hd : decode (xmc M) pc with
    | error e => rw [hd] at hr; simp at hr
    | ok q =>
      obtain ⟨ins, len⟩ := q
      rw [hd] at hr
      simp only at hr
      cases ho : xO scr lv M pc len ls st h ins with
      | none => rw [ho] at hr; simp at hr
      | some u =>
        rw [ho] at hr
        rcases u with ⟨pc1, ls1, st1, h1⟩ | ⟨M', a, pc1, ls1, r1⟩ | v1
        · simp only at hr
          obtain ⟨w1, w2, w3⟩ := gd_xO scr lv M pc len ls st ins _ _ _ _ ho hw
          obtain ⟨z1, z2, z3⟩ := ih _ _ _ _ _ _ _ _ _ hr w1
          exact ⟨z1, Nat.le_trans w2 z2, Nat.le_trans w3 z3⟩
        · simp only at hr
          by_cases hl : (xea a).length ≤ xmL M'
          · rw [if_pos hl] at hr
            cases hc : xA n none (xmk M' a) M' 0 (xent (xmL M') a) [] h with
            | none => rw [hc] at hr; simp at hr
            | some w =>
              obtain ⟨v2, h2⟩ := w
              rw [hc] at hr
              simp only at hr
              obtain ⟨w1, w2, w3⟩ := ih _ _ _ _ _ _ _ _ _ hc hw
              obtain ⟨z1, z2, z3⟩ := ih _ _ _ _ _ _ _ _ _ hr w1
              exact ⟨z1, Nat.le_trans w2 z2, Nat.le_trans w3 z3⟩
          · rw [if_neg hl] at hr; simp at hr
        · simp only at hr
          cases hr
          exact ⟨hw, Nat.le_refl _, Nat.le_refl _⟩
