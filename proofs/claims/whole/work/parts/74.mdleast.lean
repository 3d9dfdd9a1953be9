/-! The reference tries all rows, the first of the cheapest stays. -/
def VA (t : Nat) (ok : Nat → Nat → Bool) (sm' : Nat → Nat → Prop) (m : Nat) (a : Nat → Nat) : Prop := ∀ i, i < m → a i < t ∧ ok i (a i) = true ∧ ∀ k, k < i → sm' k i → a k ≠ a i
/-- the best of the rows of S -/
def Bs (t : Nat) (ok : Nat → Nat → Bool) (sm' : Nat → Nat → Prop) (m : Nat) (co : (Nat → Nat) → Nat) (S : (Nat → Nat) → Prop) (y : Int32) (fd : Nat → Int32) : Prop :=
  (y = -9 ∧ ∀ a', VA t ok sm' m a' → ¬ S a') ∨
  (∃ b, VA t ok sm' m b ∧ S b ∧ y = nI (co b) ∧ (∀ k, k < m → fd k = nI (b k)) ∧ ∀ a', VA t ok sm' m a' → S a' → co b ≤ co a' ∧ (co a' = co b → ¬ lxl a' b 0 m))
/-- behind the rows that begin with a and go on below x -/
def Sx (a : Nat → Nat) (i x : Nat) (a' : Nat → Nat) : Prop := (∃ k, k < i ∧ (∀ j, j < k → a' j = a j) ∧ a' k < a k) ∨ ((∀ j, j < i → a' j = a j) ∧ a' i < x)
def Sy (a : Nat → Nat) (i : Nat) (a' : Nat → Nat) : Prop := (∃ k, k < i ∧ (∀ j, j < k → a' j = a j) ∧ a' k < a k) ∨ (∀ j, j < i → a' j = a j)
section BS
variable {t m : Nat} {ok : Nat → Nat → Bool} {sm' : Nat → Nat → Prop} {co : (Nat → Nat) → Nat} {y : Int32} {fd : Nat → Int32}
theorem Bs_cg {S S' : (Nat → Nat) → Prop} (h : Bs t ok sm' m co S y fd) (e : ∀ a', VA t ok sm' m a' → (S a' ↔ S' a')) : Bs t ok sm' m co S' y fd := by
  rcases h with ⟨a, b⟩ | ⟨b, h1, h2, h3, h4, h5⟩
  · exact Or.inl ⟨a, fun a' ha hs => b a' ha ((e a' ha).mpr hs)⟩
  · exact Or.inr ⟨b, h1, (e b h1).mp h2, h3, h4, fun a' ha hs => h5 a' ha ((e a' ha).mpr hs)⟩
theorem Sx_end {a : Nat → Nat} {i : Nat} (hi : i < m) : ∀ a', VA t ok sm' m a' → (Sx a i t a' ↔ Sy a i a') := fun a' ha => by
  constructor
  · rintro (h | h)
    · exact Or.inl h
    · exact Or.inr h.1
  · rintro (h | h)
    · exact Or.inl h
    · exact Or.inr ⟨h, (ha i hi).1⟩
theorem Sx_deep {a : Nat → Nat} {i x : Nat} (a' : Nat → Nat) : Sx (upN a i x) (i + 1) 0 a' ↔ Sx a i x a' := by
  unfold Sx upN
  constructor
  · rintro (⟨k, k1, k2, k3⟩ | ⟨_, h⟩)
    · by_cases w : k = i
      · subst w
        rw [if_pos rfl] at k3
        exact Or.inr ⟨fun j hj => by have := k2 j hj; rw [if_neg (by omega)] at this; exact this, k3⟩
      · rw [if_neg w] at k3
        exact Or.inl ⟨k, by omega, fun j hj => by have := k2 j hj; rw [if_neg (by omega)] at this; exact this, k3⟩
    · omega
  · rintro (⟨k, k1, k2, k3⟩ | ⟨h1, h2⟩)
    · exact Or.inl ⟨k, by omega, fun j hj => by rw [if_neg (by omega)]; exact k2 j hj, by rw [if_neg (by omega)]; exact k3⟩
    · exact Or.inl ⟨i, by omega, fun j hj => by rw [if_neg (by omega)]; exact h1 j hj, by rw [if_pos rfl]; exact h2⟩
theorem Sy_up {a : Nat → Nat} {i x : Nat} (a' : Nat → Nat) : Sy (upN a i x) (i + 1) a' ↔ Sx a i (x + 1) a' := by
  unfold Sy Sx upN
  constructor
  · rintro (⟨k, k1, k2, k3⟩ | h)
    · by_cases w : k = i
      · subst w
        rw [if_pos rfl] at k3
        exact Or.inr ⟨fun j hj => by have := k2 j hj; rw [if_neg (by omega)] at this; exact this, by omega⟩
      · rw [if_neg w] at k3
        exact Or.inl ⟨k, by omega, fun j hj => by have := k2 j hj; rw [if_neg (by omega)] at this; exact this, k3⟩
    · have := h i (by omega)
      rw [if_pos rfl] at this
      exact Or.inr ⟨fun j hj => by have := h j (by omega); rw [if_neg (by omega)] at this; exact this, by omega⟩
  · rintro (⟨k, k1, k2, k3⟩ | ⟨h1, h2⟩)
    · exact Or.inl ⟨k, by omega, fun j hj => by rw [if_neg (by omega)]; exact k2 j hj, by rw [if_neg (by omega)]; exact k3⟩
    · by_cases w : a' i = x
      · refine Or.inr (fun j hj => ?_)
        by_cases u : j = i
        · rw [if_pos u, u, w]
        · rw [if_neg u]
          exact h1 j (by omega)
      · exact Or.inl ⟨i, by omega, fun j hj => by rw [if_neg (by omega)]; exact h1 j hj, by rw [if_pos rfl]; omega⟩
theorem Sx_or {a : Nat → Nat} {i x : Nat} {a' : Nat → Nat} (h : Sx a i (x + 1) a') : Sx a i x a' ∨ ((∀ j, j < i → a' j = a j) ∧ a' i = x) := by
  rcases h with h | ⟨h1, h2⟩
  · exact Or.inl (Or.inl h)
  · by_cases w : a' i = x
    · exact Or.inr ⟨h1, w⟩
    · exact Or.inl (Or.inr ⟨h1, by omega⟩)
theorem Sx_mono {a : Nat → Nat} {i x : Nat} {a' : Nat → Nat} (h : Sx a i x a') : Sx a i (x + 1) a' := by
  rcases h with h | ⟨h1, h2⟩
  · exact Or.inl h
  · exact Or.inr ⟨h1, by omega⟩
/-- nothing new is a row, or none of it is cheaper -/
theorem Bs_skip {a : Nat → Nat} {i x : Nat} (h : Bs t ok sm' m co (Sx a i x) y fd) (hn : ∀ a', VA t ok sm' m a' → (∀ j, j < i → a' j = a j) → a' i = x → y ≠ -9 ∧ ∀ b, y = nI (co b) → co b ≤ co a') : Bs t ok sm' m co (Sx a i (x + 1)) y fd := by
  rcases h with ⟨e, h0⟩ | ⟨b, h1, h2, h3, h4, h5⟩
  · refine Or.inl ⟨e, fun a' ha hs => ?_⟩
    rcases Sx_or hs with u | ⟨u1, u2⟩
    · exact h0 a' ha u
    · exact (hn a' ha u1 u2).1 e
  · refine Or.inr ⟨b, h1, Sx_mono h2, h3, h4, fun a' ha hs => ?_⟩
    rcases Sx_or hs with u | ⟨u1, u2⟩
    · exact h5 a' ha u
    · refine ⟨(hn a' ha u1 u2).2 b h3, fun _ hx => ?_⟩
      obtain ⟨k, k1, k2, k3, k4⟩ := hx
      rcases h2 with ⟨l, l1, l2, l3⟩ | ⟨l1, l2⟩
      · rcases Nat.lt_trichotomy k l with v | v | v
        · have := l2 k v
          have := u1 k (by omega)
          omega
        · subst v
          have := u1 k l1
          omega
        · have := k3 l (Nat.zero_le _) v
          have := u1 l l1
          omega
      · rcases Nat.lt_trichotomy k i with v | v | v
        · have := l1 k v
          have := u1 k v
          omega
        · subst v
          omega
        · have := k3 i (Nat.zero_le _) v
          omega
/-- a cheaper whole row -/
theorem Bs_new {a : Nat → Nat} {i x : Nat} (hm : i + 1 = m) (bd : ∀ b, co b < 2 ^ 31) (cg : ∀ a' b', (∀ j, j < m → a' j = b' j) → co a' = co b') (hv : VA t ok sm' m (upN a i x)) (h : Bs t ok sm' m co (Sx a i x) y fd) (hc : y = -9 ∨ ∀ b, y = nI (co b) → co (upN a i x) < co b) {fd' : Nat → Int32} (hf : ∀ k, k < m → fd' k = nI (upN a i x k)) : Bs t ok sm' m co (Sx a i (x + 1)) (nI (co (upN a i x))) fd' := by
  have self : Sx a i (x + 1) (upN a i x) := Or.inr ⟨fun j hj => if_neg (by omega), by rw [upN, if_pos rfl]; omega⟩
  refine Or.inr ⟨upN a i x, hv, self, rfl, hf, fun a' ha hs => ?_⟩
  rcases Sx_or hs with u | ⟨u1, u2⟩
  · rcases h with ⟨e, h0⟩ | ⟨b, h1, h2, h3, h4, h5⟩
    · exact absurd u (h0 a' ha)
    · have l1 := (h5 a' ha u).1
      have l2 : co (upN a i x) < co b := by
        rcases hc with c | c
        · exact absurd (h3.symm.trans c) (nm9 (bd b))
        · exact c b h3
      exact ⟨by omega, fun z => by omega⟩
  · have e : ∀ j, j < m → a' j = upN a i x j := fun j hj => by
      rw [upN]
      by_cases w : j = i
      · rw [if_pos w, w, u2]
      · rw [if_neg w]
        exact u1 j (by omega)
    have ec := cg _ _ e
    refine ⟨by omega, fun _ hx => ?_⟩
    obtain ⟨k, k1, k2, k3, k4⟩ := hx
    rw [e k k2] at k4
    omega
end BS
theorem co_cg {pr : Nat → Nat → Nat} {ln : Nat → Nat → Bool} {a a' : Nat → Nat} : ∀ k, (∀ i, i < k → a' i = a i) → coC pr ln a' k = coC pr ln a k
  | 0, _ => rfl
  | k + 1, h => by rw [coC, coC, co_cg k (fun i hi => h i (by omega)), h k (by omega), cnt_cg k (fun i hi => h i (by omega))]
theorem co_mono {pr : Nat → Nat → Nat} {ln : Nat → Nat → Bool} {a : Nat → Nat} (k : Nat) : ∀ d, coC pr ln a k ≤ coC pr ln a (k + d)
  | 0 => Nat.le_refl _
  | d + 1 => Nat.le_trans (co_mono k d) (Nat.le_add_right _ _)
theorem co_bd {pr : Nat → Nat → Nat} {ln : Nat → Nat → Bool} {a : Nat → Nat} (hp : ∀ c b, pr c b ≤ 100) : ∀ k, coC pr ln a k ≤ 100 * k
  | 0 => Nat.le_refl _
  | k + 1 => by
    have ih := co_bd (ln := ln) (a := a) hp k
    rw [coC]
    have : (if ln k (a k) = true then pr (a k) (cnt ln a (a k) k) else 0) ≤ 100 := by
      split
      · exact hp _ _
      · omega
    omega
theorem nI_m (i : Nat) : nI (i + 1) + (-1) = nI i := by
  rw [← nI_1, Int32.add_assoc, show (1 : Int32) + (-1) = 0 from by decide, Int32.add_zero]
section LL
variable {σ τ : Nat → Nat → Int32} {v s : Nat} {q : Nat → Nat} {e1 e2 : Int64} {t m sr cp : Nat} {od ow np : Nat → Nat} {x : Int32}
theorem cM_dfs1 (Q : Mq σ τ t m od ow np) (hs : sr ≤ 2) (hcp : cp ≤ 9) (hg : ∀ j, j < t → ∃ g, g ≤ 9 ∧ σ 84 (5 + j) = nI g) {i : Nat} (hi : i < m) (deep : i + 1 < m → ∀ a, VA t (okR (σ 82) (σ 80) (nI sr) ow np) (dd (σ 83) od) (i + 1) a → ∀ g σg τg (l4 l5 l6 : Option Value), (Hp g σg τg v s q e1 e2 ∧ (∀ b, b ≠ 88 → b ≠ 89 → b ≠ 90 → σg b = σ b) ∧ (∀ a k, ¬ (a = 75 ∧ k = 31) → τg a k = τ a k)) → (∀ k, k < i + 1 → σg 88 k = nI (a k)) → σg 88 (i + 1) = -1 → Bs t (okR (σ 82) (σ 80) (nI sr) ow np) (dd (σ 83) od) m (fun a => coC (prP (grR σ) (fun k => k) sr cp) (lnP ow np (fun k => k)) a m) (Sx a (i + 1) 0) (τg 75 31) (σg 89) → ∃ g' σ' τ' l4' l5' l6', xR none 2 M_Md_layLeast 31 [some (.ref 75), some (.int (nI sr)), some (.int (nI cp)), some (.int (nI (i + 1))), l4, l5, l6] [] g = xR none 2 M_Md_layLeast 31 [some (.ref 75), some (.int (nI sr)), some (.int (nI cp)), some (.int (nI i)), l4', l5', l6'] [] g' ∧ (Hp g' σ' τ' v s q e1 e2 ∧ (∀ b, b ≠ 88 → b ≠ 89 → b ≠ 90 → σ' b = σ b) ∧ (∀ a k, ¬ (a = 75 ∧ k = 31) → τ' a k = τ a k)) ∧ (∀ k, k < i + 1 → σ' 88 k = nI (a k)) ∧ Bs t (okR (σ 82) (σ 80) (nI sr) ow np) (dd (σ 83) od) m (fun a => coC (prP (grR σ) (fun k => k) sr cp) (lnP ow np (fun k => k)) a m) (Sy a (i + 1)) (τ' 75 31) (σ' 89)) {a : Nat → Nat} (va : VA t (okR (σ 82) (σ 80) (nI sr) ow np) (dd (σ 83) od) i a) : ∀ x, x ≤ t → ∀ g σg τg (l4 l5 l6 : Option Value), (Hp g σg τg v s q e1 e2 ∧ (∀ b, b ≠ 88 → b ≠ 89 → b ≠ 90 → σg b = σ b) ∧ (∀ a k, ¬ (a = 75 ∧ k = 31) → τg a k = τ a k)) → (∀ k, k < i → σg 88 k = nI (a k)) → σg 88 i = nI x + (-1) → Bs t (okR (σ 82) (σ 80) (nI sr) ow np) (dd (σ 83) od) m (fun a => coC (prP (grR σ) (fun k => k) sr cp) (lnP ow np (fun k => k)) a m) (Sx a i x) (τg 75 31) (σg 89) → ∃ g' σ' τ' l4' l5' l6', xR none 2 M_Md_layLeast 31 [some (.ref 75), some (.int (nI sr)), some (.int (nI cp)), some (.int (nI i)), l4, l5, l6] [] g = xR none 2 M_Md_layLeast 31 [some (.ref 75), some (.int (nI sr)), some (.int (nI cp)), some (.int (nI i + (-1))), l4', l5', l6'] [] g' ∧ (Hp g' σ' τ' v s q e1 e2 ∧ (∀ b, b ≠ 88 → b ≠ 89 → b ≠ 90 → σ' b = σ b) ∧ (∀ a k, ¬ (a = 75 ∧ k = 31) → τ' a k = τ a k)) ∧ (∀ k, k < i → σ' 88 k = nI (a k)) ∧ Bs t (okR (σ 82) (σ 80) (nI sr) ow np) (dd (σ 83) od) m (fun a => coC (prP (grR σ) (fun k => k) sr cp) (lnP ow np (fun k => k)) a m) (Sy a i) (τ' 75 31) (σ' 89) := by
  have t6 := Q.1.1
  have m8 := Q.2.1.1
  have pb := prP_le (gr := grR σ) (ch := fun k => k) hs hcp
  have bd : ∀ b, (fun a => coC (prP (grR σ) (fun k => k) sr cp) (lnP ow np (fun k => k)) a m) b < 2 ^ 31 := fun b => by
    have := co_bd (ln := (lnP ow np (fun k => k))) (a := b) pb m
    show coC (prP (grR σ) (fun k => k) sr cp) (lnP ow np (fun k => k)) b m < 2 ^ 31
    omega
  have cg : ∀ a' b', (∀ j, j < m → a' j = b' j) → (fun a => coC (prP (grR σ) (fun k => k) sr cp) (lnP ow np (fun k => k)) a m) a' = (fun a => coC (prP (grR σ) (fun k => k) sr cp) (lnP ow np (fun k => k)) a m) b' := fun a' b' h => co_cg m h
  have q0 : ¬ nI i < 0 := nI_pos (by omega)
  have qm : ¬ nI m ≤ 0 := nI_nle (by omega) (by omega)
  have i9 := xin_nI (show i < 9 by omega) (by decide)
  have ci := nI_clamp (show i < 2 ^ 31 by omega)
  have pm : ∀ y, nI y + (-1) + 1 = nI y := fun y => by rw [Int32.add_assoc, show (-1 : Int32) + 1 = 0 from by decide, Int32.add_zero]
  refine loop_dn (P := fun x => ∀ g σg τg (l4 l5 l6 : Option Value), (Hp g σg τg v s q e1 e2 ∧ (∀ b, b ≠ 88 → b ≠ 89 → b ≠ 90 → σg b = σ b) ∧ (∀ a k, ¬ (a = 75 ∧ k = 31) → τg a k = τ a k)) → (∀ k, k < i → σg 88 k = nI (a k)) → σg 88 i = nI x + (-1) → Bs t (okR (σ 82) (σ 80) (nI sr) ow np) (dd (σ 83) od) m (fun a => coC (prP (grR σ) (fun k => k) sr cp) (lnP ow np (fun k => k)) a m) (Sx a i x) (τg 75 31) (σg 89) → ∃ g' σ' τ' l4' l5' l6', xR none 2 M_Md_layLeast 31 [some (.ref 75), some (.int (nI sr)), some (.int (nI cp)), some (.int (nI i)), l4, l5, l6] [] g = xR none 2 M_Md_layLeast 31 [some (.ref 75), some (.int (nI sr)), some (.int (nI cp)), some (.int (nI i + (-1))), l4', l5', l6'] [] g' ∧ (Hp g' σ' τ' v s q e1 e2 ∧ (∀ b, b ≠ 88 → b ≠ 89 → b ≠ 90 → σ' b = σ b) ∧ (∀ a k, ¬ (a = 75 ∧ k = 31) → τ' a k = τ a k)) ∧ (∀ k, k < i → σ' 88 k = nI (a k)) ∧ Bs t (okR (σ 82) (σ 80) (nI sr) ow np) (dd (σ 83) od) m (fun a => coC (prP (grR σ) (fun k => k) sr cp) (lnP ow np (fun k => k)) a m) (Sy a i) (τ' 75 31) (σ' 89)) ?_ ?_
  · intro g σg τg l4 l5 l6 F pf ex B
    obtain ⟨G, fs, ft⟩ := F
    have f27 := hI G 75 9 27 rfl rfl
    rw [ft 75 27 (by omega), Q.2.1.2] at f27
    have f14 := hI G 75 9 14 rfl rfl
    rw [ft 75 14 (by omega), Q.1.2] at f14
    have f28 := hR G 75 9 28 88 rfl rfl
    have r88 := hA G 88 0 9 rfl rfl
    have G1 := Hp_sa (t := 0) (n := 9) G (a := 88) rfl rfl (upd (σg 88) i (nI t))
    refine ⟨_, _, _, l4, l5, l6, ?_, ⟨G1, fun b n1 n2 n3 => by rw [us, if_neg n1]; exact fs b n1 n2 n3, ft⟩, fun k hk => ?_, Bs_cg B (Sx_end hi)⟩
    · have z : ¬ nI t < nI t := Int32.lt_irrefl
      rw [e_Md_layLeast_31]
      simp only [e_Md_layLeast_32, e_Md_layLeast_35, e_Md_layLeast_36, e_Md_layLeast_39, e_Md_layLeast_42, e_Md_layLeast_43, e_Md_layLeast_46, e_Md_layLeast_47, e_Md_layLeast_48, e_Md_layLeast_49, e_Md_layLeast_50, e_Md_layLeast_51, e_Md_layLeast_52, e_Md_layLeast_53, e_Md_layLeast_56, e_Md_layLeast_57, e_Md_layLeast_58, e_Md_layLeast_59, e_Md_layLeast_62, e_Md_layLeast_65, e_Md_layLeast_68, m_get, m_put, m_ia, m_is, m_la, m_ls, fl_sf, fl_sa, fl_sl, fl_sq, ar_sf, ar_sa, ar_sl, ar_sq, lr_sf, lr_sa, lr_sl, lr_sq, qr_sf, qr_sa, qr_sl, qr_sq, sf_1, sf_2, sa_1, sa_2, sl_1, sl_2, Option.isSome_some, Option.map_some, Option.map_none, Option.toList_some, Option.toList_none, List.nil_append, List.cons_append, List.singleton_append, if_true, if_false, ↓reduceIte, and_self, and_true, true_and, and_false, false_and, not_true, not_false_iff, reduceCtorEq, Nat.reduceEqDiff, Nat.reduceAdd, Nat.reduceSub, Nat.reduceMul, Nat.reduceLT, Nat.reduceLeDiff, Nat.reduceBEq, eq_self, ne_eq, Nat.add_eq_zero_iff, Nat.add_left_cancel_iff, Nat.add_right_cancel_iff, Nat.left_eq_add, Nat.add_eq_left, Bool.true_or, Bool.or_true, Bool.or_self, or_self, or_true, true_or, or_false, false_or, decide_true, decide_false, i_10, i_01, q0, qm, f27, f14, f28, r88, i9, ci, ex, pm, upd, z]
    · show upd (σg 88) i _ k = _
      rw [upd, if_neg (by omega)]
      exact pf k hk
  · intro x hx ih g σg τg l4 l5 l6 F pf ex B
    obtain ⟨G, fs, ft⟩ := F
    have f27 := hI G 75 9 27 rfl rfl
    rw [ft 75 27 (by omega), Q.2.1.2] at f27
    have f14 := hI G 75 9 14 rfl rfl
    rw [ft 75 14 (by omega), Q.1.2] at f14
    have f28 := hR G 75 9 28 88 rfl rfl
    have r88 := hA G 88 0 9 rfl rfl
    have z : nI x < nI t := nI_lt hx (by omega)
    have ux : upd (σg 88) i (nI x) i = nI x := if_pos rfl
    have G1 := Hp_sa (t := 0) (n := 9) G (a := 88) rfl rfl (upd (σg 88) i (nI x))
    generalize eg1 : sa g 88 0 (upd (σg 88) i (nI x)) = g1 at G1
    have s1 : ∀ b, b ≠ 88 → b ≠ 89 → b ≠ 90 → us σg 88 (upd (σg 88) i (nI x)) b = σ b := fun b n1 n2 n3 => by rw [us, if_neg n1]; exact fs b n1 n2 n3
    have s88 : us σg 88 (upd (σg 88) i (nI x)) 88 = upd (σg 88) i (nI x) := if_pos rfl
    have s89 : us σg 88 (upd (σg 88) i (nI x)) 89 = σg 89 := if_neg (by omega)
    generalize es1 : us σg 88 (upd (σg 88) i (nI x)) = σ1 at G1 s1 s88 s89
    have pf1 : ∀ k, k < i → σ1 88 k = nI (a k) := fun k hk => by rw [s88, upd, if_neg (by omega)]; exact pf k hk
    have px1 : σ1 88 i = nI x := by rw [s88, upd, if_pos rfl]
    have Q1 : Mq σ1 τg t m od ow np := Mq_cg Q (fun b hb => s1 b (by omega) (by omega) (by omega)) ⟨ft 75 14 (by omega), ft 75 27 (by omega)⟩
    obtain ⟨y, cy, py⟩ := cM_mayDo G1 Q1 hi hx (nI sr)
    have cy' := call_v (lv := 2) cy (Hp_75 G1) (by decide) (Nat.le_of_ble_eq_true rfl)
    rw [s1 82 (by omega) (by omega) (by omega), s1 80 (by omega) (by omega) (by omega), s1 83 (by omega) (by omega) (by omega)] at py
    have r88' := hA G1 88 0 9 rfl rfl
    have f28' := hR G1 75 9 28 88 rfl rfl
    have f14' := hI G1 75 9 14 rfl rfl
    rw [ft 75 14 (by omega), Q.1.2] at f14'
    rcases py with ⟨y1, yo, ya⟩ | ⟨y0, yn⟩
    · subst y1
      have va1 : VA t (okR (σ 82) (σ 80) (nI sr) ow np) (dd (σ 83) od) (i + 1) (upN a i x) := fun j hj => by
        by_cases w : j = i
        · subst w
          rw [upN, if_pos rfl]
          exact ⟨hx, yo, fun k hk hd => by rw [upN, if_neg (by omega)]; exact fun u => ya k hk ⟨hd, by rw [pf1 k hk, u]⟩⟩
        · rw [upN, if_neg w]
          obtain ⟨u1, u2, u3⟩ := va j (by omega)
          exact ⟨u1, u2, fun k hk hd => by rw [upN, if_neg (by omega)]; exact u3 k hk hd⟩
      obtain ⟨g2, σ2, c2, G2, k2⟩ := cM_costOf G1 Q1 hs hcp (by rw [s1 84 (by omega) (by omega) (by omega)]; exact hg) (a := upN a i x) (k := i + 1) (by omega) (fun k hk => by
        refine ⟨(va1 k hk).1, ?_⟩
        rw [upN]
        by_cases w : k = i
        · rw [if_pos w, w, px1]
        · rw [if_neg w]
          exact pf1 k (by omega))
      have egr : grR σ1 = grR σ := by funext j; unfold grR; rw [s1 84 (by omega) (by omega) (by omega)]
      rw [egr] at c2
      have c2' := call_v (lv := 2) c2 (Hp_75 G1) (by decide) (Nat.le_of_ble_eq_true rfl)
      have fs2 : ∀ b, b ≠ 88 → b ≠ 89 → b ≠ 90 → σ2 b = σ b := fun b n1 n2 n3 => by rw [k2 b n3]; exact s1 b n1 n2 n3
      have e88 : σ2 88 = σ1 88 := k2 88 (by omega)
      have e89 : σ2 89 = σg 89 := by rw [k2 89 (by omega), s89]
      have cb := co_bd (ln := (lnP ow np (fun k => k))) (a := upN a i x) pb (i + 1)
      have f31 := hI G2 75 9 31 rfl rfl
      have f27' := hI G2 75 9 27 rfl rfl
      rw [ft 75 27 (by omega), Q.2.1.2] at f27'
      have start : xR none 2 M_Md_layLeast 31 [some (.ref 75), some (.int (nI sr)), some (.int (nI cp)), some (.int (nI i)), l4, l5, l6] [] g = xR none 2 M_Md_layLeast 97 [some (.ref 75), some (.int (nI sr)), some (.int (nI cp)), some (.int (nI i)), some (.int (nI (coC (prP (grR σ) (fun k => k) sr cp) (lnP ow np (fun k => k)) (upN a i x) (i + 1)))), l5, l6] [] g2 := by
        rw [e_Md_layLeast_31]
        simp only [e_Md_layLeast_32, e_Md_layLeast_35, e_Md_layLeast_36, e_Md_layLeast_39, e_Md_layLeast_42, e_Md_layLeast_43, e_Md_layLeast_46, e_Md_layLeast_47, e_Md_layLeast_48, e_Md_layLeast_49, e_Md_layLeast_50, e_Md_layLeast_51, e_Md_layLeast_52, e_Md_layLeast_53, e_Md_layLeast_56, e_Md_layLeast_57, e_Md_layLeast_58, e_Md_layLeast_59, e_Md_layLeast_62, m_get, m_put, m_ia, m_is, m_la, m_ls, fl_sf, fl_sa, fl_sl, fl_sq, ar_sf, ar_sa, ar_sl, ar_sq, lr_sf, lr_sa, lr_sl, lr_sq, qr_sf, qr_sa, qr_sl, qr_sq, sf_1, sf_2, sa_1, sa_2, sl_1, sl_2, Option.isSome_some, Option.map_some, Option.map_none, Option.toList_some, Option.toList_none, List.nil_append, List.cons_append, List.singleton_append, if_true, if_false, ↓reduceIte, and_self, and_true, true_and, and_false, false_and, not_true, not_false_iff, reduceCtorEq, Nat.reduceEqDiff, Nat.reduceAdd, Nat.reduceSub, Nat.reduceMul, Nat.reduceLT, Nat.reduceLeDiff, Nat.reduceBEq, eq_self, ne_eq, Nat.add_eq_zero_iff, Nat.add_left_cancel_iff, Nat.add_right_cancel_iff, Nat.left_eq_add, Nat.add_eq_left, Bool.true_or, Bool.or_true, Bool.or_self, or_self, or_true, true_or, or_false, false_or, decide_true, decide_false, i_10, i_01, q0, qm, f27, f28, r88, i9, ci, ex, pm, eg1, f28', r88', f14, f14', px1, ux, z]
        simp only [e_Md_layLeast_71, e_Md_layLeast_72, e_Md_layLeast_73, e_Md_layLeast_74, e_Md_layLeast_77, e_Md_layLeast_78, e_Md_layLeast_79, e_Md_layLeast_80, e_Md_layLeast_83, e_Md_layLeast_86, e_Md_layLeast_87, e_Md_layLeast_88, e_Md_layLeast_89, e_Md_layLeast_90, e_Md_layLeast_91, e_Md_layLeast_92, e_Md_layLeast_95, m_get, m_put, m_ia, m_is, m_la, m_ls, fl_sf, fl_sa, fl_sl, fl_sq, ar_sf, ar_sa, ar_sl, ar_sq, lr_sf, lr_sa, lr_sl, lr_sq, qr_sf, qr_sa, qr_sl, qr_sq, sf_1, sf_2, sa_1, sa_2, sl_1, sl_2, Option.isSome_some, Option.map_some, Option.map_none, Option.toList_some, Option.toList_none, List.nil_append, List.cons_append, List.singleton_append, if_true, if_false, ↓reduceIte, and_self, and_true, true_and, and_false, false_and, not_true, not_false_iff, reduceCtorEq, Nat.reduceEqDiff, Nat.reduceAdd, Nat.reduceSub, Nat.reduceMul, Nat.reduceLT, Nat.reduceLeDiff, Nat.reduceBEq, eq_self, ne_eq, Nat.add_eq_zero_iff, Nat.add_left_cancel_iff, Nat.add_right_cancel_iff, Nat.left_eq_add, Nat.add_eq_left, Bool.true_or, Bool.or_true, Bool.or_self, or_self, or_true, true_or, or_false, false_or, decide_true, decide_false, i_10, i_01, i9, ci, f28', r88', px1, cy', nI_1, c2']
      have hop : (τg 75 31 = -9 ∨ nI (coC (prP (grR σ) (fun k => k) sr cp) (lnP ow np (fun k => k)) (upN a i x) (i + 1)) < τg 75 31) → xR none 2 M_Md_layLeast 97 [some (.ref 75), some (.int (nI sr)), some (.int (nI cp)), some (.int (nI i)), some (.int (nI (coC (prP (grR σ) (fun k => k) sr cp) (lnP ow np (fun k => k)) (upN a i x) (i + 1)))), l5, l6] [] g2 = xR none 2 M_Md_layLeast 127 [some (.ref 75), some (.int (nI sr)), some (.int (nI cp)), some (.int (nI i)), some (.int (nI (coC (prP (grR σ) (fun k => k) sr cp) (lnP ow np (fun k => k)) (upN a i x) (i + 1)))), some (.int 1), l6] [] g2 := fun hh => by
        by_cases w : τg 75 31 = -9
        · simp only [e_Md_layLeast_97, e_Md_layLeast_98, e_Md_layLeast_101, e_Md_layLeast_103, e_Md_layLeast_106, e_Md_layLeast_108, e_Md_layLeast_109, e_Md_layLeast_112, e_Md_layLeast_115, e_Md_layLeast_116, e_Md_layLeast_119, e_Md_layLeast_120, e_Md_layLeast_122, e_Md_layLeast_124, m_get, m_put, m_ia, m_is, m_la, m_ls, fl_sf, fl_sa, fl_sl, fl_sq, ar_sf, ar_sa, ar_sl, ar_sq, lr_sf, lr_sa, lr_sl, lr_sq, qr_sf, qr_sa, qr_sl, qr_sq, sf_1, sf_2, sa_1, sa_2, sl_1, sl_2, Option.isSome_some, Option.map_some, Option.map_none, Option.toList_some, Option.toList_none, List.nil_append, List.cons_append, List.singleton_append, if_true, if_false, ↓reduceIte, and_self, and_true, true_and, and_false, false_and, not_true, not_false_iff, reduceCtorEq, Nat.reduceEqDiff, Nat.reduceAdd, Nat.reduceSub, Nat.reduceMul, Nat.reduceLT, Nat.reduceLeDiff, Nat.reduceBEq, eq_self, ne_eq, Nat.add_eq_zero_iff, Nat.add_left_cancel_iff, Nat.add_right_cancel_iff, Nat.left_eq_add, Nat.add_eq_left, Bool.true_or, Bool.or_true, Bool.or_self, or_self, or_true, true_or, or_false, false_or, decide_true, decide_false, i_10, i_01, f31, w]
        · have w2 : ¬ τg 75 31 ≤ nI (coC (prP (grR σ) (fun k => k) sr cp) (lnP ow np (fun k => k)) (upN a i x) (i + 1)) := Int32.not_le.mpr (hh.resolve_left w)
          simp only [e_Md_layLeast_97, e_Md_layLeast_98, e_Md_layLeast_101, e_Md_layLeast_103, e_Md_layLeast_106, e_Md_layLeast_108, e_Md_layLeast_109, e_Md_layLeast_112, e_Md_layLeast_115, e_Md_layLeast_116, e_Md_layLeast_119, e_Md_layLeast_120, e_Md_layLeast_122, e_Md_layLeast_124, m_get, m_put, m_ia, m_is, m_la, m_ls, fl_sf, fl_sa, fl_sl, fl_sq, ar_sf, ar_sa, ar_sl, ar_sq, lr_sf, lr_sa, lr_sl, lr_sq, qr_sf, qr_sa, qr_sl, qr_sq, sf_1, sf_2, sa_1, sa_2, sl_1, sl_2, Option.isSome_some, Option.map_some, Option.map_none, Option.toList_some, Option.toList_none, List.nil_append, List.cons_append, List.singleton_append, if_true, if_false, ↓reduceIte, and_self, and_true, true_and, and_false, false_and, not_true, not_false_iff, reduceCtorEq, Nat.reduceEqDiff, Nat.reduceAdd, Nat.reduceSub, Nat.reduceMul, Nat.reduceLT, Nat.reduceLeDiff, Nat.reduceBEq, eq_self, ne_eq, Nat.add_eq_zero_iff, Nat.add_left_cancel_iff, Nat.add_right_cancel_iff, Nat.left_eq_add, Nat.add_eq_left, Bool.true_or, Bool.or_true, Bool.or_self, or_self, or_true, true_or, or_false, false_or, decide_true, decide_false, i_10, i_01, f31, w, w2]
      by_cases hh : τg 75 31 = -9 ∨ nI (coC (prP (grR σ) (fun k => k) sr cp) (lnP ow np (fun k => k)) (upN a i x) (i + 1)) < τg 75 31
      · rw [start, hop hh]
        have hc : τg 75 31 = -9 ∨ ∀ b, τg 75 31 = nI ((fun a => coC (prP (grR σ) (fun k => k) sr cp) (lnP ow np (fun k => k)) a m) b) → coC (prP (grR σ) (fun k => k) sr cp) (lnP ow np (fun k => k)) (upN a i x) (i + 1) < (fun a => coC (prP (grR σ) (fun k => k) sr cp) (lnP ow np (fun k => k)) a m) b := by
          rcases hh with u | u
          · exact Or.inl u
          · exact Or.inr (fun b eb => by rw [eb] at u; exact (nI_ltI (by omega) (bd b)).mp u)
        by_cases w : i + 1 = m
        · have G3 := Hp_sf G2 (a := 75) (c := 9) (k := 31) rfl rfl (nI (coC (prP (grR σ) (fun k => k) sr cp) (lnP ow np (fun k => k)) (upN a i x) (i + 1)))
          have f28'' := hR G3 75 9 28 88 rfl rfl
          have r88'' := hA G3 88 0 9 rfl rfl
          have f29 := hR G3 75 9 29 89 rfl rfl
          have r89 := hA G3 89 0 8 rfl rfl
          have f27'' := hI G3 75 9 27 rfl rfl
          rw [show ut τg 75 31 (nI (coC (prP (grR σ) (fun k => k) sr cp) (lnP ow np (fun k => k)) (upN a i x) (i + 1))) 75 27 = τg 75 27 from by rw [ut, if_neg (by omega)], ft 75 27 (by omega), Q.2.1.2] at f27''
          have G4 := Hp_sa (t := 0) (n := 8) G3 (a := 89) rfl rfl (cpI (σ2 89) (σ2 88) 0 m)
          have wm : nI (i + 1) = nI m := by rw [w]
          have e31 : ut τg 75 31 (nI (coC (prP (grR σ) (fun k => k) sr cp) (lnP ow np (fun k => k)) (upN a i x) (i + 1))) 75 31 = nI ((fun a => coC (prP (grR σ) (fun k => k) sr cp) (lnP ow np (fun k => k)) a m) (upN a i x)) := by
            show _ = nI (coC (prP (grR σ) (fun k => k) sr cp) (lnP ow np (fun k => k)) (upN a i x) m)
            rw [← w]
            simp only [ut, and_self, if_true]
          have vm : VA t (okR (σ 82) (σ 80) (nI sr) ow np) (dd (σ 83) od) m (upN a i x) := by rw [← w]; exact va1
          have hc' : τg 75 31 = -9 ∨ ∀ b, τg 75 31 = nI ((fun a => coC (prP (grR σ) (fun k => k) sr cp) (lnP ow np (fun k => k)) a m) b) → (fun a => coC (prP (grR σ) (fun k => k) sr cp) (lnP ow np (fun k => k)) a m) (upN a i x) < (fun a => coC (prP (grR σ) (fun k => k) sr cp) (lnP ow np (fun k => k)) a m) b := by
            have e : (fun a => coC (prP (grR σ) (fun k => k) sr cp) (lnP ow np (fun k => k)) a m) (upN a i x) = coC (prP (grR σ) (fun k => k) sr cp) (lnP ow np (fun k => k)) (upN a i x) (i + 1) := by rw [w]
            rw [e]
            exact hc
          obtain ⟨g', σ', τ', l4', l5', l6', c, rest⟩ := ih _ _ _ (some (.int (nI (coC (prP (grR σ) (fun k => k) sr cp) (lnP ow np (fun k => k)) (upN a i x) (i + 1))))) (some (.int 1)) (some (.int (nI m))) ⟨G4, fun b n1 n2 n3 => by rw [us, if_neg n2]; exact fs2 b n1 n2 n3, fun a k hk => by rw [ut, if_neg hk]; exact ft a k hk⟩ (fun k hk => by rw [us, if_neg (by omega), e88]; exact pf1 k hk) (by rw [us, if_neg (by omega), e88, px1, nI_m]) (by
            rw [e31]
            refine Bs_new w bd cg vm B hc' (fun k hk => ?_)
            have := cpI_in (g := σ2 89) (f := σ2 88) (o := 0) hk
            rw [Nat.zero_add] at this
            rw [us, if_pos rfl, this, e88, upN]
            by_cases u : k = i
            · rw [if_pos u, u, px1]
            · rw [if_neg u]
              exact pf1 k (by omega))
          refine ⟨g', σ', τ', l4', l5', l6', ?_, rest⟩
          have copy := loop_dn (t := m) (P := fun k => xR none 2 M_Md_layLeast 146 [some (.ref 75), some (.int (nI sr)), some (.int (nI cp)), some (.int (nI i)), some (.int (nI (coC (prP (grR σ) (fun k => k) sr cp) (lnP ow np (fun k => k)) (upN a i x) (i + 1)))), some (.int 1), some (.int (nI k))] [] (sa (sf g2 75 9 31 (.int (nI (coC (prP (grR σ) (fun k => k) sr cp) (lnP ow np (fun k => k)) (upN a i x) (i + 1))))) 89 0 (cpI (σ2 89) (σ2 88) 0 k)) = xR none 2 M_Md_layLeast 31 [some (.ref 75), some (.int (nI sr)), some (.int (nI cp)), some (.int (nI i)), some (.int (nI (coC (prP (grR σ) (fun k => k) sr cp) (lnP ow np (fun k => k)) (upN a i x) (i + 1)))), some (.int 1), some (.int (nI m))] [] (sa (sf g2 75 9 31 (.int (nI (coC (prP (grR σ) (fun k => k) sr cp) (lnP ow np (fun k => k)) (upN a i x) (i + 1))))) 89 0 (cpI (σ2 89) (σ2 88) 0 m))) ?_ ?_ 0 (Nat.zero_le _)
          · rw [nI_0, cpI_0, sa_self r89] at copy
            rw [← c, ← copy]
            simp only [e_Md_layLeast_127, e_Md_layLeast_128, e_Md_layLeast_129, e_Md_layLeast_130, e_Md_layLeast_131, e_Md_layLeast_134, e_Md_layLeast_137, e_Md_layLeast_138, e_Md_layLeast_140, e_Md_layLeast_143, e_Md_layLeast_144, m_get, m_put, m_ia, m_is, m_la, m_ls, fl_sf, fl_sa, fl_sl, fl_sq, ar_sf, ar_sa, ar_sl, ar_sq, lr_sf, lr_sa, lr_sl, lr_sq, qr_sf, qr_sa, qr_sl, qr_sq, sf_1, sf_2, sa_1, sa_2, sl_1, sl_2, Option.isSome_some, Option.map_some, Option.map_none, Option.toList_some, Option.toList_none, List.nil_append, List.cons_append, List.singleton_append, if_true, if_false, ↓reduceIte, and_self, and_true, true_and, and_false, false_and, not_true, not_false_iff, reduceCtorEq, Nat.reduceEqDiff, Nat.reduceAdd, Nat.reduceSub, Nat.reduceMul, Nat.reduceLT, Nat.reduceLeDiff, Nat.reduceBEq, eq_self, ne_eq, Nat.add_eq_zero_iff, Nat.add_left_cancel_iff, Nat.add_right_cancel_iff, Nat.left_eq_add, Nat.add_eq_left, Bool.true_or, Bool.or_true, Bool.or_self, or_self, or_true, true_or, or_false, false_or, decide_true, decide_false, i_10, i_01, f27', f31, nI_1, wm]
          · rw [e_Md_layLeast_146]
            simp only [e_Md_layLeast_148, e_Md_layLeast_149, e_Md_layLeast_152, e_Md_layLeast_175, e_Md_layLeast_193, m_get, m_put, m_ia, m_is, m_la, m_ls, fl_sf, fl_sa, fl_sl, fl_sq, ar_sf, ar_sa, ar_sl, ar_sq, lr_sf, lr_sa, lr_sl, lr_sq, qr_sf, qr_sa, qr_sl, qr_sq, sf_1, sf_2, sa_1, sa_2, sl_1, sl_2, Option.isSome_some, Option.map_some, Option.map_none, Option.toList_some, Option.toList_none, List.nil_append, List.cons_append, List.singleton_append, if_true, if_false, ↓reduceIte, and_self, and_true, true_and, and_false, false_and, not_true, not_false_iff, reduceCtorEq, Nat.reduceEqDiff, Nat.reduceAdd, Nat.reduceSub, Nat.reduceMul, Nat.reduceLT, Nat.reduceLeDiff, Nat.reduceBEq, eq_self, ne_eq, Nat.add_eq_zero_iff, Nat.add_left_cancel_iff, Nat.add_right_cancel_iff, Nat.left_eq_add, Nat.add_eq_left, Bool.true_or, Bool.or_true, Bool.or_self, or_self, or_true, true_or, or_false, false_or, decide_true, decide_false, i_10, i_01, f27'', Int32.le_refl]
          · intro k hk ihk
            have q1 : ¬ nI m ≤ nI k := nI_ge hk (by omega)
            have k8 := xin_nI (show k < 8 by omega) (by decide)
            have k9 := xin_nI (show k < 9 by omega) (by decide)
            have ck := nI_clamp (show k < 2 ^ 31 by omega)
            have zz := cpI_s (σ2 89) (σ2 88) 0 k
            rw [Nat.zero_add] at zz
            rw [← nI_1, ← zz, ← sa_sa _ 89 0 (cpI (σ2 89) (σ2 88) 0 k)] at ihk
            rw [e_Md_layLeast_146, ← ihk]
            simp only [e_Md_layLeast_148, e_Md_layLeast_149, e_Md_layLeast_152, e_Md_layLeast_155, e_Md_layLeast_156, e_Md_layLeast_159, e_Md_layLeast_161, e_Md_layLeast_162, e_Md_layLeast_165, e_Md_layLeast_167, e_Md_layLeast_168, e_Md_layLeast_169, e_Md_layLeast_172, ar_sa, fl_sa, m_get, m_ia, m_is, Option.isSome_some, Option.map_some, Option.map_none, Option.toList_some, Option.toList_none, List.nil_append, List.cons_append, List.singleton_append, if_true, if_false, ↓reduceIte, and_self, and_true, true_and, and_false, false_and, not_true, not_false_iff, reduceCtorEq, Nat.reduceEqDiff, Nat.reduceAdd, Nat.reduceSub, Nat.reduceMul, Nat.reduceLT, Nat.reduceLeDiff, Nat.reduceBEq, eq_self, ne_eq, Nat.add_eq_zero_iff, Nat.add_left_cancel_iff, Nat.add_right_cancel_iff, Nat.left_eq_add, Nat.add_eq_left, Bool.true_or, Bool.or_true, Bool.or_self, or_self, or_true, true_or, or_false, false_or, decide_true, decide_false, i_10, i_01, f27'', f28'', r88'', f29, r89, q1, k8, k9, ck]
        · have wm : ¬ nI (i + 1) = nI m := fun u => w ((nI_eq (by omega) (by omega)).mp u)
          have i9' := xin_nI (show i + 1 < 9 by omega) (by decide)
          have ci' := nI_clamp (show i + 1 < 2 ^ 31 by omega)
          have f28'' := hR G2 75 9 28 88 rfl rfl
          have r88'' := hA G2 88 0 9 rfl rfl
          have G3 := Hp_sa (t := 0) (n := 9) G2 (a := 88) rfl rfl (upd (σ2 88) (i + 1) (-1))
          obtain ⟨g3, σ3, τ3, m4', m5', m6', c3, ⟨F1, F2, F3⟩, p3, B3⟩ := deep (by omega) (upN a i x) va1 _ _ _ (some (.int (nI (coC (prP (grR σ) (fun k => k) sr cp) (lnP ow np (fun k => k)) (upN a i x) (i + 1))))) (some (.int 1)) l6 ⟨G3, fun b n1 n2 n3 => by rw [us, if_neg n1]; exact fs2 b n1 n2 n3, ft⟩ (fun k hk => by
            rw [us, if_pos rfl, upd, if_neg (by omega), e88, upN]
            by_cases u : k = i
            · rw [if_pos u, u, px1]
            · rw [if_neg u]
              exact pf1 k (by omega)) (by rw [us, if_pos rfl, upd, if_pos rfl]) (by
            rw [us, if_neg (by omega), e89]
            exact Bs_cg B (fun a' _ => (Sx_deep a').symm))
          obtain ⟨g', σ', τ', l4', l5', l6', c, rest⟩ := ih g3 σ3 τ3 m4' m5' m6' ⟨F1, F2, F3⟩ (fun k hk => by rw [p3 k (by omega), upN, if_neg (by omega)]) (by rw [p3 i (by omega), upN, if_pos rfl, nI_m]) (Bs_cg B3 (fun a' _ => Sy_up a'))
          refine ⟨g', σ', τ', l4', l5', l6', ?_, rest⟩
          rw [← c, ← c3]
          simp only [e_Md_layLeast_127, e_Md_layLeast_128, e_Md_layLeast_129, e_Md_layLeast_130, e_Md_layLeast_131, e_Md_layLeast_134, e_Md_layLeast_178, e_Md_layLeast_180, e_Md_layLeast_183, e_Md_layLeast_186, e_Md_layLeast_187, e_Md_layLeast_190, e_Md_layLeast_191, e_Md_layLeast_192, e_Md_layLeast_193, m_get, m_put, m_ia, m_is, m_la, m_ls, fl_sf, fl_sa, fl_sl, fl_sq, ar_sf, ar_sa, ar_sl, ar_sq, lr_sf, lr_sa, lr_sl, lr_sq, qr_sf, qr_sa, qr_sl, qr_sq, sf_1, sf_2, sa_1, sa_2, sl_1, sl_2, Option.isSome_some, Option.map_some, Option.map_none, Option.toList_some, Option.toList_none, List.nil_append, List.cons_append, List.singleton_append, if_true, if_false, ↓reduceIte, and_self, and_true, true_and, and_false, false_and, not_true, not_false_iff, reduceCtorEq, Nat.reduceEqDiff, Nat.reduceAdd, Nat.reduceSub, Nat.reduceMul, Nat.reduceLT, Nat.reduceLeDiff, Nat.reduceBEq, eq_self, ne_eq, Nat.add_eq_zero_iff, Nat.add_left_cancel_iff, Nat.add_right_cancel_iff, Nat.left_eq_add, Nat.add_eq_left, Bool.true_or, Bool.or_true, Bool.or_self, or_self, or_true, true_or, or_false, false_or, decide_true, decide_false, i_10, i_01, f27', nI_1, wm, f28'', r88'', i9', ci']
      · have w1 : ¬ τg 75 31 = -9 := fun u => hh (Or.inl u)
        have w2 : τg 75 31 ≤ nI (coC (prP (grR σ) (fun k => k) sr cp) (lnP ow np (fun k => k)) (upN a i x) (i + 1)) := Int32.not_lt.mp (fun u => hh (Or.inr u))
        obtain ⟨g', σ', τ', l4', l5', l6', c, rest⟩ := ih g2 σ2 τg (some (.int (nI (coC (prP (grR σ) (fun k => k) sr cp) (lnP ow np (fun k => k)) (upN a i x) (i + 1))))) (some (.int 0)) l6 ⟨G2, fs2, ft⟩ (fun k hk => by rw [e88]; exact pf1 k hk) (by rw [e88, px1, nI_m]) (by
          rw [e89]
          refine Bs_skip B (fun a' ha u1 u2 => ⟨w1, fun b eb => ?_⟩)
          rw [eb] at w2
          have l1 := (nI_leI (bd b) (by omega)).mp w2
          have e1 : coC (prP (grR σ) (fun k => k) sr cp) (lnP ow np (fun k => k)) (upN a i x) (i + 1) = coC (prP (grR σ) (fun k => k) sr cp) (lnP ow np (fun k => k)) a' (i + 1) := co_cg _ (fun k hk => by
            rw [upN]
            by_cases u : k = i
            · rw [if_pos u, u, u2]
            · rw [if_neg u]
              exact (u1 k (by omega)).symm)
          have l2 := co_mono (pr := (prP (grR σ) (fun k => k) sr cp)) (ln := (lnP ow np (fun k => k))) (a := a') (i + 1) (m - (i + 1))
          rw [show i + 1 + (m - (i + 1)) = m by omega] at l2
          show coC (prP (grR σ) (fun k => k) sr cp) (lnP ow np (fun k => k)) b m ≤ coC (prP (grR σ) (fun k => k) sr cp) (lnP ow np (fun k => k)) a' m
          have l1 : coC (prP (grR σ) (fun k => k) sr cp) (lnP ow np (fun k => k)) b m ≤ _ := l1
          omega)
        refine ⟨g', σ', τ', l4', l5', l6', ?_, rest⟩
        rw [start, ← c]
        simp only [e_Md_layLeast_97, e_Md_layLeast_98, e_Md_layLeast_101, e_Md_layLeast_103, e_Md_layLeast_106, e_Md_layLeast_108, e_Md_layLeast_109, e_Md_layLeast_112, e_Md_layLeast_115, e_Md_layLeast_116, e_Md_layLeast_119, e_Md_layLeast_120, e_Md_layLeast_122, e_Md_layLeast_124, e_Md_layLeast_178, e_Md_layLeast_180, e_Md_layLeast_193, m_get, m_put, m_ia, m_is, m_la, m_ls, fl_sf, fl_sa, fl_sl, fl_sq, ar_sf, ar_sa, ar_sl, ar_sq, lr_sf, lr_sa, lr_sl, lr_sq, qr_sf, qr_sa, qr_sl, qr_sq, sf_1, sf_2, sa_1, sa_2, sl_1, sl_2, Option.isSome_some, Option.map_some, Option.map_none, Option.toList_some, Option.toList_none, List.nil_append, List.cons_append, List.singleton_append, if_true, if_false, ↓reduceIte, and_self, and_true, true_and, and_false, false_and, not_true, not_false_iff, reduceCtorEq, Nat.reduceEqDiff, Nat.reduceAdd, Nat.reduceSub, Nat.reduceMul, Nat.reduceLT, Nat.reduceLeDiff, Nat.reduceBEq, eq_self, ne_eq, Nat.add_eq_zero_iff, Nat.add_left_cancel_iff, Nat.add_right_cancel_iff, Nat.left_eq_add, Nat.add_eq_left, Bool.true_or, Bool.or_true, Bool.or_self, or_self, or_true, true_or, or_false, false_or, decide_true, decide_false, i_10, i_01, f31, w1, w2]
    · subst y0
      obtain ⟨g', σ', τ', l4', l5', l6', c, rest⟩ := ih g1 σ1 τg l4 l5 l6 ⟨G1, s1, ft⟩ pf1 (by rw [px1, nI_m]) (by
        rw [s89]
        refine Bs_skip B (fun a' ha u1 u2 => absurd ?_ yn)
        obtain ⟨v1, v2, v3⟩ := ha i hi
        rw [u2] at v2
        refine ⟨v2, fun k hk hd => v3 k hk hd.1 ?_⟩
        have := hd.2
        rw [pf1 k hk] at this
        rw [u1 k hk, u2]
        have b1 := (va k hk).1
        exact (nI_eq (by omega) (by omega)).mp this)
      refine ⟨g', σ', τ', l4', l5', l6', ?_, rest⟩
      rw [← c, e_Md_layLeast_31]
      simp only [e_Md_layLeast_32, e_Md_layLeast_35, e_Md_layLeast_36, e_Md_layLeast_39, e_Md_layLeast_42, e_Md_layLeast_43, e_Md_layLeast_46, e_Md_layLeast_47, e_Md_layLeast_48, e_Md_layLeast_49, e_Md_layLeast_50, e_Md_layLeast_51, e_Md_layLeast_52, e_Md_layLeast_53, e_Md_layLeast_56, e_Md_layLeast_57, e_Md_layLeast_58, e_Md_layLeast_59, e_Md_layLeast_62, m_get, m_put, m_ia, m_is, m_la, m_ls, fl_sf, fl_sa, fl_sl, fl_sq, ar_sf, ar_sa, ar_sl, ar_sq, lr_sf, lr_sa, lr_sl, lr_sq, qr_sf, qr_sa, qr_sl, qr_sq, sf_1, sf_2, sa_1, sa_2, sl_1, sl_2, Option.isSome_some, Option.map_some, Option.map_none, Option.toList_some, Option.toList_none, List.nil_append, List.cons_append, List.singleton_append, if_true, if_false, ↓reduceIte, and_self, and_true, true_and, and_false, false_and, not_true, not_false_iff, reduceCtorEq, Nat.reduceEqDiff, Nat.reduceAdd, Nat.reduceSub, Nat.reduceMul, Nat.reduceLT, Nat.reduceLeDiff, Nat.reduceBEq, eq_self, ne_eq, Nat.add_eq_zero_iff, Nat.add_left_cancel_iff, Nat.add_right_cancel_iff, Nat.left_eq_add, Nat.add_eq_left, Bool.true_or, Bool.or_true, Bool.or_self, or_self, or_true, true_or, or_false, false_or, decide_true, decide_false, i_10, i_01, q0, qm, f27, f28, r88, i9, ci, ex, pm, eg1, f28', r88', f14, f14', px1, ux, z]
      simp only [e_Md_layLeast_71, e_Md_layLeast_72, e_Md_layLeast_73, e_Md_layLeast_74, e_Md_layLeast_77, e_Md_layLeast_78, e_Md_layLeast_79, e_Md_layLeast_80, e_Md_layLeast_83, m_get, m_put, m_ia, m_is, m_la, m_ls, fl_sf, fl_sa, fl_sl, fl_sq, ar_sf, ar_sa, ar_sl, ar_sq, lr_sf, lr_sa, lr_sl, lr_sq, qr_sf, qr_sa, qr_sl, qr_sq, sf_1, sf_2, sa_1, sa_2, sl_1, sl_2, Option.isSome_some, Option.map_some, Option.map_none, Option.toList_some, Option.toList_none, List.nil_append, List.cons_append, List.singleton_append, if_true, if_false, ↓reduceIte, and_self, and_true, true_and, and_false, false_and, not_true, not_false_iff, reduceCtorEq, Nat.reduceEqDiff, Nat.reduceAdd, Nat.reduceSub, Nat.reduceMul, Nat.reduceLT, Nat.reduceLeDiff, Nat.reduceBEq, eq_self, ne_eq, Nat.add_eq_zero_iff, Nat.add_left_cancel_iff, Nat.add_right_cancel_iff, Nat.left_eq_add, Nat.add_eq_left, Bool.true_or, Bool.or_true, Bool.or_self, or_self, or_true, true_or, or_false, false_or, decide_true, decide_false, i_10, i_01, i9, ci, f28', r88', px1, cy']
theorem z_m1 : nI 0 + (-1) = -1 := by decide
theorem cM_dfs (Q : Mq σ τ t m od ow np) (hs : sr ≤ 2) (hcp : cp ≤ 9) (hg : ∀ j, j < t → ∃ g, g ≤ 9 ∧ σ 84 (5 + j) = nI g) : ∀ e i, i + e + 1 = m → ∀ a, VA t (okR (σ 82) (σ 80) (nI sr) ow np) (dd (σ 83) od) i a → ∀ g σg τg (l4 l5 l6 : Option Value), (Hp g σg τg v s q e1 e2 ∧ (∀ b, b ≠ 88 → b ≠ 89 → b ≠ 90 → σg b = σ b) ∧ (∀ a k, ¬ (a = 75 ∧ k = 31) → τg a k = τ a k)) → (∀ k, k < i → σg 88 k = nI (a k)) → σg 88 i = -1 → Bs t (okR (σ 82) (σ 80) (nI sr) ow np) (dd (σ 83) od) m (fun a => coC (prP (grR σ) (fun k => k) sr cp) (lnP ow np (fun k => k)) a m) (Sx a i 0) (τg 75 31) (σg 89) → ∃ g' σ' τ' l4' l5' l6', xR none 2 M_Md_layLeast 31 [some (.ref 75), some (.int (nI sr)), some (.int (nI cp)), some (.int (nI i)), l4, l5, l6] [] g = xR none 2 M_Md_layLeast 31 [some (.ref 75), some (.int (nI sr)), some (.int (nI cp)), some (.int (nI i + (-1))), l4', l5', l6'] [] g' ∧ (Hp g' σ' τ' v s q e1 e2 ∧ (∀ b, b ≠ 88 → b ≠ 89 → b ≠ 90 → σ' b = σ b) ∧ (∀ a k, ¬ (a = 75 ∧ k = 31) → τ' a k = τ a k)) ∧ (∀ k, k < i → σ' 88 k = nI (a k)) ∧ Bs t (okR (σ 82) (σ 80) (nI sr) ow np) (dd (σ 83) od) m (fun a => coC (prP (grR σ) (fun k => k) sr cp) (lnP ow np (fun k => k)) a m) (Sy a i) (τ' 75 31) (σ' 89)
  | 0, i, hi, a, va, g, σg, τg, l4, l5, l6, F, pf, ex, B => cM_dfs1 Q hs hcp hg (by omega) (fun h => absurd h (by omega)) va 0 (Nat.zero_le _) g σg τg l4 l5 l6 F pf (by rw [z_m1]; exact ex) B
  | e + 1, i, hi, a, va, g, σg, τg, l4, l5, l6, F, pf, ex, B => cM_dfs1 Q hs hcp hg (by omega) (fun _ a va g σg τg l4 l5 l6 F pf ex B => by
    have := cM_dfs Q hs hcp hg e (i + 1) (by omega) a va g σg τg l4 l5 l6 F pf ex B
    rw [nI_m] at this
    exact this) va 0 (Nat.zero_le _) g σg τg l4 l5 l6 F pf (by rw [z_m1]; exact ex) B
end LL
