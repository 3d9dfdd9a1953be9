/-! The planner's plan is the first of the cheapest. -/
def SFd (C : Nat) (ok ln : Nat → Nat → Bool) (ds : Nat → Nat) (d L : Nat) : Prop := ∃ a, DF C ok a (ds d) (ds (d + 1)) ∧ msk ln a (ds d) (ds (d + 1) - ds d) = L
def lxl (a b : Nat → Nat) (lo hi : Nat) : Prop := ∃ k, lo ≤ k ∧ k < hi ∧ (∀ j, lo ≤ j → j < k → a j = b j) ∧ a k < b k
def FF (C : Nat) (ok : Nat → Nat → Bool) (ds : Nat → Nat) (a : Nat → Nat) : Prop := ∀ e, e < 4 → DF C ok a (ds e) (ds (e + 1))
def Bst (C : Nat) (pr : Nat → Nat → Nat) (ok ln : Nat → Nat → Bool) (ds : Nat → Nat) (b : Nat → Nat) : Prop := FF C ok ds b ∧ ∀ a, FF C ok ds a → coC pr ln b (ds 4) ≤ coC pr ln a (ds 4) ∧ (coC pr ln a (ds 4) = coC pr ln b (ds 4) → ¬ lxl a b 0 (ds 4))
def PHy (C : Nat) (pr li : Nat → Nat → Nat) (lc : Nat → Nat) (ok ln : Nat → Nat → Bool) (ds : Nat → Nat) : Prop :=
  (C ≤ 6 ∧ ∀ c b, pr c b ≤ 100) ∧ (ds 0 = 0 ∧ ∀ d, d < 4 → ds d ≤ ds (d + 1)) ∧
  (∀ d, d < 4 → ∀ k, k < lc d → SFd C ok ln ds d (li d k)) ∧
  ∀ d, d < 4 → ∀ L, SFd C ok ln ds d L → ∃ k, k < lc d ∧ ∀ c, c < C → bi (li d k) c ≤ bi L c
def mks (ln : Nat → Nat → Bool) (ds : Nat → Nat) (a : Nat → Nat) (e : Nat) : Nat := msk ln a (ds e) (ds (e + 1) - ds e)
section PB
variable {C : Nat} {pr li : Nat → Nat → Nat} {lc : Nat → Nat} {ok ln : Nat → Nat → Bool} {ds : Nat → Nat}
theorem SF_lt (hm : ∀ d, d < 4 → ds d ≤ ds (d + 1)) {d L : Nat} (hd : d < 4) (h : SFd C ok ln ds d L) : L < 2 ^ C := by
  obtain ⟨a, h1, rfl⟩ := h
  have := hm d hd
  exact msk_lt _ (fun i h2 h3 => (h1 i h2 (by omega)).1)
theorem mks_SF {a : Nat → Nat} {e : Nat} (h : DF C ok a (ds e) (ds (e + 1))) : SFd C ok ln ds e (mks ln ds a e) := ⟨a, h, rfl⟩
theorem cnt_d1 (hm : ∀ d, d < 4 → ds d ≤ ds (d + 1)) {a : Nat → Nat} {d c : Nat} (hd : d < 4) (h : DF C ok a (ds d) (ds (d + 1))) : cnt ln a c (ds (d + 1)) = cnt ln a c (ds d) + bi (mks ln ds a d) c := by
  have e : ds (d + 1) = ds d + (ds (d + 1) - ds d) := by
    have := hm d hd
    omega
  rw [e] at h
  have := cnt_day (ln := ln) (c := c) _ h
  rw [← e] at this
  exact this
theorem cnt_all (hm : ∀ d, d < 4 → ds d ≤ ds (d + 1)) {a : Nat → Nat} {c : Nat} : ∀ r d, r + d = 4 → (∀ e, d ≤ e → e < 4 → DF C ok a (ds e) (ds (e + 1))) → cnt ln a c (ds 4) = cnt ln a c (ds d) + tt (mks ln ds a) r d c
  | 0, d, hd, _ => by
    have : d = 4 := by omega
    rw [this, tt]
    rfl
  | r + 1, d, hd, h => by
    have ih := cnt_all hm (c := c) r (d + 1) (by omega) (fun e h1 h2 => h e (by omega) h2)
    rw [ih, cnt_d1 (ln := ln) hm (by omega) (h d (Nat.le_refl _) (by omega)), tt]
    omega
theorem FF_lt (h0 : ds 0 = 0) {a : Nat → Nat} (h : FF C ok ds a) {k : Nat} (hk : k < ds 4) : a k < C := by
  by_cases w1 : k < ds 1
  · exact (h 0 (by omega) k (by omega) w1).1
  · by_cases w2 : k < ds 2
    · exact (h 1 (by omega) k (by omega) w2).1
    · by_cases w3 : k < ds 3
      · exact (h 2 (by omega) k (by omega) w3).1
      · exact (h 3 (by omega) k (by omega) hk).1
theorem co_all (h0 : ds 0 = 0) {a : Nat → Nat} (h : FF C ok ds a) : coC pr ln a (ds 4) = Ph C pr (fun c => cnt ln a c (ds 4)) := co_Ph _ (fun _ hk => FF_lt h0 h hk)
theorem M0 (H : PHy C pr li lc ok ln ds) {a : Nat → Nat} (h : FF C ok ds a) {d : Nat} (hd : d < 4) : 0 < lc d := by
  obtain ⟨k, hk, -⟩ := H.2.2.2 d hd _ (mks_SF (h d hd))
  omega
theorem Mtot (H : PHy C pr li lc ok ln ds) {a : Nat → Nat} (h : FF C ok ds a) {r d T : Nat} {n : Nat → Nat} (hd : r + d = 4) (hS : Sn C d T n) (hn : ∀ c, c < C → n c = cnt ln a c (ds d)) : cfT C pr li lc r d T + Ph C pr n ≤ coC pr ln a (ds 4) := by
  have := pl_A (pr := pr) (li := li) (lc := lc) (SF := SFd C ok ln ds) H.1.1 (fun d hd k hk => SF_lt H.2.1.2 hd (H.2.2.1 d hd k hk)) H.2.2.2 r d T n hd hS (mks ln ds a) (fun e h1 h2 => mks_SF (h e h2))
  rw [co_all H.2.1.1 h]
  refine Nat.le_trans this (Nat.le_of_eq (Ph_cg (fun c hc => ?_)))
  rw [cnt_all (ln := ln) H.2.1.2 r d hd (fun e h1 h2 => h e h2), hn c hc]
theorem M_ext : ∀ r d, r + d = 4 → (∀ d, d < 4 → ds d ≤ ds (d + 1)) → ∀ (a L : Nat → Nat), (∀ e, d ≤ e → e < 4 → SFd C ok ln ds e (L e)) → ∃ a', (∀ i, i < ds d → a' i = a i) ∧ ∀ e, d ≤ e → e < 4 → DF C ok a' (ds e) (ds (e + 1)) ∧ mks ln ds a' e = L e
  | 0, d, hd, _, a, L, _ => ⟨a, fun _ _ => rfl, fun e h1 h2 => by omega⟩
  | r + 1, d, hd, hm, a, L, h => by
    obtain ⟨α, hα, eα⟩ := h d (Nat.le_refl _) (by omega)
    obtain ⟨a', h1, h2⟩ := M_ext r (d + 1) (by omega) hm (fun i => if i < ds d then a i else α i) L (fun e h3 h4 => h e (by omega) h4)
    have h12 := hm d (by omega)
    have ag : ∀ i, ds d ≤ i → i < ds (d + 1) → a' i = α i := fun i h3 h4 => by rw [h1 i h4, if_neg (by omega)]
    refine ⟨a', fun i hi => by rw [h1 i (by omega), if_pos hi], fun e h3 h4 => ?_⟩
    by_cases w : e = d
    · subst w
      refine ⟨DF_cg hα ag, ?_⟩
      rw [← eα]
      exact msk_cg _ (fun i h5 h6 => ag i h5 (by omega))
    · exact h2 e (by omega) h4
theorem Mreach (H : PHy C pr li lc ok ln ds) (hpos : ∀ d, d < 4 → 0 < lc d) {a : Nat → Nat} {r d T : Nat} {n : Nat → Nat} (hd : r + d = 4) (hS : Sn C d T n) (hn : ∀ c, c < C → n c = cnt ln a c (ds d)) (ha : ∀ e, e < d → DF C ok a (ds e) (ds (e + 1))) : ∃ a', (∀ i, i < ds d → a' i = a i) ∧ FF C ok ds a' ∧ coC pr ln a' (ds 4) = cfT C pr li lc r d T + Ph C pr n := by
  have hm := H.2.1.2
  obtain ⟨L, hL, e⟩ := pl_B (pr := pr) (li := li) (lc := lc) (SF := SFd C ok ln ds) H.1.1 H.1.2 hpos (fun d hd k hk => SF_lt hm hd (H.2.2.1 d hd k hk)) H.2.2.1 r d T n hd hS
  obtain ⟨a', h1, h2⟩ := M_ext r d hd hm a L hL
  have mono : ∀ e d', d' ≤ 4 → e ≤ d' → ds e ≤ ds d' := by
    intro e d' h4 he
    induction d' with
    | zero =>
      have : e = 0 := by omega
      rw [this]
      exact Nat.le_refl _
    | succ d' ih =>
      by_cases w : e = d' + 1
      · rw [w]
        exact Nat.le_refl _
      · have := ih (by omega) (by omega)
        have := hm d' (by omega)
        omega
  have f : FF C ok ds a' := fun e he => by
    by_cases w : d ≤ e
    · exact (h2 e w he).1
    · have := mono (e + 1) d (by omega) (by omega)
      exact DF_cg (ha e (by omega)) (fun i h3 h4 => h1 i (by omega))
  refine ⟨a', h1, f, ?_⟩
  rw [e, co_all H.2.1.1 f]
  refine Ph_cg (fun c hc => ?_)
  rw [cnt_all (ln := ln) hm r d hd (fun e h3 h4 => f e h4), hn c hc, cnt_cg (ds d) h1, tt_cg r d c (L' := L) (fun e h3 h4 => (h2 e h3 (by omega)).2)]
theorem Sn0 : Sn C 0 0 (fun _ => 0) := fun _ => by
  have z : ∀ c, dg 0 c = 0 := fun c => by unfold dg; rw [Nat.zero_div]
  exact ⟨⟨Nat.pow_pos (by omega), fun c _ => by rw [z]; omega⟩, fun c _ => z c⟩
theorem Ph0 : Ph C pr (fun _ => 0) = 0 := sN_0 C
theorem M1 (H : PHy C pr li lc ok ln ds) {b : Nat → Nat} (hb : Bst C pr ok ln ds b) : coC pr ln b (ds 4) = cfT C pr li lc 4 0 0 := by
  have n0 : ∀ (a : Nat → Nat) c, c < C → (fun _ => 0) c = cnt ln a c (ds 0) := fun a c _ => by rw [H.2.1.1]; rfl
  have l1 := Mtot H hb.1 (r := 4) (d := 0) (T := 0) rfl Sn0 (n0 b)
  obtain ⟨a', -, f, e⟩ := Mreach H (fun d hd => M0 H hb.1 hd) (a := b) (r := 4) (d := 0) (T := 0) rfl Sn0 (n0 b) (fun e he => by omega)
  have l2 := (hb.2 a' f).1
  rw [Ph0] at l1 e
  omega
theorem M2 (H : PHy C pr li lc ok ln ds) {b : Nat → Nat} (hb : Bst C pr ok ln ds b) {r d T : Nat} {n : Nat → Nat} (hd : r + 1 + d = 4) (hS : Sn C d T n) (hn : ∀ c, c < C → n c = cnt ln b c (ds d)) (hc : cfT C pr li lc (r + 1) d T + Ph C pr n = coC pr ln b (ds 4)) : csT C pr (mks ln ds b d) T + cfT C pr li lc r (d + 1) (T + tlN (mks ln ds b d)) = cfT C pr li lc (r + 1) d T ∧ (Sn C (d + 1) (T + tlN (mks ln ds b d)) (fun c => n c + bi (mks ln ds b d) c) ∧ (∀ c, c < C → n c + bi (mks ln ds b d) c = cnt ln b c (ds (d + 1))) ∧ cfT C pr li lc r (d + 1) (T + tlN (mks ln ds b d)) + Ph C pr (fun c => n c + bi (mks ln ds b d) c) = coC pr ln b (ds 4)) ∧ ∀ α : Nat → Nat, DF C ok α (ds d) (ds (d + 1)) → csT C pr (mks ln ds α d) T + cfT C pr li lc r (d + 1) (T + tlN (mks ln ds α d)) = cfT C pr li lc (r + 1) d T → (∀ a, DF C ok a (ds d) (ds (d + 1)) → csT C pr (mks ln ds a d) T + cfT C pr li lc r (d + 1) (T + tlN (mks ln ds a d)) = cfT C pr li lc (r + 1) d T → ¬ lxl a α (ds d) (ds (d + 1))) → ∀ i, ds d ≤ i → i < ds (d + 1) → α i = b i := by
  have hm := H.2.1.2
  have hpos : ∀ d, d < 4 → 0 < lc d := fun d hd => M0 H hb.1 hd
  have db := hb.1 d (by omega)
  have hSb := Sn_step H.1.1 hS (by omega) (SF_lt (ln := ln) hm (by omega) (mks_SF db))
  have hnb : ∀ c, c < C → n c + bi (mks ln ds b d) c = cnt ln b c (ds (d + 1)) := fun c hc => by rw [cnt_d1 (ln := ln) hm (by omega) db, hn c hc]
  have pb := cs_Ph (C := C) (pr := pr) (L := mks ln ds b d) (hS (by omega)).2
  have l1 := Mtot H hb.1 (r := r) (d := d + 1) (by omega) hSb hnb
  obtain ⟨a1, g1, f1, e1⟩ := Mreach H hpos (a := b) (r := r) (d := d + 1) (by omega) hSb hnb (fun e he => hb.1 e (by omega))
  have l2 := (hb.2 a1 f1).1
  have q1 : csT C pr (mks ln ds b d) T + cfT C pr li lc r (d + 1) (T + tlN (mks ln ds b d)) = cfT C pr li lc (r + 1) d T := by omega
  refine ⟨q1, ⟨hSb, hnb, by omega⟩, fun α dα qα fα i hi1 hi2 => ?_⟩
  by_cases w : α i = b i
  · exact w
  exfalso
  obtain ⟨k, ⟨k1, k2, k3⟩, kl⟩ := pk_least (fun k => ds d ≤ k ∧ k < ds (d + 1) ∧ α k ≠ b k) ⟨i, hi1, hi2, w⟩
  have ag : ∀ j, ds d ≤ j → j < k → α j = b j := fun j h1 h2 => by
    by_cases y : α j = b j
    · exact y
    · exact absurd ⟨h1, by omega, y⟩ (kl j h2)
  rcases Nat.lt_or_ge (b k) (α k) with y | y
  · exact fα b db q1 ⟨k, k1, k2, fun j h1 h2 => (ag j h1 h2).symm, y⟩
  · have hSα := Sn_step H.1.1 hS (by omega) (SF_lt (ln := ln) hm (by omega) (mks_SF dα))
    have pα := cs_Ph (C := C) (pr := pr) (L := mks ln ds α d) (hS (by omega)).2
    have hm1 := hm d (by omega)
    have e0 : ∀ j, ds d ≤ j → j < ds (d + 1) → (fun i => if i < ds d then b i else α i) j = α j := fun j h1 h2 => if_neg (by omega)
    have mono : ∀ e, e < d → ds (e + 1) ≤ ds d := by
      intro e he
      have : ∀ j, e + 1 + j ≤ 4 → ds (e + 1) ≤ ds (e + 1 + j) := fun j => by
        induction j with
        | zero => exact fun _ => Nat.le_refl _
        | succ j ih =>
          intro h4
          have := ih (by omega)
          have := hm (e + 1 + j) (by omega)
          rw [← Nat.add_assoc]
          omega
      have := this (d - (e + 1)) (by omega)
      rw [show e + 1 + (d - (e + 1)) = d by omega] at this
      exact this
    have d0 : DF C ok (fun i => if i < ds d then b i else α i) (ds d) (ds (d + 1)) := DF_cg dα e0
    have me : mks ln ds (fun i => if i < ds d then b i else α i) d = mks ln ds α d := msk_cg _ (fun j h1 h2 => e0 j h1 (by omega))
    obtain ⟨a2, g2, f2, e2⟩ := Mreach H hpos (a := fun i => if i < ds d then b i else α i) (r := r) (d := d + 1) (by omega) hSα (fun c hc => by
      rw [cnt_d1 (ln := ln) hm (by omega) d0, me, hn c hc, cnt_cg (ds d) (fun i hi => if_pos hi)]) (fun e he => by
      by_cases z : e = d
      · rw [z]
        exact d0
      · have := mono e (by omega)
        exact DF_cg (hb.1 e (by omega)) (fun j h1 h2 => if_pos (by omega)))
    refine (hb.2 a2 f2).2 (by omega) ⟨k, Nat.zero_le _, ?_, fun j _ h2 => ?_, ?_⟩
    · have : ∀ j, d + 1 + j ≤ 4 → ds (d + 1) ≤ ds (d + 1 + j) := fun j => by
        induction j with
        | zero => exact fun _ => Nat.le_refl _
        | succ j ih =>
          intro h4
          have := ih (by omega)
          have := hm (d + 1 + j) (by omega)
          rw [← Nat.add_assoc]
          omega
      have := this r (by omega)
      rw [show d + 1 + r = 4 by omega] at this
      omega
    · rw [g2 j (by omega)]
      by_cases z : j < ds d
      · rw [if_pos z]
      · rw [if_neg z]
        exact ag j (by omega) h2
    · rw [g2 k k2, if_neg (by omega)]
      omega
end PB
