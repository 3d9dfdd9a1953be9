/-! The class's plans are the reference's rows. -/
def Tr (C t m : Nat) (ch ds : Nat → Nat) (okC okR' : Nat → Nat → Bool) (sm' : Nat → Nat → Prop) (prC prR' : Nat → Nat → Nat) (lnC lnR' : Nat → Nat → Bool) : Prop :=
  (∀ c, c < C → ch c < t) ∧ (∀ c c', c < c' → c' < C → ch c < ch c') ∧ (∀ i j, i < m → j < t → okR' i j = true → ∃ c, c < C ∧ ch c = j) ∧
  (∀ i c, i < m → c < C → okC i c = okR' i (ch c)) ∧ (ds 4 = m ∧ ds 0 = 0 ∧ ∀ d, d < 4 → ds d ≤ ds (d + 1)) ∧
  (∀ k i, k < m → i < m → (sm' k i ↔ ∃ e, e < 4 ∧ ds e ≤ k ∧ k < ds (e + 1) ∧ ds e ≤ i ∧ i < ds (e + 1))) ∧
  (∀ i, i < m → ∃ e, e < 4 ∧ ds e ≤ i ∧ i < ds (e + 1)) ∧
  (∀ c, c < C → ∀ b, prC c b = prR' (ch c) b) ∧ (∀ i c, i < m → c < C → lnC i c = lnR' i (ch c))
section TR
variable {C t m : Nat} {ch ds : Nat → Nat} {okC okR' : Nat → Nat → Bool} {sm' : Nat → Nat → Prop} {prC prR' : Nat → Nat → Nat} {lnC lnR' : Nat → Nat → Bool}
theorem Tr_inj (T : Tr C t m ch ds okC okR' sm' prC prR' lnC lnR') {c c' : Nat} (hc : c < C) (hc' : c' < C) (e : ch c = ch c') : c = c' := by
  rcases Nat.lt_trichotomy c c' with w | w | w
  · have := T.2.1 c c' w hc'
    omega
  · exact w
  · have := T.2.1 c' c w hc
    omega
theorem Tr_lt (T : Tr C t m ch ds okC okR' sm' prC prR' lnC lnR') {a : Nat → Nat} (f : FF C okC ds a) {i : Nat} (hi : i < m) : a i < C := FF_lt T.2.2.2.2.1.2.1 f (by rw [T.2.2.2.2.1.1]; exact hi)
theorem Tr_co (T : Tr C t m ch ds okC okR' sm' prC prR' lnC lnR') {a : Nat → Nat} (ha : ∀ i, i < m → a i < C) : ∀ k, k ≤ m → coC prC lnC a k = coC prR' lnR' (fun i => ch (a i)) k ∧ ∀ c, c < C → cnt lnC a c k = cnt lnR' (fun i => ch (a i)) (ch c) k
  | 0, _ => ⟨rfl, fun _ _ => rfl⟩
  | k + 1, hk => by
    obtain ⟨i1, i2⟩ := Tr_co T ha k (by omega)
    have ak := ha k (by omega)
    refine ⟨?_, fun c hc => ?_⟩
    · rw [coC, coC, i1, T.2.2.2.2.2.2.2.2 k (a k) (by omega) ak, T.2.2.2.2.2.2.2.1 (a k) ak, i2 (a k) ak]
    · rw [cnt, cnt, i2 c hc, T.2.2.2.2.2.2.2.2 k c (by omega) hc]
      by_cases w : a k = c
      · rw [w]
        by_cases u : lnR' k (ch c) = true
        · rw [if_pos ⟨rfl, u⟩, if_pos ⟨rfl, u⟩]
        · rw [if_neg (fun z => u z.2), if_neg (fun z => u z.2)]
      · rw [if_neg (fun z => w z.1), if_neg (fun z => w (Tr_inj T ak hc z.1))]
theorem Tr_lx (T : Tr C t m ch ds okC okR' sm' prC prR' lnC lnR') {a b : Nat → Nat} (ha : ∀ i, i < m → a i < C) (hb : ∀ i, i < m → b i < C) (h : lxl a b 0 m) : lxl (fun i => ch (a i)) (fun i => ch (b i)) 0 m := by
  obtain ⟨k, k1, k2, k3, k4⟩ := h
  exact ⟨k, k1, k2, fun j h1 h2 => by show ch (a j) = ch (b j); rw [k3 j h1 h2], T.2.1 _ _ k4 (hb k k2)⟩
theorem Tr_1 (T : Tr C t m ch ds okC okR' sm' prC prR' lnC lnR') {a : Nat → Nat} (f : FF C okC ds a) : VA t okR' sm' m (fun i => ch (a i)) := fun i hi => by
  have ai := Tr_lt T f hi
  obtain ⟨e, e4, e1, e2⟩ := T.2.2.2.2.2.2.1 i hi
  obtain ⟨x1, x2, x3⟩ := f e e4 i e1 e2
  refine ⟨T.1 _ ai, by rw [← T.2.2.2.1 i (a i) hi ai]; exact x2, fun k hk hs => ?_⟩
  obtain ⟨e', e4', y1, y2, y3, y4⟩ := (T.2.2.2.2.2.1 k i (by omega) hi).mp hs
  have ee : e = e' := by
    have hm := T.2.2.2.2.1.2.2
    rcases Nat.lt_trichotomy e e' with w | w | w
    · have := ds_le hm (show e + 1 ≤ e' by omega) (by omega)
      omega
    · exact w
    · have := ds_le hm (show e' + 1 ≤ e by omega) (by omega)
      omega
  subst ee
  exact fun u => x3 k y1 hk (Tr_inj T (Tr_lt T f (by omega)) ai u)
theorem Tr_2 (T : Tr C t m ch ds okC okR' sm' prC prR' lnC lnR') {a' : Nat → Nat} (va : VA t okR' sm' m a') : ∃ a, FF C okC ds a ∧ ∀ i, i < m → ch (a i) = a' i := by
  have ex : ∀ i, ∃ c, i < m → c < C ∧ ch c = a' i := fun i => by
    by_cases hi : i < m
    · obtain ⟨c, c1, c2⟩ := T.2.2.1 i (a' i) hi (va i hi).1 (va i hi).2.1
      exact ⟨c, fun _ => ⟨c1, c2⟩⟩
    · exact ⟨0, fun h => absurd h hi⟩
  obtain ⟨a, ha⟩ := Classical.axiomOfChoice ex
  refine ⟨a, fun e he i h1 h2 => ?_, fun i hi => (ha i hi).2⟩
  have hm := T.2.2.2.2.1.2.2
  have d4 := ds_le hm (show e + 1 ≤ 4 by omega) (Nat.le_refl _)
  rw [T.2.2.2.2.1.1] at d4
  have hi : i < m := by omega
  obtain ⟨x1, x2, x3⟩ := va i hi
  obtain ⟨y1, y2⟩ := ha i hi
  refine ⟨y1, by rw [T.2.2.2.1 i (a i) hi y1, y2]; exact x2, fun k h3 h4 u => ?_⟩
  refine x3 k h4 ((T.2.2.2.2.2.1 k i (by omega) hi).mpr ⟨e, he, h3, by omega, h1, h2⟩) ?_
  rw [← (ha k (by omega)).2, ← y2, u]
theorem Tr_Bst (T : Tr C t m ch ds okC okR' sm' prC prR' lnC lnR') {b' : Nat → Nat} (vb : VA t okR' sm' m b') (hb : ∀ a', VA t okR' sm' m a' → coC prR' lnR' b' m ≤ coC prR' lnR' a' m ∧ (coC prR' lnR' a' m = coC prR' lnR' b' m → ¬ lxl a' b' 0 m)) : ∃ b, Bst C prC okC lnC ds b ∧ (∀ i, i < m → ch (b i) = b' i) ∧ coC prC lnC b (ds 4) = coC prR' lnR' b' m := by
  obtain ⟨b, fb, eb⟩ := Tr_2 T vb
  have lb : ∀ i, i < m → b i < C := fun i hi => Tr_lt T fb hi
  have cb : coC prC lnC b m = coC prR' lnR' b' m := by
    rw [(Tr_co T lb m (Nat.le_refl _)).1]
    exact co_cg m (fun i hi => eb i hi)
  rw [T.2.2.2.2.1.1]
  refine ⟨b, ⟨fb, fun a fa => ?_⟩, eb, cb⟩
  rw [T.2.2.2.2.1.1]
  have la : ∀ i, i < m → a i < C := fun i hi => Tr_lt T fa hi
  have ca := (Tr_co T la m (Nat.le_refl _)).1
  obtain ⟨h1, h2⟩ := hb _ (Tr_1 T fa)
  rw [← ca, ← cb] at h1 h2
  refine ⟨h1, fun e hx => h2 e ?_⟩
  obtain ⟨k, k1, k2, k3, k4⟩ := Tr_lx T la lb hx
  exact ⟨k, k1, k2, fun j h3 h4 => by rw [← eb j (by omega)]; exact k3 j h3 h4, by rw [← eb k k2]; exact k4⟩
end TR
section TZ
variable {σ τ : Nat → Nat → Int32} {v p t n sr cp : Nat}
theorem rlV_VW (R : rlV p t n v σ τ) : VW σ τ v t n := by
  obtain ⟨⟨⟨vp, vt, vn⟩, p5, t6, n8⟩, ⟨vl, vc, vd, up, uu, un⟩, ⟨bl, bc⟩, ag1, ag2, ag3, bo, bn, ks, st⟩ := R
  refine ⟨⟨t6, uu⟩, ⟨n8, un⟩, fun j hj => ?_, fun k hk => ?_⟩
  · obtain ⟨x, x1, x2⟩ := (bo j hj).1
    exact ⟨x, by omega, by rw [(ag2 j hj).1]; exact x2⟩
  · obtain ⟨x, x1, x2⟩ := (bn k hk).1
    exact ⟨x, by omega, by rw [(ag3 k hk).1]; exact x2⟩
theorem rlV_VR (R : rlV p t n v σ τ) : VR σ τ p t n := by
  obtain ⟨⟨⟨vp, vt, vn⟩, p5, t6, n8⟩, ⟨vl, vc, vd, up, uu, un⟩, ⟨bl, bc⟩, ag1, ag2, ag3, bo, bn, ks, st⟩ := R
  exact ⟨p5, ⟨t6, vt⟩, ⟨n8, vn⟩, fun j hj => (bo j hj).1, fun k hk => (bn k hk).1, ks, fun j hj => (st j hj).1⟩
theorem od_eq (R : rlV p t n v σ τ) (x : Int32) : odW σ v n x = odR σ n x := by
  obtain ⟨⟨⟨vp, vt, vn⟩, p5, t6, n8⟩, ⟨vl, vc, vd, up, uu, un⟩, ⟨bl, bc⟩, ag1, ag2, ag3, bo, bn, ks, st⟩ := R
  funext d
  exact okD_cg d (fun e k _ hk => by
    obtain ⟨_, e1, e2⟩ := ag3 k hk
    show decide (σ (v + 9) k = x ∧ σ (v + 10) k = nI e) = decide (σ 83 (3 * k + 1) = x ∧ σ 83 (3 * k + 2) = nI e)
    rw [e1, e2])
theorem Tr_0 (R : rlV p t n v σ τ) : Tr (chW σ v t (nI sr)).1 t (odR σ n (nI sr) 4).1 (chW σ v t (nI sr)).2 (dsW σ v n (nI sr)) (okP (σ (v + 2)) (owW σ v) (npW σ v n (nI sr)) (chW σ v t (nI sr)).2) (okR (σ 82) (σ 80) (nI sr) (owR σ) (npR σ n (nI sr))) (dd (σ 83) (odR σ n (nI sr) 4).2) (prP (grW σ v) (chW σ v t (nI sr)).2 sr cp) (prP (grR σ) (fun k => k) sr cp) (lnP (owW σ v) (npW σ v n (nI sr)) (chW σ v t (nI sr)).2) (lnP (owR σ) (npR σ n (nI sr)) (fun k => k)) := by
  have eo := od_eq R (nI sr)
  have W := rlV_VR R
  obtain ⟨⟨⟨vp, vt, vn⟩, p5, t6, n8⟩, ⟨vl, vc, vd, up, uu, un⟩, ⟨bl, bc⟩, ag1, ag2, ag3, bo, bn, ks, st⟩ := R
  have hc : ∀ c, c < (chW σ v t (nI sr)).1 → (chW σ v t (nI sr)).2 c < t ∧ σ (v + 4) ((chW σ v t (nI sr)).2 c) = nI sr := fun c h => by
    obtain ⟨x1, x2⟩ := okK_new (Nat.zero_le _) t h
    exact ⟨x1, of_decide_eq_true x2⟩
  have od : ∀ i, i < (odR σ n (nI sr) 4).1 → (odR σ n (nI sr) 4).2 i < n := fun i hi => od_in n8 hi
  have enp : ∀ i, i < (odR σ n (nI sr) 4).1 → npW σ v n (nI sr) i = npR σ n (nI sr) i ∧ npR σ n (nI sr) i < p := fun i hi => by
    obtain ⟨x, x1, x2⟩ := (bn _ (od i hi)).1
    rw [Nat.add_zero] at x2
    unfold npW npR
    rw [eo, (ag3 _ (od i hi)).1, Nat.add_zero, x2, nI_clamp (by omega)]
    exact ⟨rfl, x1⟩
  have eow : ∀ c, c < (chW σ v t (nI sr)).1 → owW σ v ((chW σ v t (nI sr)).2 c) = owR σ ((chW σ v t (nI sr)).2 c) := fun c h => by
    unfold owW owR
    rw [(ag2 _ (hc c h).1).1]
  have egr : ∀ c, c < (chW σ v t (nI sr)).1 → grW σ v ((chW σ v t (nI sr)).2 c) = grR σ ((chW σ v t (nI sr)).2 c) := fun c h => by
    unfold grW grR
    rw [(ag2 _ (hc c h).1).2.2.1]
  have ds' : ∀ d, dsW σ v n (nI sr) d = (odR σ n (nI sr) d).1 := fun d => by rw [dsW, eo]
  have day : ∀ i e, e < 4 → (odR σ n (nI sr) e).1 ≤ i → i < (odR σ n (nI sr) (e + 1)).1 → σ 83 (3 * (odR σ n (nI sr) 4).2 i + 2) = nI e := fun i e he h1 h2 => (of_decide_eq_true (okD_day he h1 h2).2).2
  refine ⟨fun c h => (hc c h).1, fun c c' h1 h2 => okK_inc (Nat.zero_le _) h1 t h2, fun i j hi hj ho => ?_, fun i c hi h => ?_, ⟨ds' 4, rfl, fun d _ => okD_1 d⟩, fun k i hk hi => ?_, fun i hi => ?_, fun c h b => ?_, fun i c hi h => ?_⟩
  · have ho := ((Bool.and_eq_true _ _).mp ho).1
    obtain ⟨c, _, c1, c2⟩ := okK_sur (P := fun j => decide (σ (v + 4) j = nI sr)) (c0 := 0) (o0 := fun _ => 0) (j := j) (by
      show decide (σ (v + 4) j = nI sr) = true
      rw [(ag2 j hj).2.1]
      exact ho) t hj
    exact ⟨c, c1, c2⟩
  · obtain ⟨x1, x2⟩ := hc c h
    rw [(ag2 _ x1).2.1] at x2
    unfold okR okP
    rw [decide_eq_true x2, Bool.true_and, eow c h, (enp i hi).1, (ag1 _ (enp i hi).2).2]
  · unfold dd
    constructor
    · intro hd
      obtain ⟨e, e4, y1, y2⟩ := okD_fd 4 hk
      obtain ⟨e', e4', y3, y4⟩ := okD_fd 4 hi
      rw [day k e e4 y1 y2, day i e' e4' y3 y4] at hd
      have := (nI_eq (by omega) (by omega)).mp hd
      subst this
      exact ⟨e, e4, by rw [ds']; exact y1, by rw [ds']; exact y2, by rw [ds']; exact y3, by rw [ds']; exact y4⟩
    · rintro ⟨e, e4, y1, y2, y3, y4⟩
      rw [ds'] at y1 y2 y3 y4
      rw [day k e e4 y1 y2, day i e e4 y3 y4]
  · obtain ⟨e, e4, y1, y2⟩ := okD_fd 4 hi
    exact ⟨e, e4, by rw [ds']; exact y1, by rw [ds']; exact y2⟩
  · unfold prP
    rw [egr c h]
  · unfold lnP
    rw [eow c h, (enp i hi).1]
end TZ
