/-! Both readers side by side. -/
theorem who_congr {p : Nat} {kn rk : Nat → Int32} : ∀ m, (∀ i, i < m → rk i = kn i) → who p rk m = who p kn m
  | 0, _ => rfl
  | m + 1, hh => by
    rw [who, who, who_congr m (fun i hi => hh i (by omega))]
    unfold stg
    rw [hh m (by omega)]
theorem fdy_congr {np ns nd np' ns' nd' : Nat → Int32} {x y : Int32} : ∀ m, (∀ k, k < m → np' k = np k ∧ ns' k = ns k ∧ nd' k = nd k) → fdy np' ns' nd' x y m = fdy np ns nd x y m
  | 0, _ => rfl
  | m + 1, hh => by
    obtain ⟨h1, h2, h3⟩ := hh m (by omega)
    rw [fdy, fdy, fdy_congr m (fun i hi => hh i (by omega)), h1, h2, h3]
theorem srt_congr {np ns nd np' ns' nd' : Nat → Int32} {x : Int32} {k : Nat} (hh : ∀ j, j < k → np' j = np j ∧ ns' j = ns j ∧ nd' j = nd j) : ∀ m, srt np' ns' nd' x k m = srt np ns nd x k m
  | 0 => rfl
  | m + 1 => by rw [srt, srt, srt_congr hh m, fdy_congr k hh]
/-- days still free, counted -/
def pc4 (x : Int32) : Nat := (if bt x 0 = true then 1 else 0) + (if bt x 1 = true then 1 else 0) + (if bt x 2 = true then 1 else 0) + (if bt x 3 = true then 1 else 0)
theorem pc4_clr (x : Int32) {d : Nat} (hd : d < 4) : pc4 x ≤ pc4 (x &&& (((1 : Int32) <<< (nI d &&& 31)) ^^^ (-1))) + 1 := by
  have key : ∀ i, i < 4 → bt (x &&& (((1 : Int32) <<< (nI d &&& 31)) ^^^ (-1))) i = (bt x i && !decide (i = d)) := by
    intro i hi
    rw [b_and, b_xor, b_pw (by omega) (by omega), b_m1 i (by omega)]
    cases decide (i = d) <;> simp
  unfold pc4
  rw [key 0 (by omega), key 1 (by omega), key 2 (by omega), key 3 (by omega)]
  rcases (show d = 0 ∨ d = 1 ∨ d = 2 ∨ d = 3 by omega) with rfl | rfl | rfl | rfl <;> cases bt x 0 <;> cases bt x 1 <;> cases bt x 2 <;> cases bt x 3 <;> decide
theorem fdy_count {np ns nd : Nat → Int32} {x : Int32} : ∀ m, (∀ k, k < m → ∃ d, d < 4 ∧ nd k = nI d) → 12 ≤ pc4 (fdy np ns nd x (nI 0) m) + pc4 (fdy np ns nd x (nI 1) m) + pc4 (fdy np ns nd x (nI 2) m) + m
  | 0, _ => by
    have : pc4 15 = 4 := by decide +kernel
    simp only [fdy, this]
    omega
  | m + 1, hh => by
    have ih := fdy_count (np := np) (ns := ns) (x := x) m (fun k hk => hh k (by omega))
    obtain ⟨d, hd, e⟩ := hh m (by omega)
    simp only [fdy, e]
    have c0 := pc4_clr (fdy np ns nd x (nI 0) m) hd
    have c1 := pc4_clr (fdy np ns nd x (nI 1) m) hd
    have c2 := pc4_clr (fdy np ns nd x (nI 2) m) hd
    have n01 : ¬ nI 0 = nI 1 := by decide
    have n02 : ¬ nI 0 = nI 2 := by decide
    have n12 : ¬ nI 1 = nI 2 := by decide
    by_cases q0 : np m = x
    · by_cases q1 : ns m = nI 0
      · have q2 : ¬ ns m = nI 1 := fun z => n01 (q1.symm.trans z)
        have q3 : ¬ ns m = nI 2 := fun z => n02 (q1.symm.trans z)
        simp only [q0, q1, n01, n02, and_self, and_false, if_true, if_false, Int32.and_neg_one]
        omega
      · by_cases q2 : ns m = nI 1
        · have q3 : ¬ ns m = nI 2 := fun z => n12 (q2.symm.trans z)
          simp only [q0, q2, n12, fun z : nI 1 = nI 0 => n01 z.symm, and_self, and_false, if_true, if_false, Int32.and_neg_one, show ¬ nI 1 = nI 0 from fun z => n01 z.symm]
          omega
        · simp only [q0, q1, q2, and_false, if_false, Int32.and_neg_one]
          split
          · omega
          · rw [Int32.and_neg_one]
            omega
    · simp only [q0, false_and, if_false, Int32.and_neg_one]
      omega
theorem srt_ne {np ns nd : Nat → Int32} {x : Int32} {m : Nat} (hm : m < 8) (hh : ∀ k, k < m → ∃ d, d < 4 ∧ nd k = nI d) : ¬ srt np ns nd x m 3 = 0 := by
  intro hz
  have hc := fdy_count (np := np) (ns := ns) (x := x) m hh
  have p0 : pc4 0 = 0 := by decide +kernel
  simp only [srt] at hz
  by_cases q0 : fdy np ns nd x (nI 0) m = 0
  · by_cases q1 : fdy np ns nd x (nI 1) m = 0
    · by_cases q2 : fdy np ns nd x (nI 2) m = 0
      · rw [q0, q1, q2, p0] at hc
        omega
      · simp only [q0, q1, q2, if_true, if_false] at hz
        exact absurd hz (by decide)
    · by_cases q2 : fdy np ns nd x (nI 2) m = 0
      · simp only [q0, q1, q2, if_true, if_false] at hz
        exact absurd hz (by decide)
      · simp only [q0, q1, q2, if_true, if_false] at hz
        exact absurd hz (by decide)
  · by_cases q1 : fdy np ns nd x (nI 1) m = 0
    · by_cases q2 : fdy np ns nd x (nI 2) m = 0
      · simp only [q0, q1, q2, if_true, if_false] at hz
        exact absurd hz (by decide)
      · simp only [q0, q1, q2, if_true, if_false] at hz
        exact absurd hz (by decide)
    · by_cases q2 : fdy np ns nd x (nI 2) m = 0
      · simp only [q0, q1, q2, if_true, if_false] at hz
        exact absurd hz (by decide)
      · simp only [q0, q1, q2, if_true, if_false] at hz
        exact absurd hz (by decide)
def orp : Nat → Int32
  | 0 => 0
  | i + 1 => orp i ||| ((1 : Int32) <<< (nI i &&& 31))
theorem orp_evb : ∀ p, p ≤ 5 → orp p = evb p := by decide +kernel
theorem sme_evb {rn : Nat → Int32} {n : Nat} (hn : n < 8) (hh : ∀ k, k < n → ∃ d, d < 4 ∧ rn (3 * k + 2) = nI d) {p : Nat} (hp : p ≤ 5) : sme rn n p = evb p := by
  rw [← orp_evb p hp]
  clear hp
  induction p with
  | zero => rfl
  | succ p ih => rw [sme, orp, ih, if_neg (srt_ne (np := r3 rn 0) (ns := r3 rn 1) (nd := r3 rn 2) (x := nI p) hn hh)]
theorem gmk_eq : ∀ c, c ≤ 9 → gmk2 (nI c) = gmk (nI c) := by decide +kernel
/-- knowing is mutual, and only of people that are there -/
def KS (p : Nat) (kn : Nat → Int32) : Prop := ∀ i j, i < p → j < 32 → bt (kn i) j = true → j < p ∧ bt (kn j) i = true
/-- the two drafts say the same -/
def RP (la ca : Int32) (p t n : Nat) (co kn ow so gr ho ou np ns nd : Nat → Int32) (ru hi : Int32) (rc rk rt rn : Nat → Int32) : Prop :=
  (p ≤ 5 ∧ t ≤ 6 ∧ n ≤ 8) ∧ (ru = la ∧ hi = ca ∧ (∃ l, l ≤ 3 ∧ la = nI l) ∧ (∃ c, 1 ≤ c ∧ c ≤ 9 ∧ ca = nI c)) ∧
  (∀ i, i < p → rc i = co i ∧ rk i = kn i) ∧
  (∀ j, j < t → (rt (3 * j + 0) = ow j ∧ rt (3 * j + 1) = so j ∧ rt (3 * j + 2) = gr j) ∧ (∃ x, x < p ∧ ow j = nI x) ∧ (∃ s, s < 3 ∧ so j = nI s) ∧ (∃ g, g ≤ 9 ∧ gr j = nI g) ∧ ho j = ow j ∧ ou j = 0) ∧
  (∀ k, k < n → (rn (3 * k + 0) = np k ∧ rn (3 * k + 1) = ns k ∧ rn (3 * k + 2) = nd k) ∧ (∃ x, x < p ∧ np k = nI x) ∧ (∃ s, s < 3 ∧ ns k = nI s) ∧ (∃ d, d < 4 ∧ nd k = nI d)) ∧ KS p kn
section PB
variable {v len a : Nat} {tx : Nat → Int32} {la ca da : Int32} {p t n : Nat} {co kn ow so gr ho ou np ns nd : Nat → Int32}
variable {p1 t1 n1 : Nat} {co1 kn1 ow1 so1 gr1 ho1 ou1 np1 ns1 nd1 : Nat → Int32}
variable {p2 t2 n2 : Nat} {co2 kn2' ow2 so2 gr2 ho2 ou2 np2 ns2 nd2 : Nat → Int32}
variable {ru hi : Int32} {rc rk rt rn rc1 rk1 rt1 rn1 rc2 rk2 rt2 rn2 : Nat → Int32} {r : Int32}
/-- the class's loop from a on gives r, and the draft behind it -/
def PC (v len : Nat) (tx : Nat → Int32) (la ca da r : Int32) (a p t n : Nat) (co kn ow so gr ho ou np ns nd : Nat → Int32) (p2 t2 n2 : Nat) (co2 kn2' ow2 so2 gr2 ho2 ou2 np2 ns2 nd2 : Nat → Int32) : Prop := ∀ (h : xH) (x3 : Int32) (m : Nat), m ≤ a → Rdr h v len a 0 tx → Vil h v la ca da (nI p) (nI t) (nI n) co kn ow so gr ho ou np ns nd → ∃ h', xR none 5 M_Reader_readInto 44 [some (.ref 3), some (.ref v), some (.ref 2), some (.int x3), some (.int (nI m))] [] h = some (some (.int r), h') ∧ Vil h' v la ca da (nI p2) (nI t2) (nI n2) co2 kn2' ow2 so2 gr2 ho2 ou2 np2 ns2 nd2 ∧ (∃ (a' : Nat) (s' : Int32), Rdr h' v len a' s' tx) ∧ fr (PP v) h h'
/-- the reference's loop -/
def PM (len : Nat) (tx : Nat → Int32) (ru hi r : Int32) (a p t n : Nat) (rc rk rt rn : Nat → Int32) (p2 t2 n2 : Nat) (rc2 rk2 rt2 rn2 : Nat → Int32) : Prop := ∀ (h : xH), Mrd h len a (-9) (nI p) (nI t) (nI n) ru hi rc rk rt rn tx → ∃ h', xR none 4 M_Md_readText 72 [some (.ref 75)] [] h = some (some (.int r), h') ∧ (∃ (a' : Nat) (f' pe th ne ru' hi' : Int32) (q1 q2 q3 q4 : Nat → Int32), Mrd h' len a' f' pe th ne ru' hi' q1 q2 q3 q4 tx) ∧ (r = -9 → ∃ a' f', Mrd h' len a' f' (nI p2) (nI t2) (nI n2) ru hi rc2 rk2 rt2 rn2 tx) ∧ frM KR PR h h'
theorem PC_step {a1 : Nat} (hl : len ≤ 90) (ha : a < len) (h1 : a < a1) (hs : ∀ h, Rdr h v len a 0 tx → Vil h v la ca da (nI p) (nI t) (nI n) co kn ow so gr ho ou np ns nd → ∃ h', xC M_Reader_readPart [.ref 3] h = some (none, h') ∧ Rdr h' v len a1 0 tx ∧ Vil h' v la ca da (nI p1) (nI t1) (nI n1) co1 kn1 ow1 so1 gr1 ho1 ou1 np1 ns1 nd1 ∧ fr (PP v) h h') (hn : PC v len tx la ca da r a1 p1 t1 n1 co1 kn1 ow1 so1 gr1 ho1 ou1 np1 ns1 nd1 p2 t2 n2 co2 kn2' ow2 so2 gr2 ho2 ou2 np2 ns2 nd2) : PC v len tx la ca da r a p t n co kn ow so gr ho ou np ns nd p2 t2 n2 co2 kn2' ow2 so2 gr2 ho2 ou2 np2 ns2 nd2 := by
  intro h x3 m hm hR hV
  obtain ⟨h', d, R1, V1, f1⟩ := hs h hR hV
  obtain ⟨h2, e2, V2, R2, f2⟩ := hn h' x3 (m + 1) (by omega) R1 V1
  exact ⟨h2, by rw [rl_step hR ha (by omega) hl d]; exact e2, V2, R2, fr_trans f1 f2⟩
theorem PC_fail {e : Nat} (hl : len ≤ 90) (ha : a < len) (hs : ∀ h, Rdr h v len a 0 tx → Vil h v la ca da (nI p) (nI t) (nI n) co kn ow so gr ho ou np ns nd → ∃ h', xC M_Reader_readPart [.ref 3] h = some (none, h') ∧ Fl h h' v len e tx la ca da p t n co kn ow so gr ho ou np ns nd) : PC v len tx la ca da (nI e) a p t n co kn ow so gr ho ou np ns nd p t n co kn ow so gr ho ou np ns nd := by
  intro h x3 m hm hR hV
  obtain ⟨h', d, R1, V1, f1⟩ := hs h hR hV
  exact ⟨h', by rw [rl_step hR ha (by omega) hl d]; exact rl_stop R1, V1, ⟨_, _, R1⟩, f1⟩
theorem PC_end (ha : len ≤ a) (ha2 : a ≤ 90) : PC v len tx la ca da (-9) a p t n co kn ow so gr ho ou np ns nd p t n co kn ow so gr ho ou np ns nd := fun h x3 m _ hR hV => ⟨h, rl_end hR ha ha2, hV, ⟨_, _, hR⟩, fr_refl _ _⟩
theorem PM_step {a1 : Nat} (hl : len ≤ 90) (ha : a < len) (hs : ∀ h, Mrd h len a (-9) (nI p) (nI t) (nI n) ru hi rc rk rt rn tx → ∃ h', xC M_Md_readPart [.ref 75, .int (tx a)] h = some (none, h') ∧ Mrd h' len a1 (-9) (nI p1) (nI t1) (nI n1) ru hi rc1 rk1 rt1 rn1 tx ∧ frM KR PR h h') (hn : PM len tx ru hi r a1 p1 t1 n1 rc1 rk1 rt1 rn1 p2 t2 n2 rc2 rk2 rt2 rn2) : PM len tx ru hi r a p t n rc rk rt rn p2 t2 n2 rc2 rk2 rt2 rn2 := by
  intro h hM
  obtain ⟨h', d, M1, f1⟩ := hs h hM
  obtain ⟨h2, e2, M2, M3, f2⟩ := hn h' M1
  exact ⟨h2, by rw [ml_step hM ha hl d]; exact e2, M2, M3, frM_trans f1 f2⟩
theorem PM_fail {e : Nat} (he : e ≤ 100) (hl : len ≤ 90) (ha : a < len) (hs : ∀ h, Mrd h len a (-9) (nI p) (nI t) (nI n) ru hi rc rk rt rn tx → ∃ h', xC M_Md_readPart [.ref 75, .int (tx a)] h = some (none, h') ∧ MFl h h' len e tx) : PM len tx ru hi (nI e) a p t n rc rk rt rn p t n rc rk rt rn := by
  intro h hM
  obtain ⟨h', d, pe, th, ne, ru', hi', q1, q2, q3, q4, M1, f1⟩ := hs h hM
  exact ⟨h', by rw [ml_step hM ha hl d]; exact ml_stop he M1, ⟨_, _, _, _, _, _, _, _, _, _, _, M1⟩, fun z => absurd z (n9 e he), f1⟩
theorem PM_end (ha : len ≤ a) (ha2 : a ≤ 90) : PM len tx ru hi (-9) a p t n rc rk rt rn p t n rc rk rt rn := fun h hM => ⟨h, ml_end ha ha2 hM, ⟨_, _, _, _, _, _, _, _, _, _, _, hM⟩, fun _ => ⟨_, _, hM⟩, frM_refl _ _ _⟩
/-- what both come to -/
def PB (v len : Nat) (tx : Nat → Int32) (la ca da ru hi : Int32) (a p t n : Nat) (co kn ow so gr ho ou np ns nd rc rk rt rn : Nat → Int32) : Prop :=
  ∃ (r : Int32) (p2 t2 n2 : Nat) (co2 kn2' ow2 so2 gr2 ho2 ou2 np2 ns2 nd2 rc2 rk2 rt2 rn2 : Nat → Int32), PC v len tx la ca da r a p t n co kn ow so gr ho ou np ns nd p2 t2 n2 co2 kn2' ow2 so2 gr2 ho2 ou2 np2 ns2 nd2 ∧ PM len tx ru hi r a p t n rc rk rt rn p2 t2 n2 rc2 rk2 rt2 rn2 ∧ (r = -9 → RP la ca p2 t2 n2 co2 kn2' ow2 so2 gr2 ho2 ou2 np2 ns2 nd2 ru hi rc2 rk2 rt2 rn2)
theorem PB_step {a1 : Nat} (hl : len ≤ 90) (ha : a < len) (h1 : a < a1) (hs : ∀ h, Rdr h v len a 0 tx → Vil h v la ca da (nI p) (nI t) (nI n) co kn ow so gr ho ou np ns nd → ∃ h', xC M_Reader_readPart [.ref 3] h = some (none, h') ∧ Rdr h' v len a1 0 tx ∧ Vil h' v la ca da (nI p1) (nI t1) (nI n1) co1 kn1 ow1 so1 gr1 ho1 ou1 np1 ns1 nd1 ∧ fr (PP v) h h') (hm : ∀ h, Mrd h len a (-9) (nI p) (nI t) (nI n) ru hi rc rk rt rn tx → ∃ h', xC M_Md_readPart [.ref 75, .int (tx a)] h = some (none, h') ∧ Mrd h' len a1 (-9) (nI p1) (nI t1) (nI n1) ru hi rc1 rk1 rt1 rn1 tx ∧ frM KR PR h h') (hn : PB v len tx la ca da ru hi a1 p1 t1 n1 co1 kn1 ow1 so1 gr1 ho1 ou1 np1 ns1 nd1 rc1 rk1 rt1 rn1) : PB v len tx la ca da ru hi a p t n co kn ow so gr ho ou np ns nd rc rk rt rn := by
  obtain ⟨r, p2, t2, n2, co2, kn2', ow2, so2, gr2, ho2, ou2, np2, ns2, nd2, rc2, rk2, rt2, rn2, c1, c2, c3⟩ := hn
  exact ⟨r, p2, t2, n2, co2, kn2', ow2, so2, gr2, ho2, ou2, np2, ns2, nd2, rc2, rk2, rt2, rn2, PC_step hl ha h1 hs c1, PM_step hl ha hm c2, c3⟩
theorem PB_fail {e : Nat} (he : e ≤ 100) (hl : len ≤ 90) (ha : a < len) (hs : ∀ h, Rdr h v len a 0 tx → Vil h v la ca da (nI p) (nI t) (nI n) co kn ow so gr ho ou np ns nd → ∃ h', xC M_Reader_readPart [.ref 3] h = some (none, h') ∧ Fl h h' v len e tx la ca da p t n co kn ow so gr ho ou np ns nd) (hm : ∀ h, Mrd h len a (-9) (nI p) (nI t) (nI n) ru hi rc rk rt rn tx → ∃ h', xC M_Md_readPart [.ref 75, .int (tx a)] h = some (none, h') ∧ MFl h h' len e tx) : PB v len tx la ca da ru hi a p t n co kn ow so gr ho ou np ns nd rc rk rt rn :=
  ⟨nI e, _, _, _, _, _, _, _, _, _, _, _, _, _, _, _, _, _, PC_fail hl ha hs, PM_fail he hl ha hm, fun z => absurd z (n9 e he)⟩
end PB
