section PB2
variable {v len : Nat} {tx : Nat → Int32} {la ca da : Int32} {ru hi : Int32}
theorem up_lt {f : Nat → Int32} {k i : Nat} {x : Int32} (h : i ≠ k) : upd f k x i = f i := by simp [upd, h]
theorem up_eq {f : Nat → Int32} {k : Nat} {x : Int32} : upd f k x k = x := by simp [upd]
theorem up3_lt {f : Nat → Int32} {k j : Nat} {x y z : Int32} (hj : j < k) : up3 f k x y z (3 * j + 0) = f (3 * j + 0) ∧ up3 f k x y z (3 * j + 1) = f (3 * j + 1) ∧ up3 f k x y z (3 * j + 2) = f (3 * j + 2) := by
  unfold up3
  refine ⟨?_, ?_, ?_⟩ <;> rw [up_lt (by omega), up_lt (by omega), up_lt (by omega)]
theorem up3_eq {f : Nat → Int32} {k : Nat} {x y z : Int32} : up3 f k x y z (3 * k + 0) = x ∧ up3 f k x y z (3 * k + 1) = y ∧ up3 f k x y z (3 * k + 2) = z := by
  unfold up3
  refine ⟨?_, ?_, ?_⟩
  · rw [up_lt (by omega), up_lt (by omega), up_eq]
  · rw [up_lt (by omega), up_eq]
  · rw [up_eq]
theorem KS_P {p : Nat} {kn : Nat → Int32} (hs : KS p kn) : KS (p + 1) (upd kn p 0) := by
  intro i j hi hj hb
  by_cases q : i = p
  · subst q
    rw [up_eq, b_0] at hb
    cases hb
  · rw [up_lt q] at hb
    obtain ⟨z1, z2⟩ := hs i j (by omega) hj hb
    exact ⟨by omega, by rw [up_lt (by omega)]; exact z2⟩
theorem kn2_bit {kn : Nat → Int32} {x y i j : Nat} (hx : x < 32) (hy : y < 32) (hj : j < 32) : bt (kn2 kn x y i) j = (bt (kn i) j || (decide (i = x ∧ j = y) || decide (i = y ∧ j = x))) := by
  unfold kn2
  by_cases q1 : i = y
  · subst q1
    rw [up_eq, b_or, b_pw hx hj]
    by_cases q2 : i = x
    · subst q2
      rw [up_eq, b_or, b_pw hx hj]
      by_cases q3 : j = i <;> simp [q3]
    · rw [up_lt q2]
      simp [q2]
  · rw [up_lt q1]
    by_cases q2 : i = x
    · subst q2
      rw [up_eq, b_or, b_pw hy hj]
      simp [q1]
    · rw [up_lt q2]
      simp [q1, q2]
theorem KS_K {p x y : Nat} {kn : Nat → Int32} (hx : x < p) (hy : y < p) (hp : p ≤ 5) (hs : KS p kn) : KS p (kn2 kn x y) := by
  intro i j hi hj hb
  rw [kn2_bit (by omega) (by omega) hj] at hb
  rw [kn2_bit (by omega) (by omega) (by omega)]
  rcases (Bool.or_eq_true _ _).mp hb with h | h
  · obtain ⟨z1, z2⟩ := hs i j hi hj h
    exact ⟨z1, by rw [z2]; rfl⟩
  · rcases (Bool.or_eq_true _ _).mp h with h | h
    · obtain ⟨z1, z2⟩ := of_decide_eq_true h
      exact ⟨by omega, by simp [z1, z2]⟩
    · obtain ⟨z1, z2⟩ := of_decide_eq_true h
      exact ⟨by omega, by simp [z1, z2]⟩
theorem RP_P {p t n : Nat} {co kn ow so gr ho ou np ns nd rc rk rt rn : Nat → Int32} (hp : p < 5) (hr : RP la ca p t n co kn ow so gr ho ou np ns nd ru hi rc rk rt rn) (x : Int32) : RP la ca (p + 1) t n (upd co p x) (upd kn p 0) ow so gr ho ou np ns nd ru hi (upd rc p x) (upd rk p 0) rt rn := by
  obtain ⟨⟨b1, b2, b3⟩, b4, b5, b6, b7, b8⟩ := hr
  refine ⟨⟨by omega, b2, b3⟩, b4, fun i hi => ?_, fun j hj => ?_, fun k hk => ?_, KS_P b8⟩
  · by_cases q : i = p
    · subst q
      exact ⟨by rw [up_eq, up_eq], by rw [up_eq, up_eq]⟩
    · rw [up_lt q, up_lt q, up_lt q, up_lt q]
      exact b5 i (by omega)
  · obtain ⟨c1, ⟨x, hx, ex⟩, c3⟩ := b6 j hj
    exact ⟨c1, ⟨x, by omega, ex⟩, c3⟩
  · obtain ⟨c1, ⟨x, hx, ex⟩, c3⟩ := b7 k hk
    exact ⟨c1, ⟨x, by omega, ex⟩, c3⟩
theorem RP_K {p t n : Nat} {co kn ow so gr ho ou np ns nd rc rk rt rn : Nat → Int32} {x y : Nat} (hx : x < p) (hy : y < p) (hr : RP la ca p t n co kn ow so gr ho ou np ns nd ru hi rc rk rt rn) : RP la ca p t n co (kn2 kn x y) ow so gr ho ou np ns nd ru hi rc (kn2 rk x y) rt rn := by
  obtain ⟨b0, b4, b5, b6, b7, b8⟩ := hr
  refine ⟨b0, b4, fun i hi => ⟨(b5 i hi).1, ?_⟩, b6, b7, KS_K hx hy (by omega) b8⟩
  unfold kn2
  have ex := (b5 x hx).2
  have ey := (b5 y hy).2
  have ei := (b5 i hi).2
  unfold upd
  simp only [ex, ey, ei]
theorem RP_T {p t n : Nat} {co kn ow so gr ho ou np ns nd rc rk rt rn : Nat → Int32} (ht : t < 6) {x s g : Nat} (hx : x < p) (hs : s < 3) (hg : g ≤ 9) (hr : RP la ca p t n co kn ow so gr ho ou np ns nd ru hi rc rk rt rn) : RP la ca p (t + 1) n co kn (upd ow t (nI x)) (upd so t (nI s)) (upd gr t (nI g)) (upd ho t (nI x)) (upd ou t 0) np ns nd ru hi rc rk (up3 rt t (nI x) (nI s) (nI g)) rn := by
  obtain ⟨⟨b1, b2, b3⟩, b4, b5, b6, b7, b8⟩ := hr
  refine ⟨⟨b1, by omega, b3⟩, b4, b5, fun j hj => ?_, b7, b8⟩
  by_cases q : j = t
  · subst q
    obtain ⟨e1, e2, e3⟩ := up3_eq (f := rt) (k := j) (x := nI x) (y := nI s) (z := nI g)
    rw [e1, e2, e3, up_eq, up_eq, up_eq, up_eq, up_eq]
    exact ⟨⟨rfl, rfl, rfl⟩, ⟨x, hx, rfl⟩, ⟨s, hs, rfl⟩, ⟨g, hg, rfl⟩, rfl, rfl⟩
  · obtain ⟨e1, e2, e3⟩ := up3_lt (f := rt) (k := t) (j := j) (x := nI x) (y := nI s) (z := nI g) (by omega)
    rw [e1, e2, e3, up_lt q, up_lt q, up_lt q, up_lt q, up_lt q]
    exact b6 j (by omega)
theorem RP_N {p t n : Nat} {co kn ow so gr ho ou np ns nd rc rk rt rn : Nat → Int32} (hn : n < 8) {x s d : Nat} (hx : x < p) (hs : s < 3) (hd : d < 4) (hr : RP la ca p t n co kn ow so gr ho ou np ns nd ru hi rc rk rt rn) : RP la ca p t (n + 1) co kn ow so gr ho ou (upd np n (nI x)) (upd ns n (nI s)) (upd nd n (nI d)) ru hi rc rk rt (up3 rn n (nI x) (nI s) (nI d)) := by
  obtain ⟨⟨b1, b2, b3⟩, b4, b5, b6, b7, b8⟩ := hr
  refine ⟨⟨b1, b2, by omega⟩, b4, b5, b6, fun j hj => ?_, b8⟩
  by_cases q : j = n
  · subst q
    obtain ⟨e1, e2, e3⟩ := up3_eq (f := rn) (k := j) (x := nI x) (y := nI s) (z := nI d)
    rw [e1, e2, e3, up_eq, up_eq, up_eq]
    exact ⟨⟨rfl, rfl, rfl⟩, ⟨x, hx, rfl⟩, ⟨s, hs, rfl⟩, ⟨d, hd, rfl⟩⟩
  · obtain ⟨e1, e2, e3⟩ := up3_lt (f := rn) (k := n) (j := j) (x := nI x) (y := nI s) (z := nI d) (by omega)
    rw [e1, e2, e3, up_lt q, up_lt q, up_lt q]
    exact b7 j (by omega)
theorem evb_lt {p k : Nat} (hp : p ≤ 5) (hk : k ≤ 9) (hb : ¬ ((evb p >>> (nI k &&& 31)) &&& 1 = 0)) : k < p := by
  have := (b_z1 (by omega)).mp hb
  unfold evb at this
  rw [b_mask p hp k (by omega)] at this
  exact of_decide_eq_true this
theorem parse_all (hv : 4 ≤ v) (hl : len ≤ 90) : ∀ (k a p t n : Nat) (co kn ow so gr ho ou np ns nd rc rk rt rn : Nat → Int32), len - a ≤ k → a ≤ len → RP la ca p t n co kn ow so gr ho ou np ns nd ru hi rc rk rt rn → PB v len tx la ca da ru hi a p t n co kn ow so gr ho ou np ns nd rc rk rt rn := by
  intro k
  induction k with
  | zero =>
    intro a p t n co kn ow so gr ho ou np ns nd rc rk rt rn hk ha hr
    exact ⟨-9, _, _, _, _, _, _, _, _, _, _, _, _, _, _, _, _, _, PC_end (by omega) (by omega), PM_end (by omega) (by omega), fun _ => hr⟩
  | succ k ih =>
    intro a p t n co kn ow so gr ho ou np ns nd rc rk rt rn hk ha hr
    by_cases hal : a < len
    · have hr0 := hr
      obtain ⟨⟨hp, ht, hn⟩, ⟨hru, hhi, hla, ⟨c, hc1, hc2, hca⟩⟩, hkn, hth, hnd, hks⟩ := hr
      have hw : who p rk p = who p kn p := who_congr p (fun i hi => (hkn i hi).2)
      have hr3 : ∀ j, j < n → r3 rn 0 j = np j ∧ r3 rn 1 j = ns j ∧ r3 rn 2 j = nd j := fun j hj => (hnd j hj).1
      by_cases qP : tx a = 80 ∧ p < 5
      · obtain ⟨hL, hp5⟩ := qP
        by_cases k1 : fgk tx len (a + 1) 1023
        · by_cases k2 : fgk tx len (a + 1 + 1) 1023
          · have l2 := k2.1
            refine PB_step hl hal (show a < a + 1 + 1 + 1 by omega) (fun h hR hV => ?_) (fun h hM => ?_) (ih _ _ _ _ _ _ _ _ _ _ _ _ _ _ _ _ _ _ (by omega) (by omega) (RP_P hp5 hr0 (10 * nI (fg tx (a + 1)) + nI (fg tx (a + 1 + 1)))))
            · obtain ⟨R1, f1⟩ := Rdr_on hR
              obtain ⟨h2, d, R2, V2, f2⟩ := rp_ok hv R1 (V3 hv hV f1) hp5 hl k1 k2
              exact ⟨h2, rq_P hp5 hR hV hl hal hL d, R2, V2, fr_trans (f3P f1) f2⟩
            · rw [hL]
              exact mp_ok hp5 hM hl k1 k2
          · refine PB_fail (e := a + 1 + 1) (by omega) hl hal (fun h hR hV => ?_) (fun h hM => ?_)
            · obtain ⟨R1, f1⟩ := Rdr_on hR
              obtain ⟨h2, d, R2, V2, f2⟩ := rp_f2 hv R1 (V3 hv hV f1) hl k1 k2
              exact ⟨h2, rq_P hp5 hR hV hl hal hL d, R2, V2, fr_trans (f3P f1) f2⟩
            · rw [hL]
              exact mp_f2 hp5 hM hl k1 k2
        · refine PB_fail (e := a + 1) (by omega) hl hal (fun h hR hV => ?_) (fun h hM => ?_)
          · obtain ⟨R1, f1⟩ := Rdr_on hR
            obtain ⟨h2, d, R2, V2, f2⟩ := rp_f1 hv R1 (V3 hv hV f1) hl (by omega) k1
            exact ⟨h2, rq_P hp5 hR hV hl hal hL d, R2, V2, fr_trans (f3P f1) f2⟩
          · rw [hL]
            exact mp_f1 hp5 hM hl hal k1
      · by_cases qK : tx a = 75 ∧ ¬ who p kn p = 0
        · obtain ⟨hL, hq⟩ := qK
          have hq' : ¬ who p rk p = 0 := by rw [hw]; exact hq
          by_cases k1 : fgk tx len (a + 1) (who p kn p)
          · have k1' : fgk tx len (a + 1) (who p rk p) := by rw [hw]; exact k1
            have b1 : fg tx (a + 1) < p := who_bit (by have := (fgk_nI k1).2.1; omega) p (by omega) ((b_z1 (by have := (fgk_nI k1).2.1; omega)).mp (fgk_nI k1).2.2)
            have hsg : stg p rk (fg tx (a + 1)) = stg p kn (fg tx (a + 1)) := by unfold stg; rw [(hkn _ b1).2]
            by_cases k2 : fgk tx len (a + 1 + 1) (stg p kn (fg tx (a + 1)))
            · have l2 := k2.1
              have b2 : fg tx (a + 1 + 1) < p := stg_bit hp (by have := (fgk_nI k2).2.1; omega) ((b_z1 (by have := (fgk_nI k2).2.1; omega)).mp (fgk_nI k2).2.2)
              refine PB_step hl hal (show a < a + 1 + 1 + 1 by omega) (fun h hR hV => ?_) (fun h hM => ?_) (ih _ _ _ _ _ _ _ _ _ _ _ _ _ _ _ _ _ _ (by omega) (by omega) (RP_K b1 b2 hr0))
              · obtain ⟨R1, f1⟩ := Rdr_on hR
                obtain ⟨h2, d, R2, V2, f2⟩ := rk_ok hv R1 (V3 hv hV f1) hp hl k1 k2
                exact ⟨h2, rq_K hp hq hR hV hl hal hL d, R2, V2, fr_trans (f3P f1) f2⟩
              · rw [hL]
                exact mk_ok hp hq' hM hl k1' (by rw [hsg]; exact k2)
            · have l1 := k1.1
              refine PB_fail (e := a + 1 + 1) (by omega) hl hal (fun h hR hV => ?_) (fun h hM => ?_)
              · obtain ⟨R1, f1⟩ := Rdr_on hR
                obtain ⟨h2, d, R2, V2, f2⟩ := rk_f2 hv R1 (V3 hv hV f1) hp hl k1 k2
                exact ⟨h2, rq_K hp hq hR hV hl hal hL d, R2, V2, fr_trans (f3P f1) f2⟩
              · rw [hL]
                exact mk_f2 hp hq' hM hl k1' (by rw [hsg]; exact k2)
          · refine PB_fail (e := a + 1) (by omega) hl hal (fun h hR hV => ?_) (fun h hM => ?_)
            · obtain ⟨R1, f1⟩ := Rdr_on hR
              obtain ⟨h2, d, R2, V2, f2⟩ := rk_f1 hv R1 (V3 hv hV f1) hp hl (by omega) k1
              exact ⟨h2, rq_K hp hq hR hV hl hal hL d, R2, V2, fr_trans (f3P f1) f2⟩
            · rw [hL]
              exact mk_f1 hp hq' hM hl hal (by rw [hw]; exact k1)
        · by_cases qT : tx a = 84 ∧ 0 < p ∧ t < 6
          · obtain ⟨hL, hq⟩ := qT
            have hg2 : gmk2 hi = gmk ca := by rw [hhi, hca]; exact gmk_eq c hc2
            by_cases k1 : fgk tx len (a + 1) (evb p)
            · have l1 := k1.1
              have b1 : fg tx (a + 1) < p := evb_lt hp (fgk_nI k1).2.1 (fgk_nI k1).2.2
              by_cases k2 : fgk tx len (a + 1 + 1) 7
              · have l2 := k2.1
                have b2 : fg tx (a + 1 + 1) < 3 := by
                  have z := (b_z1 (by have := (fgk_nI k2).2.1; omega)).mp (fgk_nI k2).2.2
                  rw [b_7 _ (by have := (fgk_nI k2).2.1; omega)] at z
                  exact of_decide_eq_true z
                by_cases k3 : fgk tx len (a + 1 + 1 + 1) (gmk ca)
                · have l3 := k3.1
                  refine PB_step hl hal (show a < a + 1 + 1 + 1 + 1 by omega) (fun h hR hV => ?_) (fun h hM => ?_) (ih _ _ _ _ _ _ _ _ _ _ _ _ _ _ _ _ _ _ (by omega) (by omega) (RP_T hq.2 b1 b2 (fgk_nI k3).2.1 hr0))
                  · obtain ⟨R1, f1⟩ := Rdr_on hR
                    obtain ⟨h2, d, R2, V2, f2⟩ := rt_ok hv R1 (V3 hv hV f1) hq.2 hl k1 k2 k3
                    exact ⟨h2, rq_T hp hq hR hV hl hal hL d, R2, V2, fr_trans (f3P f1) f2⟩
                  · rw [hL]
                    exact mt_ok hp hq hM hl k1 k2 (by rw [hg2]; exact k3)
                · refine PB_fail (e := a + 1 + 1 + 1) (by omega) hl hal (fun h hR hV => ?_) (fun h hM => ?_)
                  · obtain ⟨R1, f1⟩ := Rdr_on hR
                    obtain ⟨h2, d, R2, V2, f2⟩ := rt_f3 hv R1 (V3 hv hV f1) hl k1 k2 k3
                    exact ⟨h2, rq_T hp hq hR hV hl hal hL d, R2, V2, fr_trans (f3P f1) f2⟩
                  · rw [hL]
                    exact mt_f3 hp hq hM hl k1 k2 (by rw [hg2]; exact k3)
              · refine PB_fail (e := a + 1 + 1) (by omega) hl hal (fun h hR hV => ?_) (fun h hM => ?_)
                · obtain ⟨R1, f1⟩ := Rdr_on hR
                  obtain ⟨h2, d, R2, V2, f2⟩ := rt_f2 hv R1 (V3 hv hV f1) hl k1 k2
                  exact ⟨h2, rq_T hp hq hR hV hl hal hL d, R2, V2, fr_trans (f3P f1) f2⟩
                · rw [hL]
                  exact mt_f2 hp hq hM hl k1 k2
            · refine PB_fail (e := a + 1) (by omega) hl hal (fun h hR hV => ?_) (fun h hM => ?_)
              · obtain ⟨R1, f1⟩ := Rdr_on hR
                obtain ⟨h2, d, R2, V2, f2⟩ := rt_f1 hv R1 (V3 hv hV f1) hl (by omega) k1
                exact ⟨h2, rq_T hp hq hR hV hl hal hL d, R2, V2, fr_trans (f3P f1) f2⟩
              · rw [hL]
                exact mt_f1 hp hq hM hl hal k1
          · by_cases qN : tx a = 78 ∧ 0 < p ∧ n < 8
            · obtain ⟨hL, hq⟩ := qN
              have hsm : sme rn n p = evb p := sme_evb hq.2 (fun j hj => by
                obtain ⟨c1, c2, c3, d, hd, ed⟩ := hnd j hj
                exact ⟨d, hd, by rw [c1.2.2]; exact ed⟩) hp
              by_cases k1 : fgk tx len (a + 1) (evb p)
              · have l1 := k1.1
                have b1 : fg tx (a + 1) < p := evb_lt hp (fgk_nI k1).2.1 (fgk_nI k1).2.2
                have hs1 : srt (r3 rn 0) (r3 rn 1) (r3 rn 2) (nI (fg tx (a + 1))) n 3 = srt np ns nd (nI (fg tx (a + 1))) n 3 := srt_congr hr3 3
                by_cases k2 : fgk tx len (a + 1 + 1) (srt np ns nd (nI (fg tx (a + 1))) n 3)
                · have l2 := k2.1
                  have b2 : fg tx (a + 1 + 1) < 3 := srt_bit (by have := (fgk_nI k2).2.1; omega) 3 (by omega) ((b_z1 (by have := (fgk_nI k2).2.1; omega)).mp (fgk_nI k2).2.2)
                  have hf1 : fdy (r3 rn 0) (r3 rn 1) (r3 rn 2) (nI (fg tx (a + 1))) (nI (fg tx (a + 1 + 1))) n = fdy np ns nd (nI (fg tx (a + 1))) (nI (fg tx (a + 1 + 1))) n := fdy_congr n hr3
                  by_cases k3 : fgk tx len (a + 1 + 1 + 1) (fdy np ns nd (nI (fg tx (a + 1))) (nI (fg tx (a + 1 + 1))) n)
                  · have l3 := k3.1
                    have b3 : fg tx (a + 1 + 1 + 1) < 4 := fdy_bit (by have := (fgk_nI k3).2.1; omega) n ((b_z1 (by have := (fgk_nI k3).2.1; omega)).mp (fgk_nI k3).2.2)
                    refine PB_step hl hal (show a < a + 1 + 1 + 1 + 1 by omega) (fun h hR hV => ?_) (fun h hM => ?_) (ih _ _ _ _ _ _ _ _ _ _ _ _ _ _ _ _ _ _ (by omega) (by omega) (RP_N hq.2 b1 b2 b3 hr0))
                    · obtain ⟨R1, f1⟩ := Rdr_on hR
                      obtain ⟨h2, d, R2, V2, f2⟩ := rn_ok hv R1 (V3 hv hV f1) hq.2 hl k1 k2 k3
                      exact ⟨h2, rq_N hp hq hR hV hl hal hL d, R2, V2, fr_trans (f3P f1) f2⟩
                    · rw [hL]
                      exact mn_ok hp hq hM hl (by rw [hsm]; exact k1) (by rw [hs1]; exact k2) (by rw [hf1]; exact k3)
                  · refine PB_fail (e := a + 1 + 1 + 1) (by omega) hl hal (fun h hR hV => ?_) (fun h hM => ?_)
                    · obtain ⟨R1, f1⟩ := Rdr_on hR
                      obtain ⟨h2, d, R2, V2, f2⟩ := rn_f3 hv R1 (V3 hv hV f1) hn hl k1 k2 k3
                      exact ⟨h2, rq_N hp hq hR hV hl hal hL d, R2, V2, fr_trans (f3P f1) f2⟩
                    · rw [hL]
                      exact mn_f3 hp hq hM hl (by rw [hsm]; exact k1) (by rw [hs1]; exact k2) (by rw [hf1]; exact k3)
                · refine PB_fail (e := a + 1 + 1) (by omega) hl hal (fun h hR hV => ?_) (fun h hM => ?_)
                  · obtain ⟨R1, f1⟩ := Rdr_on hR
                    obtain ⟨h2, d, R2, V2, f2⟩ := rn_f2 hv R1 (V3 hv hV f1) hn hl k1 k2
                    exact ⟨h2, rq_N hp hq hR hV hl hal hL d, R2, V2, fr_trans (f3P f1) f2⟩
                  · rw [hL]
                    exact mn_f2 hp hq hM hl (by rw [hsm]; exact k1) (by rw [hs1]; exact k2)
              · refine PB_fail (e := a + 1) (by omega) hl hal (fun h hR hV => ?_) (fun h hM => ?_)
                · obtain ⟨R1, f1⟩ := Rdr_on hR
                  obtain ⟨h2, d, R2, V2, f2⟩ := rn_f1 hv R1 (V3 hv hV f1) hn hl (by omega) k1
                  exact ⟨h2, rq_N hp hq hR hV hl hal hL d, R2, V2, fr_trans (f3P f1) f2⟩
                · rw [hL]
                  exact mn_f1 hp hq hM hl hal (by rw [hsm]; exact k1)
            · have hb : bad (tx a) p t n (who p kn p) := ⟨qP, qK, qT, qN⟩
              refine PB_fail (e := a) (by omega) hl hal (fun h hR hV => ?_) (fun h hM => ?_)
              · exact rq_bad hv hp ht hn hb hR hV hl hal
              · exact mq_bad hp ht hn (by rw [hw]; exact hb) hM
    · exact ⟨-9, _, _, _, _, _, _, _, _, _, _, _, _, _, _, _, _, _, PC_end (by omega) (by omega), PM_end (by omega) (by omega), fun _ => hr⟩
end PB2
