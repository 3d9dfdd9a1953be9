/-! All is gathered. -/
theorem fit1 : ((1 : Int32) == 0 || (1 : Int32) == 1) = true := by decide
theorem fit0 : ((0 : Int32) == 0 || (0 : Int32) == 1) = true := by decide
def chW (σ : Nat → Nat → Int32) (v t : Nat) (x : Int32) : Nat × (Nat → Nat) := okK (fun j => decide (σ (v + 4) j = x)) 0 (fun _ => 0) t
def odW (σ : Nat → Nat → Int32) (v n : Nat) (x : Int32) : Nat → Nat × (Nat → Nat) := okD (fun d k => decide (σ (v + 9) k = x ∧ σ (v + 10) k = nI d)) n
def dsW (σ : Nat → Nat → Int32) (v n : Nat) (x : Int32) (d : Nat) : Nat := (odW σ v n x d).1
def owW (σ : Nat → Nat → Int32) (v j : Nat) : Nat := (σ (v + 3) j).toNatClampNeg
def npW (σ : Nat → Nat → Int32) (v n : Nat) (x : Int32) (i : Nat) : Nat := (σ (v + 8) ((odW σ v n x 4).2 i)).toNatClampNeg
def VW (σ τ : Nat → Nat → Int32) (v t n : Nat) : Prop := (t ≤ 6 ∧ τ v 4 = nI t) ∧ (n ≤ 8 ∧ τ v 5 = nI n) ∧ (∀ j, j < t → ∃ x, x < 5 ∧ σ (v + 3) j = nI x) ∧ (∀ k, k < n → ∃ x, x < 5 ∧ σ (v + 8) k = nI x)
def LSd (σ : Nat → Nat → Int32) (C : Nat) (ok ln : Nat → Nat → Bool) (ds : Nat → Nat) (d : Nat) : Prop :=
  ∃ m, m ≤ 64 ∧ σ 60 d = nI m ∧ (∀ k, k < m → ∃ L, L < 64 ∧ σ 59 (64 * d + k) = nI L ∧ SFd C ok ln ds d L) ∧ (∀ L, SFd C ok ln ds d L → ∃ k, k < m ∧ sbI (σ 59 (64 * d + k)) (nI L))
theorem LSd_cg {σ σ' : Nat → Nat → Int32} {C : Nat} {ok ln : Nat → Nat → Bool} {ds : Nat → Nat} {d : Nat} (h : LSd σ C ok ln ds d) (h1 : σ' 60 d = σ 60 d) (h2 : ∀ k, k < 64 → σ' 59 (64 * d + k) = σ 59 (64 * d + k)) : LSd σ' C ok ln ds d := by
  obtain ⟨m, a, b, c, e⟩ := h
  refine ⟨m, a, by rw [h1]; exact b, fun k hk => by rw [h2 k (by omega)]; exact c k hk, fun L hL => ?_⟩
  obtain ⟨k, k1, k2⟩ := e L hL
  exact ⟨k, k1, by rw [h2 k (by omega)]; exact k2⟩
theorem Pq_cg {σ τ σ' τ' : Nat → Nat → Int32} {v C : Nat} {ch ow np ds : Nat → Nat} (Q : Pq σ τ v C ch ow np ds) (hs : ∀ b, b = 56 ∨ b = 57 ∨ b = 58 ∨ b = v + 3 → σ' b = σ b) (ht : τ' 55 2 = τ 55 2 ∧ τ' 55 4 = τ 55 4) : Pq σ' τ' v C ch ow np ds := by
  unfold Pq at *
  rw [hs 56 (by omega), hs 57 (by omega), hs 58 (by omega), hs (v + 3) (by omega), ht.1, ht.2]
  exact Q
section PH
variable {h : xH} {σ τ : Nat → Nat → Int32} {v s : Nat} {q : Nat → Nat} {e1 e2 : Int64} {t n : Nat}
theorem Pg_set (H : Hp h σ τ v s q e1 e2) : Pg (sf h 55 4 0 (.ref v)) σ τ v s q e1 e2 := by
  have m := H.2.2.2
  obtain ⟨y, m7⟩ := m.2.2.2.2.1.2.2.1
  refine ⟨Hp_sfo H rfl rfl ?_, by rw [fl_sf, if_pos ⟨rfl, rfl, rfl⟩, m7]; rfl⟩
  unfold Hm at *
  simp only [m_get, m_put, m_ia, m_is, m_la, m_ls, fl_sf, fl_sa, fl_sl, fl_sq, ar_sf, ar_sa, ar_sl, ar_sq, lr_sf, lr_sa, lr_sl, lr_sq, qr_sf, qr_sa, qr_sl, qr_sq, sf_1, sf_2, sa_1, sa_2, sl_1, sl_2, Option.isSome_some, Option.map_some, Option.map_none, Option.toList_some, Option.toList_none, List.nil_append, List.cons_append, List.singleton_append, if_true, if_false, ↓reduceIte, and_self, and_true, true_and, and_false, false_and, not_true, not_false_iff, reduceCtorEq, Nat.reduceEqDiff, Nat.reduceAdd, Nat.reduceSub, Nat.reduceMul, Nat.reduceLT, Nat.reduceLeDiff, Nat.reduceBEq, eq_self, ne_eq, Nat.add_eq_zero_iff, Nat.add_left_cancel_iff, Nat.add_right_cancel_iff, Nat.left_eq_add, Nat.add_eq_left, Bool.true_or, Bool.or_true, Bool.or_self, or_self, or_true, true_or, or_false, false_or, decide_true, decide_false, i_10, i_01, m.1, m.2.1, m.2.2.1, m.2.2.2.1, m.2.2.2.2.1.1, m.2.2.2.2.1.2.1, m.2.2.2.2.1.2.2.2, m.2.2.2.2.2, m7]
  exact ⟨_, rfl⟩

theorem Pq_0 (W : VW σ τ v t n) {σN τN : Nat → Nat → Int32} {x : Int32} (h2 : τN 55 2 = nI (chW σ v t x).1) (h4 : τN 55 4 = nI (dsW σ v n x 4)) (h58 : ∀ d, d ≤ 4 → σN 58 d = nI (dsW σ v n x d)) (h56 : ∀ i, i < (chW σ v t x).1 → σN 56 i = nI ((chW σ v t x).2 i)) (h57 : ∀ i, i < dsW σ v n x 4 → σN 57 i = σ (v + 8) ((odW σ v n x 4).2 i)) (h3 : σN (v + 3) = σ (v + 3)) : Pq σN τN v (chW σ v t x).1 (chW σ v t x).2 (owW σ v) (npW σ v n x) (dsW σ v n x) := by
  obtain ⟨⟨t6, wt⟩, ⟨n8, wn⟩, wo, wp⟩ := W
  have cu : (chW σ v t x).1 ≤ 0 + t := okK_up t
  refine ⟨⟨by omega, h2⟩, ⟨Nat.le_trans (okD_n (n := n) 4 nd_ex) n8, h4⟩, ⟨rfl, fun d _ => okD_1 d⟩, h58, fun c hc => ?_, fun i hi => ?_⟩
  · have lt : (chW σ v t x).2 c < t := (okK_new (Nat.zero_le _) t hc).1
    obtain ⟨w, w5, ew⟩ := wo _ lt
    have eo : owW σ v ((chW σ v t x).2 c) = w := by rw [owW, ew, nI_clamp (by omega)]
    rw [eo, h3]
    exact ⟨by omega, h56 c hc, ew, w5⟩
  · obtain ⟨e, he, ha, hb⟩ := okD_fd 4 hi
    have lt : (odW σ v n x 4).2 i < n := (okD_day he ha hb).1
    obtain ⟨w, w5, ew⟩ := wp _ lt
    have eo : npW σ v n x i = w := by rw [npW, ew, nI_clamp (by omega)]
    rw [eo, h57 i hi]
    exact ⟨ew, w5⟩
theorem c_gatherDays {hN : xH} {σN τN : Nat → Nat → Int32} {x : Int32} (GN : Pg hN σN τN v s q e1 e2) (Q : Pq σN τN v (chW σ v t x).1 (chW σ v t x).2 (owW σ v) (npW σ v n x) (dsW σ v n x)) (hk2 : σN (v + 2) = σ (v + 2)) (h7 : τN 55 7 = 1) : ∃ h' σ' τ', xR none 12 M_Planner_gather 25 [some (.ref 55), some (.ref v), some (.int x), some (.int 0)] [] hN = some (none, h') ∧ Pg h' σ' τ' v s q e1 e2 ∧ ((∀ b, b ≠ 59 → b ≠ 60 → σ' b = σN b) ∧ (∀ a k, ¬ (a = 55 ∧ k = 7) → τ' a k = τN a k) ∧ (∀ d, d < 4 → LSd σ' (chW σ v t x).1 (okP (σ (v + 2)) (owW σ v) (npW σ v n x) (chW σ v t x).2) (lnP (owW σ v) (npW σ v n x) (chW σ v t x).2) (dsW σ v n x) d) ∧ ((τ' 55 7 = 1 ∧ ∀ d, d < 4 → ∃ L, SFd (chW σ v t x).1 (okP (σ (v + 2)) (owW σ v) (npW σ v n x) (chW σ v t x).2) (lnP (owW σ v) (npW σ v n x) (chW σ v t x).2) (dsW σ v n x) d L) ∨ (τ' 55 7 = 0 ∧ ∃ d, d < 4 ∧ ¬ ∃ L, SFd (chW σ v t x).1 (okP (σ (v + 2)) (owW σ v) (npW σ v n x) (chW σ v t x).2) (lnP (owW σ v) (npW σ v n x) (chW σ v t x).2) (dsW σ v n x) d L))) := by
  have hv := GN.1.2.2.2.1.1
  have key := loop_dn (t := 4) (P := fun d => ∀ g σg τg, Pg g σg τg v s q e1 e2 → (∀ b, b ≠ 59 → b ≠ 60 → σg b = σN b) → (∀ a k, ¬ (a = 55 ∧ k = 7) → τg a k = τN a k) → (∀ e, e < d → LSd σg (chW σ v t x).1 (okP (σ (v + 2)) (owW σ v) (npW σ v n x) (chW σ v t x).2) (lnP (owW σ v) (npW σ v n x) (chW σ v t x).2) (dsW σ v n x) e) → ((τg 55 7 = 1 ∧ ∀ e, e < d → ∃ L, SFd (chW σ v t x).1 (okP (σ (v + 2)) (owW σ v) (npW σ v n x) (chW σ v t x).2) (lnP (owW σ v) (npW σ v n x) (chW σ v t x).2) (dsW σ v n x) e L) ∨ (τg 55 7 = 0 ∧ ∃ e, e < d ∧ ¬ ∃ L, SFd (chW σ v t x).1 (okP (σ (v + 2)) (owW σ v) (npW σ v n x) (chW σ v t x).2) (lnP (owW σ v) (npW σ v n x) (chW σ v t x).2) (dsW σ v n x) e L)) → ∃ h' σ' τ', xR none 12 M_Planner_gather 25 [some (.ref 55), some (.ref v), some (.int x), some (.int (nI d))] [] g = some (none, h') ∧ Pg h' σ' τ' v s q e1 e2 ∧ ((∀ b, b ≠ 59 → b ≠ 60 → σ' b = σN b) ∧ (∀ a k, ¬ (a = 55 ∧ k = 7) → τ' a k = τN a k) ∧ (∀ d, d < 4 → LSd σ' (chW σ v t x).1 (okP (σ (v + 2)) (owW σ v) (npW σ v n x) (chW σ v t x).2) (lnP (owW σ v) (npW σ v n x) (chW σ v t x).2) (dsW σ v n x) d) ∧ ((τ' 55 7 = 1 ∧ ∀ d, d < 4 → ∃ L, SFd (chW σ v t x).1 (okP (σ (v + 2)) (owW σ v) (npW σ v n x) (chW σ v t x).2) (lnP (owW σ v) (npW σ v n x) (chW σ v t x).2) (dsW σ v n x) d L) ∨ (τ' 55 7 = 0 ∧ ∃ d, d < 4 ∧ ¬ ∃ L, SFd (chW σ v t x).1 (okP (σ (v + 2)) (owW σ v) (npW σ v n x) (chW σ v t x).2) (lnP (owW σ v) (npW σ v n x) (chW σ v t x).2) (dsW σ v n x) d L)))) ?_ ?_ 0 (Nat.zero_le _)
  · obtain ⟨h', σ', τ', c, rest⟩ := key hN σN τN GN (fun _ _ _ => rfl) (fun _ _ _ => rfl) (fun e he => by omega) (Or.inl ⟨h7, fun e he => by omega⟩)
    rw [nI_0] at c
    exact ⟨h', σ', τ', c, rest⟩
  · intro g σg τg G h1 h2 h3 h4
    refine ⟨g, σg, τg, ?_, G, h1, h2, h3, h4⟩
    have z : (4 : Int32) ≤ nI 4 := Int32.le_refl _
    simp only [e_Planner_gather_25, e_Planner_gather_26, e_Planner_gather_27, e_Planner_gather_91, Option.isSome_some, Option.map_some, Option.map_none, Option.toList_some, Option.toList_none, List.nil_append, List.cons_append, List.singleton_append, if_true, if_false, ↓reduceIte, and_self, and_true, true_and, and_false, false_and, not_true, not_false_iff, reduceCtorEq, Nat.reduceEqDiff, Nat.reduceAdd, Nat.reduceSub, Nat.reduceMul, Nat.reduceLT, Nat.reduceLeDiff, Nat.reduceBEq, eq_self, ne_eq, Nat.add_eq_zero_iff, Nat.add_left_cancel_iff, Nat.add_right_cancel_iff, Nat.left_eq_add, Nat.add_eq_left, Bool.true_or, Bool.or_true, Bool.or_self, or_self, or_true, true_or, or_false, false_or, decide_true, decide_false, i_10, i_01, z]
  · intro d hd ih g σg τg G h1 h2 h3 h4
    have Qg : Pq σg τg v (chW σ v t x).1 (chW σ v t x).2 (owW σ v) (npW σ v n x) (dsW σ v n x) := Pq_cg Q (fun b hb => h1 b (by omega) (by omega)) ⟨h2 55 2 (by omega), h2 55 4 (by omega)⟩
    have m8 := Qg.2.1.1
    have dm := Qg.2.2.1.2 d hd
    have d1 := ds_le (ds := (dsW σ v n x)) Qg.2.2.1.2 (show d + 1 ≤ 4 by omega) (Nat.le_refl _)
    have kg : σg (v + 2) = σ (v + 2) := by rw [h1 (v + 2) (by omega) (by omega), hk2]
    have q1 : ¬ (4 : Int32) ≤ nI d := nI_ge (b := 4) hd (by omega)
    obtain ⟨x0, fx0⟩ := G.1.2.2.2.2.2.2.2.1.1
    have fx : fl (sf g 55 4 8 (.long 0)) 55 4 8 = some (.long 0) := by rw [fl_sf, if_pos ⟨rfl, rfl, rfl⟩, fx0]; rfl
    have f6 := hR (Pg_sx G 0).1 55 4 6 58 rfl rfl
    have r58 := hA (Pg_sx G 0).1 58 0 5 rfl rfl
    have e58 := Qg.2.2.2.1 d (by omega)
    have e58' := Qg.2.2.2.1 (d + 1) (by omega)
    obtain ⟨x', cf, sp⟩ := c_findSets Qg ((dsW σ v n x) (d + 1) - (dsW σ v n x) d) ((dsW σ v n x) d) ((dsW σ v n x) (d + 1)) ((dsW σ v n x) d) (fun _ => 0) 0 0 _ (Pg_sx G 0) (by omega) (Nat.le_refl _) d1 (fun i h5 h6 => by omega) (fun c hc => ⟨fun y => absurd y (by rw [b_0]; decide), fun ⟨j, j1, j2, _⟩ => by omega⟩) fx
    rw [sf_sf, Nat.sub_self, msk, nI_0] at cf
    rw [kg] at sp
    have sp2 : ∀ k, k < 64 → (bl x' k = true ↔ SFd (chW σ v t x).1 (okP (σ (v + 2)) (owW σ v) (npW σ v n x) (chW σ v t x).2) (lnP (owW σ v) (npW σ v n x) (chW σ v t x).2) (dsW σ v n x) d k) := fun k hk => by
      rw [sp k hk, bl_0]
      constructor
      · rintro (y | ⟨a', _, b, c⟩)
        · cases y
        · exact ⟨a', b, c⟩
      · rintro ⟨a, b, c⟩
        refine Or.inr ⟨fun j => if j < (dsW σ v n x) d then 0 else a j, fun j hj => if_pos hj, DF_cg b (fun i h5 h6 => if_neg (by omega)), ?_⟩
        rw [← c]
        exact msk_cg _ (fun i h5 h6 => if_neg (by omega))
    have cf' := call_v (lv := 12) cf (Pg_is (Pg_sx G 0)) (by decide) (show 2 + (9 - (nI ((dsW σ v n x) d)).toNatClampNeg) < 12 by omega)
    have fx2 : fl (sf g 55 4 8 (.long x')) 55 4 8 = some (.long x') := by rw [fl_sf, if_pos ⟨rfl, rfl, rfl⟩, fx0]; rfl
    obtain ⟨h2', σ2, cl, G2, fx3, ⟨l1, l2, l3⟩, m, lm, le, lk, lL⟩ := c_listSets (Pg_sx G x') hd fx2
    have cl' := call_v (lv := 12) cl (Pg_is (Pg_sx G x')) (by decide) (Nat.le_of_ble_eq_true rfl)
    have lt64 : ∀ L, SFd (chW σ v t x).1 (okP (σ (v + 2)) (owW σ v) (npW σ v n x) (chW σ v t x).2) (lnP (owW σ v) (npW σ v n x) (chW σ v t x).2) (dsW σ v n x) d L → L < 64 := fun L hL => Nat.lt_of_lt_of_le (SF_lt Qg.2.2.1.2 hd hL) (Nat.le_trans (Nat.pow_le_pow_right (by omega) Qg.1.1) (by decide))
    have f7 := hI G2.1 55 4 7 rfl rfl
    have i1 := xin_nI (show d < 5 by omega) (by decide)
    have c1 := nI_clamp (show d < 2 ^ 31 by omega)
    have i2 := xin_nI (show d + 1 < 5 by omega) (by decide)
    have c2 := nI_clamp (show d + 1 < 2 ^ 31 by omega)
    have all : ∀ e, e < d + 1 → LSd σ2 (chW σ v t x).1 (okP (σ (v + 2)) (owW σ v) (npW σ v n x) (chW σ v t x).2) (lnP (owW σ v) (npW σ v n x) (chW σ v t x).2) (dsW σ v n x) e := fun e he => by
      by_cases y : e = d
      · subst y
        refine ⟨m, lm, le, fun k hk => ?_, fun L hL => lL L (lt64 L hL) ((sp2 L (lt64 L hL)).mpr hL)⟩
        obtain ⟨L, L1, L2, L3⟩ := lk k hk
        exact ⟨L, L1, L2, (sp2 L L1).mp L3⟩
      · exact LSd_cg (h3 e (by omega)) (l2 e y) (fun k hk => l3 _ (by omega))
    have nz : ¬ x' = 0 ↔ ∃ L, SFd (chW σ v t x).1 (okP (σ (v + 2)) (owW σ v) (npW σ v n x) (chW σ v t x).2) (lnP (owW σ v) (npW σ v n x) (chW σ v t x).2) (dsW σ v n x) d L := by
      rw [bl_nz]
      constructor
      · rintro ⟨k, k1, k2⟩
        exact ⟨k, (sp2 k k1).mp k2⟩
      · rintro ⟨L, hL⟩
        exact ⟨L, lt64 L hL, (sp2 L (lt64 L hL)).mpr hL⟩
    have run := fun (y : Int32) (hy : (y = 1 ∧ ∀ e, e < d + 1 → ∃ L, SFd (chW σ v t x).1 (okP (σ (v + 2)) (owW σ v) (npW σ v n x) (chW σ v t x).2) (lnP (owW σ v) (npW σ v n x) (chW σ v t x).2) (dsW σ v n x) e L) ∨ (y = 0 ∧ ∃ e, e < d + 1 ∧ ¬ ∃ L, SFd (chW σ v t x).1 (okP (σ (v + 2)) (owW σ v) (npW σ v n x) (chW σ v t x).2) (lnP (owW σ v) (npW σ v n x) (chW σ v t x).2) (dsW σ v n x) e L)) => ih _ _ _ (Pg_sf G2 (a := 55) (c := 4) (k := 7) rfl rfl y) (fun b n1 n2 => by rw [l1 b n1 n2]; exact h1 b n1 n2) (fun a k hk => by rw [ut, if_neg hk]; exact h2 a k hk) all (by rw [show ut τg 55 7 y 55 7 = y by simp only [ut, and_self, if_true]]; exact hy)
    rw [e_Planner_gather_25]
    rcases h4 with ⟨p1, pa⟩ | ⟨p0, e0, he0, ne0⟩
    · rw [p1] at f7
      by_cases w : x' = 0
      · have wz : lg_cmp x' 0 = 0 := (lg0 _ _).mpr w
        obtain ⟨h', σ', τ', c, rest⟩ := run 0 (Or.inr ⟨rfl, d, by omega, fun y => (nz.mpr y) w⟩)
        refine ⟨h', σ', τ', ?_, rest⟩
        rw [← nI_1] at c
        simp only [e_Planner_gather_26, e_Planner_gather_27, e_Planner_gather_30, e_Planner_gather_31, e_Planner_gather_32, e_Planner_gather_35, e_Planner_gather_36, e_Planner_gather_37, e_Planner_gather_40, e_Planner_gather_41, e_Planner_gather_42, e_Planner_gather_43, e_Planner_gather_46, e_Planner_gather_47, e_Planner_gather_48, e_Planner_gather_49, e_Planner_gather_50, e_Planner_gather_51, e_Planner_gather_52, e_Planner_gather_55, e_Planner_gather_56, e_Planner_gather_57, e_Planner_gather_60, e_Planner_gather_61, e_Planner_gather_62, e_Planner_gather_65, e_Planner_gather_68, e_Planner_gather_69, e_Planner_gather_72, e_Planner_gather_73, e_Planner_gather_74, e_Planner_gather_77, e_Planner_gather_78, e_Planner_gather_81, e_Planner_gather_82, e_Planner_gather_85, e_Planner_gather_88, m_get, m_put, m_ia, m_is, m_la, m_ls, fl_sf, fl_sa, fl_sl, fl_sq, ar_sf, ar_sa, ar_sl, ar_sq, lr_sf, lr_sa, lr_sl, lr_sq, qr_sf, qr_sa, qr_sl, qr_sq, sf_1, sf_2, sa_1, sa_2, sl_1, sl_2, Option.isSome_some, Option.map_some, Option.map_none, Option.toList_some, Option.toList_none, List.nil_append, List.cons_append, List.singleton_append, if_true, if_false, ↓reduceIte, and_self, and_true, true_and, and_false, false_and, not_true, not_false_iff, reduceCtorEq, Nat.reduceEqDiff, Nat.reduceAdd, Nat.reduceSub, Nat.reduceMul, Nat.reduceLT, Nat.reduceLeDiff, Nat.reduceBEq, eq_self, ne_eq, Nat.add_eq_zero_iff, Nat.add_left_cancel_iff, Nat.add_right_cancel_iff, Nat.left_eq_add, Nat.add_eq_left, Bool.true_or, Bool.or_true, Bool.or_self, or_self, or_true, true_or, or_false, false_or, decide_true, decide_false, i_10, i_01, fx0, f6, r58, e58, e58', nI_1, i1, c1, i2, c2, q1, cf', cl', f7, fx3, wz, fit0]
        rw [← nI_1]
        exact c
      · have wz : ¬ lg_cmp x' 0 = 0 := fun y => w ((lg0 _ _).mp y)
        obtain ⟨h', σ', τ', c, rest⟩ := run 1 (Or.inl ⟨rfl, fun e he => by
          by_cases y : e = d
          · rw [y]; exact nz.mp w
          · exact pa e (by omega)⟩)
        refine ⟨h', σ', τ', ?_, rest⟩
        rw [← nI_1] at c
        simp only [e_Planner_gather_26, e_Planner_gather_27, e_Planner_gather_30, e_Planner_gather_31, e_Planner_gather_32, e_Planner_gather_35, e_Planner_gather_36, e_Planner_gather_37, e_Planner_gather_40, e_Planner_gather_41, e_Planner_gather_42, e_Planner_gather_43, e_Planner_gather_46, e_Planner_gather_47, e_Planner_gather_48, e_Planner_gather_49, e_Planner_gather_50, e_Planner_gather_51, e_Planner_gather_52, e_Planner_gather_55, e_Planner_gather_56, e_Planner_gather_57, e_Planner_gather_60, e_Planner_gather_61, e_Planner_gather_62, e_Planner_gather_65, e_Planner_gather_68, e_Planner_gather_69, e_Planner_gather_72, e_Planner_gather_73, e_Planner_gather_74, e_Planner_gather_77, e_Planner_gather_78, e_Planner_gather_81, e_Planner_gather_82, e_Planner_gather_85, e_Planner_gather_88, m_get, m_put, m_ia, m_is, m_la, m_ls, fl_sf, fl_sa, fl_sl, fl_sq, ar_sf, ar_sa, ar_sl, ar_sq, lr_sf, lr_sa, lr_sl, lr_sq, qr_sf, qr_sa, qr_sl, qr_sq, sf_1, sf_2, sa_1, sa_2, sl_1, sl_2, Option.isSome_some, Option.map_some, Option.map_none, Option.toList_some, Option.toList_none, List.nil_append, List.cons_append, List.singleton_append, if_true, if_false, ↓reduceIte, and_self, and_true, true_and, and_false, false_and, not_true, not_false_iff, reduceCtorEq, Nat.reduceEqDiff, Nat.reduceAdd, Nat.reduceSub, Nat.reduceMul, Nat.reduceLT, Nat.reduceLeDiff, Nat.reduceBEq, eq_self, ne_eq, Nat.add_eq_zero_iff, Nat.add_left_cancel_iff, Nat.add_right_cancel_iff, Nat.left_eq_add, Nat.add_eq_left, Bool.true_or, Bool.or_true, Bool.or_self, or_self, or_true, true_or, or_false, false_or, decide_true, decide_false, i_10, i_01, fx0, f6, r58, e58, e58', nI_1, i1, c1, i2, c2, q1, cf', cl', f7, fx3, wz, fit1]
        rw [← nI_1]
        exact c
    · rw [p0] at f7
      obtain ⟨h', σ', τ', c, rest⟩ := run 0 (Or.inr ⟨rfl, e0, by omega, ne0⟩)
      refine ⟨h', σ', τ', ?_, rest⟩
      rw [← nI_1] at c
      simp only [e_Planner_gather_26, e_Planner_gather_27, e_Planner_gather_30, e_Planner_gather_31, e_Planner_gather_32, e_Planner_gather_35, e_Planner_gather_36, e_Planner_gather_37, e_Planner_gather_40, e_Planner_gather_41, e_Planner_gather_42, e_Planner_gather_43, e_Planner_gather_46, e_Planner_gather_47, e_Planner_gather_48, e_Planner_gather_49, e_Planner_gather_50, e_Planner_gather_51, e_Planner_gather_52, e_Planner_gather_55, e_Planner_gather_56, e_Planner_gather_57, e_Planner_gather_60, e_Planner_gather_61, e_Planner_gather_62, e_Planner_gather_65, e_Planner_gather_68, e_Planner_gather_69, e_Planner_gather_72, e_Planner_gather_73, e_Planner_gather_74, e_Planner_gather_77, e_Planner_gather_78, e_Planner_gather_81, e_Planner_gather_82, e_Planner_gather_85, e_Planner_gather_88, m_get, m_put, m_ia, m_is, m_la, m_ls, fl_sf, fl_sa, fl_sl, fl_sq, ar_sf, ar_sa, ar_sl, ar_sq, lr_sf, lr_sa, lr_sl, lr_sq, qr_sf, qr_sa, qr_sl, qr_sq, sf_1, sf_2, sa_1, sa_2, sl_1, sl_2, Option.isSome_some, Option.map_some, Option.map_none, Option.toList_some, Option.toList_none, List.nil_append, List.cons_append, List.singleton_append, if_true, if_false, ↓reduceIte, and_self, and_true, true_and, and_false, false_and, not_true, not_false_iff, reduceCtorEq, Nat.reduceEqDiff, Nat.reduceAdd, Nat.reduceSub, Nat.reduceMul, Nat.reduceLT, Nat.reduceLeDiff, Nat.reduceBEq, eq_self, ne_eq, Nat.add_eq_zero_iff, Nat.add_left_cancel_iff, Nat.add_right_cancel_iff, Nat.left_eq_add, Nat.add_eq_left, Bool.true_or, Bool.or_true, Bool.or_self, or_self, or_true, true_or, or_false, false_or, decide_true, decide_false, i_10, i_01, fx0, f6, r58, e58, e58', nI_1, i1, c1, i2, c2, q1, cf', cl', f7, fit0]
      rw [← nI_1]
      exact c
theorem c_gather (H : Hp h σ τ v s q e1 e2) (W : VW σ τ v t n) (x : Int32) : ∃ h' σ' τ', xC M_Planner_gather [.ref 55, .ref v, .int x] h = some (none, h') ∧ Pg h' σ' τ' v s q e1 e2 ∧ Pq σ' τ' v (chW σ v t x).1 (chW σ v t x).2 (owW σ v) (npW σ v n x) (dsW σ v n x) ∧ τ' 55 1 = x ∧ (∀ d, d < 4 → LSd σ' (chW σ v t x).1 (okP (σ (v + 2)) (owW σ v) (npW σ v n x) (chW σ v t x).2) (lnP (owW σ v) (npW σ v n x) (chW σ v t x).2) (dsW σ v n x) d) ∧ ((τ' 55 7 = 1 ∧ ∀ d, d < 4 → ∃ L, SFd (chW σ v t x).1 (okP (σ (v + 2)) (owW σ v) (npW σ v n x) (chW σ v t x).2) (lnP (owW σ v) (npW σ v n x) (chW σ v t x).2) (dsW σ v n x) d L) ∨ (τ' 55 7 = 0 ∧ ∃ d, d < 4 ∧ ¬ ∃ L, SFd (chW σ v t x).1 (okP (σ (v + 2)) (owW σ v) (npW σ v n x) (chW σ v t x).2) (lnP (owW σ v) (npW σ v n x) (chW σ v t x).2) (dsW σ v n x) d L)) ∧ (∀ b, b < 56 ∨ 60 < b → σ' b = σ b) ∧ (∀ a k, a ≠ 55 → τ' a k = τ a k) := by
  have hv := H.2.2.2.1.1
  have G1 := Pg_sf (Pg_set H) (a := 55) (c := 4) (k := 1) rfl rfl x
  have x1 : ut τ 55 1 x 55 1 = x := by simp only [ut, and_self, if_true]
  obtain ⟨hT, σT, τT, cT, GT, t1, t2, t3, t4⟩ := c_gatherThings G1 W.1.1 (by rw [ut, if_neg (by omega)]; exact W.1.2)
  rw [x1] at t1 t2
  have x2 : τT 55 1 = x := by rw [t4 55 1 (by omega)]; exact x1
  obtain ⟨hN, σN, τN, cN, GN, n1, n2, n3, n4, n5⟩ := c_gatherNeeds GT W.2.1.1 (by rw [t4 v 5 (by omega), ut, if_neg (by omega)]; exact W.2.1.2)
  rw [x2, t3 (v + 9) (by omega), t3 (v + 10) (by omega)] at n1 n2 n3
  rw [t3 (v + 8) (by omega)] at n3
  have G3 := Pg_sf GN (a := 55) (c := 4) (k := 7) rfl rfl 1
  have Q : Pq σN (ut τN 55 7 1) v (chW σ v t x).1 (chW σ v t x).2 (owW σ v) (npW σ v n x) (dsW σ v n x) := Pq_0 W (by rw [ut, if_neg (by omega), n5 55 2 (by omega)]; exact t1) (by rw [ut, if_neg (by omega)]; exact n1) n2 (fun i hi => by rw [n4 56 (by omega) (by omega)]; exact t2 i hi) n3 (by rw [n4 (v + 3) (by omega) (by omega), t3 (v + 3) (by omega)])
  obtain ⟨h', σ', τ', c, G', g1, g2, g3, g4⟩ := c_gatherDays (x := x) G3 Q (by rw [n4 (v + 2) (by omega) (by omega), t3 (v + 2) (by omega)]) (by simp only [ut, and_self, if_true])
  refine ⟨h', σ', τ', ?_, G', Pq_cg Q (fun b hb => g1 b (by omega) (by omega)) ⟨g2 55 2 (by omega), g2 55 4 (by omega)⟩, ?_, g3, g4, fun b hb => ?_, fun a k ha => ?_⟩
  · have ca := call_v (lv := 12) cT (Pg_is G1) (by decide) (Nat.le_of_ble_eq_true rfl)
    have cb := call_v (lv := 12) cN (Pg_is GT) (by decide) (Nat.le_of_ble_eq_true rfl)
    obtain ⟨y0, fy0⟩ := H.2.2.2.2.2.2.2.1.2.2.1
    have f1 := hI H 55 4 1 rfl rfl
    have f7 := hI GN.1 55 4 7 rfl rfl
    simp only [k_Planner_gather, e_Planner_gather_0, e_Planner_gather_1, e_Planner_gather_2, e_Planner_gather_5, e_Planner_gather_6, e_Planner_gather_7, e_Planner_gather_10, e_Planner_gather_11, e_Planner_gather_14, e_Planner_gather_15, e_Planner_gather_18, e_Planner_gather_19, e_Planner_gather_20, e_Planner_gather_23, e_Planner_gather_24, m_get, m_put, m_ia, m_is, m_la, m_ls, fl_sf, fl_sa, fl_sl, fl_sq, ar_sf, ar_sa, ar_sl, ar_sq, lr_sf, lr_sa, lr_sl, lr_sq, qr_sf, qr_sa, qr_sl, qr_sq, sf_1, sf_2, sa_1, sa_2, sl_1, sl_2, Option.isSome_some, Option.map_some, Option.map_none, Option.toList_some, Option.toList_none, List.nil_append, List.cons_append, List.singleton_append, if_true, if_false, ↓reduceIte, and_self, and_true, true_and, and_false, false_and, not_true, not_false_iff, reduceCtorEq, Nat.reduceEqDiff, Nat.reduceAdd, Nat.reduceSub, Nat.reduceMul, Nat.reduceLT, Nat.reduceLeDiff, Nat.reduceBEq, eq_self, ne_eq, Nat.add_eq_zero_iff, Nat.add_left_cancel_iff, Nat.add_right_cancel_iff, Nat.left_eq_add, Nat.add_eq_left, Bool.true_or, Bool.or_true, Bool.or_self, or_self, or_true, true_or, or_false, false_or, decide_true, decide_false, i_10, i_01, fy0, f1, ca, cb, f7, fit1]
    exact c
  · rw [g2 55 1 (by omega), ut, if_neg (by omega), n5 55 1 (by omega), x2]
  · rw [g1 b (by omega) (by omega), n4 b (by omega) (by omega), t3 b (by omega)]
  · rw [g2 a k (by omega), ut, if_neg (by omega), n5 a k (by omega), t4 a k (by omega), ut, if_neg (by omega)]
end PH
