
theorem s_u64 : ∀ k, k < 8 → (((nI (8 * k)).toInt64.toUInt64 &&& Int64.toUInt64 63).toBitVec % 64).toNat = 8 * k := by decide +kernel
theorem s_s64 : ∀ k, k < 8 → (((nI (8 * k)).toInt64 &&& 63).toBitVec.smod 64).toNat = 8 * k := by decide +kernel
def bC (v : Int64) (m : Int32) : Int32 := (v.toUInt64 >>> (m.toInt64.toUInt64 &&& Int64.toUInt64 63)).toInt64.toInt32 &&& 255
def bM (v : Int64) (m : Int32) : Int32 := ((v >>> (m.toInt64 &&& 63)) &&& 255).toInt32
theorem b_t32 (x : Int64) {i : Nat} (hi : i < 32) : bt x.toInt32 i = x.toBitVec.getLsbD i := by
  unfold bt
  rw [Int64.toBitVec_toInt32, BitVec.getLsbD_signExtend]
  simp [hi, show i < 64 by omega]
theorem l_255 : ∀ i, i < 64 → (255 : Int64).toBitVec.getLsbD i = decide (i < 8) := by decide +kernel
theorem byte_eq (v : Int64) {k : Nat} (hk : k < 8) : bC v (nI (8 * k)) = bM v (nI (8 * k)) := by
  refine b_ext fun i hi => ?_
  unfold bC bM
  rw [b_and, b_255, b_t32 _ hi, b_t32 _ hi]
  have e1 : (v.toUInt64 >>> ((nI (8 * k)).toInt64.toUInt64 &&& Int64.toUInt64 63)).toInt64.toBitVec.getLsbD i = v.toBitVec.getLsbD (8 * k + i) := by
    show (v.toUInt64 >>> ((nI (8 * k)).toInt64.toUInt64 &&& Int64.toUInt64 63)).toBitVec.getLsbD i = v.toUInt64.toBitVec.getLsbD (8 * k + i)
    rw [UInt64.toBitVec_shiftRight]
    show (v.toUInt64.toBitVec >>> (((nI (8 * k)).toInt64.toUInt64 &&& Int64.toUInt64 63).toBitVec % 64).toNat).getLsbD i = _
    rw [s_u64 k hk, BitVec.getLsbD_ushiftRight]
  have e2 : (v >>> ((nI (8 * k)).toInt64 &&& 63)).toBitVec.getLsbD i = if 8 * k + i < 64 then v.toBitVec.getLsbD (8 * k + i) else v.toBitVec.msb := by
    rw [Int64.toBitVec_shiftRight]
    show (v.toBitVec.sshiftRight (((nI (8 * k)).toInt64 &&& 63).toBitVec.smod 64).toNat).getLsbD i = _
    rw [s_s64 k hk, BitVec.getLsbD_sshiftRight]
    simp [show i < 64 by omega]
  rw [e1, Int64.toBitVec_and, BitVec.getLsbD_and, e2, l_255 i (by omega)]
  by_cases w : i < 8
  · rw [if_pos (by omega)]
  · simp [w]
def lfv (n i : Nat) : Int32 := if i < n then nI (n - 1 - i) else -1
theorem lfv_1 : ∀ n, n < 9 → ∀ i, i < n → lfv n i + (-1) = lfv n (i + 1) ∧ ¬ lfv n i < 0 ∧ 8 * lfv n i = nI (8 * (n - 1 - i)) := by decide +kernel
theorem lfv_0 : ∀ n, n < 9 → 1 ≤ n → lfv n 0 = nI n - 1 ∧ lfv n n < 0 := by decide +kernel
theorem sf_id {h : xH} {a c k : Nat} {w : Value} (hf : fl h a c k = some w) : sf h a c k w = h := by
  unfold fl at hf
  unfold sf
  rcases hz : h.2.2 a with _ | (x | ⟨c0, fs⟩) <;> rw [hz] at hf <;> simp only at hf <;> try cases hf
  split at hf
  · rename_i qq
    subst qq
    simp only [if_true]
    have : fs.set k w = fs := by
      apply List.ext_getElem?
      intro i
      rw [List.getElem?_set]
      split
      · rename_i e
        subst e
        split
        · exact hf.symm
        · rename_i w2
          rw [List.getElem?_eq_none (by omega)] at hf
          cases hf
      · rfl
    rw [this]
    unfold xup
    refine Prod.ext rfl (Prod.ext rfl ?_)
    funext j
    simp only
    by_cases qj : j = a
    · rw [if_pos qj, qj, hz]
    · rw [if_neg qj]
  · cases hf
/-- writes at two places may change places -/
theorem sa_sf (h : xH) {a t b c k : Nat} {g : Nat → Int32} {w : Value} (hn : b ≠ a) : sa (sf h b c k w) a t g = sf (sa h a t g) b c k w := by
  have e1 : (sf h b c k w).2.2 a = h.2.2 a := sf_ne h b c k w (fun e => hn e.symm)
  have e2 : (sa h a t g).2.2 b = h.2.2 b := sa_ne h a t g hn
  refine Prod.ext (by rw [sa_1, sf_1, sf_1, sa_1]) (Prod.ext (by rw [sa_2, sf_2, sf_2, sa_2]) ?_)
  funext j
  by_cases ja : j = a
  · subst ja
    rw [sf_ne _ _ _ _ _ (fun e => hn e.symm)]
    unfold sa
    rw [e1]
    rcases hz : h.2.2 j with _ | (⟨t0, n0, (f | f | f | f | f)⟩ | ⟨c0, fs⟩) <;> simp only [hz, e1]
    by_cases qt : t0 = t
    · rw [if_pos qt, if_pos qt, xup_at, xup_at, if_pos rfl, if_pos rfl]
    · rw [if_neg qt, if_neg qt, e1, hz]
  · rw [sa_ne _ _ _ _ ja]
    by_cases jb : j = b
    · subst jb
      unfold sf
      rw [e2]
      rcases hz : h.2.2 j with _ | (x | ⟨c0, fs⟩) <;> simp only [hz, e2]
      by_cases qc : c0 = c
      · rw [if_pos qc, if_pos qc, xup_at, xup_at, if_pos rfl, if_pos rfl]
      · rw [if_neg qc, if_neg qc, e2, hz]
    · rw [sf_ne _ _ _ _ _ jb, sf_ne _ _ _ _ _ jb, sa_ne _ _ _ _ ja]
section WR
variable {h : xH} {σ τ : Nat → Nat → Int32} {v s : Nat} {q : Nat → Nat} {e1 e2 : Int64} {p t n A X len : Nat}
theorem c_write (H : Hp h σ τ v s q e1 e2) {k : Nat} (k1 : 1 ≤ k) (k8 : k ≤ 8) (hl : len + k ≤ 90) (ht : τ 1 1 = nI len) (x : Int64) : ∃ h', xC M_Sp_write [.ref 1, .int (nI k), .long x] h = some (some (.int (nI (len + k))), h') ∧ Hp h' (us σ 2 (cpI (σ 2) (fun d => bC x (nI (8 * (k - 1 - d)))) len k)) (ut τ 1 1 (nI (len + k))) v s q e1 e2 := by
  have H1 := Hp_sf (c := 8) (Hp_sa (t := 0) (n := 90) H (a := 2) rfl rfl (cpI (σ 2) (fun d => bC x (nI (8 * (k - 1 - d)))) len k)) (a := 1) (k := 1) rfl rfl (nI (len + k))
  refine ⟨_, ?_, H1⟩
  have f0 := hR H 1 8 0 2 rfl rfl
  have f1 := hI H 1 8 1 rfl rfl
  rw [ht] at f1
  have r2 := hA H 2 0 90 rfl rfl
  have y1 : ¬ nI k < 1 := nI_nlt (b := 1) k1 (by omega)
  have y2 : nI k ≤ 8 := nI_le (b := 8) k8 (by decide)
  have y3 : nI (len + k) ≤ 90 := nI_le (b := 90) hl (by decide)
  obtain ⟨z0, z1⟩ := lfv_0 k (by omega) k1
  simp only [k_Sp_write, e_Sp_write_0, e_Sp_write_1, e_Sp_write_2, e_Sp_write_5, e_Sp_write_6, e_Sp_write_8, e_Sp_write_11, e_Sp_write_13, e_Sp_write_14, e_Sp_write_15, e_Sp_write_18, e_Sp_write_19, e_Sp_write_20, e_Sp_write_22, e_Sp_write_25, e_Sp_write_27, e_Sp_write_28, e_Sp_write_29, e_Sp_write_30, e_Sp_write_31, m_get, m_put, m_ia, m_is, m_la, m_ls, fl_sf, fl_sa, fl_sl, fl_sq, ar_sf, ar_sa, ar_sl, ar_sq, lr_sf, lr_sa, lr_sl, lr_sq, qr_sf, qr_sa, qr_sl, qr_sq, sf_1, sf_2, sa_1, sa_2, sl_1, sl_2, Option.isSome_some, Option.map_some, Option.map_none, Option.toList_some, Option.toList_none, List.nil_append, List.cons_append, List.singleton_append, if_true, if_false, ↓reduceIte, and_self, and_true, true_and, and_false, false_and, not_true, not_false_iff, reduceCtorEq, Nat.reduceEqDiff, Nat.reduceAdd, Nat.reduceSub, Nat.reduceMul, Nat.reduceLT, Nat.reduceLeDiff, Nat.reduceBEq, eq_self, ne_eq, Nat.add_eq_zero_iff, Nat.add_left_cancel_iff, Nat.add_right_cancel_iff, Nat.left_eq_add, Nat.add_eq_left, Bool.true_or, Bool.or_true, Bool.or_self, or_self, or_true, true_or, or_false, false_or, decide_true, decide_false, i_10, i_01, f1, y1, y2, nI_add, y3]
  have key := loop_dn (t := k) (P := fun i => xR none 0 M_Sp_write 33 [some (.ref 1), some (.int (nI k)), some (.long x), none, some (.int (lfv k i))] [] (sf (sa h 2 0 (cpI (σ 2) (fun d => bC x (nI (8 * (k - 1 - d)))) len i)) 1 8 1 (.int (nI (len + i)))) = some (some (.int (nI (len + k))), sf (sa h 2 0 (cpI (σ 2) (fun d => bC x (nI (8 * (k - 1 - d)))) len k)) 1 8 1 (.int (nI (len + k))))) ?_ ?_ 0 (Nat.zero_le _)
  · rw [cpI_0, sa_self r2, z0, Nat.add_zero, sf_id f1] at key
    exact key
  · simp only [e_Sp_write_33, e_Sp_write_35, e_Sp_write_75, e_Sp_write_76, e_Sp_write_79, m_get, m_put, m_ia, m_is, m_la, m_ls, fl_sf, fl_sa, fl_sl, fl_sq, ar_sf, ar_sa, ar_sl, ar_sq, lr_sf, lr_sa, lr_sl, lr_sq, qr_sf, qr_sa, qr_sl, qr_sq, sf_1, sf_2, sa_1, sa_2, sl_1, sl_2, Option.isSome_some, Option.map_some, Option.map_none, Option.toList_some, Option.toList_none, List.nil_append, List.cons_append, List.singleton_append, if_true, if_false, ↓reduceIte, and_self, and_true, true_and, and_false, false_and, not_true, not_false_iff, reduceCtorEq, Nat.reduceEqDiff, Nat.reduceAdd, Nat.reduceSub, Nat.reduceMul, Nat.reduceLT, Nat.reduceLeDiff, Nat.reduceBEq, eq_self, ne_eq, Nat.add_eq_zero_iff, Nat.add_left_cancel_iff, Nat.add_right_cancel_iff, Nat.left_eq_add, Nat.add_eq_left, Bool.true_or, Bool.or_true, Bool.or_self, or_self, or_true, true_or, or_false, false_or, decide_true, decide_false, i_10, i_01, z1, f1]
  · intro i hi ih
    obtain ⟨w1, w2, w3⟩ := lfv_1 k (by omega) i hi
    have il := xin_nI (show len + i < 90 by omega) (by decide)
    have cl := nI_clamp (show len + i < 2 ^ 31 by omega)
    have ee : bC x (nI (8 * (k - 1 - i))) = (x.toUInt64 >>> ((nI (8 * (k - 1 - i))).toInt64.toUInt64 &&& Int64.toUInt64 63)).toInt64.toInt32 &&& 255 := rfl
    have hh : sf (sa (sf (sa h 2 0 (cpI (σ 2) (fun d => bC x (nI (8 * (k - 1 - d)))) len i)) 1 8 1 (.int (nI (len + i)))) 2 0 (upd (cpI (σ 2) (fun d => bC x (nI (8 * (k - 1 - d)))) len i) (len + i) (bC x (nI (8 * (k - 1 - i)))))) 1 8 1 (.int (nI (len + i + 1))) = sf (sa h 2 0 (cpI (σ 2) (fun d => bC x (nI (8 * (k - 1 - d)))) len (i + 1))) 1 8 1 (.int (nI (len + (i + 1)))) := by
      rw [sa_sf _ (by omega), sf_sf, sa_sa, cpI_s (σ 2) (fun d => bC x (nI (8 * (k - 1 - d)))) len i]
      rfl
    rw [← hh, ← w1] at ih
    rw [e_Sp_write_33]
    simp only [e_Sp_write_35, e_Sp_write_38, e_Sp_write_39, e_Sp_write_42, e_Sp_write_43, e_Sp_write_46, e_Sp_write_47, e_Sp_write_49, e_Sp_write_51, e_Sp_write_52, e_Sp_write_53, e_Sp_write_54, e_Sp_write_57, e_Sp_write_58, e_Sp_write_59, e_Sp_write_60, e_Sp_write_61, e_Sp_write_64, e_Sp_write_65, e_Sp_write_66, e_Sp_write_69, e_Sp_write_72, m_get, m_put, m_ia, m_is, m_la, m_ls, fl_sf, fl_sa, fl_sl, fl_sq, ar_sf, ar_sa, ar_sl, ar_sq, lr_sf, lr_sa, lr_sl, lr_sq, qr_sf, qr_sa, qr_sl, qr_sq, sf_1, sf_2, sa_1, sa_2, sl_1, sl_2, Option.isSome_some, Option.map_some, Option.map_none, Option.toList_some, Option.toList_none, List.nil_append, List.cons_append, List.singleton_append, if_true, if_false, ↓reduceIte, and_self, and_true, true_and, and_false, false_and, not_true, not_false_iff, reduceCtorEq, Nat.reduceEqDiff, Nat.reduceAdd, Nat.reduceSub, Nat.reduceMul, Nat.reduceLT, Nat.reduceLeDiff, Nat.reduceBEq, eq_self, ne_eq, Nat.add_eq_zero_iff, Nat.add_left_cancel_iff, Nat.add_right_cancel_iff, Nat.left_eq_add, Nat.add_eq_left, Bool.true_or, Bool.or_true, Bool.or_self, or_self, or_true, true_or, or_false, false_or, decide_true, decide_false, i_10, i_01, w2, w3, f0, f1, r2, il, cl, nI_1]
    rw [ee] at ih
    exact ih
end WR
