/-! The abstract heap by fields and rows. -/
def fl (h : xH) (a c k : Nat) : Option Value := match h.2.2 a with
  | some (.inr (c', fs)) => if c' = c then fs[k]? else none
  | _ => none
def ar (h : xH) (a t : Nat) : Option (Nat × (Nat → Int32)) := match h.2.2 a with
  | some (.inl (t', n, .inl g)) => if t' = t then some (n, g) else none
  | _ => none
def lr (h : xH) (a : Nat) : Option (Nat × (Nat → Int64)) := match h.2.2 a with
  | some (.inl (t', n, .inr (.inl g))) => if t' = 1 then some (n, g) else none
  | _ => none
def qr (h : xH) (a t : Nat) : Option (Nat × (Nat → Option Nat)) := match h.2.2 a with
  | some (.inl (t', n, .inr (.inr (.inr (.inr g))))) => if t' = t then some (n, g) else none
  | _ => none
def sf (h : xH) (a c k : Nat) (v : Value) : xH := match h.2.2 a with
  | some (.inr (c', fs)) => if c' = c then xup h a (.inr (c', fs.set k v)) else h
  | _ => h
def sa (h : xH) (a t : Nat) (g : Nat → Int32) : xH := match h.2.2 a with
  | some (.inl (t', n, .inl _)) => if t' = t then xup h a (.inl (t', n, .inl g)) else h
  | _ => h
def sl (h : xH) (a : Nat) (g : Nat → Int64) : xH := match h.2.2 a with
  | some (.inl (t', n, .inr (.inl _))) => if t' = 1 then xup h a (.inl (t', n, .inr (.inl g))) else h
  | _ => h
def sq (h : xH) (a t : Nat) (g : Nat → Option Nat) : xH := match h.2.2 a with
  | some (.inl (t', n, .inr (.inr (.inr (.inr _))))) => if t' = t then xup h a (.inl (t', n, .inr (.inr (.inr (.inr g))))) else h
  | _ => h
theorem sf_1 (h : xH) (a c k : Nat) (v : Value) : (sf h a c k v).1 = h.1 := by
  unfold sf
  split
  · split <;> rfl
  · rfl
theorem sf_2 (h : xH) (a c k : Nat) (v : Value) : (sf h a c k v).2.1 = h.2.1 := by
  unfold sf
  split
  · split <;> rfl
  · rfl
theorem sa_1 (h : xH) (a t : Nat) (g : Nat → Int32) : (sa h a t g).1 = h.1 := by
  unfold sa
  split
  · split <;> rfl
  · rfl
theorem sa_2 (h : xH) (a t : Nat) (g : Nat → Int32) : (sa h a t g).2.1 = h.2.1 := by
  unfold sa
  split
  · split <;> rfl
  · rfl
theorem sl_1 (h : xH) (a : Nat) (g : Nat → Int64) : (sl h a g).1 = h.1 := by
  unfold sl
  split
  · split <;> rfl
  · rfl
theorem sl_2 (h : xH) (a : Nat) (g : Nat → Int64) : (sl h a g).2.1 = h.2.1 := by
  unfold sl
  split
  · split <;> rfl
  · rfl
theorem sq_1 (h : xH) (a t : Nat) (g : Nat → Option Nat) : (sq h a t g).1 = h.1 := by
  unfold sq
  split
  · split <;> rfl
  · rfl
theorem sq_2 (h : xH) (a t : Nat) (g : Nat → Option Nat) : (sq h a t g).2.1 = h.2.1 := by
  unfold sq
  split
  · split <;> rfl
  · rfl
theorem xup_at (h : xH) (k : Nat) (c : xE) (j : Nat) : (xup h k c).2.2 j = if j = k then some c else h.2.2 j := rfl
/-- what is elsewhere stays -/
theorem sf_ne (h : xH) (a c k : Nat) (v : Value) {j : Nat} (hj : j ≠ a) : (sf h a c k v).2.2 j = h.2.2 j := by
  unfold sf
  split
  · split
    · rw [xup_at, if_neg hj]
    · rfl
  · rfl
theorem sa_ne (h : xH) (a t : Nat) (g : Nat → Int32) {j : Nat} (hj : j ≠ a) : (sa h a t g).2.2 j = h.2.2 j := by
  unfold sa
  split
  · split
    · rw [xup_at, if_neg hj]
    · rfl
  · rfl
theorem sl_ne (h : xH) (a : Nat) (g : Nat → Int64) {j : Nat} (hj : j ≠ a) : (sl h a g).2.2 j = h.2.2 j := by
  unfold sl
  split
  · split
    · rw [xup_at, if_neg hj]
    · rfl
  · rfl
theorem sq_ne (h : xH) (a t : Nat) (g : Nat → Option Nat) {j : Nat} (hj : j ≠ a) : (sq h a t g).2.2 j = h.2.2 j := by
  unfold sq
  split
  · split
    · rw [xup_at, if_neg hj]
    · rfl
  · rfl
theorem fl_ext {h h' : xH} {a : Nat} (e : h'.2.2 a = h.2.2 a) (c k : Nat) : fl h' a c k = fl h a c k := by unfold fl; rw [e]
theorem ar_ext {h h' : xH} {a : Nat} (e : h'.2.2 a = h.2.2 a) (t : Nat) : ar h' a t = ar h a t := by unfold ar; rw [e]
theorem lr_ext {h h' : xH} {a : Nat} (e : h'.2.2 a = h.2.2 a) : lr h' a = lr h a := by unfold lr; rw [e]
theorem qr_ext {h h' : xH} {a : Nat} (e : h'.2.2 a = h.2.2 a) (t : Nat) : qr h' a t = qr h a t := by unfold qr; rw [e]
theorem sf_at (h : xH) (a c k : Nat) (v : Value) {fs : List Value} (hz : h.2.2 a = some (.inr (c, fs))) : (sf h a c k v).2.2 a = some (.inr (c, fs.set k v)) := by
  unfold sf
  rw [hz]
  simp [xup_at]
theorem sf_no (h : xH) (a c k : Nat) (v : Value) (hz : ∀ fs, h.2.2 a ≠ some (.inr (c, fs))) : sf h a c k v = h := by
  unfold sf
  rcases hq : h.2.2 a with _ | (x | ⟨c0, fs⟩)
  · rfl
  · rfl
  · simp only
    by_cases q : c0 = c
    · subst q
      exact absurd hq (hz fs)
    · rw [if_neg q]
theorem fl_at (h : xH) (a c k : Nat) {c0 : Nat} {fs : List Value} (hz : h.2.2 a = some (.inr (c0, fs))) : fl h a c k = if c0 = c then fs[k]? else none := by
  unfold fl
  rw [hz]
theorem fl_sf (h : xH) (a c k : Nat) (v : Value) (a' c' k' : Nat) : fl (sf h a c k v) a' c' k' = if a' = a ∧ c' = c ∧ k' = k then (fl h a c k).map (fun _ => v) else fl h a' c' k' := by
  by_cases e : a' = a
  · subst e
    by_cases ex : ∃ fs, h.2.2 a' = some (.inr (c, fs))
    · obtain ⟨fs, hz⟩ := ex
      rw [fl_at _ a' c' k' (sf_at h a' c k v hz), fl_at _ a' c k hz, fl_at _ a' c' k' hz]
      by_cases q2 : c = c'
      · subst q2
        rw [if_pos rfl, if_pos rfl, if_pos rfl, List.getElem?_set]
        by_cases q3 : k' = k
        · subst q3
          by_cases hk : k' < fs.length
          · simp [hk]
          · simp [hk]
        · rw [if_neg (fun z => q3 z.symm), if_neg (fun z => q3 z.2.2)]
      · rw [if_neg q2, if_neg q2, if_neg (fun z => q2 z.2.1.symm)]
    · have hn : ∀ fs, h.2.2 a' ≠ some (.inr (c, fs)) := fun fs q => ex ⟨fs, q⟩
      rw [sf_no h a' c k v hn]
      by_cases q2 : a' = a' ∧ c' = c ∧ k' = k
      · rw [if_pos q2, q2.2.1, q2.2.2]
        have : fl h a' c k = none := by
          unfold fl
          rcases hq : h.2.2 a' with _ | (x | ⟨c0, fs⟩)
          · rfl
          · rfl
          · simp only
            rw [if_neg]
            intro q
            subst q
            exact hn fs hq
        rw [this]
        rfl
      · rw [if_neg q2]
  · rw [if_neg (fun z => e z.1), fl_ext (sf_ne h a c k v e)]
theorem fl_sa (h : xH) (a t : Nat) (g : Nat → Int32) (a' c' k' : Nat) : fl (sa h a t g) a' c' k' = fl h a' c' k' := by
  by_cases e : a' = a
  · subst e
    unfold sa fl
    rcases hz : h.2.2 a' with _ | (⟨t', n, (f | f | f | f | f)⟩ | ⟨c0, fs⟩) <;> simp only [hz]
    by_cases q : t' = t <;> simp [q, xup_at, hz]
  · exact fl_ext (sa_ne h a t g e) _ _
theorem fl_sl (h : xH) (a : Nat) (g : Nat → Int64) (a' c' k' : Nat) : fl (sl h a g) a' c' k' = fl h a' c' k' := by
  by_cases e : a' = a
  · subst e
    unfold sl fl
    rcases hz : h.2.2 a' with _ | (⟨t', n, (f | f | f | f | f)⟩ | ⟨c0, fs⟩) <;> simp only [hz]
    by_cases q : t' = 1 <;> simp [q, xup_at, hz]
  · exact fl_ext (sl_ne h a g e) _ _
theorem fl_sq (h : xH) (a t : Nat) (g : Nat → Option Nat) (a' c' k' : Nat) : fl (sq h a t g) a' c' k' = fl h a' c' k' := by
  by_cases e : a' = a
  · subst e
    unfold sq fl
    rcases hz : h.2.2 a' with _ | (⟨t', n, (f | f | f | f | f)⟩ | ⟨c0, fs⟩) <;> simp only [hz]
    by_cases q : t' = t <;> simp [q, xup_at, hz]
  · exact fl_ext (sq_ne h a t g e) _ _
theorem ar_sf (h : xH) (a c k : Nat) (v : Value) (a' t' : Nat) : ar (sf h a c k v) a' t' = ar h a' t' := by
  by_cases e : a' = a
  · subst e
    unfold sf ar
    rcases hz : h.2.2 a' with _ | (⟨t', n, (f | f | f | f | f)⟩ | ⟨c0, fs⟩) <;> simp only [hz]
    by_cases q : c0 = c <;> simp [q, xup_at, hz]
  · exact ar_ext (sf_ne h a c k v e) _
theorem lr_sf (h : xH) (a c k : Nat) (v : Value) (a' : Nat) : lr (sf h a c k v) a' = lr h a' := by
  by_cases e : a' = a
  · subst e
    unfold sf lr
    rcases hz : h.2.2 a' with _ | (⟨t', n, (f | f | f | f | f)⟩ | ⟨c0, fs⟩) <;> simp only [hz]
    by_cases q : c0 = c <;> simp [q, xup_at, hz]
  · exact lr_ext (sf_ne h a c k v e)
theorem qr_sf (h : xH) (a c k : Nat) (v : Value) (a' t' : Nat) : qr (sf h a c k v) a' t' = qr h a' t' := by
  by_cases e : a' = a
  · subst e
    unfold sf qr
    rcases hz : h.2.2 a' with _ | (⟨t', n, (f | f | f | f | f)⟩ | ⟨c0, fs⟩) <;> simp only [hz]
    by_cases q : c0 = c <;> simp [q, xup_at, hz]
  · exact qr_ext (sf_ne h a c k v e) _
theorem ar_sa (h : xH) (a t : Nat) (g : Nat → Int32) (a' t' : Nat) : ar (sa h a t g) a' t' = if a' = a ∧ t' = t then (ar h a t).map (fun q => (q.1, g)) else ar h a' t' := by
  by_cases e : a' = a
  · subst e
    have key : ∀ {h1 : xH} {t0 n : Nat} {f : Nat → Int32} (t1 : Nat), h1.2.2 a' = some (.inl (t0, n, .inl f)) → ar h1 a' t1 = if t0 = t1 then some (n, f) else none := by
      intro h1 t0 n f t1 hz
      unfold ar
      rw [hz]
    by_cases ex : ∃ n f, h.2.2 a' = some (.inl (t, n, .inl f))
    · obtain ⟨n, f, hz⟩ := ex
      have hz' : (sa h a' t g).2.2 a' = some (.inl (t, n, .inl g)) := by
        unfold sa
        rw [hz]
        simp [xup_at]
      rw [key t' hz', key t hz, key t' hz]
      by_cases q2 : t = t'
      · subst q2
        simp
      · rw [if_neg q2, if_neg q2, if_neg (fun z => q2 z.2.symm)]
    · have hn : sa h a' t g = h := by
        unfold sa
        rcases hq : h.2.2 a' with _ | (⟨t0, n, (f | f | f | f | f)⟩ | ⟨c0, fs⟩) <;> try rfl
        simp only
        rw [if_neg]
        intro q
        subst q
        exact ex ⟨n, f, hq⟩
      rw [hn]
      by_cases q2 : a' = a' ∧ t' = t
      · rw [if_pos q2, q2.2]
        have : ar h a' t = none := by
          unfold ar
          rcases hq : h.2.2 a' with _ | (⟨t0, n, (f | f | f | f | f)⟩ | ⟨c0, fs⟩) <;> try rfl
          simp only
          rw [if_neg]
          intro q
          subst q
          exact ex ⟨n, f, hq⟩
        rw [this]
        rfl
      · rw [if_neg q2]
  · rw [if_neg (fun z => e z.1), ar_ext (sa_ne h a t g e)]
theorem ar_sl (h : xH) (a : Nat) (g : Nat → Int64) (a' t' : Nat) : ar (sl h a g) a' t' = ar h a' t' := by
  by_cases e : a' = a
  · subst e
    unfold sl ar
    rcases hz : h.2.2 a' with _ | (⟨t', n, (f | f | f | f | f)⟩ | ⟨c0, fs⟩) <;> simp only [hz]
    by_cases q : t' = 1 <;> simp [q, xup_at, hz]
  · exact ar_ext (sl_ne h a g e) _
theorem ar_sq (h : xH) (a t : Nat) (g : Nat → Option Nat) (a' t' : Nat) : ar (sq h a t g) a' t' = ar h a' t' := by
  by_cases e : a' = a
  · subst e
    unfold sq ar
    rcases hz : h.2.2 a' with _ | (⟨t', n, (f | f | f | f | f)⟩ | ⟨c0, fs⟩) <;> simp only [hz]
    by_cases q : t' = t <;> simp [q, xup_at, hz]
  · exact ar_ext (sq_ne h a t g e) _
theorem lr_sa (h : xH) (a t : Nat) (g : Nat → Int32) (a' : Nat) : lr (sa h a t g) a' = lr h a' := by
  by_cases e : a' = a
  · subst e
    unfold sa lr
    rcases hz : h.2.2 a' with _ | (⟨t', n, (f | f | f | f | f)⟩ | ⟨c0, fs⟩) <;> simp only [hz]
    by_cases q : t' = t <;> simp [q, xup_at, hz]
  · exact lr_ext (sa_ne h a t g e)
theorem qr_sa (h : xH) (a t : Nat) (g : Nat → Int32) (a' t' : Nat) : qr (sa h a t g) a' t' = qr h a' t' := by
  by_cases e : a' = a
  · subst e
    unfold sa qr
    rcases hz : h.2.2 a' with _ | (⟨t', n, (f | f | f | f | f)⟩ | ⟨c0, fs⟩) <;> simp only [hz]
    by_cases q : t' = t <;> simp [q, xup_at, hz]
  · exact qr_ext (sa_ne h a t g e) _
theorem lr_sl (h : xH) (a : Nat) (g : Nat → Int64) (a' : Nat) : lr (sl h a g) a' = if a' = a then (lr h a).map (fun q => (q.1, g)) else lr h a' := by
  by_cases e : a' = a
  · subst e
    unfold sl lr
    rcases hz : h.2.2 a' with _ | (⟨t0, n, (f | f | f | f | f)⟩ | ⟨c0, fs⟩) <;> simp only [hz, Option.map_none, ite_self]
    by_cases q : t0 = 1
    · subst q
      simp [xup_at]
    · simp only [if_neg q, hz, Option.map_none, ite_self]
  · rw [if_neg e, lr_ext (sl_ne h a g e)]
theorem qr_sl (h : xH) (a : Nat) (g : Nat → Int64) (a' t' : Nat) : qr (sl h a g) a' t' = qr h a' t' := by
  by_cases e : a' = a
  · subst e
    unfold sl qr
    rcases hz : h.2.2 a' with _ | (⟨t', n, (f | f | f | f | f)⟩ | ⟨c0, fs⟩) <;> simp only [hz]
    by_cases q : t' = 1 <;> simp [q, xup_at, hz]
  · exact qr_ext (sl_ne h a g e) _
theorem lr_sq (h : xH) (a t : Nat) (g : Nat → Option Nat) (a' : Nat) : lr (sq h a t g) a' = lr h a' := by
  by_cases e : a' = a
  · subst e
    unfold sq lr
    rcases hz : h.2.2 a' with _ | (⟨t', n, (f | f | f | f | f)⟩ | ⟨c0, fs⟩) <;> simp only [hz]
    by_cases q : t' = t <;> simp [q, xup_at, hz]
  · exact lr_ext (sq_ne h a t g e)
theorem qr_sq (h : xH) (a t : Nat) (g : Nat → Option Nat) (a' t' : Nat) : qr (sq h a t g) a' t' = if a' = a ∧ t' = t then (qr h a t).map (fun q => (q.1, g)) else qr h a' t' := by
  by_cases e : a' = a
  · subst e
    have key : ∀ {h1 : xH} {t0 n : Nat} {f : Nat → Option Nat} (t1 : Nat), h1.2.2 a' = some (.inl (t0, n, .inr (.inr (.inr (.inr f))))) → qr h1 a' t1 = if t0 = t1 then some (n, f) else none := by
      intro h1 t0 n f t1 hz
      unfold qr
      rw [hz]
    by_cases ex : ∃ n f, h.2.2 a' = some (.inl (t, n, .inr (.inr (.inr (.inr f)))))
    · obtain ⟨n, f, hz⟩ := ex
      have hz' : (sq h a' t g).2.2 a' = some (.inl (t, n, .inr (.inr (.inr (.inr g))))) := by
        unfold sq
        rw [hz]
        simp [xup_at]
      rw [key t' hz', key t hz, key t' hz]
      by_cases q2 : t = t'
      · subst q2
        simp
      · rw [if_neg q2, if_neg q2, if_neg (fun z => q2 z.2.symm)]
    · have hn : sq h a' t g = h := by
        unfold sq
        rcases hq : h.2.2 a' with _ | (⟨t0, n, (f | f | f | f | f)⟩ | ⟨c0, fs⟩) <;> try rfl
        simp only
        rw [if_neg]
        intro q
        subst q
        exact ex ⟨n, f, hq⟩
      rw [hn]
      by_cases q2 : a' = a' ∧ t' = t
      · rw [if_pos q2, q2.2]
        have : qr h a' t = none := by
          unfold qr
          rcases hq : h.2.2 a' with _ | (⟨t0, n, (f | f | f | f | f)⟩ | ⟨c0, fs⟩) <;> try rfl
          simp only
          rw [if_neg]
          intro q
          subst q
          exact ex ⟨n, f, hq⟩
        rw [this]
        rfl
      · rw [if_neg q2]
  · rw [if_neg (fun z => e z.1), qr_ext (sq_ne h a t g e)]
/-- the instructions' reads and writes by fields and rows -/
theorem m_get (h : xH) (a c k : Nat) (f : Value → xQ) : rgt h a c k f = match fl h a c k with
  | some v => f v
  | none => none := by
  unfold rgt fl
  rcases hz : h.2.2 a with _ | (x | ⟨c0, fs⟩)
  · rfl
  · rfl
  · simp only
    by_cases q : c0 = c
    · rw [if_pos q, if_pos q]
      cases fs[k]? <;> rfl
    · rw [if_neg q, if_neg q]
theorem m_put (h : xH) (a c k : Nat) (b : Bool) (v : Value) (f : xH → xQ) : rpt h a c k b v f = if (fl h a c k).isSome = true ∧ b = true then f (sf h a c k v) else none := by
  unfold rpt fl sf
  rcases hz : h.2.2 a with _ | (x | ⟨c0, fs⟩)
  · rfl
  · rfl
  · simp only
    by_cases q : c0 = c
    · rw [if_pos q, if_pos q]
      by_cases hk : k < fs.length
      · simp [q, hk]
      · simp [hk]
    · rw [if_neg (fun z => q z.1), if_neg q]
      rfl
theorem m_ia (h : xH) (t a : Nat) (i : Int32) (f : Int32 → xQ) : ria h t a i f = if a = 0 then none else match ar h a t with
  | some q => if xinB i q.1 = true then f (q.2 i.toNatClampNeg) else none
  | none => none := by
  unfold ria ar
  by_cases ha : a = 0
  · rw [if_pos ha, if_pos ha]
  · rw [if_neg ha, if_neg ha]
    rcases hz : h.2.2 a with _ | (⟨t0, n, (g | g | g | g | g)⟩ | ⟨c0, fs⟩) <;> try rfl
    simp only
    by_cases q : t0 = t
    · simp [q]
    · simp [q]
theorem m_is (h : xH) (t a : Nat) (i x : Int32) (f : xH → xQ) : ris h t a i x f = match ar h a t with
  | some q => if xinB i q.1 = true then f (sa h a t (upd q.2 i.toNatClampNeg x)) else none
  | none => none := by
  unfold ris ar sa
  rcases hz : h.2.2 a with _ | (⟨t0, n, (g | g | g | g | g)⟩ | ⟨c0, fs⟩) <;> try rfl
  simp only
  by_cases q : t0 = t
  · simp [q]
  · simp [q]
theorem m_la (h : xH) (a : Nat) (i : Int32) (f : Int64 → xQ) : rla h a i f = match lr h a with
  | some q => if xinB i q.1 = true then f (q.2 i.toNatClampNeg) else none
  | none => none := by
  unfold rla lr
  rcases hz : h.2.2 a with _ | (⟨t0, n, (g | g | g | g | g)⟩ | ⟨c0, fs⟩) <;> try rfl
  simp only
  by_cases q : t0 = 1
  · simp [q]
  · simp [q]
theorem m_ls (h : xH) (a : Nat) (i : Int32) (x : Int64) (f : xH → xQ) : rls h a i x f = match lr h a with
  | some q => if xinB i q.1 = true then f (sl h a (vp_updL q.2 i.toNatClampNeg x)) else none
  | none => none := by
  unfold rls lr sl
  rcases hz : h.2.2 a with _ | (⟨t0, n, (g | g | g | g | g)⟩ | ⟨c0, fs⟩) <;> try rfl
  simp only
  by_cases q : t0 = 1
  · simp [q]
  · simp [q]
theorem m_aa (h : xH) (a : Nat) (i : Int32) (f : Nat → xQ) : raa h a i f = match qr h a 3 with
  | some q => if xinB i q.1 = true then (match q.2 i.toNatClampNeg with
    | some k => f k
    | none => none) else none
  | none => match qr h a 4 with
    | some q => if xinB i q.1 = true then (match q.2 i.toNatClampNeg with
      | some k => f k
      | none => none) else none
    | none => none := by
  unfold raa qr
  rcases hz : h.2.2 a with _ | (⟨t0, n, (g | g | g | g | g)⟩ | ⟨c0, fs⟩) <;> try rfl
  simp only
  by_cases q : t0 = 3
  · simp [q] <;> rfl
  · by_cases q4 : t0 = 4
    · simp [q4] <;> rfl
    · simp [q, q4]
theorem m_as (h : xH) (a v : Nat) (i : Int32) (f : xH → xQ) (hv : (fl h v 0 0).isSome = true) : ras h a i v f = match qr h a 3 with
  | some q => if xinB i q.1 = true then f (sq h a 3 (va_up q.2 i.toNatClampNeg (some v))) else none
  | none => none := by
  unfold fl at hv
  rcases hy : h.2.2 v with _ | (y | ⟨c1, fs1⟩)
  · rw [hy] at hv; cases hv
  · rw [hy] at hv; cases hv
  · rw [hy] at hv
    simp only at hv
    by_cases q1 : c1 = 0
    · subst q1
      unfold ras qr sq
      rw [hy]
      rcases hz : h.2.2 a with _ | (⟨t0, n, (g | g | g | g | g)⟩ | ⟨c0, fs⟩) <;> try rfl
      simp only
      by_cases q : t0 = 3
      · simp [q]
      · simp [q]
    · rw [if_neg q1] at hv
      cases hv
theorem m_as4 (h : xH) (a v : Nat) (i : Int32) (f : xH → xQ) (hv : (fl h v 3 0).isSome = true) : ras h a i v f = match qr h a 4 with
  | some q => if xinB i q.1 = true then f (sq h a 4 (va_up q.2 i.toNatClampNeg (some v))) else none
  | none => none := by
  unfold fl at hv
  rcases hy : h.2.2 v with _ | (y | ⟨c1, fs1⟩)
  · rw [hy] at hv; cases hv
  · rw [hy] at hv; cases hv
  · rw [hy] at hv
    simp only at hv
    by_cases q1 : c1 = 3
    · subst q1
      unfold ras qr sq
      rw [hy]
      rcases hz : h.2.2 a with _ | (⟨t0, n, (g | g | g | g | g)⟩ | ⟨c0, fs⟩) <;> try rfl
      simp only
      by_cases q : t0 = 4
      · simp [q]
      · simp [q]
    · rw [if_neg q1] at hv
      cases hv
theorem m_lnI (h : xH) (a : Nat) {n : Nat} {g : Nat → Int32} (f : Int32 → xQ) (ha : ar h a 0 = some (n, g)) (h0 : a ≠ 0) : rln h a f = f (Int32.ofNat n) := by
  unfold ar at ha
  unfold rln
  rw [if_neg h0]
  rcases hz : h.2.2 a with _ | (⟨t0, n, (g | g | g | g | g)⟩ | ⟨c0, fs⟩) <;> rw [hz] at ha <;> simp only at ha <;> try cases ha
  split at ha
  · rename_i q
    subst q
    cases ha
    rfl
  · cases ha
theorem m_lnQ (h : xH) (a t : Nat) (ht : t < 5) {n : Nat} {g : Nat → Option Nat} (f : Int32 → xQ) (ha : qr h a t = some (n, g)) (h0 : a ≠ 0) : rln h a f = f (Int32.ofNat n) := by
  unfold qr at ha
  unfold rln
  rw [if_neg h0]
  rcases hz : h.2.2 a with _ | (⟨t0, n, (g | g | g | g | g)⟩ | ⟨c0, fs⟩) <;> rw [hz] at ha <;> simp only at ha <;> try cases ha
  split at ha
  · rename_i q
    subst q
    cases ha
    simp only
    rw [if_pos ht]
  · cases ha
theorem m_cp (h : xH) (a a' : Nat) (sp dp n : Int32) (f : xH → xQ) : rcp h a a' sp dp n f = match ar h a 0, ar h a' 0 with
  | some q, some q' => if ¬ sp < 0 ∧ ¬ dp < 0 ∧ ¬ n < 0 ∧ sp.toNatClampNeg + n.toNatClampNeg ≤ q.1 ∧ dp.toNatClampNeg + n.toNatClampNeg ≤ q'.1 then f (sa h a' 0 (va_cpy q.2 q'.2 sp.toNatClampNeg dp.toNatClampNeg n.toNatClampNeg)) else none
  | _, _ => none := by
  unfold rcp ar sa
  rcases hz : h.2.2 a with _ | (⟨(_ | t0), n0, (g | g | g | g | g)⟩ | ⟨c0, fs⟩) <;> rcases hy : h.2.2 a' with _ | (⟨(_ | t1), n1, (g' | g' | g' | g' | g')⟩ | ⟨c1, fs1⟩) <;> first | rfl | simp
/-- the receiver's class, by one of its fields -/
theorem m_rc (h : xH) (M : xM) (a : Nat) (r : List Value) (hc : (fl h a (xmo M) 0).isSome = true) (hm : xmo M < 10) : xrc h M (.ref a :: r) = true := by
  unfold fl at hc
  unfold xrc
  rcases hy : h.2.2 a with _ | (y | ⟨c1, fs1⟩)
  · rw [hy] at hc; cases hc
  · rw [hy] at hc; cases hc
  · rw [hy] at hc
    simp only at hc ⊢
    by_cases q : c1 = xmo M
    · subst q
      rw [hy]
      show (xmo M == xmo M && decide (xmo M < 10)) = true
      rw [decide_eq_true hm, beq_self_eq_true]
      rfl
    · rw [if_neg q] at hc
      cases hc
theorem m_cv (lv : Nat) (M : xM) (a : Nat) (r : List Value) (h : xH) (f : Option Value → xH → xQ) (hc : (fl h a (xmo M) 0).isSome = true) (hm : xmo M < 10) (hk : xmk M (.ref a :: r) < lv) : rcv lv M (.ref a :: r) h f = match xC M (.ref a :: r) h with
  | some (v, h') => f v h'
  | none => none := by
  unfold rcv
  rw [if_pos ⟨m_rc h M a r hc hm, hk⟩]
  rfl
theorem m_cl (lv : Nat) (M : xM) (a : List Value) (h : xH) (f : Option Value → xH → xQ) (hk : xmk M a < lv) : rcl lv M a h f = match xC M a h with
  | some (v, h') => f v h'
  | none => none := by
  unfold rcl
  rw [if_pos hk]
  rfl
/-- two writes at one place -/
theorem sa_sa (h : xH) (a t : Nat) (g g' : Nat → Int32) : sa (sa h a t g) a t g' = sa h a t g' := by
  unfold sa
  rcases hz : h.2.2 a with _ | (⟨t0, n, (f | f | f | f | f)⟩ | ⟨c0, fs⟩) <;> simp only [hz]
  by_cases q : t0 = t
  · simp only [q, if_true, xup_at]
    unfold xup
    simp only
    congr 2
    funext j
    by_cases qj : j = a <;> simp [qj]
  · simp [q, hz]
theorem sl_sl (h : xH) (a : Nat) (g g' : Nat → Int64) : sl (sl h a g) a g' = sl h a g' := by
  unfold sl
  rcases hz : h.2.2 a with _ | (⟨t0, n, (f | f | f | f | f)⟩ | ⟨c0, fs⟩) <;> simp only [hz]
  by_cases q : t0 = 1
  · simp only [q, if_true, xup_at]
    unfold xup
    simp only
    congr 2
    funext j
    by_cases qj : j = a <;> simp [qj]
  · simp [q, hz]
theorem sf_sf (h : xH) (a c k : Nat) (v v' : Value) : sf (sf h a c k v) a c k v' = sf h a c k v' := by
  by_cases ex : ∃ fs, h.2.2 a = some (.inr (c, fs))
  · obtain ⟨fs, hz⟩ := ex
    have e1 : sf h a c k v = xup h a (.inr (c, fs.set k v)) := by
      unfold sf
      rw [hz]
      simp
    have e2 : sf h a c k v' = xup h a (.inr (c, fs.set k v')) := by
      unfold sf
      rw [hz]
      simp
    have hz2 : (xup h a (.inr (c, fs.set k v))).2.2 a = some (.inr (c, fs.set k v)) := by rw [xup_at, if_pos rfl]
    rw [e1, e2]
    unfold sf
    rw [hz2]
    simp only [if_true, List.set_set]
    unfold xup
    simp only
    congr 2
    funext j
    by_cases qj : j = a <;> simp [qj]
  · have hn : ∀ fs, h.2.2 a ≠ some (.inr (c, fs)) := fun fs q => ex ⟨fs, q⟩
    rw [sf_no h a c k v hn]
/-- a frame: all but the cells of a set are as they were -/
def fr (P : Nat → Prop) (h h' : xH) : Prop := h'.1 = h.1 ∧ h'.2.1 = h.2.1 ∧ ∀ j, ¬ P j → h'.2.2 j = h.2.2 j
theorem fr_refl (P : Nat → Prop) (h : xH) : fr P h h := ⟨rfl, rfl, fun _ _ => rfl⟩
theorem fr_trans {P : Nat → Prop} {h h1 h2 : xH} (a : fr P h h1) (b : fr P h1 h2) : fr P h h2 := ⟨b.1.trans a.1, b.2.1.trans a.2.1, fun j hj => (b.2.2 j hj).trans (a.2.2 j hj)⟩
theorem fr_mono {P P' : Nat → Prop} {h h1 : xH} (a : fr P h h1) (hp : ∀ j, P j → P' j) : fr P' h h1 := ⟨a.1, a.2.1, fun j hj => a.2.2 j (fun q => hj (hp j q))⟩
theorem fr_sf {P : Nat → Prop} {h h1 : xH} {a c k : Nat} {v : Value} (f : fr P h h1) (ha : P a) : fr P h (sf h1 a c k v) := ⟨(sf_1 _ _ _ _ _).trans f.1, (sf_2 _ _ _ _ _).trans f.2.1, fun j hj => (sf_ne _ _ _ _ _ (fun q : j = a => hj (by rw [q]; exact ha))).trans (f.2.2 j hj)⟩
theorem fr_sa {P : Nat → Prop} {h h1 : xH} {a t : Nat} {g : Nat → Int32} (f : fr P h h1) (ha : P a) : fr P h (sa h1 a t g) := ⟨(sa_1 _ _ _ _).trans f.1, (sa_2 _ _ _ _).trans f.2.1, fun j hj => (sa_ne _ _ _ _ (fun q : j = a => hj (by rw [q]; exact ha))).trans (f.2.2 j hj)⟩
theorem fr_sl {P : Nat → Prop} {h h1 : xH} {a : Nat} {g : Nat → Int64} (f : fr P h h1) (ha : P a) : fr P h (sl h1 a g) := ⟨(sl_1 _ _ _).trans f.1, (sl_2 _ _ _).trans f.2.1, fun j hj => (sl_ne _ _ _ (fun q : j = a => hj (by rw [q]; exact ha))).trans (f.2.2 j hj)⟩
theorem fr_sq {P : Nat → Prop} {h h1 : xH} {a t : Nat} {g : Nat → Option Nat} (f : fr P h h1) (ha : P a) : fr P h (sq h1 a t g) := ⟨(sq_1 _ _ _ _).trans f.1, (sq_2 _ _ _ _).trans f.2.1, fun j hj => (sq_ne _ _ _ _ (fun q : j = a => hj (by rw [q]; exact ha))).trans (f.2.2 j hj)⟩
theorem fr_fl {P : Nat → Prop} {h h' : xH} (f : fr P h h') {a : Nat} (ha : ¬ P a) (c k : Nat) : fl h' a c k = fl h a c k := fl_ext (f.2.2 a ha) c k
theorem fr_ar {P : Nat → Prop} {h h' : xH} (f : fr P h h') {a : Nat} (ha : ¬ P a) (t : Nat) : ar h' a t = ar h a t := ar_ext (f.2.2 a ha) t
theorem fr_lr {P : Nat → Prop} {h h' : xH} (f : fr P h h') {a : Nat} (ha : ¬ P a) : lr h' a = lr h a := lr_ext (f.2.2 a ha)
theorem fr_qr {P : Nat → Prop} {h h' : xH} (f : fr P h h') {a : Nat} (ha : ¬ P a) (t : Nat) : qr h' a t = qr h a t := qr_ext (f.2.2 a ha) t
/-- an index that is a number -/
theorem xin_nI {j n : Nat} (hj : j < n) (hn : n < 2 ^ 31) : xinB (nI j) n = true := decide_eq_true (vp_in_nI hj hn)
theorem xin_ok {i : Int32} {n : Nat} (h : vp_in i n) : xinB i n = true := decide_eq_true h
