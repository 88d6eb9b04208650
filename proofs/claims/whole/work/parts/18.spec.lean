/-! what a text says: the language, place by place -/
theorem tkx {t : Nat → Nat} {n a k : Nat} (h : tk t n a k = true) (j : Nat) (hj : j ≠ k) : tk t n a j = false := tk_f (Or.inr (by rw [tk_eq h]; exact fun e => hj e.symm))
/-- a name that may stand on the bus -/
def src (t : Nat → Nat) (n a : Nat) : Option Nat := if a < n then (match ixS 0 (t a) with
  | some k => if k = 0 ∨ k = 8 then none else some k
  | none => none) else none
theorem src_out {t : Nat → Nat} {n a : Nat} (h : n ≤ a) : src t n a = none := if_neg (by omega)
theorem src_none {t : Nat → Nat} {n a : Nat} (h : ixS 0 (t a) = none) : src t n a = none := by
  unfold src; split
  · rw [h]
  · rfl
theorem src_bad {t : Nat → Nat} {n a k : Nat} (h : ixS 0 (t a) = some k) (hk : k = 0 ∨ k = 8) : src t n a = none := by
  unfold src; split
  · rw [h]; exact if_pos hk
  · rfl
theorem src_some {t : Nat → Nat} {n a k : Nat} (h1 : a < n) (h : ixS 0 (t a) = some k) (hk : ¬ (k = 0 ∨ k = 8)) : src t n a = some k := by
  unfold src; rw [if_pos h1, h]; exact if_neg hk
theorem src_lt {t : Nat → Nat} {n a k : Nat} (h : src t n a = some k) : k < 11 := by
  unfold src at h; split at h
  · cases hx : ixS 0 (t a) with
    | none => rw [hx] at h; cases h
    | some j =>
      rw [hx] at h
      have h2 : (if j = 0 ∨ j = 8 then none else some j) = some k := h
      split at h2
      · cases h2
      · cases h2; exact ixS_lt (by decide) hx
  · cases h
abbrev VR : Type := Nat ⊕ (Nat × Nat × Option Nat)
/-- behind H -/
def vh (t : Nat → Nat) (n b : Nat) : VR :=
  bif tk t n b 38 then (match src t n (b + 1) with | some k => .inr (b + 1 + 1, 12, some k) | none => .inl (b + 1))
  else bif tk t n b 124 then (match src t n (b + 1) with | some k => .inr (b + 1 + 1, 13, some k) | none => .inl (b + 1))
  else bif tk t n b 43 then (bif tk t n (b + 1) 49 then .inr (b + 1 + 1, 9, none) else (match src t n (b + 1) with
    | some k => bif tk t n (b + 1 + 1) 43 then (bif tk t n (b + 1 + 1 + 1) 49 then .inr (b + 1 + 1 + 1 + 1, 11, some k) else .inl (b + 1 + 1 + 1)) else .inr (b + 1 + 1, 10, some k)
    | none => .inl (b + 1)))
  else .inr (b, 8, none)
/-- behind a name on the bus -/
def vb (t : Nat → Nat) (n b k : Nat) : VR :=
  bif tk t n b 43 then (bif tk t n (b + 1) 49 then .inr (b + 1 + 1, 4, some k) else .inl (b + 1))
  else bif tk t n b 45 then (bif tk t n (b + 1) 49 then .inr (b + 1 + 1, 5, some k) else bif tk t n (b + 1) 72 then .inr (b + 1 + 1, 6, some k) else .inl (b + 1))
  else .inr (b, 3, some k)
/-- a VALUE: where it ends, its number, its name on the bus; or the place that is wrong -/
def vl (t : Nat → Nat) (n a : Nat) : VR :=
  bif tk t n a 48 then .inr (a + 1, 0, none)
  else bif tk t n a 49 then .inr (a + 1, 1, none)
  else bif tk t n a 45 then (bif tk t n (a + 1) 49 then .inr (a + 1 + 1, 2, none) else bif tk t n (a + 1) 72 then .inr (a + 1 + 1, 15, none) else .inl (a + 1))
  else bif tk t n a 33 then (bif tk t n (a + 1) 72 then .inr (a + 1 + 1, 14, none) else (match src t n (a + 1) with | some k => .inr (a + 1 + 1, 7, some k) | none => .inl (a + 1)))
  else bif tk t n a 72 then vh t n (a + 1)
  else (match src t n a with | some k => vb t n (a + 1) k | none => .inl a)
/-- a digit -/
def dg (t : Nat → Nat) (n a : Nat) : Option Nat := if a < n ∧ 48 ≤ t a ∧ t a ≤ 57 then some (t a - 48) else none
/-- a NUMBER, and where it ends -/
def nb (t : Nat → Nat) (n a : Nat) : Option (Nat × Nat) := match dg t n a with
  | none => none
  | some d => (match dg t n (a + 1) with
    | none => some (d, a + 1)
    | some e => if 10 * d + e ≤ 63 then some (10 * d + e, a + 1 + 1) else some (d, a + 1))
