theorem tl_stop {t : Nat → Nat} {n i a m : Nat} (h : 4 ≤ i ∨ ta t n a m = none) : tl t n (4 - i) a m = .inr (a, m) := by
  cases hi : 4 - i with
  | zero => rfl
  | succ j =>
    rcases h with h | h
    · omega
    · rw [tl, h]
theorem tl_fail {t : Nat → Nat} {n i a m k : Nat} (hi : i < 4) (h : ta t n a m = some k) (hk : tk t n (a + 1) 61 = false) : tl t n (4 - i) a m = .inl (a + 1) := by
  rw [show 4 - i = (3 - i) + 1 by omega, tl, h]
  show (bif tk t n (a + 1) 61 then _ else _) = _
  rw [hk]; rfl
theorem tl_go {t : Nat → Nat} {n i a m k : Nat} (hi : i < 4) (h : ta t n a m = some k) (hk : tk t n (a + 1) 61 = true) : tl t n (4 - i) a m = tl t n (4 - (i + 1)) (a + 1 + 1) (m ||| 2 ^ k) := by
  rw [show 4 - i = (4 - (i + 1)) + 1 by omega, tl, h]
  show (bif tk t n (a + 1) 61 then _ else _) = _
  rw [hk]; rfl
/-- a text that was read: the place that is wrong, or PARTS, registers, VALUE, name, SHIFT, word asked, byte asked, GOING, its NUMBERS -/
abbrev RR : Type := Nat ⊕ (Nat × Nat × Nat × Nat × Nat × Nat × Bool × Nat × Option Nat × Option Nat)
def r3 (t : Nat → Nat) (n a f0 f1 f2 f3 f4 f5 : Nat) (f6 : Bool) : RR := if gl t n a = 0 then .inl a else (match gg t n (a + 1) (gl t n a) with
  | .inl p => .inl p
  | .inr q => if q.1 = n then .inr (f0 + 1, f1, f2, f3, f4, f5, f6, gl t n a, q.2.1, q.2.2) else .inl q.1)
def r2 (t : Nat → Nat) (n a f0 f1 f2 f3 f4 : Nat) (f6 : Bool) : RR :=
  bif tk t n a 114 then (if a + 1 = n then .inr (f0 + 1, f1, f2, f3, f4, 1, f6, 0, none, none) else bif tk t n (a + 1) 59 then r3 t n (a + 1 + 1) (f0 + 1) f1 f2 f3 f4 1 f6 else .inl (a + 1))
  else bif tk t n a 119 then (if a + 1 = n then .inr (f0 + 1, f1, f2, f3, f4, 2, f6, 0, none, none) else bif tk t n (a + 1) 59 then r3 t n (a + 1 + 1) (f0 + 1) f1 f2 f3 f4 2 f6 else .inl (a + 1))
  else r3 t n a f0 f1 f2 f3 f4 0 f6
def r1 (t : Nat → Nat) (n a f0 f1 f2 f3 f4 : Nat) : RR :=
  bif tk t n a 102 then (if a + 1 = n then .inr (f0 + 1, f1, f2, f3, f4, 0, true, 0, none, none) else bif tk t n (a + 1) 59 then r2 t n (a + 1 + 1) (f0 + 1) f1 f2 f3 f4 true else .inl (a + 1))
  else r2 t n a f0 f1 f2 f3 f4 false
/-- THE LANGUAGE -/
def RDT (t : Nat → Nat) (n : Nat) : RR := match se t n 0 with
  | .inl p => .inl p
  | .inr q => if 0 < q.1 then (if q.1 = n then .inr (1, q.2.1, q.2.2.1, q.2.2.2.1.getD 0, q.2.2.2.2, 0, false, 0, none, none) else bif tk t n q.1 59 then r1 t n (q.1 + 1) 1 q.2.1 q.2.2.1 (q.2.2.2.1.getD 0) q.2.2.2.2 else .inl q.1)
    else r1 t n q.1 0 q.2.1 q.2.2.1 (q.2.2.2.1.getD 0) q.2.2.2.2
