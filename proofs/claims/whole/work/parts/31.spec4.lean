/-! a CYCLE -/
def busV (r : Nat → Int32) (k : Nat) : Int32 := if k = 9 then (r 9).toInt8.toInt32 else if k ≤ 9 then r k else r 9
def valV (r : Nat → Int32) (o k : Nat) : Int32 := match o with
  | 0 => nI 0
  | 1 => nI 1
  | 2 => -1
  | 3 => busV r k
  | 4 => busV r k + nI 1
  | 5 => busV r k - nI 1
  | 6 => busV r k - r 8
  | 7 => busV r k ^^^ (-1)
  | 8 => r 8
  | 9 => r 8 + nI 1
  | 10 => r 8 + busV r k
  | 11 => r 8 + busV r k + nI 1
  | 12 => r 8 &&& busV r k
  | 13 => r 8 ||| busV r k
  | 14 => r 8 ^^^ (-1)
  | _ => -(r 8)
def shV (h : Nat) (v : Int32) : Int32 := if h = 1 then v <<< (nI 8 &&& 31) else if h = 2 then v >>> (nI 1 &&& 31) else v
def nxt (ah f7 : Nat) (f8 f9 : Option Nat) (m9 v : Int32) : Nat := match f7 with
  | 1 => f8.getD 0
  | 2 => if v = 0 then f8.getD 0 else f9.getD 0
  | 3 => if v < 0 then f8.getD 0 else f9.getD 0
  | 4 => (nI (f8.getD 0) ||| m9).toBitVec.toNat % 2 ^ 6
  | _ => (ah + 1) % 2 ^ 6
def gOK (f7 : Nat) (f8 f9 : Option Nat) : Prop := (f7 = 1 → ∃ x, x < 64 ∧ f8 = some x) ∧ (f7 = 2 ∨ f7 = 3 → (∃ x, x < 64 ∧ f8 = some x) ∧ ∃ y, y < 64 ∧ f9 = some y) ∧ (∀ x, f8 = some x → x < 64) ∧ f7 ≤ 4
theorem nxt_lt {ah f7 : Nat} {f8 f9 : Option Nat} {m9 v : Int32} (h : gOK f7 f8 f9) : nxt ah f7 f8 f9 m9 v < 64 := by
  obtain ⟨h1, h2, h3, h4⟩ := h
  unfold nxt
  split
  · obtain ⟨x, hx, rfl⟩ := h1 rfl; exact hx
  · obtain ⟨⟨x, hx, rfl⟩, y, hy, rfl⟩ := h2 (Or.inl rfl); split
    · exact hx
    · exact hy
  · obtain ⟨⟨x, hx, rfl⟩, y, hy, rfl⟩ := h2 (Or.inr rfl); split
    · exact hx
    · exact hy
  · exact Nat.mod_lt _ (by decide)
  · exact Nat.mod_lt _ (by decide)
theorem max0 {x : Option Nat} (h : ∀ y, x = some y → y < 64) : (if oI x < nI 0 then nI 0 else oI x) = nI (x.getD 0) := by
  cases x with
  | none => exact if_pos (by decide)
  | some y => exact if_neg (nI_nlt (Nat.zero_le _) (by have := h y rfl; omega))
/-- the registers once k of them have been looked at -/
def rsF (r : Nat → Int32) (m : Nat) (v : Int32) (k : Nat) : Nat → Int32 := fun i => if i < k ∧ m.testBit i = true then v else r i
theorem rsF_0 (r : Nat → Int32) (m : Nat) (v : Int32) : rsF r m v 0 = r := by funext i; exact if_neg (by omega)
theorem rsF_t {r : Nat → Int32} {m k : Nat} {v : Int32} (h : m.testBit k = true) : upd (rsF r m v k) k v = rsF r m v (k + 1) := by
  funext i
  unfold upd rsF
  by_cases e : i = k
  · subst e; simp [h]
  · simp only [if_neg e]
    by_cases h2 : i < k ∧ m.testBit i = true
    · rw [if_pos h2, if_pos ⟨by omega, h2.2⟩]
    · rw [if_neg h2, if_neg (fun q => h2 ⟨by omega, q.2⟩)]
theorem rsF_f {r : Nat → Int32} {m k : Nat} {v : Int32} (h : m.testBit k = false) : rsF r m v k = rsF r m v (k + 1) := by
  funext i
  unfold rsF
  by_cases e : i = k
  · subst e; rw [if_neg (by omega), if_neg (by rw [h]; simp)]
  · by_cases h2 : i < k ∧ m.testBit i = true
    · rw [if_pos h2, if_pos ⟨by omega, h2.2⟩]
    · rw [if_neg h2, if_neg (fun q => h2 ⟨by omega, q.2⟩)]
/-- a machine: WORD at hand, what comes, counts, registers, memory -/
abbrev MS : Type := Nat × Bool × Int32 × Bool × Int32 × Int32 × Int32 × Int32 × Int32 × (Nat → Int32) × (Nat → Int32)
def inB (a : Int32) : Bool := !decide (a < 0) && decide (a < nI 64)
theorem inB_t {a : Int32} (h : ∃ k, k < 64 ∧ a = nI k) : inB a = true := by
  obtain ⟨k, hk, rfl⟩ := h
  simp only [inB, Bool.and_eq_true, Bool.not_eq_true', decide_eq_false_iff_not, decide_eq_true_eq]
  exact ⟨nI_pos (by omega), nI_lt hk (by decide)⟩
theorem inB_f {a : Int32} (h : ∀ k, k < 64 → a ≠ nI k) : inB a = false := by
  cases hb : inB a with
  | false => rfl
  | true =>
    simp only [inB, Bool.and_eq_true, Bool.not_eq_true', decide_eq_false_iff_not, decide_eq_true_eq] at hb
    obtain ⟨k, hk, e⟩ := rg_in (by decide) hb.1 hb.2
    exact absurd e (h k hk)
/-- the CYCLE of a WORD of registers f1, VALUE f2, name f3, SHIFT f4, asking f5, f6, GOING f7 f8 f9; none where A or P is out of range -/
def cycR (f1 f4 : Nat) (v : Int32) (f5 : Nat) (f6 : Bool) (f7 : Nat) (f8 f9 : Option Nat) (kb : Nat → Int32) (ah : Nat) (wc : Bool) (cw : Int32) (bc : Bool) (cb cy wr ww br : Int32) (r mm : Nat → Int32) : Option MS :=
  let sv := shV f4 v
  let a := if f1.testBit 0 = true then sv else r 0
  let q := if f1.testBit 2 = true then sv else r 2
  if (f5 ≠ 0 ∧ inB a = false) ∨ (f6 = true ∧ inB q = false) then none else
    let r1 := rsF r f1 sv 9
    let r2 := if wc = true then upd r1 1 cw else r1
    let r3 := if bc = true then upd r2 9 cb else r2
    some (nxt ah f7 f8 f9 (r3 9) v, decide (f5 = 1), (if f5 = 1 then mm a.toNatClampNeg else cw), f6, (if f6 = true then kb q.toNatClampNeg else cb), cy + nI 1, (if f5 = 1 then wr + nI 1 else wr), (if f5 = 2 then ww + nI 1 else ww), (if f6 = true then br + nI 1 else br), r3, (if f5 = 2 then upd mm a.toNatClampNeg (r1 1) else mm))
