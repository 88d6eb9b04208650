/-! the reference's own words -/
def lk (t : Nat → Nat) (n a : Nat) : Nat := if a < n then t a else 0
theorem lk_in {t : Nat → Nat} {n a : Nat} (h : a < n) : lk t n a = t a := if_pos h
theorem lk_out {t : Nat → Nat} {n a : Nat} (h : n ≤ a) : lk t n a = 0 := if_neg (by omega)
theorem lk_lt {t : Nat → Nat} {n a : Nat} (ht : ∀ j, t j < 128) : lk t n a < 128 := by
  unfold lk; split
  · exact ht a
  · decide
theorem tk_lk {t : Nat → Nat} {n a k : Nat} (hk : k ≠ 0) (h : lk t n a = k) : tk t n a k = true ∧ a < n := by
  unfold lk at h; split at h
  · rename_i q; exact ⟨tk_t q h, q⟩
  · exact absurd h.symm hk
theorem tk_nlk {t : Nat → Nat} {n a k : Nat} (h : lk t n a ≠ k) : tk t n a k = false := by
  apply tk_f
  by_cases q : a < n
  · right; rw [lk_in q] at h; exact h
  · left; omega
def stI (c : Nat) : Option Nat := match ixS 0 c with
  | some k => if k ≤ 8 then some k else none
  | none => none
def srcC (c : Nat) : Option Nat := match ixS 0 c with
  | some k => if k = 0 ∨ k = 8 then none else some k
  | none => none
theorem stI_out : ∀ c, c < 128 → (c < 65 ∨ 84 < c) → stI c = none := by decide +kernel
theorem srcC_o : ∀ c, c < 128 → (c ≠ 77 ∧ c ≠ 85 ∧ c ≠ 65 ∧ c ≠ 72) → srcC c = stI c := by decide +kernel
theorem src_in {t : Nat → Nat} {n a z : Nat} (h : src t n a = some z) : a < n := by
  rcases Nat.lt_or_ge a n with q | q
  · exact q
  · rw [src_out q] at h; cases h
theorem src_lk (t : Nat → Nat) (n a : Nat) : src t n a = srcC (lk t n a) := by
  unfold src lk
  split
  · rfl
  · rfl
theorem stI_lt : ∀ c, c < 128 → ∀ k, stI c = some k → k ≤ 8 := by
  intro c _ k h
  unfold stI at h
  cases hx : ixS 0 c with
  | none => rw [hx] at h; cases h
  | some j =>
    rw [hx] at h
    have h2 : (if j ≤ 8 then some j else none) = some k := h
    split at h2
    · cases h2; assumption
    · cases h2
theorem srcC_lt {c k : Nat} (h : srcC c = some k) : k < 11 := by
  unfold srcC at h
  cases hx : ixS 0 c with
  | none => rw [hx] at h; cases h
  | some j =>
    rw [hx] at h
    have h2 : (if j = 0 ∨ j = 8 then none else some j) = some k := h
    split at h2
    · cases h2
    · cases h2; exact ixS_lt (by decide) hx
theorem upd_upd (f : Nat → Int32) (k : Nat) (x y : Int32) : upd (upd f k x) k y = upd f k y := by
  funext j; unfold upd; split <;> rfl
/-- the reference's number of a VALUE -/
def ms (o : Nat) : Nat := match o with
  | 0 => 13 | 1 => 14 | 2 => 15 | 3 => 0 | 4 => 2 | 5 => 3 | 6 => 7 | 7 => 10 | 8 => 1 | 9 => 4 | 10 => 5 | 11 => 6 | 12 => 8 | 13 => 9 | 14 => 11 | _ => 12
