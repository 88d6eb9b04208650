theorem nz_b (b : Bool) : narrow .boolean (.int (bI b)) = .int (bI b) := by cases b <;> decide
theorem fz_b (b : Bool) : fits .boolean (.int (bI b)) = true := by cases b <;> decide
theorem kObj : Cond.code objectInit ⟨#[0xb1]⟩ 1 none ∈ tg := tg_of 62 (by decide +kernel) rfl
theorem sl32 : ∀ n, n < 32 → ((nI n &&& 31).toBitVec.smod 32).toNat = n := by decide +kernel
/-- the bit r of a mask -/
theorem bitOf {x r : Nat} (hx : x < 2 ^ 31) (hr : r < 32) : nI x >>> (nI r &&& 31) &&& nI 1 = bI (x.testBit r) := by
  rw [pk_shrN hx _ r (sl32 r hr), pk_andN (Nat.lt_of_le_of_lt (Nat.div_le_self _ _) (by omega)) 1 (by decide)]
  rw [Nat.testBit_eq_decide_div_mod_eq]
  have h2 : x / 2 ^ r % 2 ^ 1 = 0 ∨ x / 2 ^ r % 2 ^ 1 = 1 := by omega
  rcases h2 with h | h
  · rw [h]; rfl
  · rw [h]; rfl
/-- the character k stands at a -/
def tk (t : Nat → Nat) (n a k : Nat) : Bool := decide (a < n) && decide (t a = k)
theorem tk_t {t : Nat → Nat} {n a k : Nat} (h1 : a < n) (h2 : t a = k) : tk t n a k = true := by simp [tk, h1, h2]
theorem tk_f {t : Nat → Nat} {n a k : Nat} (h : n ≤ a ∨ t a ≠ k) : tk t n a k = false := by
  simp only [tk, Bool.and_eq_false_iff, decide_eq_false_iff_not]; omega
theorem tk_lt {t : Nat → Nat} {n a k : Nat} (h : tk t n a k = true) : a < n := by
  simp only [tk, Bool.and_eq_true, decide_eq_true_eq] at h; exact h.1
theorem tk_eq {t : Nat → Nat} {n a k : Nat} (h : tk t n a k = true) : t a = k := by
  simp only [tk, Bool.and_eq_true, decide_eq_true_eq] at h; exact h.2
