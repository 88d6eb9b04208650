theorem nz_b (b : Bool) : narrow .boolean (.int (bI b)) = .int (bI b) := by cases b <;> decide
theorem fz_b (b : Bool) : fits .boolean (.int (bI b)) = true := by cases b <;> decide
theorem kObj : Cond.code objectInit ⟨#[0xb1]⟩ 1 none ∈ tg := tg_of 62 (by decide +kernel) rfl
theorem sl32 : ∀ n, n < 32 → ((nI n &&& 31).toBitVec.smod 32).toNat = n := by decide +kernel
/-- the bit r of a mask -/
theorem bitOf {x r : Nat} (hx : x < 2 ^ 31) (hr : r < 32) : nI x >>> (nI r &&& 31) &&& nI 1 = bI (x.testBit r) := by
  rw [pk_shrN hx _ r (sl32 r hr), pk_andN (Nat.lt_of_le_of_lt (Nat.div_le_self _ _) (by omega)) 1 (by decide)]
  rw [Nat.testBit_eq_decide_div_mod_eq]
  have h2 : x / 2 ^ r % 2 ^ 1 = 0 ∨ x / 2 ^ r % 2 ^ 1 = 1 := by omega
  rcases h2 with h | h
  · rw [h]; rfl
  · rw [h]; rfl
/-- the character k stands at a -/
def tk (t : Nat → Nat) (n a k : Nat) : Bool := decide (a < n) && decide (t a = k)
theorem tk_t {t : Nat → Nat} {n a k : Nat} (h1 : a < n) (h2 : t a = k) : tk t n a k = true := by simp [tk, h1, h2]
theorem tk_f {t : Nat → Nat} {n a k : Nat} (h : n ≤ a ∨ t a ≠ k) : tk t n a k = false := by
  simp only [tk, Bool.and_eq_false_iff, decide_eq_false_iff_not]; omega
theorem tk_lt {t : Nat → Nat} {n a k : Nat} (h : tk t n a k = true) : a < n := by
  simp only [tk, Bool.and_eq_true, decide_eq_true_eq] at h; exact h.1
theorem tk_eq {t : Nat → Nat} {n a k : Nat} (h : tk t n a k = true) : t a = k := by
  simp only [tk, Bool.and_eq_true, decide_eq_true_eq] at h; exact h.2
theorem kMath_max : Cond.code Lib.Math.max.name Lib.Math.max.code 2 (some .int) ∈ tg := tg_of 347 (by decide +kernel) rfl
theorem kMath_min : Cond.code Lib.Math.min.name Lib.Math.min.code 2 (some .int) ∈ tg := tg_of 350 (by decide +kernel) rfl
/-- the claim's two texts -/
def stS (i : Nat) : List Nat := if i = 0 then [65, 68, 80, 83, 76, 67, 84, 79, 72, 77, 85] else [103, 122, 110, 109]
theorem byS_all : ∀ i, i < 2 → ∀ k, k < 11 → (byS.getD i []).getD k 0 = nI ((stS i).getD k 0) := by decide +kernel
theorem lnS_all : ∀ i, i < 2 → 0 < lnS.getD i 0 ∧ lnS.getD i 0 ≤ 11 ∧ lnS.getD i 0 = (stS i).length := by decide +kernel
theorem byS_at {i k : Nat} (hi : i < 2) (hk : k < lnS.getD i 0) : (byS.getD i []).getD k 0 = nI ((stS i).getD k 0) := byS_all i hi k (by have := lnS_all i hi; omega)
theorem stS_lt : ∀ i, i < 2 → ∀ k, k < 11 → (stS i).getD k 0 < 128 := by decide +kernel
def ixL (c : Nat) : List Nat → Nat → Option Nat
  | [], _ => none
  | b :: l, k => if b = c then some k else ixL c l (k + 1)
/-- indexOf -/
def ixS (i c : Nat) : Option Nat := ixL c (stS i) 0
theorem b128 : ∀ c, c < 128 → (nI c).toInt8.toInt32 = nI c := by decide +kernel
theorem ixL_hit {i k c : Nat} (hi : i < 2) (hk : k < lnS.getD i 0) (h : (stS i).getD k 0 = c) : ixL c ((stS i).drop k) k = some k := by
  have hl := (lnS_all i hi).2.2
  have h1 : k < (stS i).length := by omega
  rw [List.drop_eq_getElem_cons h1, ixL, if_pos]
  rw [List.getD_eq_getElem?_getD, List.getElem?_eq_getElem h1] at h
  exact h
theorem ixL_miss {i k c : Nat} (hi : i < 2) (hk : k < lnS.getD i 0) (h : (stS i).getD k 0 ≠ c) : ixL c ((stS i).drop k) k = ixL c ((stS i).drop (k + 1)) (k + 1) := by
  have hl := (lnS_all i hi).2.2
  have h1 : k < (stS i).length := by omega
  rw [List.drop_eq_getElem_cons h1, ixL, if_neg]
  rw [List.getD_eq_getElem?_getD, List.getElem?_eq_getElem h1] at h
  exact h
theorem ixL_end {i k c : Nat} (hi : i < 2) (hk : lnS.getD i 0 ≤ k) : ixL c ((stS i).drop k) k = none := by
  have hl := (lnS_all i hi).2.2
  rw [List.drop_eq_nil_of_le (by omega)]; rfl
theorem ixL_lt {c : Nat} : ∀ (l : List Nat) (k y : Nat), ixL c l k = some y → y < k + l.length := by
  intro l
  induction l with
  | nil => intro k y h; cases h
  | cons b l ih =>
    intro k y h
    rw [ixL] at h
    by_cases hb : b = c
    · rw [if_pos hb] at h; cases h; simp
    · rw [if_neg hb] at h; have := ih (k + 1) y h; simp only [List.length_cons]; omega
theorem ixS_lt {i c y : Nat} (hi : i < 2) (h : ixS i c = some y) : y < 11 := by
  have h1 := ixL_lt _ _ _ h
  have h2 := lnS_all i hi
  omega
