theorem rg_le {i : Int32} {b : Nat} (hb : b < 2 ^ 31) (h1 : ¬ i < 0) (h2 : i ≤ nI b) : ∃ k, k < b + 1 ∧ i = nI k := by
  obtain ⟨j, hj, e⟩ := nI_of2 (M := nI b) (n := b) (nI_toInt hb) h1 h2
  exact ⟨j, by omega, e⟩
theorem rg_ng {i : Int32} {b : Nat} (hb : b < 2 ^ 31) (h1 : ¬ i < 0) (h2 : ¬ nI b < i) : ∃ k, k < b + 1 ∧ i = nI k := by
  refine rg_le hb h1 ?_
  rw [Int32.lt_iff_toInt_lt] at h2; rw [Int32.le_iff_toInt_le]; omega
theorem rg_nl {i : Int32} {b : Nat} (hb : b < 2 ^ 31) (h : ¬ i ≤ nI b) : ∀ k, k < b + 1 → i ≠ nI k := by
  intro k hk e; subst e; exact h (nI_le (by omega) hb)
theorem rg_gt {i : Int32} {b : Nat} (hb : b < 2 ^ 31) (h : nI b < i) : ∀ k, k < b + 1 → i ≠ nI k := by
  intro k hk e; subst e; exact nI_nlt (by omega) hb h
theorem tb_set (tb : Nat → Bool) (k : Nat) (b : Bool) : upd (fun j => bI (tb j)) k (vp_nar .boolean (bI b)) = fun j => bI (va_up tb k b j) := by
  have h : vp_nar .boolean (bI b) = bI b := by cases b <;> decide
  rw [h]
  funext j
  unfold upd va_up
  split <;> rfl
def cntB (tb : Nat → Bool) : Nat → Nat
  | 0 => 0
  | j + 1 => cntB tb j + if tb j = true then 1 else 0
theorem cntB_le (tb : Nat → Bool) : ∀ j, cntB tb j ≤ j := by
  intro j
  induction j with
  | zero => exact Nat.le_refl _
  | succ j ih => rw [cntB]; split <;> omega
theorem cntB_t {tb : Nat → Bool} {j : Nat} (h : tb j = true) : cntB tb (j + 1) = cntB tb j + 1 := by rw [cntB, if_pos h]
theorem cntB_f {tb : Nat → Bool} {j : Nat} (h : tb j = false) : cntB tb (j + 1) = cntB tb j := by rw [cntB, if_neg (by rw [h]; decide)]; rfl
theorem cntB_ext {f g : Nat → Bool} : ∀ n, (∀ j, j < n → f j = g j) → cntB f n = cntB g n := by
  intro n
  induction n with
  | zero => intro _; rfl
  | succ n ih => intro h; rw [cntB, cntB, ih (fun j hj => h j (by omega)), h n (by omega)]
theorem cntB_on {tb : Nat → Bool} {k : Nat} (h : tb k = false) : ∀ n, k < n → cntB (va_up tb k true) n = cntB tb n + 1 := by
  intro n
  induction n with
  | zero => intro hk; omega
  | succ n ih =>
    intro hk
    rw [cntB, cntB]
    rcases Nat.lt_or_ge k n with q | q
    · rw [ih q, va_up_ne _ _ (by omega : n ≠ k)]; omega
    · obtain rfl : k = n := by omega
      rw [va_up_self, if_pos rfl, h, cntB_ext k (fun j hj => va_up_ne tb true (by omega : j ≠ k))]
      rfl
theorem cntB_off {tb : Nat → Bool} {k : Nat} (h : tb k = true) : ∀ n, k < n → cntB tb n = cntB (va_up tb k false) n + 1 := by
  intro n
  induction n with
  | zero => intro hk; omega
  | succ n ih =>
    intro hk
    rw [cntB, cntB]
    rcases Nat.lt_or_ge k n with q | q
    · rw [ih q, va_up_ne _ _ (by omega : n ≠ k)]; omega
    · obtain rfl : k = n := by omega
      rw [va_up_self, if_pos h, cntB_ext k (fun j hj => va_up_ne tb false (by omega : j ≠ k))]
      rfl
theorem va_same {α : Type} {f : Nat → α} {k : Nat} {v : α} (h : f k = v) : va_up f k v = f := by
  funext j; unfold va_up; split
  · rename_i e; rw [e]; exact h.symm
  · rfl
theorem cntB_pos {tb : Nat → Bool} {k : Nat} (h : tb k = true) (n : Nat) (hk : k < n) : 1 ≤ cntB tb n := by rw [cntB_off h n hk]; omega
