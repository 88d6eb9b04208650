theorem rg_in {i : Int32} {b : Nat} (hb : b < 2 ^ 31) (h1 : ¬ i < 0) (h2 : i < nI b) : ∃ k, k < b ∧ i = nI k := by
  rcases pk_ix i hb with h | h | h
  · exact absurd h h1
  · rw [Int32.lt_iff_toInt_lt] at h2; rw [Int32.le_iff_toInt_le] at h; omega
  · exact h
theorem rg_neg {i : Int32} {b : Nat} (hb : b < 2 ^ 31) (h1 : i < 0) : ∀ k, k < b → i ≠ nI k := fun k hk e => nI_pos (n := k) (by omega) (e ▸ h1)
theorem rg_big {i : Int32} {b : Nat} (hb : b < 2 ^ 31) (h1 : ¬ i < nI b) : ∀ k, k < b → i ≠ nI k := fun k hk e => h1 (by rw [e]; exact nI_lt hk hb)
