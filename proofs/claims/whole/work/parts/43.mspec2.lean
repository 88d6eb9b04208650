theorem RDT_none {t : Nat → Nat} {n : Nat} (h : stI (lk t n 0) = none) : RDT t n = r1 t n 0 0 0 0 0 0 := by
  have h1 : tl t n 4 0 0 = .inr (0, 0) := by rw [show (4 : Nat) = 4 - 0 from rfl]; exact tl_stop (Or.inr (ta_stI h))
  have h2 : se t n 0 = .inr (0, 0, 0, none, 0) := by unfold se; rw [h1]; exact if_pos rfl
  unfold RDT; rw [h2]; rfl
theorem r3_no {t : Nat → Nat} {n a f0 f1 f2 f3 f4 f5 : Nat} {f6 : Bool} (h : gl t n a = 0) : r3 t n a f0 f1 f2 f3 f4 f5 f6 = .inl a := if_pos h
theorem r3_bad {t : Nat → Nat} {n a f0 f1 f2 f3 f4 f5 p : Nat} {f6 : Bool} (h : gl t n a ≠ 0) (hg : gg t n (a + 1) (gl t n a) = .inl p) : r3 t n a f0 f1 f2 f3 f4 f5 f6 = .inl p := by
  unfold r3; rw [if_neg h, hg]
theorem r3_end {t : Nat → Nat} {n a f0 f1 f2 f3 f4 f5 b : Nat} {f6 : Bool} {x y : Option Nat} (h : gl t n a ≠ 0) (hg : gg t n (a + 1) (gl t n a) = .inr (b, x, y) ∨ (b ≠ n ∧ gg t n (a + 1) (gl t n a) = .inl b)) (hb : b = n) : r3 t n a f0 f1 f2 f3 f4 f5 f6 = .inr (f0 + 1, f1, f2, f3, f4, f5, f6, gl t n a, x, y) := by
  rcases hg with hg | ⟨q, -⟩
  · unfold r3; rw [if_neg h, hg]; exact if_pos hb
  · exact absurd hb q
theorem r3_more {t : Nat → Nat} {n a f0 f1 f2 f3 f4 f5 b : Nat} {f6 : Bool} {x y : Option Nat} (h : gl t n a ≠ 0) (hg : gg t n (a + 1) (gl t n a) = .inr (b, x, y) ∨ (b ≠ n ∧ gg t n (a + 1) (gl t n a) = .inl b)) (hb : b ≠ n) : r3 t n a f0 f1 f2 f3 f4 f5 f6 = .inl b := by
  rcases hg with hg | ⟨q, hg⟩
  · unfold r3; rw [if_neg h, hg]; exact if_neg hb
  · exact r3_bad h hg
theorem glne {t : Nat → Nat} {n a k : Nat} (h : lk t n a = k) (hk : k = 103 ∨ k = 122 ∨ k = 110 ∨ k = 109) : gl t n a ≠ 0 := by
  rw [gl_lk, h]
  rcases hk with rfl | rfl | rfl | rfl <;> decide
theorem glze {t : Nat → Nat} {n a : Nat} (ht : ∀ j, t j < 128) (h : lk t n a ≠ 103 ∧ lk t n a ≠ 122 ∧ lk t n a ≠ 110 ∧ lk t n a ≠ 109) : gl t n a = 0 := by
  rw [gl_lk]; exact glC_0 _ (lk_lt ht) h
theorem tk_lt2 {t : Nat → Nat} {n a k : Nat} (h : tk t n a k = true) : ¬ a = n := by have := tk_lt h; omega
