/-! the reference's own words -/
def lk (t : Nat → Nat) (n a : Nat) : Nat := if a < n then t a else 0
theorem lk_in {t : Nat → Nat} {n a : Nat} (h : a < n) : lk t n a = t a := if_pos h
theorem lk_out {t : Nat → Nat} {n a : Nat} (h : n ≤ a) : lk t n a = 0 := if_neg (by omega)
theorem lk_lt {t : Nat → Nat} {n a : Nat} (ht : ∀ j, t j < 128) : lk t n a < 128 := by
  unfold lk; split
  · exact ht a
  · decide
theorem tk_lk {t : Nat → Nat} {n a k : Nat} (hk : k ≠ 0) (h : lk t n a = k) : tk t n a k = true ∧ a < n := by
  unfold lk at h; split at h
  · rename_i q; exact ⟨tk_t q h, q⟩
  · exact absurd h.symm hk
theorem tk_nlk {t : Nat → Nat} {n a k : Nat} (h : lk t n a ≠ k) : tk t n a k = false := by
  apply tk_f
  by_cases q : a < n
  · right; rw [lk_in q] at h; exact h
  · left; omega
def stI (c : Nat) : Option Nat := match ixS 0 c with
  | some k => if k ≤ 8 then some k else none
  | none => none
def srcC (c : Nat) : Option Nat := match ixS 0 c with
  | some k => if k = 0 ∨ k = 8 then none else some k
  | none => none
theorem stI_out : ∀ c, c < 128 → (c < 65 ∨ 84 < c) → stI c = none := by decide +kernel
theorem srcC_o : ∀ c, c < 128 → (c ≠ 77 ∧ c ≠ 85 ∧ c ≠ 65 ∧ c ≠ 72) → srcC c = stI c := by decide +kernel
theorem src_in {t : Nat → Nat} {n a z : Nat} (h : src t n a = some z) : a < n := by
  rcases Nat.lt_or_ge a n with q | q
  · exact q
  · rw [src_out q] at h; cases h
theorem src_lk (t : Nat → Nat) (n a : Nat) : src t n a = srcC (lk t n a) := by
  unfold src lk
  split
  · rfl
  · rfl
theorem stI_lt : ∀ c, c < 128 → ∀ k, stI c = some k → k ≤ 8 := by
  intro c _ k h
  unfold stI at h
  cases hx : ixS 0 c with
  | none => rw [hx] at h; cases h
  | some j =>
    rw [hx] at h
    have h2 : (if j ≤ 8 then some j else none) = some k := h
    split at h2
    · cases h2; assumption
    · cases h2
theorem srcC_lt {c k : Nat} (h : srcC c = some k) : k < 11 := by
  unfold srcC at h
  cases hx : ixS 0 c with
  | none => rw [hx] at h; cases h
  | some j =>
    rw [hx] at h
    have h2 : (if j = 0 ∨ j = 8 then none else some j) = some k := h
    split at h2
    · cases h2
    · cases h2; exact ixS_lt (by decide) hx
theorem upd_upd (f : Nat → Int32) (k : Nat) (x y : Int32) : upd (upd f k x) k y = upd f k y := by
  funext j; unfold upd; split <;> rfl
/-- the reference's number of a VALUE -/
def ms (o : Nat) : Nat := match o with
  | 0 => 13 | 1 => 14 | 2 => 15 | 3 => 0 | 4 => 2 | 5 => 3 | 6 => 7 | 7 => 10 | 8 => 1 | 9 => 4 | 10 => 5 | 11 => 6 | 12 => 8 | 13 => 9 | 14 => 11 | _ => 12
theorem dgl_some {t : Nat → Nat} {n a : Nat} (h1 : 48 ≤ lk t n a) (h2 : lk t n a ≤ 57) : dg t n a = some (lk t n a - 48) ∧ a < n := by
  rcases Nat.lt_or_ge a n with q | q
  · rw [lk_in q] at h1 h2 ⊢; exact ⟨dg_some q h1 h2, q⟩
  · rw [lk_out q] at h1; omega
theorem dgl_none {t : Nat → Nat} {n a : Nat} (h : lk t n a < 48 ∨ 57 < lk t n a) : dg t n a = none := by
  rcases Nat.lt_or_ge a n with q | q
  · rw [lk_in q] at h; exact dg_none (by omega)
  · exact dg_none (Or.inl q)
theorem nbm_0 {t : Nat → Nat} {n a : Nat} (h : dg t n a = none) : nb t n a = none := by unfold nb; rw [h]
theorem nbm_1 {t : Nat → Nat} {n a d : Nat} (hd : dg t n a = some d) (h : dg t n (a + 1) = none ∨ ∃ e, dg t n (a + 1) = some e ∧ 63 < d * 10 + e) : nb t n a = some (d, a + 1) := by
  unfold nb; rw [hd]
  show (match dg t n (a + 1) with | none => _ | some e => _) = _
  rcases h with h | ⟨e, h, h2⟩
  · rw [h]
  · rw [h]; exact if_neg (by omega)
theorem nbm_2 {t : Nat → Nat} {n a d e : Nat} (hd : dg t n a = some d) (he : dg t n (a + 1) = some e) (h : d * 10 + e ≤ 63) : nb t n a = some (d * 10 + e, a + 1 + 1) := by
  unfold nb; rw [hd]
  show (match dg t n (a + 1) with | none => _ | some e => _) = _
  rw [he]
  show (if 10 * d + e ≤ 63 then _ else _) = _
  rw [if_pos (by omega), Nat.mul_comm]
def glC (c : Nat) : Nat := match ixS 1 c with | some k => k + 1 | none => 0
theorem gl_lk (t : Nat → Nat) (n a : Nat) : gl t n a = glC (lk t n a) := by
  unfold gl lk
  split
  · rfl
  · rfl
theorem glC_0 : ∀ c, c < 128 → (c ≠ 103 ∧ c ≠ 122 ∧ c ≠ 110 ∧ c ≠ 109) → glC c = 0 := by decide +kernel
theorem lk_pos {t : Nat → Nat} {n a : Nat} (h : lk t n a ≠ 0) : a < n := by
  rcases Nat.lt_or_ge a n with q | q
  · exact q
  · exact absurd (lk_out q) h
theorem nb_out {t : Nat → Nat} {n a : Nat} (h : n ≤ a) : nb t n a = none := nbm_0 (dg_none (Or.inl h))
theorem stI_ix {t : Nat → Nat} {n a r : Nat} (h : stI (lk t n a) = some r) : a < n ∧ ixS 0 (t a) = some r ∧ r ≤ 8 := by
  have hz : a < n := by
    rcases Nat.lt_or_ge a n with q | q
    · exact q
    · rw [lk_out q] at h; rw [show stI 0 = none by decide] at h; cases h
  rw [lk_in hz] at h
  unfold stI at h
  cases hx : ixS 0 (t a) with
  | none => rw [hx] at h; cases h
  | some j =>
    rw [hx] at h
    have h2 : (if j ≤ 8 then some j else none) = some r := h
    split at h2
    · cases h2; exact ⟨hz, rfl, by assumption⟩
    · cases h2
theorem ta_stI {t : Nat → Nat} {n a m : Nat} (h : stI (lk t n a) = none) : ta t n a m = none := by
  rcases Nat.lt_or_ge a n with q | q
  · rw [lk_in q] at h
    unfold stI at h
    cases hx : ixS 0 (t a) with
    | none => exact ta_nox hx
    | some j =>
      rw [hx] at h
      have h2 : (if j ≤ 8 then some j else none) = none := h
      split at h2
      · cases h2
      · exact ta_bad hx (fun z => by omega)
  · exact ta_out q
def orx (s x : Option Nat) : Option Nat := match s with
  | some z => some z
  | none => x
