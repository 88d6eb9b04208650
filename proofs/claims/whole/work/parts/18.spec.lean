/-! what a text says: the language, place by place -/
theorem tkx {t : Nat → Nat} {n a k : Nat} (h : tk t n a k = true) (j : Nat) (hj : j ≠ k) : tk t n a j = false := tk_f (Or.inr (by rw [tk_eq h]; exact fun e => hj e.symm))
/-- a name that may stand on the bus -/
def src (t : Nat → Nat) (n a : Nat) : Option Nat := if a < n then (match ixS 0 (t a) with
  | some k => if k = 0 ∨ k = 8 then none else some k
  | none => none) else none
theorem src_out {t : Nat → Nat} {n a : Nat} (h : n ≤ a) : src t n a = none := if_neg (by omega)
theorem src_none {t : Nat → Nat} {n a : Nat} (h : ixS 0 (t a) = none) : src t n a = none := by
  unfold src; split
  · rw [h]
  · rfl
theorem src_bad {t : Nat → Nat} {n a k : Nat} (h : ixS 0 (t a) = some k) (hk : k = 0 ∨ k = 8) : src t n a = none := by
  unfold src; split
  · rw [h]; exact if_pos hk
  · rfl
theorem src_some {t : Nat → Nat} {n a k : Nat} (h1 : a < n) (h : ixS 0 (t a) = some k) (hk : ¬ (k = 0 ∨ k = 8)) : src t n a = some k := by
  unfold src; rw [if_pos h1, h]; exact if_neg hk
theorem src_lt {t : Nat → Nat} {n a k : Nat} (h : src t n a = some k) : k < 11 := by
  unfold src at h; split at h
  · cases hx : ixS 0 (t a) with
    | none => rw [hx] at h; cases h
    | some j =>
      rw [hx] at h
      have h2 : (if j = 0 ∨ j = 8 then none else some j) = some k := h
      split at h2
      · cases h2
      · cases h2; exact ixS_lt (by decide) hx
  · cases h
abbrev VR : Type := Nat ⊕ (Nat × Nat × Option Nat)
/-- behind H -/
def vh (t : Nat → Nat) (n b : Nat) : VR :=
  bif tk t n b 38 then (match src t n (b + 1) with | some k => .inr (b + 1 + 1, 12, some k) | none => .inl (b + 1))
  else bif tk t n b 124 then (match src t n (b + 1) with | some k => .inr (b + 1 + 1, 13, some k) | none => .inl (b + 1))
  else bif tk t n b 43 then (bif tk t n (b + 1) 49 then .inr (b + 1 + 1, 9, none) else (match src t n (b + 1) with
    | some k => bif tk t n (b + 1 + 1) 43 then (bif tk t n (b + 1 + 1 + 1) 49 then .inr (b + 1 + 1 + 1 + 1, 11, some k) else .inl (b + 1 + 1 + 1)) else .inr (b + 1 + 1, 10, some k)
    | none => .inl (b + 1)))
  else .inr (b, 8, none)
/-- behind a name on the bus -/
def vb (t : Nat → Nat) (n b k : Nat) : VR :=
  bif tk t n b 43 then (bif tk t n (b + 1) 49 then .inr (b + 1 + 1, 4, some k) else .inl (b + 1))
  else bif tk t n b 45 then (bif tk t n (b + 1) 49 then .inr (b + 1 + 1, 5, some k) else bif tk t n (b + 1) 72 then .inr (b + 1 + 1, 6, some k) else .inl (b + 1))
  else .inr (b, 3, some k)
/-- a VALUE: where it ends, its number, its name on the bus; or the place that is wrong -/
def vl (t : Nat → Nat) (n a : Nat) : VR :=
  bif tk t n a 48 then .inr (a + 1, 0, none)
  else bif tk t n a 49 then .inr (a + 1, 1, none)
  else bif tk t n a 45 then (bif tk t n (a + 1) 49 then .inr (a + 1 + 1, 2, none) else bif tk t n (a + 1) 72 then .inr (a + 1 + 1, 15, none) else .inl (a + 1))
  else bif tk t n a 33 then (bif tk t n (a + 1) 72 then .inr (a + 1 + 1, 14, none) else (match src t n (a + 1) with | some k => .inr (a + 1 + 1, 7, some k) | none => .inl (a + 1)))
  else bif tk t n a 72 then vh t n (a + 1)
  else (match src t n a with | some k => vb t n (a + 1) k | none => .inl a)
/-- a digit -/
def dg (t : Nat → Nat) (n a : Nat) : Option Nat := if a < n ∧ 48 ≤ t a ∧ t a ≤ 57 then some (t a - 48) else none
/-- a NUMBER, and where it ends -/
def nb (t : Nat → Nat) (n a : Nat) : Option (Nat × Nat) := match dg t n a with
  | none => none
  | some d => (match dg t n (a + 1) with
    | none => some (d, a + 1)
    | some e => if 10 * d + e ≤ 63 then some (10 * d + e, a + 1 + 1) else some (d, a + 1))
theorem dg_some {t : Nat → Nat} {n a : Nat} (h1 : a < n) (h2 : 48 ≤ t a) (h3 : t a ≤ 57) : dg t n a = some (t a - 48) := if_pos ⟨h1, h2, h3⟩
theorem dg_none {t : Nat → Nat} {n a : Nat} (h : n ≤ a ∨ t a < 48 ∨ 57 < t a) : dg t n a = none := if_neg (by omega)
theorem dg_le {t : Nat → Nat} {n a d : Nat} (h : dg t n a = some d) : d ≤ 9 ∧ a < n := by
  unfold dg at h; split at h
  · cases h; omega
  · cases h
theorem d63 : ∀ d, d < 10 → ∀ e, e < 10 → (nI e ≤ nI 63 - nI (10 * d) ↔ 10 * d + e ≤ 63) := by decide +kernel
theorem d9 : ∀ d, d < 10 → nI d ≤ nI 9 := by decide +kernel
theorem nb_0 {t : Nat → Nat} {n a : Nat} (h : dg t n a = none ∨ ∃ d, dg t n a = some d ∧ ¬ nI d ≤ nI 9) : nb t n a = none := by
  rcases h with h | ⟨d, h, h2⟩
  · unfold nb; rw [h]
  · exact absurd (d9 d (by have := dg_le h; omega)) h2
theorem nb_1 {t : Nat → Nat} {n a d : Nat} (hd : dg t n a = some d) (h : dg t n (a + 1) = none ∨ ∃ e, dg t n (a + 1) = some e ∧ ¬ nI e ≤ nI 63 - nI (10 * d)) : nb t n a = some (d, a + 1) := by
  unfold nb; rw [hd]
  rcases h with h | ⟨e, h, h2⟩
  · show (match dg t n (a + 1) with | none => _ | some e => _) = _; rw [h]
  · show (match dg t n (a + 1) with | none => _ | some e => _) = _
    rw [h]
    exact if_neg (fun q => h2 ((d63 d (by have := dg_le hd; omega) e (by have := dg_le h; omega)).mpr q))
theorem nb_2 {t : Nat → Nat} {n a d e : Nat} (hd : dg t n a = some d) (he : dg t n (a + 1) = some e) (h : nI e ≤ nI 63 - nI (10 * d)) : nb t n a = some (10 * d + e, a + 1 + 1) ∧ 10 * d + e ≤ 63 := by
  have h2 : 10 * d + e ≤ 63 := (d63 d (by have := dg_le hd; omega) e (by have := dg_le he; omega)).mp h
  refine ⟨?_, h2⟩
  unfold nb; rw [hd]
  show (match dg t n (a + 1) with | none => _ | some e => _) = _
  rw [he]
  exact if_pos h2
/-- the letter of a GOING: 1 to 4, or 0 -/
def gl (t : Nat → Nat) (n a : Nat) : Nat := if a < n then (match ixS 1 (t a) with | some k => k + 1 | none => 0) else 0
theorem gl_some {t : Nat → Nat} {n a k : Nat} (h : a < n) (hx : ixS 1 (t a) = some k) : gl t n a = k + 1 := by unfold gl; rw [if_pos h, hx]
theorem gl_none {t : Nat → Nat} {n a : Nat} (hx : ixS 1 (t a) = none) : gl t n a = 0 := by
  unfold gl; split
  · rw [hx]
  · rfl
theorem gl_out {t : Nat → Nat} {n a : Nat} (h : n ≤ a) : gl t n a = 0 := if_neg (by omega)
theorem ix1_lt {c y : Nat} (h : ixS 1 c = some y) : y < 4 := by
  have h1 := ixL_lt _ _ _ h
  have h2 : (stS 1).length = 4 := by decide
  omega
/-- behind the letter of a GOING g -/
def gg (t : Nat → Nat) (n a g : Nat) : Nat ⊕ (Nat × Option Nat × Option Nat) :=
  if g = 4 ∧ a = n then .inr (a, none, none) else (match nb t n a with
    | none => .inl a
    | some (x, b) => if g = 1 ∨ g = 4 then .inr (b, some x, none) else bif tk t n b 44 then (match nb t n (b + 1) with
      | none => .inl (b + 1)
      | some (y, c) => .inr (c, some x, some y)) else .inl b)
/-- a register that is set, where m are those before -/
def ta (t : Nat → Nat) (n a m : Nat) : Option Nat := if a < n then (match ixS 0 (t a) with
  | some k => if k ≤ 8 ∧ m.testBit k = false ∧ (m = 0 ∨ k = 0 ∨ tk t n (a + 1) 61 = true) then some k else none
  | none => none) else none
theorem ta_some {t : Nat → Nat} {n a m k : Nat} (h1 : a < n) (hx : ixS 0 (t a) = some k) (hk : k ≤ 8) (hb : m.testBit k = false) (h : m = 0 ∨ k = 0 ∨ tk t n (a + 1) 61 = true) : ta t n a m = some k := by
  unfold ta; rw [if_pos h1, hx]; exact if_pos ⟨hk, hb, h⟩
theorem ta_out {t : Nat → Nat} {n a m : Nat} (h : n ≤ a) : ta t n a m = none := if_neg (by omega)
theorem ta_nox {t : Nat → Nat} {n a m : Nat} (h : ixS 0 (t a) = none) : ta t n a m = none := by
  unfold ta; split
  · rw [h]
  · rfl
theorem ta_bad {t : Nat → Nat} {n a m k : Nat} (hx : ixS 0 (t a) = some k) (h : ¬ (k ≤ 8 ∧ m.testBit k = false ∧ (m = 0 ∨ k = 0 ∨ tk t n (a + 1) 61 = true))) : ta t n a m = none := by
  unfold ta; split
  · rw [hx]; exact if_neg h
  · rfl
/-- the registers of a SETTING: at most i more -/
def tl (t : Nat → Nat) (n : Nat) : Nat → Nat → Nat → Nat ⊕ (Nat × Nat)
  | 0, a, m => .inr (a, m)
  | i + 1, a, m => match ta t n a m with
    | none => .inr (a, m)
    | some k => bif tk t n (a + 1) 61 then tl t n i (a + 1 + 1) (m ||| 2 ^ k) else .inl (a + 1)
/-- a SETTING, if one is there: its end, registers, VALUE, name, SHIFT -/
def se (t : Nat → Nat) (n a : Nat) : Nat ⊕ (Nat × Nat × Nat × Option Nat × Nat) := match tl t n 4 a 0 with
  | .inl p => .inl p
  | .inr (b, m) => if m = 0 then .inr (b, m, 0, none, 0) else (match vl t n b with
    | .inl p => .inl p
    | .inr (c, o, s) => bif tk t n c 60 then .inr (c + 1, m, o, s, 1) else bif tk t n c 62 then .inr (c + 1, m, o, s, 2) else .inr (c, m, o, s, 0))
theorem nI_or (a b : Nat) : nI a ||| nI b = nI (a ||| b) := Int32.toBitVec_inj.mp (by simp [nI, BitVec.ofNat_or])
theorem orbit {m k : Nat} (hk : k < 31) : nI m ||| (nI 1 <<< (nI k &&& 31)) = nI (m ||| 2 ^ k) := by
  rw [pk_shlN _ k (sl32 k (by omega)) (by have : 2 ^ k ≤ 2 ^ 30 := Nat.pow_le_pow_right (by omega) (by omega); omega), nI_or, Nat.one_mul]
theorem or512 {m k : Nat} (hm : m < 512) (hk : k ≤ 8) : m ||| 2 ^ k < 512 := Nat.or_lt_two_pow (n := 9) hm (by
  have : 2 ^ k ≤ 2 ^ 8 := Nat.pow_le_pow_right (by omega) hk
  omega)
theorem orne {m k : Nat} : m ||| 2 ^ k ≠ 0 := by
  intro h
  have h1 := congrArg (fun x => x.testBit k) h
  simp [Nat.testBit_or, Nat.testBit_two_pow_self] at h1
