/-! what a text that was read gives lies in its bounds -/
theorem nb_lt {t : Nat → Nat} {n a x b : Nat} (h : nb t n a = some (x, b)) : x < 64 := by
  unfold nb at h
  cases hd : dg t n a with
  | none => rw [hd] at h; cases h
  | some d =>
    rw [hd] at h
    have := (dg_le hd).1
    cases he : dg t n (a + 1) with
    | none => rw [he] at h; cases h; omega
    | some e =>
      rw [he] at h
      have h2 : (if 10 * d + e ≤ 63 then some (10 * d + e, a + 1 + 1) else some (d, a + 1)) = some (x, b) := h
      split at h2
      · cases h2; omega
      · cases h2; omega
theorem gl_le (t : Nat → Nat) (n a : Nat) : gl t n a ≤ 4 := by
  unfold gl
  split
  · cases hx : ixS 1 (t a) with
    | none => exact Nat.zero_le _
    | some k => have := ix1_lt hx; show k + 1 ≤ 4; omega
  · exact Nat.zero_le _
theorem gg_ok {t : Nat → Nat} {n a g c : Nat} {x y : Option Nat} (hg : g ≤ 4) (h0 : g ≠ 0) (h : gg t n a g = .inr (c, x, y)) : gOK g x y := by
  unfold gg at h
  split at h
  · rename_i q
    cases h
    exact ⟨fun e => by omega, fun e => by omega, fun _ e => (by cases e), hg⟩
  · rename_i q
    cases hb : nb t n a with
    | none => rw [hb] at h; cases h
    | some p =>
      obtain ⟨v, b⟩ := p
      rw [hb] at h
      have hv := nb_lt hb
      have h2 : (if g = 1 ∨ g = 4 then .inr (b, some v, none) else bif tk t n b 44 then (match nb t n (b + 1) with
        | none => .inl (b + 1)
        | some (y, c) => .inr (c, some v, some y)) else .inl b) = (.inr (c, x, y) : Nat ⊕ (Nat × Option Nat × Option Nat)) := h
      split at h2
      · rename_i q1
        cases h2
        exact ⟨fun _ => ⟨v, hv, rfl⟩, fun e => by omega, fun _ e => (by cases e; exact hv), hg⟩
      · rename_i q1
        cases hk : tk t n b 44 with
        | false => rw [hk] at h2; cases h2
        | true =>
          rw [hk] at h2
          have h3 : (match nb t n (b + 1) with
            | none => .inl (b + 1)
            | some (y, c) => .inr (c, some v, some y)) = (.inr (c, x, y) : Nat ⊕ (Nat × Option Nat × Option Nat)) := h2
          cases hb2 : nb t n (b + 1) with
          | none => rw [hb2] at h3; cases h3
          | some p2 =>
            obtain ⟨v2, b2⟩ := p2
            rw [hb2] at h3
            have hv2 := nb_lt hb2
            cases h3
            exact ⟨fun _ => ⟨v, hv, rfl⟩, fun _ => ⟨⟨v, hv, rfl⟩, v2, hv2, rfl⟩, fun _ e => (by cases e; exact hv), hg⟩
def okR (r : RR) : Prop := match r with
  | .inl _ => True
  | .inr w => wOK w
theorem g0_ok : gOK 0 none none := ⟨fun e => by omega, fun e => by omega, fun _ e => (by cases e), by omega⟩
theorem r3_ok {t : Nat → Nat} {n a f0 f1 f2 f3 f4 f5 : Nat} {f6 : Bool} (h1 : f1 < 512) (h2 : f2 < 16) (h3 : f3 < 11) (h4 : f4 < 3) (h5 : f5 ≤ 2) : okR (r3 t n a f0 f1 f2 f3 f4 f5 f6) := by
  unfold r3
  split
  · trivial
  · rename_i q
    cases hg : gg t n (a + 1) (gl t n a) with
    | inl p => trivial
    | inr p =>
      obtain ⟨c, x, y⟩ := p
      show okR (if c = n then .inr (f0 + 1, f1, f2, f3, f4, f5, f6, gl t n a, x, y) else .inl c)
      split
      · exact ⟨h1, h2, h3, h4, h5, gg_ok (gl_le t n a) q hg⟩
      · trivial
theorem r2_ok {t : Nat → Nat} {n a f0 f1 f2 f3 f4 : Nat} {f6 : Bool} (h1 : f1 < 512) (h2 : f2 < 16) (h3 : f3 < 11) (h4 : f4 < 3) : okR (r2 t n a f0 f1 f2 f3 f4 f6) := by
  unfold r2
  cases tk t n a 114
  · cases tk t n a 119
    · exact r3_ok h1 h2 h3 h4 (by omega)
    · show okR (if a + 1 = n then _ else _)
      split
      · exact ⟨h1, h2, h3, h4, Nat.le_of_ble_eq_true rfl, g0_ok⟩
      · cases tk t n (a + 1) 59
        · trivial
        · exact r3_ok h1 h2 h3 h4 (by omega)
  · show okR (if a + 1 = n then _ else _)
    split
    · exact ⟨h1, h2, h3, h4, Nat.le_of_ble_eq_true rfl, g0_ok⟩
    · cases tk t n (a + 1) 59
      · trivial
      · exact r3_ok h1 h2 h3 h4 (by omega)
theorem r1_ok {t : Nat → Nat} {n a f0 f1 f2 f3 f4 : Nat} (h1 : f1 < 512) (h2 : f2 < 16) (h3 : f3 < 11) (h4 : f4 < 3) : okR (r1 t n a f0 f1 f2 f3 f4) := by
  unfold r1
  cases tk t n a 102
  · exact r2_ok h1 h2 h3 h4
  · show okR (if a + 1 = n then _ else _)
    split
    · exact ⟨h1, h2, h3, h4, Nat.le_of_ble_eq_true rfl, g0_ok⟩
    · cases tk t n (a + 1) 59
      · trivial
      · exact r2_ok h1 h2 h3 h4
theorem ta_le {t : Nat → Nat} {n a m k : Nat} (h : ta t n a m = some k) : k ≤ 8 := by
  unfold ta at h
  split at h
  · cases hx : ixS 0 (t a) with
    | none => rw [hx] at h; cases h
    | some j =>
      rw [hx] at h
      have h2 : (if j ≤ 8 ∧ m.testBit j = false ∧ (m = 0 ∨ j = 0 ∨ tk t n (a + 1) 61 = true) then some j else none) = some k := h
      split at h2
      · rename_i q; cases h2; exact q.1
      · cases h2
  · cases h
theorem tl_512 {t : Nat → Nat} {n : Nat} : ∀ (i a m b m2 : Nat), m < 512 → tl t n i a m = .inr (b, m2) → m2 < 512 := by
  intro i
  induction i with
  | zero => intro a m b m2 hm h; cases h; exact hm
  | succ i ih =>
    intro a m b m2 hm h
    rw [tl] at h
    cases hx : ta t n a m with
    | none => rw [hx] at h; cases h; exact hm
    | some k =>
      rw [hx] at h
      have h2 : (bif tk t n (a + 1) 61 then tl t n i (a + 1 + 1) (m ||| 2 ^ k) else .inl (a + 1)) = .inr (b, m2) := h
      cases hk : tk t n (a + 1) 61 with
      | false => rw [hk] at h2; cases h2
      | true => rw [hk] at h2; exact ih _ _ _ _ (or512 hm (ta_le hx)) h2
def okV (q : VR) : Prop := match q with
  | .inl _ => True
  | .inr w => w.2.1 < 16 ∧ w.2.2.getD 0 < 11
theorem vh_ok (t : Nat → Nat) (n b : Nat) : okV (vh t n b) := by
  unfold vh
  cases hs : src t n (b + 1) with
  | none => cases tk t n b 38 <;> cases tk t n b 124 <;> cases tk t n b 43 <;> cases tk t n (b + 1) 49 <;> simp [okV]
  | some k =>
    have := src_lt hs
    cases tk t n b 38 <;> cases tk t n b 124 <;> cases tk t n b 43 <;> cases tk t n (b + 1) 49 <;> cases tk t n (b + 1 + 1) 43 <;> cases tk t n (b + 1 + 1 + 1) 49 <;> simp [okV] <;> omega
theorem vb_ok {t : Nat → Nat} {n b k : Nat} (hk : k < 11) : okV (vb t n b k) := by
  unfold vb
  cases tk t n b 43 <;> cases tk t n b 45 <;> cases tk t n (b + 1) 49 <;> cases tk t n (b + 1) 72 <;> simp [okV] <;> omega
theorem vl_ok (t : Nat → Nat) (n a : Nat) : okV (vl t n a) := by
  unfold vl
  cases tk t n a 48
  · cases tk t n a 49
    · cases tk t n a 45
      · cases tk t n a 33
        · cases tk t n a 72
          · show okV (match src t n a with | some k => vb t n (a + 1) k | none => .inl a)
            cases hs : src t n a with
            | none => trivial
            | some k => exact vb_ok (src_lt hs)
          · exact vh_ok t n (a + 1)
        · cases hs : src t n (a + 1) with
          | none => cases tk t n (a + 1) 72 <;> simp [okV]
          | some k => have := src_lt hs; cases tk t n (a + 1) 72 <;> simp [okV] <;> omega
      · cases tk t n (a + 1) 49 <;> cases tk t n (a + 1) 72 <;> simp [okV]
    · simp [okV]
  · simp [okV]
theorem se_ok {t : Nat → Nat} {n a : Nat} {q : Nat × Nat × Nat × Option Nat × Nat} (h : se t n a = .inr q) : q.2.1 < 512 ∧ q.2.2.1 < 16 ∧ q.2.2.2.1.getD 0 < 11 ∧ q.2.2.2.2 < 3 := by
  unfold se at h
  cases ht : tl t n 4 a 0 with
  | inl p => rw [ht] at h; cases h
  | inr p =>
    obtain ⟨b, m⟩ := p
    rw [ht] at h
    have hm := tl_512 4 a 0 b m (by decide) ht
    have h2 : (if m = 0 then .inr (b, m, 0, none, 0) else (match vl t n b with
      | .inl p => .inl p
      | .inr (c, o, s) => bif tk t n c 60 then .inr (c + 1, m, o, s, 1) else bif tk t n c 62 then .inr (c + 1, m, o, s, 2) else .inr (c, m, o, s, 0))) = (.inr q : Nat ⊕ (Nat × Nat × Nat × Option Nat × Nat)) := h
    split at h2
    · cases h2; exact ⟨hm, (by decide : (0 : Nat) < 16), (by decide : (0 : Nat) < 11), (by decide : (0 : Nat) < 3)⟩
    · have hv := vl_ok t n b
      cases hl : vl t n b with
      | inl p => rw [hl] at h2; cases h2
      | inr w =>
        obtain ⟨c, o, s⟩ := w
        rw [hl] at h2 hv
        have h3 : (bif tk t n c 60 then .inr (c + 1, m, o, s, 1) else bif tk t n c 62 then .inr (c + 1, m, o, s, 2) else .inr (c, m, o, s, 0)) = (.inr q : Nat ⊕ (Nat × Nat × Nat × Option Nat × Nat)) := h2
        have hv1 : o < 16 := hv.1
        have hv2 : s.getD 0 < 11 := hv.2
        cases h60 : tk t n c 60 <;> cases h62 : tk t n c 62 <;> rw [h60, h62] at h3 <;> cases h3 <;> exact ⟨hm, hv1, hv2, Nat.le_of_ble_eq_true rfl⟩
theorem RDT_ok {t : Nat → Nat} {n : Nat} {w : WT} (h : RDT t n = .inr w) : wOK w := by
  have hk : okR (RDT t n) := by
    unfold RDT
    cases hs : se t n 0 with
    | inl p => trivial
    | inr q =>
      obtain ⟨h1, h2, h3, h4⟩ := se_ok hs
      show okR (if 0 < q.1 then _ else _)
      split
      · split
        · exact ⟨h1, h2, h3, h4, Nat.le_of_ble_eq_true rfl, g0_ok⟩
        · cases tk t n q.1 59
          · trivial
          · exact r1_ok h1 h2 h3 h4
      · exact r1_ok h1 h2 h3 h4
  rw [h] at hk
  exact hk
