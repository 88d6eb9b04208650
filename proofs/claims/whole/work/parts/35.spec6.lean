def wOK (w : WT) : Prop := w.2.1 < 512 ∧ w.2.2.1 < 16 ∧ w.2.2.2.1 < 11 ∧ w.2.2.2.2.1 < 3 ∧ w.2.2.2.2.2.1 ≤ 2 ∧ gOK w.2.2.2.2.2.2.2.1 w.2.2.2.2.2.2.2.2.1 w.2.2.2.2.2.2.2.2.2
def cycW (kb : Nat → Int32) (w : WT) (S : MS) : Option MS := cycR w.2.1 w.2.2.2.2.1 (valV S.2.2.2.2.2.2.2.2.2.1 w.2.2.1 w.2.2.2.1) w.2.2.2.2.2.1 w.2.2.2.2.2.2.1 w.2.2.2.2.2.2.2.1 w.2.2.2.2.2.2.2.2.1 w.2.2.2.2.2.2.2.2.2 kb S.1 S.2.1 S.2.2.1 S.2.2.2.1 S.2.2.2.2.1 S.2.2.2.2.2.1 S.2.2.2.2.2.2.1 S.2.2.2.2.2.2.2.1 S.2.2.2.2.2.2.2.2.1 S.2.2.2.2.2.2.2.2.2.1 S.2.2.2.2.2.2.2.2.2.2
theorem ite_some {c : Prop} [Decidable c] {α : Type} {x y : α} (e : (if c then none else some x) = some y) : x = y := by
  by_cases h : c
  · rw [if_pos h] at e; cases e
  · rw [if_neg h] at e; exact Option.some.inj e
theorem cycW_lt {kb : Nat → Int32} {w : WT} {S S2 : MS} (h : wOK w) (e : cycW kb w S = some S2) : S2.1 < 64 := by
  unfold cycW cycR at e
  have e2 := ite_some e
  rw [← e2]
  exact nxt_lt h.2.2.2.2.2
/-- so many CYCLES: 0 done, 2 a WORD that isn't there, 3 A or P out of range -/
def runS (kb : Nat → Int32) (sw : Nat → Option WT) : Nat → MS → Nat × MS
  | 0, S => (0, S)
  | n + 1, S => match sw S.1 with
    | none => (2, S)
    | some w => match cycW kb w S with
      | none => (3, S)
      | some S2 => runS kb sw n S2
theorem runS_none {kb : Nat → Int32} {sw : Nat → Option WT} {n k : Nat} {S : MS} (hk : k < n) (h : sw S.1 = none) : runS kb sw (n - k) S = (2, S) := by
  rw [show n - k = (n - (k + 1)) + 1 by omega, runS, h]
theorem runS_io {kb : Nat → Int32} {sw : Nat → Option WT} {n k : Nat} {S : MS} {w : WT} (hk : k < n) (h : sw S.1 = some w) (hc : cycW kb w S = none) : runS kb sw (n - k) S = (3, S) := by
  rw [show n - k = (n - (k + 1)) + 1 by omega, runS, h]
  show (match cycW kb w S with | none => _ | some S2 => _) = _
  rw [hc]
theorem runS_go {kb : Nat → Int32} {sw : Nat → Option WT} {n k : Nat} {S S2 : MS} {w : WT} (hk : k < n) (h : sw S.1 = some w) (hc : cycW kb w S = some S2) : runS kb sw (n - k) S = runS kb sw (n - (k + 1)) S2 := by
  rw [show n - k = (n - (k + 1)) + 1 by omega, runS, h]
  show (match cycW kb w S with | none => _ | some S2 => _) = _
  rw [hc]
def swW (g : Nat → Option Nat) (pw : Nat → WT) : Nat → Option WT := fun k => (g k).map pw
theorem swW_n {g : Nat → Option Nat} {pw : Nat → WT} {k : Nat} (h : g k = none) : swW g pw k = none := by unfold swW; rw [h]; rfl
theorem swW_s {g : Nat → Option Nat} {pw : Nat → WT} {k a : Nat} (h : g k = some a) : swW g pw k = some (pw a) := by unfold swW; rw [h]; rfl
theorem rn_in {i : Int32} (h1 : ¬ i < nI 1) (h2 : i ≤ nI 500) : ∃ n, 1 ≤ n ∧ n ≤ 500 ∧ i = nI n := by
  have h3 : ¬ i < 0 := fun q => h1 (by rw [Int32.lt_iff_toInt_lt] at q ⊢; have : (nI 1).toInt = 1 := by decide
                                       have z : (0 : Int32).toInt = 0 := by decide
                                       omega)
  obtain ⟨j, hj, rfl⟩ := nI_of2 (M := nI 500) (n := 500) (by decide) h3 h2
  refine ⟨j, ?_, hj, rfl⟩
  rcases Nat.eq_zero_or_pos j with e | e
  · subst e; exact absurd (by decide) h1
  · exact e
theorem rn_out {i : Int32} (h : i < nI 1 ∨ ¬ i ≤ nI 500) : ∀ n, 1 ≤ n → n ≤ 500 → i ≠ nI n := by
  intro n h1 h2 e
  subst e
  rcases h with h | h
  · exact nI_nlt h1 (by omega) h
  · exact h (nI_le h2 (by decide))
/-- one of the pool beside the rest of it -/
theorem pool_out {f : Nat → va_E} {LP : List Nat} {a : Nat} (ha : a ∈ LP) : ∃ P : va_W, ∀ (X wr cx : va_W), X.Perm (wr ++ cx) → (X ++ va_pl LP f).Perm ((wr ++ P) ++ (cx ++ [(a, f a)])) := by
  obtain ⟨L1, L2, rfl⟩ := List.append_of_mem ha
  refine ⟨va_pl L1 f ++ va_pl L2 f, fun X wr cx hX => ?_⟩
  have h1 : (va_pl (L1 ++ a :: L2) f).Perm ((va_pl L1 f ++ va_pl L2 f) ++ [(a, f a)]) := by
    unfold va_pl
    rw [List.map_append, List.map_cons]
    exact List.perm_middle.trans (List.perm_append_singleton _ _).symm
  generalize va_pl L1 f ++ va_pl L2 f = P at h1 ⊢
  generalize [(a, f a)] = Q at h1 ⊢
  refine (hX.append h1).trans ?_
  rw [List.append_assoc, List.append_assoc, ← List.append_assoc cx P Q, ← List.append_assoc P cx Q]
  exact (List.perm_append_comm.append_right Q).append_left wr
