theorem cyc_no {f5 : Nat} {f6 : Bool} {a q : Int32} (h1 : f5 ≠ 0 → ∃ k, k < 64 ∧ a = nI k) (h2 : f6 = true → ∃ k, k < 64 ∧ q = nI k) : ¬ ((f5 ≠ 0 ∧ inB a = false) ∨ (f6 = true ∧ inB q = false)) := by
  rintro (⟨h, e⟩ | ⟨h, e⟩)
  · rw [inB_t (h1 h)] at e; cases e
  · rw [inB_t (h2 h)] at e; cases e
theorem Hp.reo {D : va_G} {A : Nat → Prop} {s : State} {ws ws' : va_W} {H : Heap} {locs : List Loc} (hH : Hp D A s ws H locs) (ix : List Nat) (h1 : ix.filterMap (fun i => ws[i]?) = ws') (n : Nat) (hn : ws.length = n) (h2 : (List.range n).Perm ix) : Hp D A s ws' H locs := hH.perm (perm_of (wr := []) [] ix rfl h1 (by rw [hn]; exact h2))
