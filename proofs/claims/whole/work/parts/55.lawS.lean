/-! the law's invariant -/
def isS (g : Nat → Option Nat) : Nat → Bool := fun j => (g j).isSome
def LInv (n : Nat) (t : Nat → Nat) (ah : Nat) (wc : Bool) (wd0 cw : Int32) (wt : Nat) (g : Nat → Option Nat) (LP : List Nat) (pw : Nat → WT) (Bin Bso Bfr Bsh Bwo Bfe Bgo Bfi Bse : Nat → Int32) : Prop :=
  n ≤ 40 ∧ (∀ j, t j < 128) ∧ ah < 64 ∧ (wc = true → wd0 = cw) ∧ wt = cntB (isS g) 64 ∧ (∀ k a, k < 64 → g k = some a → a ∈ LP ∧ wOK (pw a)) ∧ (∀ k w, k < 64 → swW g pw k = some w → wR Bin Bso Bfr Bsh Bwo Bfe Bgo Bfi Bse k w)
theorem isS_on {g : Nat → Option Nat} {k q : Nat} : va_up (isS g) k true = isS (va_up g k (some q)) := by
  funext j; by_cases h : j = k <;> simp [va_up, isS, h]
theorem isS_off {g : Nat → Option Nat} {k : Nat} : va_up (isS g) k false = isS (va_up g k none) := by
  funext j; by_cases h : j = k <;> simp [va_up, isS, h]
theorem isS_t {g : Nat → Option Nat} {k a : Nat} (h : g k = some a) : isS g k = true := by unfold isS; rw [h]; rfl
theorem isS_f {g : Nat → Option Nat} {k : Nat} (h : g k = none) : isS g k = false := by unfold isS; rw [h]; rfl
theorem isS_ne {g : Nat → Option Nat} {k : Nat} (h : g k ≠ none) : isS g k = true := by
  cases hx : g k with
  | none => exact absurd hx h
  | some a => exact isS_t hx
theorem sw_isS (g : Nat → Option Nat) (pw : Nat → WT) : ∀ k, k < 64 → isS g k = (swW g pw k).isSome := by
  intro k _; unfold isS swW; cases g k <;> rfl
theorem ixu {i : Int32} {a b B : Nat} (hB : B < 2 ^ 31) (h1 : i = nI a) (h2 : i = nI b) (ha : a < B) (hb : b < B) : a = b := (nI_eq (by omega) (by omega)).mp (h1.symm.trans h2)
theorem mtd_eq {Bin Bso Bfr Bsh Bwo Bfe Bgo Bfi Bse : Nat → Int32} {k j : Nat} {w : WT} (h : wR Bin Bso Bfr Bsh Bwo Bfe Bgo Bfi Bse k w) (hj : j < 7) : mtd Bin Bwo Bfe Bgo Bfi Bse Bsh k j = tdV w j := by
  obtain ⟨h1, h2, h3, h4, h5, h6, h7, h8, h9⟩ := h
  obtain rfl | rfl | rfl | rfl | rfl | rfl | rfl : j = 0 ∨ j = 1 ∨ j = 2 ∨ j = 3 ∨ j = 4 ∨ j = 5 ∨ j = 6 := by omega
  · exact h1
  · exact h5
  · exact h6
  · exact h7
  · exact h8
  · exact h9
  · exact h4
/-- the sum of a script's two ints -/
def zzL (a b : Int32) : Int64 := (a.toInt64 <<< ((nI 32).toInt64 &&& 63)) ||| (b.toInt64 &&& 4294967295)
theorem lawGt {L j : Nat} (hL : L ≤ 1536) (hj : j ≤ 512) : (nI L - nI 3 < nI (3 * j)) ↔ L < 3 * j + 3 := by
  rw [Int32.lt_iff_toInt_lt, pk_sub_toInt (by omega) (by omega), nI_toInt (by omega)]
  omega
/-- a word that was read comes into the pool -/
theorem poolAdd {D : va_G} {A : Nat → Prop} {s : State} {X a b : va_W} {LP : List Nat} {pw : Nat → WT} {q : Nat} {w : WT} {H : Heap} {locs : List Loc} (hp : X.Perm (a ++ b)) (hH : Hp D A s ((a ++ va_pl LP (pwF pw)) ++ (b ++ [(q, .inr (0, wF w))])) H locs) : Hp D A s (X ++ va_pl (q :: LP) (pwF (va_up pw q w))) H locs ∧ q ∉ LP := by
  have hq : q ∉ LP := by
    intro hq
    have hd := (vD_mem.mp hH.2.1).1
    rw [List.map_append, List.map_append, List.map_append] at hd
    have h2 := (List.nodup_append.mp hd).2.2
    refine h2 q ?_ q ?_ rfl
    · refine List.mem_append_right _ ?_
      unfold va_pl
      rw [List.map_map]
      exact List.mem_map.mpr ⟨q, hq, rfl⟩
    · exact List.mem_append_right _ List.mem_cons_self
  refine ⟨?_, hq⟩
  have e : va_pl (q :: LP) (pwF (va_up pw q w)) = (q, .inr (0, wF w)) :: va_pl LP (pwF pw) := by
    unfold va_pl
    rw [List.map_cons]
    congr 1
    · unfold pwF; rw [va_up_self]
    · refine List.map_congr_left (fun z hz => ?_)
      have hne : z ≠ q := fun e => hq (e ▸ hz)
      unfold pwF; rw [va_up_ne _ _ hne]
  rw [e]
  refine hH.perm ?_
  generalize va_pl LP (pwF pw) = Pl
  generalize ((q, .inr (0, wF w)) : Nat × va_E) = z
  have h1 : ((a ++ Pl) ++ (b ++ [z])).Perm ((a ++ b) ++ (z :: Pl)) := by
    rw [List.append_assoc, List.append_assoc]
    refine List.Perm.append_left a ?_
    rw [← List.append_assoc]
    refine ((List.perm_append_comm (l₁ := Pl) (l₂ := b)).append_right [z]).trans ?_
    rw [List.append_assoc]
    exact (List.perm_append_singleton z Pl).append_left b
  exact h1.trans (hp.symm.append_right _)
theorem poolDrop {D : va_G} {A : Nat → Prop} {s : State} {X a b P : va_W} {z : Nat × va_E} {H : Heap} {locs : List Loc} (hp : X.Perm (a ++ b)) (hH : Hp D A s ((a ++ P) ++ (b ++ [z])) H locs) : Hp D A s (X ++ P) H locs := by
  have h1 : Hp D A s ((a ++ P) ++ b) H locs := by
    rw [← List.append_assoc] at hH
    refine ⟨vP_mem.mpr (fun q hq => vP_mem.mp hH.1 q (List.mem_append_left _ hq)), vD_mem.mpr ?_, hH.2.2⟩
    have hd := vD_mem.mp hH.2.1
    rw [List.map_append] at hd
    exact ⟨(List.nodup_append.mp hd.1).1, fun q hq => hd.2 q (List.mem_append_left _ hq)⟩
  exact h1.perm (pmN hp).symm
