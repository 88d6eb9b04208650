theorem rg_in {i : Int32} {b : Nat} (hb : b < 2 ^ 31) (h1 : ¬ i < 0) (h2 : i < nI b) : ∃ k, k < b ∧ i = nI k := by
  rcases pk_ix i hb with h | h | h
  · exact absurd h h1
  · rw [Int32.lt_iff_toInt_lt] at h2; rw [Int32.le_iff_toInt_le] at h; omega
  · exact h
theorem rg_neg {i : Int32} {b : Nat} (hb : b < 2 ^ 31) (h1 : i < 0) : ∀ k, k < b → i ≠ nI k := fun k hk e => nI_pos (n := k) (by omega) (e ▸ h1)
theorem rg_big {i : Int32} {b : Nat} (hb : b < 2 ^ 31) (h1 : ¬ i < nI b) : ∀ k, k < b → i ≠ nI k := fun k hk e => h1 (by rw [e]; exact nI_lt hk hb)
section AAST
variable {p : Program} {l : Launch} {e : Env} {R : Room} {s : State} {m : MethodId} {args : Array Value} {below : List Frame} {meth : Method} {c : Code} {H : Heap} {locs : List Loc} {cells slots : Nat} {Q : State → Prop} {cc : ByteArray} {pc : Nat} {ls : Array Slot} {rest : List Value} {nL : Nat} {own : String} {A : Nat → Prop} {D : va_G} {ws ws' : va_W} {hh : List (Nat × Nat × Nat × Nat)} {a : Nat}
theorem gAast (C : Cx p l s m meth c args cc nL own A D hh) (hK : Kn D s) (hH : Hp D A s ws H locs) (q0 qk : Nat) {n k v : Nat} {vs : List Value} {f f' : Nat → Option Nat} (ha : ws[q0]? = some (a, .inl (D.1 13, n, .inr (.inr (.inr (.inr f)))))) (hk : k < n) (hn : n < 2 ^ 31) (hv : ws[qk]? = some (v, .inr (0, vs))) (hf : va_up f k (some v) = f') (hset : ws.set q0 (a, .inl (D.1 13, n, .inr (.inr (.inr (.inr f'))))) = ws') (hdg : decode cc pc = .ok (.aastore, 1))
    (kk : ∀ (H1 : Heap) (locs1 : List Loc), Hp D A s ws' H1 locs1 → W p l e R s m args below meth c H1 locs1 cells slots Q (F0 m (pc + 1) ls rest)) : W p l e R s m args below meth c H locs cells slots Q (F0 m pc ls (.ref v :: .int (nI k) :: .ref a :: rest)) := by
  refine va_astq (r := (RX0, TX0, 10)) C.x C.b hK.1 hH.1 hH.2.1 hH.2.2 q0 3 qk 0 ha rfl hv rfl (vp_in_nI hk hn) hdg (fun H1 locs1 h1 h2 h3 => ?_)
  rw [nI_clamp (by omega), hf, hset] at h1 h2
  exact kk H1 locs1 ⟨h1, h2, h3⟩
theorem gAastN (C : Cx p l s m meth c args cc nL own A D hh) (hK : Kn D s) (hH : Hp D A s ws H locs) (q0 : Nat) {n k : Nat} {f f' : Nat → Option Nat} (ha : ws[q0]? = some (a, .inl (D.1 13, n, .inr (.inr (.inr (.inr f)))))) (hk : k < n) (hn : n < 2 ^ 31) (hf : va_up f k none = f') (hset : ws.set q0 (a, .inl (D.1 13, n, .inr (.inr (.inr (.inr f'))))) = ws') (hdg : decode cc pc = .ok (.aastore, 1))
    (kk : ∀ (H1 : Heap) (locs1 : List Loc), Hp D A s ws' H1 locs1 → W p l e R s m args below meth c H1 locs1 cells slots Q (F0 m (pc + 1) ls rest)) : W p l e R s m args below meth c H locs cells slots Q (F0 m pc ls (.null :: .int (nI k) :: .ref a :: rest)) := by
  refine va_astqN C.x C.b hK.1 hH.1 hH.2.1 hH.2.2 q0 3 ha rfl (vp_in_nI hk hn) hdg (fun H1 locs1 h1 h2 h3 => ?_)
  rw [nI_clamp (by omega), hf, hset] at h1 h2
  exact kk H1 locs1 ⟨h1, h2, h3⟩
end AAST
theorem op_or (x : Option Nat) : x = none ∨ ∃ a, x = some a := by cases x with
  | none => exact Or.inl rfl
  | some a => exact Or.inr ⟨a, rfl⟩
theorem sw_neg {x : Int32} (h : x < 0) : x.toInt < 0 := by rw [Int32.lt_iff_toInt_lt] at h; simpa using h
theorem sw_big {x : Int32} {n : Nat} (h : nI n ≤ x) (hn : n < 2 ^ 31) : (n : Int) ≤ x.toInt := by rw [Int32.le_iff_toInt_le, nI_toInt hn] at h; exact h
theorem ixneg {x : Int32} {b : Nat} (hb : b < 2 ^ 31) (h : x < 0) : ∀ k, k < b → x ≠ nI k := rg_neg hb h
theorem ixbig {x : Int32} {b : Nat} (hb : b < 2 ^ 31) (h : nI b ≤ x) : ∀ k, k < b → x ≠ nI k := fun k hk e => nI_ge (a := k) (b := b) hk hb (e ▸ h)
/-- a WORD as it is kept -/
abbrev WT : Type := Nat × Nat × Nat × Nat × Nat × Nat × Bool × Nat × Option Nat × Option Nat
def wF (w : WT) : List Value := [.int (nI w.1), .int (nI w.2.1), .int (nI w.2.2.1), .int (nI w.2.2.2.1), .int (nI w.2.2.2.2.1), .int (nI w.2.2.2.2.2.1), .int (bI w.2.2.2.2.2.2.1), .int (nI w.2.2.2.2.2.2.2.1), .int (oI w.2.2.2.2.2.2.2.2.1), .int (oI w.2.2.2.2.2.2.2.2.2)]
def pwF (pw : Nat → WT) : Nat → va_E := fun a => .inr (0, wF (pw a))
/-- the bytes of a long -/
def bO (z : Int64) (sh : Nat) : Nat := ((z.toUInt64 >>> ((nI sh).toInt64.toUInt64 &&& Int64.toUInt64 63)).toInt64.toInt32 &&& nI 255).toNatClampNeg
theorem bO_all (z : Int64) (sh : Nat) : (z.toUInt64 >>> ((nI sh).toInt64.toUInt64 &&& Int64.toUInt64 63)).toInt64.toInt32 &&& nI 255 = nI (bO z sh) ∧ bO z sh < 256 := by
  obtain ⟨j, hj, e⟩ := pk_andE ((z.toUInt64 >>> ((nI sh).toInt64.toUInt64 &&& Int64.toUInt64 63)).toInt64.toInt32) (m := nI 255) 8 (by decide)
  have h : bO z sh = j := by unfold bO; rw [e]; exact nI_clamp (by omega)
  rw [h]; exact ⟨e, by omega⟩
/-- the j-th byte from the top -/
def by8 (z : Int64) (j : Nat) : Nat := bO z (56 - 8 * j)
def bad8 (c : Nat) : Bool := decide (c ≠ 0) && (decide (c < 33) || decide (126 < c))
def badZ (z : Int64) : Nat → Bool
  | 0 => false
  | j + 1 => badZ z j || bad8 (by8 z j)
def cnt8 (z : Int64) : Nat → Nat
  | 0 => 0
  | j + 1 => cnt8 z j + if by8 z j = 0 then 0 else 1
def tyT (t : Nat → Nat) (n : Nat) (z : Int64) : Nat → (Nat → Nat) × Nat
  | 0 => (t, n)
  | j + 1 => if by8 z j = 0 then tyT t n z j else (va_up (tyT t n z j).1 (tyT t n z j).2 (by8 z j), (tyT t n z j).2 + 1)
theorem tyT_n (t : Nat → Nat) (n : Nat) (z : Int64) : ∀ j, (tyT t n z j).2 = n + cnt8 z j := by
  intro j
  induction j with
  | zero => rfl
  | succ j ih => rw [tyT, cnt8]; split <;> simp_all <;> omega
theorem cnt8_le (z : Int64) : ∀ j, cnt8 z j ≤ j := by
  intro j
  induction j with
  | zero => exact Nat.le_refl _
  | succ j ih => rw [cnt8]; split <;> omega
theorem cnt8_mono (z : Int64) {i : Nat} : ∀ j, i ≤ j → cnt8 z i ≤ cnt8 z j := by
  intro j
  induction j with
  | zero => intro h; rw [Nat.le_zero.mp h]; exact Nat.le_refl _
  | succ j ih =>
    intro h
    rcases Nat.lt_or_ge i (j + 1) with q | q
    · have := ih (by omega); rw [cnt8]; omega
    · rw [show i = j + 1 by omega]; exact Nat.le_refl _
theorem badZ_at {z : Int64} {i : Nat} : ∀ j, i < j → badZ z j = false → bad8 (by8 z i) = false := by
  intro j
  induction j with
  | zero => intro h; omega
  | succ j ih =>
    intro h hb
    rw [badZ, Bool.or_eq_false_iff] at hb
    rcases Nat.lt_or_ge i j with q | q
    · exact ih q hb.1
    · rw [show i = j by omega]; exact hb.2
theorem badZ_more {z : Int64} {i : Nat} : ∀ j, i ≤ j → badZ z i = true → badZ z j = true := by
  intro j
  induction j with
  | zero => intro h hb; rw [Nat.le_zero.mp h] at hb; exact hb
  | succ j ih =>
    intro h hb
    rcases Nat.lt_or_ge i (j + 1) with q | q
    · rw [badZ, ih (by omega) hb]; rfl
    · rw [show j + 1 = i by omega]; exact hb
theorem tyT_lt {t : Nat → Nat} {n : Nat} {z : Int64} (ht : ∀ j, t j < 128) (hb : badZ z 8 = false) : ∀ j, j ≤ 8 → ∀ i, (tyT t n z j).1 i < 128 := by
  intro j
  induction j with
  | zero => intro _ i; exact ht i
  | succ j ih =>
    intro hj i
    rw [tyT]
    split
    · exact ih (by omega) i
    · rename_i h0
      show va_up _ _ _ i < 128
      unfold va_up
      split
      · have h := badZ_at 8 (by omega : j < 8) hb
        simp only [bad8, Bool.and_eq_false_iff, Bool.or_eq_false_iff, decide_eq_false_iff_not] at h
        omega
      · exact ih (by omega) i
/-- the shift, 56 and down by 8 -/
def shI (j : Nat) : Int32 := nI 56 - nI (8 * j)
theorem sh_nn : ∀ j, j < 8 → ¬ shI j < 0 ∧ shI j = nI (56 - 8 * j) ∧ shI j + (-8) = shI (j + 1) := by decide +kernel
theorem sh_end : shI 8 < 0 := by decide +kernel
theorem sh_0 : shI 0 = nI 56 := by decide +kernel
theorem c128 : ∀ c, c < 128 → ((nI c).toUInt32 % 65536).toInt32 = nI c := by decide +kernel
def ctV (wp : Int32) (n wt ah : Nat) (cy : Int32) (wc bc : Bool) (wr ww br : Int32) : Nat → Int32
  | 0 => wp
  | 1 => nI n
  | 2 => nI wt
  | 3 => nI ah
  | 4 => cy
  | 5 => bI wc
  | 6 => bI bc
  | 7 => wr
  | 8 => ww
  | _ => br
