/-! the law's invariant -/
def isS (g : Nat → Option Nat) : Nat → Bool := fun j => (g j).isSome
def LInv (n : Nat) (t : Nat → Nat) (ah : Nat) (wc : Bool) (wd0 cw : Int32) (wt : Nat) (g : Nat → Option Nat) (LP : List Nat) (pw : Nat → WT) (Bin Bso Bfr Bsh Bwo Bfe Bgo Bfi Bse : Nat → Int32) : Prop :=
  n ≤ 40 ∧ (∀ j, t j < 128) ∧ ah < 64 ∧ (wc = true → wd0 = cw) ∧ wt = cntB (isS g) 64 ∧ (∀ k a, k < 64 → g k = some a → a ∈ LP ∧ wOK (pw a)) ∧ (∀ k w, k < 64 → swW g pw k = some w → wR Bin Bso Bfr Bsh Bwo Bfe Bgo Bfi Bse k w)
theorem isS_on {g : Nat → Option Nat} {k q : Nat} : va_up (isS g) k true = isS (va_up g k (some q)) := by
  funext j; by_cases h : j = k <;> simp [va_up, isS, h]
theorem isS_off {g : Nat → Option Nat} {k : Nat} : va_up (isS g) k false = isS (va_up g k none) := by
  funext j; by_cases h : j = k <;> simp [va_up, isS, h]
theorem isS_t {g : Nat → Option Nat} {k a : Nat} (h : g k = some a) : isS g k = true := by unfold isS; rw [h]; rfl
theorem isS_f {g : Nat → Option Nat} {k : Nat} (h : g k = none) : isS g k = false := by unfold isS; rw [h]; rfl
theorem isS_ne {g : Nat → Option Nat} {k : Nat} (h : g k ≠ none) : isS g k = true := by
  cases hx : g k with
  | none => exact absurd hx h
  | some a => exact isS_t hx
theorem sw_isS (g : Nat → Option Nat) (pw : Nat → WT) : ∀ k, k < 64 → isS g k = (swW g pw k).isSome := by
  intro k _; unfold isS swW; cases g k <;> rfl
theorem ixu {i : Int32} {a b B : Nat} (hB : B < 2 ^ 31) (h1 : i = nI a) (h2 : i = nI b) (ha : a < B) (hb : b < B) : a = b := (nI_eq (by omega) (by omega)).mp (h1.symm.trans h2)
theorem mtd_eq {Bin Bso Bfr Bsh Bwo Bfe Bgo Bfi Bse : Nat → Int32} {k j : Nat} {w : WT} (h : wR Bin Bso Bfr Bsh Bwo Bfe Bgo Bfi Bse k w) (hj : j < 7) : mtd Bin Bwo Bfe Bgo Bfi Bse Bsh k j = tdV w j := by
  obtain ⟨h1, h2, h3, h4, h5, h6, h7, h8, h9⟩ := h
  obtain rfl | rfl | rfl | rfl | rfl | rfl | rfl : j = 0 ∨ j = 1 ∨ j = 2 ∨ j = 3 ∨ j = 4 ∨ j = 5 ∨ j = 6 := by omega
  · exact h1
  · exact h5
  · exact h6
  · exact h7
  · exact h8
  · exact h9
  · exact h4
/-- the sum of a script's two ints -/
def zzL (a b : Int32) : Int64 := (a.toInt64 <<< ((nI 32).toInt64 &&& 63)) ||| (b.toInt64 &&& 4294967295)
theorem lawGt {L j : Nat} (hL : L ≤ 1536) (hj : j ≤ 512) : (nI L - nI 3 < nI (3 * j)) ↔ L < 3 * j + 3 := by
  rw [Int32.lt_iff_toInt_lt, pk_sub_toInt (by omega) (by omega), nI_toInt (by omega)]
  omega
/-- a word that was read comes into the pool -/
theorem poolAdd {D : va_G} {A : Nat → Prop} {s : State} {X a b : va_W} {LP : List Nat} {pw : Nat → WT} {q : Nat} {w : WT} {H : Heap} {locs : List Loc} (hp : X.Perm (a ++ b)) (hH : Hp D A s ((a ++ va_pl LP (pwF pw)) ++ (b ++ [(q, .inr (0, wF w))])) H locs) : Hp D A s (X ++ va_pl (q :: LP) (pwF (va_up pw q w))) H locs ∧ q ∉ LP := by
  have hq : q ∉ LP := by
    intro hq
    have hd := (vD_mem.mp hH.2.1).1
    rw [List.map_append, List.map_append, List.map_append] at hd
    have h2 := (List.nodup_append.mp hd).2.2
    refine h2 q ?_ q ?_ rfl
    · refine List.mem_append_right _ ?_
      unfold va_pl
      rw [List.map_map]
      exact List.mem_map.mpr ⟨q, hq, rfl⟩
    · exact List.mem_append_right _ List.mem_cons_self
  refine ⟨?_, hq⟩
  have e : va_pl (q :: LP) (pwF (va_up pw q w)) = (q, .inr (0, wF w)) :: va_pl LP (pwF pw) := by
    unfold va_pl
    rw [List.map_cons]
    congr 1
    · unfold pwF; rw [va_up_self]
    · refine List.map_congr_left (fun z hz => ?_)
      have hne : z ≠ q := fun e => hq (e ▸ hz)
      unfold pwF; rw [va_up_ne _ _ hne]
  rw [e]
  refine hH.perm ?_
  generalize va_pl LP (pwF pw) = Pl
  generalize ((q, .inr (0, wF w)) : Nat × va_E) = z
  have h1 : ((a ++ Pl) ++ (b ++ [z])).Perm ((a ++ b) ++ (z :: Pl)) := by
    rw [List.append_assoc, List.append_assoc]
    refine List.Perm.append_left a ?_
    rw [← List.append_assoc]
    refine ((List.perm_append_comm (l₁ := Pl) (l₂ := b)).append_right [z]).trans ?_
    rw [List.append_assoc]
    exact (List.perm_append_singleton z Pl).append_left b
  exact h1.trans (hp.symm.append_right _)
theorem poolDrop {D : va_G} {A : Nat → Prop} {s : State} {X a b P : va_W} {z : Nat × va_E} {H : Heap} {locs : List Loc} (hp : X.Perm (a ++ b)) (hH : Hp D A s ((a ++ P) ++ (b ++ [z])) H locs) : Hp D A s (X ++ P) H locs := by
  have h1 : Hp D A s ((a ++ P) ++ b) H locs := by
    rw [← List.append_assoc] at hH
    refine ⟨vP_mem.mpr (fun q hq => vP_mem.mp hH.1 q (List.mem_append_left _ hq)), vD_mem.mpr ?_, hH.2.2⟩
    have hd := vD_mem.mp hH.2.1
    rw [List.map_append] at hd
    exact ⟨(List.nodup_append.mp hd.1).1, fun q hq => hd.2 q (List.mem_append_left _ hq)⟩
  exact h1.perm (pmN hp).symm
theorem runS_lt {kb : Nat → Int32} {sw : Nat → Option WT} (hok : ∀ k w, k < 64 → sw k = some w → wOK w) : ∀ (n z : Nat) (S S2 : MS), S.1 < 64 → runS kb sw n S = (z, S2) → S2.1 < 64 := by
  intro n
  induction n with
  | zero => intro z S S2 h e; cases e; exact h
  | succ n ih =>
    intro z S S2 h e
    rw [runS] at e
    cases hx : sw S.1 with
    | none => rw [hx] at e; cases e; exact h
    | some w =>
      rw [hx] at e
      have e2 : (match cycW kb w S with | none => (3, S) | some S2 => runS kb sw n S2) = (z, S2) := e
      cases hc : cycW kb w S with
      | none => rw [hc] at e2; cases e2; exact h
      | some S3 => rw [hc] at e2; exact ih z S3 S2 (cycW_lt (hok S.1 w h hx) hc) e2
section INV
variable {n : Nat} {t : Nat → Nat} {ah : Nat} {wc : Bool} {wd0 cw : Int32} {wt : Nat} {g : Nat → Option Nat} {LP : List Nat} {pw : Nat → WT} {Bin Bso Bfr Bsh Bwo Bfe Bgo Bfi Bse : Nat → Int32}
theorem LInv.ok (hI : LInv n t ah wc wd0 cw wt g LP pw Bin Bso Bfr Bsh Bwo Bfe Bgo Bfi Bse) : ∀ k w, k < 64 → swW g pw k = some w → wOK w := by
  intro k w hk h
  unfold swW at h
  cases hx : g k with
  | none => rw [hx] at h; cases h
  | some a => rw [hx] at h; cases h; exact (hI.2.2.2.2.2.1 k a hk hx).2
theorem LInv.pos (hI : LInv n t ah wc wd0 cw wt g LP pw Bin Bso Bfr Bsh Bwo Bfe Bgo Bfi Bse) : ∀ k a, k < 64 → g k = some a → 1 ≤ wt := by
  intro k a hk h
  rw [hI.2.2.2.2.1]
  exact cntB_pos (isS_t h) 64 hk
theorem LInv.mem (hI : LInv n t ah wc wd0 cw wt g LP pw Bin Bso Bfr Bsh Bwo Bfe Bgo Bfi Bse) : ∀ k a, k < 64 → g k = some a → a ∈ LP := fun k a hk h => (hI.2.2.2.2.2.1 k a hk h).1
theorem LInv.rel (hI : LInv n t ah wc wd0 cw wt g LP pw Bin Bso Bfr Bsh Bwo Bfe Bgo Bfi Bse) {k a : Nat} (hk : k < 64) (h : g k = some a) : wR Bin Bso Bfr Bsh Bwo Bfe Bgo Bfi Bse k (pw a) := hI.2.2.2.2.2.2 k (pw a) hk (swW_s h)
theorem LInv.erase (hI : LInv n t ah wc wd0 cw wt g LP pw Bin Bso Bfr Bsh Bwo Bfe Bgo Bfi Bse) {k a : Nat} (hk : k < 64) (h : g k = some a) : LInv n t ah wc wd0 cw (wt - 1) (va_up g k none) LP pw Bin Bso Bfr Bsh Bwo Bfe Bgo Bfi Bse := by
  obtain ⟨h1, h2, h3, h4, h5, h6, h7⟩ := hI
  have hn : ∀ k2, va_up g k none k2 ≠ none → va_up g k none k2 = g k2 := by
    intro k2 h
    by_cases e : k2 = k
    · subst e; exact absurd (va_up_self g k2 none) h
    · exact va_up_ne g none e
  refine ⟨h1, h2, h3, h4, ?_, fun k2 a2 hk2 hg => ?_, fun k2 w hk2 hs => ?_⟩
  · rw [h5, cntB_off (isS_t h) 64 hk, isS_off]; omega
  · have e := hn k2 (by rw [hg]; simp)
    rw [e] at hg
    exact h6 k2 a2 hk2 hg
  · have hne : va_up g k none k2 ≠ none := fun e => by rw [swW_n e] at hs; cases hs
    have e := hn k2 hne
    have : swW g pw k2 = some w := by rw [← hs]; unfold swW; rw [e]
    exact h7 k2 w hk2 this
theorem LInv.junk (hI : LInv n t ah wc wd0 cw wt g LP pw Bin Bso Bfr Bsh Bwo Bfe Bgo Bfi Bse) {n2 : Nat} (hn : n2 ≤ 40) (b1 b2 b3 b4 b5 b6 b7 b8 b9 : Int32) : LInv n2 t ah wc wd0 cw wt g LP pw (upd Bin 64 b1) (upd Bso 64 b2) (upd Bfr 64 b3) (upd Bsh 64 b4) (upd Bwo 64 b5) (upd Bfe 64 b6) (upd Bgo 64 b7) (upd Bfi 64 b8) (upd Bse 64 b9) := by
  obtain ⟨h1, h2, h3, h4, h5, h6, h7⟩ := hI
  refine ⟨hn, h2, h3, h4, h5, h6, fun k w hk hs => ?_⟩
  have e : ∀ (f : Nat → Int32) (b : Int32), upd f 64 b k = f k := fun f b => if_neg (by omega)
  unfold wR
  rw [e, e, e, e, e, e, e, e, e]
  exact h7 k w hk hs
theorem LInv.word (hI : LInv n t ah wc wd0 cw wt g LP pw Bin Bso Bfr Bsh Bwo Bfe Bgo Bfi Bse) {k q wt2 f0 f1 f2 f3 f4 f5 : Nat} {f6 : Bool} {f7 : Nat} {f8 f9 : Option Nat} (hk : k < 64) (hq : q ∉ LP) (hwt : (g k = none ∧ wt2 = wt + 1) ∨ (g k ≠ none ∧ wt2 = wt)) (hR : RDT t n = .inr (f0, f1, f2, f3, f4, f5, f6, f7, f8, f9)) :
    LInv 0 t ah wc wd0 cw wt2 (va_up g k (some q)) (q :: LP) (va_up pw q (f0, f1, f2, f3, f4, f5, f6, f7, f8, f9)) (upd (upd Bin 64 (nI f1)) k (nI f1)) (upd (upd Bso 64 (nI (ms f2))) k (nI (ms f2))) (upd (upd Bfr 64 (oI (some f3))) k (oI (some f3))) (upd (upd Bsh 64 (nI f4)) k (nI f4)) (upd (upd Bwo 64 (nI f5)) k (nI f5)) (upd (upd Bfe 64 (bI f6)) k (bI f6)) (upd (upd Bgo 64 (nI f7)) k (nI f7)) (upd (upd Bfi 64 (oI f8)) k (oI f8)) (upd (upd Bse 64 (oI f9)) k (oI f9)) := by
  obtain ⟨h1, h2, h3, h4, h5, h6, h7⟩ := hI
  refine ⟨by omega, h2, h3, h4, ?_, fun k2 a2 hk2 hg => ?_, fun k2 w hk2 hs => ?_⟩
  · rw [← isS_on]
    rcases hwt with ⟨e1, e2⟩ | ⟨e1, e2⟩
    · rw [e2, h5, cntB_on (isS_f e1) 64 hk]
    · rw [e2, h5, va_same (isS_ne e1)]
  · by_cases e : k2 = k
    · subst e
      rw [va_up_self] at hg
      cases hg
      exact ⟨List.mem_cons_self, by rw [va_up_self]; exact RDT_ok hR⟩
    · rw [va_up_ne _ _ e] at hg
      have h := h6 k2 a2 hk2 hg
      have hne : a2 ≠ q := fun e => hq (e ▸ h.1)
      exact ⟨List.mem_cons_of_mem _ h.1, by rw [va_up_ne _ _ hne]; exact h.2⟩
  · by_cases e : k2 = k
    · subst e
      rw [swW_s (va_up_self g k2 (some q)), va_up_self] at hs
      cases hs
      have e : ∀ (f : Nat → Int32) (b : Int32), upd f k2 b k2 = b := fun f b => if_pos rfl
      unfold wR
      rw [e, e, e, e, e, e, e, e, e]
      exact ⟨rfl, rfl, rfl, rfl, rfl, rfl, rfl, rfl, rfl⟩
    · have hs2 : swW g pw k2 = some w := by
        unfold swW at hs ⊢
        rw [va_up_ne _ _ e] at hs
        cases hx : g k2 with
        | none => rw [hx] at hs; cases hs
        | some a2 =>
          rw [hx] at hs
          have hne : a2 ≠ q := fun e => hq (e ▸ (h6 k2 a2 hk2 hx).1)
          have hs3 : some (va_up pw q (f0, f1, f2, f3, f4, f5, f6, f7, f8, f9) a2) = some w := hs
          rw [va_up_ne _ _ hne] at hs3
          exact hs3
      have e2 : ∀ (f : Nat → Int32) (b c : Int32), upd (upd f 64 b) k c k2 = f k2 := fun f b c => by
        unfold upd; rw [if_neg e, if_neg (by omega)]
      unfold wR
      rw [e2, e2, e2, e2, e2, e2, e2, e2, e2]
      exact h7 k2 w hk2 hs2
end INV
