theorem arrK {ty : FieldType} {args : Array Value} {s : State} (h : (Cond.arrayClass ty).before args s = true) : ∃ cA : ClassId, ArrOfT s cA ty ∧ s.vm.findClass ("[" ++ ty.toString) = some cA := by
  obtain ⟨cA, kA, comp, h1, h2, h3⟩ := Cond.arrayClass_spec h
  exact ⟨cA, fun n z => ⟨fun k h => (by cases h), kA, h2, comp, h3⟩, h1⟩
theorem arrKO {C : String} {args : Array Value} {s : State} (h : (Cond.arrayOver (.object C)).before args s = true) : ∃ cA : ClassId, ArrOfT s cA (.object C) ∧ va_RA s cA (.object C) := by
  obtain ⟨comp, c, k, h1, h2, h3, h4, h5⟩ := Cond.arrayOver_spec h
  exact ⟨c, fun n z => ⟨fun k h => (by cases h), k, h3, comp, h4⟩, k, comp, h3, h4, h1, h5⟩
def tmS (i : Nat) : Term := if i = 0 then .string "MicroMachine$WordReader" 60 else .string "MicroMachine$WordReader" 92
def lwD (c0 c1 c2 c3 a0 a1 a2 a3 a4 : ClassId) (i0 i1 i2 i3 adK adV : Nat → Nat) : va_G := (fun k => match k with | 0 => c0 | 1 => c1 | 2 => c2 | 3 => c3 | 10 => a0 | 11 => a1 | 12 => a2 | 13 => a3 | _ => a4, fun k => match k with | 0 => i0 | 1 => i1 | 2 => i2 | 3 => i3 | 20 => adK | _ => adV)
theorem nw_of {args : Array Value} {s : State} {w : Cond} (h2 : isNest w = true) (h1 : w.before args s = true) : va_Nw w s := by
  cases w <;> first | (exact va_tabs rfl rfl h1) | (simp [isNest] at h2)
set_option maxHeartbeats 4000000 in
set_option maxRecDepth 100000 in
theorem law_D {p : Program} {s : State} {m : MethodId} {meth : Method} {c : Code} {b L : Nat} {xs : Nat → Int32} (C0 : lw_At p s m meth c b L xs) : ∃ D : va_G, Kn D s ∧ Nw D s ∧ Zs D (fun q : Nat => s.heap.size ≤ q) s s.heap ∧ Nc4 s := by
  obtain ⟨hx, hb, hr, hml, hown, hts, hX, hbl, hlocks, hgv⟩ := C0
  have hf := flat_of_before _ hgv
  have hA : ∀ a : Nat, a < s.heap.size → ¬ (fun q : Nat => s.heap.size ≤ q) a := fun a h => Nat.not_le.mpr h
  obtain ⟨c0, i0, k0⟩ := u_known (C := RX0) (T := TX0) (N := 10) (n := 10) hts (fun w h => tg_in (inX0 w h)) (hts (.instantiable RX0 10) (tg_in tw_33))
  obtain ⟨c1, i1, k1⟩ := u_known (C := RX1) (T := TX1) (N := 4) (n := 4) hts (fun w h => tg_in (inX1 w h)) (hts (.instantiable RX1 4) (tg_in tw_27))
  obtain ⟨c2, i2, k2⟩ := u_known (C := RX2) (T := TX2) (N := 16) (n := 16) hts (fun w h => tg_in (inX2 w h)) (hts (.instantiable RX2 16) (tg_in tw_19))
  obtain ⟨c3, i3, k3⟩ := u_known (C := RX3) (T := TX3) (N := 28) (n := 28) hts (fun w h => tg_in (inX3 w h)) (hts (.instantiable RX3 28) (tg_in tw_533))
  obtain ⟨a0, t0, r0⟩ := arrK (hts (.arrayClass .char) (tg_in tw_83))
  obtain ⟨a1, t1, r1⟩ := arrK (hts (.arrayClass .int) (tg_in tw_150))
  obtain ⟨a2, t2, r2⟩ := arrK (hts (.arrayClass .boolean) (tg_in tw_623))
  obtain ⟨a4, t4, r4⟩ := arrK (hts (.arrayClass .long) (tg_in tw_737))
  have hao : (Cond.arrayOver (.object "MicroMachine$Word")).before #[Value.ref b] s = true := hts _ (by decide +kernel)
  obtain ⟨a3, t3, r3⟩ := arrKO hao
  have v11 : ∀ j : Nat, j < 11 → (Cond.eq (.elem (.field (tmS 0) "java/lang/String" "value" "[B") (.int (Int32.ofNat j))) (.int ((byS.getD 0 []).getD j 0))).before #[Value.ref b] s = true := by
    intro j hj
    obtain rfl | rfl | rfl | rfl | rfl | rfl | rfl | rfl | rfl | rfl | rfl : j = 0 ∨ j = 1 ∨ j = 2 ∨ j = 3 ∨ j = 4 ∨ j = 5 ∨ j = 6 ∨ j = 7 ∨ j = 8 ∨ j = 9 ∨ j = 10 := by omega
    all_goals exact hf _ (by decide +kernel)
  have v4 : ∀ j : Nat, j < 4 → (Cond.eq (.elem (.field (tmS 1) "java/lang/String" "value" "[B") (.int (Int32.ofNat j))) (.int ((byS.getD 1 []).getD j 0))).before #[Value.ref b] s = true := by
    intro j hj
    obtain rfl | rfl | rfl | rfl : j = 0 ∨ j = 1 ∨ j = 2 ∨ j = 3 := by omega
    all_goals exact hf _ (by decide +kernel)
  obtain ⟨adK, adV, hS, hE⟩ := vk_Sof (args := #[Value.ref b]) (s := s) (N := 2) (tm := tmS) (len := lnS) (byt := byS) (A := fun q : Nat => s.heap.size ≤ q)
    (by intro i hi; rcases (show i = 0 ∨ i = 1 by omega) with rfl | rfl <;> decide) (by intro i hi; rcases (show i = 0 ∨ i = 1 by omega) with rfl | rfl <;> exact hf _ (by decide +kernel)) (by intro i hi; rcases (show i = 0 ∨ i = 1 by omega) with rfl | rfl <;> exact hf _ (by decide +kernel)) (by intro i hi; rcases (show i = 0 ∨ i = 1 by omega) with rfl | rfl <;> exact hf _ (by decide +kernel)) (by intro i hi; rcases (show i = 0 ∨ i = 1 by omega) with rfl | rfl <;> exact hf _ (by decide +kernel))
    (by intro i hi; rcases (show i = 0 ∨ i = 1 by omega) with rfl | rfl <;> first | exact v11 | exact v4)
    (by
      intro i j hi hj hne
      have h := hf (Cond.not (Cond.eq (tmS 0) (tmS 1))) (by decide +kernel)
      rcases (show i = 0 ∨ i = 1 by omega) with rfl | rfl
      · obtain rfl : j = 1 := by omega
        exact Or.inl h
      · obtain rfl : j = 0 := by omega
        exact Or.inr h) hA
  refine ⟨lwD c0 c1 c2 c3 a0 a1 a2 a3 a4 i0 i1 i2 i3 adK adV, ⟨⟨fun k q hq => ?_, fun k q hq => ?_⟩, va_AO.of hao⟩, ⟨fun w hw => nw_of (List.mem_filter.mp hw).2 (hts w (List.mem_filter.mp hw).1), vk_R.of (hts (.stringRef RX1 60 "ADPSLCTOHMU") (List.mem_of_getElem? (i := 316) (by decide +kernel))) (hE 0 (by decide)), vk_R.of (hts (.stringRef RX1 92 "gznm") (List.mem_of_getElem? (i := 435) (by decide +kernel))) (hE 1 (by decide))⟩, ⟨vx_Zqof (hts (.laysStatic Bundle.tN "UNASSIGNED_STACK" Bundle.steD) (List.mem_of_getElem? (i := 231) (by decide +kernel))) (hts _ (tg_in tw_5)) (hf _ (by decide +kernel)) hA, vx_Zqof (hts (.laysStatic Bundle.tN "SUPPRESSED_SENTINEL" Bundle.listD) (List.mem_of_getElem? (i := 233) (by decide +kernel))) (hts _ (tg_in tw_5)) (hf _ (by decide +kernel)) hA, hS, va_Zof (hts (.laysStatic "java/lang/String" "COMPACT_STRINGS" "Z") (List.mem_of_getElem? (i := 330) (by decide +kernel))) (hts _ (tg_in tw_10)) (va_eqi (hf _ (by decide +kernel))) hA⟩, va_Nc.of (hf _ (by decide +kernel)), va_Nc.of (hf _ (by decide +kernel)), va_Nc.of (hf _ (by decide +kernel)), va_Nc.of (hf _ (by decide +kernel))⟩
  · match k, hq with
    | 0, hq => cases hq; exact k0
    | 1, hq => cases hq; exact k1
    | 2, hq => cases hq; exact k2
    | 3, hq => cases hq; exact k3
    | k + 4, hq => cases hq
  · match k, hq with
    | 0, hq => cases hq; exact ⟨t0, r0⟩
    | 1, hq => cases hq; exact ⟨t1, r1⟩
    | 2, hq => cases hq; exact ⟨t2, r2⟩
    | 3, hq => cases hq; exact ⟨t3, r3⟩
    | 4, hq => cases hq; exact ⟨t4, r4⟩
    | k + 5, hq => cases hq
/-- the law, from its entry -/
theorem whole_start {p : Program} {e : Env} {s : State} {m : MethodId} {below : List Frame} {meth : Method} {c : Code} (l : Launch) (htr : l.stackTraces = false) {b L : Nat} {xs : Nat → Int32} (hL : L ≤ 1536) (htab : c.exceptionTable.toList = []) (C0 : lw_At p s m meth c b L xs) : W p l e room_1 s m #[Value.ref b] below meth c s.heap [] 0 0 (lw_Z below #[Value.ref b] s) (entryFrame m ([Value.ref b] : List Value).toArray 7) := by
  obtain ⟨D, hK, hN, hZ, h4⟩ := law_D C0
  obtain ⟨hx, hb, hr, hml, hown, hts, hX, hbl, hlocks, hgv⟩ := C0
  have hl := lv_entry ([.ref b]) (n := 7) (Nat.le_of_ble_eq_true rfl)
  rw [lg_entry_eq]
  exact o_start l htr D b L xs ⟨hx, hb, hml, hown, fun w h => hts w (tg_in h), hlocks, fun _ h => h, hZ, hN, htr, htab⟩ hr h4 hK hX hbl hL _ hl
