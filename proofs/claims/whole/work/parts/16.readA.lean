set_option maxHeartbeats 4000000 in
set_option maxRecDepth 100000 in
/-- Word(): its start -/
theorem c_Word (l : Launch) (htr : l.stackTraces = false) (D : va_G) (sz : Nat) (h : Nat)  : Ct l yX0_init wX0_init { frames := 1, cells := 0, slots := 0, locals := 12 } D ([(h, .inr (0, [.int 0, .int 0, .int 0, .int 0, .int 0, .int 0, .int 0, .int 0, .int 0, .int 0]))]) [.ref h] sz (fun v w => v = none ∧ w = [(h, .inr (0, [.int (nI 0), .int (nI 0), .int (nI 0), .int (nI 0), .int (nI 0), .int (nI 0), .int (bI false), .int (nI 0), .int (oI none), .int (oI none)]))]) (nox) := by
  refine Ct.of (cc := cX0_init) (nL := 1) (ret := none) (own := RX0) htr (by decide) rfl (Nat.le_of_ble_eq_true rfl) ?_
  intro p e s m args below meth c A C hr hK H locs hH ls hl
  have hl : lv_has ls 1 [(0, .ref h)] := hl
  refine lv_aload_n C.x C.b dX0_init_0 rfl (lv_at hl 0 rfl) ?_
  refine W.objInit C.x C.b C.ow (C.ts _ tw_37) (C.ts _ tw_24) (C.ts _ kObj) rfl (by rw [C.ml]; exact hl.1) rfl dX0_init_1 (Nat.le_of_ble_eq_true rfl) (Nat.le_of_ble_eq_true rfl) ?_
  refine W.eq (g2 := F0 m 4 ls []) rfl ?_
  refine lv_aload_n C.x C.b dX0_init_4 rfl (lv_at hl 0 rfl) ?_
  refine lv_iconst (v := nI 0) C.x C.b dX0_init_5 (by decide) ?_
  refine gPut (v := .int (nI 0)) (ws' := [(h, .inr (0, [.int 0, .int 0, .int (nI 0), .int 0, .int 0, .int 0, .int 0, .int 0, .int 0, .int 0]))]) C hK hH 0 2 tyX0 tyX0_ok nmX0 rfl rfl inX0 (by decide) tw_43 rfl rfl rfl (Nat.le_of_ble_eq_true rfl) rfl dX0_init_6 (fun H locs hH => ?_)
  refine lv_aload_n C.x C.b dX0_init_9 rfl (lv_at hl 0 rfl) ?_
  refine lv_iconst (v := -1) C.x C.b dX0_init_10 (by decide) ?_
  refine gPut (v := .int (-1)) (ws' := [(h, .inr (0, [.int 0, .int 0, .int (nI 0), .int 0, .int 0, .int 0, .int 0, .int 0, .int (-1), .int 0]))]) C hK hH 0 8 tyX0 tyX0_ok nmX0 rfl rfl inX0 (by decide) tw_56 rfl rfl rfl (Nat.le_of_ble_eq_true rfl) rfl dX0_init_11 (fun H locs hH => ?_)
  refine lv_aload_n C.x C.b dX0_init_14 rfl (lv_at hl 0 rfl) ?_
  refine lv_iconst (v := -1) C.x C.b dX0_init_15 (by decide) ?_
  refine gPut (v := .int (-1)) (ws' := [(h, .inr (0, [.int 0, .int 0, .int (nI 0), .int 0, .int 0, .int 0, .int 0, .int 0, .int (-1), .int (-1)]))]) C hK hH 0 9 tyX0 tyX0_ok nmX0 rfl rfl inX0 (by decide) tw_59 rfl rfl rfl (Nat.le_of_ble_eq_true rfl) rfl dX0_init_16 (fun H locs hH => ?_)
  exact rV C hr hH (⟨rfl, rfl⟩) (Nat.le_of_ble_eq_true rfl) (Nat.le_of_ble_eq_true rfl) dX0_init_19
set_option maxHeartbeats 4000000 in
set_option maxRecDepth 100000 in
/-- sets(r): the bit r of the targets -/
theorem c_sets (l : Launch) (htr : l.stackTraces = false) (D : va_G) (sz : Nat) (h r : Nat) (f0 f1 f2 f3 f4 f5 : Nat) (f6 : Bool) (f7 : Nat) (f8 f9 : Option Nat) (hf : f1 < 2 ^ 31) (hb : r < 32) : Ct l yX0_sets wX0_sets { frames := 0, cells := 0, slots := 0, locals := 0 } D ([(h, .inr (0, [.int (nI f0), .int (nI f1), .int (nI f2), .int (nI f3), .int (nI f4), .int (nI f5), .int (bI f6), .int (nI f7), .int (oI f8), .int (oI f9)]))]) [.ref h, .int (nI r)] sz (fun v w => (f1.testBit r = true ∧ v = some (.int (nI 1)) ∧ w = [(h, .inr (0, [.int (nI f0), .int (nI f1), .int (nI f2), .int (nI f3), .int (nI f4), .int (nI f5), .int (bI f6), .int (nI f7), .int (oI f8), .int (oI f9)]))]) ∨ (f1.testBit r = false ∧ v = some (.int (nI 0)) ∧ w = [(h, .inr (0, [.int (nI f0), .int (nI f1), .int (nI f2), .int (nI f3), .int (nI f4), .int (nI f5), .int (bI f6), .int (nI f7), .int (oI f8), .int (oI f9)]))])) (nox) := by
  refine Ct.of (cc := cX0_sets) (nL := 2) (ret := (some .boolean)) (own := RX0) htr (by decide) rfl (Nat.le_of_ble_eq_true rfl) ?_
  intro p e s m args below meth c A C hr hK H locs hH ls hl
  have hl : lv_has ls 2 [(0, .ref h), (1, .int (nI r))] := hl
  refine lv_aload_n C.x C.b dX0_sets_0 rfl (lv_at hl 0 rfl) ?_
  refine gGet (v := .int (nI f1)) C hK hH 0 1 rfl rfl inX0 (by decide) tw_40 rfl dX0_sets_1 ?_
  refine lv_iload_n C.x C.b dX0_sets_4 rfl (lv_at hl 1 rfl) ?_
  refine lv_ishr C.x C.b dX0_sets_5 ?_
  refine lv_iconst (v := nI 1) C.x C.b dX0_sets_6 (by decide) ?_
  refine lv_iand C.x C.b dX0_sets_7 ?_
  refine vt_top (y := bI (f1.testBit r)) (bitOf hf hb) ?_
  refine vb_if_eq (tgt := 15) C.x C.b dX0_sets_8 (by decide) (fun c_8 => ?_) (fun c_8 => ?_)
  · refine lv_iconst (v := nI 0) C.x C.b dX0_sets_15 (by decide) ?_
    exact rZ C hr (by decide) hH (Or.inr ⟨c_8, rfl, rfl⟩) (Nat.le_of_ble_eq_true rfl) (Nat.le_of_ble_eq_true rfl) dX0_sets_16
  · refine lv_iconst (v := nI 1) C.x C.b dX0_sets_11 (by decide) ?_
    refine lv_goto (tgt := 16) C.x C.b dX0_sets_12 (by decide) ?_
    exact rZ C hr (by decide) hH (Or.inl ⟨c_8, rfl, rfl⟩) (Nat.le_of_ble_eq_true rfl) (Nat.le_of_ble_eq_true rfl) dX0_sets_16
set_option maxHeartbeats 4000000 in
set_option maxRecDepth 100000 in
/-- does(o): noted -/
theorem c_does (l : Launch) (htr : l.stackTraces = false) (D : va_G) (sz : Nat) (h0 tx dr : Nat) (t : Nat → Nat) (n a : Nat) (f0 f1 f2 f3 f4 f5 : Nat) (f6 : Bool) (f7 : Nat) (f8 f9 : Option Nat) (o : Nat) (hn : n ≤ 40) (ha : a ≤ n) (ht : ∀ j, t j < 128) : Ct l yX1_does wX1_does { frames := 0, cells := 0, slots := 0, locals := 0 } D ([(h0, .inr (1, [.ref tx, .int (nI n), .int (nI a), .ref dr])), (tx, .inl (D.1 10, 40, .inl (fun j => nI (t j)))), (dr, .inr (0, [.int (nI f0), .int (nI f1), .int (nI f2), .int (nI f3), .int (nI f4), .int (nI f5), .int (bI f6), .int (nI f7), .int (oI f8), .int (oI f9)]))]) [.ref h0, .int (nI o)] sz (fun v w => v = some (.int (nI 1)) ∧ w = [(h0, .inr (1, [.ref tx, .int (nI n), .int (nI a), .ref dr])), (tx, .inl (D.1 10, 40, .inl (fun j => nI (t j)))), (dr, .inr (0, [.int (nI f0), .int (nI f1), .int (nI o), .int (nI f3), .int (nI f4), .int (nI f5), .int (bI f6), .int (nI f7), .int (oI f8), .int (oI f9)]))]) (nox) := by
  refine Ct.of (cc := cX1_does) (nL := 2) (ret := (some .boolean)) (own := RX1) htr (by decide) rfl (Nat.le_of_ble_eq_true rfl) ?_
  intro p e s m args below meth c A C hr hK H locs hH ls hl
  have hl : lv_has ls 2 [(0, .ref h0), (1, .int (nI o))] := hl
  refine lv_aload_n C.x C.b dX1_does_0 rfl (lv_at hl 0 rfl) ?_
  refine gGet (v := .ref dr) C hK hH 0 3 rfl rfl inX1 (by decide) tw_89 rfl dX1_does_1 ?_
  refine lv_iload_n C.x C.b dX1_does_4 rfl (lv_at hl 1 rfl) ?_
  refine gPutN (v := .int (nI o)) (ws' := [(h0, .inr (1, [.ref tx, .int (nI n), .int (nI a), .ref dr])), (tx, .inl (D.1 10, 40, .inl (fun j => nI (t j)))), (dr, .inr (0, [.int (nI f0), .int (nI f1), .int (nI o), .int (nI f3), .int (nI f4), .int (nI f5), .int (bI f6), .int (nI f7), .int (oI f8), .int (oI f9)]))]) C hK hH 2 2 tyX0 tyX0_ok nmX0 rfl rfl inX0 (by decide) (nwl_of tn_44 rfl) rfl rfl rfl (Nat.le_of_ble_eq_true rfl) rfl dX1_does_5 (fun H locs hH => ?_)
  refine lv_iconst (v := nI 1) C.x C.b dX1_does_8 (by decide) ?_
  exact rZ C hr (by decide) hH (⟨rfl, rfl⟩) (Nat.le_of_ble_eq_true rfl) (Nat.le_of_ble_eq_true rfl) dX1_does_9
set_option maxHeartbeats 4000000 in
set_option maxRecDepth 100000 in
/-- take(k): the character k is taken if it stands here -/
theorem c_take (l : Launch) (htr : l.stackTraces = false) (D : va_G) (sz : Nat) (h0 tx dr : Nat) (t : Nat → Nat) (n a : Nat) (f0 f1 f2 f3 f4 f5 : Nat) (f6 : Bool) (f7 : Nat) (f8 f9 : Option Nat) (k : Nat) (hn : n ≤ 40) (ha : a ≤ n) (ht : ∀ j, t j < 128) (hk : k < 128) : Ct l yX1_take wX1_take { frames := 0, cells := 0, slots := 0, locals := 0 } D ([(h0, .inr (1, [.ref tx, .int (nI n), .int (nI a), .ref dr])), (tx, .inl (D.1 10, 40, .inl (fun j => nI (t j)))), (dr, .inr (0, [.int (nI f0), .int (nI f1), .int (nI f2), .int (nI f3), .int (nI f4), .int (nI f5), .int (bI f6), .int (nI f7), .int (oI f8), .int (oI f9)]))]) [.ref h0, .int (nI k)] sz (fun v w => (tk t n a k = true ∧ a < n ∧ v = some (.int (nI 1)) ∧ w = [(h0, .inr (1, [.ref tx, .int (nI n), .int (nI (a + 1)), .ref dr])), (tx, .inl (D.1 10, 40, .inl (fun j => nI (t j)))), (dr, .inr (0, [.int (nI f0), .int (nI f1), .int (nI f2), .int (nI f3), .int (nI f4), .int (nI f5), .int (bI f6), .int (nI f7), .int (oI f8), .int (oI f9)]))]) ∨ (tk t n a k = false ∧ v = some (.int (nI 0)) ∧ w = [(h0, .inr (1, [.ref tx, .int (nI n), .int (nI a), .ref dr])), (tx, .inl (D.1 10, 40, .inl (fun j => nI (t j)))), (dr, .inr (0, [.int (nI f0), .int (nI f1), .int (nI f2), .int (nI f3), .int (nI f4), .int (nI f5), .int (bI f6), .int (nI f7), .int (oI f8), .int (oI f9)]))])) (nox) := by
  refine Ct.of (cc := cX1_take) (nL := 2) (ret := (some .boolean)) (own := RX1) htr (by decide) rfl (Nat.le_of_ble_eq_true rfl) ?_
  intro p e s m args below meth c A C hr hK H locs hH ls hl
  have hl : lv_has ls 2 [(0, .ref h0), (1, .int (nI k))] := hl
  refine lv_aload_n C.x C.b dX1_take_0 rfl (lv_at hl 0 rfl) ?_
  refine gGet (v := .int (nI a)) C hK hH 0 2 rfl rfl inX1 (by decide) tw_87 rfl dX1_take_1 ?_
  refine lv_aload_n C.x C.b dX1_take_4 rfl (lv_at hl 0 rfl) ?_
  refine gGet (v := .int (nI n)) C hK hH 0 1 rfl rfl inX1 (by decide) tw_85 rfl dX1_take_5 ?_
  refine vn_icmp_ge (tgt := 24) C.x C.b dX1_take_8 (by decide) (by omega) (by omega) (fun c_8 => ?_) (fun c_8 => ?_)
  · refine lv_iconst (v := nI 0) C.x C.b dX1_take_24 (by decide) ?_
    exact rZ C hr (by decide) hH (Or.inr ⟨tk_f (by omega), rfl, rfl⟩) (Nat.le_of_ble_eq_true rfl) (Nat.le_of_ble_eq_true rfl) dX1_take_25
  · refine lv_aload_n C.x C.b dX1_take_11 rfl (lv_at hl 0 rfl) ?_
    refine gGet (v := .ref tx) C hK hH 0 0 rfl rfl inX1 (by decide) tw_84 rfl dX1_take_12 ?_
    refine lv_aload_n C.x C.b dX1_take_15 rfl (lv_at hl 0 rfl) ?_
    refine gGet (v := .int (nI a)) C hK hH 0 2 rfl rfl inX1 (by decide) tw_87 rfl dX1_take_16 ?_
    have hf_19 := ht a
    refine gCald (v := (nI (t a))) C hK hH 1 rfl (by omega) (by decide) dX1_take_19 rfl ?_
    refine lv_iload_n C.x C.b dX1_take_20 rfl (lv_at hl 1 rfl) ?_
    refine vn_icmp_eq (tgt := 26) C.x C.b dX1_take_21 (by decide) (by omega) (by omega) (fun c_21 => ?_) (fun c_21 => ?_)
    · refine lv_aload_n C.x C.b dX1_take_26 rfl (lv_at hl 0 rfl) ?_
      refine lv_dup C.x C.b dX1_take_27 rfl ?_
      refine gGet (v := .int (nI a)) C hK hH 0 2 rfl rfl inX1 (by decide) tw_87 rfl dX1_take_28 ?_
      refine lv_iconst (v := nI 1) C.x C.b dX1_take_31 (by decide) ?_
      refine lv_iadd C.x C.b dX1_take_32 ?_
      refine vt_top (nI_add _ _) ?_
      refine gPut (v := .int (nI (a + 1))) (ws' := [(h0, .inr (1, [.ref tx, .int (nI n), .int (nI (a + 1)), .ref dr])), (tx, .inl (D.1 10, 40, .inl (fun j => nI (t j)))), (dr, .inr (0, [.int (nI f0), .int (nI f1), .int (nI f2), .int (nI f3), .int (nI f4), .int (nI f5), .int (bI f6), .int (nI f7), .int (oI f8), .int (oI f9)]))]) C hK hH 0 2 tyX1 tyX1_ok nmX1 rfl rfl inX1 (by decide) tw_87 rfl rfl rfl (Nat.le_of_ble_eq_true rfl) rfl dX1_take_33 (fun H locs hH => ?_)
      refine lv_iconst (v := nI 1) C.x C.b dX1_take_36 (by decide) ?_
      exact rZ C hr (by decide) hH (Or.inl ⟨tk_t (by omega) (by omega), by omega, rfl, rfl⟩) (Nat.le_of_ble_eq_true rfl) (Nat.le_of_ble_eq_true rfl) dX1_take_37
    · refine lv_iconst (v := nI 0) C.x C.b dX1_take_24 (by decide) ?_
      exact rZ C hr (by decide) hH (Or.inr ⟨tk_f (by omega), rfl, rfl⟩) (Nat.le_of_ble_eq_true rfl) (Nat.le_of_ble_eq_true rfl) dX1_take_25
