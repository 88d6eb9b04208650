set_option maxHeartbeats 4000000 in
set_option maxRecDepth 100000 in
theorem c_rit0 (l : Launch) (htr : l.stackTraces = false) (D : va_G) (sz : Nat) (h0 tx dr : Nat) (t : Nat → Nat) (n a : Nat) (f0 f5 : Nat) (f6 : Bool) (f7 : Nat) (f8 f9 : Option Nat) (hn : n ≤ 40) (ha : a ≤ n) (ht : ∀ j, t j < 128) : Ct l yX1_readIfThere wX1_readIfThere { frames := 8, cells := 0, slots := 0, locals := 173 } D ([(h0, .inr (1, [.ref tx, .int (nI n), .int (nI a), .ref dr])), (tx, .inl (D.1 10, 40, .inl (fun j => nI (t j)))), (dr, .inr (0, [.int (nI f0), .int (nI 0), .int (nI 0), .int (nI 0), .int (nI 0), .int (nI f5), .int (bI f6), .int (nI f7), .int (oI f8), .int (oI f9)]))]) [.ref h0, .int (nI 0)] sz (fun v w => (∃ q, se t n a = .inr q ∧ q.1 ≤ n ∧ q.2.1 < 512 ∧ v = some (.int (nI 1)) ∧ w = [(h0, .inr (1, [.ref tx, .int (nI n), .int (nI q.1), .ref dr])), (tx, .inl (D.1 10, 40, .inl (fun j => nI (t j)))), (dr, .inr (0, [.int (nI f0), .int (nI q.2.1), .int (nI q.2.2.1), .int (nI (q.2.2.2.1.getD 0)), .int (nI q.2.2.2.2), .int (nI f5), .int (bI f6), .int (nI f7), .int (oI f8), .int (oI f9)]))]) ∨ (∃ a9 g1 g2 g3, se t n a = .inl a9 ∧ a9 ≤ n ∧ v = some (.int (nI 0)) ∧ w = [(h0, .inr (1, [.ref tx, .int (nI n), .int (nI a9), .ref dr])), (tx, .inl (D.1 10, 40, .inl (fun j => nI (t j)))), (dr, .inr (0, [.int (nI f0), .int (nI g1), .int (nI g2), .int (nI g3), .int (nI 0), .int (nI f5), .int (bI f6), .int (nI f7), .int (oI f8), .int (oI f9)]))])) (nox) := by
  refine Ct.of (cc := cX1_readIfThere) (nL := 2) (ret := (some .boolean)) (own := RX1) htr (by decide) rfl (Nat.le_of_ble_eq_true rfl) ?_
  intro p e s m args below meth c A C hr hK H locs hH ls hl
  have hl : lv_has ls 2 [(0, .ref h0), (1, .int (nI 0))] := hl
  refine lv_iload_n C.x C.b dX1_readIfThere_0 rfl (lv_at hl 1 rfl) ?_
  refine lv_tableIn (off := 27) (tgt := 28) C.x C.b dX1_readIfThere_1 (by decide) (by decide) (by decide) (by decide) ?_
  refine lv_aload_n C.x C.b dX1_readIfThere_28 rfl (lv_at hl 0 rfl) ?_
  refine kV (As := []) (isC := [0, 1, 2]) (isR := []) (wr := []) C hK hH (c_readSetting l htr D H.size h0 tx dr t n a f0 f5 f6 f7 f8 f9 hn (by omega) ht) ⟨rfl, rfl, rfl, rfl, by decide⟩ 0 rfl rfl tw_271 tw_273 ts_4 tw_2 kX1_readSetting ⟨by decide +kernel, by decide +kernel, (by decide +kernel : (parseMethodDescriptor yX1_readSetting.desc).map (fun d => d.parameters.length) = some 0)⟩ ⟨(Nat.le_of_ble_eq_true rfl), (Nat.le_of_ble_eq_true rfl)⟩ hl.1 (Nat.le_of_ble_eq_true rfl) dX1_readIfThere_29 ⟨(Nat.le_of_ble_eq_true rfl), (Nat.le_of_ble_eq_true rfl)⟩ (fun v9 w9 H locs hN hH => ?_) (fun _ _ _ _ _ _ h => False.elim h)
  rcases hN with ⟨q_29, hq_29, kl_29, hm_29, rfl, rfl⟩ | ⟨a9_29, g1_29, g2_29, g3_29, hq_29, kl_29, rfl, rfl⟩
  · have hH : Hp D A s ([(h0, .inr (1, [.ref tx, .int (nI n), .int (nI q_29.1), .ref dr])), (tx, .inl (D.1 10, 40, .inl (fun j => nI (t j)))), (dr, .inr (0, [.int (nI f0), .int (nI q_29.2.1), .int (nI q_29.2.2.1), .int (nI (q_29.2.2.2.1.getD 0)), .int (nI q_29.2.2.2.2), .int (nI f5), .int (bI f6), .int (nI f7), .int (oI f8), .int (oI f9)]))]) H locs := hH
    refine W.eq (g2 := F0 m 32 ls [.int (nI 1)]) rfl ?_
    exact rZ C hr (by decide) hH (Or.inl ⟨q_29, hq_29, kl_29, hm_29, rfl, rfl⟩) (Nat.le_of_ble_eq_true rfl) (Nat.le_of_ble_eq_true rfl) dX1_readIfThere_32
  · have hH : Hp D A s ([(h0, .inr (1, [.ref tx, .int (nI n), .int (nI a9_29), .ref dr])), (tx, .inl (D.1 10, 40, .inl (fun j => nI (t j)))), (dr, .inr (0, [.int (nI f0), .int (nI g1_29), .int (nI g2_29), .int (nI g3_29), .int (nI 0), .int (nI f5), .int (bI f6), .int (nI f7), .int (oI f8), .int (oI f9)]))]) H locs := hH
    refine W.eq (g2 := F0 m 32 ls [.int (nI 0)]) rfl ?_
    exact rZ C hr (by decide) hH (Or.inr ⟨a9_29, g1_29, g2_29, g3_29, hq_29, kl_29, rfl, rfl⟩) (Nat.le_of_ble_eq_true rfl) (Nat.le_of_ble_eq_true rfl) dX1_readIfThere_32
set_option maxHeartbeats 4000000 in
set_option maxRecDepth 100000 in
theorem c_rit1 (l : Launch) (htr : l.stackTraces = false) (D : va_G) (sz : Nat) (h0 tx dr : Nat) (t : Nat → Nat) (n a : Nat) (f0 f1 f2 f3 f4 f5 : Nat) (f6 : Bool) (f7 : Nat) (f8 f9 : Option Nat) (hn : n ≤ 40) (ha : a ≤ n) (ht : ∀ j, t j < 128) : Ct l yX1_readIfThere wX1_readIfThere { frames := 1, cells := 0, slots := 0, locals := 21 } D ([(h0, .inr (1, [.ref tx, .int (nI n), .int (nI a), .ref dr])), (tx, .inl (D.1 10, 40, .inl (fun j => nI (t j)))), (dr, .inr (0, [.int (nI f0), .int (nI f1), .int (nI f2), .int (nI f3), .int (nI f4), .int (nI f5), .int (bI f6), .int (nI f7), .int (oI f8), .int (oI f9)]))]) [.ref h0, .int (nI 1)] sz (fun v w => (tk t n a 102 = true ∧ a < n ∧ v = some (.int (nI 1)) ∧ w = [(h0, .inr (1, [.ref tx, .int (nI n), .int (nI (a + 1)), .ref dr])), (tx, .inl (D.1 10, 40, .inl (fun j => nI (t j)))), (dr, .inr (0, [.int (nI f0), .int (nI f1), .int (nI f2), .int (nI f3), .int (nI f4), .int (nI f5), .int (bI true), .int (nI f7), .int (oI f8), .int (oI f9)]))]) ∨ (tk t n a 102 = false ∧ v = some (.int (nI 1)) ∧ w = [(h0, .inr (1, [.ref tx, .int (nI n), .int (nI a), .ref dr])), (tx, .inl (D.1 10, 40, .inl (fun j => nI (t j)))), (dr, .inr (0, [.int (nI f0), .int (nI f1), .int (nI f2), .int (nI f3), .int (nI f4), .int (nI f5), .int (bI false), .int (nI f7), .int (oI f8), .int (oI f9)]))])) (nox) := by
  refine Ct.of (cc := cX1_readIfThere) (nL := 2) (ret := (some .boolean)) (own := RX1) htr (by decide) rfl (Nat.le_of_ble_eq_true rfl) ?_
  intro p e s m args below meth c A C hr hK H locs hH ls hl
  have hl : lv_has ls 2 [(0, .ref h0), (1, .int (nI 1))] := hl
  refine lv_iload_n C.x C.b dX1_readIfThere_0 rfl (lv_at hl 1 rfl) ?_
  refine lv_tableIn (off := 32) (tgt := 33) C.x C.b dX1_readIfThere_1 (by decide) (by decide) (by decide) (by decide) ?_
  refine lv_aload_n C.x C.b dX1_readIfThere_33 rfl (lv_at hl 0 rfl) ?_
  refine gGet (v := .ref dr) C hK hH 0 3 rfl rfl inX1 (by decide) tw_89 rfl dX1_readIfThere_34 ?_
  refine lv_aload_n C.x C.b dX1_readIfThere_37 rfl (lv_at hl 0 rfl) ?_
  refine lv_bipush (v := nI 102) C.x C.b dX1_readIfThere_38 (by decide) ?_
  refine kV (As := [.int (nI 102)]) (isC := [0, 1, 2]) (isR := []) (wr := []) C hK hH (c_take l htr D H.size h0 tx dr t n a f0 f1 f2 f3 f4 f5 f6 f7 f8 f9 102 hn (by omega) ht (by omega)) ⟨rfl, rfl, rfl, rfl, by decide⟩ 0 rfl rfl tw_370 tw_372 ts_7 tw_2 kX1_take ⟨by decide +kernel, by decide +kernel, (by decide +kernel : (parseMethodDescriptor yX1_take.desc).map (fun d => d.parameters.length) = some 1)⟩ ⟨(Nat.le_of_ble_eq_true rfl), (Nat.le_of_ble_eq_true rfl)⟩ hl.1 (Nat.le_of_ble_eq_true rfl) dX1_readIfThere_40 ⟨(Nat.le_of_ble_eq_true rfl), (Nat.le_of_ble_eq_true rfl)⟩ (fun v9 w9 H locs hN hH => ?_) (fun _ _ _ _ _ _ h => False.elim h)
  rcases hN with ⟨k_40, kl_40, rfl, rfl⟩ | ⟨k_40, rfl, rfl⟩
  · have hH : Hp D A s ([(h0, .inr (1, [.ref tx, .int (nI n), .int (nI (a + 1)), .ref dr])), (tx, .inl (D.1 10, 40, .inl (fun j => nI (t j)))), (dr, .inr (0, [.int (nI f0), .int (nI f1), .int (nI f2), .int (nI f3), .int (nI f4), .int (nI f5), .int (bI f6), .int (nI f7), .int (oI f8), .int (oI f9)]))]) H locs := hH
    refine W.eq (g2 := F0 m 43 ls [.int (nI 1), .ref dr]) rfl ?_
    refine gPutN (v := .int (nI 1)) (ws' := [(h0, .inr (1, [.ref tx, .int (nI n), .int (nI (a + 1)), .ref dr])), (tx, .inl (D.1 10, 40, .inl (fun j => nI (t j)))), (dr, .inr (0, [.int (nI f0), .int (nI f1), .int (nI f2), .int (nI f3), .int (nI f4), .int (nI f5), .int (nI 1), .int (nI f7), .int (oI f8), .int (oI f9)]))]) C hK hH 2 6 tyX0 tyX0_ok nmX0 rfl rfl inX0 (by decide) (nwl_of tn_52 rfl) rfl (by decide) (by decide) (Nat.le_of_ble_eq_true rfl) rfl dX1_readIfThere_43 (fun H locs hH => ?_)
    refine lv_iconst (v := nI 1) C.x C.b dX1_readIfThere_46 (by decide) ?_
    exact rZ C hr (by decide) hH (Or.inl ⟨k_40, kl_40, rfl, rfl⟩) (Nat.le_of_ble_eq_true rfl) (Nat.le_of_ble_eq_true rfl) dX1_readIfThere_47
  · have hH : Hp D A s ([(h0, .inr (1, [.ref tx, .int (nI n), .int (nI a), .ref dr])), (tx, .inl (D.1 10, 40, .inl (fun j => nI (t j)))), (dr, .inr (0, [.int (nI f0), .int (nI f1), .int (nI f2), .int (nI f3), .int (nI f4), .int (nI f5), .int (bI f6), .int (nI f7), .int (oI f8), .int (oI f9)]))]) H locs := hH
    refine W.eq (g2 := F0 m 43 ls [.int (nI 0), .ref dr]) rfl ?_
    refine gPutN (v := .int (nI 0)) (ws' := [(h0, .inr (1, [.ref tx, .int (nI n), .int (nI a), .ref dr])), (tx, .inl (D.1 10, 40, .inl (fun j => nI (t j)))), (dr, .inr (0, [.int (nI f0), .int (nI f1), .int (nI f2), .int (nI f3), .int (nI f4), .int (nI f5), .int (nI 0), .int (nI f7), .int (oI f8), .int (oI f9)]))]) C hK hH 2 6 tyX0 tyX0_ok nmX0 rfl rfl inX0 (by decide) (nwl_of tn_52 rfl) rfl (by decide) (by decide) (Nat.le_of_ble_eq_true rfl) rfl dX1_readIfThere_43 (fun H locs hH => ?_)
    refine lv_iconst (v := nI 1) C.x C.b dX1_readIfThere_46 (by decide) ?_
    exact rZ C hr (by decide) hH (Or.inr ⟨k_40, rfl, rfl⟩) (Nat.le_of_ble_eq_true rfl) (Nat.le_of_ble_eq_true rfl) dX1_readIfThere_47
set_option maxHeartbeats 4000000 in
set_option maxRecDepth 100000 in
theorem c_rit2 (l : Launch) (htr : l.stackTraces = false) (D : va_G) (sz : Nat) (h0 tx dr : Nat) (t : Nat → Nat) (n a : Nat) (f0 f1 f2 f3 f4 f5 : Nat) (f6 : Bool) (f7 : Nat) (f8 f9 : Option Nat) (hn : n ≤ 40) (ha : a ≤ n) (ht : ∀ j, t j < 128) : Ct l yX1_readIfThere wX1_readIfThere { frames := 1, cells := 0, slots := 0, locals := 21 } D ([(h0, .inr (1, [.ref tx, .int (nI n), .int (nI a), .ref dr])), (tx, .inl (D.1 10, 40, .inl (fun j => nI (t j)))), (dr, .inr (0, [.int (nI f0), .int (nI f1), .int (nI f2), .int (nI f3), .int (nI f4), .int (nI f5), .int (bI f6), .int (nI f7), .int (oI f8), .int (oI f9)]))]) [.ref h0, .int (nI 2)] sz (fun v w => (tk t n a 114 = true ∧ a < n ∧ v = some (.int (nI 1)) ∧ w = [(h0, .inr (1, [.ref tx, .int (nI n), .int (nI (a + 1)), .ref dr])), (tx, .inl (D.1 10, 40, .inl (fun j => nI (t j)))), (dr, .inr (0, [.int (nI f0), .int (nI f1), .int (nI f2), .int (nI f3), .int (nI f4), .int (nI 1), .int (bI f6), .int (nI f7), .int (oI f8), .int (oI f9)]))]) ∨ (tk t n a 114 = false ∧ tk t n a 119 = true ∧ a < n ∧ v = some (.int (nI 1)) ∧ w = [(h0, .inr (1, [.ref tx, .int (nI n), .int (nI (a + 1)), .ref dr])), (tx, .inl (D.1 10, 40, .inl (fun j => nI (t j)))), (dr, .inr (0, [.int (nI f0), .int (nI f1), .int (nI f2), .int (nI f3), .int (nI f4), .int (nI 2), .int (bI f6), .int (nI f7), .int (oI f8), .int (oI f9)]))]) ∨ (tk t n a 114 = false ∧ tk t n a 119 = false ∧ v = some (.int (nI 1)) ∧ w = [(h0, .inr (1, [.ref tx, .int (nI n), .int (nI a), .ref dr])), (tx, .inl (D.1 10, 40, .inl (fun j => nI (t j)))), (dr, .inr (0, [.int (nI f0), .int (nI f1), .int (nI f2), .int (nI f3), .int (nI f4), .int (nI 0), .int (bI f6), .int (nI f7), .int (oI f8), .int (oI f9)]))])) (nox) := by
  refine Ct.of (cc := cX1_readIfThere) (nL := 2) (ret := (some .boolean)) (own := RX1) htr (by decide) rfl (Nat.le_of_ble_eq_true rfl) ?_
  intro p e s m args below meth c A C hr hK H locs hH ls hl
  have hl : lv_has ls 2 [(0, .ref h0), (1, .int (nI 2))] := hl
  refine lv_iload_n C.x C.b dX1_readIfThere_0 rfl (lv_at hl 1 rfl) ?_
  refine lv_tableIn (off := 47) (tgt := 48) C.x C.b dX1_readIfThere_1 (by decide) (by decide) (by decide) (by decide) ?_
  refine lv_aload_n C.x C.b dX1_readIfThere_48 rfl (lv_at hl 0 rfl) ?_
  refine gGet (v := .ref dr) C hK hH 0 3 rfl rfl inX1 (by decide) tw_89 rfl dX1_readIfThere_49 ?_
  refine lv_aload_n C.x C.b dX1_readIfThere_52 rfl (lv_at hl 0 rfl) ?_
  refine lv_bipush (v := nI 114) C.x C.b dX1_readIfThere_53 (by decide) ?_
  refine kV (As := [.int (nI 114)]) (isC := [0, 1, 2]) (isR := []) (wr := []) C hK hH (c_take l htr D H.size h0 tx dr t n a f0 f1 f2 f3 f4 f5 f6 f7 f8 f9 114 hn (by omega) ht (by omega)) ⟨rfl, rfl, rfl, rfl, by decide⟩ 0 rfl rfl tw_370 tw_372 ts_7 tw_2 kX1_take ⟨by decide +kernel, by decide +kernel, (by decide +kernel : (parseMethodDescriptor yX1_take.desc).map (fun d => d.parameters.length) = some 1)⟩ ⟨(Nat.le_of_ble_eq_true rfl), (Nat.le_of_ble_eq_true rfl)⟩ hl.1 (Nat.le_of_ble_eq_true rfl) dX1_readIfThere_55 ⟨(Nat.le_of_ble_eq_true rfl), (Nat.le_of_ble_eq_true rfl)⟩ (fun v9 w9 H locs hN hH => ?_) (fun _ _ _ _ _ _ h => False.elim h)
  rcases hN with ⟨k_55, kl_55, rfl, rfl⟩ | ⟨k_55, rfl, rfl⟩
  · have hH : Hp D A s ([(h0, .inr (1, [.ref tx, .int (nI n), .int (nI (a + 1)), .ref dr])), (tx, .inl (D.1 10, 40, .inl (fun j => nI (t j)))), (dr, .inr (0, [.int (nI f0), .int (nI f1), .int (nI f2), .int (nI f3), .int (nI f4), .int (nI f5), .int (bI f6), .int (nI f7), .int (oI f8), .int (oI f9)]))]) H locs := hH
    refine W.eq (g2 := F0 m 58 ls [.int (nI 1), .ref dr]) rfl ?_
    refine vn_if_eq (tgt := 65) C.x C.b dX1_readIfThere_58 (by decide) (by omega) (fun q => absurd q (by decide)) (fun _ => ?_)
    refine lv_iconst (v := nI 1) C.x C.b dX1_readIfThere_61 (by decide) ?_
    refine lv_goto (tgt := 79) C.x C.b dX1_readIfThere_62 (by decide) ?_
    refine gPutN (v := .int (nI 1)) (ws' := [(h0, .inr (1, [.ref tx, .int (nI n), .int (nI (a + 1)), .ref dr])), (tx, .inl (D.1 10, 40, .inl (fun j => nI (t j)))), (dr, .inr (0, [.int (nI f0), .int (nI f1), .int (nI f2), .int (nI f3), .int (nI f4), .int (nI 1), .int (bI f6), .int (nI f7), .int (oI f8), .int (oI f9)]))]) C hK hH 2 5 tyX0 tyX0_ok nmX0 rfl rfl inX0 (by decide) (nwl_of tn_50 rfl) rfl rfl rfl (Nat.le_of_ble_eq_true rfl) rfl dX1_readIfThere_79 (fun H locs hH => ?_)
    refine lv_iconst (v := nI 1) C.x C.b dX1_readIfThere_82 (by decide) ?_
    exact rZ C hr (by decide) hH (Or.inl ⟨k_55, kl_55, rfl, rfl⟩) (Nat.le_of_ble_eq_true rfl) (Nat.le_of_ble_eq_true rfl) dX1_readIfThere_83
  · have hH : Hp D A s ([(h0, .inr (1, [.ref tx, .int (nI n), .int (nI a), .ref dr])), (tx, .inl (D.1 10, 40, .inl (fun j => nI (t j)))), (dr, .inr (0, [.int (nI f0), .int (nI f1), .int (nI f2), .int (nI f3), .int (nI f4), .int (nI f5), .int (bI f6), .int (nI f7), .int (oI f8), .int (oI f9)]))]) H locs := hH
    refine W.eq (g2 := F0 m 58 ls [.int (nI 0), .ref dr]) rfl ?_
    refine vn_if_eq (tgt := 65) C.x C.b dX1_readIfThere_58 (by decide) (by omega) (fun _ => ?_) (fun q => absurd q (by decide))
    refine lv_aload_n C.x C.b dX1_readIfThere_65 rfl (lv_at hl 0 rfl) ?_
    refine lv_bipush (v := nI 119) C.x C.b dX1_readIfThere_66 (by decide) ?_
    refine kV (As := [.int (nI 119)]) (isC := [0, 1, 2]) (isR := []) (wr := []) C hK hH (c_take l htr D H.size h0 tx dr t n a f0 f1 f2 f3 f4 f5 f6 f7 f8 f9 119 hn (by omega) ht (by omega)) ⟨rfl, rfl, rfl, rfl, by decide⟩ 0 rfl rfl tw_370 tw_372 ts_7 tw_2 kX1_take ⟨by decide +kernel, by decide +kernel, (by decide +kernel : (parseMethodDescriptor yX1_take.desc).map (fun d => d.parameters.length) = some 1)⟩ ⟨(Nat.le_of_ble_eq_true rfl), (Nat.le_of_ble_eq_true rfl)⟩ hl.1 (Nat.le_of_ble_eq_true rfl) dX1_readIfThere_68 ⟨(Nat.le_of_ble_eq_true rfl), (Nat.le_of_ble_eq_true rfl)⟩ (fun v9 w9 H locs hN hH => ?_) (fun _ _ _ _ _ _ h => False.elim h)
    rcases hN with ⟨k_68, kl_68, rfl, rfl⟩ | ⟨k_68, rfl, rfl⟩
    · have hH : Hp D A s ([(h0, .inr (1, [.ref tx, .int (nI n), .int (nI (a + 1)), .ref dr])), (tx, .inl (D.1 10, 40, .inl (fun j => nI (t j)))), (dr, .inr (0, [.int (nI f0), .int (nI f1), .int (nI f2), .int (nI f3), .int (nI f4), .int (nI f5), .int (bI f6), .int (nI f7), .int (oI f8), .int (oI f9)]))]) H locs := hH
      refine W.eq (g2 := F0 m 71 ls [.int (nI 1), .ref dr]) rfl ?_
      refine vn_if_eq (tgt := 78) C.x C.b dX1_readIfThere_71 (by decide) (by omega) (fun q => absurd q (by decide)) (fun _ => ?_)
      refine lv_iconst (v := nI 2) C.x C.b dX1_readIfThere_74 (by decide) ?_
      refine lv_goto (tgt := 79) C.x C.b dX1_readIfThere_75 (by decide) ?_
      refine gPutN (v := .int (nI 2)) (ws' := [(h0, .inr (1, [.ref tx, .int (nI n), .int (nI (a + 1)), .ref dr])), (tx, .inl (D.1 10, 40, .inl (fun j => nI (t j)))), (dr, .inr (0, [.int (nI f0), .int (nI f1), .int (nI f2), .int (nI f3), .int (nI f4), .int (nI 2), .int (bI f6), .int (nI f7), .int (oI f8), .int (oI f9)]))]) C hK hH 2 5 tyX0 tyX0_ok nmX0 rfl rfl inX0 (by decide) (nwl_of tn_50 rfl) rfl rfl rfl (Nat.le_of_ble_eq_true rfl) rfl dX1_readIfThere_79 (fun H locs hH => ?_)
      refine lv_iconst (v := nI 1) C.x C.b dX1_readIfThere_82 (by decide) ?_
      exact rZ C hr (by decide) hH (Or.inr (Or.inl ⟨k_55, k_68, kl_68, rfl, rfl⟩)) (Nat.le_of_ble_eq_true rfl) (Nat.le_of_ble_eq_true rfl) dX1_readIfThere_83
    · have hH : Hp D A s ([(h0, .inr (1, [.ref tx, .int (nI n), .int (nI a), .ref dr])), (tx, .inl (D.1 10, 40, .inl (fun j => nI (t j)))), (dr, .inr (0, [.int (nI f0), .int (nI f1), .int (nI f2), .int (nI f3), .int (nI f4), .int (nI f5), .int (bI f6), .int (nI f7), .int (oI f8), .int (oI f9)]))]) H locs := hH
      refine W.eq (g2 := F0 m 71 ls [.int (nI 0), .ref dr]) rfl ?_
      refine vn_if_eq (tgt := 78) C.x C.b dX1_readIfThere_71 (by decide) (by omega) (fun _ => ?_) (fun q => absurd q (by decide))
      refine lv_iconst (v := nI 0) C.x C.b dX1_readIfThere_78 (by decide) ?_
      refine gPutN (v := .int (nI 0)) (ws' := [(h0, .inr (1, [.ref tx, .int (nI n), .int (nI a), .ref dr])), (tx, .inl (D.1 10, 40, .inl (fun j => nI (t j)))), (dr, .inr (0, [.int (nI f0), .int (nI f1), .int (nI f2), .int (nI f3), .int (nI f4), .int (nI 0), .int (bI f6), .int (nI f7), .int (oI f8), .int (oI f9)]))]) C hK hH 2 5 tyX0 tyX0_ok nmX0 rfl rfl inX0 (by decide) (nwl_of tn_50 rfl) rfl rfl rfl (Nat.le_of_ble_eq_true rfl) rfl dX1_readIfThere_79 (fun H locs hH => ?_)
      refine lv_iconst (v := nI 1) C.x C.b dX1_readIfThere_82 (by decide) ?_
      exact rZ C hr (by decide) hH (Or.inr (Or.inr ⟨k_55, k_68, rfl, rfl⟩)) (Nat.le_of_ble_eq_true rfl) (Nat.le_of_ble_eq_true rfl) dX1_readIfThere_83
set_option maxHeartbeats 4000000 in
set_option maxRecDepth 100000 in
theorem c_rit3 (l : Launch) (htr : l.stackTraces = false) (D : va_G) (sz : Nat) (h0 tx dr : Nat) (t : Nat → Nat) (n a : Nat) (f0 f1 f2 f3 f4 f5 : Nat) (f6 : Bool) (f7 : Nat) (hn : n ≤ 40) (ha : a ≤ n) (ht : ∀ j, t j < 128) : Ct l yX1_readIfThere wX1_readIfThere { frames := 5, cells := 0, slots := 0, locals := 111 } D ([(h0, .inr (1, [.ref tx, .int (nI n), .int (nI a), .ref dr])), (tx, .inl (D.1 10, 40, .inl (fun j => nI (t j)))), (dr, .inr (0, [.int (nI f0), .int (nI f1), .int (nI f2), .int (nI f3), .int (nI f4), .int (nI f5), .int (bI f6), .int (nI f7), .int (oI none), .int (oI none)]))]) [.ref h0, .int (nI 3)] sz (fun v w => (gl t n a = 0 ∧ v = some (.int (nI 1)) ∧ w = [(h0, .inr (1, [.ref tx, .int (nI n), .int (nI a), .ref dr])), (tx, .inl (D.1 10, 40, .inl (fun j => nI (t j)))), (dr, .inr (0, [.int (nI f0), .int (nI f1), .int (nI f2), .int (nI f3), .int (nI f4), .int (nI f5), .int (bI f6), .int (nI 0), .int (oI none), .int (oI none)]))]) ∨ (∃ q, gl t n a ≠ 0 ∧ gg t n (a + 1) (gl t n a) = .inr q ∧ a < q.1 ∧ q.1 ≤ n ∧ v = some (.int (nI 1)) ∧ w = [(h0, .inr (1, [.ref tx, .int (nI n), .int (nI q.1), .ref dr])), (tx, .inl (D.1 10, 40, .inl (fun j => nI (t j)))), (dr, .inr (0, [.int (nI f0), .int (nI f1), .int (nI f2), .int (nI f3), .int (nI f4), .int (nI f5), .int (bI f6), .int (nI (gl t n a)), .int (oI q.2.1), .int (oI q.2.2)]))]) ∨ (∃ a9 g8 g9, gl t n a ≠ 0 ∧ gg t n (a + 1) (gl t n a) = .inl a9 ∧ a9 ≤ n ∧ v = some (.int (nI 0)) ∧ w = [(h0, .inr (1, [.ref tx, .int (nI n), .int (nI a9), .ref dr])), (tx, .inl (D.1 10, 40, .inl (fun j => nI (t j)))), (dr, .inr (0, [.int (nI f0), .int (nI f1), .int (nI f2), .int (nI f3), .int (nI f4), .int (nI f5), .int (bI f6), .int (nI (gl t n a)), .int (oI g8), .int (oI g9)]))])) (nox) := by
  refine Ct.of (cc := cX1_readIfThere) (nL := 2) (ret := (some .boolean)) (own := RX1) htr (by decide) rfl (Nat.le_of_ble_eq_true rfl) ?_
  intro p e s m args below meth c A C hr hK H locs hH ls hl
  have hl : lv_has ls 2 [(0, .ref h0), (1, .int (nI 3))] := hl
  refine lv_iload_n C.x C.b dX1_readIfThere_0 rfl (lv_at hl 1 rfl) ?_
  refine lv_tableOut (tgt := 84) C.x C.b dX1_readIfThere_1 (by decide) (by decide) ?_
  refine lv_aload_n C.x C.b dX1_readIfThere_84 rfl (lv_at hl 0 rfl) ?_
  refine kV (As := []) (isC := [0, 1, 2]) (isR := []) (wr := []) C hK hH (c_readGoing l htr D H.size h0 tx dr t n a f0 f1 f2 f3 f4 f5 f6 f7 hn (by omega) ht) ⟨rfl, rfl, rfl, rfl, by decide⟩ 0 rfl rfl tw_394 tw_396 ts_13 tw_2 kX1_readGoing ⟨by decide +kernel, by decide +kernel, (by decide +kernel : (parseMethodDescriptor yX1_readGoing.desc).map (fun d => d.parameters.length) = some 0)⟩ ⟨(Nat.le_of_ble_eq_true rfl), (Nat.le_of_ble_eq_true rfl)⟩ hl.1 (Nat.le_of_ble_eq_true rfl) dX1_readIfThere_85 ⟨(Nat.le_of_ble_eq_true rfl), (Nat.le_of_ble_eq_true rfl)⟩ (fun v9 w9 H locs hN hH => ?_) (fun _ _ _ _ _ _ h => False.elim h)
  rcases hN with ⟨hg_85, rfl, rfl⟩ | ⟨q_85, hg_85, hq_85, ka_85, kl_85, rfl, rfl⟩ | ⟨a9_85, g8_85, g9_85, hg_85, hq_85, kl_85, rfl, rfl⟩
  · have hH : Hp D A s ([(h0, .inr (1, [.ref tx, .int (nI n), .int (nI a), .ref dr])), (tx, .inl (D.1 10, 40, .inl (fun j => nI (t j)))), (dr, .inr (0, [.int (nI f0), .int (nI f1), .int (nI f2), .int (nI f3), .int (nI f4), .int (nI f5), .int (bI f6), .int (nI 0), .int (oI none), .int (oI none)]))]) H locs := hH
    refine W.eq (g2 := F0 m 88 ls [.int (nI 1)]) rfl ?_
    exact rZ C hr (by decide) hH (Or.inl ⟨hg_85, rfl, rfl⟩) (Nat.le_of_ble_eq_true rfl) (Nat.le_of_ble_eq_true rfl) dX1_readIfThere_88
  · have hH : Hp D A s ([(h0, .inr (1, [.ref tx, .int (nI n), .int (nI q_85.1), .ref dr])), (tx, .inl (D.1 10, 40, .inl (fun j => nI (t j)))), (dr, .inr (0, [.int (nI f0), .int (nI f1), .int (nI f2), .int (nI f3), .int (nI f4), .int (nI f5), .int (bI f6), .int (nI (gl t n a)), .int (oI q_85.2.1), .int (oI q_85.2.2)]))]) H locs := hH
    refine W.eq (g2 := F0 m 88 ls [.int (nI 1)]) rfl ?_
    exact rZ C hr (by decide) hH (Or.inr (Or.inl ⟨q_85, hg_85, hq_85, ka_85, kl_85, rfl, rfl⟩)) (Nat.le_of_ble_eq_true rfl) (Nat.le_of_ble_eq_true rfl) dX1_readIfThere_88
  · have hH : Hp D A s ([(h0, .inr (1, [.ref tx, .int (nI n), .int (nI a9_85), .ref dr])), (tx, .inl (D.1 10, 40, .inl (fun j => nI (t j)))), (dr, .inr (0, [.int (nI f0), .int (nI f1), .int (nI f2), .int (nI f3), .int (nI f4), .int (nI f5), .int (bI f6), .int (nI (gl t n a)), .int (oI g8_85), .int (oI g9_85)]))]) H locs := hH
    refine W.eq (g2 := F0 m 88 ls [.int (nI 0)]) rfl ?_
    exact rZ C hr (by decide) hH (Or.inr (Or.inr ⟨a9_85, g8_85, g9_85, hg_85, hq_85, kl_85, rfl, rfl⟩)) (Nat.le_of_ble_eq_true rfl) (Nat.le_of_ble_eq_true rfl) dX1_readIfThere_88
set_option maxHeartbeats 4000000 in
set_option maxRecDepth 100000 in
theorem c_read (l : Launch) (htr : l.stackTraces = false) (D : va_G) (sz : Nat) (h0 tx d0 : Nat) (t : Nat → Nat) (n a : Nat) (hn : n ≤ 40) (ht : ∀ j, t j < 128) : Ct l yX1_read wX1_read { frames := 9, cells := 1, slots := 10, locals := 194 } D ([(h0, .inr (1, [.ref tx, .int (nI n), .int (nI a), .ref d0])), (tx, .inl (D.1 10, 40, .inl (fun j => nI (t j))))]) [.ref h0] sz (fun v w => (∃ (q a9 : Nat) (f0 f1 f2 f3 f4 f5 : Nat) (f6 : Bool) (f7 : Nat) (f8 f9 : Option Nat), RDT t n = .inr (f0, f1, f2, f3, f4, f5, f6, f7, f8, f9) ∧ v = some (.ref q) ∧ w = [(h0, .inr (1, [.ref tx, .int (nI n), .int (nI a9), .ref q])), (tx, .inl (D.1 10, 40, .inl (fun j => nI (t j)))), (q, .inr (0, [.int (nI f0), .int (nI f1), .int (nI f2), .int (nI f3), .int (nI f4), .int (nI f5), .int (bI f6), .int (nI f7), .int (oI f8), .int (oI f9)]))]) ∨ (∃ (q a9 : Nat) (f0 f1 f2 f3 f4 f5 : Nat) (f6 : Bool) (f7 : Nat) (f8 f9 : Option Nat), RDT t n = .inl a9 ∧ a9 ≤ n ∧ v = some .null ∧ w = [(h0, .inr (1, [.ref tx, .int (nI n), .int (nI a9), .ref q])), (tx, .inl (D.1 10, 40, .inl (fun j => nI (t j)))), (q, .inr (0, [.int (nI f0), .int (nI f1), .int (nI f2), .int (nI f3), .int (nI f4), .int (nI f5), .int (bI f6), .int (nI f7), .int (oI f8), .int (oI f9)]))])) (nox) := by
  refine Ct.of (cc := cX1_read) (nL := 3) (ret := (some (.object "MicroMachine$Word"))) (own := RX1) htr (by decide) rfl (Nat.le_of_ble_eq_true rfl) ?_
  intro p e s m args below meth c A C hr hK H locs hH ls hl
  have hl : lv_has ls 3 [(0, .ref h0)] := hl
  refine lv_aload_n C.x C.b dX1_read_0 rfl (lv_at hl 0 rfl) ?_
  refine lv_iconst (v := nI 0) C.x C.b dX1_read_1 (by decide) ?_
  refine gPut (v := .int (nI 0)) (ws' := [(h0, .inr (1, [.ref tx, .int (nI n), .int (nI 0), .ref d0])), (tx, .inl (D.1 10, 40, .inl (fun j => nI (t j))))]) C hK hH 0 2 tyX1 tyX1_ok nmX1 rfl rfl inX1 (by decide) tw_87 rfl rfl rfl (Nat.le_of_ble_eq_true rfl) rfl dX1_read_2 (fun H locs hH => ?_)
  refine lv_aload_n C.x C.b dX1_read_5 rfl (lv_at hl 0 rfl) ?_
  refine gNew (ci := 0) (fs := [.int 0, .int 0, .int 0, .int 0, .int 0, .int 0, .int 0, .int 0, .int 0, .int 0]) C hK hH tyX0 tyX0_ok rfl inX0 tw_32 tw_33 tw_3 (by intro j hj; match j, hj with | 0, _ => rfl | 1, _ => rfl | 2, _ => rfl | 3, _ => rfl | 4, _ => rfl | 5, _ => rfl | 6, _ => rfl | 7, _ => rfl | 8, _ => rfl | 9, _ => rfl | j + 10, h => omega) (Nat.le_of_ble_eq_true rfl) (Nat.le_of_ble_eq_true rfl) dX1_read_6 (fun q_1 H hH => ?_)
  have hH : Hp D A s ([(h0, .inr (1, [.ref tx, .int (nI n), .int (nI 0), .ref d0])), (tx, .inl (D.1 10, 40, .inl (fun j => nI (t j)))), (q_1, .inr (0, [.int 0, .int 0, .int 0, .int 0, .int 0, .int 0, .int 0, .int 0, .int 0, .int 0]))]) H locs := hH
  refine lv_dup C.x C.b dX1_read_9 rfl ?_
  refine kIN (As := []) (isC := [2]) (isR := [0, 1]) (wr := [(h0, .inr (1, [.ref tx, .int (nI n), .int (nI 0), .ref d0])), (tx, .inl (D.1 10, 40, .inl (fun j => nI (t j))))]) C hK hH (c_Word l htr D H.size q_1) ⟨rfl, rfl, rfl, rfl, by decide⟩ rfl (nwl_of tn_34 rfl) tw_35 tw_3 kX0_init ⟨by decide +kernel, by decide +kernel, (by decide +kernel : (parseMethodDescriptor yX0_init.desc).map (fun d => d.parameters.length) = some 0)⟩ ⟨(Nat.le_of_ble_eq_true rfl), (Nat.le_of_ble_eq_true rfl)⟩ hl.1 (Nat.le_of_ble_eq_true rfl) dX1_read_10 ⟨(Nat.le_of_ble_eq_true rfl), (Nat.le_of_ble_eq_true rfl)⟩ (fun v9 w9 H locs hN hH => ?_)
  obtain ⟨rfl, rfl⟩ := hN
  have hH : Hp D A s ([(h0, .inr (1, [.ref tx, .int (nI n), .int (nI 0), .ref d0])), (tx, .inl (D.1 10, 40, .inl (fun j => nI (t j)))), (q_1, .inr (0, [.int (nI 0), .int (nI 0), .int (nI 0), .int (nI 0), .int (nI 0), .int (nI 0), .int (bI false), .int (nI 0), .int (oI none), .int (oI none)]))]) H locs := hH
  refine W.eq (g2 := F0 m 13 ls [.ref q_1, .ref h0]) rfl ?_
  refine gPut (v := .ref q_1) (ws' := [(h0, .inr (1, [.ref tx, .int (nI n), .int (nI 0), .ref q_1])), (tx, .inl (D.1 10, 40, .inl (fun j => nI (t j)))), (q_1, .inr (0, [.int (nI 0), .int (nI 0), .int (nI 0), .int (nI 0), .int (nI 0), .int (nI 0), .int (bI false), .int (nI 0), .int (oI none), .int (oI none)]))]) C hK hH 0 3 tyX1 tyX1_ok nmX1 rfl rfl inX1 (by decide) tw_89 rfl rfl rfl (Nat.le_of_ble_eq_true rfl) rfl dX1_read_13 (fun H locs hH => ?_)
  refine lv_iconst (v := nI 0) C.x C.b dX1_read_16 (by decide) ?_
  refine lv_istore_n (lv' := [(1, .int (nI 0)), (0, .ref h0)]) C.x C.b dX1_read_17 rfl hl (by decide) rfl (fun ls hl => ?_)
  have L4 : ∀ (a : Nat) (f0 : Nat) (f1 : Nat) (f2 : Nat) (f3 : Nat) (f4 : Nat) (f5 : Nat) (f6 : Bool) (f7 : Nat) (f8 : Option Nat) (f9 : Option Nat) (ha : a ≤ n) (hR : (Sum.inl a : RR) = RDT t n) (H : Heap) (locs : List Loc), Hp D A s ([(h0, .inr (1, [.ref tx, .int (nI n), .int (nI a), .ref q_1])), (tx, .inl (D.1 10, 40, .inl (fun j => nI (t j)))), (q_1, .inr (0, [.int (nI f0), .int (nI f1), .int (nI f2), .int (nI f3), .int (nI f4), .int (nI f5), .int (bI f6), .int (nI f7), .int (oI f8), .int (oI f9)]))]) H locs → ∀ ls : Array Slot, lv_has ls 3 [(1, .int (nI 4)), (0, .ref h0)] → W p l e { frames := 9, cells := 1, slots := 10, locals := 194 } s m args below meth c H locs 1 10 (Qf below args s D A (fun v w => (∃ (q a9 : Nat) (f0 f1 f2 f3 f4 f5 : Nat) (f6 : Bool) (f7 : Nat) (f8 f9 : Option Nat), RDT t n = .inr (f0, f1, f2, f3, f4, f5, f6, f7, f8, f9) ∧ v = some (.ref q) ∧ w = [(h0, .inr (1, [.ref tx, .int (nI n), .int (nI a9), .ref q])), (tx, .inl (D.1 10, 40, .inl (fun j => nI (t j)))), (q, .inr (0, [.int (nI f0), .int (nI f1), .int (nI f2), .int (nI f3), .int (nI f4), .int (nI f5), .int (bI f6), .int (nI f7), .int (oI f8), .int (oI f9)]))]) ∨ (∃ (q a9 : Nat) (f0 f1 f2 f3 f4 f5 : Nat) (f6 : Bool) (f7 : Nat) (f8 f9 : Option Nat), RDT t n = .inl a9 ∧ a9 ≤ n ∧ v = some .null ∧ w = [(h0, .inr (1, [.ref tx, .int (nI n), .int (nI a9), .ref q])), (tx, .inl (D.1 10, 40, .inl (fun j => nI (t j)))), (q, .inr (0, [.int (nI f0), .int (nI f1), .int (nI f2), .int (nI f3), .int (nI f4), .int (nI f5), .int (bI f6), .int (nI f7), .int (oI f8), .int (oI f9)]))])) (nox) { frames := 9, cells := 1, slots := 10, locals := 194 }) (F0 m 18 ls []) := by
    intro a f0 f1 f2 f3 f4 f5 f6 f7 f8 f9 ha hR H locs hH ls hl
    refine lv_iload_n C.x C.b dX1_read_18 rfl (lv_at hl 0 rfl) ?_
    refine lv_iconst (v := nI 3) C.x C.b dX1_read_19 (by decide) ?_
    refine vn_icmp_gt (tgt := 97) C.x C.b dX1_read_20 (by decide) (by omega) (by omega) (fun _ => ?_) (fun q => absurd q (by decide))
    refine lv_null C.x C.b dX1_read_97 ?_
    exact rA (r := none) C hr (Or.inl ⟨_, rfl⟩) hH (Or.inr ⟨q_1, a, f0, f1, f2, f3, f4, f5, f6, f7, f8, f9, hR.symm, by omega, rfl, rfl⟩) (Nat.le_of_ble_eq_true rfl) (Nat.le_of_ble_eq_true rfl) dX1_read_98
  have L3 : ∀ (a : Nat) (f0 : Nat) (f1 : Nat) (f2 : Nat) (f3 : Nat) (f4 : Nat) (f5 : Nat) (f6 : Bool) (ha : a ≤ n) (hR : r3 t n a f0 f1 f2 f3 f4 f5 f6 = RDT t n) (H : Heap) (locs : List Loc), Hp D A s ([(h0, .inr (1, [.ref tx, .int (nI n), .int (nI a), .ref q_1])), (tx, .inl (D.1 10, 40, .inl (fun j => nI (t j)))), (q_1, .inr (0, [.int (nI f0), .int (nI f1), .int (nI f2), .int (nI f3), .int (nI f4), .int (nI f5), .int (bI f6), .int (nI 0), .int (oI none), .int (oI none)]))]) H locs → ∀ ls : Array Slot, lv_has ls 3 [(1, .int (nI 3)), (0, .ref h0)] → W p l e { frames := 9, cells := 1, slots := 10, locals := 194 } s m args below meth c H locs 1 10 (Qf below args s D A (fun v w => (∃ (q a9 : Nat) (f0 f1 f2 f3 f4 f5 : Nat) (f6 : Bool) (f7 : Nat) (f8 f9 : Option Nat), RDT t n = .inr (f0, f1, f2, f3, f4, f5, f6, f7, f8, f9) ∧ v = some (.ref q) ∧ w = [(h0, .inr (1, [.ref tx, .int (nI n), .int (nI a9), .ref q])), (tx, .inl (D.1 10, 40, .inl (fun j => nI (t j)))), (q, .inr (0, [.int (nI f0), .int (nI f1), .int (nI f2), .int (nI f3), .int (nI f4), .int (nI f5), .int (bI f6), .int (nI f7), .int (oI f8), .int (oI f9)]))]) ∨ (∃ (q a9 : Nat) (f0 f1 f2 f3 f4 f5 : Nat) (f6 : Bool) (f7 : Nat) (f8 f9 : Option Nat), RDT t n = .inl a9 ∧ a9 ≤ n ∧ v = some .null ∧ w = [(h0, .inr (1, [.ref tx, .int (nI n), .int (nI a9), .ref q])), (tx, .inl (D.1 10, 40, .inl (fun j => nI (t j)))), (q, .inr (0, [.int (nI f0), .int (nI f1), .int (nI f2), .int (nI f3), .int (nI f4), .int (nI f5), .int (bI f6), .int (nI f7), .int (oI f8), .int (oI f9)]))])) (nox) { frames := 9, cells := 1, slots := 10, locals := 194 }) (F0 m 18 ls []) := by
    intro a f0 f1 f2 f3 f4 f5 f6 ha hR H locs hH ls hl
    refine lv_iload_n C.x C.b dX1_read_18 rfl (lv_at hl 0 rfl) ?_
    refine lv_iconst (v := nI 3) C.x C.b dX1_read_19 (by decide) ?_
    refine vn_icmp_gt (tgt := 97) C.x C.b dX1_read_20 (by decide) (by omega) (by omega) (fun q => absurd q (by decide)) (fun _ => ?_)
    refine lv_aload_n C.x C.b dX1_read_23 rfl (lv_at hl 1 rfl) ?_
    refine gGet (v := .int (nI a)) C hK hH 0 2 rfl rfl inX1 (by decide) tw_87 rfl dX1_read_24 ?_
    refine lv_istore_n (lv' := [(2, .int (nI a)), (1, .int (nI 3)), (0, .ref h0)]) C.x C.b dX1_read_27 rfl hl (by decide) rfl (fun ls hl => ?_)
    refine lv_aload_n C.x C.b dX1_read_28 rfl (lv_at hl 2 rfl) ?_
    refine lv_iload_n C.x C.b dX1_read_29 rfl (lv_at hl 1 rfl) ?_
    refine kV (As := [.int (nI 3)]) (isC := [0, 1, 2]) (isR := []) (wr := []) C hK hH (c_rit3 l htr D H.size h0 tx q_1 t n a f0 f1 f2 f3 f4 f5 f6 0 hn (by omega) ht) ⟨rfl, rfl, rfl, rfl, by decide⟩ 0 rfl rfl tw_267 tw_269 ts_3 tw_2 kX1_readIfThere ⟨by decide +kernel, by decide +kernel, (by decide +kernel : (parseMethodDescriptor yX1_readIfThere.desc).map (fun d => d.parameters.length) = some 1)⟩ ⟨(Nat.le_of_ble_eq_true rfl), (Nat.le_of_ble_eq_true rfl)⟩ hl.1 (Nat.le_of_ble_eq_true rfl) dX1_read_30 ⟨(Nat.le_of_ble_eq_true rfl), (Nat.le_of_ble_eq_true rfl)⟩ (fun v9 w9 H locs hN hH => ?_) (fun _ _ _ _ _ _ h => False.elim h)
    rcases hN with ⟨hg_30, rfl, rfl⟩ | ⟨q_30, hg_30, hq_30, ka_30, kl_30, rfl, rfl⟩ | ⟨a9_30, g8_30, g9_30, hg_30, hq_30, kl_30, rfl, rfl⟩
    · have hH : Hp D A s ([(h0, .inr (1, [.ref tx, .int (nI n), .int (nI a), .ref q_1])), (tx, .inl (D.1 10, 40, .inl (fun j => nI (t j)))), (q_1, .inr (0, [.int (nI f0), .int (nI f1), .int (nI f2), .int (nI f3), .int (nI f4), .int (nI f5), .int (bI f6), .int (nI 0), .int (oI none), .int (oI none)]))]) H locs := hH
      refine W.eq (g2 := F0 m 33 ls [.int (nI 1)]) rfl ?_
      refine vn_if_ne (tgt := 38) C.x C.b dX1_read_33 (by decide) (by omega) (fun _ => ?_) (fun q => absurd q (by decide))
      refine lv_aload_n C.x C.b dX1_read_38 rfl (lv_at hl 2 rfl) ?_
      refine gGet (v := .int (nI a)) C hK hH 0 2 rfl rfl inX1 (by decide) tw_87 rfl dX1_read_39 ?_
      refine lv_iload_n C.x C.b dX1_read_42 rfl (lv_at hl 0 rfl) ?_
      refine vn_icmp_le (tgt := 91) C.x C.b dX1_read_43 (by decide) (by omega) (by omega) (fun _ => ?_) (fun q => absurd q (by omega))
      refine lv_iinc (v := (nI 4)) (lv' := [(1, .int (nI 4)), (2, .int (nI a)), (0, .ref h0)]) C.x C.b dX1_read_91 hl (k := 1) rfl (by decide) (by decide) rfl (fun ls hl => ?_)
      refine lv_goto (tgt := 18) C.x C.b dX1_read_94 (by decide) ?_
      exact L4 a f0 f1 f2 f3 f4 f5 f6 0 none none (by omega) (by rw [← hR]; exact (if_pos hg_30).symm) _ _ hH ls (lv_sub hl [0, 2] rfl)
    · have hH : Hp D A s ([(h0, .inr (1, [.ref tx, .int (nI n), .int (nI q_30.1), .ref q_1])), (tx, .inl (D.1 10, 40, .inl (fun j => nI (t j)))), (q_1, .inr (0, [.int (nI f0), .int (nI f1), .int (nI f2), .int (nI f3), .int (nI f4), .int (nI f5), .int (bI f6), .int (nI (gl t n a)), .int (oI q_30.2.1), .int (oI q_30.2.2)]))]) H locs := hH
      refine W.eq (g2 := F0 m 33 ls [.int (nI 1)]) rfl ?_
      refine vn_if_ne (tgt := 38) C.x C.b dX1_read_33 (by decide) (by omega) (fun _ => ?_) (fun q => absurd q (by decide))
      refine lv_aload_n C.x C.b dX1_read_38 rfl (lv_at hl 2 rfl) ?_
      refine gGet (v := .int (nI q_30.1)) C hK hH 0 2 rfl rfl inX1 (by decide) tw_87 rfl dX1_read_39 ?_
      refine lv_iload_n C.x C.b dX1_read_42 rfl (lv_at hl 0 rfl) ?_
      refine vn_icmp_le (tgt := 91) C.x C.b dX1_read_43 (by decide) (by omega) (by omega) (fun q => absurd q (by omega)) (fun c_43 => ?_)
      refine lv_aload_n C.x C.b dX1_read_46 rfl (lv_at hl 2 rfl) ?_
      refine gGet (v := .ref q_1) C hK hH 0 3 rfl rfl inX1 (by decide) tw_89 rfl dX1_read_47 ?_
      refine lv_dup C.x C.b dX1_read_50 rfl ?_
      refine gGetN (v := .int (nI f0)) C hK hH 2 0 rfl rfl inX0 (by decide) (nwl_of tn_38 rfl) rfl dX1_read_51 ?_
      refine lv_iconst (v := nI 1) C.x C.b dX1_read_54 (by decide) ?_
      refine lv_iadd C.x C.b dX1_read_55 ?_
      refine vt_top (nI_add _ _) ?_
      refine gPutN (v := .int (nI (f0 + 1))) (ws' := [(h0, .inr (1, [.ref tx, .int (nI n), .int (nI q_30.1), .ref q_1])), (tx, .inl (D.1 10, 40, .inl (fun j => nI (t j)))), (q_1, .inr (0, [.int (nI (f0 + 1)), .int (nI f1), .int (nI f2), .int (nI f3), .int (nI f4), .int (nI f5), .int (bI f6), .int (nI (gl t n a)), .int (oI q_30.2.1), .int (oI q_30.2.2)]))]) C hK hH 2 0 tyX0 tyX0_ok nmX0 rfl rfl inX0 (by decide) (nwl_of tn_38 rfl) rfl rfl rfl (Nat.le_of_ble_eq_true rfl) rfl dX1_read_56 (fun H locs hH => ?_)
      refine lv_aload_n C.x C.b dX1_read_59 rfl (lv_at hl 2 rfl) ?_
      refine gGet (v := .int (nI q_30.1)) C hK hH 0 2 rfl rfl inX1 (by decide) tw_87 rfl dX1_read_60 ?_
      refine lv_aload_n C.x C.b dX1_read_63 rfl (lv_at hl 2 rfl) ?_
      refine gGet (v := .int (nI n)) C hK hH 0 1 rfl rfl inX1 (by decide) tw_85 rfl dX1_read_64 ?_
      refine vn_icmp_ne (tgt := 75) C.x C.b dX1_read_67 (by decide) (by omega) (by omega) (fun c_67 => ?_) (fun c_67 => ?_)
      · refine lv_iload_n C.x C.b dX1_read_75 rfl (lv_at hl 1 rfl) ?_
        refine lv_iconst (v := nI 3) C.x C.b dX1_read_76 (by decide) ?_
        refine vn_icmp_eq (tgt := 89) C.x C.b dX1_read_77 (by decide) (by omega) (by omega) (fun _ => ?_) (fun q => absurd q (by decide))
        refine lv_null C.x C.b dX1_read_89 ?_
        exact rA (r := none) C hr (Or.inl ⟨_, rfl⟩) hH (Or.inr ⟨q_1, q_30.1, f0 + 1, f1, f2, f3, f4, f5, f6, gl t n a, q_30.2.1, q_30.2.2, by rw [← hR]; simp only [r3, if_neg hg_30, hq_30, if_neg c_67], by omega, rfl, rfl⟩) (Nat.le_of_ble_eq_true rfl) (Nat.le_of_ble_eq_true rfl) dX1_read_90
      · refine lv_aload_n C.x C.b dX1_read_70 rfl (lv_at hl 2 rfl) ?_
        refine gGet (v := .ref q_1) C hK hH 0 3 rfl rfl inX1 (by decide) tw_89 rfl dX1_read_71 ?_
        exact rA (r := some q_1) C hr (Or.inl ⟨_, rfl⟩) hH (Or.inl ⟨q_1, q_30.1, f0 + 1, f1, f2, f3, f4, f5, f6, gl t n a, q_30.2.1, q_30.2.2, by rw [← hR]; simp only [r3, if_neg hg_30, hq_30, if_pos c_67], rfl, rfl⟩) (Nat.le_of_ble_eq_true rfl) (Nat.le_of_ble_eq_true rfl) dX1_read_74
    · have hH : Hp D A s ([(h0, .inr (1, [.ref tx, .int (nI n), .int (nI a9_30), .ref q_1])), (tx, .inl (D.1 10, 40, .inl (fun j => nI (t j)))), (q_1, .inr (0, [.int (nI f0), .int (nI f1), .int (nI f2), .int (nI f3), .int (nI f4), .int (nI f5), .int (bI f6), .int (nI (gl t n a)), .int (oI g8_30), .int (oI g9_30)]))]) H locs := hH
      refine W.eq (g2 := F0 m 33 ls [.int (nI 0)]) rfl ?_
      refine vn_if_ne (tgt := 38) C.x C.b dX1_read_33 (by decide) (by omega) (fun q => absurd q (by decide)) (fun _ => ?_)
      refine lv_null C.x C.b dX1_read_36 ?_
      exact rA (r := none) C hr (Or.inl ⟨_, rfl⟩) hH (Or.inr ⟨q_1, a9_30, f0, f1, f2, f3, f4, f5, f6, gl t n a, g8_30, g9_30, by rw [← hR]; simp only [r3, if_neg hg_30, hq_30], by omega, rfl, rfl⟩) (Nat.le_of_ble_eq_true rfl) (Nat.le_of_ble_eq_true rfl) dX1_read_37
  have L2 : ∀ (a : Nat) (f0 : Nat) (f1 : Nat) (f2 : Nat) (f3 : Nat) (f4 : Nat) (f6 : Bool) (ha : a ≤ n) (hR : r2 t n a f0 f1 f2 f3 f4 f6 = RDT t n) (H : Heap) (locs : List Loc), Hp D A s ([(h0, .inr (1, [.ref tx, .int (nI n), .int (nI a), .ref q_1])), (tx, .inl (D.1 10, 40, .inl (fun j => nI (t j)))), (q_1, .inr (0, [.int (nI f0), .int (nI f1), .int (nI f2), .int (nI f3), .int (nI f4), .int (nI 0), .int (bI f6), .int (nI 0), .int (oI none), .int (oI none)]))]) H locs → ∀ ls : Array Slot, lv_has ls 3 [(1, .int (nI 2)), (0, .ref h0)] → W p l e { frames := 9, cells := 1, slots := 10, locals := 194 } s m args below meth c H locs 1 10 (Qf below args s D A (fun v w => (∃ (q a9 : Nat) (f0 f1 f2 f3 f4 f5 : Nat) (f6 : Bool) (f7 : Nat) (f8 f9 : Option Nat), RDT t n = .inr (f0, f1, f2, f3, f4, f5, f6, f7, f8, f9) ∧ v = some (.ref q) ∧ w = [(h0, .inr (1, [.ref tx, .int (nI n), .int (nI a9), .ref q])), (tx, .inl (D.1 10, 40, .inl (fun j => nI (t j)))), (q, .inr (0, [.int (nI f0), .int (nI f1), .int (nI f2), .int (nI f3), .int (nI f4), .int (nI f5), .int (bI f6), .int (nI f7), .int (oI f8), .int (oI f9)]))]) ∨ (∃ (q a9 : Nat) (f0 f1 f2 f3 f4 f5 : Nat) (f6 : Bool) (f7 : Nat) (f8 f9 : Option Nat), RDT t n = .inl a9 ∧ a9 ≤ n ∧ v = some .null ∧ w = [(h0, .inr (1, [.ref tx, .int (nI n), .int (nI a9), .ref q])), (tx, .inl (D.1 10, 40, .inl (fun j => nI (t j)))), (q, .inr (0, [.int (nI f0), .int (nI f1), .int (nI f2), .int (nI f3), .int (nI f4), .int (nI f5), .int (bI f6), .int (nI f7), .int (oI f8), .int (oI f9)]))])) (nox) { frames := 9, cells := 1, slots := 10, locals := 194 }) (F0 m 18 ls []) := by
    intro a f0 f1 f2 f3 f4 f6 ha hR H locs hH ls hl
    refine lv_iload_n C.x C.b dX1_read_18 rfl (lv_at hl 0 rfl) ?_
    refine lv_iconst (v := nI 3) C.x C.b dX1_read_19 (by decide) ?_
    refine vn_icmp_gt (tgt := 97) C.x C.b dX1_read_20 (by decide) (by omega) (by omega) (fun q => absurd q (by decide)) (fun _ => ?_)
    refine lv_aload_n C.x C.b dX1_read_23 rfl (lv_at hl 1 rfl) ?_
    refine gGet (v := .int (nI a)) C hK hH 0 2 rfl rfl inX1 (by decide) tw_87 rfl dX1_read_24 ?_
    refine lv_istore_n (lv' := [(2, .int (nI a)), (1, .int (nI 2)), (0, .ref h0)]) C.x C.b dX1_read_27 rfl hl (by decide) rfl (fun ls hl => ?_)
    refine lv_aload_n C.x C.b dX1_read_28 rfl (lv_at hl 2 rfl) ?_
    refine lv_iload_n C.x C.b dX1_read_29 rfl (lv_at hl 1 rfl) ?_
    refine kV (As := [.int (nI 2)]) (isC := [0, 1, 2]) (isR := []) (wr := []) C hK hH (c_rit2 l htr D H.size h0 tx q_1 t n a f0 f1 f2 f3 f4 0 f6 0 none none hn (by omega) ht) ⟨rfl, rfl, rfl, rfl, by decide⟩ 0 rfl rfl tw_267 tw_269 ts_3 tw_2 kX1_readIfThere ⟨by decide +kernel, by decide +kernel, (by decide +kernel : (parseMethodDescriptor yX1_readIfThere.desc).map (fun d => d.parameters.length) = some 1)⟩ ⟨(Nat.le_of_ble_eq_true rfl), (Nat.le_of_ble_eq_true rfl)⟩ hl.1 (Nat.le_of_ble_eq_true rfl) dX1_read_30 ⟨(Nat.le_of_ble_eq_true rfl), (Nat.le_of_ble_eq_true rfl)⟩ (fun v9 w9 H locs hN hH => ?_) (fun _ _ _ _ _ _ h => False.elim h)
    rcases hN with ⟨ki_30, kl_30, rfl, rfl⟩ | ⟨ki_30, kj_30, kl_30, rfl, rfl⟩ | ⟨ki_30, kj_30, rfl, rfl⟩
    · have hH : Hp D A s ([(h0, .inr (1, [.ref tx, .int (nI n), .int (nI (a + 1)), .ref q_1])), (tx, .inl (D.1 10, 40, .inl (fun j => nI (t j)))), (q_1, .inr (0, [.int (nI f0), .int (nI f1), .int (nI f2), .int (nI f3), .int (nI f4), .int (nI 1), .int (bI f6), .int (nI 0), .int (oI none), .int (oI none)]))]) H locs := hH
      refine W.eq (g2 := F0 m 33 ls [.int (nI 1)]) rfl ?_
      refine vn_if_ne (tgt := 38) C.x C.b dX1_read_33 (by decide) (by omega) (fun _ => ?_) (fun q => absurd q (by decide))
      refine lv_aload_n C.x C.b dX1_read_38 rfl (lv_at hl 2 rfl) ?_
      refine gGet (v := .int (nI (a + 1))) C hK hH 0 2 rfl rfl inX1 (by decide) tw_87 rfl dX1_read_39 ?_
      refine lv_iload_n C.x C.b dX1_read_42 rfl (lv_at hl 0 rfl) ?_
      refine vn_icmp_le (tgt := 91) C.x C.b dX1_read_43 (by decide) (by omega) (by omega) (fun q => absurd q (by omega)) (fun c_43 => ?_)
      refine lv_aload_n C.x C.b dX1_read_46 rfl (lv_at hl 2 rfl) ?_
      refine gGet (v := .ref q_1) C hK hH 0 3 rfl rfl inX1 (by decide) tw_89 rfl dX1_read_47 ?_
      refine lv_dup C.x C.b dX1_read_50 rfl ?_
      refine gGetN (v := .int (nI f0)) C hK hH 2 0 rfl rfl inX0 (by decide) (nwl_of tn_38 rfl) rfl dX1_read_51 ?_
      refine lv_iconst (v := nI 1) C.x C.b dX1_read_54 (by decide) ?_
      refine lv_iadd C.x C.b dX1_read_55 ?_
      refine vt_top (nI_add _ _) ?_
      refine gPutN (v := .int (nI (f0 + 1))) (ws' := [(h0, .inr (1, [.ref tx, .int (nI n), .int (nI (a + 1)), .ref q_1])), (tx, .inl (D.1 10, 40, .inl (fun j => nI (t j)))), (q_1, .inr (0, [.int (nI (f0 + 1)), .int (nI f1), .int (nI f2), .int (nI f3), .int (nI f4), .int (nI 1), .int (bI f6), .int (nI 0), .int (oI none), .int (oI none)]))]) C hK hH 2 0 tyX0 tyX0_ok nmX0 rfl rfl inX0 (by decide) (nwl_of tn_38 rfl) rfl rfl rfl (Nat.le_of_ble_eq_true rfl) rfl dX1_read_56 (fun H locs hH => ?_)
      refine lv_aload_n C.x C.b dX1_read_59 rfl (lv_at hl 2 rfl) ?_
      refine gGet (v := .int (nI (a + 1))) C hK hH 0 2 rfl rfl inX1 (by decide) tw_87 rfl dX1_read_60 ?_
      refine lv_aload_n C.x C.b dX1_read_63 rfl (lv_at hl 2 rfl) ?_
      refine gGet (v := .int (nI n)) C hK hH 0 1 rfl rfl inX1 (by decide) tw_85 rfl dX1_read_64 ?_
      refine vn_icmp_ne (tgt := 75) C.x C.b dX1_read_67 (by decide) (by omega) (by omega) (fun c_67 => ?_) (fun c_67 => ?_)
      · refine lv_iload_n C.x C.b dX1_read_75 rfl (lv_at hl 1 rfl) ?_
        refine lv_iconst (v := nI 3) C.x C.b dX1_read_76 (by decide) ?_
        refine vn_icmp_eq (tgt := 89) C.x C.b dX1_read_77 (by decide) (by omega) (by omega) (fun q => absurd q (by decide)) (fun _ => ?_)
        refine lv_aload_n C.x C.b dX1_read_80 rfl (lv_at hl 2 rfl) ?_
        refine lv_bipush (v := nI 59) C.x C.b dX1_read_81 (by decide) ?_
        refine kV (As := [.int (nI 59)]) (isC := [0, 1, 2]) (isR := []) (wr := []) C hK hH (c_take l htr D H.size h0 tx q_1 t n (a + 1) (f0 + 1) f1 f2 f3 f4 1 f6 0 none none 59 hn (by omega) ht (by omega)) ⟨rfl, rfl, rfl, rfl, by decide⟩ 0 rfl rfl tw_370 tw_372 ts_7 tw_2 kX1_take ⟨by decide +kernel, by decide +kernel, (by decide +kernel : (parseMethodDescriptor yX1_take.desc).map (fun d => d.parameters.length) = some 1)⟩ ⟨(Nat.le_of_ble_eq_true rfl), (Nat.le_of_ble_eq_true rfl)⟩ hl.1 (Nat.le_of_ble_eq_true rfl) dX1_read_83 ⟨(Nat.le_of_ble_eq_true rfl), (Nat.le_of_ble_eq_true rfl)⟩ (fun v9 w9 H locs hN hH => ?_) (fun _ _ _ _ _ _ h => False.elim h)
        rcases hN with ⟨k_83, kl_83, rfl, rfl⟩ | ⟨k_83, rfl, rfl⟩
        · have hH : Hp D A s ([(h0, .inr (1, [.ref tx, .int (nI n), .int (nI (a + 1 + 1)), .ref q_1])), (tx, .inl (D.1 10, 40, .inl (fun j => nI (t j)))), (q_1, .inr (0, [.int (nI (f0 + 1)), .int (nI f1), .int (nI f2), .int (nI f3), .int (nI f4), .int (nI 1), .int (bI f6), .int (nI 0), .int (oI none), .int (oI none)]))]) H locs := hH
          refine W.eq (g2 := F0 m 86 ls [.int (nI 1)]) rfl ?_
          refine vn_if_ne (tgt := 91) C.x C.b dX1_read_86 (by decide) (by omega) (fun _ => ?_) (fun q => absurd q (by decide))
          refine lv_iinc (v := (nI 3)) (lv' := [(1, .int (nI 3)), (2, .int (nI a)), (0, .ref h0)]) C.x C.b dX1_read_91 hl (k := 1) rfl (by decide) (by decide) rfl (fun ls hl => ?_)
          refine lv_goto (tgt := 18) C.x C.b dX1_read_94 (by decide) ?_
          exact L3 (a + 1 + 1) (f0 + 1) f1 f2 f3 f4 1 f6 (by omega) (by rw [← hR]; simp only [r2, ki_30, if_neg c_67, k_83, cond_true, cond_false]) _ _ hH ls (lv_sub hl [0, 2] rfl)
        · have hH : Hp D A s ([(h0, .inr (1, [.ref tx, .int (nI n), .int (nI (a + 1)), .ref q_1])), (tx, .inl (D.1 10, 40, .inl (fun j => nI (t j)))), (q_1, .inr (0, [.int (nI (f0 + 1)), .int (nI f1), .int (nI f2), .int (nI f3), .int (nI f4), .int (nI 1), .int (bI f6), .int (nI 0), .int (oI none), .int (oI none)]))]) H locs := hH
          refine W.eq (g2 := F0 m 86 ls [.int (nI 0)]) rfl ?_
          refine vn_if_ne (tgt := 91) C.x C.b dX1_read_86 (by decide) (by omega) (fun q => absurd q (by decide)) (fun _ => ?_)
          refine lv_null C.x C.b dX1_read_89 ?_
          exact rA (r := none) C hr (Or.inl ⟨_, rfl⟩) hH (Or.inr ⟨q_1, a + 1, f0 + 1, f1, f2, f3, f4, 1, f6, 0, none, none, by rw [← hR]; simp only [r2, ki_30, if_neg c_67, k_83, cond_true, cond_false], by omega, rfl, rfl⟩) (Nat.le_of_ble_eq_true rfl) (Nat.le_of_ble_eq_true rfl) dX1_read_90
      · refine lv_aload_n C.x C.b dX1_read_70 rfl (lv_at hl 2 rfl) ?_
        refine gGet (v := .ref q_1) C hK hH 0 3 rfl rfl inX1 (by decide) tw_89 rfl dX1_read_71 ?_
        exact rA (r := some q_1) C hr (Or.inl ⟨_, rfl⟩) hH (Or.inl ⟨q_1, a + 1, f0 + 1, f1, f2, f3, f4, 1, f6, 0, none, none, by rw [← hR]; simp only [r2, ki_30, if_pos c_67, cond_true, cond_false], rfl, rfl⟩) (Nat.le_of_ble_eq_true rfl) (Nat.le_of_ble_eq_true rfl) dX1_read_74
    · have hH : Hp D A s ([(h0, .inr (1, [.ref tx, .int (nI n), .int (nI (a + 1)), .ref q_1])), (tx, .inl (D.1 10, 40, .inl (fun j => nI (t j)))), (q_1, .inr (0, [.int (nI f0), .int (nI f1), .int (nI f2), .int (nI f3), .int (nI f4), .int (nI 2), .int (bI f6), .int (nI 0), .int (oI none), .int (oI none)]))]) H locs := hH
      refine W.eq (g2 := F0 m 33 ls [.int (nI 1)]) rfl ?_
      refine vn_if_ne (tgt := 38) C.x C.b dX1_read_33 (by decide) (by omega) (fun _ => ?_) (fun q => absurd q (by decide))
      refine lv_aload_n C.x C.b dX1_read_38 rfl (lv_at hl 2 rfl) ?_
      refine gGet (v := .int (nI (a + 1))) C hK hH 0 2 rfl rfl inX1 (by decide) tw_87 rfl dX1_read_39 ?_
      refine lv_iload_n C.x C.b dX1_read_42 rfl (lv_at hl 0 rfl) ?_
      refine vn_icmp_le (tgt := 91) C.x C.b dX1_read_43 (by decide) (by omega) (by omega) (fun q => absurd q (by omega)) (fun c_43 => ?_)
      refine lv_aload_n C.x C.b dX1_read_46 rfl (lv_at hl 2 rfl) ?_
      refine gGet (v := .ref q_1) C hK hH 0 3 rfl rfl inX1 (by decide) tw_89 rfl dX1_read_47 ?_
      refine lv_dup C.x C.b dX1_read_50 rfl ?_
      refine gGetN (v := .int (nI f0)) C hK hH 2 0 rfl rfl inX0 (by decide) (nwl_of tn_38 rfl) rfl dX1_read_51 ?_
      refine lv_iconst (v := nI 1) C.x C.b dX1_read_54 (by decide) ?_
      refine lv_iadd C.x C.b dX1_read_55 ?_
      refine vt_top (nI_add _ _) ?_
      refine gPutN (v := .int (nI (f0 + 1))) (ws' := [(h0, .inr (1, [.ref tx, .int (nI n), .int (nI (a + 1)), .ref q_1])), (tx, .inl (D.1 10, 40, .inl (fun j => nI (t j)))), (q_1, .inr (0, [.int (nI (f0 + 1)), .int (nI f1), .int (nI f2), .int (nI f3), .int (nI f4), .int (nI 2), .int (bI f6), .int (nI 0), .int (oI none), .int (oI none)]))]) C hK hH 2 0 tyX0 tyX0_ok nmX0 rfl rfl inX0 (by decide) (nwl_of tn_38 rfl) rfl rfl rfl (Nat.le_of_ble_eq_true rfl) rfl dX1_read_56 (fun H locs hH => ?_)
      refine lv_aload_n C.x C.b dX1_read_59 rfl (lv_at hl 2 rfl) ?_
      refine gGet (v := .int (nI (a + 1))) C hK hH 0 2 rfl rfl inX1 (by decide) tw_87 rfl dX1_read_60 ?_
      refine lv_aload_n C.x C.b dX1_read_63 rfl (lv_at hl 2 rfl) ?_
      refine gGet (v := .int (nI n)) C hK hH 0 1 rfl rfl inX1 (by decide) tw_85 rfl dX1_read_64 ?_
      refine vn_icmp_ne (tgt := 75) C.x C.b dX1_read_67 (by decide) (by omega) (by omega) (fun c_67 => ?_) (fun c_67 => ?_)
      · refine lv_iload_n C.x C.b dX1_read_75 rfl (lv_at hl 1 rfl) ?_
        refine lv_iconst (v := nI 3) C.x C.b dX1_read_76 (by decide) ?_
        refine vn_icmp_eq (tgt := 89) C.x C.b dX1_read_77 (by decide) (by omega) (by omega) (fun q => absurd q (by decide)) (fun _ => ?_)
        refine lv_aload_n C.x C.b dX1_read_80 rfl (lv_at hl 2 rfl) ?_
        refine lv_bipush (v := nI 59) C.x C.b dX1_read_81 (by decide) ?_
        refine kV (As := [.int (nI 59)]) (isC := [0, 1, 2]) (isR := []) (wr := []) C hK hH (c_take l htr D H.size h0 tx q_1 t n (a + 1) (f0 + 1) f1 f2 f3 f4 2 f6 0 none none 59 hn (by omega) ht (by omega)) ⟨rfl, rfl, rfl, rfl, by decide⟩ 0 rfl rfl tw_370 tw_372 ts_7 tw_2 kX1_take ⟨by decide +kernel, by decide +kernel, (by decide +kernel : (parseMethodDescriptor yX1_take.desc).map (fun d => d.parameters.length) = some 1)⟩ ⟨(Nat.le_of_ble_eq_true rfl), (Nat.le_of_ble_eq_true rfl)⟩ hl.1 (Nat.le_of_ble_eq_true rfl) dX1_read_83 ⟨(Nat.le_of_ble_eq_true rfl), (Nat.le_of_ble_eq_true rfl)⟩ (fun v9 w9 H locs hN hH => ?_) (fun _ _ _ _ _ _ h => False.elim h)
        rcases hN with ⟨k_83, kl_83, rfl, rfl⟩ | ⟨k_83, rfl, rfl⟩
        · have hH : Hp D A s ([(h0, .inr (1, [.ref tx, .int (nI n), .int (nI (a + 1 + 1)), .ref q_1])), (tx, .inl (D.1 10, 40, .inl (fun j => nI (t j)))), (q_1, .inr (0, [.int (nI (f0 + 1)), .int (nI f1), .int (nI f2), .int (nI f3), .int (nI f4), .int (nI 2), .int (bI f6), .int (nI 0), .int (oI none), .int (oI none)]))]) H locs := hH
          refine W.eq (g2 := F0 m 86 ls [.int (nI 1)]) rfl ?_
          refine vn_if_ne (tgt := 91) C.x C.b dX1_read_86 (by decide) (by omega) (fun _ => ?_) (fun q => absurd q (by decide))
          refine lv_iinc (v := (nI 3)) (lv' := [(1, .int (nI 3)), (2, .int (nI a)), (0, .ref h0)]) C.x C.b dX1_read_91 hl (k := 1) rfl (by decide) (by decide) rfl (fun ls hl => ?_)
          refine lv_goto (tgt := 18) C.x C.b dX1_read_94 (by decide) ?_
          exact L3 (a + 1 + 1) (f0 + 1) f1 f2 f3 f4 2 f6 (by omega) (by rw [← hR]; simp only [r2, ki_30, kj_30, if_neg c_67, k_83, cond_true, cond_false]) _ _ hH ls (lv_sub hl [0, 2] rfl)
        · have hH : Hp D A s ([(h0, .inr (1, [.ref tx, .int (nI n), .int (nI (a + 1)), .ref q_1])), (tx, .inl (D.1 10, 40, .inl (fun j => nI (t j)))), (q_1, .inr (0, [.int (nI (f0 + 1)), .int (nI f1), .int (nI f2), .int (nI f3), .int (nI f4), .int (nI 2), .int (bI f6), .int (nI 0), .int (oI none), .int (oI none)]))]) H locs := hH
          refine W.eq (g2 := F0 m 86 ls [.int (nI 0)]) rfl ?_
          refine vn_if_ne (tgt := 91) C.x C.b dX1_read_86 (by decide) (by omega) (fun q => absurd q (by decide)) (fun _ => ?_)
          refine lv_null C.x C.b dX1_read_89 ?_
          exact rA (r := none) C hr (Or.inl ⟨_, rfl⟩) hH (Or.inr ⟨q_1, a + 1, f0 + 1, f1, f2, f3, f4, 2, f6, 0, none, none, by rw [← hR]; simp only [r2, ki_30, kj_30, if_neg c_67, k_83, cond_true, cond_false], by omega, rfl, rfl⟩) (Nat.le_of_ble_eq_true rfl) (Nat.le_of_ble_eq_true rfl) dX1_read_90
      · refine lv_aload_n C.x C.b dX1_read_70 rfl (lv_at hl 2 rfl) ?_
        refine gGet (v := .ref q_1) C hK hH 0 3 rfl rfl inX1 (by decide) tw_89 rfl dX1_read_71 ?_
        exact rA (r := some q_1) C hr (Or.inl ⟨_, rfl⟩) hH (Or.inl ⟨q_1, a + 1, f0 + 1, f1, f2, f3, f4, 2, f6, 0, none, none, by rw [← hR]; simp only [r2, ki_30, kj_30, if_pos c_67, cond_true, cond_false], rfl, rfl⟩) (Nat.le_of_ble_eq_true rfl) (Nat.le_of_ble_eq_true rfl) dX1_read_74
    · have hH : Hp D A s ([(h0, .inr (1, [.ref tx, .int (nI n), .int (nI a), .ref q_1])), (tx, .inl (D.1 10, 40, .inl (fun j => nI (t j)))), (q_1, .inr (0, [.int (nI f0), .int (nI f1), .int (nI f2), .int (nI f3), .int (nI f4), .int (nI 0), .int (bI f6), .int (nI 0), .int (oI none), .int (oI none)]))]) H locs := hH
      refine W.eq (g2 := F0 m 33 ls [.int (nI 1)]) rfl ?_
      refine vn_if_ne (tgt := 38) C.x C.b dX1_read_33 (by decide) (by omega) (fun _ => ?_) (fun q => absurd q (by decide))
      refine lv_aload_n C.x C.b dX1_read_38 rfl (lv_at hl 2 rfl) ?_
      refine gGet (v := .int (nI a)) C hK hH 0 2 rfl rfl inX1 (by decide) tw_87 rfl dX1_read_39 ?_
      refine lv_iload_n C.x C.b dX1_read_42 rfl (lv_at hl 0 rfl) ?_
      refine vn_icmp_le (tgt := 91) C.x C.b dX1_read_43 (by decide) (by omega) (by omega) (fun _ => ?_) (fun q => absurd q (by omega))
      refine lv_iinc (v := (nI 3)) (lv' := [(1, .int (nI 3)), (2, .int (nI a)), (0, .ref h0)]) C.x C.b dX1_read_91 hl (k := 1) rfl (by decide) (by decide) rfl (fun ls hl => ?_)
      refine lv_goto (tgt := 18) C.x C.b dX1_read_94 (by decide) ?_
      exact L3 a f0 f1 f2 f3 f4 0 f6 (by omega) (by rw [← hR]; simp only [r2, ki_30, kj_30, cond_false]) _ _ hH ls (lv_sub hl [0, 2] rfl)
  have L1 : ∀ (a : Nat) (f0 : Nat) (f1 : Nat) (f2 : Nat) (f3 : Nat) (f4 : Nat) (ha : a ≤ n) (hR : r1 t n a f0 f1 f2 f3 f4 = RDT t n) (H : Heap) (locs : List Loc), Hp D A s ([(h0, .inr (1, [.ref tx, .int (nI n), .int (nI a), .ref q_1])), (tx, .inl (D.1 10, 40, .inl (fun j => nI (t j)))), (q_1, .inr (0, [.int (nI f0), .int (nI f1), .int (nI f2), .int (nI f3), .int (nI f4), .int (nI 0), .int (bI false), .int (nI 0), .int (oI none), .int (oI none)]))]) H locs → ∀ ls : Array Slot, lv_has ls 3 [(1, .int (nI 1)), (0, .ref h0)] → W p l e { frames := 9, cells := 1, slots := 10, locals := 194 } s m args below meth c H locs 1 10 (Qf below args s D A (fun v w => (∃ (q a9 : Nat) (f0 f1 f2 f3 f4 f5 : Nat) (f6 : Bool) (f7 : Nat) (f8 f9 : Option Nat), RDT t n = .inr (f0, f1, f2, f3, f4, f5, f6, f7, f8, f9) ∧ v = some (.ref q) ∧ w = [(h0, .inr (1, [.ref tx, .int (nI n), .int (nI a9), .ref q])), (tx, .inl (D.1 10, 40, .inl (fun j => nI (t j)))), (q, .inr (0, [.int (nI f0), .int (nI f1), .int (nI f2), .int (nI f3), .int (nI f4), .int (nI f5), .int (bI f6), .int (nI f7), .int (oI f8), .int (oI f9)]))]) ∨ (∃ (q a9 : Nat) (f0 f1 f2 f3 f4 f5 : Nat) (f6 : Bool) (f7 : Nat) (f8 f9 : Option Nat), RDT t n = .inl a9 ∧ a9 ≤ n ∧ v = some .null ∧ w = [(h0, .inr (1, [.ref tx, .int (nI n), .int (nI a9), .ref q])), (tx, .inl (D.1 10, 40, .inl (fun j => nI (t j)))), (q, .inr (0, [.int (nI f0), .int (nI f1), .int (nI f2), .int (nI f3), .int (nI f4), .int (nI f5), .int (bI f6), .int (nI f7), .int (oI f8), .int (oI f9)]))])) (nox) { frames := 9, cells := 1, slots := 10, locals := 194 }) (F0 m 18 ls []) := by
    intro a f0 f1 f2 f3 f4 ha hR H locs hH ls hl
    refine lv_iload_n C.x C.b dX1_read_18 rfl (lv_at hl 0 rfl) ?_
    refine lv_iconst (v := nI 3) C.x C.b dX1_read_19 (by decide) ?_
    refine vn_icmp_gt (tgt := 97) C.x C.b dX1_read_20 (by decide) (by omega) (by omega) (fun q => absurd q (by decide)) (fun _ => ?_)
    refine lv_aload_n C.x C.b dX1_read_23 rfl (lv_at hl 1 rfl) ?_
    refine gGet (v := .int (nI a)) C hK hH 0 2 rfl rfl inX1 (by decide) tw_87 rfl dX1_read_24 ?_
    refine lv_istore_n (lv' := [(2, .int (nI a)), (1, .int (nI 1)), (0, .ref h0)]) C.x C.b dX1_read_27 rfl hl (by decide) rfl (fun ls hl => ?_)
    refine lv_aload_n C.x C.b dX1_read_28 rfl (lv_at hl 2 rfl) ?_
    refine lv_iload_n C.x C.b dX1_read_29 rfl (lv_at hl 1 rfl) ?_
    refine kV (As := [.int (nI 1)]) (isC := [0, 1, 2]) (isR := []) (wr := []) C hK hH (c_rit1 l htr D H.size h0 tx q_1 t n a f0 f1 f2 f3 f4 0 false 0 none none hn (by omega) ht) ⟨rfl, rfl, rfl, rfl, by decide⟩ 0 rfl rfl tw_267 tw_269 ts_3 tw_2 kX1_readIfThere ⟨by decide +kernel, by decide +kernel, (by decide +kernel : (parseMethodDescriptor yX1_readIfThere.desc).map (fun d => d.parameters.length) = some 1)⟩ ⟨(Nat.le_of_ble_eq_true rfl), (Nat.le_of_ble_eq_true rfl)⟩ hl.1 (Nat.le_of_ble_eq_true rfl) dX1_read_30 ⟨(Nat.le_of_ble_eq_true rfl), (Nat.le_of_ble_eq_true rfl)⟩ (fun v9 w9 H locs hN hH => ?_) (fun _ _ _ _ _ _ h => False.elim h)
    rcases hN with ⟨ki_30, kl_30, rfl, rfl⟩ | ⟨ki_30, rfl, rfl⟩
    · have hH : Hp D A s ([(h0, .inr (1, [.ref tx, .int (nI n), .int (nI (a + 1)), .ref q_1])), (tx, .inl (D.1 10, 40, .inl (fun j => nI (t j)))), (q_1, .inr (0, [.int (nI f0), .int (nI f1), .int (nI f2), .int (nI f3), .int (nI f4), .int (nI 0), .int (bI true), .int (nI 0), .int (oI none), .int (oI none)]))]) H locs := hH
      refine W.eq (g2 := F0 m 33 ls [.int (nI 1)]) rfl ?_
      refine vn_if_ne (tgt := 38) C.x C.b dX1_read_33 (by decide) (by omega) (fun _ => ?_) (fun q => absurd q (by decide))
      refine lv_aload_n C.x C.b dX1_read_38 rfl (lv_at hl 2 rfl) ?_
      refine gGet (v := .int (nI (a + 1))) C hK hH 0 2 rfl rfl inX1 (by decide) tw_87 rfl dX1_read_39 ?_
      refine lv_iload_n C.x C.b dX1_read_42 rfl (lv_at hl 0 rfl) ?_
      refine vn_icmp_le (tgt := 91) C.x C.b dX1_read_43 (by decide) (by omega) (by omega) (fun q => absurd q (by omega)) (fun c_43 => ?_)
      refine lv_aload_n C.x C.b dX1_read_46 rfl (lv_at hl 2 rfl) ?_
      refine gGet (v := .ref q_1) C hK hH 0 3 rfl rfl inX1 (by decide) tw_89 rfl dX1_read_47 ?_
      refine lv_dup C.x C.b dX1_read_50 rfl ?_
      refine gGetN (v := .int (nI f0)) C hK hH 2 0 rfl rfl inX0 (by decide) (nwl_of tn_38 rfl) rfl dX1_read_51 ?_
      refine lv_iconst (v := nI 1) C.x C.b dX1_read_54 (by decide) ?_
      refine lv_iadd C.x C.b dX1_read_55 ?_
      refine vt_top (nI_add _ _) ?_
      refine gPutN (v := .int (nI (f0 + 1))) (ws' := [(h0, .inr (1, [.ref tx, .int (nI n), .int (nI (a + 1)), .ref q_1])), (tx, .inl (D.1 10, 40, .inl (fun j => nI (t j)))), (q_1, .inr (0, [.int (nI (f0 + 1)), .int (nI f1), .int (nI f2), .int (nI f3), .int (nI f4), .int (nI 0), .int (bI true), .int (nI 0), .int (oI none), .int (oI none)]))]) C hK hH 2 0 tyX0 tyX0_ok nmX0 rfl rfl inX0 (by decide) (nwl_of tn_38 rfl) rfl rfl rfl (Nat.le_of_ble_eq_true rfl) rfl dX1_read_56 (fun H locs hH => ?_)
      refine lv_aload_n C.x C.b dX1_read_59 rfl (lv_at hl 2 rfl) ?_
      refine gGet (v := .int (nI (a + 1))) C hK hH 0 2 rfl rfl inX1 (by decide) tw_87 rfl dX1_read_60 ?_
      refine lv_aload_n C.x C.b dX1_read_63 rfl (lv_at hl 2 rfl) ?_
      refine gGet (v := .int (nI n)) C hK hH 0 1 rfl rfl inX1 (by decide) tw_85 rfl dX1_read_64 ?_
      refine vn_icmp_ne (tgt := 75) C.x C.b dX1_read_67 (by decide) (by omega) (by omega) (fun c_67 => ?_) (fun c_67 => ?_)
      · refine lv_iload_n C.x C.b dX1_read_75 rfl (lv_at hl 1 rfl) ?_
        refine lv_iconst (v := nI 3) C.x C.b dX1_read_76 (by decide) ?_
        refine vn_icmp_eq (tgt := 89) C.x C.b dX1_read_77 (by decide) (by omega) (by omega) (fun q => absurd q (by decide)) (fun _ => ?_)
        refine lv_aload_n C.x C.b dX1_read_80 rfl (lv_at hl 2 rfl) ?_
        refine lv_bipush (v := nI 59) C.x C.b dX1_read_81 (by decide) ?_
        refine kV (As := [.int (nI 59)]) (isC := [0, 1, 2]) (isR := []) (wr := []) C hK hH (c_take l htr D H.size h0 tx q_1 t n (a + 1) (f0 + 1) f1 f2 f3 f4 0 true 0 none none 59 hn (by omega) ht (by omega)) ⟨rfl, rfl, rfl, rfl, by decide⟩ 0 rfl rfl tw_370 tw_372 ts_7 tw_2 kX1_take ⟨by decide +kernel, by decide +kernel, (by decide +kernel : (parseMethodDescriptor yX1_take.desc).map (fun d => d.parameters.length) = some 1)⟩ ⟨(Nat.le_of_ble_eq_true rfl), (Nat.le_of_ble_eq_true rfl)⟩ hl.1 (Nat.le_of_ble_eq_true rfl) dX1_read_83 ⟨(Nat.le_of_ble_eq_true rfl), (Nat.le_of_ble_eq_true rfl)⟩ (fun v9 w9 H locs hN hH => ?_) (fun _ _ _ _ _ _ h => False.elim h)
        rcases hN with ⟨k_83, kl_83, rfl, rfl⟩ | ⟨k_83, rfl, rfl⟩
        · have hH : Hp D A s ([(h0, .inr (1, [.ref tx, .int (nI n), .int (nI (a + 1 + 1)), .ref q_1])), (tx, .inl (D.1 10, 40, .inl (fun j => nI (t j)))), (q_1, .inr (0, [.int (nI (f0 + 1)), .int (nI f1), .int (nI f2), .int (nI f3), .int (nI f4), .int (nI 0), .int (bI true), .int (nI 0), .int (oI none), .int (oI none)]))]) H locs := hH
          refine W.eq (g2 := F0 m 86 ls [.int (nI 1)]) rfl ?_
          refine vn_if_ne (tgt := 91) C.x C.b dX1_read_86 (by decide) (by omega) (fun _ => ?_) (fun q => absurd q (by decide))
          refine lv_iinc (v := (nI 2)) (lv' := [(1, .int (nI 2)), (2, .int (nI a)), (0, .ref h0)]) C.x C.b dX1_read_91 hl (k := 1) rfl (by decide) (by decide) rfl (fun ls hl => ?_)
          refine lv_goto (tgt := 18) C.x C.b dX1_read_94 (by decide) ?_
          exact L2 (a + 1 + 1) (f0 + 1) f1 f2 f3 f4 true (by omega) (by rw [← hR]; simp only [r1, ki_30, if_neg c_67, k_83, cond_true, cond_false]) _ _ hH ls (lv_sub hl [0, 2] rfl)
        · have hH : Hp D A s ([(h0, .inr (1, [.ref tx, .int (nI n), .int (nI (a + 1)), .ref q_1])), (tx, .inl (D.1 10, 40, .inl (fun j => nI (t j)))), (q_1, .inr (0, [.int (nI (f0 + 1)), .int (nI f1), .int (nI f2), .int (nI f3), .int (nI f4), .int (nI 0), .int (bI true), .int (nI 0), .int (oI none), .int (oI none)]))]) H locs := hH
          refine W.eq (g2 := F0 m 86 ls [.int (nI 0)]) rfl ?_
          refine vn_if_ne (tgt := 91) C.x C.b dX1_read_86 (by decide) (by omega) (fun q => absurd q (by decide)) (fun _ => ?_)
          refine lv_null C.x C.b dX1_read_89 ?_
          exact rA (r := none) C hr (Or.inl ⟨_, rfl⟩) hH (Or.inr ⟨q_1, a + 1, f0 + 1, f1, f2, f3, f4, 0, true, 0, none, none, by rw [← hR]; simp only [r1, ki_30, if_neg c_67, k_83, cond_true, cond_false], by omega, rfl, rfl⟩) (Nat.le_of_ble_eq_true rfl) (Nat.le_of_ble_eq_true rfl) dX1_read_90
      · refine lv_aload_n C.x C.b dX1_read_70 rfl (lv_at hl 2 rfl) ?_
        refine gGet (v := .ref q_1) C hK hH 0 3 rfl rfl inX1 (by decide) tw_89 rfl dX1_read_71 ?_
        exact rA (r := some q_1) C hr (Or.inl ⟨_, rfl⟩) hH (Or.inl ⟨q_1, a + 1, f0 + 1, f1, f2, f3, f4, 0, true, 0, none, none, by rw [← hR]; simp only [r1, ki_30, if_pos c_67, cond_true, cond_false], rfl, rfl⟩) (Nat.le_of_ble_eq_true rfl) (Nat.le_of_ble_eq_true rfl) dX1_read_74
    · have hH : Hp D A s ([(h0, .inr (1, [.ref tx, .int (nI n), .int (nI a), .ref q_1])), (tx, .inl (D.1 10, 40, .inl (fun j => nI (t j)))), (q_1, .inr (0, [.int (nI f0), .int (nI f1), .int (nI f2), .int (nI f3), .int (nI f4), .int (nI 0), .int (bI false), .int (nI 0), .int (oI none), .int (oI none)]))]) H locs := hH
      refine W.eq (g2 := F0 m 33 ls [.int (nI 1)]) rfl ?_
      refine vn_if_ne (tgt := 38) C.x C.b dX1_read_33 (by decide) (by omega) (fun _ => ?_) (fun q => absurd q (by decide))
      refine lv_aload_n C.x C.b dX1_read_38 rfl (lv_at hl 2 rfl) ?_
      refine gGet (v := .int (nI a)) C hK hH 0 2 rfl rfl inX1 (by decide) tw_87 rfl dX1_read_39 ?_
      refine lv_iload_n C.x C.b dX1_read_42 rfl (lv_at hl 0 rfl) ?_
      refine vn_icmp_le (tgt := 91) C.x C.b dX1_read_43 (by decide) (by omega) (by omega) (fun _ => ?_) (fun q => absurd q (by omega))
      refine lv_iinc (v := (nI 2)) (lv' := [(1, .int (nI 2)), (2, .int (nI a)), (0, .ref h0)]) C.x C.b dX1_read_91 hl (k := 1) rfl (by decide) (by decide) rfl (fun ls hl => ?_)
      refine lv_goto (tgt := 18) C.x C.b dX1_read_94 (by decide) ?_
      exact L2 a f0 f1 f2 f3 f4 false (by omega) (by rw [← hR]; simp only [r1, ki_30, cond_false]) _ _ hH ls (lv_sub hl [0, 2] rfl)
  refine lv_iload_n C.x C.b dX1_read_18 rfl (lv_at hl 0 rfl) ?_
  refine lv_iconst (v := nI 3) C.x C.b dX1_read_19 (by decide) ?_
  refine vn_icmp_gt (tgt := 97) C.x C.b dX1_read_20 (by decide) (by omega) (by omega) (fun q => absurd q (by decide)) (fun _ => ?_)
  refine lv_aload_n C.x C.b dX1_read_23 rfl (lv_at hl 1 rfl) ?_
  refine gGet (v := .int (nI 0)) C hK hH 0 2 rfl rfl inX1 (by decide) tw_87 rfl dX1_read_24 ?_
  refine lv_istore_n (lv' := [(2, .int (nI 0)), (1, .int (nI 0)), (0, .ref h0)]) C.x C.b dX1_read_27 rfl hl (by decide) rfl (fun ls hl => ?_)
  refine lv_aload_n C.x C.b dX1_read_28 rfl (lv_at hl 2 rfl) ?_
  refine lv_iload_n C.x C.b dX1_read_29 rfl (lv_at hl 1 rfl) ?_
  refine kV (As := [.int (nI 0)]) (isC := [0, 1, 2]) (isR := []) (wr := []) C hK hH (c_rit0 l htr D H.size h0 tx q_1 t n 0 0 0 false 0 none none hn (by omega) ht) ⟨rfl, rfl, rfl, rfl, by decide⟩ 0 rfl rfl tw_267 tw_269 ts_3 tw_2 kX1_readIfThere ⟨by decide +kernel, by decide +kernel, (by decide +kernel : (parseMethodDescriptor yX1_readIfThere.desc).map (fun d => d.parameters.length) = some 1)⟩ ⟨(Nat.le_of_ble_eq_true rfl), (Nat.le_of_ble_eq_true rfl)⟩ hl.1 (Nat.le_of_ble_eq_true rfl) dX1_read_30 ⟨(Nat.le_of_ble_eq_true rfl), (Nat.le_of_ble_eq_true rfl)⟩ (fun v9 w9 H locs hN hH => ?_) (fun _ _ _ _ _ _ h => False.elim h)
  rcases hN with ⟨q_30, hq_30, kl_30, hm_30, rfl, rfl⟩ | ⟨a9_30, g1_30, g2_30, g3_30, hq_30, kl_30, rfl, rfl⟩
  · have hH : Hp D A s ([(h0, .inr (1, [.ref tx, .int (nI n), .int (nI q_30.1), .ref q_1])), (tx, .inl (D.1 10, 40, .inl (fun j => nI (t j)))), (q_1, .inr (0, [.int (nI 0), .int (nI q_30.2.1), .int (nI q_30.2.2.1), .int (nI (q_30.2.2.2.1.getD 0)), .int (nI q_30.2.2.2.2), .int (nI 0), .int (bI false), .int (nI 0), .int (oI none), .int (oI none)]))]) H locs := hH
    refine W.eq (g2 := F0 m 33 ls [.int (nI 1)]) rfl ?_
    refine vn_if_ne (tgt := 38) C.x C.b dX1_read_33 (by decide) (by omega) (fun _ => ?_) (fun q => absurd q (by decide))
    refine lv_aload_n C.x C.b dX1_read_38 rfl (lv_at hl 2 rfl) ?_
    refine gGet (v := .int (nI q_30.1)) C hK hH 0 2 rfl rfl inX1 (by decide) tw_87 rfl dX1_read_39 ?_
    refine lv_iload_n C.x C.b dX1_read_42 rfl (lv_at hl 0 rfl) ?_
    refine vn_icmp_le (tgt := 91) C.x C.b dX1_read_43 (by decide) (by omega) (by omega) (fun c_43 => ?_) (fun c_43 => ?_)
    · refine lv_iinc (v := (nI 1)) (lv' := [(1, .int (nI 1)), (2, .int (nI 0)), (0, .ref h0)]) C.x C.b dX1_read_91 hl (k := 1) rfl (by decide) (by decide) rfl (fun ls hl => ?_)
      refine lv_goto (tgt := 18) C.x C.b dX1_read_94 (by decide) ?_
      exact L1 q_30.1 0 q_30.2.1 q_30.2.2.1 (q_30.2.2.2.1.getD 0) q_30.2.2.2.2 (by omega) (by simp only [RDT, hq_30, if_neg (Nat.not_lt.mpr c_43)]) _ _ hH ls (lv_sub hl [0, 2] rfl)
    · refine lv_aload_n C.x C.b dX1_read_46 rfl (lv_at hl 2 rfl) ?_
      refine gGet (v := .ref q_1) C hK hH 0 3 rfl rfl inX1 (by decide) tw_89 rfl dX1_read_47 ?_
      refine lv_dup C.x C.b dX1_read_50 rfl ?_
      refine gGetN (v := .int (nI 0)) C hK hH 2 0 rfl rfl inX0 (by decide) (nwl_of tn_38 rfl) rfl dX1_read_51 ?_
      refine lv_iconst (v := nI 1) C.x C.b dX1_read_54 (by decide) ?_
      refine lv_iadd C.x C.b dX1_read_55 ?_
      refine vt_top (nI_add _ _) ?_
      refine gPutN (v := .int (nI (0 + 1))) (ws' := [(h0, .inr (1, [.ref tx, .int (nI n), .int (nI q_30.1), .ref q_1])), (tx, .inl (D.1 10, 40, .inl (fun j => nI (t j)))), (q_1, .inr (0, [.int (nI (0 + 1)), .int (nI q_30.2.1), .int (nI q_30.2.2.1), .int (nI (q_30.2.2.2.1.getD 0)), .int (nI q_30.2.2.2.2), .int (nI 0), .int (bI false), .int (nI 0), .int (oI none), .int (oI none)]))]) C hK hH 2 0 tyX0 tyX0_ok nmX0 rfl rfl inX0 (by decide) (nwl_of tn_38 rfl) rfl rfl rfl (Nat.le_of_ble_eq_true rfl) rfl dX1_read_56 (fun H locs hH => ?_)
      refine lv_aload_n C.x C.b dX1_read_59 rfl (lv_at hl 2 rfl) ?_
      refine gGet (v := .int (nI q_30.1)) C hK hH 0 2 rfl rfl inX1 (by decide) tw_87 rfl dX1_read_60 ?_
      refine lv_aload_n C.x C.b dX1_read_63 rfl (lv_at hl 2 rfl) ?_
      refine gGet (v := .int (nI n)) C hK hH 0 1 rfl rfl inX1 (by decide) tw_85 rfl dX1_read_64 ?_
      refine vn_icmp_ne (tgt := 75) C.x C.b dX1_read_67 (by decide) (by omega) (by omega) (fun c_67 => ?_) (fun c_67 => ?_)
      · refine lv_iload_n C.x C.b dX1_read_75 rfl (lv_at hl 1 rfl) ?_
        refine lv_iconst (v := nI 3) C.x C.b dX1_read_76 (by decide) ?_
        refine vn_icmp_eq (tgt := 89) C.x C.b dX1_read_77 (by decide) (by omega) (by omega) (fun q => absurd q (by decide)) (fun _ => ?_)
        refine lv_aload_n C.x C.b dX1_read_80 rfl (lv_at hl 2 rfl) ?_
        refine lv_bipush (v := nI 59) C.x C.b dX1_read_81 (by decide) ?_
        refine kV (As := [.int (nI 59)]) (isC := [0, 1, 2]) (isR := []) (wr := []) C hK hH (c_take l htr D H.size h0 tx q_1 t n q_30.1 (0 + 1) q_30.2.1 q_30.2.2.1 (q_30.2.2.2.1.getD 0) q_30.2.2.2.2 0 false 0 none none 59 hn (by omega) ht (by omega)) ⟨rfl, rfl, rfl, rfl, by decide⟩ 0 rfl rfl tw_370 tw_372 ts_7 tw_2 kX1_take ⟨by decide +kernel, by decide +kernel, (by decide +kernel : (parseMethodDescriptor yX1_take.desc).map (fun d => d.parameters.length) = some 1)⟩ ⟨(Nat.le_of_ble_eq_true rfl), (Nat.le_of_ble_eq_true rfl)⟩ hl.1 (Nat.le_of_ble_eq_true rfl) dX1_read_83 ⟨(Nat.le_of_ble_eq_true rfl), (Nat.le_of_ble_eq_true rfl)⟩ (fun v9 w9 H locs hN hH => ?_) (fun _ _ _ _ _ _ h => False.elim h)
        rcases hN with ⟨k_83, kl_83, rfl, rfl⟩ | ⟨k_83, rfl, rfl⟩
        · have hH : Hp D A s ([(h0, .inr (1, [.ref tx, .int (nI n), .int (nI (q_30.1 + 1)), .ref q_1])), (tx, .inl (D.1 10, 40, .inl (fun j => nI (t j)))), (q_1, .inr (0, [.int (nI (0 + 1)), .int (nI q_30.2.1), .int (nI q_30.2.2.1), .int (nI (q_30.2.2.2.1.getD 0)), .int (nI q_30.2.2.2.2), .int (nI 0), .int (bI false), .int (nI 0), .int (oI none), .int (oI none)]))]) H locs := hH
          refine W.eq (g2 := F0 m 86 ls [.int (nI 1)]) rfl ?_
          refine vn_if_ne (tgt := 91) C.x C.b dX1_read_86 (by decide) (by omega) (fun _ => ?_) (fun q => absurd q (by decide))
          refine lv_iinc (v := (nI 1)) (lv' := [(1, .int (nI 1)), (2, .int (nI 0)), (0, .ref h0)]) C.x C.b dX1_read_91 hl (k := 1) rfl (by decide) (by decide) rfl (fun ls hl => ?_)
          refine lv_goto (tgt := 18) C.x C.b dX1_read_94 (by decide) ?_
          exact L1 (q_30.1 + 1) (0 + 1) q_30.2.1 q_30.2.2.1 (q_30.2.2.2.1.getD 0) q_30.2.2.2.2 (by omega) (by simp only [RDT, hq_30, if_pos c_43, if_neg c_67, k_83, cond_true]) _ _ hH ls (lv_sub hl [0, 2] rfl)
        · have hH : Hp D A s ([(h0, .inr (1, [.ref tx, .int (nI n), .int (nI q_30.1), .ref q_1])), (tx, .inl (D.1 10, 40, .inl (fun j => nI (t j)))), (q_1, .inr (0, [.int (nI (0 + 1)), .int (nI q_30.2.1), .int (nI q_30.2.2.1), .int (nI (q_30.2.2.2.1.getD 0)), .int (nI q_30.2.2.2.2), .int (nI 0), .int (bI false), .int (nI 0), .int (oI none), .int (oI none)]))]) H locs := hH
          refine W.eq (g2 := F0 m 86 ls [.int (nI 0)]) rfl ?_
          refine vn_if_ne (tgt := 91) C.x C.b dX1_read_86 (by decide) (by omega) (fun q => absurd q (by decide)) (fun _ => ?_)
          refine lv_null C.x C.b dX1_read_89 ?_
          exact rA (r := none) C hr (Or.inl ⟨_, rfl⟩) hH (Or.inr ⟨q_1, q_30.1, 0 + 1, q_30.2.1, q_30.2.2.1, q_30.2.2.2.1.getD 0, q_30.2.2.2.2, 0, false, 0, none, none, by simp only [RDT, hq_30, if_pos c_43, if_neg c_67, k_83, cond_false], by omega, rfl, rfl⟩) (Nat.le_of_ble_eq_true rfl) (Nat.le_of_ble_eq_true rfl) dX1_read_90
      · refine lv_aload_n C.x C.b dX1_read_70 rfl (lv_at hl 2 rfl) ?_
        refine gGet (v := .ref q_1) C hK hH 0 3 rfl rfl inX1 (by decide) tw_89 rfl dX1_read_71 ?_
        exact rA (r := some q_1) C hr (Or.inl ⟨_, rfl⟩) hH (Or.inl ⟨q_1, q_30.1, 0 + 1, q_30.2.1, q_30.2.2.1, q_30.2.2.2.1.getD 0, q_30.2.2.2.2, 0, false, 0, none, none, by simp only [RDT, hq_30, if_pos c_43, if_pos c_67], rfl, rfl⟩) (Nat.le_of_ble_eq_true rfl) (Nat.le_of_ble_eq_true rfl) dX1_read_74
  · have hH : Hp D A s ([(h0, .inr (1, [.ref tx, .int (nI n), .int (nI a9_30), .ref q_1])), (tx, .inl (D.1 10, 40, .inl (fun j => nI (t j)))), (q_1, .inr (0, [.int (nI 0), .int (nI g1_30), .int (nI g2_30), .int (nI g3_30), .int (nI 0), .int (nI 0), .int (bI false), .int (nI 0), .int (oI none), .int (oI none)]))]) H locs := hH
    refine W.eq (g2 := F0 m 33 ls [.int (nI 0)]) rfl ?_
    refine vn_if_ne (tgt := 38) C.x C.b dX1_read_33 (by decide) (by omega) (fun q => absurd q (by decide)) (fun _ => ?_)
    refine lv_null C.x C.b dX1_read_36 ?_
    exact rA (r := none) C hr (Or.inl ⟨_, rfl⟩) hH (Or.inr ⟨q_1, a9_30, 0, g1_30, g2_30, g3_30, 0, 0, false, 0, none, none, by simp only [RDT, hq_30], by omega, rfl, rfl⟩) (Nat.le_of_ble_eq_true rfl) (Nat.le_of_ble_eq_true rfl) dX1_read_37
