set_option maxHeartbeats 4000000 in
set_option maxRecDepth 100000 in
theorem c_isOutside (l : Launch) (htr : l.stackTraces = false) (D : va_G) (sz : Nat) (i : Int32) (b : Nat) (hb : b < 2 ^ 31) : Ct l yX2_isOutside wX2_isOutside { frames := 0, cells := 0, slots := 0, locals := 0 } D ([]) [.int i, .int (nI b)] sz (fun v w => ((∃ k, k < b ∧ i = nI k) ∧ v = some (.int (nI 0)) ∧ w = []) ∨ ((∀ k, k < b → i ≠ nI k) ∧ v = some (.int (nI 1)) ∧ w = [])) (nox) := by
  refine Ct.of (cc := cX2_isOutside) (nL := 2) (ret := (some .boolean)) (own := RX2) htr (by decide) rfl (Nat.le_of_ble_eq_true rfl) ?_
  intro p e s m args below meth c A C hr hK H locs hH ls hl
  have hl : lv_has ls 2 [(0, .int i), (1, .int (nI b))] := hl
  refine lv_iload_n C.x C.b dX2_isOutside_0 rfl (lv_at hl 0 rfl) ?_
  refine lv_if_lt (tgt := 9) C.x C.b dX2_isOutside_1 (by decide) (fun c_1 => ?_) (fun c_1 => ?_)
  · refine lv_iconst (v := nI 1) C.x C.b dX2_isOutside_9 (by decide) ?_
    refine lv_goto (tgt := 14) C.x C.b dX2_isOutside_10 (by decide) ?_
    exact rZ C hr (by decide) hH (Or.inr ⟨by first | exact rg_neg hb c_1 | exact rg_big hb c_6, rfl, rfl⟩) (Nat.le_of_ble_eq_true rfl) (Nat.le_of_ble_eq_true rfl) dX2_isOutside_14
  · refine lv_iload_n C.x C.b dX2_isOutside_4 rfl (lv_at hl 0 rfl) ?_
    refine lv_iload_n C.x C.b dX2_isOutside_5 rfl (lv_at hl 1 rfl) ?_
    refine lv_icmp_lt (tgt := 13) C.x C.b dX2_isOutside_6 (by decide) (fun c_6 => ?_) (fun c_6 => ?_)
    · refine lv_iconst (v := nI 0) C.x C.b dX2_isOutside_13 (by decide) ?_
      exact rZ C hr (by decide) hH (Or.inl ⟨rg_in hb c_1 c_6, rfl, rfl⟩) (Nat.le_of_ble_eq_true rfl) (Nat.le_of_ble_eq_true rfl) dX2_isOutside_14
    · refine lv_iconst (v := nI 1) C.x C.b dX2_isOutside_9 (by decide) ?_
      refine lv_goto (tgt := 14) C.x C.b dX2_isOutside_10 (by decide) ?_
      exact rZ C hr (by decide) hH (Or.inr ⟨by first | exact rg_neg hb c_1 | exact rg_big hb c_6, rfl, rfl⟩) (Nat.le_of_ble_eq_true rfl) (Nat.le_of_ble_eq_true rfl) dX2_isOutside_14
set_option maxHeartbeats 4000000 in
set_option maxRecDepth 100000 in
theorem c_refuse (l : Launch) (htr : l.stackTraces = false) (D : va_G) (sz : Nat) (i : Int32) (b : Nat) (hb : b < 2 ^ 31) : Ct l yX2_refuseOutside wX2_refuseOutside { frames := 6, cells := 1, slots := 6, locals := 81 } D ([]) [.int i, .int (nI b)] sz (fun v w => (∃ k, k < b ∧ i = nI k) ∧ v = none ∧ w = []) (fun E w => (∀ k, k < b → i ≠ nI k) ∧ E = eIA ∧ w = []) := by
  refine Ct.of (cc := cX2_refuseOutside) (nL := 2) (ret := none) (own := RX2) htr (by decide) rfl (Nat.le_of_ble_eq_true rfl) ?_
  intro p e s m args below meth c A C hr hK H locs hH ls hl
  have hl : lv_has ls 2 [(0, .int i), (1, .int (nI b))] := hl
  refine lv_iload_n C.x C.b dX2_refuseOutside_0 rfl (lv_at hl 0 rfl) ?_
  refine lv_iload_n C.x C.b dX2_refuseOutside_1 rfl (lv_at hl 1 rfl) ?_
  refine kS (As := [.int i, .int (nI b)]) (isC := []) (isR := []) (wr := []) C hK hH (c_isOutside l htr D H.size i b (by omega)) ⟨rfl, rfl, rfl, rfl, by decide⟩ tw_260 tw_261 tw_1 kX2_isOutside ⟨by decide +kernel, by decide +kernel, (by decide +kernel : (parseMethodDescriptor yX2_isOutside.desc).map (fun d => d.parameters.length) = some 2)⟩ ⟨(Nat.le_of_ble_eq_true rfl), (Nat.le_of_ble_eq_true rfl)⟩ hl.1 (Nat.le_of_ble_eq_true rfl) dX2_refuseOutside_2 ⟨(Nat.le_of_ble_eq_true rfl), (Nat.le_of_ble_eq_true rfl)⟩ (fun v9 w9 H locs hN hH => ?_) (fun _ _ _ _ _ _ h => False.elim h)
  rcases hN with ⟨ho_2, rfl, rfl⟩ | ⟨ho_2, rfl, rfl⟩
  · have hH : Hp D A s ([]) H locs := hH
    refine W.eq (g2 := F0 m 5 ls [.int (nI 0)]) rfl ?_
    refine vn_if_eq (tgt := 16) C.x C.b dX2_refuseOutside_5 (by decide) (by omega) (fun _ => ?_) (fun q => absurd q (by decide))
    exact rV C hr hH (⟨ho_2, rfl, rfl⟩) (Nat.le_of_ble_eq_true rfl) (Nat.le_of_ble_eq_true rfl) dX2_refuseOutside_16
  · have hH : Hp D A s ([]) H locs := hH
    refine W.eq (g2 := F0 m 5 ls [.int (nI 1)]) rfl ?_
    refine vn_if_eq (tgt := 16) C.x C.b dX2_refuseOutside_5 (by decide) (by omega) (fun q => absurd q (by decide)) (fun _ => ?_)
    exact tIA C hH hl.1 dX2_refuseOutside_8 dX2_refuseOutside_11 dX2_refuseOutside_12 dX2_refuseOutside_15 (Nat.le_of_ble_eq_true rfl) (Nat.le_of_ble_eq_true rfl) (Nat.le_of_ble_eq_true rfl) (Nat.le_of_ble_eq_true rfl) (⟨ho_2, rfl, rfl⟩) (Nat.le_of_ble_eq_true rfl) (Nat.le_of_ble_eq_true rfl)
set_option maxHeartbeats 4000000 in
set_option maxRecDepth 100000 in
theorem c_begin (l : Launch) (htr : l.stackTraces = false) (D : va_G) (sz : Nat) (x rd st rg ce byt : Nat) (wp : Int32) (wt ah : Nat) (wc : Bool) (cw : Int32) (bc : Bool) (cb cy wr ww br : Int32) (i : Int32)  : Ct l yX2_begin wX2_begin { frames := 7, cells := 1, slots := 6, locals := 102 } D ([(x, .inr (2, [.ref rd, .int wp, .ref st, .int (nI wt), .int (nI ah), .ref rg, .ref ce, .ref byt, .int (bI wc), .int cw, .int (bI bc), .int cb, .int cy, .int wr, .int ww, .int br]))]) [.ref x, .int i] sz (fun v w => ∃ k, k < 64 ∧ i = nI k ∧ v = none ∧ w = [(x, .inr (2, [.ref rd, .int wp, .ref st, .int (nI wt), .int (nI k), .ref rg, .ref ce, .ref byt, .int (bI false), .int cw, .int (bI false), .int cb, .int cy, .int wr, .int ww, .int br]))]) (fun E w => (∀ k, k < 64 → i ≠ nI k) ∧ E = eIA ∧ w = [(x, .inr (2, [.ref rd, .int wp, .ref st, .int (nI wt), .int (nI ah), .ref rg, .ref ce, .ref byt, .int (bI wc), .int cw, .int (bI bc), .int cb, .int cy, .int wr, .int ww, .int br]))]) := by
  refine Ct.of (cc := cX2_begin) (nL := 2) (ret := none) (own := RX2) htr (by decide) rfl (Nat.le_of_ble_eq_true rfl) ?_
  intro p e s m args below meth c A C hr hK H locs hH ls hl
  have hl : lv_has ls 2 [(0, .ref x), (1, .int i)] := hl
  refine lv_iload_n C.x C.b dX2_begin_0 rfl (lv_at hl 1 rfl) ?_
  refine lv_bipush (v := nI 64) C.x C.b dX2_begin_1 (by decide) ?_
  refine kS (As := [.int i, .int (nI 64)]) (isC := []) (isR := [0]) (wr := [(x, .inr (2, [.ref rd, .int wp, .ref st, .int (nI wt), .int (nI ah), .ref rg, .ref ce, .ref byt, .int (bI wc), .int cw, .int (bI bc), .int cb, .int cy, .int wr, .int ww, .int br]))]) C hK hH (c_refuse l htr D H.size i 64 (by omega)) ⟨rfl, rfl, rfl, rfl, by decide⟩ tw_257 tw_258 tw_1 kX2_refuseOutside ⟨by decide +kernel, by decide +kernel, (by decide +kernel : (parseMethodDescriptor yX2_refuseOutside.desc).map (fun d => d.parameters.length) = some 2)⟩ ⟨(Nat.le_of_ble_eq_true rfl), (Nat.le_of_ble_eq_true rfl)⟩ hl.1 (Nat.le_of_ble_eq_true rfl) dX2_begin_3 ⟨(Nat.le_of_ble_eq_true rfl), (Nat.le_of_ble_eq_true rfl)⟩ (fun v9 w9 H locs hN hH => ?_) (fun E9 q9 ce9 w9 H locs hX hH hce hcv hcl => ?_)
  · obtain ⟨⟨k_3, hk_3, rfl⟩, rfl, rfl⟩ := hN
    have hH : Hp D A s ([(x, .inr (2, [.ref rd, .int wp, .ref st, .int (nI wt), .int (nI ah), .ref rg, .ref ce, .ref byt, .int (bI wc), .int cw, .int (bI bc), .int cb, .int cy, .int wr, .int ww, .int br]))]) H locs := hH
    refine W.eq (g2 := F0 m 6 ls []) rfl ?_
    refine lv_aload_n C.x C.b dX2_begin_6 rfl (lv_at hl 0 rfl) ?_
    refine lv_iload_n C.x C.b dX2_begin_7 rfl (lv_at hl 1 rfl) ?_
    refine gPut (v := .int (nI k_3)) (ws' := [(x, .inr (2, [.ref rd, .int wp, .ref st, .int (nI wt), .int (nI k_3), .ref rg, .ref ce, .ref byt, .int (bI wc), .int cw, .int (bI bc), .int cb, .int cy, .int wr, .int ww, .int br]))]) C hK hH 0 4 tyX2 tyX2_ok nmX2 rfl rfl inX2 (by decide) tw_105 rfl rfl rfl (Nat.le_of_ble_eq_true rfl) rfl dX2_begin_8 (fun H locs hH => ?_)
    refine lv_aload_n C.x C.b dX2_begin_11 rfl (lv_at hl 0 rfl) ?_
    refine lv_iconst (v := nI 0) C.x C.b dX2_begin_12 (by decide) ?_
    refine gPut (v := .int (nI 0)) (ws' := [(x, .inr (2, [.ref rd, .int wp, .ref st, .int (nI wt), .int (nI k_3), .ref rg, .ref ce, .ref byt, .int (nI 0), .int cw, .int (bI bc), .int cb, .int cy, .int wr, .int ww, .int br]))]) C hK hH 0 8 tyX2 tyX2_ok nmX2 rfl rfl inX2 (by decide) tw_109 rfl (by decide) (by decide) (Nat.le_of_ble_eq_true rfl) rfl dX2_begin_13 (fun H locs hH => ?_)
    refine lv_aload_n C.x C.b dX2_begin_16 rfl (lv_at hl 0 rfl) ?_
    refine lv_iconst (v := nI 0) C.x C.b dX2_begin_17 (by decide) ?_
    refine gPut (v := .int (nI 0)) (ws' := [(x, .inr (2, [.ref rd, .int wp, .ref st, .int (nI wt), .int (nI k_3), .ref rg, .ref ce, .ref byt, .int (nI 0), .int cw, .int (nI 0), .int cb, .int cy, .int wr, .int ww, .int br]))]) C hK hH 0 10 tyX2 tyX2_ok nmX2 rfl rfl inX2 (by decide) tw_111 rfl (by decide) (by decide) (Nat.le_of_ble_eq_true rfl) rfl dX2_begin_18 (fun H locs hH => ?_)
    exact rV C hr hH (⟨k_3, hk_3, rfl, rfl, rfl⟩) (Nat.le_of_ble_eq_true rfl) (Nat.le_of_ble_eq_true rfl) dX2_begin_21
  · obtain ⟨hno_3, rfl, rfl⟩ := hX
    have hH : Hp D A s ([(x, .inr (2, [.ref rd, .int wp, .ref st, .int (nI wt), .int (nI ah), .ref rg, .ref ce, .ref byt, .int (bI wc), .int cw, .int (bI bc), .int cb, .int cy, .int wr, .int ww, .int br]))]) H locs := hH
    exact kOut C hH (⟨hno_3, rfl, rfl⟩) hce hcv hcl (Nat.le_of_ble_eq_true rfl) (Nat.le_of_ble_eq_true rfl)
set_option maxHeartbeats 4000000 in
set_option maxRecDepth 100000 in
theorem c_register (l : Launch) (htr : l.stackTraces = false) (D : va_G) (sz : Nat) (x rd st rg ce byt : Nat) (wp : Int32) (wt ah : Nat) (wc : Bool) (cw : Int32) (bc : Bool) (cb cy wr ww br : Int32) (r : Nat → Int32) (i : Int32)  : Ct l yX2_register wX2_register { frames := 7, cells := 1, slots := 6, locals := 102 } D ([(x, .inr (2, [.ref rd, .int wp, .ref st, .int (nI wt), .int (nI ah), .ref rg, .ref ce, .ref byt, .int (bI wc), .int cw, .int (bI bc), .int cb, .int cy, .int wr, .int ww, .int br])), (rg, .inl (D.1 11, 10, .inl r))]) [.ref x, .int i] sz (fun v w => ∃ k, k < 10 ∧ i = nI k ∧ v = some (.int (r k)) ∧ w = [(x, .inr (2, [.ref rd, .int wp, .ref st, .int (nI wt), .int (nI ah), .ref rg, .ref ce, .ref byt, .int (bI wc), .int cw, .int (bI bc), .int cb, .int cy, .int wr, .int ww, .int br])), (rg, .inl (D.1 11, 10, .inl r))]) (fun E w => (∀ k, k < 10 → i ≠ nI k) ∧ E = eIA ∧ w = [(x, .inr (2, [.ref rd, .int wp, .ref st, .int (nI wt), .int (nI ah), .ref rg, .ref ce, .ref byt, .int (bI wc), .int cw, .int (bI bc), .int cb, .int cy, .int wr, .int ww, .int br])), (rg, .inl (D.1 11, 10, .inl r))]) := by
  refine Ct.of (cc := cX2_register) (nL := 2) (ret := (some .int)) (own := RX2) htr (by decide) rfl (Nat.le_of_ble_eq_true rfl) ?_
  intro p e s m args below meth c A C hr hK H locs hH ls hl
  have hl : lv_has ls 2 [(0, .ref x), (1, .int i)] := hl
  refine lv_iload_n C.x C.b dX2_register_0 rfl (lv_at hl 1 rfl) ?_
  refine lv_bipush (v := nI 10) C.x C.b dX2_register_1 (by decide) ?_
  refine kS (As := [.int i, .int (nI 10)]) (isC := []) (isR := [0, 1]) (wr := [(x, .inr (2, [.ref rd, .int wp, .ref st, .int (nI wt), .int (nI ah), .ref rg, .ref ce, .ref byt, .int (bI wc), .int cw, .int (bI bc), .int cb, .int cy, .int wr, .int ww, .int br])), (rg, .inl (D.1 11, 10, .inl r))]) C hK hH (c_refuse l htr D H.size i 10 (by omega)) ⟨rfl, rfl, rfl, rfl, by decide⟩ tw_257 tw_258 tw_1 kX2_refuseOutside ⟨by decide +kernel, by decide +kernel, (by decide +kernel : (parseMethodDescriptor yX2_refuseOutside.desc).map (fun d => d.parameters.length) = some 2)⟩ ⟨(Nat.le_of_ble_eq_true rfl), (Nat.le_of_ble_eq_true rfl)⟩ hl.1 (Nat.le_of_ble_eq_true rfl) dX2_register_3 ⟨(Nat.le_of_ble_eq_true rfl), (Nat.le_of_ble_eq_true rfl)⟩ (fun v9 w9 H locs hN hH => ?_) (fun E9 q9 ce9 w9 H locs hX hH hce hcv hcl => ?_)
  · obtain ⟨⟨k_3, hk_3, rfl⟩, rfl, rfl⟩ := hN
    have hH : Hp D A s ([(x, .inr (2, [.ref rd, .int wp, .ref st, .int (nI wt), .int (nI ah), .ref rg, .ref ce, .ref byt, .int (bI wc), .int cw, .int (bI bc), .int cb, .int cy, .int wr, .int ww, .int br])), (rg, .inl (D.1 11, 10, .inl r))]) H locs := hH
    refine W.eq (g2 := F0 m 6 ls []) rfl ?_
    refine lv_aload_n C.x C.b dX2_register_6 rfl (lv_at hl 0 rfl) ?_
    refine gGet (v := .ref rg) C hK hH 0 5 rfl rfl inX2 (by decide) tw_106 rfl dX2_register_7 ?_
    refine lv_iload_n C.x C.b dX2_register_10 rfl (lv_at hl 1 rfl) ?_
    refine gIald (v := (r k_3)) C hK hH 1 rfl (by omega) (by decide) dX2_register_11 rfl ?_
    exact rI C hr hH (⟨k_3, hk_3, rfl, rfl, rfl⟩) (Nat.le_of_ble_eq_true rfl) (Nat.le_of_ble_eq_true rfl) dX2_register_12
  · obtain ⟨hno_3, rfl, rfl⟩ := hX
    have hH : Hp D A s ([(x, .inr (2, [.ref rd, .int wp, .ref st, .int (nI wt), .int (nI ah), .ref rg, .ref ce, .ref byt, .int (bI wc), .int cw, .int (bI bc), .int cb, .int cy, .int wr, .int ww, .int br])), (rg, .inl (D.1 11, 10, .inl r))]) H locs := hH
    exact kOut C hH (⟨hno_3, rfl, rfl⟩) hce hcv hcl (Nat.le_of_ble_eq_true rfl) (Nat.le_of_ble_eq_true rfl)
set_option maxHeartbeats 4000000 in
set_option maxRecDepth 100000 in
theorem c_memory (l : Launch) (htr : l.stackTraces = false) (D : va_G) (sz : Nat) (x rd st rg ce byt : Nat) (wp : Int32) (wt ah : Nat) (wc : Bool) (cw : Int32) (bc : Bool) (cb cy wr ww br : Int32) (mm : Nat → Int32) (i : Int32)  : Ct l yX2_memory wX2_memory { frames := 7, cells := 1, slots := 6, locals := 102 } D ([(x, .inr (2, [.ref rd, .int wp, .ref st, .int (nI wt), .int (nI ah), .ref rg, .ref ce, .ref byt, .int (bI wc), .int cw, .int (bI bc), .int cb, .int cy, .int wr, .int ww, .int br])), (ce, .inl (D.1 11, 64, .inl mm))]) [.ref x, .int i] sz (fun v w => ∃ k, k < 64 ∧ i = nI k ∧ v = some (.int (mm k)) ∧ w = [(x, .inr (2, [.ref rd, .int wp, .ref st, .int (nI wt), .int (nI ah), .ref rg, .ref ce, .ref byt, .int (bI wc), .int cw, .int (bI bc), .int cb, .int cy, .int wr, .int ww, .int br])), (ce, .inl (D.1 11, 64, .inl mm))]) (fun E w => (∀ k, k < 64 → i ≠ nI k) ∧ E = eIA ∧ w = [(x, .inr (2, [.ref rd, .int wp, .ref st, .int (nI wt), .int (nI ah), .ref rg, .ref ce, .ref byt, .int (bI wc), .int cw, .int (bI bc), .int cb, .int cy, .int wr, .int ww, .int br])), (ce, .inl (D.1 11, 64, .inl mm))]) := by
  refine Ct.of (cc := cX2_memory) (nL := 2) (ret := (some .int)) (own := RX2) htr (by decide) rfl (Nat.le_of_ble_eq_true rfl) ?_
  intro p e s m args below meth c A C hr hK H locs hH ls hl
  have hl : lv_has ls 2 [(0, .ref x), (1, .int i)] := hl
  refine lv_iload_n C.x C.b dX2_memory_0 rfl (lv_at hl 1 rfl) ?_
  refine lv_bipush (v := nI 64) C.x C.b dX2_memory_1 (by decide) ?_
  refine kS (As := [.int i, .int (nI 64)]) (isC := []) (isR := [0, 1]) (wr := [(x, .inr (2, [.ref rd, .int wp, .ref st, .int (nI wt), .int (nI ah), .ref rg, .ref ce, .ref byt, .int (bI wc), .int cw, .int (bI bc), .int cb, .int cy, .int wr, .int ww, .int br])), (ce, .inl (D.1 11, 64, .inl mm))]) C hK hH (c_refuse l htr D H.size i 64 (by omega)) ⟨rfl, rfl, rfl, rfl, by decide⟩ tw_257 tw_258 tw_1 kX2_refuseOutside ⟨by decide +kernel, by decide +kernel, (by decide +kernel : (parseMethodDescriptor yX2_refuseOutside.desc).map (fun d => d.parameters.length) = some 2)⟩ ⟨(Nat.le_of_ble_eq_true rfl), (Nat.le_of_ble_eq_true rfl)⟩ hl.1 (Nat.le_of_ble_eq_true rfl) dX2_memory_3 ⟨(Nat.le_of_ble_eq_true rfl), (Nat.le_of_ble_eq_true rfl)⟩ (fun v9 w9 H locs hN hH => ?_) (fun E9 q9 ce9 w9 H locs hX hH hce hcv hcl => ?_)
  · obtain ⟨⟨k_3, hk_3, rfl⟩, rfl, rfl⟩ := hN
    have hH : Hp D A s ([(x, .inr (2, [.ref rd, .int wp, .ref st, .int (nI wt), .int (nI ah), .ref rg, .ref ce, .ref byt, .int (bI wc), .int cw, .int (bI bc), .int cb, .int cy, .int wr, .int ww, .int br])), (ce, .inl (D.1 11, 64, .inl mm))]) H locs := hH
    refine W.eq (g2 := F0 m 6 ls []) rfl ?_
    refine lv_aload_n C.x C.b dX2_memory_6 rfl (lv_at hl 0 rfl) ?_
    refine gGet (v := .ref ce) C hK hH 0 6 rfl rfl inX2 (by decide) tw_107 rfl dX2_memory_7 ?_
    refine lv_iload_n C.x C.b dX2_memory_10 rfl (lv_at hl 1 rfl) ?_
    refine gIald (v := (mm k_3)) C hK hH 1 rfl (by omega) (by decide) dX2_memory_11 rfl ?_
    exact rI C hr hH (⟨k_3, hk_3, rfl, rfl, rfl⟩) (Nat.le_of_ble_eq_true rfl) (Nat.le_of_ble_eq_true rfl) dX2_memory_12
  · obtain ⟨hno_3, rfl, rfl⟩ := hX
    have hH : Hp D A s ([(x, .inr (2, [.ref rd, .int wp, .ref st, .int (nI wt), .int (nI ah), .ref rg, .ref ce, .ref byt, .int (bI wc), .int cw, .int (bI bc), .int cb, .int cy, .int wr, .int ww, .int br])), (ce, .inl (D.1 11, 64, .inl mm))]) H locs := hH
    exact kOut C hH (⟨hno_3, rfl, rfl⟩) hce hcv hcl (Nat.le_of_ble_eq_true rfl) (Nat.le_of_ble_eq_true rfl)
set_option maxHeartbeats 4000000 in
set_option maxRecDepth 100000 in
theorem c_poke (l : Launch) (htr : l.stackTraces = false) (D : va_G) (sz : Nat) (x rd st rg ce byt : Nat) (wp : Int32) (wt ah : Nat) (wc : Bool) (cw : Int32) (bc : Bool) (cb cy wr ww br : Int32) (mm : Nat → Int32) (i z : Int32)  : Ct l yX2_poke wX2_poke { frames := 7, cells := 1, slots := 6, locals := 102 } D ([(x, .inr (2, [.ref rd, .int wp, .ref st, .int (nI wt), .int (nI ah), .ref rg, .ref ce, .ref byt, .int (bI wc), .int cw, .int (bI bc), .int cb, .int cy, .int wr, .int ww, .int br])), (ce, .inl (D.1 11, 64, .inl mm))]) [.ref x, .int i, .int z] sz (fun v w => ∃ k, k < 64 ∧ i = nI k ∧ v = none ∧ w = [(x, .inr (2, [.ref rd, .int wp, .ref st, .int (nI wt), .int (nI ah), .ref rg, .ref ce, .ref byt, .int (bI wc), .int cw, .int (bI bc), .int cb, .int cy, .int wr, .int ww, .int br])), (ce, .inl (D.1 11, 64, .inl (upd mm k z)))]) (fun E w => (∀ k, k < 64 → i ≠ nI k) ∧ E = eIA ∧ w = [(x, .inr (2, [.ref rd, .int wp, .ref st, .int (nI wt), .int (nI ah), .ref rg, .ref ce, .ref byt, .int (bI wc), .int cw, .int (bI bc), .int cb, .int cy, .int wr, .int ww, .int br])), (ce, .inl (D.1 11, 64, .inl mm))]) := by
  refine Ct.of (cc := cX2_poke) (nL := 3) (ret := none) (own := RX2) htr (by decide) rfl (Nat.le_of_ble_eq_true rfl) ?_
  intro p e s m args below meth c A C hr hK H locs hH ls hl
  have hl : lv_has ls 3 [(0, .ref x), (1, .int i), (2, .int z)] := hl
  refine lv_iload_n C.x C.b dX2_poke_0 rfl (lv_at hl 1 rfl) ?_
  refine lv_bipush (v := nI 64) C.x C.b dX2_poke_1 (by decide) ?_
  refine kS (As := [.int i, .int (nI 64)]) (isC := []) (isR := [0, 1]) (wr := [(x, .inr (2, [.ref rd, .int wp, .ref st, .int (nI wt), .int (nI ah), .ref rg, .ref ce, .ref byt, .int (bI wc), .int cw, .int (bI bc), .int cb, .int cy, .int wr, .int ww, .int br])), (ce, .inl (D.1 11, 64, .inl mm))]) C hK hH (c_refuse l htr D H.size i 64 (by omega)) ⟨rfl, rfl, rfl, rfl, by decide⟩ tw_257 tw_258 tw_1 kX2_refuseOutside ⟨by decide +kernel, by decide +kernel, (by decide +kernel : (parseMethodDescriptor yX2_refuseOutside.desc).map (fun d => d.parameters.length) = some 2)⟩ ⟨(Nat.le_of_ble_eq_true rfl), (Nat.le_of_ble_eq_true rfl)⟩ hl.1 (Nat.le_of_ble_eq_true rfl) dX2_poke_3 ⟨(Nat.le_of_ble_eq_true rfl), (Nat.le_of_ble_eq_true rfl)⟩ (fun v9 w9 H locs hN hH => ?_) (fun E9 q9 ce9 w9 H locs hX hH hce hcv hcl => ?_)
  · obtain ⟨⟨k_3, hk_3, rfl⟩, rfl, rfl⟩ := hN
    have hH : Hp D A s ([(x, .inr (2, [.ref rd, .int wp, .ref st, .int (nI wt), .int (nI ah), .ref rg, .ref ce, .ref byt, .int (bI wc), .int cw, .int (bI bc), .int cb, .int cy, .int wr, .int ww, .int br])), (ce, .inl (D.1 11, 64, .inl mm))]) H locs := hH
    refine W.eq (g2 := F0 m 6 ls []) rfl ?_
    refine lv_aload_n C.x C.b dX2_poke_6 rfl (lv_at hl 0 rfl) ?_
    refine gGet (v := .ref ce) C hK hH 0 6 rfl rfl inX2 (by decide) tw_107 rfl dX2_poke_7 ?_
    refine lv_iload_n C.x C.b dX2_poke_10 rfl (lv_at hl 1 rfl) ?_
    refine lv_iload_n C.x C.b dX2_poke_11 rfl (lv_at hl 2 rfl) ?_
    refine gIast (f' := upd mm k_3 z) (ws' := [(x, .inr (2, [.ref rd, .int wp, .ref st, .int (nI wt), .int (nI ah), .ref rg, .ref ce, .ref byt, .int (bI wc), .int cw, .int (bI bc), .int cb, .int cy, .int wr, .int ww, .int br])), (ce, .inl (D.1 11, 64, .inl (upd mm k_3 z)))]) C hK hH 1 rfl (by omega) (by decide) rfl rfl dX2_poke_12 (fun H locs hH => ?_)
    exact rV C hr hH (⟨k_3, hk_3, rfl, rfl, rfl⟩) (Nat.le_of_ble_eq_true rfl) (Nat.le_of_ble_eq_true rfl) dX2_poke_13
  · obtain ⟨hno_3, rfl, rfl⟩ := hX
    have hH : Hp D A s ([(x, .inr (2, [.ref rd, .int wp, .ref st, .int (nI wt), .int (nI ah), .ref rg, .ref ce, .ref byt, .int (bI wc), .int cw, .int (bI bc), .int cb, .int cy, .int wr, .int ww, .int br])), (ce, .inl (D.1 11, 64, .inl mm))]) H locs := hH
    exact kOut C hH (⟨hno_3, rfl, rfl⟩) hce hcv hcl (Nat.le_of_ble_eq_true rfl) (Nat.le_of_ble_eq_true rfl)
set_option maxHeartbeats 4000000 in
set_option maxRecDepth 100000 in
theorem c_code (l : Launch) (htr : l.stackTraces = false) (D : va_G) (sz : Nat) (x rd st rg ce byt : Nat) (wp : Int32) (wt ah : Nat) (wc : Bool) (cw : Int32) (bc : Bool) (cb cy wr ww br : Int32) (kb : Nat → Int32) (i z : Int32)  : Ct l yX2_code wX2_code { frames := 7, cells := 2, slots := 12, locals := 102 } D ([(x, .inr (2, [.ref rd, .int wp, .ref st, .int (nI wt), .int (nI ah), .ref rg, .ref ce, .ref byt, .int (bI wc), .int cw, .int (bI bc), .int cb, .int cy, .int wr, .int ww, .int br])), (byt, .inl (D.1 11, 64, .inl kb))]) [.ref x, .int i, .int z] sz (fun v w => ∃ k j, k < 64 ∧ i = nI k ∧ j < 256 ∧ z = nI j ∧ v = none ∧ w = [(x, .inr (2, [.ref rd, .int wp, .ref st, .int (nI wt), .int (nI ah), .ref rg, .ref ce, .ref byt, .int (bI wc), .int cw, .int (bI bc), .int cb, .int cy, .int wr, .int ww, .int br])), (byt, .inl (D.1 11, 64, .inl (upd kb k (nI j))))]) (fun E w => ((∀ k, k < 64 → i ≠ nI k) ∨ (∀ k, k < 256 → z ≠ nI k)) ∧ E = eIA ∧ w = [(x, .inr (2, [.ref rd, .int wp, .ref st, .int (nI wt), .int (nI ah), .ref rg, .ref ce, .ref byt, .int (bI wc), .int cw, .int (bI bc), .int cb, .int cy, .int wr, .int ww, .int br])), (byt, .inl (D.1 11, 64, .inl kb))]) := by
  refine Ct.of (cc := cX2_code) (nL := 3) (ret := none) (own := RX2) htr (by decide) rfl (Nat.le_of_ble_eq_true rfl) ?_
  intro p e s m args below meth c A C hr hK H locs hH ls hl
  have hl : lv_has ls 3 [(0, .ref x), (1, .int i), (2, .int z)] := hl
  refine lv_iload_n C.x C.b dX2_code_0 rfl (lv_at hl 1 rfl) ?_
  refine lv_bipush (v := nI 64) C.x C.b dX2_code_1 (by decide) ?_
  refine kS (As := [.int i, .int (nI 64)]) (isC := []) (isR := [0, 1]) (wr := [(x, .inr (2, [.ref rd, .int wp, .ref st, .int (nI wt), .int (nI ah), .ref rg, .ref ce, .ref byt, .int (bI wc), .int cw, .int (bI bc), .int cb, .int cy, .int wr, .int ww, .int br])), (byt, .inl (D.1 11, 64, .inl kb))]) C hK hH (c_refuse l htr D H.size i 64 (by omega)) ⟨rfl, rfl, rfl, rfl, by decide⟩ tw_257 tw_258 tw_1 kX2_refuseOutside ⟨by decide +kernel, by decide +kernel, (by decide +kernel : (parseMethodDescriptor yX2_refuseOutside.desc).map (fun d => d.parameters.length) = some 2)⟩ ⟨(Nat.le_of_ble_eq_true rfl), (Nat.le_of_ble_eq_true rfl)⟩ hl.1 (Nat.le_of_ble_eq_true rfl) dX2_code_3 ⟨(Nat.le_of_ble_eq_true rfl), (Nat.le_of_ble_eq_true rfl)⟩ (fun v9 w9 H locs hN hH => ?_) (fun E9 q9 ce9 w9 H locs hX hH hce hcv hcl => ?_)
  · obtain ⟨⟨k_3, hk_3, rfl⟩, rfl, rfl⟩ := hN
    have hH : Hp D A s ([(x, .inr (2, [.ref rd, .int wp, .ref st, .int (nI wt), .int (nI ah), .ref rg, .ref ce, .ref byt, .int (bI wc), .int cw, .int (bI bc), .int cb, .int cy, .int wr, .int ww, .int br])), (byt, .inl (D.1 11, 64, .inl kb))]) H locs := hH
    refine W.eq (g2 := F0 m 6 ls []) rfl ?_
    refine lv_iload_n C.x C.b dX2_code_6 rfl (lv_at hl 2 rfl) ?_
    refine lv_sipush (v := nI 256) C.x C.b dX2_code_7 (by decide) ?_
    refine kS (As := [.int z, .int (nI 256)]) (isC := []) (isR := [0, 1]) (wr := [(x, .inr (2, [.ref rd, .int wp, .ref st, .int (nI wt), .int (nI ah), .ref rg, .ref ce, .ref byt, .int (bI wc), .int cw, .int (bI bc), .int cb, .int cy, .int wr, .int ww, .int br])), (byt, .inl (D.1 11, 64, .inl kb))]) C hK hH (c_refuse l htr D H.size z 256 (by omega)) ⟨rfl, rfl, rfl, rfl, by decide⟩ tw_257 tw_258 tw_1 kX2_refuseOutside ⟨by decide +kernel, by decide +kernel, (by decide +kernel : (parseMethodDescriptor yX2_refuseOutside.desc).map (fun d => d.parameters.length) = some 2)⟩ ⟨(Nat.le_of_ble_eq_true rfl), (Nat.le_of_ble_eq_true rfl)⟩ hl.1 (Nat.le_of_ble_eq_true rfl) dX2_code_10 ⟨(Nat.le_of_ble_eq_true rfl), (Nat.le_of_ble_eq_true rfl)⟩ (fun v9 w9 H locs hN hH => ?_) (fun E9 q9 ce9 w9 H locs hX hH hce hcv hcl => ?_)
    · obtain ⟨⟨k_10, hk_10, rfl⟩, rfl, rfl⟩ := hN
      have hH : Hp D A s ([(x, .inr (2, [.ref rd, .int wp, .ref st, .int (nI wt), .int (nI ah), .ref rg, .ref ce, .ref byt, .int (bI wc), .int cw, .int (bI bc), .int cb, .int cy, .int wr, .int ww, .int br])), (byt, .inl (D.1 11, 64, .inl kb))]) H locs := hH
      refine W.eq (g2 := F0 m 13 ls []) rfl ?_
      refine lv_aload_n C.x C.b dX2_code_13 rfl (lv_at hl 0 rfl) ?_
      refine gGet (v := .ref byt) C hK hH 0 7 rfl rfl inX2 (by decide) tw_108 rfl dX2_code_14 ?_
      refine lv_iload_n C.x C.b dX2_code_17 rfl (lv_at hl 1 rfl) ?_
      refine lv_iload_n C.x C.b dX2_code_18 rfl (lv_at hl 2 rfl) ?_
      refine gIast (f' := upd kb k_3 (nI k_10)) (ws' := [(x, .inr (2, [.ref rd, .int wp, .ref st, .int (nI wt), .int (nI ah), .ref rg, .ref ce, .ref byt, .int (bI wc), .int cw, .int (bI bc), .int cb, .int cy, .int wr, .int ww, .int br])), (byt, .inl (D.1 11, 64, .inl (upd kb k_3 (nI k_10))))]) C hK hH 1 rfl (by omega) (by decide) rfl rfl dX2_code_19 (fun H locs hH => ?_)
      exact rV C hr hH (⟨k_3, k_10, hk_3, rfl, hk_10, rfl, rfl, rfl⟩) (Nat.le_of_ble_eq_true rfl) (Nat.le_of_ble_eq_true rfl) dX2_code_20
    · obtain ⟨hno_10, rfl, rfl⟩ := hX
      have hH : Hp D A s ([(x, .inr (2, [.ref rd, .int wp, .ref st, .int (nI wt), .int (nI ah), .ref rg, .ref ce, .ref byt, .int (bI wc), .int cw, .int (bI bc), .int cb, .int cy, .int wr, .int ww, .int br])), (byt, .inl (D.1 11, 64, .inl kb))]) H locs := hH
      exact kOut C hH (⟨Or.inr hno_10, rfl, rfl⟩) hce hcv hcl (Nat.le_of_ble_eq_true rfl) (Nat.le_of_ble_eq_true rfl)
  · obtain ⟨hno_3, rfl, rfl⟩ := hX
    have hH : Hp D A s ([(x, .inr (2, [.ref rd, .int wp, .ref st, .int (nI wt), .int (nI ah), .ref rg, .ref ce, .ref byt, .int (bI wc), .int cw, .int (bI bc), .int cb, .int cy, .int wr, .int ww, .int br])), (byt, .inl (D.1 11, 64, .inl kb))]) H locs := hH
    exact kOut C hH (⟨Or.inl hno_3, rfl, rfl⟩) hce hcv hcl (Nat.le_of_ble_eq_true rfl) (Nat.le_of_ble_eq_true rfl)
set_option maxHeartbeats 4000000 in
set_option maxRecDepth 100000 in
theorem c_set (l : Launch) (htr : l.stackTraces = false) (D : va_G) (sz : Nat) (x rd st rg ce byt : Nat) (wp : Int32) (wt ah : Nat) (wc : Bool) (cw : Int32) (bc : Bool) (cb cy wr ww br : Int32) (r : Nat → Int32) (i z : Int32)  : Ct l yX2_set wX2_set { frames := 7, cells := 2, slots := 12, locals := 102 } D ([(x, .inr (2, [.ref rd, .int wp, .ref st, .int (nI wt), .int (nI ah), .ref rg, .ref ce, .ref byt, .int (bI wc), .int cw, .int (bI bc), .int cb, .int cy, .int wr, .int ww, .int br])), (rg, .inl (D.1 11, 10, .inl r))]) [.ref x, .int i, .int z] sz (fun v w => ∃ k, k < 10 ∧ i = nI k ∧ (k = 9 → ∃ j, j < 256 ∧ z = nI j) ∧ v = none ∧ w = [(x, .inr (2, [.ref rd, .int wp, .ref st, .int (nI wt), .int (nI ah), .ref rg, .ref ce, .ref byt, .int (bI wc), .int cw, .int (bI bc), .int cb, .int cy, .int wr, .int ww, .int br])), (rg, .inl (D.1 11, 10, .inl (upd r k z)))]) (fun E w => ((∀ k, k < 10 → i ≠ nI k) ∨ (i = nI 9 ∧ (∀ k, k < 256 → z ≠ nI k))) ∧ E = eIA ∧ w = [(x, .inr (2, [.ref rd, .int wp, .ref st, .int (nI wt), .int (nI ah), .ref rg, .ref ce, .ref byt, .int (bI wc), .int cw, .int (bI bc), .int cb, .int cy, .int wr, .int ww, .int br])), (rg, .inl (D.1 11, 10, .inl r))]) := by
  refine Ct.of (cc := cX2_set) (nL := 3) (ret := none) (own := RX2) htr (by decide) rfl (Nat.le_of_ble_eq_true rfl) ?_
  intro p e s m args below meth c A C hr hK H locs hH ls hl
  have hl : lv_has ls 3 [(0, .ref x), (1, .int i), (2, .int z)] := hl
  refine lv_iload_n C.x C.b dX2_set_0 rfl (lv_at hl 1 rfl) ?_
  refine lv_bipush (v := nI 10) C.x C.b dX2_set_1 (by decide) ?_
  refine kS (As := [.int i, .int (nI 10)]) (isC := []) (isR := [0, 1]) (wr := [(x, .inr (2, [.ref rd, .int wp, .ref st, .int (nI wt), .int (nI ah), .ref rg, .ref ce, .ref byt, .int (bI wc), .int cw, .int (bI bc), .int cb, .int cy, .int wr, .int ww, .int br])), (rg, .inl (D.1 11, 10, .inl r))]) C hK hH (c_refuse l htr D H.size i 10 (by omega)) ⟨rfl, rfl, rfl, rfl, by decide⟩ tw_257 tw_258 tw_1 kX2_refuseOutside ⟨by decide +kernel, by decide +kernel, (by decide +kernel : (parseMethodDescriptor yX2_refuseOutside.desc).map (fun d => d.parameters.length) = some 2)⟩ ⟨(Nat.le_of_ble_eq_true rfl), (Nat.le_of_ble_eq_true rfl)⟩ hl.1 (Nat.le_of_ble_eq_true rfl) dX2_set_3 ⟨(Nat.le_of_ble_eq_true rfl), (Nat.le_of_ble_eq_true rfl)⟩ (fun v9 w9 H locs hN hH => ?_) (fun E9 q9 ce9 w9 H locs hX hH hce hcv hcl => ?_)
  · obtain ⟨⟨k_3, hk_3, rfl⟩, rfl, rfl⟩ := hN
    have hH : Hp D A s ([(x, .inr (2, [.ref rd, .int wp, .ref st, .int (nI wt), .int (nI ah), .ref rg, .ref ce, .ref byt, .int (bI wc), .int cw, .int (bI bc), .int cb, .int cy, .int wr, .int ww, .int br])), (rg, .inl (D.1 11, 10, .inl r))]) H locs := hH
    refine W.eq (g2 := F0 m 6 ls []) rfl ?_
    refine lv_iload_n C.x C.b dX2_set_6 rfl (lv_at hl 1 rfl) ?_
    refine lv_bipush (v := nI 9) C.x C.b dX2_set_7 (by decide) ?_
    refine vn_icmp_ne (tgt := 19) C.x C.b dX2_set_9 (by decide) (by omega) (by omega) (fun c_9 => ?_) (fun c_9 => ?_)
    · refine lv_aload_n C.x C.b dX2_set_19 rfl (lv_at hl 0 rfl) ?_
      refine gGet (v := .ref rg) C hK hH 0 5 rfl rfl inX2 (by decide) tw_106 rfl dX2_set_20 ?_
      refine lv_iload_n C.x C.b dX2_set_23 rfl (lv_at hl 1 rfl) ?_
      refine lv_iload_n C.x C.b dX2_set_24 rfl (lv_at hl 2 rfl) ?_
      refine gIast (f' := upd r k_3 z) (ws' := [(x, .inr (2, [.ref rd, .int wp, .ref st, .int (nI wt), .int (nI ah), .ref rg, .ref ce, .ref byt, .int (bI wc), .int cw, .int (bI bc), .int cb, .int cy, .int wr, .int ww, .int br])), (rg, .inl (D.1 11, 10, .inl (upd r k_3 z)))]) C hK hH 1 rfl (by omega) (by decide) rfl rfl dX2_set_25 (fun H locs hH => ?_)
      exact rV C hr hH (⟨k_3, hk_3, rfl, fun q => absurd q c_9, rfl, rfl⟩) (Nat.le_of_ble_eq_true rfl) (Nat.le_of_ble_eq_true rfl) dX2_set_26
    · refine lv_iload_n C.x C.b dX2_set_12 rfl (lv_at hl 2 rfl) ?_
      refine lv_sipush (v := nI 256) C.x C.b dX2_set_13 (by decide) ?_
      refine kS (As := [.int z, .int (nI 256)]) (isC := []) (isR := [0, 1]) (wr := [(x, .inr (2, [.ref rd, .int wp, .ref st, .int (nI wt), .int (nI ah), .ref rg, .ref ce, .ref byt, .int (bI wc), .int cw, .int (bI bc), .int cb, .int cy, .int wr, .int ww, .int br])), (rg, .inl (D.1 11, 10, .inl r))]) C hK hH (c_refuse l htr D H.size z 256 (by omega)) ⟨rfl, rfl, rfl, rfl, by decide⟩ tw_257 tw_258 tw_1 kX2_refuseOutside ⟨by decide +kernel, by decide +kernel, (by decide +kernel : (parseMethodDescriptor yX2_refuseOutside.desc).map (fun d => d.parameters.length) = some 2)⟩ ⟨(Nat.le_of_ble_eq_true rfl), (Nat.le_of_ble_eq_true rfl)⟩ hl.1 (Nat.le_of_ble_eq_true rfl) dX2_set_16 ⟨(Nat.le_of_ble_eq_true rfl), (Nat.le_of_ble_eq_true rfl)⟩ (fun v9 w9 H locs hN hH => ?_) (fun E9 q9 ce9 w9 H locs hX hH hce hcv hcl => ?_)
      · obtain ⟨⟨k_16, hk_16, rfl⟩, rfl, rfl⟩ := hN
        have hH : Hp D A s ([(x, .inr (2, [.ref rd, .int wp, .ref st, .int (nI wt), .int (nI ah), .ref rg, .ref ce, .ref byt, .int (bI wc), .int cw, .int (bI bc), .int cb, .int cy, .int wr, .int ww, .int br])), (rg, .inl (D.1 11, 10, .inl r))]) H locs := hH
        refine W.eq (g2 := F0 m 19 ls []) rfl ?_
        refine lv_aload_n C.x C.b dX2_set_19 rfl (lv_at hl 0 rfl) ?_
        refine gGet (v := .ref rg) C hK hH 0 5 rfl rfl inX2 (by decide) tw_106 rfl dX2_set_20 ?_
        refine lv_iload_n C.x C.b dX2_set_23 rfl (lv_at hl 1 rfl) ?_
        refine lv_iload_n C.x C.b dX2_set_24 rfl (lv_at hl 2 rfl) ?_
        refine gIast (f' := upd r k_3 (nI k_16)) (ws' := [(x, .inr (2, [.ref rd, .int wp, .ref st, .int (nI wt), .int (nI ah), .ref rg, .ref ce, .ref byt, .int (bI wc), .int cw, .int (bI bc), .int cb, .int cy, .int wr, .int ww, .int br])), (rg, .inl (D.1 11, 10, .inl (upd r k_3 (nI k_16))))]) C hK hH 1 rfl (by omega) (by decide) rfl rfl dX2_set_25 (fun H locs hH => ?_)
        exact rV C hr hH (⟨k_3, hk_3, rfl, fun _ => ⟨k_16, hk_16, rfl⟩, rfl, rfl⟩) (Nat.le_of_ble_eq_true rfl) (Nat.le_of_ble_eq_true rfl) dX2_set_26
      · obtain ⟨hno_16, rfl, rfl⟩ := hX
        have hH : Hp D A s ([(x, .inr (2, [.ref rd, .int wp, .ref st, .int (nI wt), .int (nI ah), .ref rg, .ref ce, .ref byt, .int (bI wc), .int cw, .int (bI bc), .int cb, .int cy, .int wr, .int ww, .int br])), (rg, .inl (D.1 11, 10, .inl r))]) H locs := hH
        exact kOut C hH (⟨Or.inr ⟨by rw [c_9], hno_16⟩, rfl, rfl⟩) hce hcv hcl (Nat.le_of_ble_eq_true rfl) (Nat.le_of_ble_eq_true rfl)
  · obtain ⟨hno_3, rfl, rfl⟩ := hX
    have hH : Hp D A s ([(x, .inr (2, [.ref rd, .int wp, .ref st, .int (nI wt), .int (nI ah), .ref rg, .ref ce, .ref byt, .int (bI wc), .int cw, .int (bI bc), .int cb, .int cy, .int wr, .int ww, .int br])), (rg, .inl (D.1 11, 10, .inl r))]) H locs := hH
    exact kOut C hH (⟨Or.inl hno_3, rfl, rfl⟩) hce hcv hcl (Nat.le_of_ble_eq_true rfl) (Nat.le_of_ble_eq_true rfl)
