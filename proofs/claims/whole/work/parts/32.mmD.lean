set_option maxHeartbeats 4000000 in
set_option maxRecDepth 100000 in
theorem c_shiftedBy (l : Launch) (htr : l.stackTraces = false) (D : va_G) (sz : Nat) (h : Nat) (v0 : Int32) (hh : h < 2 ^ 31) : Ct l yX2_shiftedBy wX2_shiftedBy { frames := 0, cells := 0, slots := 0, locals := 0 } D ([]) [.int (nI h), .int v0] sz (fun v w => v = some (.int (shV h v0)) ∧ w = []) (nox) := by
  refine Ct.of (cc := cX2_shiftedBy) (nL := 2) (ret := (some .int)) (own := RX2) htr (by decide) rfl (Nat.le_of_ble_eq_true rfl) ?_
  intro p e s m args below meth c A C hr hK H locs hH ls hl
  have hl : lv_has ls 2 [(0, .int (nI h)), (1, .int v0)] := hl
  refine lv_iload_n C.x C.b dX2_shiftedBy_0 rfl (lv_at hl 0 rfl) ?_
  refine lv_iconst (v := nI 1) C.x C.b dX2_shiftedBy_1 (by decide) ?_
  refine vn_icmp_ne (tgt := 10) C.x C.b dX2_shiftedBy_2 (by decide) (by omega) (by omega) (fun c_2 => ?_) (fun c_2 => ?_)
  · refine lv_iload_n C.x C.b dX2_shiftedBy_10 rfl (lv_at hl 0 rfl) ?_
    refine lv_iconst (v := nI 2) C.x C.b dX2_shiftedBy_11 (by decide) ?_
    refine vn_icmp_ne (tgt := 21) C.x C.b dX2_shiftedBy_12 (by decide) (by omega) (by omega) (fun c_12 => ?_) (fun c_12 => ?_)
    · refine lv_iload_n C.x C.b dX2_shiftedBy_21 rfl (lv_at hl 1 rfl) ?_
      exact rI C hr hH (⟨by rw [shV, if_neg c_2, if_neg c_12], rfl⟩) (Nat.le_of_ble_eq_true rfl) (Nat.le_of_ble_eq_true rfl) dX2_shiftedBy_22
    · refine lv_iload_n C.x C.b dX2_shiftedBy_15 rfl (lv_at hl 1 rfl) ?_
      refine lv_iconst (v := nI 1) C.x C.b dX2_shiftedBy_16 (by decide) ?_
      refine lv_ishr C.x C.b dX2_shiftedBy_17 ?_
      refine lv_goto (tgt := 22) C.x C.b dX2_shiftedBy_18 (by decide) ?_
      exact rI C hr hH (⟨by rw [shV, if_neg c_2, if_pos c_12], rfl⟩) (Nat.le_of_ble_eq_true rfl) (Nat.le_of_ble_eq_true rfl) dX2_shiftedBy_22
  · refine lv_iload_n C.x C.b dX2_shiftedBy_5 rfl (lv_at hl 1 rfl) ?_
    refine lv_bipush (v := nI 8) C.x C.b dX2_shiftedBy_6 (by decide) ?_
    refine lv_ishl C.x C.b dX2_shiftedBy_8 ?_
    exact rI C hr hH (⟨by rw [shV, if_pos c_2], rfl⟩) (Nat.le_of_ble_eq_true rfl) (Nat.le_of_ble_eq_true rfl) dX2_shiftedBy_9
set_option maxHeartbeats 4000000 in
set_option maxRecDepth 100000 in
theorem c_busOf (l : Launch) (htr : l.stackTraces = false) (D : va_G) (sz : Nat) (x rd st rg ce byt : Nat) (wp : Int32) (wt ah : Nat) (wc : Bool) (cw : Int32) (bc : Bool) (cb cy wr ww br : Int32) (r : Nat → Int32) (k : Nat) (hk : k < 11) : Ct l yX2_busOf wX2_busOf { frames := 0, cells := 0, slots := 0, locals := 0 } D ([(x, .inr (2, [.ref rd, .int wp, .ref st, .int (nI wt), .int (nI ah), .ref rg, .ref ce, .ref byt, .int (bI wc), .int cw, .int (bI bc), .int cb, .int cy, .int wr, .int ww, .int br])), (rg, .inl (D.1 11, 10, .inl r))]) [.ref x, .int (nI k)] sz (fun v w => v = some (.int (busV r k)) ∧ w = [(x, .inr (2, [.ref rd, .int wp, .ref st, .int (nI wt), .int (nI ah), .ref rg, .ref ce, .ref byt, .int (bI wc), .int cw, .int (bI bc), .int cb, .int cy, .int wr, .int ww, .int br])), (rg, .inl (D.1 11, 10, .inl r))]) (nox) := by
  refine Ct.of (cc := cX2_busOf) (nL := 2) (ret := (some .int)) (own := RX2) htr (by decide) rfl (Nat.le_of_ble_eq_true rfl) ?_
  intro p e s m args below meth c A C hr hK H locs hH ls hl
  have hl : lv_has ls 2 [(0, .ref x), (1, .int (nI k))] := hl
  refine lv_iload_n C.x C.b dX2_busOf_0 rfl (lv_at hl 1 rfl) ?_
  refine lv_bipush (v := nI 9) C.x C.b dX2_busOf_1 (by decide) ?_
  refine vn_icmp_ne (tgt := 15) C.x C.b dX2_busOf_3 (by decide) (by omega) (by omega) (fun c_3 => ?_) (fun c_3 => ?_)
  · refine lv_iload_n C.x C.b dX2_busOf_15 rfl (lv_at hl 1 rfl) ?_
    refine lv_bipush (v := nI 9) C.x C.b dX2_busOf_16 (by decide) ?_
    refine vn_icmp_le (tgt := 31) C.x C.b dX2_busOf_18 (by decide) (by omega) (by omega) (fun c_18 => ?_) (fun c_18 => ?_)
    · refine lv_aload_n C.x C.b dX2_busOf_31 rfl (lv_at hl 0 rfl) ?_
      refine gGet (v := .ref rg) C hK hH 0 5 rfl rfl inX2 (by decide) tw_106 rfl dX2_busOf_32 ?_
      refine lv_iload_n C.x C.b dX2_busOf_35 rfl (lv_at hl 1 rfl) ?_
      refine gIald (v := (r k)) C hK hH 1 rfl (by omega) (by decide) dX2_busOf_36 rfl ?_
      exact rI C hr hH (⟨by rw [busV, if_neg c_3, if_pos c_18], rfl⟩) (Nat.le_of_ble_eq_true rfl) (Nat.le_of_ble_eq_true rfl) dX2_busOf_37
    · refine lv_aload_n C.x C.b dX2_busOf_21 rfl (lv_at hl 0 rfl) ?_
      refine gGet (v := .ref rg) C hK hH 0 5 rfl rfl inX2 (by decide) tw_106 rfl dX2_busOf_22 ?_
      refine lv_bipush (v := nI 9) C.x C.b dX2_busOf_25 (by decide) ?_
      refine gIald (v := (r 9)) C hK hH 1 rfl (by omega) (by decide) dX2_busOf_27 rfl ?_
      refine lv_goto (tgt := 37) C.x C.b dX2_busOf_28 (by decide) ?_
      exact rI C hr hH (⟨by rw [busV, if_neg c_3, if_neg (by omega)], rfl⟩) (Nat.le_of_ble_eq_true rfl) (Nat.le_of_ble_eq_true rfl) dX2_busOf_37
  · refine lv_aload_n C.x C.b dX2_busOf_6 rfl (lv_at hl 0 rfl) ?_
    refine gGet (v := .ref rg) C hK hH 0 5 rfl rfl inX2 (by decide) tw_106 rfl dX2_busOf_7 ?_
    refine lv_bipush (v := nI 9) C.x C.b dX2_busOf_10 (by decide) ?_
    refine gIald (v := (r 9)) C hK hH 1 rfl (by omega) (by decide) dX2_busOf_12 rfl ?_
    refine lv_i2b C.x C.b dX2_busOf_13 rfl ?_
    exact rI C hr hH (⟨by rw [busV, if_pos c_3], rfl⟩) (Nat.le_of_ble_eq_true rfl) (Nat.le_of_ble_eq_true rfl) dX2_busOf_14
set_option maxHeartbeats 4000000 in
set_option maxRecDepth 100000 in
theorem c_valueOf (l : Launch) (htr : l.stackTraces = false) (D : va_G) (sz : Nat) (x rd st rg ce byt : Nat) (wp : Int32) (wt ah : Nat) (wc : Bool) (cw : Int32) (bc : Bool) (cb cy wr ww br : Int32) (r : Nat → Int32) (wd : Nat) (f0 f1 f2 f3 f4 f5 : Nat) (f6 : Bool) (f7 : Nat) (f8 f9 : Option Nat) (h2 : f2 < 16) (h3 : f3 < 11) : Ct l yX2_valueOf wX2_valueOf { frames := 1, cells := 0, slots := 0, locals := 21 } D ([(x, .inr (2, [.ref rd, .int wp, .ref st, .int (nI wt), .int (nI ah), .ref rg, .ref ce, .ref byt, .int (bI wc), .int cw, .int (bI bc), .int cb, .int cy, .int wr, .int ww, .int br])), (rg, .inl (D.1 11, 10, .inl r)), (wd, .inr (0, [.int (nI f0), .int (nI f1), .int (nI f2), .int (nI f3), .int (nI f4), .int (nI f5), .int (bI f6), .int (nI f7), .int (oI f8), .int (oI f9)]))]) [.ref x, .ref wd] sz (fun v w => v = some (.int (valV r f2 f3)) ∧ w = [(wd, .inr (0, [.int (nI f0), .int (nI f1), .int (nI f2), .int (nI f3), .int (nI f4), .int (nI f5), .int (bI f6), .int (nI f7), .int (oI f8), .int (oI f9)])), (x, .inr (2, [.ref rd, .int wp, .ref st, .int (nI wt), .int (nI ah), .ref rg, .ref ce, .ref byt, .int (bI wc), .int cw, .int (bI bc), .int cb, .int cy, .int wr, .int ww, .int br])), (rg, .inl (D.1 11, 10, .inl r))]) (nox) := by
  refine Ct.of (cc := cX2_valueOf) (nL := 4) (ret := (some .int)) (own := RX2) htr (by decide) rfl (Nat.le_of_ble_eq_true rfl) ?_
  intro p e s m args below meth c A C hr hK H locs hH ls hl
  have hl : lv_has ls 4 [(0, .ref x), (1, .ref wd)] := hl
  refine lv_aload_n C.x C.b dX2_valueOf_0 rfl (lv_at hl 0 rfl) ?_
  refine lv_aload_n C.x C.b dX2_valueOf_1 rfl (lv_at hl 1 rfl) ?_
  refine gGetN (v := .int (nI f3)) C hK hH 2 3 rfl rfl inX0 (by decide) (nwl_of tn_47 rfl) rfl dX2_valueOf_2 ?_
  refine kV (As := [.int (nI f3)]) (isC := [0, 1]) (isR := [2]) (wr := [(wd, .inr (0, [.int (nI f0), .int (nI f1), .int (nI f2), .int (nI f3), .int (nI f4), .int (nI f5), .int (bI f6), .int (nI f7), .int (oI f8), .int (oI f9)]))]) C hK hH (c_busOf l htr D H.size x rd st rg ce byt wp wt ah wc cw bc cb cy wr ww br r f3 (by omega)) ⟨rfl, rfl, rfl, rfl, by decide⟩ 0 rfl rfl tw_454 tw_456 ts_18 tw_1 kX2_busOf ⟨by decide +kernel, by decide +kernel, (by decide +kernel : (parseMethodDescriptor yX2_busOf.desc).map (fun d => d.parameters.length) = some 1)⟩ ⟨(Nat.le_of_ble_eq_true rfl), (Nat.le_of_ble_eq_true rfl)⟩ hl.1 (Nat.le_of_ble_eq_true rfl) dX2_valueOf_5 ⟨(Nat.le_of_ble_eq_true rfl), (Nat.le_of_ble_eq_true rfl)⟩ (fun v9 w9 H locs hN hH => ?_) (fun _ _ _ _ _ _ h => False.elim h)
  obtain ⟨rfl, rfl⟩ := hN
  have hH : Hp D A s ([(wd, .inr (0, [.int (nI f0), .int (nI f1), .int (nI f2), .int (nI f3), .int (nI f4), .int (nI f5), .int (bI f6), .int (nI f7), .int (oI f8), .int (oI f9)])), (x, .inr (2, [.ref rd, .int wp, .ref st, .int (nI wt), .int (nI ah), .ref rg, .ref ce, .ref byt, .int (bI wc), .int cw, .int (bI bc), .int cb, .int cy, .int wr, .int ww, .int br])), (rg, .inl (D.1 11, 10, .inl r))]) H locs := hH
  refine W.eq (g2 := F0 m 8 ls [.int (busV r f3)]) rfl ?_
  refine lv_istore_n (lv' := [(2, .int (busV r f3)), (0, .ref x), (1, .ref wd)]) C.x C.b dX2_valueOf_8 rfl hl (by decide) rfl (fun ls hl => ?_)
  refine lv_aload_n C.x C.b dX2_valueOf_9 rfl (lv_at hl 1 rfl) ?_
  refine gGet (v := .ref rg) C hK hH 1 5 rfl rfl inX2 (by decide) tw_106 rfl dX2_valueOf_10 ?_
  refine lv_bipush (v := nI 8) C.x C.b dX2_valueOf_13 (by decide) ?_
  refine gIald (v := (r 8)) C hK hH 2 rfl (by omega) (by decide) dX2_valueOf_15 rfl ?_
  refine lv_istore_n (lv' := [(3, .int (r 8)), (2, .int (busV r f3)), (0, .ref x), (1, .ref wd)]) C.x C.b dX2_valueOf_16 rfl hl (by decide) rfl (fun ls hl => ?_)
  refine lv_aload_n C.x C.b dX2_valueOf_17 rfl (lv_at hl 3 rfl) ?_
  refine gGetN (v := .int (nI f2)) C hK hH 0 2 rfl rfl inX0 (by decide) (nwl_of tn_45 rfl) rfl dX2_valueOf_18 ?_
  obtain rfl | rfl | rfl | rfl | rfl | rfl | rfl | rfl | rfl | rfl | rfl | rfl | rfl | rfl | rfl | rfl : f2 = 0 ∨ f2 = 1 ∨ f2 = 2 ∨ f2 = 3 ∨ f2 = 4 ∨ f2 = 5 ∨ f2 = 6 ∨ f2 = 7 ∨ f2 = 8 ∨ f2 = 9 ∨ f2 = 10 ∨ f2 = 11 ∨ f2 = 12 ∨ f2 = 13 ∨ f2 = 14 ∨ f2 = 15 := by omega
  · refine lv_tableOut (tgt := 149) C.x C.b dX2_valueOf_21 (by decide) (by decide) ?_
    refine lv_iconst (v := nI 0) C.x C.b dX2_valueOf_149 (by decide) ?_
    exact rI C hr hH (⟨rfl, rfl⟩) (Nat.le_of_ble_eq_true rfl) (Nat.le_of_ble_eq_true rfl) dX2_valueOf_150
  · refine lv_tableIn (off := 75) (tgt := 96) C.x C.b dX2_valueOf_21 (by decide) (by decide) (by decide) (by decide) ?_
    refine lv_iconst (v := nI 1) C.x C.b dX2_valueOf_96 (by decide) ?_
    exact rI C hr hH (⟨rfl, rfl⟩) (Nat.le_of_ble_eq_true rfl) (Nat.le_of_ble_eq_true rfl) dX2_valueOf_97
  · refine lv_tableIn (off := 77) (tgt := 98) C.x C.b dX2_valueOf_21 (by decide) (by decide) (by decide) (by decide) ?_
    refine lv_iconst (v := -1) C.x C.b dX2_valueOf_98 (by decide) ?_
    exact rI C hr hH (⟨rfl, rfl⟩) (Nat.le_of_ble_eq_true rfl) (Nat.le_of_ble_eq_true rfl) dX2_valueOf_99
  · refine lv_tableIn (off := 79) (tgt := 100) C.x C.b dX2_valueOf_21 (by decide) (by decide) (by decide) (by decide) ?_
    refine lv_iload_n C.x C.b dX2_valueOf_100 rfl (lv_at hl 1 rfl) ?_
    exact rI C hr hH (⟨rfl, rfl⟩) (Nat.le_of_ble_eq_true rfl) (Nat.le_of_ble_eq_true rfl) dX2_valueOf_101
  · refine lv_tableIn (off := 81) (tgt := 102) C.x C.b dX2_valueOf_21 (by decide) (by decide) (by decide) (by decide) ?_
    refine lv_iload_n C.x C.b dX2_valueOf_102 rfl (lv_at hl 1 rfl) ?_
    refine lv_iconst (v := nI 1) C.x C.b dX2_valueOf_103 (by decide) ?_
    refine lv_iadd C.x C.b dX2_valueOf_104 ?_
    exact rI C hr hH (⟨rfl, rfl⟩) (Nat.le_of_ble_eq_true rfl) (Nat.le_of_ble_eq_true rfl) dX2_valueOf_105
  · refine lv_tableIn (off := 85) (tgt := 106) C.x C.b dX2_valueOf_21 (by decide) (by decide) (by decide) (by decide) ?_
    refine lv_iload_n C.x C.b dX2_valueOf_106 rfl (lv_at hl 1 rfl) ?_
    refine lv_iconst (v := nI 1) C.x C.b dX2_valueOf_107 (by decide) ?_
    refine lv_isub C.x C.b dX2_valueOf_108 ?_
    exact rI C hr hH (⟨rfl, rfl⟩) (Nat.le_of_ble_eq_true rfl) (Nat.le_of_ble_eq_true rfl) dX2_valueOf_109
  · refine lv_tableIn (off := 89) (tgt := 110) C.x C.b dX2_valueOf_21 (by decide) (by decide) (by decide) (by decide) ?_
    refine lv_iload_n C.x C.b dX2_valueOf_110 rfl (lv_at hl 1 rfl) ?_
    refine lv_iload_n C.x C.b dX2_valueOf_111 rfl (lv_at hl 0 rfl) ?_
    refine lv_isub C.x C.b dX2_valueOf_112 ?_
    exact rI C hr hH (⟨rfl, rfl⟩) (Nat.le_of_ble_eq_true rfl) (Nat.le_of_ble_eq_true rfl) dX2_valueOf_113
  · refine lv_tableIn (off := 93) (tgt := 114) C.x C.b dX2_valueOf_21 (by decide) (by decide) (by decide) (by decide) ?_
    refine lv_iload_n C.x C.b dX2_valueOf_114 rfl (lv_at hl 1 rfl) ?_
    refine lv_iconst (v := -1) C.x C.b dX2_valueOf_115 (by decide) ?_
    refine lv_ixor C.x C.b dX2_valueOf_116 ?_
    exact rI C hr hH (⟨rfl, rfl⟩) (Nat.le_of_ble_eq_true rfl) (Nat.le_of_ble_eq_true rfl) dX2_valueOf_117
  · refine lv_tableIn (off := 97) (tgt := 118) C.x C.b dX2_valueOf_21 (by decide) (by decide) (by decide) (by decide) ?_
    refine lv_iload_n C.x C.b dX2_valueOf_118 rfl (lv_at hl 0 rfl) ?_
    exact rI C hr hH (⟨rfl, rfl⟩) (Nat.le_of_ble_eq_true rfl) (Nat.le_of_ble_eq_true rfl) dX2_valueOf_119
  · refine lv_tableIn (off := 99) (tgt := 120) C.x C.b dX2_valueOf_21 (by decide) (by decide) (by decide) (by decide) ?_
    refine lv_iload_n C.x C.b dX2_valueOf_120 rfl (lv_at hl 0 rfl) ?_
    refine lv_iconst (v := nI 1) C.x C.b dX2_valueOf_121 (by decide) ?_
    refine lv_iadd C.x C.b dX2_valueOf_122 ?_
    exact rI C hr hH (⟨rfl, rfl⟩) (Nat.le_of_ble_eq_true rfl) (Nat.le_of_ble_eq_true rfl) dX2_valueOf_123
  · refine lv_tableIn (off := 103) (tgt := 124) C.x C.b dX2_valueOf_21 (by decide) (by decide) (by decide) (by decide) ?_
    refine lv_iload_n C.x C.b dX2_valueOf_124 rfl (lv_at hl 0 rfl) ?_
    refine lv_iload_n C.x C.b dX2_valueOf_125 rfl (lv_at hl 1 rfl) ?_
    refine lv_iadd C.x C.b dX2_valueOf_126 ?_
    exact rI C hr hH (⟨rfl, rfl⟩) (Nat.le_of_ble_eq_true rfl) (Nat.le_of_ble_eq_true rfl) dX2_valueOf_127
  · refine lv_tableIn (off := 107) (tgt := 128) C.x C.b dX2_valueOf_21 (by decide) (by decide) (by decide) (by decide) ?_
    refine lv_iload_n C.x C.b dX2_valueOf_128 rfl (lv_at hl 0 rfl) ?_
    refine lv_iload_n C.x C.b dX2_valueOf_129 rfl (lv_at hl 1 rfl) ?_
    refine lv_iadd C.x C.b dX2_valueOf_130 ?_
    refine lv_iconst (v := nI 1) C.x C.b dX2_valueOf_131 (by decide) ?_
    refine lv_iadd C.x C.b dX2_valueOf_132 ?_
    exact rI C hr hH (⟨rfl, rfl⟩) (Nat.le_of_ble_eq_true rfl) (Nat.le_of_ble_eq_true rfl) dX2_valueOf_133
  · refine lv_tableIn (off := 113) (tgt := 134) C.x C.b dX2_valueOf_21 (by decide) (by decide) (by decide) (by decide) ?_
    refine lv_iload_n C.x C.b dX2_valueOf_134 rfl (lv_at hl 0 rfl) ?_
    refine lv_iload_n C.x C.b dX2_valueOf_135 rfl (lv_at hl 1 rfl) ?_
    refine lv_iand C.x C.b dX2_valueOf_136 ?_
    exact rI C hr hH (⟨rfl, rfl⟩) (Nat.le_of_ble_eq_true rfl) (Nat.le_of_ble_eq_true rfl) dX2_valueOf_137
  · refine lv_tableIn (off := 117) (tgt := 138) C.x C.b dX2_valueOf_21 (by decide) (by decide) (by decide) (by decide) ?_
    refine lv_iload_n C.x C.b dX2_valueOf_138 rfl (lv_at hl 0 rfl) ?_
    refine lv_iload_n C.x C.b dX2_valueOf_139 rfl (lv_at hl 1 rfl) ?_
    refine lv_ior C.x C.b dX2_valueOf_140 ?_
    exact rI C hr hH (⟨rfl, rfl⟩) (Nat.le_of_ble_eq_true rfl) (Nat.le_of_ble_eq_true rfl) dX2_valueOf_141
  · refine lv_tableIn (off := 121) (tgt := 142) C.x C.b dX2_valueOf_21 (by decide) (by decide) (by decide) (by decide) ?_
    refine lv_iload_n C.x C.b dX2_valueOf_142 rfl (lv_at hl 0 rfl) ?_
    refine lv_iconst (v := -1) C.x C.b dX2_valueOf_143 (by decide) ?_
    refine lv_ixor C.x C.b dX2_valueOf_144 ?_
    exact rI C hr hH (⟨rfl, rfl⟩) (Nat.le_of_ble_eq_true rfl) (Nat.le_of_ble_eq_true rfl) dX2_valueOf_145
  · refine lv_tableIn (off := 125) (tgt := 146) C.x C.b dX2_valueOf_21 (by decide) (by decide) (by decide) (by decide) ?_
    refine lv_iload_n C.x C.b dX2_valueOf_146 rfl (lv_at hl 0 rfl) ?_
    refine lv_ineg C.x C.b dX2_valueOf_147 ?_
    exact rI C hr hH (⟨rfl, rfl⟩) (Nat.le_of_ble_eq_true rfl) (Nat.le_of_ble_eq_true rfl) dX2_valueOf_148
set_option maxHeartbeats 4000000 in
set_option maxRecDepth 100000 in
theorem c_wordBehind (l : Launch) (htr : l.stackTraces = false) (D : va_G) (sz : Nat) (x rd st rg ce byt : Nat) (wp : Int32) (wt ah : Nat) (wc : Bool) (cw : Int32) (bc : Bool) (cb cy wr ww br : Int32) (r : Nat → Int32) (wd : Nat) (f0 f1 f2 f3 f4 f5 : Nat) (f6 : Bool) (f7 : Nat) (f8 f9 : Option Nat) (v0 : Int32) (hw : gOK f7 f8 f9) (hah : ah < 64) : Ct l yX2_wordBehind wX2_wordBehind { frames := 1, cells := 0, slots := 0, locals := 13 } D ([(x, .inr (2, [.ref rd, .int wp, .ref st, .int (nI wt), .int (nI ah), .ref rg, .ref ce, .ref byt, .int (bI wc), .int cw, .int (bI bc), .int cb, .int cy, .int wr, .int ww, .int br])), (rg, .inl (D.1 11, 10, .inl r)), (wd, .inr (0, [.int (nI f0), .int (nI f1), .int (nI f2), .int (nI f3), .int (nI f4), .int (nI f5), .int (bI f6), .int (nI f7), .int (oI f8), .int (oI f9)]))]) [.ref x, .ref wd, .int v0] sz (fun v w => v = some (.int (nI (nxt ah f7 f8 f9 (r 9) v0))) ∧ w = [(x, .inr (2, [.ref rd, .int wp, .ref st, .int (nI wt), .int (nI ah), .ref rg, .ref ce, .ref byt, .int (bI wc), .int cw, .int (bI bc), .int cb, .int cy, .int wr, .int ww, .int br])), (rg, .inl (D.1 11, 10, .inl r)), (wd, .inr (0, [.int (nI f0), .int (nI f1), .int (nI f2), .int (nI f3), .int (nI f4), .int (nI f5), .int (bI f6), .int (nI f7), .int (oI f8), .int (oI f9)]))]) (nox) := by
  have hw4 := hw.2.2.2
  refine Ct.of (cc := cX2_wordBehind) (nL := 3) (ret := (some .int)) (own := RX2) htr (by decide) rfl (Nat.le_of_ble_eq_true rfl) ?_
  intro p e s m args below meth c A C hr hK H locs hH ls hl
  have hl : lv_has ls 3 [(0, .ref x), (1, .ref wd), (2, .int v0)] := hl
  refine lv_aload_n C.x C.b dX2_wordBehind_0 rfl (lv_at hl 1 rfl) ?_
  refine gGetN (v := .int (nI f7)) C hK hH 2 7 rfl rfl inX0 (by decide) (nwl_of tn_55 rfl) rfl dX2_wordBehind_1 ?_
  obtain rfl | rfl | rfl | rfl | rfl : f7 = 0 ∨ f7 = 1 ∨ f7 = 2 ∨ f7 = 3 ∨ f7 = 4 := by omega
  · refine lv_tableOut (tgt := 93) C.x C.b dX2_wordBehind_4 (by decide) (by decide) ?_
    refine lv_aload_n C.x C.b dX2_wordBehind_93 rfl (lv_at hl 0 rfl) ?_
    refine gGet (v := .int (nI ah)) C hK hH 0 4 rfl rfl inX2 (by decide) tw_105 rfl dX2_wordBehind_94 ?_
    refine lv_iconst (v := nI 1) C.x C.b dX2_wordBehind_97 (by decide) ?_
    refine lv_iadd C.x C.b dX2_wordBehind_98 ?_
    refine vt_top (nI_add _ _) ?_
    refine lv_bipush (v := nI 63) C.x C.b dX2_wordBehind_99 (by decide) ?_
    refine lv_iand C.x C.b dX2_wordBehind_101 ?_
    refine vt_top (y := nI ((ah + 1) % 2 ^ 6)) (pk_andN (by omega) 6 (by decide)) ?_
    exact rI C hr hH (⟨rfl, rfl⟩) (Nat.le_of_ble_eq_true rfl) (Nat.le_of_ble_eq_true rfl) dX2_wordBehind_102
  · refine lv_tableIn (off := 32) (tgt := 36) C.x C.b dX2_wordBehind_4 (by decide) (by decide) (by decide) (by decide) ?_
    refine lv_aload_n C.x C.b dX2_wordBehind_36 rfl (lv_at hl 1 rfl) ?_
    refine gGetN (v := .int (oI f8)) C hK hH 2 8 rfl rfl inX0 (by decide) (nwl_of tn_58 rfl) rfl dX2_wordBehind_37 ?_
    exact rI C hr hH (⟨by obtain ⟨x9, hx9, rfl⟩ := hw.1 rfl; rfl, rfl⟩) (Nat.le_of_ble_eq_true rfl) (Nat.le_of_ble_eq_true rfl) dX2_wordBehind_40
  · refine lv_tableIn (off := 37) (tgt := 41) C.x C.b dX2_wordBehind_4 (by decide) (by decide) (by decide) (by decide) ?_
    refine lv_iload_n C.x C.b dX2_wordBehind_41 rfl (lv_at hl 2 rfl) ?_
    refine lv_if_ne (tgt := 52) C.x C.b dX2_wordBehind_42 (by decide) (fun c_42 => ?_) (fun c_42 => ?_)
    · refine lv_aload_n C.x C.b dX2_wordBehind_52 rfl (lv_at hl 1 rfl) ?_
      refine gGetN (v := .int (oI f9)) C hK hH 2 9 rfl rfl inX0 (by decide) (nwl_of tn_61 rfl) rfl dX2_wordBehind_53 ?_
      exact rI C hr hH (⟨by obtain ⟨⟨x9, hx9, rfl⟩, y9, hy9, rfl⟩ := hw.2.1 (by decide); rw [nxt, if_neg c_42]; rfl, rfl⟩) (Nat.le_of_ble_eq_true rfl) (Nat.le_of_ble_eq_true rfl) dX2_wordBehind_56
    · refine lv_aload_n C.x C.b dX2_wordBehind_45 rfl (lv_at hl 1 rfl) ?_
      refine gGetN (v := .int (oI f8)) C hK hH 2 8 rfl rfl inX0 (by decide) (nwl_of tn_58 rfl) rfl dX2_wordBehind_46 ?_
      refine lv_goto (tgt := 56) C.x C.b dX2_wordBehind_49 (by decide) ?_
      exact rI C hr hH (⟨by obtain ⟨⟨x9, hx9, rfl⟩, y9, hy9, rfl⟩ := hw.2.1 (by decide); rw [nxt, if_pos c_42]; rfl, rfl⟩) (Nat.le_of_ble_eq_true rfl) (Nat.le_of_ble_eq_true rfl) dX2_wordBehind_56
  · refine lv_tableIn (off := 53) (tgt := 57) C.x C.b dX2_wordBehind_4 (by decide) (by decide) (by decide) (by decide) ?_
    refine lv_iload_n C.x C.b dX2_wordBehind_57 rfl (lv_at hl 2 rfl) ?_
    refine lv_if_ge (tgt := 68) C.x C.b dX2_wordBehind_58 (by decide) (fun c_58 => ?_) (fun c_58 => ?_)
    · refine lv_aload_n C.x C.b dX2_wordBehind_68 rfl (lv_at hl 1 rfl) ?_
      refine gGetN (v := .int (oI f9)) C hK hH 2 9 rfl rfl inX0 (by decide) (nwl_of tn_61 rfl) rfl dX2_wordBehind_69 ?_
      exact rI C hr hH (⟨by obtain ⟨⟨x9, hx9, rfl⟩, y9, hy9, rfl⟩ := hw.2.1 (by decide); rw [nxt, if_neg (Int32.not_lt.mpr c_58)]; rfl, rfl⟩) (Nat.le_of_ble_eq_true rfl) (Nat.le_of_ble_eq_true rfl) dX2_wordBehind_72
    · refine lv_aload_n C.x C.b dX2_wordBehind_61 rfl (lv_at hl 1 rfl) ?_
      refine gGetN (v := .int (oI f8)) C hK hH 2 8 rfl rfl inX0 (by decide) (nwl_of tn_58 rfl) rfl dX2_wordBehind_62 ?_
      refine lv_goto (tgt := 72) C.x C.b dX2_wordBehind_65 (by decide) ?_
      exact rI C hr hH (⟨by obtain ⟨⟨x9, hx9, rfl⟩, y9, hy9, rfl⟩ := hw.2.1 (by decide); rw [nxt, if_pos (Int32.not_le.mp c_58)]; rfl, rfl⟩) (Nat.le_of_ble_eq_true rfl) (Nat.le_of_ble_eq_true rfl) dX2_wordBehind_72
  · refine lv_tableIn (off := 69) (tgt := 73) C.x C.b dX2_wordBehind_4 (by decide) (by decide) (by decide) (by decide) ?_
    refine lv_aload_n C.x C.b dX2_wordBehind_73 rfl (lv_at hl 1 rfl) ?_
    refine gGetN (v := .int (oI f8)) C hK hH 2 8 rfl rfl inX0 (by decide) (nwl_of tn_58 rfl) rfl dX2_wordBehind_74 ?_
    refine lv_iconst (v := nI 0) C.x C.b dX2_wordBehind_77 (by decide) ?_
    refine va_mmax C.x C.b (C.ml.trans hl.1.symm) C.ow (C.ts _ tw_489) (C.ts _ tw_309) (C.ts _ tw_12) (C.ts _ kMath_max) (Nat.le_of_ble_eq_true rfl) (Nat.le_of_ble_eq_true rfl) (Nat.le_of_ble_eq_true rfl) (Nat.le_of_ble_eq_true rfl) dX2_wordBehind_78 ?_
    refine vt_top (y := nI (f8.getD 0)) (max0 hw.2.2.1) ?_
    refine lv_aload_n C.x C.b dX2_wordBehind_81 rfl (lv_at hl 0 rfl) ?_
    refine gGet (v := .ref rg) C hK hH 0 5 rfl rfl inX2 (by decide) tw_106 rfl dX2_wordBehind_82 ?_
    refine lv_bipush (v := nI 9) C.x C.b dX2_wordBehind_85 (by decide) ?_
    refine gIald (v := (r 9)) C hK hH 1 rfl (by omega) (by decide) dX2_wordBehind_87 rfl ?_
    refine lv_ior C.x C.b dX2_wordBehind_88 ?_
    refine lv_bipush (v := nI 63) C.x C.b dX2_wordBehind_89 (by decide) ?_
    refine lv_iand C.x C.b dX2_wordBehind_91 ?_
    refine vt_top (y := nI ((nI (f8.getD 0) ||| r 9).toBitVec.toNat % 2 ^ 6)) (pk_and _ 6 (by decide)) ?_
    exact rI C hr hH (⟨rfl, rfl⟩) (Nat.le_of_ble_eq_true rfl) (Nat.le_of_ble_eq_true rfl) dX2_wordBehind_92
set_option maxHeartbeats 4000000 in
set_option maxRecDepth 100000 in
theorem c_askW (l : Launch) (htr : l.stackTraces = false) (D : va_G) (sz : Nat) (x rd st rg ce byt : Nat) (wp : Int32) (wt ah : Nat) (wc : Bool) (cw : Int32) (bc : Bool) (cb cy wr ww br : Int32) (r mm : Nat → Int32) (k : Nat) (a : Int32) (hk : k ≤ 2) (ha : k ≠ 0 → ∃ j, j < 64 ∧ a = nI j) : Ct l yX2_askForWord wX2_askForWord { frames := 0, cells := 0, slots := 0, locals := 0 } D ([(x, .inr (2, [.ref rd, .int wp, .ref st, .int (nI wt), .int (nI ah), .ref rg, .ref ce, .ref byt, .int (bI wc), .int cw, .int (bI bc), .int cb, .int cy, .int wr, .int ww, .int br])), (rg, .inl (D.1 11, 10, .inl r)), (ce, .inl (D.1 11, 64, .inl mm))]) [.ref x, .int (nI k), .int a] sz (fun v w => v = none ∧ w = [(x, .inr (2, [.ref rd, .int wp, .ref st, .int (nI wt), .int (nI ah), .ref rg, .ref ce, .ref byt, .int (bI (decide (k = 1))), .int (if k = 1 then mm a.toNatClampNeg else cw), .int (bI bc), .int cb, .int cy, .int (if k = 1 then wr + nI 1 else wr), .int (if k = 2 then ww + nI 1 else ww), .int br])), (rg, .inl (D.1 11, 10, .inl (if wc = true then upd r 1 cw else r))), (ce, .inl (D.1 11, 64, .inl (if k = 2 then upd mm a.toNatClampNeg (r 1) else mm)))]) (nox) := by
  refine Ct.of (cc := cX2_askForWord) (nL := 5) (ret := none) (own := RX2) htr (by decide) rfl (Nat.le_of_ble_eq_true rfl) ?_
  intro p e s m args below meth c A C hr hK H locs hH ls hl
  have hl : lv_has ls 5 [(0, .ref x), (1, .int (nI k)), (2, .int a)] := hl
  refine lv_aload_n C.x C.b dX2_askForWord_0 rfl (lv_at hl 0 rfl) ?_
  refine gGet (v := .int (bI wc)) C hK hH 0 8 rfl rfl inX2 (by decide) tw_109 rfl dX2_askForWord_1 ?_
  refine lv_istore_n (lv' := [(3, .int (bI wc)), (0, .ref x), (1, .int (nI k)), (2, .int a)]) C.x C.b dX2_askForWord_4 rfl hl (by decide) rfl (fun ls hl => ?_)
  refine lv_aload_n C.x C.b dX2_askForWord_5 rfl (lv_at hl 1 rfl) ?_
  refine gGet (v := .int cw) C hK hH 0 9 rfl rfl inX2 (by decide) tw_110 rfl dX2_askForWord_6 ?_
  refine lv_istore (lv' := [(4, .int cw), (3, .int (bI wc)), (0, .ref x), (1, .int (nI k)), (2, .int a)]) C.x C.b dX2_askForWord_9 hl (by decide) rfl (fun ls hl => ?_)
  refine lv_aload_n C.x C.b dX2_askForWord_11 rfl (lv_at hl 2 rfl) ?_
  refine lv_iload_n C.x C.b dX2_askForWord_12 rfl (lv_at hl 3 rfl) ?_
  refine lv_iconst (v := nI 1) C.x C.b dX2_askForWord_13 (by decide) ?_
  refine vn_icmp_ne (tgt := 21) C.x C.b dX2_askForWord_14 (by decide) (by omega) (by omega) (fun c_14 => ?_) (fun c_14 => ?_)
  · refine lv_iconst (v := nI 0) C.x C.b dX2_askForWord_21 (by decide) ?_
    refine gPut (v := .int (nI 0)) (ws' := [(x, .inr (2, [.ref rd, .int wp, .ref st, .int (nI wt), .int (nI ah), .ref rg, .ref ce, .ref byt, .int (nI 0), .int cw, .int (bI bc), .int cb, .int cy, .int wr, .int ww, .int br])), (rg, .inl (D.1 11, 10, .inl r)), (ce, .inl (D.1 11, 64, .inl mm))]) C hK hH 0 8 tyX2 tyX2_ok nmX2 rfl rfl inX2 (by decide) tw_109 rfl (by decide) (by decide) (Nat.le_of_ble_eq_true rfl) rfl dX2_askForWord_22 (fun H locs hH => ?_)
    refine lv_iload_n C.x C.b dX2_askForWord_25 rfl (lv_at hl 3 rfl) ?_
    refine lv_iconst (v := nI 1) C.x C.b dX2_askForWord_26 (by decide) ?_
    refine vn_icmp_ne (tgt := 53) C.x C.b dX2_askForWord_27 (by decide) (by omega) (by omega) (fun _ => ?_) (fun q => absurd q c_14)
    refine lv_iload_n C.x C.b dX2_askForWord_53 rfl (lv_at hl 3 rfl) ?_
    refine lv_iconst (v := nI 2) C.x C.b dX2_askForWord_54 (by decide) ?_
    refine vn_icmp_ne (tgt := 80) C.x C.b dX2_askForWord_55 (by decide) (by omega) (by omega) (fun c_55 => ?_) (fun c_55 => ?_)
    · refine lv_iload_n C.x C.b dX2_askForWord_80 rfl (lv_at hl 1 rfl) ?_
      refine vb_if_eq (tgt := 92) C.x C.b dX2_askForWord_81 (by decide) (fun c_81 => ?_) (fun c_81 => ?_)
      · exact rV C hr hH (⟨rfl, by simp only [if_neg c_14, decide_eq_false c_14, if_neg c_55, c_81, if_true, Bool.false_eq_true, if_false] <;> rfl⟩) (Nat.le_of_ble_eq_true rfl) (Nat.le_of_ble_eq_true rfl) dX2_askForWord_92
      · refine lv_aload_n C.x C.b dX2_askForWord_84 rfl (lv_at hl 2 rfl) ?_
        refine gGet (v := .ref rg) C hK hH 0 5 rfl rfl inX2 (by decide) tw_106 rfl dX2_askForWord_85 ?_
        refine lv_iconst (v := nI 1) C.x C.b dX2_askForWord_88 (by decide) ?_
        refine lv_iload C.x C.b dX2_askForWord_89 (lv_at hl 0 rfl) ?_
        refine gIast (f' := upd r 1 cw) (ws' := [(x, .inr (2, [.ref rd, .int wp, .ref st, .int (nI wt), .int (nI ah), .ref rg, .ref ce, .ref byt, .int (nI 0), .int cw, .int (bI bc), .int cb, .int cy, .int wr, .int ww, .int br])), (rg, .inl (D.1 11, 10, .inl (upd r 1 cw))), (ce, .inl (D.1 11, 64, .inl mm))]) C hK hH 1 rfl (by omega) (by decide) rfl rfl dX2_askForWord_91 (fun H locs hH => ?_)
        exact rV C hr hH (⟨rfl, by simp only [if_neg c_14, decide_eq_false c_14, if_neg c_55, c_81, if_true, Bool.false_eq_true, if_false] <;> rfl⟩) (Nat.le_of_ble_eq_true rfl) (Nat.le_of_ble_eq_true rfl) dX2_askForWord_92
    · obtain ⟨j9, hj9, rfl⟩ := ha (by omega)
      refine lv_aload_n C.x C.b dX2_askForWord_58 rfl (lv_at hl 2 rfl) ?_
      refine gGet (v := .ref ce) C hK hH 0 6 rfl rfl inX2 (by decide) tw_107 rfl dX2_askForWord_59 ?_
      refine lv_iload_n C.x C.b dX2_askForWord_62 rfl (lv_at hl 4 rfl) ?_
      refine lv_aload_n C.x C.b dX2_askForWord_63 rfl (lv_at hl 2 rfl) ?_
      refine gGet (v := .ref rg) C hK hH 0 5 rfl rfl inX2 (by decide) tw_106 rfl dX2_askForWord_64 ?_
      refine lv_iconst (v := nI 1) C.x C.b dX2_askForWord_67 (by decide) ?_
      refine gIald (v := (r 1)) C hK hH 1 rfl (by omega) (by decide) dX2_askForWord_68 rfl ?_
      refine gIast (f' := upd mm j9 (r 1)) (ws' := [(x, .inr (2, [.ref rd, .int wp, .ref st, .int (nI wt), .int (nI ah), .ref rg, .ref ce, .ref byt, .int (nI 0), .int cw, .int (bI bc), .int cb, .int cy, .int wr, .int ww, .int br])), (rg, .inl (D.1 11, 10, .inl r)), (ce, .inl (D.1 11, 64, .inl (upd mm j9 (r 1))))]) C hK hH 2 rfl (by omega) (by decide) rfl rfl dX2_askForWord_69 (fun H locs hH => ?_)
      refine lv_aload_n C.x C.b dX2_askForWord_70 rfl (lv_at hl 2 rfl) ?_
      refine lv_dup C.x C.b dX2_askForWord_71 rfl ?_
      refine gGet (v := .int ww) C hK hH 0 14 rfl rfl inX2 (by decide) tw_115 rfl dX2_askForWord_72 ?_
      refine lv_iconst (v := nI 1) C.x C.b dX2_askForWord_75 (by decide) ?_
      refine lv_iadd C.x C.b dX2_askForWord_76 ?_
      refine gPut (v := .int (ww + (nI 1))) (ws' := [(x, .inr (2, [.ref rd, .int wp, .ref st, .int (nI wt), .int (nI ah), .ref rg, .ref ce, .ref byt, .int (nI 0), .int cw, .int (bI bc), .int cb, .int cy, .int wr, .int (ww + (nI 1)), .int br])), (rg, .inl (D.1 11, 10, .inl r)), (ce, .inl (D.1 11, 64, .inl (upd mm j9 (r 1))))]) C hK hH 0 14 tyX2 tyX2_ok nmX2 rfl rfl inX2 (by decide) tw_115 rfl rfl rfl (Nat.le_of_ble_eq_true rfl) rfl dX2_askForWord_77 (fun H locs hH => ?_)
      refine lv_iload_n C.x C.b dX2_askForWord_80 rfl (lv_at hl 1 rfl) ?_
      refine vb_if_eq (tgt := 92) C.x C.b dX2_askForWord_81 (by decide) (fun c_81 => ?_) (fun c_81 => ?_)
      · exact rV C hr hH (⟨rfl, by simp only [if_neg c_14, decide_eq_false c_14, if_pos c_55, nI_clamp (show j9 < 2 ^ 31 by omega), c_81, if_true, Bool.false_eq_true, if_false] <;> rfl⟩) (Nat.le_of_ble_eq_true rfl) (Nat.le_of_ble_eq_true rfl) dX2_askForWord_92
      · refine lv_aload_n C.x C.b dX2_askForWord_84 rfl (lv_at hl 2 rfl) ?_
        refine gGet (v := .ref rg) C hK hH 0 5 rfl rfl inX2 (by decide) tw_106 rfl dX2_askForWord_85 ?_
        refine lv_iconst (v := nI 1) C.x C.b dX2_askForWord_88 (by decide) ?_
        refine lv_iload C.x C.b dX2_askForWord_89 (lv_at hl 0 rfl) ?_
        refine gIast (f' := upd r 1 cw) (ws' := [(x, .inr (2, [.ref rd, .int wp, .ref st, .int (nI wt), .int (nI ah), .ref rg, .ref ce, .ref byt, .int (nI 0), .int cw, .int (bI bc), .int cb, .int cy, .int wr, .int (ww + (nI 1)), .int br])), (rg, .inl (D.1 11, 10, .inl (upd r 1 cw))), (ce, .inl (D.1 11, 64, .inl (upd mm j9 (r 1))))]) C hK hH 1 rfl (by omega) (by decide) rfl rfl dX2_askForWord_91 (fun H locs hH => ?_)
        exact rV C hr hH (⟨rfl, by simp only [if_neg c_14, decide_eq_false c_14, if_pos c_55, nI_clamp (show j9 < 2 ^ 31 by omega), c_81, if_true, Bool.false_eq_true, if_false] <;> rfl⟩) (Nat.le_of_ble_eq_true rfl) (Nat.le_of_ble_eq_true rfl) dX2_askForWord_92
  · refine lv_iconst (v := nI 1) C.x C.b dX2_askForWord_17 (by decide) ?_
    refine lv_goto (tgt := 22) C.x C.b dX2_askForWord_18 (by decide) ?_
    refine gPut (v := .int (nI 1)) (ws' := [(x, .inr (2, [.ref rd, .int wp, .ref st, .int (nI wt), .int (nI ah), .ref rg, .ref ce, .ref byt, .int (nI 1), .int cw, .int (bI bc), .int cb, .int cy, .int wr, .int ww, .int br])), (rg, .inl (D.1 11, 10, .inl r)), (ce, .inl (D.1 11, 64, .inl mm))]) C hK hH 0 8 tyX2 tyX2_ok nmX2 rfl rfl inX2 (by decide) tw_109 rfl (by decide) (by decide) (Nat.le_of_ble_eq_true rfl) rfl dX2_askForWord_22 (fun H locs hH => ?_)
    refine lv_iload_n C.x C.b dX2_askForWord_25 rfl (lv_at hl 3 rfl) ?_
    refine lv_iconst (v := nI 1) C.x C.b dX2_askForWord_26 (by decide) ?_
    refine vn_icmp_ne (tgt := 53) C.x C.b dX2_askForWord_27 (by decide) (by omega) (by omega) (fun q => absurd c_14 q) (fun _ => ?_)
    obtain ⟨j9, hj9, rfl⟩ := ha (by omega)
    refine lv_aload_n C.x C.b dX2_askForWord_30 rfl (lv_at hl 2 rfl) ?_
    refine lv_aload_n C.x C.b dX2_askForWord_31 rfl (lv_at hl 2 rfl) ?_
    refine gGet (v := .ref ce) C hK hH 0 6 rfl rfl inX2 (by decide) tw_107 rfl dX2_askForWord_32 ?_
    refine lv_iload_n C.x C.b dX2_askForWord_35 rfl (lv_at hl 4 rfl) ?_
    refine gIald (v := (mm j9)) C hK hH 2 rfl (by omega) (by decide) dX2_askForWord_36 rfl ?_
    refine gPut (v := .int (mm j9)) (ws' := [(x, .inr (2, [.ref rd, .int wp, .ref st, .int (nI wt), .int (nI ah), .ref rg, .ref ce, .ref byt, .int (nI 1), .int (mm j9), .int (bI bc), .int cb, .int cy, .int wr, .int ww, .int br])), (rg, .inl (D.1 11, 10, .inl r)), (ce, .inl (D.1 11, 64, .inl mm))]) C hK hH 0 9 tyX2 tyX2_ok nmX2 rfl rfl inX2 (by decide) tw_110 rfl rfl rfl (Nat.le_of_ble_eq_true rfl) rfl dX2_askForWord_37 (fun H locs hH => ?_)
    refine lv_aload_n C.x C.b dX2_askForWord_40 rfl (lv_at hl 2 rfl) ?_
    refine lv_dup C.x C.b dX2_askForWord_41 rfl ?_
    refine gGet (v := .int wr) C hK hH 0 13 rfl rfl inX2 (by decide) tw_114 rfl dX2_askForWord_42 ?_
    refine lv_iconst (v := nI 1) C.x C.b dX2_askForWord_45 (by decide) ?_
    refine lv_iadd C.x C.b dX2_askForWord_46 ?_
    refine gPut (v := .int (wr + (nI 1))) (ws' := [(x, .inr (2, [.ref rd, .int wp, .ref st, .int (nI wt), .int (nI ah), .ref rg, .ref ce, .ref byt, .int (nI 1), .int (mm j9), .int (bI bc), .int cb, .int cy, .int (wr + (nI 1)), .int ww, .int br])), (rg, .inl (D.1 11, 10, .inl r)), (ce, .inl (D.1 11, 64, .inl mm))]) C hK hH 0 13 tyX2 tyX2_ok nmX2 rfl rfl inX2 (by decide) tw_114 rfl rfl rfl (Nat.le_of_ble_eq_true rfl) rfl dX2_askForWord_47 (fun H locs hH => ?_)
    refine lv_goto (tgt := 80) C.x C.b dX2_askForWord_50 (by decide) ?_
    refine lv_iload_n C.x C.b dX2_askForWord_80 rfl (lv_at hl 1 rfl) ?_
    refine vb_if_eq (tgt := 92) C.x C.b dX2_askForWord_81 (by decide) (fun c_81 => ?_) (fun c_81 => ?_)
    · exact rV C hr hH (⟨rfl, by simp only [if_pos c_14, decide_eq_true c_14, if_neg (show ¬ k = 2 by omega), nI_clamp (show j9 < 2 ^ 31 by omega), c_81, if_true, Bool.false_eq_true, if_false] <;> rfl⟩) (Nat.le_of_ble_eq_true rfl) (Nat.le_of_ble_eq_true rfl) dX2_askForWord_92
    · refine lv_aload_n C.x C.b dX2_askForWord_84 rfl (lv_at hl 2 rfl) ?_
      refine gGet (v := .ref rg) C hK hH 0 5 rfl rfl inX2 (by decide) tw_106 rfl dX2_askForWord_85 ?_
      refine lv_iconst (v := nI 1) C.x C.b dX2_askForWord_88 (by decide) ?_
      refine lv_iload C.x C.b dX2_askForWord_89 (lv_at hl 0 rfl) ?_
      refine gIast (f' := upd r 1 cw) (ws' := [(x, .inr (2, [.ref rd, .int wp, .ref st, .int (nI wt), .int (nI ah), .ref rg, .ref ce, .ref byt, .int (nI 1), .int (mm j9), .int (bI bc), .int cb, .int cy, .int (wr + (nI 1)), .int ww, .int br])), (rg, .inl (D.1 11, 10, .inl (upd r 1 cw))), (ce, .inl (D.1 11, 64, .inl mm))]) C hK hH 1 rfl (by omega) (by decide) rfl rfl dX2_askForWord_91 (fun H locs hH => ?_)
      exact rV C hr hH (⟨rfl, by simp only [if_pos c_14, decide_eq_true c_14, if_neg (show ¬ k = 2 by omega), nI_clamp (show j9 < 2 ^ 31 by omega), c_81, if_true, Bool.false_eq_true, if_false] <;> rfl⟩) (Nat.le_of_ble_eq_true rfl) (Nat.le_of_ble_eq_true rfl) dX2_askForWord_92
set_option maxHeartbeats 4000000 in
set_option maxRecDepth 100000 in
theorem c_askB (l : Launch) (htr : l.stackTraces = false) (D : va_G) (sz : Nat) (x rd st rg ce byt : Nat) (wp : Int32) (wt ah : Nat) (wc : Bool) (cw : Int32) (bc : Bool) (cb cy wr ww br : Int32) (r kb : Nat → Int32) (f6 : Bool) (q : Int32) (hq : f6 = true → ∃ j, j < 64 ∧ q = nI j) : Ct l yX2_askForByte wX2_askForByte { frames := 0, cells := 0, slots := 0, locals := 0 } D ([(x, .inr (2, [.ref rd, .int wp, .ref st, .int (nI wt), .int (nI ah), .ref rg, .ref ce, .ref byt, .int (bI wc), .int cw, .int (bI bc), .int cb, .int cy, .int wr, .int ww, .int br])), (rg, .inl (D.1 11, 10, .inl r)), (byt, .inl (D.1 11, 64, .inl kb))]) [.ref x, .int (bI f6), .int q] sz (fun v w => v = none ∧ w = [(x, .inr (2, [.ref rd, .int wp, .ref st, .int (nI wt), .int (nI ah), .ref rg, .ref ce, .ref byt, .int (bI wc), .int cw, .int (bI f6), .int (if f6 = true then kb q.toNatClampNeg else cb), .int cy, .int wr, .int ww, .int (if f6 = true then br + nI 1 else br)])), (rg, .inl (D.1 11, 10, .inl (if bc = true then upd r 9 cb else r))), (byt, .inl (D.1 11, 64, .inl kb))]) (nox) := by
  refine Ct.of (cc := cX2_askForByte) (nL := 5) (ret := none) (own := RX2) htr (by decide) rfl (Nat.le_of_ble_eq_true rfl) ?_
  intro p e s m args below meth c A C hr hK H locs hH ls hl
  have hl : lv_has ls 5 [(0, .ref x), (1, .int (bI f6)), (2, .int q)] := hl
  refine lv_aload_n C.x C.b dX2_askForByte_0 rfl (lv_at hl 0 rfl) ?_
  refine gGet (v := .int (bI bc)) C hK hH 0 10 rfl rfl inX2 (by decide) tw_111 rfl dX2_askForByte_1 ?_
  refine lv_istore_n (lv' := [(3, .int (bI bc)), (0, .ref x), (1, .int (bI f6)), (2, .int q)]) C.x C.b dX2_askForByte_4 rfl hl (by decide) rfl (fun ls hl => ?_)
  refine lv_aload_n C.x C.b dX2_askForByte_5 rfl (lv_at hl 1 rfl) ?_
  refine gGet (v := .int cb) C hK hH 0 11 rfl rfl inX2 (by decide) tw_112 rfl dX2_askForByte_6 ?_
  refine lv_istore (lv' := [(4, .int cb), (3, .int (bI bc)), (0, .ref x), (1, .int (bI f6)), (2, .int q)]) C.x C.b dX2_askForByte_9 hl (by decide) rfl (fun ls hl => ?_)
  refine lv_aload_n C.x C.b dX2_askForByte_11 rfl (lv_at hl 2 rfl) ?_
  refine lv_iload_n C.x C.b dX2_askForByte_12 rfl (lv_at hl 3 rfl) ?_
  refine gPut (v := .int (bI f6)) (ws' := [(x, .inr (2, [.ref rd, .int wp, .ref st, .int (nI wt), .int (nI ah), .ref rg, .ref ce, .ref byt, .int (bI wc), .int cw, .int (bI f6), .int cb, .int cy, .int wr, .int ww, .int br])), (rg, .inl (D.1 11, 10, .inl r)), (byt, .inl (D.1 11, 64, .inl kb))]) C hK hH 0 10 tyX2 tyX2_ok nmX2 rfl rfl inX2 (by decide) tw_111 rfl (nz_b _) (fz_b _) (Nat.le_of_ble_eq_true rfl) rfl dX2_askForByte_13 (fun H locs hH => ?_)
  refine lv_iload_n C.x C.b dX2_askForByte_16 rfl (lv_at hl 3 rfl) ?_
  refine vb_if_eq (tgt := 40) C.x C.b dX2_askForByte_17 (by decide) (fun c_17 => ?_) (fun c_17 => ?_)
  · refine lv_iload_n C.x C.b dX2_askForByte_40 rfl (lv_at hl 1 rfl) ?_
    refine vb_if_eq (tgt := 53) C.x C.b dX2_askForByte_41 (by decide) (fun c_41 => ?_) (fun c_41 => ?_)
    · exact rV C hr hH (⟨rfl, by simp only [c_17, c_41, if_true, Bool.false_eq_true, if_false] <;> rfl⟩) (Nat.le_of_ble_eq_true rfl) (Nat.le_of_ble_eq_true rfl) dX2_askForByte_53
    · refine lv_aload_n C.x C.b dX2_askForByte_44 rfl (lv_at hl 2 rfl) ?_
      refine gGet (v := .ref rg) C hK hH 0 5 rfl rfl inX2 (by decide) tw_106 rfl dX2_askForByte_45 ?_
      refine lv_bipush (v := nI 9) C.x C.b dX2_askForByte_48 (by decide) ?_
      refine lv_iload C.x C.b dX2_askForByte_50 (lv_at hl 0 rfl) ?_
      refine gIast (f' := upd r 9 cb) (ws' := [(x, .inr (2, [.ref rd, .int wp, .ref st, .int (nI wt), .int (nI ah), .ref rg, .ref ce, .ref byt, .int (bI wc), .int cw, .int (bI f6), .int cb, .int cy, .int wr, .int ww, .int br])), (rg, .inl (D.1 11, 10, .inl (upd r 9 cb))), (byt, .inl (D.1 11, 64, .inl kb))]) C hK hH 1 rfl (by omega) (by decide) rfl rfl dX2_askForByte_52 (fun H locs hH => ?_)
      exact rV C hr hH (⟨rfl, by simp only [c_17, c_41, if_true, Bool.false_eq_true, if_false] <;> rfl⟩) (Nat.le_of_ble_eq_true rfl) (Nat.le_of_ble_eq_true rfl) dX2_askForByte_53
  · obtain ⟨j9, hj9, rfl⟩ := hq c_17
    refine lv_aload_n C.x C.b dX2_askForByte_20 rfl (lv_at hl 2 rfl) ?_
    refine lv_aload_n C.x C.b dX2_askForByte_21 rfl (lv_at hl 2 rfl) ?_
    refine gGet (v := .ref byt) C hK hH 0 7 rfl rfl inX2 (by decide) tw_108 rfl dX2_askForByte_22 ?_
    refine lv_iload_n C.x C.b dX2_askForByte_25 rfl (lv_at hl 4 rfl) ?_
    refine gIald (v := (kb j9)) C hK hH 2 rfl (by omega) (by decide) dX2_askForByte_26 rfl ?_
    refine gPut (v := .int (kb j9)) (ws' := [(x, .inr (2, [.ref rd, .int wp, .ref st, .int (nI wt), .int (nI ah), .ref rg, .ref ce, .ref byt, .int (bI wc), .int cw, .int (bI f6), .int (kb j9), .int cy, .int wr, .int ww, .int br])), (rg, .inl (D.1 11, 10, .inl r)), (byt, .inl (D.1 11, 64, .inl kb))]) C hK hH 0 11 tyX2 tyX2_ok nmX2 rfl rfl inX2 (by decide) tw_112 rfl rfl rfl (Nat.le_of_ble_eq_true rfl) rfl dX2_askForByte_27 (fun H locs hH => ?_)
    refine lv_aload_n C.x C.b dX2_askForByte_30 rfl (lv_at hl 2 rfl) ?_
    refine lv_dup C.x C.b dX2_askForByte_31 rfl ?_
    refine gGet (v := .int br) C hK hH 0 15 rfl rfl inX2 (by decide) tw_116 rfl dX2_askForByte_32 ?_
    refine lv_iconst (v := nI 1) C.x C.b dX2_askForByte_35 (by decide) ?_
    refine lv_iadd C.x C.b dX2_askForByte_36 ?_
    refine gPut (v := .int (br + (nI 1))) (ws' := [(x, .inr (2, [.ref rd, .int wp, .ref st, .int (nI wt), .int (nI ah), .ref rg, .ref ce, .ref byt, .int (bI wc), .int cw, .int (bI f6), .int (kb j9), .int cy, .int wr, .int ww, .int (br + (nI 1))])), (rg, .inl (D.1 11, 10, .inl r)), (byt, .inl (D.1 11, 64, .inl kb))]) C hK hH 0 15 tyX2 tyX2_ok nmX2 rfl rfl inX2 (by decide) tw_116 rfl rfl rfl (Nat.le_of_ble_eq_true rfl) rfl dX2_askForByte_37 (fun H locs hH => ?_)
    refine lv_iload_n C.x C.b dX2_askForByte_40 rfl (lv_at hl 1 rfl) ?_
    refine vb_if_eq (tgt := 53) C.x C.b dX2_askForByte_41 (by decide) (fun c_41 => ?_) (fun c_41 => ?_)
    · exact rV C hr hH (⟨rfl, by simp only [c_17, c_41, nI_clamp (show j9 < 2 ^ 31 by omega), if_true, Bool.false_eq_true, if_false] <;> rfl⟩) (Nat.le_of_ble_eq_true rfl) (Nat.le_of_ble_eq_true rfl) dX2_askForByte_53
    · refine lv_aload_n C.x C.b dX2_askForByte_44 rfl (lv_at hl 2 rfl) ?_
      refine gGet (v := .ref rg) C hK hH 0 5 rfl rfl inX2 (by decide) tw_106 rfl dX2_askForByte_45 ?_
      refine lv_bipush (v := nI 9) C.x C.b dX2_askForByte_48 (by decide) ?_
      refine lv_iload C.x C.b dX2_askForByte_50 (lv_at hl 0 rfl) ?_
      refine gIast (f' := upd r 9 cb) (ws' := [(x, .inr (2, [.ref rd, .int wp, .ref st, .int (nI wt), .int (nI ah), .ref rg, .ref ce, .ref byt, .int (bI wc), .int cw, .int (bI f6), .int (kb j9), .int cy, .int wr, .int ww, .int (br + (nI 1))])), (rg, .inl (D.1 11, 10, .inl (upd r 9 cb))), (byt, .inl (D.1 11, 64, .inl kb))]) C hK hH 1 rfl (by omega) (by decide) rfl rfl dX2_askForByte_52 (fun H locs hH => ?_)
      exact rV C hr hH (⟨rfl, by simp only [c_17, c_41, nI_clamp (show j9 < 2 ^ 31 by omega), if_true, Bool.false_eq_true, if_false] <;> rfl⟩) (Nat.le_of_ble_eq_true rfl) (Nat.le_of_ble_eq_true rfl) dX2_askForByte_53
