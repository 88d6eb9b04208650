def tdV (w : WT) : Nat → Int32
  | 0 => nI w.2.1
  | 1 => nI w.2.2.2.2.2.1
  | 2 => bI w.2.2.2.2.2.2.1
  | 3 => nI w.2.2.2.2.2.2.2.1
  | 4 => oI w.2.2.2.2.2.2.2.2.1
  | 5 => oI w.2.2.2.2.2.2.2.2.2
  | _ => nI w.2.2.2.2.1
set_option maxHeartbeats 4000000 in
set_option maxRecDepth 100000 in
theorem c_count (l : Launch) (htr : l.stackTraces = false) (D : va_G) (sz : Nat) (x rd st rg ce byt : Nat) (wp : Int32) (wt ah : Nat) (wc : Bool) (cw : Int32) (bc : Bool) (cb cy wr ww br : Int32) (tx d0 n at1 : Nat) (i : Int32)  : Ct l yX2_count wX2_count { frames := 0, cells := 0, slots := 0, locals := 0 } D ([(x, .inr (2, [.ref rd, .int wp, .ref st, .int (nI wt), .int (nI ah), .ref rg, .ref ce, .ref byt, .int (bI wc), .int cw, .int (bI bc), .int cb, .int cy, .int wr, .int ww, .int br])), (rd, .inr (1, [.ref tx, .int (nI n), .int (nI at1), .ref d0]))]) [.ref x, .int i] sz (fun v w => ((∃ j, j < 10 ∧ i = nI j ∧ v = some (.int (ctV wp n wt ah cy wc bc wr ww br j))) ∨ ((∀ j, j < 10 → i ≠ nI j) ∧ v = some (.int (-1)))) ∧ w = [(x, .inr (2, [.ref rd, .int wp, .ref st, .int (nI wt), .int (nI ah), .ref rg, .ref ce, .ref byt, .int (bI wc), .int cw, .int (bI bc), .int cb, .int cy, .int wr, .int ww, .int br])), (rd, .inr (1, [.ref tx, .int (nI n), .int (nI at1), .ref d0]))]) (nox) := by
  refine Ct.of (cc := cX2_count) (nL := 2) (ret := (some .int)) (own := RX2) htr (by decide) rfl (Nat.le_of_ble_eq_true rfl) ?_
  intro p e s m args below meth c A C hr hK H locs hH ls hl
  have hl : lv_has ls 2 [(0, .ref x), (1, .int i)] := hl
  refine lv_iload_n C.x C.b dX2_count_0 rfl (lv_at hl 1 rfl) ?_
  rcases pk_ix i (n := 10) (by decide) with h9 | h9 | ⟨j9, hj9, rfl⟩
  · refine lv_tableOut (tgt := 125) C.x C.b dX2_count_1 (Or.inl (sw_neg h9)) (by decide) ?_
    refine lv_iconst (v := -1) C.x C.b dX2_count_125 (by decide) ?_
    exact rI C hr hH (⟨Or.inr ⟨ixneg (by decide) h9, rfl⟩, rfl⟩) (Nat.le_of_ble_eq_true rfl) (Nat.le_of_ble_eq_true rfl) dX2_count_126
  · refine lv_tableOut (tgt := 125) C.x C.b dX2_count_1 (Or.inr (by have := sw_big h9 (by decide); omega)) (by decide) ?_
    refine lv_iconst (v := -1) C.x C.b dX2_count_125 (by decide) ?_
    exact rI C hr hH (⟨Or.inr ⟨ixbig (by decide) h9, rfl⟩, rfl⟩) (Nat.le_of_ble_eq_true rfl) (Nat.le_of_ble_eq_true rfl) dX2_count_126
  · obtain rfl | rfl | rfl | rfl | rfl | rfl | rfl | rfl | rfl | rfl : j9 = 0 ∨ j9 = 1 ∨ j9 = 2 ∨ j9 = 3 ∨ j9 = 4 ∨ j9 = 5 ∨ j9 = 6 ∨ j9 = 7 ∨ j9 = 8 ∨ j9 = 9 := by omega
    · refine lv_tableIn (off := 55) (tgt := 56) C.x C.b dX2_count_1 (by decide) (by decide) (by decide) (by decide) ?_
      refine lv_aload_n C.x C.b dX2_count_56 rfl (lv_at hl 0 rfl) ?_
      refine gGet (v := .int wp) C hK hH 0 1 rfl rfl inX2 (by decide) tw_102 rfl dX2_count_57 ?_
      exact rI C hr hH (⟨Or.inl ⟨0, by decide, rfl, rfl⟩, rfl⟩) (Nat.le_of_ble_eq_true rfl) (Nat.le_of_ble_eq_true rfl) dX2_count_60
    · refine lv_tableIn (off := 60) (tgt := 61) C.x C.b dX2_count_1 (by decide) (by decide) (by decide) (by decide) ?_
      refine lv_aload_n C.x C.b dX2_count_61 rfl (lv_at hl 0 rfl) ?_
      refine gGet (v := .ref rd) C hK hH 0 0 rfl rfl inX2 (by decide) tw_101 rfl dX2_count_62 ?_
      refine gGetN (v := .int (nI n)) C hK hH 1 1 rfl rfl inX1 (by decide) (nwl_of tn_86 rfl) rfl dX2_count_65 ?_
      exact rI C hr hH (⟨Or.inl ⟨1, by decide, rfl, rfl⟩, rfl⟩) (Nat.le_of_ble_eq_true rfl) (Nat.le_of_ble_eq_true rfl) dX2_count_68
    · refine lv_tableIn (off := 68) (tgt := 69) C.x C.b dX2_count_1 (by decide) (by decide) (by decide) (by decide) ?_
      refine lv_aload_n C.x C.b dX2_count_69 rfl (lv_at hl 0 rfl) ?_
      refine gGet (v := .int (nI wt)) C hK hH 0 3 rfl rfl inX2 (by decide) tw_104 rfl dX2_count_70 ?_
      exact rI C hr hH (⟨Or.inl ⟨2, by decide, rfl, rfl⟩, rfl⟩) (Nat.le_of_ble_eq_true rfl) (Nat.le_of_ble_eq_true rfl) dX2_count_73
    · refine lv_tableIn (off := 73) (tgt := 74) C.x C.b dX2_count_1 (by decide) (by decide) (by decide) (by decide) ?_
      refine lv_aload_n C.x C.b dX2_count_74 rfl (lv_at hl 0 rfl) ?_
      refine gGet (v := .int (nI ah)) C hK hH 0 4 rfl rfl inX2 (by decide) tw_105 rfl dX2_count_75 ?_
      exact rI C hr hH (⟨Or.inl ⟨3, by decide, rfl, rfl⟩, rfl⟩) (Nat.le_of_ble_eq_true rfl) (Nat.le_of_ble_eq_true rfl) dX2_count_78
    · refine lv_tableIn (off := 78) (tgt := 79) C.x C.b dX2_count_1 (by decide) (by decide) (by decide) (by decide) ?_
      refine lv_aload_n C.x C.b dX2_count_79 rfl (lv_at hl 0 rfl) ?_
      refine gGet (v := .int cy) C hK hH 0 12 rfl rfl inX2 (by decide) tw_113 rfl dX2_count_80 ?_
      exact rI C hr hH (⟨Or.inl ⟨4, by decide, rfl, rfl⟩, rfl⟩) (Nat.le_of_ble_eq_true rfl) (Nat.le_of_ble_eq_true rfl) dX2_count_83
    · refine lv_tableIn (off := 83) (tgt := 84) C.x C.b dX2_count_1 (by decide) (by decide) (by decide) (by decide) ?_
      refine lv_aload_n C.x C.b dX2_count_84 rfl (lv_at hl 0 rfl) ?_
      refine gGet (v := .int (bI wc)) C hK hH 0 8 rfl rfl inX2 (by decide) tw_109 rfl dX2_count_85 ?_
      refine vb_if_eq (tgt := 95) C.x C.b dX2_count_88 (by decide) (fun c_88 => ?_) (fun c_88 => ?_)
      · refine lv_iconst (v := nI 0) C.x C.b dX2_count_95 (by decide) ?_
        exact rI C hr hH (⟨Or.inl ⟨5, by decide, rfl, by show _ = some (Value.int (bI wc)); rw [c_88]; rfl⟩, rfl⟩) (Nat.le_of_ble_eq_true rfl) (Nat.le_of_ble_eq_true rfl) dX2_count_96
      · refine lv_iconst (v := nI 1) C.x C.b dX2_count_91 (by decide) ?_
        refine lv_goto (tgt := 96) C.x C.b dX2_count_92 (by decide) ?_
        exact rI C hr hH (⟨Or.inl ⟨5, by decide, rfl, by show _ = some (Value.int (bI wc)); rw [c_88]; rfl⟩, rfl⟩) (Nat.le_of_ble_eq_true rfl) (Nat.le_of_ble_eq_true rfl) dX2_count_96
    · refine lv_tableIn (off := 96) (tgt := 97) C.x C.b dX2_count_1 (by decide) (by decide) (by decide) (by decide) ?_
      refine lv_aload_n C.x C.b dX2_count_97 rfl (lv_at hl 0 rfl) ?_
      refine gGet (v := .int (bI bc)) C hK hH 0 10 rfl rfl inX2 (by decide) tw_111 rfl dX2_count_98 ?_
      refine vb_if_eq (tgt := 108) C.x C.b dX2_count_101 (by decide) (fun c_101 => ?_) (fun c_101 => ?_)
      · refine lv_iconst (v := nI 0) C.x C.b dX2_count_108 (by decide) ?_
        exact rI C hr hH (⟨Or.inl ⟨6, by decide, rfl, by show _ = some (Value.int (bI bc)); rw [c_101]; rfl⟩, rfl⟩) (Nat.le_of_ble_eq_true rfl) (Nat.le_of_ble_eq_true rfl) dX2_count_109
      · refine lv_iconst (v := nI 1) C.x C.b dX2_count_104 (by decide) ?_
        refine lv_goto (tgt := 109) C.x C.b dX2_count_105 (by decide) ?_
        exact rI C hr hH (⟨Or.inl ⟨6, by decide, rfl, by show _ = some (Value.int (bI bc)); rw [c_101]; rfl⟩, rfl⟩) (Nat.le_of_ble_eq_true rfl) (Nat.le_of_ble_eq_true rfl) dX2_count_109
    · refine lv_tableIn (off := 109) (tgt := 110) C.x C.b dX2_count_1 (by decide) (by decide) (by decide) (by decide) ?_
      refine lv_aload_n C.x C.b dX2_count_110 rfl (lv_at hl 0 rfl) ?_
      refine gGet (v := .int wr) C hK hH 0 13 rfl rfl inX2 (by decide) tw_114 rfl dX2_count_111 ?_
      exact rI C hr hH (⟨Or.inl ⟨7, by decide, rfl, rfl⟩, rfl⟩) (Nat.le_of_ble_eq_true rfl) (Nat.le_of_ble_eq_true rfl) dX2_count_114
    · refine lv_tableIn (off := 114) (tgt := 115) C.x C.b dX2_count_1 (by decide) (by decide) (by decide) (by decide) ?_
      refine lv_aload_n C.x C.b dX2_count_115 rfl (lv_at hl 0 rfl) ?_
      refine gGet (v := .int ww) C hK hH 0 14 rfl rfl inX2 (by decide) tw_115 rfl dX2_count_116 ?_
      exact rI C hr hH (⟨Or.inl ⟨8, by decide, rfl, rfl⟩, rfl⟩) (Nat.le_of_ble_eq_true rfl) (Nat.le_of_ble_eq_true rfl) dX2_count_119
    · refine lv_tableIn (off := 119) (tgt := 120) C.x C.b dX2_count_1 (by decide) (by decide) (by decide) (by decide) ?_
      refine lv_aload_n C.x C.b dX2_count_120 rfl (lv_at hl 0 rfl) ?_
      refine gGet (v := .int br) C hK hH 0 15 rfl rfl inX2 (by decide) tw_116 rfl dX2_count_121 ?_
      exact rI C hr hH (⟨Or.inl ⟨9, by decide, rfl, rfl⟩, rfl⟩) (Nat.le_of_ble_eq_true rfl) (Nat.le_of_ble_eq_true rfl) dX2_count_124
set_option maxHeartbeats 4000000 in
set_option maxRecDepth 100000 in
theorem c_word (l : Launch) (htr : l.stackTraces = false) (D : va_G) (sz : Nat) (x rd st rg ce byt : Nat) (wp : Int32) (wt ah : Nat) (wc : Bool) (cw : Int32) (bc : Bool) (cb cy wr ww br : Int32) (tx d0 : Nat) (t : Nat → Nat) (n at1 : Nat) (g : Nat → Option Nat) (i : Int32) (hn : n ≤ 40) (ht : ∀ j, t j < 128) : Ct l yX2_word wX2_word { frames := 10, cells := 3, slots := 22, locals := 216 } D ([(x, .inr (2, [.ref rd, .int wp, .ref st, .int (nI wt), .int (nI ah), .ref rg, .ref ce, .ref byt, .int (bI wc), .int cw, .int (bI bc), .int cb, .int cy, .int wr, .int ww, .int br])), (rd, .inr (1, [.ref tx, .int (nI n), .int (nI at1), .ref d0])), (tx, .inl (D.1 10, 40, .inl (fun j => nI (t j)))), (st, .inl (D.1 13, 64, .inr (.inr (.inr (.inr g)))))]) [.ref x, .int i] sz (fun v w => ∃ (k q9 a9 wt2 : Nat) (f0 f1 f2 f3 f4 f5 : Nat) (f6 : Bool) (f7 : Nat) (f8 f9 : Option Nat), k < 64 ∧ i = nI k ∧ ((g k = none ∧ wt2 = wt + 1) ∨ (g k ≠ none ∧ wt2 = wt)) ∧ RDT t n = .inr (f0, f1, f2, f3, f4, f5, f6, f7, f8, f9) ∧ v = some (.int (nI f0)) ∧ w = [(x, .inr (2, [.ref rd, .int wp, .ref st, .int (nI wt2), .int (nI ah), .ref rg, .ref ce, .ref byt, .int (bI wc), .int cw, .int (bI bc), .int cb, .int cy, .int wr, .int ww, .int br])), (st, .inl (D.1 13, 64, .inr (.inr (.inr (.inr (va_up g k (some q9))))))), (rd, .inr (1, [.ref tx, .int (nI 0), .int (nI a9), .ref q9])), (tx, .inl (D.1 10, 40, .inl (fun j => nI (t j)))), (q9, .inr (0, [.int (nI f0), .int (nI f1), .int (nI f2), .int (nI f3), .int (nI f4), .int (nI f5), .int (bI f6), .int (nI f7), .int (oI f8), .int (oI f9)]))]) (fun E w => ((∀ k, k < 64 → i ≠ nI k) ∧ E = eIA ∧ w = [(x, .inr (2, [.ref rd, .int wp, .ref st, .int (nI wt), .int (nI ah), .ref rg, .ref ce, .ref byt, .int (bI wc), .int cw, .int (bI bc), .int cb, .int cy, .int wr, .int ww, .int br])), (rd, .inr (1, [.ref tx, .int (nI n), .int (nI at1), .ref d0])), (tx, .inl (D.1 10, 40, .inl (fun j => nI (t j)))), (st, .inl (D.1 13, 64, .inr (.inr (.inr (.inr g)))))]) ∨ (∃ (k q9 a9 : Nat) (f0 f1 f2 f3 f4 f5 : Nat) (f6 : Bool) (f7 : Nat) (f8 f9 : Option Nat), k < 64 ∧ i = nI k ∧ RDT t n = .inl a9 ∧ a9 ≤ n ∧ E = eIA ∧ w = [(x, .inr (2, [.ref rd, .int (nI a9), .ref st, .int (nI wt), .int (nI ah), .ref rg, .ref ce, .ref byt, .int (bI wc), .int cw, .int (bI bc), .int cb, .int cy, .int wr, .int ww, .int br])), (st, .inl (D.1 13, 64, .inr (.inr (.inr (.inr g))))), (rd, .inr (1, [.ref tx, .int (nI 0), .int (nI a9), .ref q9])), (tx, .inl (D.1 10, 40, .inl (fun j => nI (t j)))), (q9, .inr (0, [.int (nI f0), .int (nI f1), .int (nI f2), .int (nI f3), .int (nI f4), .int (nI f5), .int (bI f6), .int (nI f7), .int (oI f8), .int (oI f9)]))])) := by
  refine Ct.of (cc := cX2_word) (nL := 3) (ret := (some .int)) (own := RX2) htr (by decide) rfl (Nat.le_of_ble_eq_true rfl) ?_
  intro p e s m args below meth c A C hr hK H locs hH ls hl
  have hl : lv_has ls 3 [(0, .ref x), (1, .int i)] := hl
  refine lv_iload_n C.x C.b dX2_word_0 rfl (lv_at hl 1 rfl) ?_
  refine lv_bipush (v := nI 64) C.x C.b dX2_word_1 (by decide) ?_
  refine kS (As := [.int i, .int (nI 64)]) (isC := []) (isR := [0, 1, 2, 3]) (wr := [(x, .inr (2, [.ref rd, .int wp, .ref st, .int (nI wt), .int (nI ah), .ref rg, .ref ce, .ref byt, .int (bI wc), .int cw, .int (bI bc), .int cb, .int cy, .int wr, .int ww, .int br])), (rd, .inr (1, [.ref tx, .int (nI n), .int (nI at1), .ref d0])), (tx, .inl (D.1 10, 40, .inl (fun j => nI (t j)))), (st, .inl (D.1 13, 64, .inr (.inr (.inr (.inr g)))))]) C hK hH (c_refuse l htr D H.size i 64 (by omega)) ⟨rfl, rfl, rfl, rfl, by decide⟩ tw_257 tw_258 tw_1 kX2_refuseOutside ⟨by decide +kernel, by decide +kernel, (by decide +kernel : (parseMethodDescriptor yX2_refuseOutside.desc).map (fun d => d.parameters.length) = some 2)⟩ ⟨(Nat.le_of_ble_eq_true rfl), (Nat.le_of_ble_eq_true rfl)⟩ hl.1 (Nat.le_of_ble_eq_true rfl) dX2_word_3 ⟨(Nat.le_of_ble_eq_true rfl), (Nat.le_of_ble_eq_true rfl)⟩ (fun v9 w9 H locs hN hH => ?_) (fun E9 q9 ce9 w9 H locs hX hH hce hcv hcl => ?_)
  · obtain ⟨⟨k_3, hk_3, rfl⟩, rfl, rfl⟩ := hN
    have hH : Hp D A s ([(x, .inr (2, [.ref rd, .int wp, .ref st, .int (nI wt), .int (nI ah), .ref rg, .ref ce, .ref byt, .int (bI wc), .int cw, .int (bI bc), .int cb, .int cy, .int wr, .int ww, .int br])), (rd, .inr (1, [.ref tx, .int (nI n), .int (nI at1), .ref d0])), (tx, .inl (D.1 10, 40, .inl (fun j => nI (t j)))), (st, .inl (D.1 13, 64, .inr (.inr (.inr (.inr g)))))]) H locs := hH
    refine W.eq (g2 := F0 m 6 ls []) rfl ?_
    refine lv_aload_n C.x C.b dX2_word_6 rfl (lv_at hl 0 rfl) ?_
    refine gGet (v := .ref rd) C hK hH 0 0 rfl rfl inX2 (by decide) tw_101 rfl dX2_word_7 ?_
    refine kVN (As := []) (isC := [1, 2]) (isR := [0, 3]) (wr := [(x, .inr (2, [.ref rd, .int wp, .ref st, .int (nI wt), .int (nI ah), .ref rg, .ref ce, .ref byt, .int (bI wc), .int cw, .int (bI bc), .int cb, .int cy, .int wr, .int ww, .int br])), (st, .inl (D.1 13, 64, .inr (.inr (.inr (.inr g)))))]) C hK hH (c_read l htr D H.size rd tx d0 t n at1 hn ht) ⟨rfl, rfl, rfl, rfl, by decide⟩ 1 rfl rfl (nwl_of tn_263 rfl) tw_265 ts_2 tw_2 kX1_read ⟨by decide +kernel, by decide +kernel, (by decide +kernel : (parseMethodDescriptor yX1_read.desc).map (fun d => d.parameters.length) = some 0)⟩ ⟨(Nat.le_of_ble_eq_true rfl), (Nat.le_of_ble_eq_true rfl)⟩ hl.1 (Nat.le_of_ble_eq_true rfl) dX2_word_10 ⟨(Nat.le_of_ble_eq_true rfl), (Nat.le_of_ble_eq_true rfl)⟩ (fun v9 w9 H locs hN hH => ?_)
    rcases hN with ⟨q9, a9, f0, f1, f2, f3, f4, f5, f6, f7, f8, f9, hR, rfl, rfl⟩ | ⟨q9, a9, f0, f1, f2, f3, f4, f5, f6, f7, f8, f9, hR, ha9, rfl, rfl⟩
    · have hH : Hp D A s ([(x, .inr (2, [.ref rd, .int wp, .ref st, .int (nI wt), .int (nI ah), .ref rg, .ref ce, .ref byt, .int (bI wc), .int cw, .int (bI bc), .int cb, .int cy, .int wr, .int ww, .int br])), (st, .inl (D.1 13, 64, .inr (.inr (.inr (.inr g))))), (rd, .inr (1, [.ref tx, .int (nI n), .int (nI a9), .ref q9])), (tx, .inl (D.1 10, 40, .inl (fun j => nI (t j)))), (q9, .inr (0, [.int (nI f0), .int (nI f1), .int (nI f2), .int (nI f3), .int (nI f4), .int (nI f5), .int (bI f6), .int (nI f7), .int (oI f8), .int (oI f9)]))]) H locs := hH
      refine W.eq (g2 := F0 m 13 ls [.ref q9]) rfl ?_
      refine lv_astore_n (lv' := [(2, .ref q9), (0, .ref x), (1, .int (nI k_3))]) C.x C.b dX2_word_13 rfl hl (by decide) rfl (fun ls hl => ?_)
      refine lv_aload_n C.x C.b dX2_word_14 rfl (lv_at hl 1 rfl) ?_
      refine gGet (v := .ref rd) C hK hH 0 0 rfl rfl inX2 (by decide) tw_101 rfl dX2_word_15 ?_
      refine lv_iconst (v := nI 0) C.x C.b dX2_word_18 (by decide) ?_
      refine gPutN (v := .int (nI 0)) (ws' := [(x, .inr (2, [.ref rd, .int wp, .ref st, .int (nI wt), .int (nI ah), .ref rg, .ref ce, .ref byt, .int (bI wc), .int cw, .int (bI bc), .int cb, .int cy, .int wr, .int ww, .int br])), (st, .inl (D.1 13, 64, .inr (.inr (.inr (.inr g))))), (rd, .inr (1, [.ref tx, .int (nI 0), .int (nI a9), .ref q9])), (tx, .inl (D.1 10, 40, .inl (fun j => nI (t j)))), (q9, .inr (0, [.int (nI f0), .int (nI f1), .int (nI f2), .int (nI f3), .int (nI f4), .int (nI f5), .int (bI f6), .int (nI f7), .int (oI f8), .int (oI f9)]))]) C hK hH 2 1 tyX1 tyX1_ok nmX1 rfl rfl inX1 (by decide) (nwl_of tn_86 rfl) rfl rfl rfl (Nat.le_of_ble_eq_true rfl) rfl dX2_word_19 (fun H locs hH => ?_)
      refine lv_aload_n C.x C.b dX2_word_22 rfl (lv_at hl 0 rfl) ?_
      refine lv_ifnonnull (tgt := 45) C.x C.b dX2_word_23 (by decide) ?_
      refine lv_aload_n C.x C.b dX2_word_45 rfl (lv_at hl 1 rfl) ?_
      refine gGet (v := .ref st) C hK hH 0 2 rfl rfl inX2 (by decide) tw_103 rfl dX2_word_46 ?_
      refine lv_iload_n C.x C.b dX2_word_49 rfl (lv_at hl 2 rfl) ?_
      rcases op_or (g k_3) with hg_50 | ⟨a_50, hg_50⟩
      · refine gAald (v := none) C hK hH 1 rfl (by omega) (by decide) dX2_word_50 hg_50 ?_
        refine W.eq (g2 := F0 m 51 ls [.null]) rfl ?_
        refine lv_ifnonnullN C.x C.b dX2_word_51 ?_
        refine lv_aload_n C.x C.b dX2_word_54 rfl (lv_at hl 1 rfl) ?_
        refine lv_dup C.x C.b dX2_word_55 rfl ?_
        refine gGet (v := .int (nI wt)) C hK hH 0 3 rfl rfl inX2 (by decide) tw_104 rfl dX2_word_56 ?_
        refine lv_iconst (v := nI 1) C.x C.b dX2_word_59 (by decide) ?_
        refine lv_iadd C.x C.b dX2_word_60 ?_
        refine vt_top (nI_add _ _) ?_
        refine gPut (v := .int (nI (wt + 1))) (ws' := [(x, .inr (2, [.ref rd, .int wp, .ref st, .int (nI (wt + 1)), .int (nI ah), .ref rg, .ref ce, .ref byt, .int (bI wc), .int cw, .int (bI bc), .int cb, .int cy, .int wr, .int ww, .int br])), (st, .inl (D.1 13, 64, .inr (.inr (.inr (.inr g))))), (rd, .inr (1, [.ref tx, .int (nI 0), .int (nI a9), .ref q9])), (tx, .inl (D.1 10, 40, .inl (fun j => nI (t j)))), (q9, .inr (0, [.int (nI f0), .int (nI f1), .int (nI f2), .int (nI f3), .int (nI f4), .int (nI f5), .int (bI f6), .int (nI f7), .int (oI f8), .int (oI f9)]))]) C hK hH 0 3 tyX2 tyX2_ok nmX2 rfl rfl inX2 (by decide) tw_104 rfl rfl rfl (Nat.le_of_ble_eq_true rfl) rfl dX2_word_61 (fun H locs hH => ?_)
        refine lv_aload_n C.x C.b dX2_word_64 rfl (lv_at hl 1 rfl) ?_
        refine gGet (v := .ref st) C hK hH 0 2 rfl rfl inX2 (by decide) tw_103 rfl dX2_word_65 ?_
        refine lv_iload_n C.x C.b dX2_word_68 rfl (lv_at hl 2 rfl) ?_
        refine lv_aload_n C.x C.b dX2_word_69 rfl (lv_at hl 0 rfl) ?_
        refine gAast (f' := va_up g k_3 (some q9)) (ws' := [(x, .inr (2, [.ref rd, .int wp, .ref st, .int (nI (wt + 1)), .int (nI ah), .ref rg, .ref ce, .ref byt, .int (bI wc), .int cw, .int (bI bc), .int cb, .int cy, .int wr, .int ww, .int br])), (st, .inl (D.1 13, 64, .inr (.inr (.inr (.inr (va_up g k_3 (some q9))))))), (rd, .inr (1, [.ref tx, .int (nI 0), .int (nI a9), .ref q9])), (tx, .inl (D.1 10, 40, .inl (fun j => nI (t j)))), (q9, .inr (0, [.int (nI f0), .int (nI f1), .int (nI f2), .int (nI f3), .int (nI f4), .int (nI f5), .int (bI f6), .int (nI f7), .int (oI f8), .int (oI f9)]))]) C hK hH 1 4 rfl (by omega) (by decide) rfl rfl rfl dX2_word_70 (fun H locs hH => ?_)
        refine lv_aload_n C.x C.b dX2_word_71 rfl (lv_at hl 0 rfl) ?_
        refine gGetN (v := .int (nI f0)) C hK hH 4 0 rfl rfl inX0 (by decide) (nwl_of tn_39 rfl) rfl dX2_word_72 ?_
        exact rI C hr hH (⟨k_3, q9, a9, wt + 1, f0, f1, f2, f3, f4, f5, f6, f7, f8, f9, hk_3, rfl, Or.inl ⟨hg_50, rfl⟩, hR, rfl, rfl⟩) (Nat.le_of_ble_eq_true rfl) (Nat.le_of_ble_eq_true rfl) dX2_word_75
      · refine gAald (v := some a_50) C hK hH 1 rfl (by omega) (by decide) dX2_word_50 hg_50 ?_
        refine W.eq (g2 := F0 m 51 ls [.ref a_50]) rfl ?_
        refine lv_ifnonnull (tgt := 64) C.x C.b dX2_word_51 (by decide) ?_
        refine lv_aload_n C.x C.b dX2_word_64 rfl (lv_at hl 1 rfl) ?_
        refine gGet (v := .ref st) C hK hH 0 2 rfl rfl inX2 (by decide) tw_103 rfl dX2_word_65 ?_
        refine lv_iload_n C.x C.b dX2_word_68 rfl (lv_at hl 2 rfl) ?_
        refine lv_aload_n C.x C.b dX2_word_69 rfl (lv_at hl 0 rfl) ?_
        refine gAast (f' := va_up g k_3 (some q9)) (ws' := [(x, .inr (2, [.ref rd, .int wp, .ref st, .int (nI wt), .int (nI ah), .ref rg, .ref ce, .ref byt, .int (bI wc), .int cw, .int (bI bc), .int cb, .int cy, .int wr, .int ww, .int br])), (st, .inl (D.1 13, 64, .inr (.inr (.inr (.inr (va_up g k_3 (some q9))))))), (rd, .inr (1, [.ref tx, .int (nI 0), .int (nI a9), .ref q9])), (tx, .inl (D.1 10, 40, .inl (fun j => nI (t j)))), (q9, .inr (0, [.int (nI f0), .int (nI f1), .int (nI f2), .int (nI f3), .int (nI f4), .int (nI f5), .int (bI f6), .int (nI f7), .int (oI f8), .int (oI f9)]))]) C hK hH 1 4 rfl (by omega) (by decide) rfl rfl rfl dX2_word_70 (fun H locs hH => ?_)
        refine lv_aload_n C.x C.b dX2_word_71 rfl (lv_at hl 0 rfl) ?_
        refine gGetN (v := .int (nI f0)) C hK hH 4 0 rfl rfl inX0 (by decide) (nwl_of tn_39 rfl) rfl dX2_word_72 ?_
        exact rI C hr hH (⟨k_3, q9, a9, wt, f0, f1, f2, f3, f4, f5, f6, f7, f8, f9, hk_3, rfl, Or.inr ⟨by rw [hg_50]; simp, rfl⟩, hR, rfl, rfl⟩) (Nat.le_of_ble_eq_true rfl) (Nat.le_of_ble_eq_true rfl) dX2_word_75
    · have hH : Hp D A s ([(x, .inr (2, [.ref rd, .int wp, .ref st, .int (nI wt), .int (nI ah), .ref rg, .ref ce, .ref byt, .int (bI wc), .int cw, .int (bI bc), .int cb, .int cy, .int wr, .int ww, .int br])), (st, .inl (D.1 13, 64, .inr (.inr (.inr (.inr g))))), (rd, .inr (1, [.ref tx, .int (nI n), .int (nI a9), .ref q9])), (tx, .inl (D.1 10, 40, .inl (fun j => nI (t j)))), (q9, .inr (0, [.int (nI f0), .int (nI f1), .int (nI f2), .int (nI f3), .int (nI f4), .int (nI f5), .int (bI f6), .int (nI f7), .int (oI f8), .int (oI f9)]))]) H locs := hH
      refine W.eq (g2 := F0 m 13 ls [.null]) rfl ?_
      refine lv_astore_nN (lv' := [(2, .null), (0, .ref x), (1, .int (nI k_3))]) C.x C.b dX2_word_13 rfl hl (by decide) rfl (fun ls hl => ?_)
      refine lv_aload_n C.x C.b dX2_word_14 rfl (lv_at hl 1 rfl) ?_
      refine gGet (v := .ref rd) C hK hH 0 0 rfl rfl inX2 (by decide) tw_101 rfl dX2_word_15 ?_
      refine lv_iconst (v := nI 0) C.x C.b dX2_word_18 (by decide) ?_
      refine gPutN (v := .int (nI 0)) (ws' := [(x, .inr (2, [.ref rd, .int wp, .ref st, .int (nI wt), .int (nI ah), .ref rg, .ref ce, .ref byt, .int (bI wc), .int cw, .int (bI bc), .int cb, .int cy, .int wr, .int ww, .int br])), (st, .inl (D.1 13, 64, .inr (.inr (.inr (.inr g))))), (rd, .inr (1, [.ref tx, .int (nI 0), .int (nI a9), .ref q9])), (tx, .inl (D.1 10, 40, .inl (fun j => nI (t j)))), (q9, .inr (0, [.int (nI f0), .int (nI f1), .int (nI f2), .int (nI f3), .int (nI f4), .int (nI f5), .int (bI f6), .int (nI f7), .int (oI f8), .int (oI f9)]))]) C hK hH 2 1 tyX1 tyX1_ok nmX1 rfl rfl inX1 (by decide) (nwl_of tn_86 rfl) rfl rfl rfl (Nat.le_of_ble_eq_true rfl) rfl dX2_word_19 (fun H locs hH => ?_)
      refine lv_aload_nN C.x C.b dX2_word_22 rfl (lv_at hl 0 rfl) ?_
      refine lv_ifnonnullN C.x C.b dX2_word_23 ?_
      refine lv_aload_n C.x C.b dX2_word_26 rfl (lv_at hl 1 rfl) ?_
      refine lv_aload_n C.x C.b dX2_word_27 rfl (lv_at hl 1 rfl) ?_
      refine gGet (v := .ref rd) C hK hH 0 0 rfl rfl inX2 (by decide) tw_101 rfl dX2_word_28 ?_
      refine gGetN (v := .int (nI a9)) C hK hH 2 2 rfl rfl inX1 (by decide) (nwl_of tn_88 rfl) rfl dX2_word_31 ?_
      refine gPut (v := .int (nI a9)) (ws' := [(x, .inr (2, [.ref rd, .int (nI a9), .ref st, .int (nI wt), .int (nI ah), .ref rg, .ref ce, .ref byt, .int (bI wc), .int cw, .int (bI bc), .int cb, .int cy, .int wr, .int ww, .int br])), (st, .inl (D.1 13, 64, .inr (.inr (.inr (.inr g))))), (rd, .inr (1, [.ref tx, .int (nI 0), .int (nI a9), .ref q9])), (tx, .inl (D.1 10, 40, .inl (fun j => nI (t j)))), (q9, .inr (0, [.int (nI f0), .int (nI f1), .int (nI f2), .int (nI f3), .int (nI f4), .int (nI f5), .int (bI f6), .int (nI f7), .int (oI f8), .int (oI f9)]))]) C hK hH 0 1 tyX2 tyX2_ok nmX2 rfl rfl inX2 (by decide) tw_102 rfl rfl rfl (Nat.le_of_ble_eq_true rfl) rfl dX2_word_34 (fun H locs hH => ?_)
      exact tIA C hH hl.1 dX2_word_37 dX2_word_40 dX2_word_41 dX2_word_44 (Nat.le_of_ble_eq_true rfl) (Nat.le_of_ble_eq_true rfl) (Nat.le_of_ble_eq_true rfl) (Nat.le_of_ble_eq_true rfl) (Or.inr ⟨k_3, q9, a9, f0, f1, f2, f3, f4, f5, f6, f7, f8, f9, hk_3, rfl, hR, ha9, rfl, rfl⟩) (Nat.le_of_ble_eq_true rfl) (Nat.le_of_ble_eq_true rfl)
  · obtain ⟨hno_3, rfl, rfl⟩ := hX
    have hH : Hp D A s ([(x, .inr (2, [.ref rd, .int wp, .ref st, .int (nI wt), .int (nI ah), .ref rg, .ref ce, .ref byt, .int (bI wc), .int cw, .int (bI bc), .int cb, .int cy, .int wr, .int ww, .int br])), (rd, .inr (1, [.ref tx, .int (nI n), .int (nI at1), .ref d0])), (tx, .inl (D.1 10, 40, .inl (fun j => nI (t j)))), (st, .inl (D.1 13, 64, .inr (.inr (.inr (.inr g)))))]) H locs := hH
    exact kOut C hH (Or.inl ⟨hno_3, rfl, rfl⟩) hce hcv hcl (Nat.le_of_ble_eq_true rfl) (Nat.le_of_ble_eq_true rfl)
set_option maxHeartbeats 4000000 in
set_option maxRecDepth 100000 in
theorem c_erase (l : Launch) (htr : l.stackTraces = false) (D : va_G) (sz : Nat) (x rd st rg ce byt : Nat) (wp : Int32) (wt ah : Nat) (wc : Bool) (cw : Int32) (bc : Bool) (cb cy wr ww br : Int32) (g : Nat → Option Nat) (i : Int32) (hwt : ∀ k a, k < 64 → g k = some a → 1 ≤ wt) : Ct l yX2_erase wX2_erase { frames := 7, cells := 2, slots := 12, locals := 102 } D ([(x, .inr (2, [.ref rd, .int wp, .ref st, .int (nI wt), .int (nI ah), .ref rg, .ref ce, .ref byt, .int (bI wc), .int cw, .int (bI bc), .int cb, .int cy, .int wr, .int ww, .int br])), (st, .inl (D.1 13, 64, .inr (.inr (.inr (.inr g)))))]) [.ref x, .int i] sz (fun v w => ∃ k a, k < 64 ∧ i = nI k ∧ g k = some a ∧ v = none ∧ w = [(x, .inr (2, [.ref rd, .int wp, .ref st, .int (nI (wt - 1)), .int (nI ah), .ref rg, .ref ce, .ref byt, .int (bI wc), .int cw, .int (bI bc), .int cb, .int cy, .int wr, .int ww, .int br])), (st, .inl (D.1 13, 64, .inr (.inr (.inr (.inr (va_up g k none))))))]) (fun E w => (((∀ k, k < 64 → i ≠ nI k) ∧ E = eIA) ∨ (∃ k, k < 64 ∧ i = nI k ∧ g k = none ∧ E = eNS)) ∧ w = [(x, .inr (2, [.ref rd, .int wp, .ref st, .int (nI wt), .int (nI ah), .ref rg, .ref ce, .ref byt, .int (bI wc), .int cw, .int (bI bc), .int cb, .int cy, .int wr, .int ww, .int br])), (st, .inl (D.1 13, 64, .inr (.inr (.inr (.inr g)))))]) := by
  refine Ct.of (cc := cX2_erase) (nL := 2) (ret := none) (own := RX2) htr (by decide) rfl (Nat.le_of_ble_eq_true rfl) ?_
  intro p e s m args below meth c A C hr hK H locs hH ls hl
  have hl : lv_has ls 2 [(0, .ref x), (1, .int i)] := hl
  refine lv_iload_n C.x C.b dX2_erase_0 rfl (lv_at hl 1 rfl) ?_
  refine lv_bipush (v := nI 64) C.x C.b dX2_erase_1 (by decide) ?_
  refine kS (As := [.int i, .int (nI 64)]) (isC := []) (isR := [0, 1]) (wr := [(x, .inr (2, [.ref rd, .int wp, .ref st, .int (nI wt), .int (nI ah), .ref rg, .ref ce, .ref byt, .int (bI wc), .int cw, .int (bI bc), .int cb, .int cy, .int wr, .int ww, .int br])), (st, .inl (D.1 13, 64, .inr (.inr (.inr (.inr g)))))]) C hK hH (c_refuse l htr D H.size i 64 (by omega)) ⟨rfl, rfl, rfl, rfl, by decide⟩ tw_257 tw_258 tw_1 kX2_refuseOutside ⟨by decide +kernel, by decide +kernel, (by decide +kernel : (parseMethodDescriptor yX2_refuseOutside.desc).map (fun d => d.parameters.length) = some 2)⟩ ⟨(Nat.le_of_ble_eq_true rfl), (Nat.le_of_ble_eq_true rfl)⟩ hl.1 (Nat.le_of_ble_eq_true rfl) dX2_erase_3 ⟨(Nat.le_of_ble_eq_true rfl), (Nat.le_of_ble_eq_true rfl)⟩ (fun v9 w9 H locs hN hH => ?_) (fun E9 q9 ce9 w9 H locs hX hH hce hcv hcl => ?_)
  · obtain ⟨⟨k_3, hk_3, rfl⟩, rfl, rfl⟩ := hN
    have hH : Hp D A s ([(x, .inr (2, [.ref rd, .int wp, .ref st, .int (nI wt), .int (nI ah), .ref rg, .ref ce, .ref byt, .int (bI wc), .int cw, .int (bI bc), .int cb, .int cy, .int wr, .int ww, .int br])), (st, .inl (D.1 13, 64, .inr (.inr (.inr (.inr g)))))]) H locs := hH
    refine W.eq (g2 := F0 m 6 ls []) rfl ?_
    refine lv_aload_n C.x C.b dX2_erase_6 rfl (lv_at hl 0 rfl) ?_
    refine gGet (v := .ref st) C hK hH 0 2 rfl rfl inX2 (by decide) tw_103 rfl dX2_erase_7 ?_
    refine lv_iload_n C.x C.b dX2_erase_10 rfl (lv_at hl 1 rfl) ?_
    rcases op_or (g k_3) with hg_11 | ⟨a_11, hg_11⟩
    · refine gAald (v := none) C hK hH 1 rfl (by omega) (by decide) dX2_erase_11 hg_11 ?_
      refine W.eq (g2 := F0 m 12 ls [.null]) rfl ?_
      refine lv_ifnonnullN C.x C.b dX2_erase_12 ?_
      exact tNS C hH hl.1 dX2_erase_15 dX2_erase_18 dX2_erase_19 dX2_erase_22 (Nat.le_of_ble_eq_true rfl) (Nat.le_of_ble_eq_true rfl) (Nat.le_of_ble_eq_true rfl) (Nat.le_of_ble_eq_true rfl) (⟨Or.inr ⟨k_3, hk_3, rfl, hg_11, rfl⟩, rfl⟩) (Nat.le_of_ble_eq_true rfl) (Nat.le_of_ble_eq_true rfl)
    · refine gAald (v := some a_11) C hK hH 1 rfl (by omega) (by decide) dX2_erase_11 hg_11 ?_
      refine W.eq (g2 := F0 m 12 ls [.ref a_11]) rfl ?_
      refine lv_ifnonnull (tgt := 23) C.x C.b dX2_erase_12 (by decide) ?_
      refine lv_aload_n C.x C.b dX2_erase_23 rfl (lv_at hl 0 rfl) ?_
      refine gGet (v := .ref st) C hK hH 0 2 rfl rfl inX2 (by decide) tw_103 rfl dX2_erase_24 ?_
      refine lv_iload_n C.x C.b dX2_erase_27 rfl (lv_at hl 1 rfl) ?_
      refine lv_null C.x C.b dX2_erase_28 ?_
      refine gAastN (f' := va_up g k_3 none) (ws' := [(x, .inr (2, [.ref rd, .int wp, .ref st, .int (nI wt), .int (nI ah), .ref rg, .ref ce, .ref byt, .int (bI wc), .int cw, .int (bI bc), .int cb, .int cy, .int wr, .int ww, .int br])), (st, .inl (D.1 13, 64, .inr (.inr (.inr (.inr (va_up g k_3 none))))))]) C hK hH 1 rfl (by omega) (by decide) rfl rfl dX2_erase_29 (fun H locs hH => ?_)
      refine lv_aload_n C.x C.b dX2_erase_30 rfl (lv_at hl 0 rfl) ?_
      refine lv_dup C.x C.b dX2_erase_31 rfl ?_
      refine gGet (v := .int (nI wt)) C hK hH 0 3 rfl rfl inX2 (by decide) tw_104 rfl dX2_erase_32 ?_
      refine lv_iconst (v := nI 1) C.x C.b dX2_erase_35 (by decide) ?_
      refine lv_isub C.x C.b dX2_erase_36 ?_
      refine vt_top (y := nI (wt - 1)) (pk_sub (hwt k_3 a_11 hk_3 hg_11)) ?_
      refine gPut (v := .int (nI (wt - 1))) (ws' := [(x, .inr (2, [.ref rd, .int wp, .ref st, .int (nI (wt - 1)), .int (nI ah), .ref rg, .ref ce, .ref byt, .int (bI wc), .int cw, .int (bI bc), .int cb, .int cy, .int wr, .int ww, .int br])), (st, .inl (D.1 13, 64, .inr (.inr (.inr (.inr (va_up g k_3 none))))))]) C hK hH 0 3 tyX2 tyX2_ok nmX2 rfl rfl inX2 (by decide) tw_104 rfl rfl rfl (Nat.le_of_ble_eq_true rfl) rfl dX2_erase_37 (fun H locs hH => ?_)
      exact rV C hr hH (⟨k_3, a_11, hk_3, rfl, hg_11, rfl, rfl⟩) (Nat.le_of_ble_eq_true rfl) (Nat.le_of_ble_eq_true rfl) dX2_erase_40
  · obtain ⟨hno_3, rfl, rfl⟩ := hX
    have hH : Hp D A s ([(x, .inr (2, [.ref rd, .int wp, .ref st, .int (nI wt), .int (nI ah), .ref rg, .ref ce, .ref byt, .int (bI wc), .int cw, .int (bI bc), .int cb, .int cy, .int wr, .int ww, .int br])), (st, .inl (D.1 13, 64, .inr (.inr (.inr (.inr g)))))]) H locs := hH
    exact kOut C hH (⟨Or.inl ⟨hno_3, rfl⟩, rfl⟩) hce hcv hcl (Nat.le_of_ble_eq_true rfl) (Nat.le_of_ble_eq_true rfl)
set_option maxHeartbeats 4000000 in
set_option maxRecDepth 100000 in
theorem c_told (l : Launch) (htr : l.stackTraces = false) (D : va_G) (sz : Nat) (x rd st rg ce byt : Nat) (wp : Int32) (wt ah : Nat) (wc : Bool) (cw : Int32) (bc : Bool) (cb cy wr ww br : Int32) (g : Nat → Option Nat) (LP : List Nat) (pw : Nat → WT) (i z : Int32) (hLP : ∀ k a, k < 64 → g k = some a → a ∈ LP) : Ct l yX2_told wX2_told { frames := 7, cells := 3, slots := 18, locals := 102 } D ([(x, .inr (2, [.ref rd, .int wp, .ref st, .int (nI wt), .int (nI ah), .ref rg, .ref ce, .ref byt, .int (bI wc), .int cw, .int (bI bc), .int cb, .int cy, .int wr, .int ww, .int br])), (st, .inl (D.1 13, 64, .inr (.inr (.inr (.inr g)))))] ++ va_pl LP (pwF pw)) [.ref x, .int i, .int z] sz (fun v w => ∃ k j a, k < 64 ∧ i = nI k ∧ j < 7 ∧ z = nI j ∧ g k = some a ∧ v = some (.int (tdV (pw a) j)) ∧ w = [(x, .inr (2, [.ref rd, .int wp, .ref st, .int (nI wt), .int (nI ah), .ref rg, .ref ce, .ref byt, .int (bI wc), .int cw, .int (bI bc), .int cb, .int cy, .int wr, .int ww, .int br])), (st, .inl (D.1 13, 64, .inr (.inr (.inr (.inr g)))))] ++ va_pl LP (pwF pw)) (fun E w => ((((∀ k, k < 64 → i ≠ nI k) ∨ (∀ k, k < 7 → z ≠ nI k)) ∧ E = eIA) ∨ (∃ k j, k < 64 ∧ i = nI k ∧ j < 7 ∧ z = nI j ∧ g k = none ∧ E = eNS)) ∧ w = [(x, .inr (2, [.ref rd, .int wp, .ref st, .int (nI wt), .int (nI ah), .ref rg, .ref ce, .ref byt, .int (bI wc), .int cw, .int (bI bc), .int cb, .int cy, .int wr, .int ww, .int br])), (st, .inl (D.1 13, 64, .inr (.inr (.inr (.inr g)))))] ++ va_pl LP (pwF pw)) := by
  refine Ct.of (cc := cX2_told) (nL := 4) (ret := (some .int)) (own := RX2) htr (by decide) rfl (Nat.le_of_ble_eq_true rfl) ?_
  intro p e s m args below meth c A C hr hK H locs hH ls hl
  have hl : lv_has ls 4 [(0, .ref x), (1, .int i), (2, .int z)] := hl
  refine lv_iload_n C.x C.b dX2_told_0 rfl (lv_at hl 1 rfl) ?_
  refine lv_bipush (v := nI 64) C.x C.b dX2_told_1 (by decide) ?_
  refine pS (As := [.int i, .int (nI 64)]) (wr := [(x, .inr (2, [.ref rd, .int wp, .ref st, .int (nI wt), .int (nI ah), .ref rg, .ref ce, .ref byt, .int (bI wc), .int cw, .int (bI bc), .int cb, .int cy, .int wr, .int ww, .int br])), (st, .inl (D.1 13, 64, .inr (.inr (.inr (.inr g)))))] ++ va_pl LP (pwF pw)) (wc := []) C hK (by rw [List.append_nil]; exact hH) (c_refuse l htr D H.size i 64 (by omega)) tw_257 tw_258 tw_1 kX2_refuseOutside ⟨by decide +kernel, by decide +kernel, (by decide +kernel : (parseMethodDescriptor yX2_refuseOutside.desc).map (fun d => d.parameters.length) = some 2)⟩ ⟨(Nat.le_of_ble_eq_true rfl), (Nat.le_of_ble_eq_true rfl)⟩ hl.1 (Nat.le_of_ble_eq_true rfl) dX2_told_3 ⟨(Nat.le_of_ble_eq_true rfl), (Nat.le_of_ble_eq_true rfl)⟩ (fun v9 w9 H locs hN hH => ?_) (fun E9 q9 ce9 w9 H locs hX hH hce hcv hcl => ?_)
  · obtain ⟨⟨k_3, hk_3, rfl⟩, rfl, rfl⟩ := hN
    have hH : Hp D A s ([(x, .inr (2, [.ref rd, .int wp, .ref st, .int (nI wt), .int (nI ah), .ref rg, .ref ce, .ref byt, .int (bI wc), .int cw, .int (bI bc), .int cb, .int cy, .int wr, .int ww, .int br])), (st, .inl (D.1 13, 64, .inr (.inr (.inr (.inr g)))))] ++ va_pl LP (pwF pw)) H locs := by rw [List.append_nil] at hH; exact hH
    refine W.eq (g2 := F0 m 6 ls []) rfl ?_
    refine lv_iload_n C.x C.b dX2_told_6 rfl (lv_at hl 2 rfl) ?_
    refine lv_bipush (v := nI 7) C.x C.b dX2_told_7 (by decide) ?_
    refine pS (As := [.int z, .int (nI 7)]) (wr := [(x, .inr (2, [.ref rd, .int wp, .ref st, .int (nI wt), .int (nI ah), .ref rg, .ref ce, .ref byt, .int (bI wc), .int cw, .int (bI bc), .int cb, .int cy, .int wr, .int ww, .int br])), (st, .inl (D.1 13, 64, .inr (.inr (.inr (.inr g)))))] ++ va_pl LP (pwF pw)) (wc := []) C hK (by rw [List.append_nil]; exact hH) (c_refuse l htr D H.size z 7 (by omega)) tw_257 tw_258 tw_1 kX2_refuseOutside ⟨by decide +kernel, by decide +kernel, (by decide +kernel : (parseMethodDescriptor yX2_refuseOutside.desc).map (fun d => d.parameters.length) = some 2)⟩ ⟨(Nat.le_of_ble_eq_true rfl), (Nat.le_of_ble_eq_true rfl)⟩ hl.1 (Nat.le_of_ble_eq_true rfl) dX2_told_9 ⟨(Nat.le_of_ble_eq_true rfl), (Nat.le_of_ble_eq_true rfl)⟩ (fun v9 w9 H locs hN hH => ?_) (fun E9 q9 ce9 w9 H locs hX hH hce hcv hcl => ?_)
    · obtain ⟨⟨k_9, hk_9, rfl⟩, rfl, rfl⟩ := hN
      have hH : Hp D A s ([(x, .inr (2, [.ref rd, .int wp, .ref st, .int (nI wt), .int (nI ah), .ref rg, .ref ce, .ref byt, .int (bI wc), .int cw, .int (bI bc), .int cb, .int cy, .int wr, .int ww, .int br])), (st, .inl (D.1 13, 64, .inr (.inr (.inr (.inr g)))))] ++ va_pl LP (pwF pw)) H locs := by rw [List.append_nil] at hH; exact hH
      refine W.eq (g2 := F0 m 12 ls []) rfl ?_
      refine lv_aload_n C.x C.b dX2_told_12 rfl (lv_at hl 0 rfl) ?_
      refine gGet (v := .ref st) C hK hH 0 2 rfl rfl inX2 (by decide) tw_103 rfl dX2_told_13 ?_
      refine lv_iload_n C.x C.b dX2_told_16 rfl (lv_at hl 1 rfl) ?_
      rcases op_or (g k_3) with hg_17 | ⟨a_17, hg_17⟩
      · refine gAald (v := none) C hK hH 1 rfl (by omega) (by decide) dX2_told_17 hg_17 ?_
        refine W.eq (g2 := F0 m 18 ls [.null]) rfl ?_
        refine lv_astore_nN (lv' := [(3, .null), (0, .ref x), (1, .int (nI k_3)), (2, .int (nI k_9))]) C.x C.b dX2_told_18 rfl hl (by decide) rfl (fun ls hl => ?_)
        refine lv_aload_nN C.x C.b dX2_told_19 rfl (lv_at hl 0 rfl) ?_
        refine lv_ifnonnullN C.x C.b dX2_told_20 ?_
        exact tNS C hH hl.1 dX2_told_23 dX2_told_26 dX2_told_27 dX2_told_30 (Nat.le_of_ble_eq_true rfl) (Nat.le_of_ble_eq_true rfl) (Nat.le_of_ble_eq_true rfl) (Nat.le_of_ble_eq_true rfl) (⟨Or.inr ⟨k_3, k_9, hk_3, rfl, hk_9, rfl, hg_17, rfl⟩, rfl⟩) (Nat.le_of_ble_eq_true rfl) (Nat.le_of_ble_eq_true rfl)
      · refine gAald (v := some a_17) C hK hH 1 rfl (by omega) (by decide) dX2_told_17 hg_17 ?_
        have hLP_a_17 := hLP _ _ hk_3 hg_17
        refine W.eq (g2 := F0 m 18 ls [.ref a_17]) rfl ?_
        refine lv_astore_n (lv' := [(3, .ref a_17), (0, .ref x), (1, .int (nI k_3)), (2, .int (nI k_9))]) C.x C.b dX2_told_18 rfl hl (by decide) rfl (fun ls hl => ?_)
        refine lv_aload_n C.x C.b dX2_told_19 rfl (lv_at hl 0 rfl) ?_
        refine lv_ifnonnull (tgt := 31) C.x C.b dX2_told_20 (by decide) ?_
        refine lv_iload_n C.x C.b dX2_told_31 rfl (lv_at hl 3 rfl) ?_
        obtain rfl | rfl | rfl | rfl | rfl | rfl | rfl : k_9 = 0 ∨ k_9 = 1 ∨ k_9 = 2 ∨ k_9 = 3 ∨ k_9 = 4 ∨ k_9 = 5 ∨ k_9 = 6 := by omega
        · refine lv_tableIn (off := 40) (tgt := 72) C.x C.b dX2_told_32 (by decide) (by decide) (by decide) (by decide) ?_
          refine lv_aload_n C.x C.b dX2_told_72 rfl (lv_at hl 0 rfl) ?_
          obtain ⟨k9, hk9⟩ := va_pl_get (X := [(x, .inr (2, [.ref rd, .int wp, .ref st, .int (nI wt), .int (nI ah), .ref rg, .ref ce, .ref byt, .int (bI wc), .int cw, .int (bI bc), .int cb, .int cy, .int wr, .int ww, .int br])), (st, .inl (D.1 13, 64, .inr (.inr (.inr (.inr g)))))]) (L := LP) (f := pwF pw) hLP_a_17
          refine gGetN (v := .int (nI ((pw a_17).2.1))) C hK hH k9 1 hk9 rfl inX0 (by decide) (nwl_of tn_42 rfl) rfl dX2_told_73 ?_
          exact rI C hr hH (⟨k_3, 0, a_17, hk_3, rfl, by decide, rfl, hg_17, rfl, rfl⟩) (Nat.le_of_ble_eq_true rfl) (Nat.le_of_ble_eq_true rfl) dX2_told_76
        · refine lv_tableIn (off := 45) (tgt := 77) C.x C.b dX2_told_32 (by decide) (by decide) (by decide) (by decide) ?_
          refine lv_aload_n C.x C.b dX2_told_77 rfl (lv_at hl 0 rfl) ?_
          obtain ⟨k9, hk9⟩ := va_pl_get (X := [(x, .inr (2, [.ref rd, .int wp, .ref st, .int (nI wt), .int (nI ah), .ref rg, .ref ce, .ref byt, .int (bI wc), .int cw, .int (bI bc), .int cb, .int cy, .int wr, .int ww, .int br])), (st, .inl (D.1 13, 64, .inr (.inr (.inr (.inr g)))))]) (L := LP) (f := pwF pw) hLP_a_17
          refine gGetN (v := .int (nI ((pw a_17).2.2.2.2.2.1))) C hK hH k9 5 hk9 rfl inX0 (by decide) (nwl_of tn_51 rfl) rfl dX2_told_78 ?_
          exact rI C hr hH (⟨k_3, 1, a_17, hk_3, rfl, by decide, rfl, hg_17, rfl, rfl⟩) (Nat.le_of_ble_eq_true rfl) (Nat.le_of_ble_eq_true rfl) dX2_told_81
        · refine lv_tableIn (off := 50) (tgt := 82) C.x C.b dX2_told_32 (by decide) (by decide) (by decide) (by decide) ?_
          refine lv_aload_n C.x C.b dX2_told_82 rfl (lv_at hl 0 rfl) ?_
          obtain ⟨k9, hk9⟩ := va_pl_get (X := [(x, .inr (2, [.ref rd, .int wp, .ref st, .int (nI wt), .int (nI ah), .ref rg, .ref ce, .ref byt, .int (bI wc), .int cw, .int (bI bc), .int cb, .int cy, .int wr, .int ww, .int br])), (st, .inl (D.1 13, 64, .inr (.inr (.inr (.inr g)))))]) (L := LP) (f := pwF pw) hLP_a_17
          refine gGetN (v := .int (bI ((pw a_17).2.2.2.2.2.2.1))) C hK hH k9 6 hk9 rfl inX0 (by decide) (nwl_of tn_53 rfl) rfl dX2_told_83 ?_
          refine vb_if_eq (tgt := 93) C.x C.b dX2_told_86 (by decide) (fun c_86 => ?_) (fun c_86 => ?_)
          · refine lv_iconst (v := nI 0) C.x C.b dX2_told_93 (by decide) ?_
            exact rI C hr hH (⟨k_3, 2, a_17, hk_3, rfl, by decide, rfl, hg_17, by show _ = some (Value.int (bI _)); rw [c_86]; rfl, rfl⟩) (Nat.le_of_ble_eq_true rfl) (Nat.le_of_ble_eq_true rfl) dX2_told_94
          · refine lv_iconst (v := nI 1) C.x C.b dX2_told_89 (by decide) ?_
            refine lv_goto (tgt := 94) C.x C.b dX2_told_90 (by decide) ?_
            exact rI C hr hH (⟨k_3, 2, a_17, hk_3, rfl, by decide, rfl, hg_17, by show _ = some (Value.int (bI _)); rw [c_86]; rfl, rfl⟩) (Nat.le_of_ble_eq_true rfl) (Nat.le_of_ble_eq_true rfl) dX2_told_94
        · refine lv_tableIn (off := 63) (tgt := 95) C.x C.b dX2_told_32 (by decide) (by decide) (by decide) (by decide) ?_
          refine lv_aload_n C.x C.b dX2_told_95 rfl (lv_at hl 0 rfl) ?_
          obtain ⟨k9, hk9⟩ := va_pl_get (X := [(x, .inr (2, [.ref rd, .int wp, .ref st, .int (nI wt), .int (nI ah), .ref rg, .ref ce, .ref byt, .int (bI wc), .int cw, .int (bI bc), .int cb, .int cy, .int wr, .int ww, .int br])), (st, .inl (D.1 13, 64, .inr (.inr (.inr (.inr g)))))]) (L := LP) (f := pwF pw) hLP_a_17
          refine gGetN (v := .int (nI ((pw a_17).2.2.2.2.2.2.2.1))) C hK hH k9 7 hk9 rfl inX0 (by decide) (nwl_of tn_55 rfl) rfl dX2_told_96 ?_
          exact rI C hr hH (⟨k_3, 3, a_17, hk_3, rfl, by decide, rfl, hg_17, rfl, rfl⟩) (Nat.le_of_ble_eq_true rfl) (Nat.le_of_ble_eq_true rfl) dX2_told_99
        · refine lv_tableIn (off := 68) (tgt := 100) C.x C.b dX2_told_32 (by decide) (by decide) (by decide) (by decide) ?_
          refine lv_aload_n C.x C.b dX2_told_100 rfl (lv_at hl 0 rfl) ?_
          obtain ⟨k9, hk9⟩ := va_pl_get (X := [(x, .inr (2, [.ref rd, .int wp, .ref st, .int (nI wt), .int (nI ah), .ref rg, .ref ce, .ref byt, .int (bI wc), .int cw, .int (bI bc), .int cb, .int cy, .int wr, .int ww, .int br])), (st, .inl (D.1 13, 64, .inr (.inr (.inr (.inr g)))))]) (L := LP) (f := pwF pw) hLP_a_17
          refine gGetN (v := .int (oI ((pw a_17).2.2.2.2.2.2.2.2.1))) C hK hH k9 8 hk9 rfl inX0 (by decide) (nwl_of tn_58 rfl) rfl dX2_told_101 ?_
          exact rI C hr hH (⟨k_3, 4, a_17, hk_3, rfl, by decide, rfl, hg_17, rfl, rfl⟩) (Nat.le_of_ble_eq_true rfl) (Nat.le_of_ble_eq_true rfl) dX2_told_104
        · refine lv_tableIn (off := 73) (tgt := 105) C.x C.b dX2_told_32 (by decide) (by decide) (by decide) (by decide) ?_
          refine lv_aload_n C.x C.b dX2_told_105 rfl (lv_at hl 0 rfl) ?_
          obtain ⟨k9, hk9⟩ := va_pl_get (X := [(x, .inr (2, [.ref rd, .int wp, .ref st, .int (nI wt), .int (nI ah), .ref rg, .ref ce, .ref byt, .int (bI wc), .int cw, .int (bI bc), .int cb, .int cy, .int wr, .int ww, .int br])), (st, .inl (D.1 13, 64, .inr (.inr (.inr (.inr g)))))]) (L := LP) (f := pwF pw) hLP_a_17
          refine gGetN (v := .int (oI ((pw a_17).2.2.2.2.2.2.2.2.2))) C hK hH k9 9 hk9 rfl inX0 (by decide) (nwl_of tn_61 rfl) rfl dX2_told_106 ?_
          exact rI C hr hH (⟨k_3, 5, a_17, hk_3, rfl, by decide, rfl, hg_17, rfl, rfl⟩) (Nat.le_of_ble_eq_true rfl) (Nat.le_of_ble_eq_true rfl) dX2_told_109
        · refine lv_tableOut (tgt := 110) C.x C.b dX2_told_32 (by decide) (by decide) ?_
          refine lv_aload_n C.x C.b dX2_told_110 rfl (lv_at hl 0 rfl) ?_
          obtain ⟨k9, hk9⟩ := va_pl_get (X := [(x, .inr (2, [.ref rd, .int wp, .ref st, .int (nI wt), .int (nI ah), .ref rg, .ref ce, .ref byt, .int (bI wc), .int cw, .int (bI bc), .int cb, .int cy, .int wr, .int ww, .int br])), (st, .inl (D.1 13, 64, .inr (.inr (.inr (.inr g)))))]) (L := LP) (f := pwF pw) hLP_a_17
          refine gGetN (v := .int (nI ((pw a_17).2.2.2.2.1))) C hK hH k9 4 hk9 rfl inX0 (by decide) (nwl_of tn_49 rfl) rfl dX2_told_111 ?_
          exact rI C hr hH (⟨k_3, 6, a_17, hk_3, rfl, by decide, rfl, hg_17, rfl, rfl⟩) (Nat.le_of_ble_eq_true rfl) (Nat.le_of_ble_eq_true rfl) dX2_told_114
    · obtain ⟨hno_9, rfl, rfl⟩ := hX
      have hH : Hp D A s ([(x, .inr (2, [.ref rd, .int wp, .ref st, .int (nI wt), .int (nI ah), .ref rg, .ref ce, .ref byt, .int (bI wc), .int cw, .int (bI bc), .int cb, .int cy, .int wr, .int ww, .int br])), (st, .inl (D.1 13, 64, .inr (.inr (.inr (.inr g)))))] ++ va_pl LP (pwF pw)) H locs := by rw [List.append_nil] at hH; exact hH
      exact kOut C hH (⟨Or.inl ⟨Or.inr hno_9, rfl⟩, rfl⟩) hce hcv hcl (Nat.le_of_ble_eq_true rfl) (Nat.le_of_ble_eq_true rfl)
  · obtain ⟨hno_3, rfl, rfl⟩ := hX
    have hH : Hp D A s ([(x, .inr (2, [.ref rd, .int wp, .ref st, .int (nI wt), .int (nI ah), .ref rg, .ref ce, .ref byt, .int (bI wc), .int cw, .int (bI bc), .int cb, .int cy, .int wr, .int ww, .int br])), (st, .inl (D.1 13, 64, .inr (.inr (.inr (.inr g)))))] ++ va_pl LP (pwF pw)) H locs := by rw [List.append_nil] at hH; exact hH
    exact kOut C hH (⟨Or.inl ⟨Or.inl hno_3, rfl⟩, rfl⟩) hce hcv hcl (Nat.le_of_ble_eq_true rfl) (Nat.le_of_ble_eq_true rfl)
