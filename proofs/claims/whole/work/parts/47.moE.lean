def mtd (Bin Bwo Bfe Bgo Bfi Bse Bsh : Nat → Int32) (k j : Nat) : Int32 := match j with
  | 0 => Bin k
  | 1 => Bwo k
  | 2 => Bfe k
  | 3 => Bgo k
  | 4 => Bfi k
  | 5 => Bse k
  | _ => Bsh k
set_option maxHeartbeats 4000000 in
set_option maxRecDepth 100000 in
theorem m_begin (l : Launch) (htr : l.stackTraces = false) (D : va_G) (sz : Nat) (m0 tm rgm mem bym in_ so fr sh wo fe go fi se_ th n : Nat) (pl : Int32) (a pt hd : Nat) (cyc rds wrs fts : Int32) (thr : Nat) (wcm bcm : Bool) (wd0 ab : Int32) (i : Int32)  : Ct l yX3_begin wX3_begin { frames := 0, cells := 0, slots := 0, locals := 0 } D ([(m0, .inr (3, [.ref tm, .ref rgm, .ref mem, .ref bym, .ref in_, .ref so, .ref fr, .ref sh, .ref wo, .ref fe, .ref go, .ref fi, .ref se_, .ref th, .int (nI n), .int pl, .int (nI a), .int (nI pt), .int (nI hd), .int cyc, .int rds, .int wrs, .int fts, .int (nI thr), .int (bI wcm), .int (bI bcm), .int wd0, .int ab]))]) [.ref m0, .int i] sz (fun v w => (∃ k, k < 64 ∧ i = nI k ∧ v = none ∧ w = [(m0, .inr (3, [.ref tm, .ref rgm, .ref mem, .ref bym, .ref in_, .ref so, .ref fr, .ref sh, .ref wo, .ref fe, .ref go, .ref fi, .ref se_, .ref th, .int (nI n), .int pl, .int (nI a), .int (nI pt), .int (nI k), .int cyc, .int rds, .int wrs, .int fts, .int (nI 0), .int (bI false), .int (bI false), .int wd0, .int ab]))]) ∨ ((∀ k, k < 64 → i ≠ nI k) ∧ v = none ∧ w = [(m0, .inr (3, [.ref tm, .ref rgm, .ref mem, .ref bym, .ref in_, .ref so, .ref fr, .ref sh, .ref wo, .ref fe, .ref go, .ref fi, .ref se_, .ref th, .int (nI n), .int pl, .int (nI a), .int (nI pt), .int (nI hd), .int cyc, .int rds, .int wrs, .int fts, .int (nI 1), .int (bI wcm), .int (bI bcm), .int wd0, .int ab]))])) (nox) := by
  refine Ct.of (cc := cX3_begin) (nL := 2) (ret := none) (own := RX3) htr (by decide) rfl (Nat.le_of_ble_eq_true rfl) ?_
  intro p e s m args below meth c A C hr hK H locs hH ls hl
  have hl : lv_has ls 2 [(0, .ref m0), (1, .int i)] := hl
  refine lv_aload_n C.x C.b dX3_begin_0 rfl (lv_at hl 0 rfl) ?_
  refine lv_iload_n C.x C.b dX3_begin_1 rfl (lv_at hl 1 rfl) ?_
  refine lv_if_lt (tgt := 11) C.x C.b dX3_begin_2 (by decide) (fun c_2 => ?_) (fun c_2 => ?_)
  · refine lv_iconst (v := nI 1) C.x C.b dX3_begin_11 (by decide) ?_
    refine lv_goto (tgt := 16) C.x C.b dX3_begin_12 (by decide) ?_
    refine gPut (v := .int (nI 1)) (ws' := [(m0, .inr (3, [.ref tm, .ref rgm, .ref mem, .ref bym, .ref in_, .ref so, .ref fr, .ref sh, .ref wo, .ref fe, .ref go, .ref fi, .ref se_, .ref th, .int (nI n), .int pl, .int (nI a), .int (nI pt), .int (nI hd), .int cyc, .int rds, .int wrs, .int fts, .int (nI 1), .int (bI wcm), .int (bI bcm), .int wd0, .int ab]))]) C hK hH 0 23 tyX3 tyX3_ok nmX3 rfl rfl inX3 (by decide) tw_561 rfl rfl rfl (Nat.le_of_ble_eq_true rfl) rfl dX3_begin_16 (fun H locs hH => ?_)
    refine lv_aload_n C.x C.b dX3_begin_19 rfl (lv_at hl 0 rfl) ?_
    refine gGet (v := .int (nI 1)) C hK hH 0 23 rfl rfl inX3 (by decide) tw_561 rfl dX3_begin_20 ?_
    refine vn_if_eq (tgt := 27) C.x C.b dX3_begin_23 (by decide) (by omega) (fun q => absurd q (by decide)) (fun _ => ?_)
    exact rV C hr hH (Or.inr (⟨(by first | exact rg_neg (by decide) c_2 | exact rg_nl (b := 63) (by decide) c_8 | exact rg_gt (b := 63) (by decide) c_8), rfl, rfl⟩)) (Nat.le_of_ble_eq_true rfl) (Nat.le_of_ble_eq_true rfl) dX3_begin_26
  · refine lv_iload_n C.x C.b dX3_begin_5 rfl (lv_at hl 1 rfl) ?_
    refine lv_bipush (v := nI 63) C.x C.b dX3_begin_6 (by decide) ?_
    refine lv_icmp_le (tgt := 15) C.x C.b dX3_begin_8 (by decide) (fun c_8 => ?_) (fun c_8 => ?_)
    · obtain ⟨k9, hk9, rfl⟩ : ∃ k, k < 63 + 1 ∧ i = nI k := by first | exact rg_le (by decide) c_2 c_8 | exact rg_ng (by decide) c_2 c_8
      have hk9 : k9 < 64 := hk9
      refine lv_iconst (v := nI 0) C.x C.b dX3_begin_15 (by decide) ?_
      refine gPut (v := .int (nI 0)) (ws' := [(m0, .inr (3, [.ref tm, .ref rgm, .ref mem, .ref bym, .ref in_, .ref so, .ref fr, .ref sh, .ref wo, .ref fe, .ref go, .ref fi, .ref se_, .ref th, .int (nI n), .int pl, .int (nI a), .int (nI pt), .int (nI hd), .int cyc, .int rds, .int wrs, .int fts, .int (nI 0), .int (bI wcm), .int (bI bcm), .int wd0, .int ab]))]) C hK hH 0 23 tyX3 tyX3_ok nmX3 rfl rfl inX3 (by decide) tw_561 rfl rfl rfl (Nat.le_of_ble_eq_true rfl) rfl dX3_begin_16 (fun H locs hH => ?_)
      refine lv_aload_n C.x C.b dX3_begin_19 rfl (lv_at hl 0 rfl) ?_
      refine gGet (v := .int (nI 0)) C hK hH 0 23 rfl rfl inX3 (by decide) tw_561 rfl dX3_begin_20 ?_
      refine vn_if_eq (tgt := 27) C.x C.b dX3_begin_23 (by decide) (by omega) (fun _ => ?_) (fun q => absurd q (by decide))
      refine lv_aload_n C.x C.b dX3_begin_27 rfl (lv_at hl 0 rfl) ?_
      refine lv_iload_n C.x C.b dX3_begin_28 rfl (lv_at hl 1 rfl) ?_
      refine gPut (v := .int (nI k9)) (ws' := [(m0, .inr (3, [.ref tm, .ref rgm, .ref mem, .ref bym, .ref in_, .ref so, .ref fr, .ref sh, .ref wo, .ref fe, .ref go, .ref fi, .ref se_, .ref th, .int (nI n), .int pl, .int (nI a), .int (nI pt), .int (nI k9), .int cyc, .int rds, .int wrs, .int fts, .int (nI 0), .int (bI wcm), .int (bI bcm), .int wd0, .int ab]))]) C hK hH 0 18 tyX3 tyX3_ok nmX3 rfl rfl inX3 (by decide) tw_556 rfl rfl rfl (Nat.le_of_ble_eq_true rfl) rfl dX3_begin_29 (fun H locs hH => ?_)
      refine lv_aload_n C.x C.b dX3_begin_32 rfl (lv_at hl 0 rfl) ?_
      refine lv_iconst (v := nI 0) C.x C.b dX3_begin_33 (by decide) ?_
      refine gPut (v := .int (nI 0)) (ws' := [(m0, .inr (3, [.ref tm, .ref rgm, .ref mem, .ref bym, .ref in_, .ref so, .ref fr, .ref sh, .ref wo, .ref fe, .ref go, .ref fi, .ref se_, .ref th, .int (nI n), .int pl, .int (nI a), .int (nI pt), .int (nI k9), .int cyc, .int rds, .int wrs, .int fts, .int (nI 0), .int (nI 0), .int (bI bcm), .int wd0, .int ab]))]) C hK hH 0 24 tyX3 tyX3_ok nmX3 rfl rfl inX3 (by decide) tw_562 rfl (by decide) (by decide) (Nat.le_of_ble_eq_true rfl) rfl dX3_begin_34 (fun H locs hH => ?_)
      refine lv_aload_n C.x C.b dX3_begin_37 rfl (lv_at hl 0 rfl) ?_
      refine lv_iconst (v := nI 0) C.x C.b dX3_begin_38 (by decide) ?_
      refine gPut (v := .int (nI 0)) (ws' := [(m0, .inr (3, [.ref tm, .ref rgm, .ref mem, .ref bym, .ref in_, .ref so, .ref fr, .ref sh, .ref wo, .ref fe, .ref go, .ref fi, .ref se_, .ref th, .int (nI n), .int pl, .int (nI a), .int (nI pt), .int (nI k9), .int cyc, .int rds, .int wrs, .int fts, .int (nI 0), .int (nI 0), .int (nI 0), .int wd0, .int ab]))]) C hK hH 0 25 tyX3 tyX3_ok nmX3 rfl rfl inX3 (by decide) tw_563 rfl (by decide) (by decide) (Nat.le_of_ble_eq_true rfl) rfl dX3_begin_39 (fun H locs hH => ?_)
      exact rV C hr hH (Or.inl (⟨k9, hk9, rfl, rfl, rfl⟩)) (Nat.le_of_ble_eq_true rfl) (Nat.le_of_ble_eq_true rfl) dX3_begin_42
    · refine lv_iconst (v := nI 1) C.x C.b dX3_begin_11 (by decide) ?_
      refine lv_goto (tgt := 16) C.x C.b dX3_begin_12 (by decide) ?_
      refine gPut (v := .int (nI 1)) (ws' := [(m0, .inr (3, [.ref tm, .ref rgm, .ref mem, .ref bym, .ref in_, .ref so, .ref fr, .ref sh, .ref wo, .ref fe, .ref go, .ref fi, .ref se_, .ref th, .int (nI n), .int pl, .int (nI a), .int (nI pt), .int (nI hd), .int cyc, .int rds, .int wrs, .int fts, .int (nI 1), .int (bI wcm), .int (bI bcm), .int wd0, .int ab]))]) C hK hH 0 23 tyX3 tyX3_ok nmX3 rfl rfl inX3 (by decide) tw_561 rfl rfl rfl (Nat.le_of_ble_eq_true rfl) rfl dX3_begin_16 (fun H locs hH => ?_)
      refine lv_aload_n C.x C.b dX3_begin_19 rfl (lv_at hl 0 rfl) ?_
      refine gGet (v := .int (nI 1)) C hK hH 0 23 rfl rfl inX3 (by decide) tw_561 rfl dX3_begin_20 ?_
      refine vn_if_eq (tgt := 27) C.x C.b dX3_begin_23 (by decide) (by omega) (fun q => absurd q (by decide)) (fun _ => ?_)
      exact rV C hr hH (Or.inr (⟨(by first | exact rg_neg (by decide) c_2 | exact rg_nl (b := 63) (by decide) c_8 | exact rg_gt (b := 63) (by decide) c_8), rfl, rfl⟩)) (Nat.le_of_ble_eq_true rfl) (Nat.le_of_ble_eq_true rfl) dX3_begin_26
set_option maxHeartbeats 4000000 in
set_option maxRecDepth 100000 in
theorem m_register (l : Launch) (htr : l.stackTraces = false) (D : va_G) (sz : Nat) (m0 tm rgm mem bym in_ so fr sh wo fe go fi se_ th n : Nat) (pl : Int32) (a pt hd : Nat) (cyc rds wrs fts : Int32) (thr : Nat) (wcm bcm : Bool) (wd0 ab : Int32) (r : Nat → Int32) (i : Int32)  : Ct l yX3_register wX3_register { frames := 0, cells := 0, slots := 0, locals := 0 } D ([(m0, .inr (3, [.ref tm, .ref rgm, .ref mem, .ref bym, .ref in_, .ref so, .ref fr, .ref sh, .ref wo, .ref fe, .ref go, .ref fi, .ref se_, .ref th, .int (nI n), .int pl, .int (nI a), .int (nI pt), .int (nI hd), .int cyc, .int rds, .int wrs, .int fts, .int (nI thr), .int (bI wcm), .int (bI bcm), .int wd0, .int ab])), (rgm, .inl (D.1 11, 10, .inl r))]) [.ref m0, .int i] sz (fun v w => (∃ k, k < 10 ∧ i = nI k ∧ v = some (.int (r k)) ∧ w = [(m0, .inr (3, [.ref tm, .ref rgm, .ref mem, .ref bym, .ref in_, .ref so, .ref fr, .ref sh, .ref wo, .ref fe, .ref go, .ref fi, .ref se_, .ref th, .int (nI n), .int pl, .int (nI a), .int (nI pt), .int (nI hd), .int cyc, .int rds, .int wrs, .int fts, .int (nI 0), .int (bI wcm), .int (bI bcm), .int wd0, .int ab])), (rgm, .inl (D.1 11, 10, .inl r))]) ∨ ((∀ k, k < 10 → i ≠ nI k) ∧ v = some (.int (nI 0)) ∧ w = [(m0, .inr (3, [.ref tm, .ref rgm, .ref mem, .ref bym, .ref in_, .ref so, .ref fr, .ref sh, .ref wo, .ref fe, .ref go, .ref fi, .ref se_, .ref th, .int (nI n), .int pl, .int (nI a), .int (nI pt), .int (nI hd), .int cyc, .int rds, .int wrs, .int fts, .int (nI 1), .int (bI wcm), .int (bI bcm), .int wd0, .int ab])), (rgm, .inl (D.1 11, 10, .inl r))])) (nox) := by
  refine Ct.of (cc := cX3_register) (nL := 2) (ret := (some .int)) (own := RX3) htr (by decide) rfl (Nat.le_of_ble_eq_true rfl) ?_
  intro p e s m args below meth c A C hr hK H locs hH ls hl
  have hl : lv_has ls 2 [(0, .ref m0), (1, .int i)] := hl
  refine lv_aload_n C.x C.b dX3_register_0 rfl (lv_at hl 0 rfl) ?_
  refine lv_iload_n C.x C.b dX3_register_1 rfl (lv_at hl 1 rfl) ?_
  refine lv_if_lt (tgt := 11) C.x C.b dX3_register_2 (by decide) (fun c_2 => ?_) (fun c_2 => ?_)
  · refine lv_iconst (v := nI 1) C.x C.b dX3_register_11 (by decide) ?_
    refine lv_goto (tgt := 16) C.x C.b dX3_register_12 (by decide) ?_
    refine gPut (v := .int (nI 1)) (ws' := [(m0, .inr (3, [.ref tm, .ref rgm, .ref mem, .ref bym, .ref in_, .ref so, .ref fr, .ref sh, .ref wo, .ref fe, .ref go, .ref fi, .ref se_, .ref th, .int (nI n), .int pl, .int (nI a), .int (nI pt), .int (nI hd), .int cyc, .int rds, .int wrs, .int fts, .int (nI 1), .int (bI wcm), .int (bI bcm), .int wd0, .int ab])), (rgm, .inl (D.1 11, 10, .inl r))]) C hK hH 0 23 tyX3 tyX3_ok nmX3 rfl rfl inX3 (by decide) tw_561 rfl rfl rfl (Nat.le_of_ble_eq_true rfl) rfl dX3_register_16 (fun H locs hH => ?_)
    refine lv_aload_n C.x C.b dX3_register_19 rfl (lv_at hl 0 rfl) ?_
    refine gGet (v := .int (nI 1)) C hK hH 0 23 rfl rfl inX3 (by decide) tw_561 rfl dX3_register_20 ?_
    refine vn_if_ne (tgt := 35) C.x C.b dX3_register_23 (by decide) (by omega) (fun _ => ?_) (fun q => absurd q (by decide))
    refine lv_iconst (v := nI 0) C.x C.b dX3_register_35 (by decide) ?_
    exact rI C hr hH (Or.inr (⟨(by first | exact rg_neg (by decide) c_2 | exact rg_nl (b := 9) (by decide) c_8 | exact rg_gt (b := 9) (by decide) c_8), rfl, rfl⟩)) (Nat.le_of_ble_eq_true rfl) (Nat.le_of_ble_eq_true rfl) dX3_register_36
  · refine lv_iload_n C.x C.b dX3_register_5 rfl (lv_at hl 1 rfl) ?_
    refine lv_bipush (v := nI 9) C.x C.b dX3_register_6 (by decide) ?_
    refine lv_icmp_le (tgt := 15) C.x C.b dX3_register_8 (by decide) (fun c_8 => ?_) (fun c_8 => ?_)
    · obtain ⟨k9, hk9, rfl⟩ : ∃ k, k < 9 + 1 ∧ i = nI k := by first | exact rg_le (by decide) c_2 c_8 | exact rg_ng (by decide) c_2 c_8
      have hk9 : k9 < 10 := hk9
      refine lv_iconst (v := nI 0) C.x C.b dX3_register_15 (by decide) ?_
      refine gPut (v := .int (nI 0)) (ws' := [(m0, .inr (3, [.ref tm, .ref rgm, .ref mem, .ref bym, .ref in_, .ref so, .ref fr, .ref sh, .ref wo, .ref fe, .ref go, .ref fi, .ref se_, .ref th, .int (nI n), .int pl, .int (nI a), .int (nI pt), .int (nI hd), .int cyc, .int rds, .int wrs, .int fts, .int (nI 0), .int (bI wcm), .int (bI bcm), .int wd0, .int ab])), (rgm, .inl (D.1 11, 10, .inl r))]) C hK hH 0 23 tyX3 tyX3_ok nmX3 rfl rfl inX3 (by decide) tw_561 rfl rfl rfl (Nat.le_of_ble_eq_true rfl) rfl dX3_register_16 (fun H locs hH => ?_)
      refine lv_aload_n C.x C.b dX3_register_19 rfl (lv_at hl 0 rfl) ?_
      refine gGet (v := .int (nI 0)) C hK hH 0 23 rfl rfl inX3 (by decide) tw_561 rfl dX3_register_20 ?_
      refine vn_if_ne (tgt := 35) C.x C.b dX3_register_23 (by decide) (by omega) (fun q => absurd q (by decide)) (fun _ => ?_)
      refine lv_aload_n C.x C.b dX3_register_26 rfl (lv_at hl 0 rfl) ?_
      refine gGet (v := .ref rgm) C hK hH 0 1 rfl rfl inX3 (by decide) tw_539 rfl dX3_register_27 ?_
      refine lv_iload_n C.x C.b dX3_register_30 rfl (lv_at hl 1 rfl) ?_
      refine gIald (v := (r k9)) C hK hH 1 rfl (by omega) (by decide) dX3_register_31 rfl ?_
      refine lv_goto (tgt := 36) C.x C.b dX3_register_32 (by decide) ?_
      exact rI C hr hH (Or.inl (⟨k9, hk9, rfl, rfl, rfl⟩)) (Nat.le_of_ble_eq_true rfl) (Nat.le_of_ble_eq_true rfl) dX3_register_36
    · refine lv_iconst (v := nI 1) C.x C.b dX3_register_11 (by decide) ?_
      refine lv_goto (tgt := 16) C.x C.b dX3_register_12 (by decide) ?_
      refine gPut (v := .int (nI 1)) (ws' := [(m0, .inr (3, [.ref tm, .ref rgm, .ref mem, .ref bym, .ref in_, .ref so, .ref fr, .ref sh, .ref wo, .ref fe, .ref go, .ref fi, .ref se_, .ref th, .int (nI n), .int pl, .int (nI a), .int (nI pt), .int (nI hd), .int cyc, .int rds, .int wrs, .int fts, .int (nI 1), .int (bI wcm), .int (bI bcm), .int wd0, .int ab])), (rgm, .inl (D.1 11, 10, .inl r))]) C hK hH 0 23 tyX3 tyX3_ok nmX3 rfl rfl inX3 (by decide) tw_561 rfl rfl rfl (Nat.le_of_ble_eq_true rfl) rfl dX3_register_16 (fun H locs hH => ?_)
      refine lv_aload_n C.x C.b dX3_register_19 rfl (lv_at hl 0 rfl) ?_
      refine gGet (v := .int (nI 1)) C hK hH 0 23 rfl rfl inX3 (by decide) tw_561 rfl dX3_register_20 ?_
      refine vn_if_ne (tgt := 35) C.x C.b dX3_register_23 (by decide) (by omega) (fun _ => ?_) (fun q => absurd q (by decide))
      refine lv_iconst (v := nI 0) C.x C.b dX3_register_35 (by decide) ?_
      exact rI C hr hH (Or.inr (⟨(by first | exact rg_neg (by decide) c_2 | exact rg_nl (b := 9) (by decide) c_8 | exact rg_gt (b := 9) (by decide) c_8), rfl, rfl⟩)) (Nat.le_of_ble_eq_true rfl) (Nat.le_of_ble_eq_true rfl) dX3_register_36
set_option maxHeartbeats 4000000 in
set_option maxRecDepth 100000 in
theorem m_memory (l : Launch) (htr : l.stackTraces = false) (D : va_G) (sz : Nat) (m0 tm rgm mem bym in_ so fr sh wo fe go fi se_ th n : Nat) (pl : Int32) (a pt hd : Nat) (cyc rds wrs fts : Int32) (thr : Nat) (wcm bcm : Bool) (wd0 ab : Int32) (mm : Nat → Int32) (i : Int32)  : Ct l yX3_memory wX3_memory { frames := 0, cells := 0, slots := 0, locals := 0 } D ([(m0, .inr (3, [.ref tm, .ref rgm, .ref mem, .ref bym, .ref in_, .ref so, .ref fr, .ref sh, .ref wo, .ref fe, .ref go, .ref fi, .ref se_, .ref th, .int (nI n), .int pl, .int (nI a), .int (nI pt), .int (nI hd), .int cyc, .int rds, .int wrs, .int fts, .int (nI thr), .int (bI wcm), .int (bI bcm), .int wd0, .int ab])), (mem, .inl (D.1 11, 64, .inl mm))]) [.ref m0, .int i] sz (fun v w => (∃ k, k < 64 ∧ i = nI k ∧ v = some (.int (mm k)) ∧ w = [(m0, .inr (3, [.ref tm, .ref rgm, .ref mem, .ref bym, .ref in_, .ref so, .ref fr, .ref sh, .ref wo, .ref fe, .ref go, .ref fi, .ref se_, .ref th, .int (nI n), .int pl, .int (nI a), .int (nI pt), .int (nI hd), .int cyc, .int rds, .int wrs, .int fts, .int (nI 0), .int (bI wcm), .int (bI bcm), .int wd0, .int ab])), (mem, .inl (D.1 11, 64, .inl mm))]) ∨ ((∀ k, k < 64 → i ≠ nI k) ∧ v = some (.int (nI 0)) ∧ w = [(m0, .inr (3, [.ref tm, .ref rgm, .ref mem, .ref bym, .ref in_, .ref so, .ref fr, .ref sh, .ref wo, .ref fe, .ref go, .ref fi, .ref se_, .ref th, .int (nI n), .int pl, .int (nI a), .int (nI pt), .int (nI hd), .int cyc, .int rds, .int wrs, .int fts, .int (nI 1), .int (bI wcm), .int (bI bcm), .int wd0, .int ab])), (mem, .inl (D.1 11, 64, .inl mm))])) (nox) := by
  refine Ct.of (cc := cX3_memory) (nL := 2) (ret := (some .int)) (own := RX3) htr (by decide) rfl (Nat.le_of_ble_eq_true rfl) ?_
  intro p e s m args below meth c A C hr hK H locs hH ls hl
  have hl : lv_has ls 2 [(0, .ref m0), (1, .int i)] := hl
  refine lv_aload_n C.x C.b dX3_memory_0 rfl (lv_at hl 0 rfl) ?_
  refine lv_iload_n C.x C.b dX3_memory_1 rfl (lv_at hl 1 rfl) ?_
  refine lv_if_lt (tgt := 11) C.x C.b dX3_memory_2 (by decide) (fun c_2 => ?_) (fun c_2 => ?_)
  · refine lv_iconst (v := nI 1) C.x C.b dX3_memory_11 (by decide) ?_
    refine lv_goto (tgt := 16) C.x C.b dX3_memory_12 (by decide) ?_
    refine gPut (v := .int (nI 1)) (ws' := [(m0, .inr (3, [.ref tm, .ref rgm, .ref mem, .ref bym, .ref in_, .ref so, .ref fr, .ref sh, .ref wo, .ref fe, .ref go, .ref fi, .ref se_, .ref th, .int (nI n), .int pl, .int (nI a), .int (nI pt), .int (nI hd), .int cyc, .int rds, .int wrs, .int fts, .int (nI 1), .int (bI wcm), .int (bI bcm), .int wd0, .int ab])), (mem, .inl (D.1 11, 64, .inl mm))]) C hK hH 0 23 tyX3 tyX3_ok nmX3 rfl rfl inX3 (by decide) tw_561 rfl rfl rfl (Nat.le_of_ble_eq_true rfl) rfl dX3_memory_16 (fun H locs hH => ?_)
    refine lv_aload_n C.x C.b dX3_memory_19 rfl (lv_at hl 0 rfl) ?_
    refine gGet (v := .int (nI 1)) C hK hH 0 23 rfl rfl inX3 (by decide) tw_561 rfl dX3_memory_20 ?_
    refine vn_if_ne (tgt := 35) C.x C.b dX3_memory_23 (by decide) (by omega) (fun _ => ?_) (fun q => absurd q (by decide))
    refine lv_iconst (v := nI 0) C.x C.b dX3_memory_35 (by decide) ?_
    exact rI C hr hH (Or.inr (⟨(by first | exact rg_neg (by decide) c_2 | exact rg_nl (b := 63) (by decide) c_8 | exact rg_gt (b := 63) (by decide) c_8), rfl, rfl⟩)) (Nat.le_of_ble_eq_true rfl) (Nat.le_of_ble_eq_true rfl) dX3_memory_36
  · refine lv_iload_n C.x C.b dX3_memory_5 rfl (lv_at hl 1 rfl) ?_
    refine lv_bipush (v := nI 63) C.x C.b dX3_memory_6 (by decide) ?_
    refine lv_icmp_le (tgt := 15) C.x C.b dX3_memory_8 (by decide) (fun c_8 => ?_) (fun c_8 => ?_)
    · obtain ⟨k9, hk9, rfl⟩ : ∃ k, k < 63 + 1 ∧ i = nI k := by first | exact rg_le (by decide) c_2 c_8 | exact rg_ng (by decide) c_2 c_8
      have hk9 : k9 < 64 := hk9
      refine lv_iconst (v := nI 0) C.x C.b dX3_memory_15 (by decide) ?_
      refine gPut (v := .int (nI 0)) (ws' := [(m0, .inr (3, [.ref tm, .ref rgm, .ref mem, .ref bym, .ref in_, .ref so, .ref fr, .ref sh, .ref wo, .ref fe, .ref go, .ref fi, .ref se_, .ref th, .int (nI n), .int pl, .int (nI a), .int (nI pt), .int (nI hd), .int cyc, .int rds, .int wrs, .int fts, .int (nI 0), .int (bI wcm), .int (bI bcm), .int wd0, .int ab])), (mem, .inl (D.1 11, 64, .inl mm))]) C hK hH 0 23 tyX3 tyX3_ok nmX3 rfl rfl inX3 (by decide) tw_561 rfl rfl rfl (Nat.le_of_ble_eq_true rfl) rfl dX3_memory_16 (fun H locs hH => ?_)
      refine lv_aload_n C.x C.b dX3_memory_19 rfl (lv_at hl 0 rfl) ?_
      refine gGet (v := .int (nI 0)) C hK hH 0 23 rfl rfl inX3 (by decide) tw_561 rfl dX3_memory_20 ?_
      refine vn_if_ne (tgt := 35) C.x C.b dX3_memory_23 (by decide) (by omega) (fun q => absurd q (by decide)) (fun _ => ?_)
      refine lv_aload_n C.x C.b dX3_memory_26 rfl (lv_at hl 0 rfl) ?_
      refine gGet (v := .ref mem) C hK hH 0 2 rfl rfl inX3 (by decide) tw_540 rfl dX3_memory_27 ?_
      refine lv_iload_n C.x C.b dX3_memory_30 rfl (lv_at hl 1 rfl) ?_
      refine gIald (v := (mm k9)) C hK hH 1 rfl (by omega) (by decide) dX3_memory_31 rfl ?_
      refine lv_goto (tgt := 36) C.x C.b dX3_memory_32 (by decide) ?_
      exact rI C hr hH (Or.inl (⟨k9, hk9, rfl, rfl, rfl⟩)) (Nat.le_of_ble_eq_true rfl) (Nat.le_of_ble_eq_true rfl) dX3_memory_36
    · refine lv_iconst (v := nI 1) C.x C.b dX3_memory_11 (by decide) ?_
      refine lv_goto (tgt := 16) C.x C.b dX3_memory_12 (by decide) ?_
      refine gPut (v := .int (nI 1)) (ws' := [(m0, .inr (3, [.ref tm, .ref rgm, .ref mem, .ref bym, .ref in_, .ref so, .ref fr, .ref sh, .ref wo, .ref fe, .ref go, .ref fi, .ref se_, .ref th, .int (nI n), .int pl, .int (nI a), .int (nI pt), .int (nI hd), .int cyc, .int rds, .int wrs, .int fts, .int (nI 1), .int (bI wcm), .int (bI bcm), .int wd0, .int ab])), (mem, .inl (D.1 11, 64, .inl mm))]) C hK hH 0 23 tyX3 tyX3_ok nmX3 rfl rfl inX3 (by decide) tw_561 rfl rfl rfl (Nat.le_of_ble_eq_true rfl) rfl dX3_memory_16 (fun H locs hH => ?_)
      refine lv_aload_n C.x C.b dX3_memory_19 rfl (lv_at hl 0 rfl) ?_
      refine gGet (v := .int (nI 1)) C hK hH 0 23 rfl rfl inX3 (by decide) tw_561 rfl dX3_memory_20 ?_
      refine vn_if_ne (tgt := 35) C.x C.b dX3_memory_23 (by decide) (by omega) (fun _ => ?_) (fun q => absurd q (by decide))
      refine lv_iconst (v := nI 0) C.x C.b dX3_memory_35 (by decide) ?_
      exact rI C hr hH (Or.inr (⟨(by first | exact rg_neg (by decide) c_2 | exact rg_nl (b := 63) (by decide) c_8 | exact rg_gt (b := 63) (by decide) c_8), rfl, rfl⟩)) (Nat.le_of_ble_eq_true rfl) (Nat.le_of_ble_eq_true rfl) dX3_memory_36
set_option maxHeartbeats 4000000 in
set_option maxRecDepth 100000 in
theorem m_poke (l : Launch) (htr : l.stackTraces = false) (D : va_G) (sz : Nat) (m0 tm rgm mem bym in_ so fr sh wo fe go fi se_ th n : Nat) (pl : Int32) (a pt hd : Nat) (cyc rds wrs fts : Int32) (thr : Nat) (wcm bcm : Bool) (wd0 ab : Int32) (mm : Nat → Int32) (i z : Int32)  : Ct l yX3_poke wX3_poke { frames := 0, cells := 0, slots := 0, locals := 0 } D ([(m0, .inr (3, [.ref tm, .ref rgm, .ref mem, .ref bym, .ref in_, .ref so, .ref fr, .ref sh, .ref wo, .ref fe, .ref go, .ref fi, .ref se_, .ref th, .int (nI n), .int pl, .int (nI a), .int (nI pt), .int (nI hd), .int cyc, .int rds, .int wrs, .int fts, .int (nI thr), .int (bI wcm), .int (bI bcm), .int wd0, .int ab])), (mem, .inl (D.1 11, 64, .inl mm))]) [.ref m0, .int i, .int z] sz (fun v w => (∃ k, k < 64 ∧ i = nI k ∧ v = none ∧ w = [(m0, .inr (3, [.ref tm, .ref rgm, .ref mem, .ref bym, .ref in_, .ref so, .ref fr, .ref sh, .ref wo, .ref fe, .ref go, .ref fi, .ref se_, .ref th, .int (nI n), .int pl, .int (nI a), .int (nI pt), .int (nI hd), .int cyc, .int rds, .int wrs, .int fts, .int (nI 0), .int (bI wcm), .int (bI bcm), .int wd0, .int ab])), (mem, .inl (D.1 11, 64, .inl (upd mm k z)))]) ∨ ((∀ k, k < 64 → i ≠ nI k) ∧ v = none ∧ w = [(m0, .inr (3, [.ref tm, .ref rgm, .ref mem, .ref bym, .ref in_, .ref so, .ref fr, .ref sh, .ref wo, .ref fe, .ref go, .ref fi, .ref se_, .ref th, .int (nI n), .int pl, .int (nI a), .int (nI pt), .int (nI hd), .int cyc, .int rds, .int wrs, .int fts, .int (nI 1), .int (bI wcm), .int (bI bcm), .int wd0, .int ab])), (mem, .inl (D.1 11, 64, .inl mm))])) (nox) := by
  refine Ct.of (cc := cX3_poke) (nL := 3) (ret := none) (own := RX3) htr (by decide) rfl (Nat.le_of_ble_eq_true rfl) ?_
  intro p e s m args below meth c A C hr hK H locs hH ls hl
  have hl : lv_has ls 3 [(0, .ref m0), (1, .int i), (2, .int z)] := hl
  refine lv_aload_n C.x C.b dX3_poke_0 rfl (lv_at hl 0 rfl) ?_
  refine lv_iload_n C.x C.b dX3_poke_1 rfl (lv_at hl 1 rfl) ?_
  refine lv_if_lt (tgt := 11) C.x C.b dX3_poke_2 (by decide) (fun c_2 => ?_) (fun c_2 => ?_)
  · refine lv_iconst (v := nI 1) C.x C.b dX3_poke_11 (by decide) ?_
    refine lv_goto (tgt := 16) C.x C.b dX3_poke_12 (by decide) ?_
    refine gPut (v := .int (nI 1)) (ws' := [(m0, .inr (3, [.ref tm, .ref rgm, .ref mem, .ref bym, .ref in_, .ref so, .ref fr, .ref sh, .ref wo, .ref fe, .ref go, .ref fi, .ref se_, .ref th, .int (nI n), .int pl, .int (nI a), .int (nI pt), .int (nI hd), .int cyc, .int rds, .int wrs, .int fts, .int (nI 1), .int (bI wcm), .int (bI bcm), .int wd0, .int ab])), (mem, .inl (D.1 11, 64, .inl mm))]) C hK hH 0 23 tyX3 tyX3_ok nmX3 rfl rfl inX3 (by decide) tw_561 rfl rfl rfl (Nat.le_of_ble_eq_true rfl) rfl dX3_poke_16 (fun H locs hH => ?_)
    refine lv_aload_n C.x C.b dX3_poke_19 rfl (lv_at hl 0 rfl) ?_
    refine gGet (v := .int (nI 1)) C hK hH 0 23 rfl rfl inX3 (by decide) tw_561 rfl dX3_poke_20 ?_
    refine vn_if_ne (tgt := 33) C.x C.b dX3_poke_23 (by decide) (by omega) (fun _ => ?_) (fun q => absurd q (by decide))
    exact rV C hr hH (Or.inr (⟨(by first | exact rg_neg (by decide) c_2 | exact rg_nl (b := 63) (by decide) c_8 | exact rg_gt (b := 63) (by decide) c_8), rfl, rfl⟩)) (Nat.le_of_ble_eq_true rfl) (Nat.le_of_ble_eq_true rfl) dX3_poke_33
  · refine lv_iload_n C.x C.b dX3_poke_5 rfl (lv_at hl 1 rfl) ?_
    refine lv_bipush (v := nI 63) C.x C.b dX3_poke_6 (by decide) ?_
    refine lv_icmp_le (tgt := 15) C.x C.b dX3_poke_8 (by decide) (fun c_8 => ?_) (fun c_8 => ?_)
    · obtain ⟨k9, hk9, rfl⟩ : ∃ k, k < 63 + 1 ∧ i = nI k := by first | exact rg_le (by decide) c_2 c_8 | exact rg_ng (by decide) c_2 c_8
      have hk9 : k9 < 64 := hk9
      refine lv_iconst (v := nI 0) C.x C.b dX3_poke_15 (by decide) ?_
      refine gPut (v := .int (nI 0)) (ws' := [(m0, .inr (3, [.ref tm, .ref rgm, .ref mem, .ref bym, .ref in_, .ref so, .ref fr, .ref sh, .ref wo, .ref fe, .ref go, .ref fi, .ref se_, .ref th, .int (nI n), .int pl, .int (nI a), .int (nI pt), .int (nI hd), .int cyc, .int rds, .int wrs, .int fts, .int (nI 0), .int (bI wcm), .int (bI bcm), .int wd0, .int ab])), (mem, .inl (D.1 11, 64, .inl mm))]) C hK hH 0 23 tyX3 tyX3_ok nmX3 rfl rfl inX3 (by decide) tw_561 rfl rfl rfl (Nat.le_of_ble_eq_true rfl) rfl dX3_poke_16 (fun H locs hH => ?_)
      refine lv_aload_n C.x C.b dX3_poke_19 rfl (lv_at hl 0 rfl) ?_
      refine gGet (v := .int (nI 0)) C hK hH 0 23 rfl rfl inX3 (by decide) tw_561 rfl dX3_poke_20 ?_
      refine vn_if_ne (tgt := 33) C.x C.b dX3_poke_23 (by decide) (by omega) (fun q => absurd q (by decide)) (fun _ => ?_)
      refine lv_aload_n C.x C.b dX3_poke_26 rfl (lv_at hl 0 rfl) ?_
      refine gGet (v := .ref mem) C hK hH 0 2 rfl rfl inX3 (by decide) tw_540 rfl dX3_poke_27 ?_
      refine lv_iload_n C.x C.b dX3_poke_30 rfl (lv_at hl 1 rfl) ?_
      refine lv_iload_n C.x C.b dX3_poke_31 rfl (lv_at hl 2 rfl) ?_
      refine gIast (f' := upd mm k9 z) (ws' := [(m0, .inr (3, [.ref tm, .ref rgm, .ref mem, .ref bym, .ref in_, .ref so, .ref fr, .ref sh, .ref wo, .ref fe, .ref go, .ref fi, .ref se_, .ref th, .int (nI n), .int pl, .int (nI a), .int (nI pt), .int (nI hd), .int cyc, .int rds, .int wrs, .int fts, .int (nI 0), .int (bI wcm), .int (bI bcm), .int wd0, .int ab])), (mem, .inl (D.1 11, 64, .inl (upd mm k9 z)))]) C hK hH 1 rfl (by omega) (by decide) rfl rfl dX3_poke_32 (fun H locs hH => ?_)
      exact rV C hr hH (Or.inl (⟨k9, hk9, rfl, rfl, rfl⟩)) (Nat.le_of_ble_eq_true rfl) (Nat.le_of_ble_eq_true rfl) dX3_poke_33
    · refine lv_iconst (v := nI 1) C.x C.b dX3_poke_11 (by decide) ?_
      refine lv_goto (tgt := 16) C.x C.b dX3_poke_12 (by decide) ?_
      refine gPut (v := .int (nI 1)) (ws' := [(m0, .inr (3, [.ref tm, .ref rgm, .ref mem, .ref bym, .ref in_, .ref so, .ref fr, .ref sh, .ref wo, .ref fe, .ref go, .ref fi, .ref se_, .ref th, .int (nI n), .int pl, .int (nI a), .int (nI pt), .int (nI hd), .int cyc, .int rds, .int wrs, .int fts, .int (nI 1), .int (bI wcm), .int (bI bcm), .int wd0, .int ab])), (mem, .inl (D.1 11, 64, .inl mm))]) C hK hH 0 23 tyX3 tyX3_ok nmX3 rfl rfl inX3 (by decide) tw_561 rfl rfl rfl (Nat.le_of_ble_eq_true rfl) rfl dX3_poke_16 (fun H locs hH => ?_)
      refine lv_aload_n C.x C.b dX3_poke_19 rfl (lv_at hl 0 rfl) ?_
      refine gGet (v := .int (nI 1)) C hK hH 0 23 rfl rfl inX3 (by decide) tw_561 rfl dX3_poke_20 ?_
      refine vn_if_ne (tgt := 33) C.x C.b dX3_poke_23 (by decide) (by omega) (fun _ => ?_) (fun q => absurd q (by decide))
      exact rV C hr hH (Or.inr (⟨(by first | exact rg_neg (by decide) c_2 | exact rg_nl (b := 63) (by decide) c_8 | exact rg_gt (b := 63) (by decide) c_8), rfl, rfl⟩)) (Nat.le_of_ble_eq_true rfl) (Nat.le_of_ble_eq_true rfl) dX3_poke_33
set_option maxHeartbeats 4000000 in
set_option maxRecDepth 100000 in
theorem m_code (l : Launch) (htr : l.stackTraces = false) (D : va_G) (sz : Nat) (m0 tm rgm mem bym in_ so fr sh wo fe go fi se_ th n : Nat) (pl : Int32) (a pt hd : Nat) (cyc rds wrs fts : Int32) (thr : Nat) (wcm bcm : Bool) (wd0 ab : Int32) (kb : Nat → Int32) (i z : Int32)  : Ct l yX3_code wX3_code { frames := 0, cells := 0, slots := 0, locals := 0 } D ([(m0, .inr (3, [.ref tm, .ref rgm, .ref mem, .ref bym, .ref in_, .ref so, .ref fr, .ref sh, .ref wo, .ref fe, .ref go, .ref fi, .ref se_, .ref th, .int (nI n), .int pl, .int (nI a), .int (nI pt), .int (nI hd), .int cyc, .int rds, .int wrs, .int fts, .int (nI thr), .int (bI wcm), .int (bI bcm), .int wd0, .int ab])), (bym, .inl (D.1 11, 64, .inl kb))]) [.ref m0, .int i, .int z] sz (fun v w => (∃ k j, k < 64 ∧ i = nI k ∧ j < 256 ∧ z = nI j ∧ v = none ∧ w = [(m0, .inr (3, [.ref tm, .ref rgm, .ref mem, .ref bym, .ref in_, .ref so, .ref fr, .ref sh, .ref wo, .ref fe, .ref go, .ref fi, .ref se_, .ref th, .int (nI n), .int pl, .int (nI a), .int (nI pt), .int (nI hd), .int cyc, .int rds, .int wrs, .int fts, .int (nI 0), .int (bI wcm), .int (bI bcm), .int wd0, .int ab])), (bym, .inl (D.1 11, 64, .inl (upd kb k (nI j))))]) ∨ (((∀ k, k < 64 → i ≠ nI k) ∨ (∀ k, k < 256 → z ≠ nI k)) ∧ v = none ∧ w = [(m0, .inr (3, [.ref tm, .ref rgm, .ref mem, .ref bym, .ref in_, .ref so, .ref fr, .ref sh, .ref wo, .ref fe, .ref go, .ref fi, .ref se_, .ref th, .int (nI n), .int pl, .int (nI a), .int (nI pt), .int (nI hd), .int cyc, .int rds, .int wrs, .int fts, .int (nI 1), .int (bI wcm), .int (bI bcm), .int wd0, .int ab])), (bym, .inl (D.1 11, 64, .inl kb))])) (nox) := by
  refine Ct.of (cc := cX3_code) (nL := 3) (ret := none) (own := RX3) htr (by decide) rfl (Nat.le_of_ble_eq_true rfl) ?_
  intro p e s m args below meth c A C hr hK H locs hH ls hl
  have hl : lv_has ls 3 [(0, .ref m0), (1, .int i), (2, .int z)] := hl
  refine lv_aload_n C.x C.b dX3_code_0 rfl (lv_at hl 0 rfl) ?_
  refine lv_iload_n C.x C.b dX3_code_1 rfl (lv_at hl 1 rfl) ?_
  refine lv_if_lt (tgt := 22) C.x C.b dX3_code_2 (by decide) (fun c_2 => ?_) (fun c_2 => ?_)
  · refine lv_iconst (v := nI 1) C.x C.b dX3_code_22 (by decide) ?_
    refine lv_goto (tgt := 27) C.x C.b dX3_code_23 (by decide) ?_
    refine gPut (v := .int (nI 1)) (ws' := [(m0, .inr (3, [.ref tm, .ref rgm, .ref mem, .ref bym, .ref in_, .ref so, .ref fr, .ref sh, .ref wo, .ref fe, .ref go, .ref fi, .ref se_, .ref th, .int (nI n), .int pl, .int (nI a), .int (nI pt), .int (nI hd), .int cyc, .int rds, .int wrs, .int fts, .int (nI 1), .int (bI wcm), .int (bI bcm), .int wd0, .int ab])), (bym, .inl (D.1 11, 64, .inl kb))]) C hK hH 0 23 tyX3 tyX3_ok nmX3 rfl rfl inX3 (by decide) tw_561 rfl rfl rfl (Nat.le_of_ble_eq_true rfl) rfl dX3_code_27 (fun H locs hH => ?_)
    refine lv_aload_n C.x C.b dX3_code_30 rfl (lv_at hl 0 rfl) ?_
    refine gGet (v := .int (nI 1)) C hK hH 0 23 rfl rfl inX3 (by decide) tw_561 rfl dX3_code_31 ?_
    refine vn_if_ne (tgt := 44) C.x C.b dX3_code_34 (by decide) (by omega) (fun _ => ?_) (fun q => absurd q (by decide))
    exact rV C hr hH (Or.inr ⟨Or.inl (by first | exact rg_neg (by decide) c_2 | exact rg_nl (b := 63) (by decide) c_8 | exact rg_gt (b := 63) (by decide) c_8), rfl, rfl⟩) (Nat.le_of_ble_eq_true rfl) (Nat.le_of_ble_eq_true rfl) dX3_code_44
  · refine lv_iload_n C.x C.b dX3_code_5 rfl (lv_at hl 1 rfl) ?_
    refine lv_bipush (v := nI 63) C.x C.b dX3_code_6 (by decide) ?_
    refine lv_icmp_gt (tgt := 22) C.x C.b dX3_code_8 (by decide) (fun c_8 => ?_) (fun c_8 => ?_)
    · refine lv_iconst (v := nI 1) C.x C.b dX3_code_22 (by decide) ?_
      refine lv_goto (tgt := 27) C.x C.b dX3_code_23 (by decide) ?_
      refine gPut (v := .int (nI 1)) (ws' := [(m0, .inr (3, [.ref tm, .ref rgm, .ref mem, .ref bym, .ref in_, .ref so, .ref fr, .ref sh, .ref wo, .ref fe, .ref go, .ref fi, .ref se_, .ref th, .int (nI n), .int pl, .int (nI a), .int (nI pt), .int (nI hd), .int cyc, .int rds, .int wrs, .int fts, .int (nI 1), .int (bI wcm), .int (bI bcm), .int wd0, .int ab])), (bym, .inl (D.1 11, 64, .inl kb))]) C hK hH 0 23 tyX3 tyX3_ok nmX3 rfl rfl inX3 (by decide) tw_561 rfl rfl rfl (Nat.le_of_ble_eq_true rfl) rfl dX3_code_27 (fun H locs hH => ?_)
      refine lv_aload_n C.x C.b dX3_code_30 rfl (lv_at hl 0 rfl) ?_
      refine gGet (v := .int (nI 1)) C hK hH 0 23 rfl rfl inX3 (by decide) tw_561 rfl dX3_code_31 ?_
      refine vn_if_ne (tgt := 44) C.x C.b dX3_code_34 (by decide) (by omega) (fun _ => ?_) (fun q => absurd q (by decide))
      exact rV C hr hH (Or.inr ⟨Or.inl (by first | exact rg_neg (by decide) c_2 | exact rg_nl (b := 63) (by decide) c_8 | exact rg_gt (b := 63) (by decide) c_8), rfl, rfl⟩) (Nat.le_of_ble_eq_true rfl) (Nat.le_of_ble_eq_true rfl) dX3_code_44
    · obtain ⟨k9, hk9, rfl⟩ : ∃ k, k < 63 + 1 ∧ i = nI k := by first | exact rg_le (by decide) c_2 c_8 | exact rg_ng (by decide) c_2 c_8
      have hk9 : k9 < 64 := hk9
      refine lv_iload_n C.x C.b dX3_code_11 rfl (lv_at hl 2 rfl) ?_
      refine lv_if_lt (tgt := 22) C.x C.b dX3_code_12 (by decide) (fun c_12 => ?_) (fun c_12 => ?_)
      · refine lv_iconst (v := nI 1) C.x C.b dX3_code_22 (by decide) ?_
        refine lv_goto (tgt := 27) C.x C.b dX3_code_23 (by decide) ?_
        refine gPut (v := .int (nI 1)) (ws' := [(m0, .inr (3, [.ref tm, .ref rgm, .ref mem, .ref bym, .ref in_, .ref so, .ref fr, .ref sh, .ref wo, .ref fe, .ref go, .ref fi, .ref se_, .ref th, .int (nI n), .int pl, .int (nI a), .int (nI pt), .int (nI hd), .int cyc, .int rds, .int wrs, .int fts, .int (nI 1), .int (bI wcm), .int (bI bcm), .int wd0, .int ab])), (bym, .inl (D.1 11, 64, .inl kb))]) C hK hH 0 23 tyX3 tyX3_ok nmX3 rfl rfl inX3 (by decide) tw_561 rfl rfl rfl (Nat.le_of_ble_eq_true rfl) rfl dX3_code_27 (fun H locs hH => ?_)
        refine lv_aload_n C.x C.b dX3_code_30 rfl (lv_at hl 0 rfl) ?_
        refine gGet (v := .int (nI 1)) C hK hH 0 23 rfl rfl inX3 (by decide) tw_561 rfl dX3_code_31 ?_
        refine vn_if_ne (tgt := 44) C.x C.b dX3_code_34 (by decide) (by omega) (fun _ => ?_) (fun q => absurd q (by decide))
        exact rV C hr hH (Or.inr ⟨Or.inr (by first | exact rg_neg (by decide) c_12 | exact rg_nl (b := 255) (by decide) c_19 | exact rg_gt (b := 255) (by decide) c_19), rfl, rfl⟩) (Nat.le_of_ble_eq_true rfl) (Nat.le_of_ble_eq_true rfl) dX3_code_44
      · refine lv_iload_n C.x C.b dX3_code_15 rfl (lv_at hl 2 rfl) ?_
        refine lv_sipush (v := nI 255) C.x C.b dX3_code_16 (by decide) ?_
        refine lv_icmp_le (tgt := 26) C.x C.b dX3_code_19 (by decide) (fun c_19 => ?_) (fun c_19 => ?_)
        · obtain ⟨j9, hj9, rfl⟩ : ∃ k, k < 255 + 1 ∧ z = nI k := by first | exact rg_le (by decide) c_12 c_19 | exact rg_ng (by decide) c_12 c_19
          have hj9 : j9 < 256 := hj9
          refine lv_iconst (v := nI 0) C.x C.b dX3_code_26 (by decide) ?_
          refine gPut (v := .int (nI 0)) (ws' := [(m0, .inr (3, [.ref tm, .ref rgm, .ref mem, .ref bym, .ref in_, .ref so, .ref fr, .ref sh, .ref wo, .ref fe, .ref go, .ref fi, .ref se_, .ref th, .int (nI n), .int pl, .int (nI a), .int (nI pt), .int (nI hd), .int cyc, .int rds, .int wrs, .int fts, .int (nI 0), .int (bI wcm), .int (bI bcm), .int wd0, .int ab])), (bym, .inl (D.1 11, 64, .inl kb))]) C hK hH 0 23 tyX3 tyX3_ok nmX3 rfl rfl inX3 (by decide) tw_561 rfl rfl rfl (Nat.le_of_ble_eq_true rfl) rfl dX3_code_27 (fun H locs hH => ?_)
          refine lv_aload_n C.x C.b dX3_code_30 rfl (lv_at hl 0 rfl) ?_
          refine gGet (v := .int (nI 0)) C hK hH 0 23 rfl rfl inX3 (by decide) tw_561 rfl dX3_code_31 ?_
          refine vn_if_ne (tgt := 44) C.x C.b dX3_code_34 (by decide) (by omega) (fun q => absurd q (by decide)) (fun _ => ?_)
          refine lv_aload_n C.x C.b dX3_code_37 rfl (lv_at hl 0 rfl) ?_
          refine gGet (v := .ref bym) C hK hH 0 3 rfl rfl inX3 (by decide) tw_541 rfl dX3_code_38 ?_
          refine lv_iload_n C.x C.b dX3_code_41 rfl (lv_at hl 1 rfl) ?_
          refine lv_iload_n C.x C.b dX3_code_42 rfl (lv_at hl 2 rfl) ?_
          refine gIast (f' := upd kb k9 (nI j9)) (ws' := [(m0, .inr (3, [.ref tm, .ref rgm, .ref mem, .ref bym, .ref in_, .ref so, .ref fr, .ref sh, .ref wo, .ref fe, .ref go, .ref fi, .ref se_, .ref th, .int (nI n), .int pl, .int (nI a), .int (nI pt), .int (nI hd), .int cyc, .int rds, .int wrs, .int fts, .int (nI 0), .int (bI wcm), .int (bI bcm), .int wd0, .int ab])), (bym, .inl (D.1 11, 64, .inl (upd kb k9 (nI j9))))]) C hK hH 1 rfl (by omega) (by decide) rfl rfl dX3_code_43 (fun H locs hH => ?_)
          exact rV C hr hH (Or.inl ⟨k9, j9, hk9, rfl, hj9, rfl, rfl, rfl⟩) (Nat.le_of_ble_eq_true rfl) (Nat.le_of_ble_eq_true rfl) dX3_code_44
        · refine lv_iconst (v := nI 1) C.x C.b dX3_code_22 (by decide) ?_
          refine lv_goto (tgt := 27) C.x C.b dX3_code_23 (by decide) ?_
          refine gPut (v := .int (nI 1)) (ws' := [(m0, .inr (3, [.ref tm, .ref rgm, .ref mem, .ref bym, .ref in_, .ref so, .ref fr, .ref sh, .ref wo, .ref fe, .ref go, .ref fi, .ref se_, .ref th, .int (nI n), .int pl, .int (nI a), .int (nI pt), .int (nI hd), .int cyc, .int rds, .int wrs, .int fts, .int (nI 1), .int (bI wcm), .int (bI bcm), .int wd0, .int ab])), (bym, .inl (D.1 11, 64, .inl kb))]) C hK hH 0 23 tyX3 tyX3_ok nmX3 rfl rfl inX3 (by decide) tw_561 rfl rfl rfl (Nat.le_of_ble_eq_true rfl) rfl dX3_code_27 (fun H locs hH => ?_)
          refine lv_aload_n C.x C.b dX3_code_30 rfl (lv_at hl 0 rfl) ?_
          refine gGet (v := .int (nI 1)) C hK hH 0 23 rfl rfl inX3 (by decide) tw_561 rfl dX3_code_31 ?_
          refine vn_if_ne (tgt := 44) C.x C.b dX3_code_34 (by decide) (by omega) (fun _ => ?_) (fun q => absurd q (by decide))
          exact rV C hr hH (Or.inr ⟨Or.inr (by first | exact rg_neg (by decide) c_12 | exact rg_nl (b := 255) (by decide) c_19 | exact rg_gt (b := 255) (by decide) c_19), rfl, rfl⟩) (Nat.le_of_ble_eq_true rfl) (Nat.le_of_ble_eq_true rfl) dX3_code_44
set_option maxHeartbeats 4000000 in
set_option maxRecDepth 100000 in
theorem m_set (l : Launch) (htr : l.stackTraces = false) (D : va_G) (sz : Nat) (m0 tm rgm mem bym in_ so fr sh wo fe go fi se_ th n : Nat) (pl : Int32) (a pt hd : Nat) (cyc rds wrs fts : Int32) (thr : Nat) (wcm bcm : Bool) (wd0 ab : Int32) (r : Nat → Int32) (i z : Int32)  : Ct l yX3_set wX3_set { frames := 0, cells := 0, slots := 0, locals := 0 } D ([(m0, .inr (3, [.ref tm, .ref rgm, .ref mem, .ref bym, .ref in_, .ref so, .ref fr, .ref sh, .ref wo, .ref fe, .ref go, .ref fi, .ref se_, .ref th, .int (nI n), .int pl, .int (nI a), .int (nI pt), .int (nI hd), .int cyc, .int rds, .int wrs, .int fts, .int (nI thr), .int (bI wcm), .int (bI bcm), .int wd0, .int ab])), (rgm, .inl (D.1 11, 10, .inl r))]) [.ref m0, .int i, .int z] sz (fun v w => (∃ k, k < 10 ∧ i = nI k ∧ (k = 9 → ∃ j, j < 256 ∧ z = nI j) ∧ v = none ∧ w = [(m0, .inr (3, [.ref tm, .ref rgm, .ref mem, .ref bym, .ref in_, .ref so, .ref fr, .ref sh, .ref wo, .ref fe, .ref go, .ref fi, .ref se_, .ref th, .int (nI n), .int pl, .int (nI a), .int (nI pt), .int (nI hd), .int cyc, .int rds, .int wrs, .int fts, .int (nI 0), .int (bI wcm), .int (bI bcm), .int wd0, .int ab])), (rgm, .inl (D.1 11, 10, .inl (upd r k z)))]) ∨ (((∀ k, k < 10 → i ≠ nI k) ∨ (i = nI 9 ∧ (∀ k, k < 256 → z ≠ nI k))) ∧ v = none ∧ w = [(m0, .inr (3, [.ref tm, .ref rgm, .ref mem, .ref bym, .ref in_, .ref so, .ref fr, .ref sh, .ref wo, .ref fe, .ref go, .ref fi, .ref se_, .ref th, .int (nI n), .int pl, .int (nI a), .int (nI pt), .int (nI hd), .int cyc, .int rds, .int wrs, .int fts, .int (nI 1), .int (bI wcm), .int (bI bcm), .int wd0, .int ab])), (rgm, .inl (D.1 11, 10, .inl r))])) (nox) := by
  refine Ct.of (cc := cX3_set) (nL := 3) (ret := none) (own := RX3) htr (by decide) rfl (Nat.le_of_ble_eq_true rfl) ?_
  intro p e s m args below meth c A C hr hK H locs hH ls hl
  have hl : lv_has ls 3 [(0, .ref m0), (1, .int i), (2, .int z)] := hl
  refine lv_aload_n C.x C.b dX3_set_0 rfl (lv_at hl 0 rfl) ?_
  refine lv_iload_n C.x C.b dX3_set_1 rfl (lv_at hl 1 rfl) ?_
  refine lv_if_lt (tgt := 28) C.x C.b dX3_set_2 (by decide) (fun c_2 => ?_) (fun c_2 => ?_)
  · refine lv_iconst (v := nI 1) C.x C.b dX3_set_28 (by decide) ?_
    refine lv_goto (tgt := 33) C.x C.b dX3_set_29 (by decide) ?_
    refine gPut (v := .int (nI 1)) (ws' := [(m0, .inr (3, [.ref tm, .ref rgm, .ref mem, .ref bym, .ref in_, .ref so, .ref fr, .ref sh, .ref wo, .ref fe, .ref go, .ref fi, .ref se_, .ref th, .int (nI n), .int pl, .int (nI a), .int (nI pt), .int (nI hd), .int cyc, .int rds, .int wrs, .int fts, .int (nI 1), .int (bI wcm), .int (bI bcm), .int wd0, .int ab])), (rgm, .inl (D.1 11, 10, .inl r))]) C hK hH 0 23 tyX3 tyX3_ok nmX3 rfl rfl inX3 (by decide) tw_561 rfl rfl rfl (Nat.le_of_ble_eq_true rfl) rfl dX3_set_33 (fun H locs hH => ?_)
    refine lv_aload_n C.x C.b dX3_set_36 rfl (lv_at hl 0 rfl) ?_
    refine gGet (v := .int (nI 1)) C hK hH 0 23 rfl rfl inX3 (by decide) tw_561 rfl dX3_set_37 ?_
    refine vn_if_ne (tgt := 50) C.x C.b dX3_set_40 (by decide) (by omega) (fun _ => ?_) (fun q => absurd q (by decide))
    exact rV C hr hH (Or.inr ⟨Or.inl (by first | exact rg_neg (by decide) c_2 | exact rg_nl (b := 9) (by decide) c_8 | exact rg_gt (b := 9) (by decide) c_8), rfl, rfl⟩) (Nat.le_of_ble_eq_true rfl) (Nat.le_of_ble_eq_true rfl) dX3_set_50
  · refine lv_iload_n C.x C.b dX3_set_5 rfl (lv_at hl 1 rfl) ?_
    refine lv_bipush (v := nI 9) C.x C.b dX3_set_6 (by decide) ?_
    refine lv_icmp_gt (tgt := 28) C.x C.b dX3_set_8 (by decide) (fun c_8 => ?_) (fun c_8 => ?_)
    · refine lv_iconst (v := nI 1) C.x C.b dX3_set_28 (by decide) ?_
      refine lv_goto (tgt := 33) C.x C.b dX3_set_29 (by decide) ?_
      refine gPut (v := .int (nI 1)) (ws' := [(m0, .inr (3, [.ref tm, .ref rgm, .ref mem, .ref bym, .ref in_, .ref so, .ref fr, .ref sh, .ref wo, .ref fe, .ref go, .ref fi, .ref se_, .ref th, .int (nI n), .int pl, .int (nI a), .int (nI pt), .int (nI hd), .int cyc, .int rds, .int wrs, .int fts, .int (nI 1), .int (bI wcm), .int (bI bcm), .int wd0, .int ab])), (rgm, .inl (D.1 11, 10, .inl r))]) C hK hH 0 23 tyX3 tyX3_ok nmX3 rfl rfl inX3 (by decide) tw_561 rfl rfl rfl (Nat.le_of_ble_eq_true rfl) rfl dX3_set_33 (fun H locs hH => ?_)
      refine lv_aload_n C.x C.b dX3_set_36 rfl (lv_at hl 0 rfl) ?_
      refine gGet (v := .int (nI 1)) C hK hH 0 23 rfl rfl inX3 (by decide) tw_561 rfl dX3_set_37 ?_
      refine vn_if_ne (tgt := 50) C.x C.b dX3_set_40 (by decide) (by omega) (fun _ => ?_) (fun q => absurd q (by decide))
      exact rV C hr hH (Or.inr ⟨Or.inl (by first | exact rg_neg (by decide) c_2 | exact rg_nl (b := 9) (by decide) c_8 | exact rg_gt (b := 9) (by decide) c_8), rfl, rfl⟩) (Nat.le_of_ble_eq_true rfl) (Nat.le_of_ble_eq_true rfl) dX3_set_50
    · obtain ⟨k9, hk9, rfl⟩ : ∃ k, k < 9 + 1 ∧ i = nI k := by first | exact rg_le (by decide) c_2 c_8 | exact rg_ng (by decide) c_2 c_8
      have hk9 : k9 < 10 := hk9
      refine lv_iload_n C.x C.b dX3_set_11 rfl (lv_at hl 1 rfl) ?_
      refine lv_bipush (v := nI 9) C.x C.b dX3_set_12 (by decide) ?_
      refine vn_icmp_ne (tgt := 32) C.x C.b dX3_set_14 (by decide) (by omega) (by omega) (fun c_14 => ?_) (fun c_14 => ?_)
      · refine lv_iconst (v := nI 0) C.x C.b dX3_set_32 (by decide) ?_
        refine gPut (v := .int (nI 0)) (ws' := [(m0, .inr (3, [.ref tm, .ref rgm, .ref mem, .ref bym, .ref in_, .ref so, .ref fr, .ref sh, .ref wo, .ref fe, .ref go, .ref fi, .ref se_, .ref th, .int (nI n), .int pl, .int (nI a), .int (nI pt), .int (nI hd), .int cyc, .int rds, .int wrs, .int fts, .int (nI 0), .int (bI wcm), .int (bI bcm), .int wd0, .int ab])), (rgm, .inl (D.1 11, 10, .inl r))]) C hK hH 0 23 tyX3 tyX3_ok nmX3 rfl rfl inX3 (by decide) tw_561 rfl rfl rfl (Nat.le_of_ble_eq_true rfl) rfl dX3_set_33 (fun H locs hH => ?_)
        refine lv_aload_n C.x C.b dX3_set_36 rfl (lv_at hl 0 rfl) ?_
        refine gGet (v := .int (nI 0)) C hK hH 0 23 rfl rfl inX3 (by decide) tw_561 rfl dX3_set_37 ?_
        refine vn_if_ne (tgt := 50) C.x C.b dX3_set_40 (by decide) (by omega) (fun q => absurd q (by decide)) (fun _ => ?_)
        refine lv_aload_n C.x C.b dX3_set_43 rfl (lv_at hl 0 rfl) ?_
        refine gGet (v := .ref rgm) C hK hH 0 1 rfl rfl inX3 (by decide) tw_539 rfl dX3_set_44 ?_
        refine lv_iload_n C.x C.b dX3_set_47 rfl (lv_at hl 1 rfl) ?_
        refine lv_iload_n C.x C.b dX3_set_48 rfl (lv_at hl 2 rfl) ?_
        refine gIast (f' := upd r k9 z) (ws' := [(m0, .inr (3, [.ref tm, .ref rgm, .ref mem, .ref bym, .ref in_, .ref so, .ref fr, .ref sh, .ref wo, .ref fe, .ref go, .ref fi, .ref se_, .ref th, .int (nI n), .int pl, .int (nI a), .int (nI pt), .int (nI hd), .int cyc, .int rds, .int wrs, .int fts, .int (nI 0), .int (bI wcm), .int (bI bcm), .int wd0, .int ab])), (rgm, .inl (D.1 11, 10, .inl (upd r k9 z)))]) C hK hH 1 rfl (by omega) (by decide) rfl rfl dX3_set_49 (fun H locs hH => ?_)
        exact rV C hr hH (Or.inl ⟨k9, hk9, rfl, fun q => absurd q c_14, rfl, rfl⟩) (Nat.le_of_ble_eq_true rfl) (Nat.le_of_ble_eq_true rfl) dX3_set_50
      · refine lv_iload_n C.x C.b dX3_set_17 rfl (lv_at hl 2 rfl) ?_
        refine lv_if_lt (tgt := 28) C.x C.b dX3_set_18 (by decide) (fun c_18 => ?_) (fun c_18 => ?_)
        · refine lv_iconst (v := nI 1) C.x C.b dX3_set_28 (by decide) ?_
          refine lv_goto (tgt := 33) C.x C.b dX3_set_29 (by decide) ?_
          refine gPut (v := .int (nI 1)) (ws' := [(m0, .inr (3, [.ref tm, .ref rgm, .ref mem, .ref bym, .ref in_, .ref so, .ref fr, .ref sh, .ref wo, .ref fe, .ref go, .ref fi, .ref se_, .ref th, .int (nI n), .int pl, .int (nI a), .int (nI pt), .int (nI hd), .int cyc, .int rds, .int wrs, .int fts, .int (nI 1), .int (bI wcm), .int (bI bcm), .int wd0, .int ab])), (rgm, .inl (D.1 11, 10, .inl r))]) C hK hH 0 23 tyX3 tyX3_ok nmX3 rfl rfl inX3 (by decide) tw_561 rfl rfl rfl (Nat.le_of_ble_eq_true rfl) rfl dX3_set_33 (fun H locs hH => ?_)
          refine lv_aload_n C.x C.b dX3_set_36 rfl (lv_at hl 0 rfl) ?_
          refine gGet (v := .int (nI 1)) C hK hH 0 23 rfl rfl inX3 (by decide) tw_561 rfl dX3_set_37 ?_
          refine vn_if_ne (tgt := 50) C.x C.b dX3_set_40 (by decide) (by omega) (fun _ => ?_) (fun q => absurd q (by decide))
          exact rV C hr hH (Or.inr ⟨Or.inr ⟨by rw [c_14], (by first | exact rg_neg (by decide) c_18 | exact rg_nl (b := 255) (by decide) c_25 | exact rg_gt (b := 255) (by decide) c_25)⟩, rfl, rfl⟩) (Nat.le_of_ble_eq_true rfl) (Nat.le_of_ble_eq_true rfl) dX3_set_50
        · refine lv_iload_n C.x C.b dX3_set_21 rfl (lv_at hl 2 rfl) ?_
          refine lv_sipush (v := nI 255) C.x C.b dX3_set_22 (by decide) ?_
          refine lv_icmp_le (tgt := 32) C.x C.b dX3_set_25 (by decide) (fun c_25 => ?_) (fun c_25 => ?_)
          · obtain ⟨j9, hj9, rfl⟩ : ∃ k, k < 255 + 1 ∧ z = nI k := by first | exact rg_le (by decide) c_18 c_25 | exact rg_ng (by decide) c_18 c_25
            have hj9 : j9 < 256 := hj9
            refine lv_iconst (v := nI 0) C.x C.b dX3_set_32 (by decide) ?_
            refine gPut (v := .int (nI 0)) (ws' := [(m0, .inr (3, [.ref tm, .ref rgm, .ref mem, .ref bym, .ref in_, .ref so, .ref fr, .ref sh, .ref wo, .ref fe, .ref go, .ref fi, .ref se_, .ref th, .int (nI n), .int pl, .int (nI a), .int (nI pt), .int (nI hd), .int cyc, .int rds, .int wrs, .int fts, .int (nI 0), .int (bI wcm), .int (bI bcm), .int wd0, .int ab])), (rgm, .inl (D.1 11, 10, .inl r))]) C hK hH 0 23 tyX3 tyX3_ok nmX3 rfl rfl inX3 (by decide) tw_561 rfl rfl rfl (Nat.le_of_ble_eq_true rfl) rfl dX3_set_33 (fun H locs hH => ?_)
            refine lv_aload_n C.x C.b dX3_set_36 rfl (lv_at hl 0 rfl) ?_
            refine gGet (v := .int (nI 0)) C hK hH 0 23 rfl rfl inX3 (by decide) tw_561 rfl dX3_set_37 ?_
            refine vn_if_ne (tgt := 50) C.x C.b dX3_set_40 (by decide) (by omega) (fun q => absurd q (by decide)) (fun _ => ?_)
            refine lv_aload_n C.x C.b dX3_set_43 rfl (lv_at hl 0 rfl) ?_
            refine gGet (v := .ref rgm) C hK hH 0 1 rfl rfl inX3 (by decide) tw_539 rfl dX3_set_44 ?_
            refine lv_iload_n C.x C.b dX3_set_47 rfl (lv_at hl 1 rfl) ?_
            refine lv_iload_n C.x C.b dX3_set_48 rfl (lv_at hl 2 rfl) ?_
            refine gIast (f' := upd r k9 (nI j9)) (ws' := [(m0, .inr (3, [.ref tm, .ref rgm, .ref mem, .ref bym, .ref in_, .ref so, .ref fr, .ref sh, .ref wo, .ref fe, .ref go, .ref fi, .ref se_, .ref th, .int (nI n), .int pl, .int (nI a), .int (nI pt), .int (nI hd), .int cyc, .int rds, .int wrs, .int fts, .int (nI 0), .int (bI wcm), .int (bI bcm), .int wd0, .int ab])), (rgm, .inl (D.1 11, 10, .inl (upd r k9 (nI j9))))]) C hK hH 1 rfl (by omega) (by decide) rfl rfl dX3_set_49 (fun H locs hH => ?_)
            exact rV C hr hH (Or.inl ⟨k9, hk9, rfl, fun _ => ⟨j9, hj9, rfl⟩, rfl, rfl⟩) (Nat.le_of_ble_eq_true rfl) (Nat.le_of_ble_eq_true rfl) dX3_set_50
          · refine lv_iconst (v := nI 1) C.x C.b dX3_set_28 (by decide) ?_
            refine lv_goto (tgt := 33) C.x C.b dX3_set_29 (by decide) ?_
            refine gPut (v := .int (nI 1)) (ws' := [(m0, .inr (3, [.ref tm, .ref rgm, .ref mem, .ref bym, .ref in_, .ref so, .ref fr, .ref sh, .ref wo, .ref fe, .ref go, .ref fi, .ref se_, .ref th, .int (nI n), .int pl, .int (nI a), .int (nI pt), .int (nI hd), .int cyc, .int rds, .int wrs, .int fts, .int (nI 1), .int (bI wcm), .int (bI bcm), .int wd0, .int ab])), (rgm, .inl (D.1 11, 10, .inl r))]) C hK hH 0 23 tyX3 tyX3_ok nmX3 rfl rfl inX3 (by decide) tw_561 rfl rfl rfl (Nat.le_of_ble_eq_true rfl) rfl dX3_set_33 (fun H locs hH => ?_)
            refine lv_aload_n C.x C.b dX3_set_36 rfl (lv_at hl 0 rfl) ?_
            refine gGet (v := .int (nI 1)) C hK hH 0 23 rfl rfl inX3 (by decide) tw_561 rfl dX3_set_37 ?_
            refine vn_if_ne (tgt := 50) C.x C.b dX3_set_40 (by decide) (by omega) (fun _ => ?_) (fun q => absurd q (by decide))
            exact rV C hr hH (Or.inr ⟨Or.inr ⟨by rw [c_14], (by first | exact rg_neg (by decide) c_18 | exact rg_nl (b := 255) (by decide) c_25 | exact rg_gt (b := 255) (by decide) c_25)⟩, rfl, rfl⟩) (Nat.le_of_ble_eq_true rfl) (Nat.le_of_ble_eq_true rfl) dX3_set_50
set_option maxHeartbeats 4000000 in
set_option maxRecDepth 100000 in
theorem m_thrown (l : Launch) (htr : l.stackTraces = false) (D : va_G) (sz : Nat) (m0 tm rgm mem bym in_ so fr sh wo fe go fi se_ th n : Nat) (pl : Int32) (a pt hd : Nat) (cyc rds wrs fts : Int32) (thr : Nat) (wcm bcm : Bool) (wd0 ab : Int32)  : Ct l yX3_thrown wX3_thrown { frames := 0, cells := 0, slots := 0, locals := 0 } D ([(m0, .inr (3, [.ref tm, .ref rgm, .ref mem, .ref bym, .ref in_, .ref so, .ref fr, .ref sh, .ref wo, .ref fe, .ref go, .ref fi, .ref se_, .ref th, .int (nI n), .int pl, .int (nI a), .int (nI pt), .int (nI hd), .int cyc, .int rds, .int wrs, .int fts, .int (nI thr), .int (bI wcm), .int (bI bcm), .int wd0, .int ab]))]) [.ref m0] sz (fun v w => v = some (.int (nI thr)) ∧ w = [(m0, .inr (3, [.ref tm, .ref rgm, .ref mem, .ref bym, .ref in_, .ref so, .ref fr, .ref sh, .ref wo, .ref fe, .ref go, .ref fi, .ref se_, .ref th, .int (nI n), .int pl, .int (nI a), .int (nI pt), .int (nI hd), .int cyc, .int rds, .int wrs, .int fts, .int (nI thr), .int (bI wcm), .int (bI bcm), .int wd0, .int ab]))]) (nox) := by
  refine Ct.of (cc := cX3_thrown) (nL := 1) (ret := (some .int)) (own := RX3) htr (by decide) rfl (Nat.le_of_ble_eq_true rfl) ?_
  intro p e s m args below meth c A C hr hK H locs hH ls hl
  have hl : lv_has ls 1 [(0, .ref m0)] := hl
  refine lv_aload_n C.x C.b dX3_thrown_0 rfl (lv_at hl 0 rfl) ?_
  refine gGet (v := .int (nI thr)) C hK hH 0 23 rfl rfl inX3 (by decide) tw_561 rfl dX3_thrown_1 ?_
  exact rI C hr hH (⟨rfl, rfl⟩) (Nat.le_of_ble_eq_true rfl) (Nat.le_of_ble_eq_true rfl) dX3_thrown_4
set_option maxHeartbeats 4000000 in
set_option maxRecDepth 100000 in
theorem m_erase (l : Launch) (htr : l.stackTraces = false) (D : va_G) (sz : Nat) (m0 tm rgm mem bym in_ so fr sh wo fe go fi se_ th n : Nat) (pl : Int32) (a pt hd : Nat) (cyc rds wrs fts : Int32) (thr : Nat) (wcm bcm : Bool) (wd0 ab : Int32) (tb : Nat → Bool) (i : Int32)  : Ct l yX3_erase wX3_erase { frames := 0, cells := 0, slots := 0, locals := 0 } D ([(m0, .inr (3, [.ref tm, .ref rgm, .ref mem, .ref bym, .ref in_, .ref so, .ref fr, .ref sh, .ref wo, .ref fe, .ref go, .ref fi, .ref se_, .ref th, .int (nI n), .int pl, .int (nI a), .int (nI pt), .int (nI hd), .int cyc, .int rds, .int wrs, .int fts, .int (nI thr), .int (bI wcm), .int (bI bcm), .int wd0, .int ab])), (th, .inl (D.1 12, 64, .inl (fun j => bI (tb j))))]) [.ref m0, .int i] sz (fun v w => (∃ k, k < 64 ∧ i = nI k ∧ tb k = true ∧ v = none ∧ w = [(m0, .inr (3, [.ref tm, .ref rgm, .ref mem, .ref bym, .ref in_, .ref so, .ref fr, .ref sh, .ref wo, .ref fe, .ref go, .ref fi, .ref se_, .ref th, .int (nI n), .int pl, .int (nI a), .int (nI pt), .int (nI hd), .int cyc, .int rds, .int wrs, .int fts, .int (nI 0), .int (bI wcm), .int (bI bcm), .int wd0, .int ab])), (th, .inl (D.1 12, 64, .inl (fun j => bI (va_up tb k false j))))]) ∨ (((∀ k, k < 64 → i ≠ nI k) ∧ v = none ∧ w = [(m0, .inr (3, [.ref tm, .ref rgm, .ref mem, .ref bym, .ref in_, .ref so, .ref fr, .ref sh, .ref wo, .ref fe, .ref go, .ref fi, .ref se_, .ref th, .int (nI n), .int pl, .int (nI a), .int (nI pt), .int (nI hd), .int cyc, .int rds, .int wrs, .int fts, .int (nI 1), .int (bI wcm), .int (bI bcm), .int wd0, .int ab])), (th, .inl (D.1 12, 64, .inl (fun j => bI (tb j))))]) ∨ (∃ k, k < 64 ∧ i = nI k ∧ tb k = false ∧ v = none ∧ w = [(m0, .inr (3, [.ref tm, .ref rgm, .ref mem, .ref bym, .ref in_, .ref so, .ref fr, .ref sh, .ref wo, .ref fe, .ref go, .ref fi, .ref se_, .ref th, .int (nI n), .int pl, .int (nI a), .int (nI pt), .int (nI hd), .int cyc, .int rds, .int wrs, .int fts, .int (nI 2), .int (bI wcm), .int (bI bcm), .int wd0, .int ab])), (th, .inl (D.1 12, 64, .inl (fun j => bI (tb j))))]))) (nox) := by
  refine Ct.of (cc := cX3_erase) (nL := 2) (ret := none) (own := RX3) htr (by decide) rfl (Nat.le_of_ble_eq_true rfl) ?_
  intro p e s m args below meth c A C hr hK H locs hH ls hl
  have hl : lv_has ls 2 [(0, .ref m0), (1, .int i)] := hl
  refine lv_aload_n C.x C.b dX3_erase_0 rfl (lv_at hl 0 rfl) ?_
  refine lv_iload_n C.x C.b dX3_erase_1 rfl (lv_at hl 1 rfl) ?_
  refine lv_if_lt (tgt := 11) C.x C.b dX3_erase_2 (by decide) (fun c_2 => ?_) (fun c_2 => ?_)
  · refine lv_iconst (v := nI 1) C.x C.b dX3_erase_11 (by decide) ?_
    refine lv_goto (tgt := 29) C.x C.b dX3_erase_12 (by decide) ?_
    refine gPut (v := .int (nI 1)) (ws' := [(m0, .inr (3, [.ref tm, .ref rgm, .ref mem, .ref bym, .ref in_, .ref so, .ref fr, .ref sh, .ref wo, .ref fe, .ref go, .ref fi, .ref se_, .ref th, .int (nI n), .int pl, .int (nI a), .int (nI pt), .int (nI hd), .int cyc, .int rds, .int wrs, .int fts, .int (nI 1), .int (bI wcm), .int (bI bcm), .int wd0, .int ab])), (th, .inl (D.1 12, 64, .inl (fun j => bI (tb j))))]) C hK hH 0 23 tyX3 tyX3_ok nmX3 rfl rfl inX3 (by decide) tw_561 rfl rfl rfl (Nat.le_of_ble_eq_true rfl) rfl dX3_erase_29 (fun H locs hH => ?_)
    refine lv_aload_n C.x C.b dX3_erase_32 rfl (lv_at hl 0 rfl) ?_
    refine gGet (v := .int (nI 1)) C hK hH 0 23 rfl rfl inX3 (by decide) tw_561 rfl dX3_erase_33 ?_
    refine vn_if_ne (tgt := 46) C.x C.b dX3_erase_36 (by decide) (by omega) (fun _ => ?_) (fun q => absurd q (by decide))
    exact rV C hr hH (Or.inr (Or.inl ⟨(by first | exact rg_neg (by decide) c_2 | exact rg_nl (b := 63) (by decide) c_8 | exact rg_gt (b := 63) (by decide) c_8), rfl, rfl⟩)) (Nat.le_of_ble_eq_true rfl) (Nat.le_of_ble_eq_true rfl) dX3_erase_46
  · refine lv_iload_n C.x C.b dX3_erase_5 rfl (lv_at hl 1 rfl) ?_
    refine lv_bipush (v := nI 63) C.x C.b dX3_erase_6 (by decide) ?_
    refine lv_icmp_le (tgt := 15) C.x C.b dX3_erase_8 (by decide) (fun c_8 => ?_) (fun c_8 => ?_)
    · obtain ⟨k9, hk9, rfl⟩ : ∃ k, k < 63 + 1 ∧ i = nI k := by first | exact rg_le (by decide) c_2 c_8 | exact rg_ng (by decide) c_2 c_8
      have hk9 : k9 < 64 := hk9
      refine lv_aload_n C.x C.b dX3_erase_15 rfl (lv_at hl 0 rfl) ?_
      refine gGet (v := .ref th) C hK hH 0 13 rfl rfl inX3 (by decide) tw_551 rfl dX3_erase_16 ?_
      refine lv_iload_n C.x C.b dX3_erase_19 rfl (lv_at hl 1 rfl) ?_
      refine gZald (v := (bI (tb k9))) C hK hH 1 rfl (by omega) (by decide) dX3_erase_20 rfl ?_
      refine vb_if_ne (tgt := 28) C.x C.b dX3_erase_21 (by decide) (fun c_21 => ?_) (fun c_21 => ?_)
      · refine lv_iconst (v := nI 0) C.x C.b dX3_erase_28 (by decide) ?_
        refine gPut (v := .int (nI 0)) (ws' := [(m0, .inr (3, [.ref tm, .ref rgm, .ref mem, .ref bym, .ref in_, .ref so, .ref fr, .ref sh, .ref wo, .ref fe, .ref go, .ref fi, .ref se_, .ref th, .int (nI n), .int pl, .int (nI a), .int (nI pt), .int (nI hd), .int cyc, .int rds, .int wrs, .int fts, .int (nI 0), .int (bI wcm), .int (bI bcm), .int wd0, .int ab])), (th, .inl (D.1 12, 64, .inl (fun j => bI (tb j))))]) C hK hH 0 23 tyX3 tyX3_ok nmX3 rfl rfl inX3 (by decide) tw_561 rfl rfl rfl (Nat.le_of_ble_eq_true rfl) rfl dX3_erase_29 (fun H locs hH => ?_)
        refine lv_aload_n C.x C.b dX3_erase_32 rfl (lv_at hl 0 rfl) ?_
        refine gGet (v := .int (nI 0)) C hK hH 0 23 rfl rfl inX3 (by decide) tw_561 rfl dX3_erase_33 ?_
        refine vn_if_ne (tgt := 46) C.x C.b dX3_erase_36 (by decide) (by omega) (fun q => absurd q (by decide)) (fun _ => ?_)
        refine lv_aload_n C.x C.b dX3_erase_39 rfl (lv_at hl 0 rfl) ?_
        refine gGet (v := .ref th) C hK hH 0 13 rfl rfl inX3 (by decide) tw_551 rfl dX3_erase_40 ?_
        refine lv_iload_n C.x C.b dX3_erase_43 rfl (lv_at hl 1 rfl) ?_
        refine lv_iconst (v := nI 0) C.x C.b dX3_erase_44 (by decide) ?_
        refine gZast (f' := (fun j => bI (va_up tb k9 false j))) (ws' := [(m0, .inr (3, [.ref tm, .ref rgm, .ref mem, .ref bym, .ref in_, .ref so, .ref fr, .ref sh, .ref wo, .ref fe, .ref go, .ref fi, .ref se_, .ref th, .int (nI n), .int pl, .int (nI a), .int (nI pt), .int (nI hd), .int cyc, .int rds, .int wrs, .int fts, .int (nI 0), .int (bI wcm), .int (bI bcm), .int wd0, .int ab])), (th, .inl (D.1 12, 64, .inl (fun j => bI (va_up tb k9 false j))))]) C hK hH 1 rfl (by omega) (by decide) (tb_set tb k9 false) rfl dX3_erase_45 (fun H locs hH => ?_)
        exact rV C hr hH (Or.inl ⟨k9, hk9, rfl, c_21, rfl, rfl⟩) (Nat.le_of_ble_eq_true rfl) (Nat.le_of_ble_eq_true rfl) dX3_erase_46
      · refine lv_iconst (v := nI 2) C.x C.b dX3_erase_24 (by decide) ?_
        refine lv_goto (tgt := 29) C.x C.b dX3_erase_25 (by decide) ?_
        refine gPut (v := .int (nI 2)) (ws' := [(m0, .inr (3, [.ref tm, .ref rgm, .ref mem, .ref bym, .ref in_, .ref so, .ref fr, .ref sh, .ref wo, .ref fe, .ref go, .ref fi, .ref se_, .ref th, .int (nI n), .int pl, .int (nI a), .int (nI pt), .int (nI hd), .int cyc, .int rds, .int wrs, .int fts, .int (nI 2), .int (bI wcm), .int (bI bcm), .int wd0, .int ab])), (th, .inl (D.1 12, 64, .inl (fun j => bI (tb j))))]) C hK hH 0 23 tyX3 tyX3_ok nmX3 rfl rfl inX3 (by decide) tw_561 rfl rfl rfl (Nat.le_of_ble_eq_true rfl) rfl dX3_erase_29 (fun H locs hH => ?_)
        refine lv_aload_n C.x C.b dX3_erase_32 rfl (lv_at hl 0 rfl) ?_
        refine gGet (v := .int (nI 2)) C hK hH 0 23 rfl rfl inX3 (by decide) tw_561 rfl dX3_erase_33 ?_
        refine vn_if_ne (tgt := 46) C.x C.b dX3_erase_36 (by decide) (by omega) (fun _ => ?_) (fun q => absurd q (by decide))
        exact rV C hr hH (Or.inr (Or.inr ⟨k9, hk9, rfl, c_21, rfl, rfl⟩)) (Nat.le_of_ble_eq_true rfl) (Nat.le_of_ble_eq_true rfl) dX3_erase_46
    · refine lv_iconst (v := nI 1) C.x C.b dX3_erase_11 (by decide) ?_
      refine lv_goto (tgt := 29) C.x C.b dX3_erase_12 (by decide) ?_
      refine gPut (v := .int (nI 1)) (ws' := [(m0, .inr (3, [.ref tm, .ref rgm, .ref mem, .ref bym, .ref in_, .ref so, .ref fr, .ref sh, .ref wo, .ref fe, .ref go, .ref fi, .ref se_, .ref th, .int (nI n), .int pl, .int (nI a), .int (nI pt), .int (nI hd), .int cyc, .int rds, .int wrs, .int fts, .int (nI 1), .int (bI wcm), .int (bI bcm), .int wd0, .int ab])), (th, .inl (D.1 12, 64, .inl (fun j => bI (tb j))))]) C hK hH 0 23 tyX3 tyX3_ok nmX3 rfl rfl inX3 (by decide) tw_561 rfl rfl rfl (Nat.le_of_ble_eq_true rfl) rfl dX3_erase_29 (fun H locs hH => ?_)
      refine lv_aload_n C.x C.b dX3_erase_32 rfl (lv_at hl 0 rfl) ?_
      refine gGet (v := .int (nI 1)) C hK hH 0 23 rfl rfl inX3 (by decide) tw_561 rfl dX3_erase_33 ?_
      refine vn_if_ne (tgt := 46) C.x C.b dX3_erase_36 (by decide) (by omega) (fun _ => ?_) (fun q => absurd q (by decide))
      exact rV C hr hH (Or.inr (Or.inl ⟨(by first | exact rg_neg (by decide) c_2 | exact rg_nl (b := 63) (by decide) c_8 | exact rg_gt (b := 63) (by decide) c_8), rfl, rfl⟩)) (Nat.le_of_ble_eq_true rfl) (Nat.le_of_ble_eq_true rfl) dX3_erase_46
set_option maxHeartbeats 4000000 in
set_option maxRecDepth 100000 in
theorem m_told (l : Launch) (htr : l.stackTraces = false) (D : va_G) (sz : Nat) (m0 tm rgm mem bym in_ so fr sh wo fe go fi se_ th n : Nat) (pl : Int32) (a pt hd : Nat) (cyc rds wrs fts : Int32) (thr : Nat) (wcm bcm : Bool) (wd0 ab : Int32) (tb : Nat → Bool) (Bin Bwo Bfe Bgo Bfi Bse Bsh : Nat → Int32) (i z : Int32)  : Ct l yX3_told wX3_told { frames := 0, cells := 0, slots := 0, locals := 0 } D ([(m0, .inr (3, [.ref tm, .ref rgm, .ref mem, .ref bym, .ref in_, .ref so, .ref fr, .ref sh, .ref wo, .ref fe, .ref go, .ref fi, .ref se_, .ref th, .int (nI n), .int pl, .int (nI a), .int (nI pt), .int (nI hd), .int cyc, .int rds, .int wrs, .int fts, .int (nI thr), .int (bI wcm), .int (bI bcm), .int wd0, .int ab])), (th, .inl (D.1 12, 64, .inl (fun j => bI (tb j)))), (in_, .inl (D.1 11, 65, .inl Bin)), (wo, .inl (D.1 11, 65, .inl Bwo)), (fe, .inl (D.1 11, 65, .inl Bfe)), (go, .inl (D.1 11, 65, .inl Bgo)), (fi, .inl (D.1 11, 65, .inl Bfi)), (se_, .inl (D.1 11, 65, .inl Bse)), (sh, .inl (D.1 11, 65, .inl Bsh))]) [.ref m0, .int i, .int z] sz (fun v w => (∃ k j, k < 64 ∧ i = nI k ∧ j < 7 ∧ z = nI j ∧ tb k = true ∧ v = some (.int (mtd Bin Bwo Bfe Bgo Bfi Bse Bsh k j)) ∧ w = [(m0, .inr (3, [.ref tm, .ref rgm, .ref mem, .ref bym, .ref in_, .ref so, .ref fr, .ref sh, .ref wo, .ref fe, .ref go, .ref fi, .ref se_, .ref th, .int (nI n), .int pl, .int (nI a), .int (nI pt), .int (nI hd), .int cyc, .int rds, .int wrs, .int fts, .int (nI 0), .int (bI wcm), .int (bI bcm), .int wd0, .int ab])), (th, .inl (D.1 12, 64, .inl (fun j => bI (tb j)))), (in_, .inl (D.1 11, 65, .inl Bin)), (wo, .inl (D.1 11, 65, .inl Bwo)), (fe, .inl (D.1 11, 65, .inl Bfe)), (go, .inl (D.1 11, 65, .inl Bgo)), (fi, .inl (D.1 11, 65, .inl Bfi)), (se_, .inl (D.1 11, 65, .inl Bse)), (sh, .inl (D.1 11, 65, .inl Bsh))]) ∨ ((((∀ k, k < 64 → i ≠ nI k) ∨ (∀ k, k < 7 → z ≠ nI k)) ∧ v = some (.int (nI 0)) ∧ w = [(m0, .inr (3, [.ref tm, .ref rgm, .ref mem, .ref bym, .ref in_, .ref so, .ref fr, .ref sh, .ref wo, .ref fe, .ref go, .ref fi, .ref se_, .ref th, .int (nI n), .int pl, .int (nI a), .int (nI pt), .int (nI hd), .int cyc, .int rds, .int wrs, .int fts, .int (nI 1), .int (bI wcm), .int (bI bcm), .int wd0, .int ab])), (th, .inl (D.1 12, 64, .inl (fun j => bI (tb j)))), (in_, .inl (D.1 11, 65, .inl Bin)), (wo, .inl (D.1 11, 65, .inl Bwo)), (fe, .inl (D.1 11, 65, .inl Bfe)), (go, .inl (D.1 11, 65, .inl Bgo)), (fi, .inl (D.1 11, 65, .inl Bfi)), (se_, .inl (D.1 11, 65, .inl Bse)), (sh, .inl (D.1 11, 65, .inl Bsh))]) ∨ (∃ k j, k < 64 ∧ i = nI k ∧ j < 7 ∧ z = nI j ∧ tb k = false ∧ v = some (.int (nI 0)) ∧ w = [(m0, .inr (3, [.ref tm, .ref rgm, .ref mem, .ref bym, .ref in_, .ref so, .ref fr, .ref sh, .ref wo, .ref fe, .ref go, .ref fi, .ref se_, .ref th, .int (nI n), .int pl, .int (nI a), .int (nI pt), .int (nI hd), .int cyc, .int rds, .int wrs, .int fts, .int (nI 2), .int (bI wcm), .int (bI bcm), .int wd0, .int ab])), (th, .inl (D.1 12, 64, .inl (fun j => bI (tb j)))), (in_, .inl (D.1 11, 65, .inl Bin)), (wo, .inl (D.1 11, 65, .inl Bwo)), (fe, .inl (D.1 11, 65, .inl Bfe)), (go, .inl (D.1 11, 65, .inl Bgo)), (fi, .inl (D.1 11, 65, .inl Bfi)), (se_, .inl (D.1 11, 65, .inl Bse)), (sh, .inl (D.1 11, 65, .inl Bsh))]))) (nox) := by
  refine Ct.of (cc := cX3_told) (nL := 3) (ret := (some .int)) (own := RX3) htr (by decide) rfl (Nat.le_of_ble_eq_true rfl) ?_
  intro p e s m args below meth c A C hr hK H locs hH ls hl
  have hl : lv_has ls 3 [(0, .ref m0), (1, .int i), (2, .int z)] := hl
  refine lv_aload_n C.x C.b dX3_told_0 rfl (lv_at hl 0 rfl) ?_
  refine lv_iload_n C.x C.b dX3_told_1 rfl (lv_at hl 1 rfl) ?_
  refine lv_if_lt (tgt := 21) C.x C.b dX3_told_2 (by decide) (fun c_2 => ?_) (fun c_2 => ?_)
  · refine lv_iconst (v := nI 1) C.x C.b dX3_told_21 (by decide) ?_
    refine lv_goto (tgt := 39) C.x C.b dX3_told_22 (by decide) ?_
    refine gPut (v := .int (nI 1)) (ws' := [(m0, .inr (3, [.ref tm, .ref rgm, .ref mem, .ref bym, .ref in_, .ref so, .ref fr, .ref sh, .ref wo, .ref fe, .ref go, .ref fi, .ref se_, .ref th, .int (nI n), .int pl, .int (nI a), .int (nI pt), .int (nI hd), .int cyc, .int rds, .int wrs, .int fts, .int (nI 1), .int (bI wcm), .int (bI bcm), .int wd0, .int ab])), (th, .inl (D.1 12, 64, .inl (fun j => bI (tb j)))), (in_, .inl (D.1 11, 65, .inl Bin)), (wo, .inl (D.1 11, 65, .inl Bwo)), (fe, .inl (D.1 11, 65, .inl Bfe)), (go, .inl (D.1 11, 65, .inl Bgo)), (fi, .inl (D.1 11, 65, .inl Bfi)), (se_, .inl (D.1 11, 65, .inl Bse)), (sh, .inl (D.1 11, 65, .inl Bsh))]) C hK hH 0 23 tyX3 tyX3_ok nmX3 rfl rfl inX3 (by decide) tw_561 rfl rfl rfl (Nat.le_of_ble_eq_true rfl) rfl dX3_told_39 (fun H locs hH => ?_)
    refine lv_aload_n C.x C.b dX3_told_42 rfl (lv_at hl 0 rfl) ?_
    refine gGet (v := .int (nI 1)) C hK hH 0 23 rfl rfl inX3 (by decide) tw_561 rfl dX3_told_43 ?_
    refine vn_if_eq (tgt := 51) C.x C.b dX3_told_46 (by decide) (by omega) (fun q => absurd q (by decide)) (fun _ => ?_)
    refine lv_iconst (v := nI 0) C.x C.b dX3_told_49 (by decide) ?_
    exact rI C hr hH (Or.inr (Or.inl ⟨Or.inl (by first | exact rg_neg (by decide) c_2 | exact rg_nl (b := 63) (by decide) c_8 | exact rg_gt (b := 63) (by decide) c_8), rfl, rfl⟩)) (Nat.le_of_ble_eq_true rfl) (Nat.le_of_ble_eq_true rfl) dX3_told_50
  · refine lv_iload_n C.x C.b dX3_told_5 rfl (lv_at hl 1 rfl) ?_
    refine lv_bipush (v := nI 63) C.x C.b dX3_told_6 (by decide) ?_
    refine lv_icmp_gt (tgt := 21) C.x C.b dX3_told_8 (by decide) (fun c_8 => ?_) (fun c_8 => ?_)
    · refine lv_iconst (v := nI 1) C.x C.b dX3_told_21 (by decide) ?_
      refine lv_goto (tgt := 39) C.x C.b dX3_told_22 (by decide) ?_
      refine gPut (v := .int (nI 1)) (ws' := [(m0, .inr (3, [.ref tm, .ref rgm, .ref mem, .ref bym, .ref in_, .ref so, .ref fr, .ref sh, .ref wo, .ref fe, .ref go, .ref fi, .ref se_, .ref th, .int (nI n), .int pl, .int (nI a), .int (nI pt), .int (nI hd), .int cyc, .int rds, .int wrs, .int fts, .int (nI 1), .int (bI wcm), .int (bI bcm), .int wd0, .int ab])), (th, .inl (D.1 12, 64, .inl (fun j => bI (tb j)))), (in_, .inl (D.1 11, 65, .inl Bin)), (wo, .inl (D.1 11, 65, .inl Bwo)), (fe, .inl (D.1 11, 65, .inl Bfe)), (go, .inl (D.1 11, 65, .inl Bgo)), (fi, .inl (D.1 11, 65, .inl Bfi)), (se_, .inl (D.1 11, 65, .inl Bse)), (sh, .inl (D.1 11, 65, .inl Bsh))]) C hK hH 0 23 tyX3 tyX3_ok nmX3 rfl rfl inX3 (by decide) tw_561 rfl rfl rfl (Nat.le_of_ble_eq_true rfl) rfl dX3_told_39 (fun H locs hH => ?_)
      refine lv_aload_n C.x C.b dX3_told_42 rfl (lv_at hl 0 rfl) ?_
      refine gGet (v := .int (nI 1)) C hK hH 0 23 rfl rfl inX3 (by decide) tw_561 rfl dX3_told_43 ?_
      refine vn_if_eq (tgt := 51) C.x C.b dX3_told_46 (by decide) (by omega) (fun q => absurd q (by decide)) (fun _ => ?_)
      refine lv_iconst (v := nI 0) C.x C.b dX3_told_49 (by decide) ?_
      exact rI C hr hH (Or.inr (Or.inl ⟨Or.inl (by first | exact rg_neg (by decide) c_2 | exact rg_nl (b := 63) (by decide) c_8 | exact rg_gt (b := 63) (by decide) c_8), rfl, rfl⟩)) (Nat.le_of_ble_eq_true rfl) (Nat.le_of_ble_eq_true rfl) dX3_told_50
    · obtain ⟨k9, hk9, rfl⟩ : ∃ k, k < 63 + 1 ∧ i = nI k := by first | exact rg_le (by decide) c_2 c_8 | exact rg_ng (by decide) c_2 c_8
      have hk9 : k9 < 64 := hk9
      refine lv_iload_n C.x C.b dX3_told_11 rfl (lv_at hl 2 rfl) ?_
      refine lv_if_lt (tgt := 21) C.x C.b dX3_told_12 (by decide) (fun c_12 => ?_) (fun c_12 => ?_)
      · refine lv_iconst (v := nI 1) C.x C.b dX3_told_21 (by decide) ?_
        refine lv_goto (tgt := 39) C.x C.b dX3_told_22 (by decide) ?_
        refine gPut (v := .int (nI 1)) (ws' := [(m0, .inr (3, [.ref tm, .ref rgm, .ref mem, .ref bym, .ref in_, .ref so, .ref fr, .ref sh, .ref wo, .ref fe, .ref go, .ref fi, .ref se_, .ref th, .int (nI n), .int pl, .int (nI a), .int (nI pt), .int (nI hd), .int cyc, .int rds, .int wrs, .int fts, .int (nI 1), .int (bI wcm), .int (bI bcm), .int wd0, .int ab])), (th, .inl (D.1 12, 64, .inl (fun j => bI (tb j)))), (in_, .inl (D.1 11, 65, .inl Bin)), (wo, .inl (D.1 11, 65, .inl Bwo)), (fe, .inl (D.1 11, 65, .inl Bfe)), (go, .inl (D.1 11, 65, .inl Bgo)), (fi, .inl (D.1 11, 65, .inl Bfi)), (se_, .inl (D.1 11, 65, .inl Bse)), (sh, .inl (D.1 11, 65, .inl Bsh))]) C hK hH 0 23 tyX3 tyX3_ok nmX3 rfl rfl inX3 (by decide) tw_561 rfl rfl rfl (Nat.le_of_ble_eq_true rfl) rfl dX3_told_39 (fun H locs hH => ?_)
        refine lv_aload_n C.x C.b dX3_told_42 rfl (lv_at hl 0 rfl) ?_
        refine gGet (v := .int (nI 1)) C hK hH 0 23 rfl rfl inX3 (by decide) tw_561 rfl dX3_told_43 ?_
        refine vn_if_eq (tgt := 51) C.x C.b dX3_told_46 (by decide) (by omega) (fun q => absurd q (by decide)) (fun _ => ?_)
        refine lv_iconst (v := nI 0) C.x C.b dX3_told_49 (by decide) ?_
        exact rI C hr hH (Or.inr (Or.inl ⟨Or.inr (by first | exact rg_neg (by decide) c_12 | exact rg_nl (b := 6) (by decide) c_18 | exact rg_gt (b := 6) (by decide) c_18), rfl, rfl⟩)) (Nat.le_of_ble_eq_true rfl) (Nat.le_of_ble_eq_true rfl) dX3_told_50
      · refine lv_iload_n C.x C.b dX3_told_15 rfl (lv_at hl 2 rfl) ?_
        refine lv_bipush (v := nI 6) C.x C.b dX3_told_16 (by decide) ?_
        refine lv_icmp_le (tgt := 25) C.x C.b dX3_told_18 (by decide) (fun c_18 => ?_) (fun c_18 => ?_)
        · obtain ⟨j9, hj9, rfl⟩ : ∃ k, k < 6 + 1 ∧ z = nI k := by first | exact rg_le (by decide) c_12 c_18 | exact rg_ng (by decide) c_12 c_18
          have hj9 : j9 < 7 := hj9
          refine lv_aload_n C.x C.b dX3_told_25 rfl (lv_at hl 0 rfl) ?_
          refine gGet (v := .ref th) C hK hH 0 13 rfl rfl inX3 (by decide) tw_551 rfl dX3_told_26 ?_
          refine lv_iload_n C.x C.b dX3_told_29 rfl (lv_at hl 1 rfl) ?_
          refine gZald (v := (bI (tb k9))) C hK hH 1 rfl (by omega) (by decide) dX3_told_30 rfl ?_
          refine vb_if_ne (tgt := 38) C.x C.b dX3_told_31 (by decide) (fun c_31 => ?_) (fun c_31 => ?_)
          · refine lv_iconst (v := nI 0) C.x C.b dX3_told_38 (by decide) ?_
            refine gPut (v := .int (nI 0)) (ws' := [(m0, .inr (3, [.ref tm, .ref rgm, .ref mem, .ref bym, .ref in_, .ref so, .ref fr, .ref sh, .ref wo, .ref fe, .ref go, .ref fi, .ref se_, .ref th, .int (nI n), .int pl, .int (nI a), .int (nI pt), .int (nI hd), .int cyc, .int rds, .int wrs, .int fts, .int (nI 0), .int (bI wcm), .int (bI bcm), .int wd0, .int ab])), (th, .inl (D.1 12, 64, .inl (fun j => bI (tb j)))), (in_, .inl (D.1 11, 65, .inl Bin)), (wo, .inl (D.1 11, 65, .inl Bwo)), (fe, .inl (D.1 11, 65, .inl Bfe)), (go, .inl (D.1 11, 65, .inl Bgo)), (fi, .inl (D.1 11, 65, .inl Bfi)), (se_, .inl (D.1 11, 65, .inl Bse)), (sh, .inl (D.1 11, 65, .inl Bsh))]) C hK hH 0 23 tyX3 tyX3_ok nmX3 rfl rfl inX3 (by decide) tw_561 rfl rfl rfl (Nat.le_of_ble_eq_true rfl) rfl dX3_told_39 (fun H locs hH => ?_)
            refine lv_aload_n C.x C.b dX3_told_42 rfl (lv_at hl 0 rfl) ?_
            refine gGet (v := .int (nI 0)) C hK hH 0 23 rfl rfl inX3 (by decide) tw_561 rfl dX3_told_43 ?_
            refine vn_if_eq (tgt := 51) C.x C.b dX3_told_46 (by decide) (by omega) (fun _ => ?_) (fun q => absurd q (by decide))
            refine lv_iload_n C.x C.b dX3_told_51 rfl (lv_at hl 2 rfl) ?_
            obtain rfl | rfl | rfl | rfl | rfl | rfl | rfl : j9 = 0 ∨ j9 = 1 ∨ j9 = 2 ∨ j9 = 3 ∨ j9 = 4 ∨ j9 = 5 ∨ j9 = 6 := by omega
            · refine lv_tableIn (off := 40) (tgt := 92) C.x C.b dX3_told_52 (by decide) (by decide) (by decide) (by decide) ?_
              refine lv_aload_n C.x C.b dX3_told_92 rfl (lv_at hl 0 rfl) ?_
              refine gGet (v := .ref in_) C hK hH 0 4 rfl rfl inX3 (by decide) tw_542 rfl dX3_told_93 ?_
              refine lv_iload_n C.x C.b dX3_told_96 rfl (lv_at hl 1 rfl) ?_
              refine gIald (v := (Bin k9)) C hK hH 2 rfl (by omega) (by decide) dX3_told_97 rfl ?_
              exact rI C hr hH (Or.inl ⟨k9, 0, hk9, rfl, by decide, rfl, c_31, rfl, rfl⟩) (Nat.le_of_ble_eq_true rfl) (Nat.le_of_ble_eq_true rfl) dX3_told_98
            · refine lv_tableIn (off := 47) (tgt := 99) C.x C.b dX3_told_52 (by decide) (by decide) (by decide) (by decide) ?_
              refine lv_aload_n C.x C.b dX3_told_99 rfl (lv_at hl 0 rfl) ?_
              refine gGet (v := .ref wo) C hK hH 0 8 rfl rfl inX3 (by decide) tw_546 rfl dX3_told_100 ?_
              refine lv_iload_n C.x C.b dX3_told_103 rfl (lv_at hl 1 rfl) ?_
              refine gIald (v := (Bwo k9)) C hK hH 3 rfl (by omega) (by decide) dX3_told_104 rfl ?_
              exact rI C hr hH (Or.inl ⟨k9, 1, hk9, rfl, by decide, rfl, c_31, rfl, rfl⟩) (Nat.le_of_ble_eq_true rfl) (Nat.le_of_ble_eq_true rfl) dX3_told_105
            · refine lv_tableIn (off := 54) (tgt := 106) C.x C.b dX3_told_52 (by decide) (by decide) (by decide) (by decide) ?_
              refine lv_aload_n C.x C.b dX3_told_106 rfl (lv_at hl 0 rfl) ?_
              refine gGet (v := .ref fe) C hK hH 0 9 rfl rfl inX3 (by decide) tw_547 rfl dX3_told_107 ?_
              refine lv_iload_n C.x C.b dX3_told_110 rfl (lv_at hl 1 rfl) ?_
              refine gIald (v := (Bfe k9)) C hK hH 4 rfl (by omega) (by decide) dX3_told_111 rfl ?_
              exact rI C hr hH (Or.inl ⟨k9, 2, hk9, rfl, by decide, rfl, c_31, rfl, rfl⟩) (Nat.le_of_ble_eq_true rfl) (Nat.le_of_ble_eq_true rfl) dX3_told_112
            · refine lv_tableIn (off := 61) (tgt := 113) C.x C.b dX3_told_52 (by decide) (by decide) (by decide) (by decide) ?_
              refine lv_aload_n C.x C.b dX3_told_113 rfl (lv_at hl 0 rfl) ?_
              refine gGet (v := .ref go) C hK hH 0 10 rfl rfl inX3 (by decide) tw_548 rfl dX3_told_114 ?_
              refine lv_iload_n C.x C.b dX3_told_117 rfl (lv_at hl 1 rfl) ?_
              refine gIald (v := (Bgo k9)) C hK hH 5 rfl (by omega) (by decide) dX3_told_118 rfl ?_
              exact rI C hr hH (Or.inl ⟨k9, 3, hk9, rfl, by decide, rfl, c_31, rfl, rfl⟩) (Nat.le_of_ble_eq_true rfl) (Nat.le_of_ble_eq_true rfl) dX3_told_119
            · refine lv_tableIn (off := 68) (tgt := 120) C.x C.b dX3_told_52 (by decide) (by decide) (by decide) (by decide) ?_
              refine lv_aload_n C.x C.b dX3_told_120 rfl (lv_at hl 0 rfl) ?_
              refine gGet (v := .ref fi) C hK hH 0 11 rfl rfl inX3 (by decide) tw_549 rfl dX3_told_121 ?_
              refine lv_iload_n C.x C.b dX3_told_124 rfl (lv_at hl 1 rfl) ?_
              refine gIald (v := (Bfi k9)) C hK hH 6 rfl (by omega) (by decide) dX3_told_125 rfl ?_
              exact rI C hr hH (Or.inl ⟨k9, 4, hk9, rfl, by decide, rfl, c_31, rfl, rfl⟩) (Nat.le_of_ble_eq_true rfl) (Nat.le_of_ble_eq_true rfl) dX3_told_126
            · refine lv_tableIn (off := 75) (tgt := 127) C.x C.b dX3_told_52 (by decide) (by decide) (by decide) (by decide) ?_
              refine lv_aload_n C.x C.b dX3_told_127 rfl (lv_at hl 0 rfl) ?_
              refine gGet (v := .ref se_) C hK hH 0 12 rfl rfl inX3 (by decide) tw_550 rfl dX3_told_128 ?_
              refine lv_iload_n C.x C.b dX3_told_131 rfl (lv_at hl 1 rfl) ?_
              refine gIald (v := (Bse k9)) C hK hH 7 rfl (by omega) (by decide) dX3_told_132 rfl ?_
              exact rI C hr hH (Or.inl ⟨k9, 5, hk9, rfl, by decide, rfl, c_31, rfl, rfl⟩) (Nat.le_of_ble_eq_true rfl) (Nat.le_of_ble_eq_true rfl) dX3_told_133
            · refine lv_tableOut (tgt := 134) C.x C.b dX3_told_52 (by decide) (by decide) ?_
              refine lv_aload_n C.x C.b dX3_told_134 rfl (lv_at hl 0 rfl) ?_
              refine gGet (v := .ref sh) C hK hH 0 7 rfl rfl inX3 (by decide) tw_545 rfl dX3_told_135 ?_
              refine lv_iload_n C.x C.b dX3_told_138 rfl (lv_at hl 1 rfl) ?_
              refine gIald (v := (Bsh k9)) C hK hH 8 rfl (by omega) (by decide) dX3_told_139 rfl ?_
              exact rI C hr hH (Or.inl ⟨k9, 6, hk9, rfl, by decide, rfl, c_31, rfl, rfl⟩) (Nat.le_of_ble_eq_true rfl) (Nat.le_of_ble_eq_true rfl) dX3_told_140
          · refine lv_iconst (v := nI 2) C.x C.b dX3_told_34 (by decide) ?_
            refine lv_goto (tgt := 39) C.x C.b dX3_told_35 (by decide) ?_
            refine gPut (v := .int (nI 2)) (ws' := [(m0, .inr (3, [.ref tm, .ref rgm, .ref mem, .ref bym, .ref in_, .ref so, .ref fr, .ref sh, .ref wo, .ref fe, .ref go, .ref fi, .ref se_, .ref th, .int (nI n), .int pl, .int (nI a), .int (nI pt), .int (nI hd), .int cyc, .int rds, .int wrs, .int fts, .int (nI 2), .int (bI wcm), .int (bI bcm), .int wd0, .int ab])), (th, .inl (D.1 12, 64, .inl (fun j => bI (tb j)))), (in_, .inl (D.1 11, 65, .inl Bin)), (wo, .inl (D.1 11, 65, .inl Bwo)), (fe, .inl (D.1 11, 65, .inl Bfe)), (go, .inl (D.1 11, 65, .inl Bgo)), (fi, .inl (D.1 11, 65, .inl Bfi)), (se_, .inl (D.1 11, 65, .inl Bse)), (sh, .inl (D.1 11, 65, .inl Bsh))]) C hK hH 0 23 tyX3 tyX3_ok nmX3 rfl rfl inX3 (by decide) tw_561 rfl rfl rfl (Nat.le_of_ble_eq_true rfl) rfl dX3_told_39 (fun H locs hH => ?_)
            refine lv_aload_n C.x C.b dX3_told_42 rfl (lv_at hl 0 rfl) ?_
            refine gGet (v := .int (nI 2)) C hK hH 0 23 rfl rfl inX3 (by decide) tw_561 rfl dX3_told_43 ?_
            refine vn_if_eq (tgt := 51) C.x C.b dX3_told_46 (by decide) (by omega) (fun q => absurd q (by decide)) (fun _ => ?_)
            refine lv_iconst (v := nI 0) C.x C.b dX3_told_49 (by decide) ?_
            exact rI C hr hH (Or.inr (Or.inr ⟨k9, j9, hk9, rfl, hj9, rfl, c_31, rfl, rfl⟩)) (Nat.le_of_ble_eq_true rfl) (Nat.le_of_ble_eq_true rfl) dX3_told_50
        · refine lv_iconst (v := nI 1) C.x C.b dX3_told_21 (by decide) ?_
          refine lv_goto (tgt := 39) C.x C.b dX3_told_22 (by decide) ?_
          refine gPut (v := .int (nI 1)) (ws' := [(m0, .inr (3, [.ref tm, .ref rgm, .ref mem, .ref bym, .ref in_, .ref so, .ref fr, .ref sh, .ref wo, .ref fe, .ref go, .ref fi, .ref se_, .ref th, .int (nI n), .int pl, .int (nI a), .int (nI pt), .int (nI hd), .int cyc, .int rds, .int wrs, .int fts, .int (nI 1), .int (bI wcm), .int (bI bcm), .int wd0, .int ab])), (th, .inl (D.1 12, 64, .inl (fun j => bI (tb j)))), (in_, .inl (D.1 11, 65, .inl Bin)), (wo, .inl (D.1 11, 65, .inl Bwo)), (fe, .inl (D.1 11, 65, .inl Bfe)), (go, .inl (D.1 11, 65, .inl Bgo)), (fi, .inl (D.1 11, 65, .inl Bfi)), (se_, .inl (D.1 11, 65, .inl Bse)), (sh, .inl (D.1 11, 65, .inl Bsh))]) C hK hH 0 23 tyX3 tyX3_ok nmX3 rfl rfl inX3 (by decide) tw_561 rfl rfl rfl (Nat.le_of_ble_eq_true rfl) rfl dX3_told_39 (fun H locs hH => ?_)
          refine lv_aload_n C.x C.b dX3_told_42 rfl (lv_at hl 0 rfl) ?_
          refine gGet (v := .int (nI 1)) C hK hH 0 23 rfl rfl inX3 (by decide) tw_561 rfl dX3_told_43 ?_
          refine vn_if_eq (tgt := 51) C.x C.b dX3_told_46 (by decide) (by omega) (fun q => absurd q (by decide)) (fun _ => ?_)
          refine lv_iconst (v := nI 0) C.x C.b dX3_told_49 (by decide) ?_
          exact rI C hr hH (Or.inr (Or.inl ⟨Or.inr (by first | exact rg_neg (by decide) c_12 | exact rg_nl (b := 6) (by decide) c_18 | exact rg_gt (b := 6) (by decide) c_18), rfl, rfl⟩)) (Nat.le_of_ble_eq_true rfl) (Nat.le_of_ble_eq_true rfl) dX3_told_50
