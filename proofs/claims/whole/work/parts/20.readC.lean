set_option maxHeartbeats 4000000 in
set_option maxRecDepth 100000 in
theorem c_takeDigit (l : Launch) (htr : l.stackTraces = false) (D : va_G) (sz : Nat) (h0 tx dr : Nat) (t : Nat → Nat) (n a : Nat) (f0 f1 f2 f3 f4 f5 : Nat) (f6 : Bool) (f7 : Nat) (f8 f9 : Option Nat) (L : Int32) (hn : n ≤ 40) (ha : a ≤ n) (ht : ∀ j, t j < 128) : Ct l yX1_takeDigit wX1_takeDigit { frames := 0, cells := 0, slots := 0, locals := 0 } D ([(h0, .inr (1, [.ref tx, .int (nI n), .int (nI a), .ref dr])), (tx, .inl (D.1 10, 40, .inl (fun j => nI (t j)))), (dr, .inr (0, [.int (nI f0), .int (nI f1), .int (nI f2), .int (nI f3), .int (nI f4), .int (nI f5), .int (bI f6), .int (nI f7), .int (oI f8), .int (oI f9)]))]) [.ref h0, .int L] sz (fun v w => (∃ d, dg t n a = some d ∧ d ≤ 9 ∧ nI d ≤ L ∧ a < n ∧ v = some (.int (nI d)) ∧ w = [(h0, .inr (1, [.ref tx, .int (nI n), .int (nI (a + 1)), .ref dr])), (tx, .inl (D.1 10, 40, .inl (fun j => nI (t j)))), (dr, .inr (0, [.int (nI f0), .int (nI f1), .int (nI f2), .int (nI f3), .int (nI f4), .int (nI f5), .int (bI f6), .int (nI f7), .int (oI f8), .int (oI f9)]))]) ∨ ((dg t n a = none ∨ ∃ d, dg t n a = some d ∧ ¬ nI d ≤ L) ∧ v = some (.int (-1)) ∧ w = [(h0, .inr (1, [.ref tx, .int (nI n), .int (nI a), .ref dr])), (tx, .inl (D.1 10, 40, .inl (fun j => nI (t j)))), (dr, .inr (0, [.int (nI f0), .int (nI f1), .int (nI f2), .int (nI f3), .int (nI f4), .int (nI f5), .int (bI f6), .int (nI f7), .int (oI f8), .int (oI f9)]))])) (nox) := by
  refine Ct.of (cc := cX1_takeDigit) (nL := 3) (ret := (some .int)) (own := RX1) htr (by decide) rfl (Nat.le_of_ble_eq_true rfl) ?_
  intro p e s m args below meth c A C hr hK H locs hH ls hl
  have hl : lv_has ls 3 [(0, .ref h0), (1, .int L)] := hl
  refine lv_aload_n C.x C.b dX1_takeDigit_0 rfl (lv_at hl 0 rfl) ?_
  refine gGet (v := .int (nI a)) C hK hH 0 2 rfl rfl inX1 (by decide) tw_87 rfl dX1_takeDigit_1 ?_
  refine lv_aload_n C.x C.b dX1_takeDigit_4 rfl (lv_at hl 0 rfl) ?_
  refine gGet (v := .int (nI n)) C hK hH 0 1 rfl rfl inX1 (by decide) tw_85 rfl dX1_takeDigit_5 ?_
  refine vn_icmp_ge (tgt := 26) C.x C.b dX1_takeDigit_8 (by decide) (by omega) (by omega) (fun c_8 => ?_) (fun c_8 => ?_)
  · refine lv_iconst (v := -1) C.x C.b dX1_takeDigit_26 (by decide) ?_
    refine lv_istore_n (lv' := [(2, .int (-1)), (0, .ref h0), (1, .int L)]) C.x C.b dX1_takeDigit_27 rfl hl (by decide) rfl (fun ls hl => ?_)
    refine lv_iload_n C.x C.b dX1_takeDigit_28 rfl (lv_at hl 0 rfl) ?_
    refine lv_if_lt (tgt := 43) C.x C.b dX1_takeDigit_29 (by decide) (fun _ => ?_) (fun q => absurd (by decide) q)
    refine lv_iconst (v := -1) C.x C.b dX1_takeDigit_43 (by decide) ?_
    exact rI C hr hH (Or.inr ⟨by first | exact Or.inl (dg_none (by omega)) | exact Or.inr ⟨_, dg_some (by omega) (by omega) (by omega), c_40⟩, rfl, rfl⟩) (Nat.le_of_ble_eq_true rfl) (Nat.le_of_ble_eq_true rfl) dX1_takeDigit_44
  · refine lv_aload_n C.x C.b dX1_takeDigit_11 rfl (lv_at hl 0 rfl) ?_
    refine gGet (v := .ref tx) C hK hH 0 0 rfl rfl inX1 (by decide) tw_84 rfl dX1_takeDigit_12 ?_
    refine lv_aload_n C.x C.b dX1_takeDigit_15 rfl (lv_at hl 0 rfl) ?_
    refine gGet (v := .int (nI a)) C hK hH 0 2 rfl rfl inX1 (by decide) tw_87 rfl dX1_takeDigit_16 ?_
    have hf_19 := ht a
    refine gCald (v := (nI (t a))) C hK hH 1 rfl (by omega) (by decide) dX1_takeDigit_19 rfl ?_
    refine lv_bipush (v := nI 48) C.x C.b dX1_takeDigit_20 (by decide) ?_
    refine lv_isub C.x C.b dX1_takeDigit_22 ?_
    rcases Nat.lt_or_ge (t a) 48 with hlo | hlo
    · refine lv_goto (tgt := 27) C.x C.b dX1_takeDigit_23 (by decide) ?_
      refine lv_istore_n (lv' := [(2, .int ((nI (t a)) - (nI 48))), (0, .ref h0), (1, .int L)]) C.x C.b dX1_takeDigit_27 rfl hl (by decide) rfl (fun ls hl => ?_)
      refine lv_iload_n C.x C.b dX1_takeDigit_28 rfl (lv_at hl 0 rfl) ?_
      refine lv_if_lt (tgt := 43) C.x C.b dX1_takeDigit_29 (by decide) (fun _ => ?_) (fun q => absurd (pk_sneg (by decide) hlo) q)
      refine lv_iconst (v := -1) C.x C.b dX1_takeDigit_43 (by decide) ?_
      exact rI C hr hH (Or.inr ⟨by first | exact Or.inl (dg_none (by omega)) | exact Or.inr ⟨_, dg_some (by omega) (by omega) (by omega), c_40⟩, rfl, rfl⟩) (Nat.le_of_ble_eq_true rfl) (Nat.le_of_ble_eq_true rfl) dX1_takeDigit_44
    · refine vt_top (y := nI (t a - 48)) (pk_sub hlo) ?_
      refine lv_goto (tgt := 27) C.x C.b dX1_takeDigit_23 (by decide) ?_
      refine lv_istore_n (lv' := [(2, .int (nI (t a - 48))), (0, .ref h0), (1, .int L)]) C.x C.b dX1_takeDigit_27 rfl hl (by decide) rfl (fun ls hl => ?_)
      refine lv_iload_n C.x C.b dX1_takeDigit_28 rfl (lv_at hl 0 rfl) ?_
      refine vn_if_lt (tgt := 43) C.x C.b dX1_takeDigit_29 (by decide) (by omega) ?_
      refine lv_iload_n C.x C.b dX1_takeDigit_32 rfl (lv_at hl 0 rfl) ?_
      refine lv_bipush (v := nI 9) C.x C.b dX1_takeDigit_33 (by decide) ?_
      refine vn_icmp_gt (tgt := 43) C.x C.b dX1_takeDigit_35 (by decide) (by omega) (by omega) (fun c_35 => ?_) (fun c_35 => ?_)
      · refine lv_iconst (v := -1) C.x C.b dX1_takeDigit_43 (by decide) ?_
        exact rI C hr hH (Or.inr ⟨by first | exact Or.inl (dg_none (by omega)) | exact Or.inr ⟨_, dg_some (by omega) (by omega) (by omega), c_40⟩, rfl, rfl⟩) (Nat.le_of_ble_eq_true rfl) (Nat.le_of_ble_eq_true rfl) dX1_takeDigit_44
      · refine lv_iload_n C.x C.b dX1_takeDigit_38 rfl (lv_at hl 0 rfl) ?_
        refine lv_iload_n C.x C.b dX1_takeDigit_39 rfl (lv_at hl 2 rfl) ?_
        refine lv_icmp_le (tgt := 45) C.x C.b dX1_takeDigit_40 (by decide) (fun c_40 => ?_) (fun c_40 => ?_)
        · refine lv_aload_n C.x C.b dX1_takeDigit_45 rfl (lv_at hl 1 rfl) ?_
          refine lv_dup C.x C.b dX1_takeDigit_46 rfl ?_
          refine gGet (v := .int (nI a)) C hK hH 0 2 rfl rfl inX1 (by decide) tw_87 rfl dX1_takeDigit_47 ?_
          refine lv_iconst (v := nI 1) C.x C.b dX1_takeDigit_50 (by decide) ?_
          refine lv_iadd C.x C.b dX1_takeDigit_51 ?_
          refine vt_top (nI_add _ _) ?_
          refine gPut (v := .int (nI (a + 1))) (ws' := [(h0, .inr (1, [.ref tx, .int (nI n), .int (nI (a + 1)), .ref dr])), (tx, .inl (D.1 10, 40, .inl (fun j => nI (t j)))), (dr, .inr (0, [.int (nI f0), .int (nI f1), .int (nI f2), .int (nI f3), .int (nI f4), .int (nI f5), .int (bI f6), .int (nI f7), .int (oI f8), .int (oI f9)]))]) C hK hH 0 2 tyX1 tyX1_ok nmX1 rfl rfl inX1 (by decide) tw_87 rfl rfl rfl (Nat.le_of_ble_eq_true rfl) rfl dX1_takeDigit_52 (fun H locs hH => ?_)
          refine lv_iload_n C.x C.b dX1_takeDigit_55 rfl (lv_at hl 0 rfl) ?_
          exact rI C hr hH (Or.inl ⟨_, dg_some (by omega) (by omega) (by omega), by omega, c_40, by omega, rfl, rfl⟩) (Nat.le_of_ble_eq_true rfl) (Nat.le_of_ble_eq_true rfl) dX1_takeDigit_56
        · refine lv_iconst (v := -1) C.x C.b dX1_takeDigit_43 (by decide) ?_
          exact rI C hr hH (Or.inr ⟨by first | exact Or.inl (dg_none (by omega)) | exact Or.inr ⟨_, dg_some (by omega) (by omega) (by omega), c_40⟩, rfl, rfl⟩) (Nat.le_of_ble_eq_true rfl) (Nat.le_of_ble_eq_true rfl) dX1_takeDigit_44
set_option maxHeartbeats 4000000 in
set_option maxRecDepth 100000 in
theorem c_takeNumber (l : Launch) (htr : l.stackTraces = false) (D : va_G) (sz : Nat) (h0 tx dr : Nat) (t : Nat → Nat) (n a : Nat) (f0 f1 f2 f3 f4 f5 : Nat) (f6 : Bool) (f7 : Nat) (f8 f9 : Option Nat) (hn : n ≤ 40) (ha : a ≤ n) (ht : ∀ j, t j < 128) : Ct l yX1_takeNumber wX1_takeNumber { frames := 1, cells := 0, slots := 0, locals := 22 } D ([(h0, .inr (1, [.ref tx, .int (nI n), .int (nI a), .ref dr])), (tx, .inl (D.1 10, 40, .inl (fun j => nI (t j)))), (dr, .inr (0, [.int (nI f0), .int (nI f1), .int (nI f2), .int (nI f3), .int (nI f4), .int (nI f5), .int (bI f6), .int (nI f7), .int (oI f8), .int (oI f9)]))]) [.ref h0] sz (fun v w => (∃ x a9, nb t n a = some (x, a9) ∧ x ≤ 63 ∧ a < a9 ∧ a9 ≤ n ∧ v = some (.int (nI x)) ∧ w = [(h0, .inr (1, [.ref tx, .int (nI n), .int (nI a9), .ref dr])), (tx, .inl (D.1 10, 40, .inl (fun j => nI (t j)))), (dr, .inr (0, [.int (nI f0), .int (nI f1), .int (nI f2), .int (nI f3), .int (nI f4), .int (nI f5), .int (bI f6), .int (nI f7), .int (oI f8), .int (oI f9)]))]) ∨ (nb t n a = none ∧ v = some (.int (-1)) ∧ w = [(h0, .inr (1, [.ref tx, .int (nI n), .int (nI a), .ref dr])), (tx, .inl (D.1 10, 40, .inl (fun j => nI (t j)))), (dr, .inr (0, [.int (nI f0), .int (nI f1), .int (nI f2), .int (nI f3), .int (nI f4), .int (nI f5), .int (bI f6), .int (nI f7), .int (oI f8), .int (oI f9)]))])) (nox) := by
  refine Ct.of (cc := cX1_takeNumber) (nL := 3) (ret := (some .int)) (own := RX1) htr (by decide) rfl (Nat.le_of_ble_eq_true rfl) ?_
  intro p e s m args below meth c A C hr hK H locs hH ls hl
  have hl : lv_has ls 3 [(0, .ref h0)] := hl
  refine lv_aload_n C.x C.b dX1_takeNumber_0 rfl (lv_at hl 0 rfl) ?_
  refine lv_bipush (v := nI 9) C.x C.b dX1_takeNumber_1 (by decide) ?_
  refine kV (As := [.int (nI 9)]) (isC := [0, 1, 2]) (isR := []) (wr := []) C hK hH (c_takeDigit l htr D H.size h0 tx dr t n a f0 f1 f2 f3 f4 f5 f6 f7 f8 f9 (nI 9) hn (by omega) ht) ⟨rfl, rfl, rfl, rfl, by decide⟩ 0 rfl rfl tw_403 tw_405 ts_15 tw_2 kX1_takeDigit ⟨by decide +kernel, by decide +kernel, (by decide +kernel : (parseMethodDescriptor yX1_takeDigit.desc).map (fun d => d.parameters.length) = some 1)⟩ ⟨(Nat.le_of_ble_eq_true rfl), (Nat.le_of_ble_eq_true rfl)⟩ hl.1 (Nat.le_of_ble_eq_true rfl) dX1_takeNumber_3 ⟨(Nat.le_of_ble_eq_true rfl), (Nat.le_of_ble_eq_true rfl)⟩ (fun v9 w9 H locs hN hH => ?_) (fun _ _ _ _ _ _ h => False.elim h)
  rcases hN with ⟨d_3, hd_3, hd9_3, hL_3, kl_3, rfl, rfl⟩ | ⟨hd_3, rfl, rfl⟩
  · have hH : Hp D A s ([(h0, .inr (1, [.ref tx, .int (nI n), .int (nI (a + 1)), .ref dr])), (tx, .inl (D.1 10, 40, .inl (fun j => nI (t j)))), (dr, .inr (0, [.int (nI f0), .int (nI f1), .int (nI f2), .int (nI f3), .int (nI f4), .int (nI f5), .int (bI f6), .int (nI f7), .int (oI f8), .int (oI f9)]))]) H locs := hH
    refine W.eq (g2 := F0 m 6 ls [.int (nI d_3)]) rfl ?_
    refine lv_istore_n (lv' := [(1, .int (nI d_3)), (0, .ref h0)]) C.x C.b dX1_takeNumber_6 rfl hl (by decide) rfl (fun ls hl => ?_)
    refine lv_iload_n C.x C.b dX1_takeNumber_7 rfl (lv_at hl 0 rfl) ?_
    refine vn_if_ge (tgt := 13) C.x C.b dX1_takeNumber_8 (by decide) (by omega) ?_
    refine lv_aload_n C.x C.b dX1_takeNumber_13 rfl (lv_at hl 1 rfl) ?_
    refine lv_bipush (v := nI 63) C.x C.b dX1_takeNumber_14 (by decide) ?_
    refine lv_bipush (v := nI 10) C.x C.b dX1_takeNumber_16 (by decide) ?_
    refine lv_iload_n C.x C.b dX1_takeNumber_18 rfl (lv_at hl 0 rfl) ?_
    refine lv_imul C.x C.b dX1_takeNumber_19 ?_
    refine vt_top (pk_mul _ _) ?_
    refine lv_isub C.x C.b dX1_takeNumber_20 ?_
    refine kV (As := [.int ((nI 63) - (nI (10 * d_3)))]) (isC := [0, 1, 2]) (isR := []) (wr := []) C hK hH (c_takeDigit l htr D H.size h0 tx dr t n (a + 1) f0 f1 f2 f3 f4 f5 f6 f7 f8 f9 ((nI 63) - (nI (10 * d_3))) hn (by omega) ht) ⟨rfl, rfl, rfl, rfl, by decide⟩ 0 rfl rfl tw_403 tw_405 ts_15 tw_2 kX1_takeDigit ⟨by decide +kernel, by decide +kernel, (by decide +kernel : (parseMethodDescriptor yX1_takeDigit.desc).map (fun d => d.parameters.length) = some 1)⟩ ⟨(Nat.le_of_ble_eq_true rfl), (Nat.le_of_ble_eq_true rfl)⟩ hl.1 (Nat.le_of_ble_eq_true rfl) dX1_takeNumber_21 ⟨(Nat.le_of_ble_eq_true rfl), (Nat.le_of_ble_eq_true rfl)⟩ (fun v9 w9 H locs hN hH => ?_) (fun _ _ _ _ _ _ h => False.elim h)
    rcases hN with ⟨d_21, hd_21, hd9_21, hL_21, kl_21, rfl, rfl⟩ | ⟨hd_21, rfl, rfl⟩
    · have hH : Hp D A s ([(h0, .inr (1, [.ref tx, .int (nI n), .int (nI (a + 1 + 1)), .ref dr])), (tx, .inl (D.1 10, 40, .inl (fun j => nI (t j)))), (dr, .inr (0, [.int (nI f0), .int (nI f1), .int (nI f2), .int (nI f3), .int (nI f4), .int (nI f5), .int (bI f6), .int (nI f7), .int (oI f8), .int (oI f9)]))]) H locs := hH
      refine W.eq (g2 := F0 m 24 ls [.int (nI d_21)]) rfl ?_
      refine lv_istore_n (lv' := [(2, .int (nI d_21)), (1, .int (nI d_3)), (0, .ref h0)]) C.x C.b dX1_takeNumber_24 rfl hl (by decide) rfl (fun ls hl => ?_)
      refine lv_iload_n C.x C.b dX1_takeNumber_25 rfl (lv_at hl 0 rfl) ?_
      refine vn_if_ge (tgt := 33) C.x C.b dX1_takeNumber_26 (by decide) (by omega) ?_
      refine lv_bipush (v := nI 10) C.x C.b dX1_takeNumber_33 (by decide) ?_
      refine lv_iload_n C.x C.b dX1_takeNumber_35 rfl (lv_at hl 1 rfl) ?_
      refine lv_imul C.x C.b dX1_takeNumber_36 ?_
      refine vt_top (pk_mul _ _) ?_
      refine lv_iload_n C.x C.b dX1_takeNumber_37 rfl (lv_at hl 0 rfl) ?_
      refine lv_iadd C.x C.b dX1_takeNumber_38 ?_
      refine vt_top (nI_add _ _) ?_
      exact rI C hr hH (Or.inl ⟨_, _, (nb_2 hd_3 hd_21 hL_21).1, (nb_2 hd_3 hd_21 hL_21).2, by omega, by omega, rfl, rfl⟩) (Nat.le_of_ble_eq_true rfl) (Nat.le_of_ble_eq_true rfl) dX1_takeNumber_39
    · have hH : Hp D A s ([(h0, .inr (1, [.ref tx, .int (nI n), .int (nI (a + 1)), .ref dr])), (tx, .inl (D.1 10, 40, .inl (fun j => nI (t j)))), (dr, .inr (0, [.int (nI f0), .int (nI f1), .int (nI f2), .int (nI f3), .int (nI f4), .int (nI f5), .int (bI f6), .int (nI f7), .int (oI f8), .int (oI f9)]))]) H locs := hH
      refine W.eq (g2 := F0 m 24 ls [.int (-1)]) rfl ?_
      refine lv_istore_n (lv' := [(2, .int (-1)), (1, .int (nI d_3)), (0, .ref h0)]) C.x C.b dX1_takeNumber_24 rfl hl (by decide) rfl (fun ls hl => ?_)
      refine lv_iload_n C.x C.b dX1_takeNumber_25 rfl (lv_at hl 0 rfl) ?_
      refine lv_if_ge (tgt := 33) C.x C.b dX1_takeNumber_26 (by decide) (fun q => absurd q (by decide)) (fun _ => ?_)
      refine lv_iload_n C.x C.b dX1_takeNumber_29 rfl (lv_at hl 1 rfl) ?_
      refine lv_goto (tgt := 39) C.x C.b dX1_takeNumber_30 (by decide) ?_
      exact rI C hr hH (Or.inl ⟨_, _, nb_1 hd_3 hd_21, by omega, by omega, by omega, rfl, rfl⟩) (Nat.le_of_ble_eq_true rfl) (Nat.le_of_ble_eq_true rfl) dX1_takeNumber_39
  · have hH : Hp D A s ([(h0, .inr (1, [.ref tx, .int (nI n), .int (nI a), .ref dr])), (tx, .inl (D.1 10, 40, .inl (fun j => nI (t j)))), (dr, .inr (0, [.int (nI f0), .int (nI f1), .int (nI f2), .int (nI f3), .int (nI f4), .int (nI f5), .int (bI f6), .int (nI f7), .int (oI f8), .int (oI f9)]))]) H locs := hH
    refine W.eq (g2 := F0 m 6 ls [.int (-1)]) rfl ?_
    refine lv_istore_n (lv' := [(1, .int (-1)), (0, .ref h0)]) C.x C.b dX1_takeNumber_6 rfl hl (by decide) rfl (fun ls hl => ?_)
    refine lv_iload_n C.x C.b dX1_takeNumber_7 rfl (lv_at hl 0 rfl) ?_
    refine lv_if_ge (tgt := 13) C.x C.b dX1_takeNumber_8 (by decide) (fun q => absurd q (by decide)) (fun _ => ?_)
    refine lv_iconst (v := -1) C.x C.b dX1_takeNumber_11 (by decide) ?_
    exact rI C hr hH (Or.inr ⟨nb_0 hd_3, rfl, rfl⟩) (Nat.le_of_ble_eq_true rfl) (Nat.le_of_ble_eq_true rfl) dX1_takeNumber_12
