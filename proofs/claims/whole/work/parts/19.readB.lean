set_option maxHeartbeats 4000000 in
set_option maxRecDepth 100000 in
theorem c_takeSource (l : Launch) (htr : l.stackTraces = false) (D : va_G) (sz : Nat) (h0 tx dr : Nat) (t : Nat → Nat) (n a : Nat) (f0 f1 f2 f3 f4 f5 : Nat) (f6 : Bool) (f7 : Nat) (f8 f9 : Option Nat) (hn : n ≤ 40) (ha : a ≤ n) (ht : ∀ j, t j < 128) : Ct l yX1_takeSource wX1_takeSource { frames := 4, cells := 0, slots := 0, locals := 91 } D ([(h0, .inr (1, [.ref tx, .int (nI n), .int (nI a), .ref dr])), (tx, .inl (D.1 10, 40, .inl (fun j => nI (t j)))), (dr, .inr (0, [.int (nI f0), .int (nI f1), .int (nI f2), .int (nI f3), .int (nI f4), .int (nI f5), .int (bI f6), .int (nI f7), .int (oI f8), .int (oI f9)]))]) [.ref h0] sz (fun v w => (∃ k, src t n a = some k ∧ a < n ∧ v = some (.int (nI 1)) ∧ w = [(h0, .inr (1, [.ref tx, .int (nI n), .int (nI (a + 1)), .ref dr])), (tx, .inl (D.1 10, 40, .inl (fun j => nI (t j)))), (dr, .inr (0, [.int (nI f0), .int (nI f1), .int (nI f2), .int (nI k), .int (nI f4), .int (nI f5), .int (bI f6), .int (nI f7), .int (oI f8), .int (oI f9)]))]) ∨ (src t n a = none ∧ v = some (.int (nI 0)) ∧ w = [(h0, .inr (1, [.ref tx, .int (nI n), .int (nI a), .ref dr])), (tx, .inl (D.1 10, 40, .inl (fun j => nI (t j)))), (dr, .inr (0, [.int (nI f0), .int (nI f1), .int (nI f2), .int (nI f3), .int (nI f4), .int (nI f5), .int (bI f6), .int (nI f7), .int (oI f8), .int (oI f9)]))])) (nox) := by
  refine Ct.of (cc := cX1_takeSource) (nL := 2) (ret := (some .boolean)) (own := RX1) htr (by decide) rfl (Nat.le_of_ble_eq_true rfl) ?_
  intro p e s m args below meth c A C hr hK H locs hH ls hl
  have hl : lv_has ls 2 [(0, .ref h0)] := hl
  refine lv_aload_n C.x C.b dX1_takeSource_0 rfl (lv_at hl 0 rfl) ?_
  refine gGet (v := .int (nI a)) C hK hH 0 2 rfl rfl inX1 (by decide) tw_87 rfl dX1_takeSource_1 ?_
  refine lv_aload_n C.x C.b dX1_takeSource_4 rfl (lv_at hl 0 rfl) ?_
  refine gGet (v := .int (nI n)) C hK hH 0 1 rfl rfl inX1 (by decide) tw_85 rfl dX1_takeSource_5 ?_
  refine vn_icmp_ge (tgt := 28) C.x C.b dX1_takeSource_8 (by decide) (by omega) (by omega) (fun c_8 => ?_) (fun c_8 => ?_)
  · refine lv_iconst (v := -1) C.x C.b dX1_takeSource_28 (by decide) ?_
    refine lv_istore_n (lv' := [(1, .int (-1)), (0, .ref h0)]) C.x C.b dX1_takeSource_29 rfl hl (by decide) rfl (fun ls hl => ?_)
    refine lv_iload_n C.x C.b dX1_takeSource_30 rfl (lv_at hl 0 rfl) ?_
    refine lv_if_le (tgt := 40) C.x C.b dX1_takeSource_31 (by decide) (fun _ => ?_) (fun q => absurd (by decide) q)
    refine lv_iconst (v := nI 0) C.x C.b dX1_takeSource_40 (by decide) ?_
    exact rZ C hr (by decide) hH (Or.inr ⟨by first | exact src_none hx_25 | exact src_out (by omega), rfl, rfl⟩) (Nat.le_of_ble_eq_true rfl) (Nat.le_of_ble_eq_true rfl) dX1_takeSource_41
  · refine va_ldcS C.x C.b C.ow C.N.2.1 dX1_takeSource_11 ?_
    refine lv_aload_n C.x C.b dX1_takeSource_13 rfl (lv_at hl 0 rfl) ?_
    refine gGet (v := .ref tx) C hK hH 0 0 rfl rfl inX1 (by decide) tw_84 rfl dX1_takeSource_14 ?_
    refine lv_aload_n C.x C.b dX1_takeSource_17 rfl (lv_at hl 0 rfl) ?_
    refine gGet (v := .int (nI a)) C hK hH 0 2 rfl rfl inX1 (by decide) tw_87 rfl dX1_takeSource_18 ?_
    have hf_21 := ht a
    refine gCald (v := (nI (t a))) C hK hH 1 rfl (by omega) (by decide) dX1_takeSource_21 rfl ?_
    refine kVr (As := [.int (nI (t a))]) (isC := []) (isR := [0, 1, 2]) (wr := [(h0, .inr (1, [.ref tx, .int (nI n), .int (nI a), .ref dr])), (tx, .inl (D.1 10, 40, .inl (fun j => nI (t j)))), (dr, .inr (0, [.int (nI f0), .int (nI f1), .int (nI f2), .int (nI f3), .int (nI f4), .int (nI f5), .int (bI f6), .int (nI f7), .int (oI f8), .int (oI f9)]))]) C hK hH (c_indexOf l htr D H.size 0 (t a) (by decide) (by omega)) ⟨rfl, rfl, rfl, rfl, by decide⟩ (vk_recv C.Z.2.2.1 (i := 0) (by decide) hH.2.2) tw_280 tw_281 tw_282 tw_10 kJ0_indexOf ⟨by decide +kernel, by decide +kernel, (by decide +kernel : (parseMethodDescriptor yJ0_indexOf.desc).map (fun d => d.parameters.length) = some 1)⟩ ⟨(Nat.le_of_ble_eq_true rfl), (Nat.le_of_ble_eq_true rfl)⟩ hl.1 (Nat.le_of_ble_eq_true rfl) dX1_takeSource_22 ⟨(Nat.le_of_ble_eq_true rfl), (Nat.le_of_ble_eq_true rfl)⟩ (fun v9 w9 H locs hN hH => ?_) (fun _ _ _ _ _ _ h => False.elim h)
    obtain ⟨rfl, rfl⟩ := hN
    have hH : Hp D A s ([(h0, .inr (1, [.ref tx, .int (nI n), .int (nI a), .ref dr])), (tx, .inl (D.1 10, 40, .inl (fun j => nI (t j)))), (dr, .inr (0, [.int (nI f0), .int (nI f1), .int (nI f2), .int (nI f3), .int (nI f4), .int (nI f5), .int (bI f6), .int (nI f7), .int (oI f8), .int (oI f9)]))]) H locs := hH
    refine W.eq (g2 := F0 m 25 ls [.int (oI (ixS 0 (t a)))]) rfl ?_
    cases hx_25 : ixS 0 (t a) with
    | none =>
      refine vt_top (y := -1) rfl ?_
      refine lv_goto (tgt := 29) C.x C.b dX1_takeSource_25 (by decide) ?_
      refine lv_istore_n (lv' := [(1, .int (-1)), (0, .ref h0)]) C.x C.b dX1_takeSource_29 rfl hl (by decide) rfl (fun ls hl => ?_)
      refine lv_iload_n C.x C.b dX1_takeSource_30 rfl (lv_at hl 0 rfl) ?_
      refine lv_if_le (tgt := 40) C.x C.b dX1_takeSource_31 (by decide) (fun _ => ?_) (fun q => absurd (by decide) q)
      refine lv_iconst (v := nI 0) C.x C.b dX1_takeSource_40 (by decide) ?_
      exact rZ C hr (by decide) hH (Or.inr ⟨by first | exact src_none hx_25 | exact src_out (by omega), rfl, rfl⟩) (Nat.le_of_ble_eq_true rfl) (Nat.le_of_ble_eq_true rfl) dX1_takeSource_41
    | some y_25 =>
      have hy_25 := ixS_lt (by decide) hx_25
      refine vt_top (y := nI y_25) rfl ?_
      refine lv_goto (tgt := 29) C.x C.b dX1_takeSource_25 (by decide) ?_
      refine lv_istore_n (lv' := [(1, .int (nI y_25)), (0, .ref h0)]) C.x C.b dX1_takeSource_29 rfl hl (by decide) rfl (fun ls hl => ?_)
      refine lv_iload_n C.x C.b dX1_takeSource_30 rfl (lv_at hl 0 rfl) ?_
      refine vn_if_le (tgt := 40) C.x C.b dX1_takeSource_31 (by decide) (by omega) (fun c_31 => ?_) (fun c_31 => ?_)
      · refine lv_iconst (v := nI 0) C.x C.b dX1_takeSource_40 (by decide) ?_
        exact rZ C hr (by decide) hH (Or.inr ⟨src_bad hx_25 (by omega), rfl, rfl⟩) (Nat.le_of_ble_eq_true rfl) (Nat.le_of_ble_eq_true rfl) dX1_takeSource_41
      · refine lv_iload_n C.x C.b dX1_takeSource_34 rfl (lv_at hl 0 rfl) ?_
        refine lv_bipush (v := nI 8) C.x C.b dX1_takeSource_35 (by decide) ?_
        refine vn_icmp_ne (tgt := 42) C.x C.b dX1_takeSource_37 (by decide) (by omega) (by omega) (fun c_37 => ?_) (fun c_37 => ?_)
        · refine lv_aload_n C.x C.b dX1_takeSource_42 rfl (lv_at hl 1 rfl) ?_
          refine gGet (v := .ref dr) C hK hH 0 3 rfl rfl inX1 (by decide) tw_89 rfl dX1_takeSource_43 ?_
          refine lv_iload_n C.x C.b dX1_takeSource_46 rfl (lv_at hl 0 rfl) ?_
          refine gPutN (v := .int (nI y_25)) (ws' := [(h0, .inr (1, [.ref tx, .int (nI n), .int (nI a), .ref dr])), (tx, .inl (D.1 10, 40, .inl (fun j => nI (t j)))), (dr, .inr (0, [.int (nI f0), .int (nI f1), .int (nI f2), .int (nI y_25), .int (nI f4), .int (nI f5), .int (bI f6), .int (nI f7), .int (oI f8), .int (oI f9)]))]) C hK hH 2 3 tyX0 tyX0_ok nmX0 rfl rfl inX0 (by decide) (nwl_of tn_46 rfl) rfl rfl rfl (Nat.le_of_ble_eq_true rfl) rfl dX1_takeSource_47 (fun H locs hH => ?_)
          refine lv_aload_n C.x C.b dX1_takeSource_50 rfl (lv_at hl 1 rfl) ?_
          refine lv_dup C.x C.b dX1_takeSource_51 rfl ?_
          refine gGet (v := .int (nI a)) C hK hH 0 2 rfl rfl inX1 (by decide) tw_87 rfl dX1_takeSource_52 ?_
          refine lv_iconst (v := nI 1) C.x C.b dX1_takeSource_55 (by decide) ?_
          refine lv_iadd C.x C.b dX1_takeSource_56 ?_
          refine vt_top (nI_add _ _) ?_
          refine gPut (v := .int (nI (a + 1))) (ws' := [(h0, .inr (1, [.ref tx, .int (nI n), .int (nI (a + 1)), .ref dr])), (tx, .inl (D.1 10, 40, .inl (fun j => nI (t j)))), (dr, .inr (0, [.int (nI f0), .int (nI f1), .int (nI f2), .int (nI y_25), .int (nI f4), .int (nI f5), .int (bI f6), .int (nI f7), .int (oI f8), .int (oI f9)]))]) C hK hH 0 2 tyX1 tyX1_ok nmX1 rfl rfl inX1 (by decide) tw_87 rfl rfl rfl (Nat.le_of_ble_eq_true rfl) rfl dX1_takeSource_57 (fun H locs hH => ?_)
          refine lv_iconst (v := nI 1) C.x C.b dX1_takeSource_60 (by decide) ?_
          exact rZ C hr (by decide) hH (Or.inl ⟨y_25, src_some (by omega) hx_25 (by omega), by omega, rfl, rfl⟩) (Nat.le_of_ble_eq_true rfl) (Nat.le_of_ble_eq_true rfl) dX1_takeSource_61
        · refine lv_iconst (v := nI 0) C.x C.b dX1_takeSource_40 (by decide) ?_
          exact rZ C hr (by decide) hH (Or.inr ⟨src_bad hx_25 (by omega), rfl, rfl⟩) (Nat.le_of_ble_eq_true rfl) (Nat.le_of_ble_eq_true rfl) dX1_takeSource_41
set_option maxHeartbeats 4000000 in
set_option maxRecDepth 100000 in
theorem c_readBehindH (l : Launch) (htr : l.stackTraces = false) (D : va_G) (sz : Nat) (h0 tx dr : Nat) (t : Nat → Nat) (n a : Nat) (f0 f1 f2 f3 f4 f5 : Nat) (f6 : Bool) (f7 : Nat) (f8 f9 : Option Nat) (hn : n ≤ 40) (ha : a ≤ n) (ht : ∀ j, t j < 128) : Ct l yX1_readBehindH wX1_readBehindH { frames := 5, cells := 0, slots := 0, locals := 112 } D ([(h0, .inr (1, [.ref tx, .int (nI n), .int (nI a), .ref dr])), (tx, .inl (D.1 10, 40, .inl (fun j => nI (t j)))), (dr, .inr (0, [.int (nI f0), .int (nI f1), .int (nI f2), .int (nI f3), .int (nI f4), .int (nI f5), .int (bI f6), .int (nI f7), .int (oI f8), .int (oI f9)]))]) [.ref h0] sz (fun v w => (∃ q, vh t n a = .inr q ∧ q.1 ≤ n ∧ v = some (.int (nI 1)) ∧ w = [(h0, .inr (1, [.ref tx, .int (nI n), .int (nI q.1), .ref dr])), (tx, .inl (D.1 10, 40, .inl (fun j => nI (t j)))), (dr, .inr (0, [.int (nI f0), .int (nI f1), .int (nI q.2.1), .int (nI (q.2.2.getD f3)), .int (nI f4), .int (nI f5), .int (bI f6), .int (nI f7), .int (oI f8), .int (oI f9)]))]) ∨ (∃ a9 g2 g3, vh t n a = .inl a9 ∧ a9 ≤ n ∧ v = some (.int (nI 0)) ∧ w = [(h0, .inr (1, [.ref tx, .int (nI n), .int (nI a9), .ref dr])), (tx, .inl (D.1 10, 40, .inl (fun j => nI (t j)))), (dr, .inr (0, [.int (nI f0), .int (nI f1), .int (nI g2), .int (nI g3), .int (nI f4), .int (nI f5), .int (bI f6), .int (nI f7), .int (oI f8), .int (oI f9)]))])) (nox) := by
  refine Ct.of (cc := cX1_readBehindH) (nL := 1) (ret := (some .boolean)) (own := RX1) htr (by decide) rfl (Nat.le_of_ble_eq_true rfl) ?_
  intro p e s m args below meth c A C hr hK H locs hH ls hl
  have hl : lv_has ls 1 [(0, .ref h0)] := hl
  refine lv_aload_n C.x C.b dX1_readBehindH_0 rfl (lv_at hl 0 rfl) ?_
  refine lv_bipush (v := nI 38) C.x C.b dX1_readBehindH_1 (by decide) ?_
  refine kV (As := [.int (nI 38)]) (isC := [0, 1, 2]) (isR := []) (wr := []) C hK hH (c_take l htr D H.size h0 tx dr t n a f0 f1 f2 f3 f4 f5 f6 f7 f8 f9 38 hn (by omega) ht (by omega)) ⟨rfl, rfl, rfl, rfl, by decide⟩ 0 rfl rfl tw_370 tw_372 ts_7 tw_2 kX1_take ⟨by decide +kernel, by decide +kernel, (by decide +kernel : (parseMethodDescriptor yX1_take.desc).map (fun d => d.parameters.length) = some 1)⟩ ⟨(Nat.le_of_ble_eq_true rfl), (Nat.le_of_ble_eq_true rfl)⟩ hl.1 (Nat.le_of_ble_eq_true rfl) dX1_readBehindH_3 ⟨(Nat.le_of_ble_eq_true rfl), (Nat.le_of_ble_eq_true rfl)⟩ (fun v9 w9 H locs hN hH => ?_) (fun _ _ _ _ _ _ h => False.elim h)
  rcases hN with ⟨k_3, kl_3, rfl, rfl⟩ | ⟨k_3, rfl, rfl⟩
  · have hH : Hp D A s ([(h0, .inr (1, [.ref tx, .int (nI n), .int (nI (a + 1)), .ref dr])), (tx, .inl (D.1 10, 40, .inl (fun j => nI (t j)))), (dr, .inr (0, [.int (nI f0), .int (nI f1), .int (nI f2), .int (nI f3), .int (nI f4), .int (nI f5), .int (bI f6), .int (nI f7), .int (oI f8), .int (oI f9)]))]) H locs := hH
    refine W.eq (g2 := F0 m 6 ls [.int (nI 1)]) rfl ?_
    refine vn_if_eq (tgt := 31) C.x C.b dX1_readBehindH_6 (by decide) (by omega) (fun q => absurd q (by decide)) (fun _ => ?_)
    refine lv_aload_n C.x C.b dX1_readBehindH_9 rfl (lv_at hl 0 rfl) ?_
    refine kV (As := []) (isC := [0, 1, 2]) (isR := []) (wr := []) C hK hH (c_takeSource l htr D H.size h0 tx dr t n (a + 1) f0 f1 f2 f3 f4 f5 f6 f7 f8 f9 hn (by omega) ht) ⟨rfl, rfl, rfl, rfl, by decide⟩ 0 rfl rfl tw_382 tw_384 ts_10 tw_2 kX1_takeSource ⟨by decide +kernel, by decide +kernel, (by decide +kernel : (parseMethodDescriptor yX1_takeSource.desc).map (fun d => d.parameters.length) = some 0)⟩ ⟨(Nat.le_of_ble_eq_true rfl), (Nat.le_of_ble_eq_true rfl)⟩ hl.1 (Nat.le_of_ble_eq_true rfl) dX1_readBehindH_10 ⟨(Nat.le_of_ble_eq_true rfl), (Nat.le_of_ble_eq_true rfl)⟩ (fun v9 w9 H locs hN hH => ?_) (fun _ _ _ _ _ _ h => False.elim h)
    rcases hN with ⟨s_10, k_10, kl_10, rfl, rfl⟩ | ⟨k_10, rfl, rfl⟩
    · have hH : Hp D A s ([(h0, .inr (1, [.ref tx, .int (nI n), .int (nI (a + 1 + 1)), .ref dr])), (tx, .inl (D.1 10, 40, .inl (fun j => nI (t j)))), (dr, .inr (0, [.int (nI f0), .int (nI f1), .int (nI f2), .int (nI s_10), .int (nI f4), .int (nI f5), .int (bI f6), .int (nI f7), .int (oI f8), .int (oI f9)]))]) H locs := hH
      refine W.eq (g2 := F0 m 13 ls [.int (nI 1)]) rfl ?_
      refine vn_if_eq (tgt := 29) C.x C.b dX1_readBehindH_13 (by decide) (by omega) (fun q => absurd q (by decide)) (fun _ => ?_)
      refine lv_aload_n C.x C.b dX1_readBehindH_16 rfl (lv_at hl 0 rfl) ?_
      refine lv_bipush (v := nI 12) C.x C.b dX1_readBehindH_17 (by decide) ?_
      refine kV (As := [.int (nI 12)]) (isC := [0, 1, 2]) (isR := []) (wr := []) C hK hH (c_does l htr D H.size h0 tx dr t n (a + 1 + 1) f0 f1 f2 s_10 f4 f5 f6 f7 f8 f9 12 hn (by omega) ht) ⟨rfl, rfl, rfl, rfl, by decide⟩ 0 rfl rfl tw_378 tw_380 ts_9 tw_2 kX1_does ⟨by decide +kernel, by decide +kernel, (by decide +kernel : (parseMethodDescriptor yX1_does.desc).map (fun d => d.parameters.length) = some 1)⟩ ⟨(Nat.le_of_ble_eq_true rfl), (Nat.le_of_ble_eq_true rfl)⟩ hl.1 (Nat.le_of_ble_eq_true rfl) dX1_readBehindH_19 ⟨(Nat.le_of_ble_eq_true rfl), (Nat.le_of_ble_eq_true rfl)⟩ (fun v9 w9 H locs hN hH => ?_) (fun _ _ _ _ _ _ h => False.elim h)
      obtain ⟨rfl, rfl⟩ := hN
      have hH : Hp D A s ([(h0, .inr (1, [.ref tx, .int (nI n), .int (nI (a + 1 + 1)), .ref dr])), (tx, .inl (D.1 10, 40, .inl (fun j => nI (t j)))), (dr, .inr (0, [.int (nI f0), .int (nI f1), .int (nI 12), .int (nI s_10), .int (nI f4), .int (nI f5), .int (bI f6), .int (nI f7), .int (oI f8), .int (oI f9)]))]) H locs := hH
      refine W.eq (g2 := F0 m 22 ls [.int (nI 1)]) rfl ?_
      refine vn_if_eq (tgt := 29) C.x C.b dX1_readBehindH_22 (by decide) (by omega) (fun q => absurd q (by decide)) (fun _ => ?_)
      refine lv_iconst (v := nI 1) C.x C.b dX1_readBehindH_25 (by decide) ?_
      refine lv_goto (tgt := 30) C.x C.b dX1_readBehindH_26 (by decide) ?_
      exact rZ C hr (by decide) hH (Or.inl ⟨(a + 1 + 1, 12, some s_10), by simp only [vh, k_3, k_10, cond_true, cond_false], by omega, rfl, rfl⟩) (Nat.le_of_ble_eq_true rfl) (Nat.le_of_ble_eq_true rfl) dX1_readBehindH_30
    · have hH : Hp D A s ([(h0, .inr (1, [.ref tx, .int (nI n), .int (nI (a + 1)), .ref dr])), (tx, .inl (D.1 10, 40, .inl (fun j => nI (t j)))), (dr, .inr (0, [.int (nI f0), .int (nI f1), .int (nI f2), .int (nI f3), .int (nI f4), .int (nI f5), .int (bI f6), .int (nI f7), .int (oI f8), .int (oI f9)]))]) H locs := hH
      refine W.eq (g2 := F0 m 13 ls [.int (nI 0)]) rfl ?_
      refine vn_if_eq (tgt := 29) C.x C.b dX1_readBehindH_13 (by decide) (by omega) (fun _ => ?_) (fun q => absurd q (by decide))
      refine lv_iconst (v := nI 0) C.x C.b dX1_readBehindH_29 (by decide) ?_
      exact rZ C hr (by decide) hH (Or.inr ⟨a + 1, f2, f3, by simp only [vh, k_3, k_10, cond_true, cond_false], by omega, rfl, rfl⟩) (Nat.le_of_ble_eq_true rfl) (Nat.le_of_ble_eq_true rfl) dX1_readBehindH_30
  · have hH : Hp D A s ([(h0, .inr (1, [.ref tx, .int (nI n), .int (nI a), .ref dr])), (tx, .inl (D.1 10, 40, .inl (fun j => nI (t j)))), (dr, .inr (0, [.int (nI f0), .int (nI f1), .int (nI f2), .int (nI f3), .int (nI f4), .int (nI f5), .int (bI f6), .int (nI f7), .int (oI f8), .int (oI f9)]))]) H locs := hH
    refine W.eq (g2 := F0 m 6 ls [.int (nI 0)]) rfl ?_
    refine vn_if_eq (tgt := 31) C.x C.b dX1_readBehindH_6 (by decide) (by omega) (fun _ => ?_) (fun q => absurd q (by decide))
    refine lv_aload_n C.x C.b dX1_readBehindH_31 rfl (lv_at hl 0 rfl) ?_
    refine lv_bipush (v := nI 124) C.x C.b dX1_readBehindH_32 (by decide) ?_
    refine kV (As := [.int (nI 124)]) (isC := [0, 1, 2]) (isR := []) (wr := []) C hK hH (c_take l htr D H.size h0 tx dr t n a f0 f1 f2 f3 f4 f5 f6 f7 f8 f9 124 hn (by omega) ht (by omega)) ⟨rfl, rfl, rfl, rfl, by decide⟩ 0 rfl rfl tw_370 tw_372 ts_7 tw_2 kX1_take ⟨by decide +kernel, by decide +kernel, (by decide +kernel : (parseMethodDescriptor yX1_take.desc).map (fun d => d.parameters.length) = some 1)⟩ ⟨(Nat.le_of_ble_eq_true rfl), (Nat.le_of_ble_eq_true rfl)⟩ hl.1 (Nat.le_of_ble_eq_true rfl) dX1_readBehindH_34 ⟨(Nat.le_of_ble_eq_true rfl), (Nat.le_of_ble_eq_true rfl)⟩ (fun v9 w9 H locs hN hH => ?_) (fun _ _ _ _ _ _ h => False.elim h)
    rcases hN with ⟨k_34, kl_34, rfl, rfl⟩ | ⟨k_34, rfl, rfl⟩
    · have hH : Hp D A s ([(h0, .inr (1, [.ref tx, .int (nI n), .int (nI (a + 1)), .ref dr])), (tx, .inl (D.1 10, 40, .inl (fun j => nI (t j)))), (dr, .inr (0, [.int (nI f0), .int (nI f1), .int (nI f2), .int (nI f3), .int (nI f4), .int (nI f5), .int (bI f6), .int (nI f7), .int (oI f8), .int (oI f9)]))]) H locs := hH
      refine W.eq (g2 := F0 m 37 ls [.int (nI 1)]) rfl ?_
      refine vn_if_eq (tgt := 62) C.x C.b dX1_readBehindH_37 (by decide) (by omega) (fun q => absurd q (by decide)) (fun _ => ?_)
      refine lv_aload_n C.x C.b dX1_readBehindH_40 rfl (lv_at hl 0 rfl) ?_
      refine kV (As := []) (isC := [0, 1, 2]) (isR := []) (wr := []) C hK hH (c_takeSource l htr D H.size h0 tx dr t n (a + 1) f0 f1 f2 f3 f4 f5 f6 f7 f8 f9 hn (by omega) ht) ⟨rfl, rfl, rfl, rfl, by decide⟩ 0 rfl rfl tw_382 tw_384 ts_10 tw_2 kX1_takeSource ⟨by decide +kernel, by decide +kernel, (by decide +kernel : (parseMethodDescriptor yX1_takeSource.desc).map (fun d => d.parameters.length) = some 0)⟩ ⟨(Nat.le_of_ble_eq_true rfl), (Nat.le_of_ble_eq_true rfl)⟩ hl.1 (Nat.le_of_ble_eq_true rfl) dX1_readBehindH_41 ⟨(Nat.le_of_ble_eq_true rfl), (Nat.le_of_ble_eq_true rfl)⟩ (fun v9 w9 H locs hN hH => ?_) (fun _ _ _ _ _ _ h => False.elim h)
      rcases hN with ⟨s_41, k_41, kl_41, rfl, rfl⟩ | ⟨k_41, rfl, rfl⟩
      · have hH : Hp D A s ([(h0, .inr (1, [.ref tx, .int (nI n), .int (nI (a + 1 + 1)), .ref dr])), (tx, .inl (D.1 10, 40, .inl (fun j => nI (t j)))), (dr, .inr (0, [.int (nI f0), .int (nI f1), .int (nI f2), .int (nI s_41), .int (nI f4), .int (nI f5), .int (bI f6), .int (nI f7), .int (oI f8), .int (oI f9)]))]) H locs := hH
        refine W.eq (g2 := F0 m 44 ls [.int (nI 1)]) rfl ?_
        refine vn_if_eq (tgt := 60) C.x C.b dX1_readBehindH_44 (by decide) (by omega) (fun q => absurd q (by decide)) (fun _ => ?_)
        refine lv_aload_n C.x C.b dX1_readBehindH_47 rfl (lv_at hl 0 rfl) ?_
        refine lv_bipush (v := nI 13) C.x C.b dX1_readBehindH_48 (by decide) ?_
        refine kV (As := [.int (nI 13)]) (isC := [0, 1, 2]) (isR := []) (wr := []) C hK hH (c_does l htr D H.size h0 tx dr t n (a + 1 + 1) f0 f1 f2 s_41 f4 f5 f6 f7 f8 f9 13 hn (by omega) ht) ⟨rfl, rfl, rfl, rfl, by decide⟩ 0 rfl rfl tw_378 tw_380 ts_9 tw_2 kX1_does ⟨by decide +kernel, by decide +kernel, (by decide +kernel : (parseMethodDescriptor yX1_does.desc).map (fun d => d.parameters.length) = some 1)⟩ ⟨(Nat.le_of_ble_eq_true rfl), (Nat.le_of_ble_eq_true rfl)⟩ hl.1 (Nat.le_of_ble_eq_true rfl) dX1_readBehindH_50 ⟨(Nat.le_of_ble_eq_true rfl), (Nat.le_of_ble_eq_true rfl)⟩ (fun v9 w9 H locs hN hH => ?_) (fun _ _ _ _ _ _ h => False.elim h)
        obtain ⟨rfl, rfl⟩ := hN
        have hH : Hp D A s ([(h0, .inr (1, [.ref tx, .int (nI n), .int (nI (a + 1 + 1)), .ref dr])), (tx, .inl (D.1 10, 40, .inl (fun j => nI (t j)))), (dr, .inr (0, [.int (nI f0), .int (nI f1), .int (nI 13), .int (nI s_41), .int (nI f4), .int (nI f5), .int (bI f6), .int (nI f7), .int (oI f8), .int (oI f9)]))]) H locs := hH
        refine W.eq (g2 := F0 m 53 ls [.int (nI 1)]) rfl ?_
        refine vn_if_eq (tgt := 60) C.x C.b dX1_readBehindH_53 (by decide) (by omega) (fun q => absurd q (by decide)) (fun _ => ?_)
        refine lv_iconst (v := nI 1) C.x C.b dX1_readBehindH_56 (by decide) ?_
        refine lv_goto (tgt := 61) C.x C.b dX1_readBehindH_57 (by decide) ?_
        exact rZ C hr (by decide) hH (Or.inl ⟨(a + 1 + 1, 13, some s_41), by simp only [vh, k_3, k_34, k_41, cond_true, cond_false], by omega, rfl, rfl⟩) (Nat.le_of_ble_eq_true rfl) (Nat.le_of_ble_eq_true rfl) dX1_readBehindH_61
      · have hH : Hp D A s ([(h0, .inr (1, [.ref tx, .int (nI n), .int (nI (a + 1)), .ref dr])), (tx, .inl (D.1 10, 40, .inl (fun j => nI (t j)))), (dr, .inr (0, [.int (nI f0), .int (nI f1), .int (nI f2), .int (nI f3), .int (nI f4), .int (nI f5), .int (bI f6), .int (nI f7), .int (oI f8), .int (oI f9)]))]) H locs := hH
        refine W.eq (g2 := F0 m 44 ls [.int (nI 0)]) rfl ?_
        refine vn_if_eq (tgt := 60) C.x C.b dX1_readBehindH_44 (by decide) (by omega) (fun _ => ?_) (fun q => absurd q (by decide))
        refine lv_iconst (v := nI 0) C.x C.b dX1_readBehindH_60 (by decide) ?_
        exact rZ C hr (by decide) hH (Or.inr ⟨a + 1, f2, f3, by simp only [vh, k_3, k_34, k_41, cond_true, cond_false], by omega, rfl, rfl⟩) (Nat.le_of_ble_eq_true rfl) (Nat.le_of_ble_eq_true rfl) dX1_readBehindH_61
    · have hH : Hp D A s ([(h0, .inr (1, [.ref tx, .int (nI n), .int (nI a), .ref dr])), (tx, .inl (D.1 10, 40, .inl (fun j => nI (t j)))), (dr, .inr (0, [.int (nI f0), .int (nI f1), .int (nI f2), .int (nI f3), .int (nI f4), .int (nI f5), .int (bI f6), .int (nI f7), .int (oI f8), .int (oI f9)]))]) H locs := hH
      refine W.eq (g2 := F0 m 37 ls [.int (nI 0)]) rfl ?_
      refine vn_if_eq (tgt := 62) C.x C.b dX1_readBehindH_37 (by decide) (by omega) (fun _ => ?_) (fun q => absurd q (by decide))
      refine lv_aload_n C.x C.b dX1_readBehindH_62 rfl (lv_at hl 0 rfl) ?_
      refine lv_bipush (v := nI 43) C.x C.b dX1_readBehindH_63 (by decide) ?_
      refine kV (As := [.int (nI 43)]) (isC := [0, 1, 2]) (isR := []) (wr := []) C hK hH (c_take l htr D H.size h0 tx dr t n a f0 f1 f2 f3 f4 f5 f6 f7 f8 f9 43 hn (by omega) ht (by omega)) ⟨rfl, rfl, rfl, rfl, by decide⟩ 0 rfl rfl tw_370 tw_372 ts_7 tw_2 kX1_take ⟨by decide +kernel, by decide +kernel, (by decide +kernel : (parseMethodDescriptor yX1_take.desc).map (fun d => d.parameters.length) = some 1)⟩ ⟨(Nat.le_of_ble_eq_true rfl), (Nat.le_of_ble_eq_true rfl)⟩ hl.1 (Nat.le_of_ble_eq_true rfl) dX1_readBehindH_65 ⟨(Nat.le_of_ble_eq_true rfl), (Nat.le_of_ble_eq_true rfl)⟩ (fun v9 w9 H locs hN hH => ?_) (fun _ _ _ _ _ _ h => False.elim h)
      rcases hN with ⟨k_65, kl_65, rfl, rfl⟩ | ⟨k_65, rfl, rfl⟩
      · have hH : Hp D A s ([(h0, .inr (1, [.ref tx, .int (nI n), .int (nI (a + 1)), .ref dr])), (tx, .inl (D.1 10, 40, .inl (fun j => nI (t j)))), (dr, .inr (0, [.int (nI f0), .int (nI f1), .int (nI f2), .int (nI f3), .int (nI f4), .int (nI f5), .int (bI f6), .int (nI f7), .int (oI f8), .int (oI f9)]))]) H locs := hH
        refine W.eq (g2 := F0 m 68 ls [.int (nI 1)]) rfl ?_
        refine vn_if_ne (tgt := 78) C.x C.b dX1_readBehindH_68 (by decide) (by omega) (fun _ => ?_) (fun q => absurd q (by decide))
        refine lv_aload_n C.x C.b dX1_readBehindH_78 rfl (lv_at hl 0 rfl) ?_
        refine lv_bipush (v := nI 49) C.x C.b dX1_readBehindH_79 (by decide) ?_
        refine kV (As := [.int (nI 49)]) (isC := [0, 1, 2]) (isR := []) (wr := []) C hK hH (c_take l htr D H.size h0 tx dr t n (a + 1) f0 f1 f2 f3 f4 f5 f6 f7 f8 f9 49 hn (by omega) ht (by omega)) ⟨rfl, rfl, rfl, rfl, by decide⟩ 0 rfl rfl tw_370 tw_372 ts_7 tw_2 kX1_take ⟨by decide +kernel, by decide +kernel, (by decide +kernel : (parseMethodDescriptor yX1_take.desc).map (fun d => d.parameters.length) = some 1)⟩ ⟨(Nat.le_of_ble_eq_true rfl), (Nat.le_of_ble_eq_true rfl)⟩ hl.1 (Nat.le_of_ble_eq_true rfl) dX1_readBehindH_81 ⟨(Nat.le_of_ble_eq_true rfl), (Nat.le_of_ble_eq_true rfl)⟩ (fun v9 w9 H locs hN hH => ?_) (fun _ _ _ _ _ _ h => False.elim h)
        rcases hN with ⟨k_81, kl_81, rfl, rfl⟩ | ⟨k_81, rfl, rfl⟩
        · have hH : Hp D A s ([(h0, .inr (1, [.ref tx, .int (nI n), .int (nI (a + 1 + 1)), .ref dr])), (tx, .inl (D.1 10, 40, .inl (fun j => nI (t j)))), (dr, .inr (0, [.int (nI f0), .int (nI f1), .int (nI f2), .int (nI f3), .int (nI f4), .int (nI f5), .int (bI f6), .int (nI f7), .int (oI f8), .int (oI f9)]))]) H locs := hH
          refine W.eq (g2 := F0 m 84 ls [.int (nI 1)]) rfl ?_
          refine vn_if_eq (tgt := 94) C.x C.b dX1_readBehindH_84 (by decide) (by omega) (fun q => absurd q (by decide)) (fun _ => ?_)
          refine lv_aload_n C.x C.b dX1_readBehindH_87 rfl (lv_at hl 0 rfl) ?_
          refine lv_bipush (v := nI 9) C.x C.b dX1_readBehindH_88 (by decide) ?_
          refine kV (As := [.int (nI 9)]) (isC := [0, 1, 2]) (isR := []) (wr := []) C hK hH (c_does l htr D H.size h0 tx dr t n (a + 1 + 1) f0 f1 f2 f3 f4 f5 f6 f7 f8 f9 9 hn (by omega) ht) ⟨rfl, rfl, rfl, rfl, by decide⟩ 0 rfl rfl tw_378 tw_380 ts_9 tw_2 kX1_does ⟨by decide +kernel, by decide +kernel, (by decide +kernel : (parseMethodDescriptor yX1_does.desc).map (fun d => d.parameters.length) = some 1)⟩ ⟨(Nat.le_of_ble_eq_true rfl), (Nat.le_of_ble_eq_true rfl)⟩ hl.1 (Nat.le_of_ble_eq_true rfl) dX1_readBehindH_90 ⟨(Nat.le_of_ble_eq_true rfl), (Nat.le_of_ble_eq_true rfl)⟩ (fun v9 w9 H locs hN hH => ?_) (fun _ _ _ _ _ _ h => False.elim h)
          obtain ⟨rfl, rfl⟩ := hN
          have hH : Hp D A s ([(h0, .inr (1, [.ref tx, .int (nI n), .int (nI (a + 1 + 1)), .ref dr])), (tx, .inl (D.1 10, 40, .inl (fun j => nI (t j)))), (dr, .inr (0, [.int (nI f0), .int (nI f1), .int (nI 9), .int (nI f3), .int (nI f4), .int (nI f5), .int (bI f6), .int (nI f7), .int (oI f8), .int (oI f9)]))]) H locs := hH
          refine W.eq (g2 := F0 m 93 ls [.int (nI 1)]) rfl ?_
          exact rZ C hr (by decide) hH (Or.inl ⟨(a + 1 + 1, 9, none), by simp only [vh, k_3, k_34, k_65, k_81, cond_true, cond_false], by omega, rfl, rfl⟩) (Nat.le_of_ble_eq_true rfl) (Nat.le_of_ble_eq_true rfl) dX1_readBehindH_93
        · have hH : Hp D A s ([(h0, .inr (1, [.ref tx, .int (nI n), .int (nI (a + 1)), .ref dr])), (tx, .inl (D.1 10, 40, .inl (fun j => nI (t j)))), (dr, .inr (0, [.int (nI f0), .int (nI f1), .int (nI f2), .int (nI f3), .int (nI f4), .int (nI f5), .int (bI f6), .int (nI f7), .int (oI f8), .int (oI f9)]))]) H locs := hH
          refine W.eq (g2 := F0 m 84 ls [.int (nI 0)]) rfl ?_
          refine vn_if_eq (tgt := 94) C.x C.b dX1_readBehindH_84 (by decide) (by omega) (fun _ => ?_) (fun q => absurd q (by decide))
          refine lv_aload_n C.x C.b dX1_readBehindH_94 rfl (lv_at hl 0 rfl) ?_
          refine kV (As := []) (isC := [0, 1, 2]) (isR := []) (wr := []) C hK hH (c_takeSource l htr D H.size h0 tx dr t n (a + 1) f0 f1 f2 f3 f4 f5 f6 f7 f8 f9 hn (by omega) ht) ⟨rfl, rfl, rfl, rfl, by decide⟩ 0 rfl rfl tw_382 tw_384 ts_10 tw_2 kX1_takeSource ⟨by decide +kernel, by decide +kernel, (by decide +kernel : (parseMethodDescriptor yX1_takeSource.desc).map (fun d => d.parameters.length) = some 0)⟩ ⟨(Nat.le_of_ble_eq_true rfl), (Nat.le_of_ble_eq_true rfl)⟩ hl.1 (Nat.le_of_ble_eq_true rfl) dX1_readBehindH_95 ⟨(Nat.le_of_ble_eq_true rfl), (Nat.le_of_ble_eq_true rfl)⟩ (fun v9 w9 H locs hN hH => ?_) (fun _ _ _ _ _ _ h => False.elim h)
          rcases hN with ⟨s_95, k_95, kl_95, rfl, rfl⟩ | ⟨k_95, rfl, rfl⟩
          · have hH : Hp D A s ([(h0, .inr (1, [.ref tx, .int (nI n), .int (nI (a + 1 + 1)), .ref dr])), (tx, .inl (D.1 10, 40, .inl (fun j => nI (t j)))), (dr, .inr (0, [.int (nI f0), .int (nI f1), .int (nI f2), .int (nI s_95), .int (nI f4), .int (nI f5), .int (bI f6), .int (nI f7), .int (oI f8), .int (oI f9)]))]) H locs := hH
            refine W.eq (g2 := F0 m 98 ls [.int (nI 1)]) rfl ?_
            refine vn_if_ne (tgt := 103) C.x C.b dX1_readBehindH_98 (by decide) (by omega) (fun _ => ?_) (fun q => absurd q (by decide))
            refine lv_aload_n C.x C.b dX1_readBehindH_103 rfl (lv_at hl 0 rfl) ?_
            refine lv_bipush (v := nI 43) C.x C.b dX1_readBehindH_104 (by decide) ?_
            refine kV (As := [.int (nI 43)]) (isC := [0, 1, 2]) (isR := []) (wr := []) C hK hH (c_take l htr D H.size h0 tx dr t n (a + 1 + 1) f0 f1 f2 s_95 f4 f5 f6 f7 f8 f9 43 hn (by omega) ht (by omega)) ⟨rfl, rfl, rfl, rfl, by decide⟩ 0 rfl rfl tw_370 tw_372 ts_7 tw_2 kX1_take ⟨by decide +kernel, by decide +kernel, (by decide +kernel : (parseMethodDescriptor yX1_take.desc).map (fun d => d.parameters.length) = some 1)⟩ ⟨(Nat.le_of_ble_eq_true rfl), (Nat.le_of_ble_eq_true rfl)⟩ hl.1 (Nat.le_of_ble_eq_true rfl) dX1_readBehindH_106 ⟨(Nat.le_of_ble_eq_true rfl), (Nat.le_of_ble_eq_true rfl)⟩ (fun v9 w9 H locs hN hH => ?_) (fun _ _ _ _ _ _ h => False.elim h)
            rcases hN with ⟨k_106, kl_106, rfl, rfl⟩ | ⟨k_106, rfl, rfl⟩
            · have hH : Hp D A s ([(h0, .inr (1, [.ref tx, .int (nI n), .int (nI (a + 1 + 1 + 1)), .ref dr])), (tx, .inl (D.1 10, 40, .inl (fun j => nI (t j)))), (dr, .inr (0, [.int (nI f0), .int (nI f1), .int (nI f2), .int (nI s_95), .int (nI f4), .int (nI f5), .int (bI f6), .int (nI f7), .int (oI f8), .int (oI f9)]))]) H locs := hH
              refine W.eq (g2 := F0 m 109 ls [.int (nI 1)]) rfl ?_
              refine vn_if_eq (tgt := 138) C.x C.b dX1_readBehindH_109 (by decide) (by omega) (fun q => absurd q (by decide)) (fun _ => ?_)
              refine lv_aload_n C.x C.b dX1_readBehindH_112 rfl (lv_at hl 0 rfl) ?_
              refine lv_bipush (v := nI 49) C.x C.b dX1_readBehindH_113 (by decide) ?_
              refine kV (As := [.int (nI 49)]) (isC := [0, 1, 2]) (isR := []) (wr := []) C hK hH (c_take l htr D H.size h0 tx dr t n (a + 1 + 1 + 1) f0 f1 f2 s_95 f4 f5 f6 f7 f8 f9 49 hn (by omega) ht (by omega)) ⟨rfl, rfl, rfl, rfl, by decide⟩ 0 rfl rfl tw_370 tw_372 ts_7 tw_2 kX1_take ⟨by decide +kernel, by decide +kernel, (by decide +kernel : (parseMethodDescriptor yX1_take.desc).map (fun d => d.parameters.length) = some 1)⟩ ⟨(Nat.le_of_ble_eq_true rfl), (Nat.le_of_ble_eq_true rfl)⟩ hl.1 (Nat.le_of_ble_eq_true rfl) dX1_readBehindH_115 ⟨(Nat.le_of_ble_eq_true rfl), (Nat.le_of_ble_eq_true rfl)⟩ (fun v9 w9 H locs hN hH => ?_) (fun _ _ _ _ _ _ h => False.elim h)
              rcases hN with ⟨k_115, kl_115, rfl, rfl⟩ | ⟨k_115, rfl, rfl⟩
              · have hH : Hp D A s ([(h0, .inr (1, [.ref tx, .int (nI n), .int (nI (a + 1 + 1 + 1 + 1)), .ref dr])), (tx, .inl (D.1 10, 40, .inl (fun j => nI (t j)))), (dr, .inr (0, [.int (nI f0), .int (nI f1), .int (nI f2), .int (nI s_95), .int (nI f4), .int (nI f5), .int (bI f6), .int (nI f7), .int (oI f8), .int (oI f9)]))]) H locs := hH
                refine W.eq (g2 := F0 m 118 ls [.int (nI 1)]) rfl ?_
                refine vn_if_eq (tgt := 134) C.x C.b dX1_readBehindH_118 (by decide) (by omega) (fun q => absurd q (by decide)) (fun _ => ?_)
                refine lv_aload_n C.x C.b dX1_readBehindH_121 rfl (lv_at hl 0 rfl) ?_
                refine lv_bipush (v := nI 11) C.x C.b dX1_readBehindH_122 (by decide) ?_
                refine kV (As := [.int (nI 11)]) (isC := [0, 1, 2]) (isR := []) (wr := []) C hK hH (c_does l htr D H.size h0 tx dr t n (a + 1 + 1 + 1 + 1) f0 f1 f2 s_95 f4 f5 f6 f7 f8 f9 11 hn (by omega) ht) ⟨rfl, rfl, rfl, rfl, by decide⟩ 0 rfl rfl tw_378 tw_380 ts_9 tw_2 kX1_does ⟨by decide +kernel, by decide +kernel, (by decide +kernel : (parseMethodDescriptor yX1_does.desc).map (fun d => d.parameters.length) = some 1)⟩ ⟨(Nat.le_of_ble_eq_true rfl), (Nat.le_of_ble_eq_true rfl)⟩ hl.1 (Nat.le_of_ble_eq_true rfl) dX1_readBehindH_124 ⟨(Nat.le_of_ble_eq_true rfl), (Nat.le_of_ble_eq_true rfl)⟩ (fun v9 w9 H locs hN hH => ?_) (fun _ _ _ _ _ _ h => False.elim h)
                obtain ⟨rfl, rfl⟩ := hN
                have hH : Hp D A s ([(h0, .inr (1, [.ref tx, .int (nI n), .int (nI (a + 1 + 1 + 1 + 1)), .ref dr])), (tx, .inl (D.1 10, 40, .inl (fun j => nI (t j)))), (dr, .inr (0, [.int (nI f0), .int (nI f1), .int (nI 11), .int (nI s_95), .int (nI f4), .int (nI f5), .int (bI f6), .int (nI f7), .int (oI f8), .int (oI f9)]))]) H locs := hH
                refine W.eq (g2 := F0 m 127 ls [.int (nI 1)]) rfl ?_
                refine vn_if_eq (tgt := 134) C.x C.b dX1_readBehindH_127 (by decide) (by omega) (fun q => absurd q (by decide)) (fun _ => ?_)
                refine lv_iconst (v := nI 1) C.x C.b dX1_readBehindH_130 (by decide) ?_
                refine lv_goto (tgt := 144) C.x C.b dX1_readBehindH_131 (by decide) ?_
                exact rZ C hr (by decide) hH (Or.inl ⟨(a + 1 + 1 + 1 + 1, 11, some s_95), by simp only [vh, k_3, k_34, k_65, k_81, k_95, k_106, k_115, cond_true, cond_false], by omega, rfl, rfl⟩) (Nat.le_of_ble_eq_true rfl) (Nat.le_of_ble_eq_true rfl) dX1_readBehindH_144
              · have hH : Hp D A s ([(h0, .inr (1, [.ref tx, .int (nI n), .int (nI (a + 1 + 1 + 1)), .ref dr])), (tx, .inl (D.1 10, 40, .inl (fun j => nI (t j)))), (dr, .inr (0, [.int (nI f0), .int (nI f1), .int (nI f2), .int (nI s_95), .int (nI f4), .int (nI f5), .int (bI f6), .int (nI f7), .int (oI f8), .int (oI f9)]))]) H locs := hH
                refine W.eq (g2 := F0 m 118 ls [.int (nI 0)]) rfl ?_
                refine vn_if_eq (tgt := 134) C.x C.b dX1_readBehindH_118 (by decide) (by omega) (fun _ => ?_) (fun q => absurd q (by decide))
                refine lv_iconst (v := nI 0) C.x C.b dX1_readBehindH_134 (by decide) ?_
                refine lv_goto (tgt := 144) C.x C.b dX1_readBehindH_135 (by decide) ?_
                exact rZ C hr (by decide) hH (Or.inr ⟨a + 1 + 1 + 1, f2, s_95, by simp only [vh, k_3, k_34, k_65, k_81, k_95, k_106, k_115, cond_true, cond_false], by omega, rfl, rfl⟩) (Nat.le_of_ble_eq_true rfl) (Nat.le_of_ble_eq_true rfl) dX1_readBehindH_144
            · have hH : Hp D A s ([(h0, .inr (1, [.ref tx, .int (nI n), .int (nI (a + 1 + 1)), .ref dr])), (tx, .inl (D.1 10, 40, .inl (fun j => nI (t j)))), (dr, .inr (0, [.int (nI f0), .int (nI f1), .int (nI f2), .int (nI s_95), .int (nI f4), .int (nI f5), .int (bI f6), .int (nI f7), .int (oI f8), .int (oI f9)]))]) H locs := hH
              refine W.eq (g2 := F0 m 109 ls [.int (nI 0)]) rfl ?_
              refine vn_if_eq (tgt := 138) C.x C.b dX1_readBehindH_109 (by decide) (by omega) (fun _ => ?_) (fun q => absurd q (by decide))
              refine lv_aload_n C.x C.b dX1_readBehindH_138 rfl (lv_at hl 0 rfl) ?_
              refine lv_bipush (v := nI 10) C.x C.b dX1_readBehindH_139 (by decide) ?_
              refine kV (As := [.int (nI 10)]) (isC := [0, 1, 2]) (isR := []) (wr := []) C hK hH (c_does l htr D H.size h0 tx dr t n (a + 1 + 1) f0 f1 f2 s_95 f4 f5 f6 f7 f8 f9 10 hn (by omega) ht) ⟨rfl, rfl, rfl, rfl, by decide⟩ 0 rfl rfl tw_378 tw_380 ts_9 tw_2 kX1_does ⟨by decide +kernel, by decide +kernel, (by decide +kernel : (parseMethodDescriptor yX1_does.desc).map (fun d => d.parameters.length) = some 1)⟩ ⟨(Nat.le_of_ble_eq_true rfl), (Nat.le_of_ble_eq_true rfl)⟩ hl.1 (Nat.le_of_ble_eq_true rfl) dX1_readBehindH_141 ⟨(Nat.le_of_ble_eq_true rfl), (Nat.le_of_ble_eq_true rfl)⟩ (fun v9 w9 H locs hN hH => ?_) (fun _ _ _ _ _ _ h => False.elim h)
              obtain ⟨rfl, rfl⟩ := hN
              have hH : Hp D A s ([(h0, .inr (1, [.ref tx, .int (nI n), .int (nI (a + 1 + 1)), .ref dr])), (tx, .inl (D.1 10, 40, .inl (fun j => nI (t j)))), (dr, .inr (0, [.int (nI f0), .int (nI f1), .int (nI 10), .int (nI s_95), .int (nI f4), .int (nI f5), .int (bI f6), .int (nI f7), .int (oI f8), .int (oI f9)]))]) H locs := hH
              refine W.eq (g2 := F0 m 144 ls [.int (nI 1)]) rfl ?_
              exact rZ C hr (by decide) hH (Or.inl ⟨(a + 1 + 1, 10, some s_95), by simp only [vh, k_3, k_34, k_65, k_81, k_95, k_106, cond_true, cond_false], by omega, rfl, rfl⟩) (Nat.le_of_ble_eq_true rfl) (Nat.le_of_ble_eq_true rfl) dX1_readBehindH_144
          · have hH : Hp D A s ([(h0, .inr (1, [.ref tx, .int (nI n), .int (nI (a + 1)), .ref dr])), (tx, .inl (D.1 10, 40, .inl (fun j => nI (t j)))), (dr, .inr (0, [.int (nI f0), .int (nI f1), .int (nI f2), .int (nI f3), .int (nI f4), .int (nI f5), .int (bI f6), .int (nI f7), .int (oI f8), .int (oI f9)]))]) H locs := hH
            refine W.eq (g2 := F0 m 98 ls [.int (nI 0)]) rfl ?_
            refine vn_if_ne (tgt := 103) C.x C.b dX1_readBehindH_98 (by decide) (by omega) (fun q => absurd q (by decide)) (fun _ => ?_)
            refine lv_iconst (v := nI 0) C.x C.b dX1_readBehindH_101 (by decide) ?_
            exact rZ C hr (by decide) hH (Or.inr ⟨a + 1, f2, f3, by simp only [vh, k_3, k_34, k_65, k_81, k_95, cond_true, cond_false], by omega, rfl, rfl⟩) (Nat.le_of_ble_eq_true rfl) (Nat.le_of_ble_eq_true rfl) dX1_readBehindH_102
      · have hH : Hp D A s ([(h0, .inr (1, [.ref tx, .int (nI n), .int (nI a), .ref dr])), (tx, .inl (D.1 10, 40, .inl (fun j => nI (t j)))), (dr, .inr (0, [.int (nI f0), .int (nI f1), .int (nI f2), .int (nI f3), .int (nI f4), .int (nI f5), .int (bI f6), .int (nI f7), .int (oI f8), .int (oI f9)]))]) H locs := hH
        refine W.eq (g2 := F0 m 68 ls [.int (nI 0)]) rfl ?_
        refine vn_if_ne (tgt := 78) C.x C.b dX1_readBehindH_68 (by decide) (by omega) (fun q => absurd q (by decide)) (fun _ => ?_)
        refine lv_aload_n C.x C.b dX1_readBehindH_71 rfl (lv_at hl 0 rfl) ?_
        refine lv_bipush (v := nI 8) C.x C.b dX1_readBehindH_72 (by decide) ?_
        refine kV (As := [.int (nI 8)]) (isC := [0, 1, 2]) (isR := []) (wr := []) C hK hH (c_does l htr D H.size h0 tx dr t n a f0 f1 f2 f3 f4 f5 f6 f7 f8 f9 8 hn (by omega) ht) ⟨rfl, rfl, rfl, rfl, by decide⟩ 0 rfl rfl tw_378 tw_380 ts_9 tw_2 kX1_does ⟨by decide +kernel, by decide +kernel, (by decide +kernel : (parseMethodDescriptor yX1_does.desc).map (fun d => d.parameters.length) = some 1)⟩ ⟨(Nat.le_of_ble_eq_true rfl), (Nat.le_of_ble_eq_true rfl)⟩ hl.1 (Nat.le_of_ble_eq_true rfl) dX1_readBehindH_74 ⟨(Nat.le_of_ble_eq_true rfl), (Nat.le_of_ble_eq_true rfl)⟩ (fun v9 w9 H locs hN hH => ?_) (fun _ _ _ _ _ _ h => False.elim h)
        obtain ⟨rfl, rfl⟩ := hN
        have hH : Hp D A s ([(h0, .inr (1, [.ref tx, .int (nI n), .int (nI a), .ref dr])), (tx, .inl (D.1 10, 40, .inl (fun j => nI (t j)))), (dr, .inr (0, [.int (nI f0), .int (nI f1), .int (nI 8), .int (nI f3), .int (nI f4), .int (nI f5), .int (bI f6), .int (nI f7), .int (oI f8), .int (oI f9)]))]) H locs := hH
        refine W.eq (g2 := F0 m 77 ls [.int (nI 1)]) rfl ?_
        exact rZ C hr (by decide) hH (Or.inl ⟨(a, 8, none), by simp only [vh, k_3, k_34, k_65, cond_true, cond_false], by omega, rfl, rfl⟩) (Nat.le_of_ble_eq_true rfl) (Nat.le_of_ble_eq_true rfl) dX1_readBehindH_77
set_option maxHeartbeats 4000000 in
set_option maxRecDepth 100000 in
theorem c_readBehindSource (l : Launch) (htr : l.stackTraces = false) (D : va_G) (sz : Nat) (h0 tx dr : Nat) (t : Nat → Nat) (n a : Nat) (f0 f1 f2 f3 f4 f5 : Nat) (f6 : Bool) (f7 : Nat) (f8 f9 : Option Nat) (hn : n ≤ 40) (ha : a ≤ n) (ht : ∀ j, t j < 128) : Ct l yX1_readBehindSource wX1_readBehindSource { frames := 1, cells := 0, slots := 0, locals := 21 } D ([(h0, .inr (1, [.ref tx, .int (nI n), .int (nI a), .ref dr])), (tx, .inl (D.1 10, 40, .inl (fun j => nI (t j)))), (dr, .inr (0, [.int (nI f0), .int (nI f1), .int (nI f2), .int (nI f3), .int (nI f4), .int (nI f5), .int (bI f6), .int (nI f7), .int (oI f8), .int (oI f9)]))]) [.ref h0] sz (fun v w => (∃ q, vb t n a f3 = .inr q ∧ q.2.2 = some f3 ∧ q.1 ≤ n ∧ v = some (.int (nI 1)) ∧ w = [(h0, .inr (1, [.ref tx, .int (nI n), .int (nI q.1), .ref dr])), (tx, .inl (D.1 10, 40, .inl (fun j => nI (t j)))), (dr, .inr (0, [.int (nI f0), .int (nI f1), .int (nI q.2.1), .int (nI f3), .int (nI f4), .int (nI f5), .int (bI f6), .int (nI f7), .int (oI f8), .int (oI f9)]))]) ∨ (∃ a9 g2 g3, vb t n a f3 = .inl a9 ∧ a9 ≤ n ∧ v = some (.int (nI 0)) ∧ w = [(h0, .inr (1, [.ref tx, .int (nI n), .int (nI a9), .ref dr])), (tx, .inl (D.1 10, 40, .inl (fun j => nI (t j)))), (dr, .inr (0, [.int (nI f0), .int (nI f1), .int (nI g2), .int (nI g3), .int (nI f4), .int (nI f5), .int (bI f6), .int (nI f7), .int (oI f8), .int (oI f9)]))])) (nox) := by
  refine Ct.of (cc := cX1_readBehindSource) (nL := 1) (ret := (some .boolean)) (own := RX1) htr (by decide) rfl (Nat.le_of_ble_eq_true rfl) ?_
  intro p e s m args below meth c A C hr hK H locs hH ls hl
  have hl : lv_has ls 1 [(0, .ref h0)] := hl
  refine lv_aload_n C.x C.b dX1_readBehindSource_0 rfl (lv_at hl 0 rfl) ?_
  refine lv_bipush (v := nI 43) C.x C.b dX1_readBehindSource_1 (by decide) ?_
  refine kV (As := [.int (nI 43)]) (isC := [0, 1, 2]) (isR := []) (wr := []) C hK hH (c_take l htr D H.size h0 tx dr t n a f0 f1 f2 f3 f4 f5 f6 f7 f8 f9 43 hn (by omega) ht (by omega)) ⟨rfl, rfl, rfl, rfl, by decide⟩ 0 rfl rfl tw_370 tw_372 ts_7 tw_2 kX1_take ⟨by decide +kernel, by decide +kernel, (by decide +kernel : (parseMethodDescriptor yX1_take.desc).map (fun d => d.parameters.length) = some 1)⟩ ⟨(Nat.le_of_ble_eq_true rfl), (Nat.le_of_ble_eq_true rfl)⟩ hl.1 (Nat.le_of_ble_eq_true rfl) dX1_readBehindSource_3 ⟨(Nat.le_of_ble_eq_true rfl), (Nat.le_of_ble_eq_true rfl)⟩ (fun v9 w9 H locs hN hH => ?_) (fun _ _ _ _ _ _ h => False.elim h)
  rcases hN with ⟨k_3, kl_3, rfl, rfl⟩ | ⟨k_3, rfl, rfl⟩
  · have hH : Hp D A s ([(h0, .inr (1, [.ref tx, .int (nI n), .int (nI (a + 1)), .ref dr])), (tx, .inl (D.1 10, 40, .inl (fun j => nI (t j)))), (dr, .inr (0, [.int (nI f0), .int (nI f1), .int (nI f2), .int (nI f3), .int (nI f4), .int (nI f5), .int (bI f6), .int (nI f7), .int (oI f8), .int (oI f9)]))]) H locs := hH
    refine W.eq (g2 := F0 m 6 ls [.int (nI 1)]) rfl ?_
    refine vn_if_eq (tgt := 32) C.x C.b dX1_readBehindSource_6 (by decide) (by omega) (fun q => absurd q (by decide)) (fun _ => ?_)
    refine lv_aload_n C.x C.b dX1_readBehindSource_9 rfl (lv_at hl 0 rfl) ?_
    refine lv_bipush (v := nI 49) C.x C.b dX1_readBehindSource_10 (by decide) ?_
    refine kV (As := [.int (nI 49)]) (isC := [0, 1, 2]) (isR := []) (wr := []) C hK hH (c_take l htr D H.size h0 tx dr t n (a + 1) f0 f1 f2 f3 f4 f5 f6 f7 f8 f9 49 hn (by omega) ht (by omega)) ⟨rfl, rfl, rfl, rfl, by decide⟩ 0 rfl rfl tw_370 tw_372 ts_7 tw_2 kX1_take ⟨by decide +kernel, by decide +kernel, (by decide +kernel : (parseMethodDescriptor yX1_take.desc).map (fun d => d.parameters.length) = some 1)⟩ ⟨(Nat.le_of_ble_eq_true rfl), (Nat.le_of_ble_eq_true rfl)⟩ hl.1 (Nat.le_of_ble_eq_true rfl) dX1_readBehindSource_12 ⟨(Nat.le_of_ble_eq_true rfl), (Nat.le_of_ble_eq_true rfl)⟩ (fun v9 w9 H locs hN hH => ?_) (fun _ _ _ _ _ _ h => False.elim h)
    rcases hN with ⟨k_12, kl_12, rfl, rfl⟩ | ⟨k_12, rfl, rfl⟩
    · have hH : Hp D A s ([(h0, .inr (1, [.ref tx, .int (nI n), .int (nI (a + 1 + 1)), .ref dr])), (tx, .inl (D.1 10, 40, .inl (fun j => nI (t j)))), (dr, .inr (0, [.int (nI f0), .int (nI f1), .int (nI f2), .int (nI f3), .int (nI f4), .int (nI f5), .int (bI f6), .int (nI f7), .int (oI f8), .int (oI f9)]))]) H locs := hH
      refine W.eq (g2 := F0 m 15 ls [.int (nI 1)]) rfl ?_
      refine vn_if_eq (tgt := 30) C.x C.b dX1_readBehindSource_15 (by decide) (by omega) (fun q => absurd q (by decide)) (fun _ => ?_)
      refine lv_aload_n C.x C.b dX1_readBehindSource_18 rfl (lv_at hl 0 rfl) ?_
      refine lv_iconst (v := nI 4) C.x C.b dX1_readBehindSource_19 (by decide) ?_
      refine kV (As := [.int (nI 4)]) (isC := [0, 1, 2]) (isR := []) (wr := []) C hK hH (c_does l htr D H.size h0 tx dr t n (a + 1 + 1) f0 f1 f2 f3 f4 f5 f6 f7 f8 f9 4 hn (by omega) ht) ⟨rfl, rfl, rfl, rfl, by decide⟩ 0 rfl rfl tw_378 tw_380 ts_9 tw_2 kX1_does ⟨by decide +kernel, by decide +kernel, (by decide +kernel : (parseMethodDescriptor yX1_does.desc).map (fun d => d.parameters.length) = some 1)⟩ ⟨(Nat.le_of_ble_eq_true rfl), (Nat.le_of_ble_eq_true rfl)⟩ hl.1 (Nat.le_of_ble_eq_true rfl) dX1_readBehindSource_20 ⟨(Nat.le_of_ble_eq_true rfl), (Nat.le_of_ble_eq_true rfl)⟩ (fun v9 w9 H locs hN hH => ?_) (fun _ _ _ _ _ _ h => False.elim h)
      obtain ⟨rfl, rfl⟩ := hN
      have hH : Hp D A s ([(h0, .inr (1, [.ref tx, .int (nI n), .int (nI (a + 1 + 1)), .ref dr])), (tx, .inl (D.1 10, 40, .inl (fun j => nI (t j)))), (dr, .inr (0, [.int (nI f0), .int (nI f1), .int (nI 4), .int (nI f3), .int (nI f4), .int (nI f5), .int (bI f6), .int (nI f7), .int (oI f8), .int (oI f9)]))]) H locs := hH
      refine W.eq (g2 := F0 m 23 ls [.int (nI 1)]) rfl ?_
      refine vn_if_eq (tgt := 30) C.x C.b dX1_readBehindSource_23 (by decide) (by omega) (fun q => absurd q (by decide)) (fun _ => ?_)
      refine lv_iconst (v := nI 1) C.x C.b dX1_readBehindSource_26 (by decide) ?_
      refine lv_goto (tgt := 31) C.x C.b dX1_readBehindSource_27 (by decide) ?_
      exact rZ C hr (by decide) hH (Or.inl ⟨(a + 1 + 1, 4, some f3), by simp only [vb, k_3, k_12, cond_true, cond_false], rfl, by omega, rfl, rfl⟩) (Nat.le_of_ble_eq_true rfl) (Nat.le_of_ble_eq_true rfl) dX1_readBehindSource_31
    · have hH : Hp D A s ([(h0, .inr (1, [.ref tx, .int (nI n), .int (nI (a + 1)), .ref dr])), (tx, .inl (D.1 10, 40, .inl (fun j => nI (t j)))), (dr, .inr (0, [.int (nI f0), .int (nI f1), .int (nI f2), .int (nI f3), .int (nI f4), .int (nI f5), .int (bI f6), .int (nI f7), .int (oI f8), .int (oI f9)]))]) H locs := hH
      refine W.eq (g2 := F0 m 15 ls [.int (nI 0)]) rfl ?_
      refine vn_if_eq (tgt := 30) C.x C.b dX1_readBehindSource_15 (by decide) (by omega) (fun _ => ?_) (fun q => absurd q (by decide))
      refine lv_iconst (v := nI 0) C.x C.b dX1_readBehindSource_30 (by decide) ?_
      exact rZ C hr (by decide) hH (Or.inr ⟨a + 1, f2, f3, by simp only [vb, k_3, k_12, cond_true, cond_false], by omega, rfl, rfl⟩) (Nat.le_of_ble_eq_true rfl) (Nat.le_of_ble_eq_true rfl) dX1_readBehindSource_31
  · have hH : Hp D A s ([(h0, .inr (1, [.ref tx, .int (nI n), .int (nI a), .ref dr])), (tx, .inl (D.1 10, 40, .inl (fun j => nI (t j)))), (dr, .inr (0, [.int (nI f0), .int (nI f1), .int (nI f2), .int (nI f3), .int (nI f4), .int (nI f5), .int (bI f6), .int (nI f7), .int (oI f8), .int (oI f9)]))]) H locs := hH
    refine W.eq (g2 := F0 m 6 ls [.int (nI 0)]) rfl ?_
    refine vn_if_eq (tgt := 32) C.x C.b dX1_readBehindSource_6 (by decide) (by omega) (fun _ => ?_) (fun q => absurd q (by decide))
    refine lv_aload_n C.x C.b dX1_readBehindSource_32 rfl (lv_at hl 0 rfl) ?_
    refine lv_bipush (v := nI 45) C.x C.b dX1_readBehindSource_33 (by decide) ?_
    refine kV (As := [.int (nI 45)]) (isC := [0, 1, 2]) (isR := []) (wr := []) C hK hH (c_take l htr D H.size h0 tx dr t n a f0 f1 f2 f3 f4 f5 f6 f7 f8 f9 45 hn (by omega) ht (by omega)) ⟨rfl, rfl, rfl, rfl, by decide⟩ 0 rfl rfl tw_370 tw_372 ts_7 tw_2 kX1_take ⟨by decide +kernel, by decide +kernel, (by decide +kernel : (parseMethodDescriptor yX1_take.desc).map (fun d => d.parameters.length) = some 1)⟩ ⟨(Nat.le_of_ble_eq_true rfl), (Nat.le_of_ble_eq_true rfl)⟩ hl.1 (Nat.le_of_ble_eq_true rfl) dX1_readBehindSource_35 ⟨(Nat.le_of_ble_eq_true rfl), (Nat.le_of_ble_eq_true rfl)⟩ (fun v9 w9 H locs hN hH => ?_) (fun _ _ _ _ _ _ h => False.elim h)
    rcases hN with ⟨k_35, kl_35, rfl, rfl⟩ | ⟨k_35, rfl, rfl⟩
    · have hH : Hp D A s ([(h0, .inr (1, [.ref tx, .int (nI n), .int (nI (a + 1)), .ref dr])), (tx, .inl (D.1 10, 40, .inl (fun j => nI (t j)))), (dr, .inr (0, [.int (nI f0), .int (nI f1), .int (nI f2), .int (nI f3), .int (nI f4), .int (nI f5), .int (bI f6), .int (nI f7), .int (oI f8), .int (oI f9)]))]) H locs := hH
      refine W.eq (g2 := F0 m 38 ls [.int (nI 1)]) rfl ?_
      refine vn_if_eq (tgt := 82) C.x C.b dX1_readBehindSource_38 (by decide) (by omega) (fun q => absurd q (by decide)) (fun _ => ?_)
      refine lv_aload_n C.x C.b dX1_readBehindSource_41 rfl (lv_at hl 0 rfl) ?_
      refine lv_bipush (v := nI 49) C.x C.b dX1_readBehindSource_42 (by decide) ?_
      refine kV (As := [.int (nI 49)]) (isC := [0, 1, 2]) (isR := []) (wr := []) C hK hH (c_take l htr D H.size h0 tx dr t n (a + 1) f0 f1 f2 f3 f4 f5 f6 f7 f8 f9 49 hn (by omega) ht (by omega)) ⟨rfl, rfl, rfl, rfl, by decide⟩ 0 rfl rfl tw_370 tw_372 ts_7 tw_2 kX1_take ⟨by decide +kernel, by decide +kernel, (by decide +kernel : (parseMethodDescriptor yX1_take.desc).map (fun d => d.parameters.length) = some 1)⟩ ⟨(Nat.le_of_ble_eq_true rfl), (Nat.le_of_ble_eq_true rfl)⟩ hl.1 (Nat.le_of_ble_eq_true rfl) dX1_readBehindSource_44 ⟨(Nat.le_of_ble_eq_true rfl), (Nat.le_of_ble_eq_true rfl)⟩ (fun v9 w9 H locs hN hH => ?_) (fun _ _ _ _ _ _ h => False.elim h)
      rcases hN with ⟨k_44, kl_44, rfl, rfl⟩ | ⟨k_44, rfl, rfl⟩
      · have hH : Hp D A s ([(h0, .inr (1, [.ref tx, .int (nI n), .int (nI (a + 1 + 1)), .ref dr])), (tx, .inl (D.1 10, 40, .inl (fun j => nI (t j)))), (dr, .inr (0, [.int (nI f0), .int (nI f1), .int (nI f2), .int (nI f3), .int (nI f4), .int (nI f5), .int (bI f6), .int (nI f7), .int (oI f8), .int (oI f9)]))]) H locs := hH
        refine W.eq (g2 := F0 m 47 ls [.int (nI 1)]) rfl ?_
        refine vn_if_eq (tgt := 58) C.x C.b dX1_readBehindSource_47 (by decide) (by omega) (fun q => absurd q (by decide)) (fun _ => ?_)
        refine lv_aload_n C.x C.b dX1_readBehindSource_50 rfl (lv_at hl 0 rfl) ?_
        refine lv_iconst (v := nI 5) C.x C.b dX1_readBehindSource_51 (by decide) ?_
        refine kV (As := [.int (nI 5)]) (isC := [0, 1, 2]) (isR := []) (wr := []) C hK hH (c_does l htr D H.size h0 tx dr t n (a + 1 + 1) f0 f1 f2 f3 f4 f5 f6 f7 f8 f9 5 hn (by omega) ht) ⟨rfl, rfl, rfl, rfl, by decide⟩ 0 rfl rfl tw_378 tw_380 ts_9 tw_2 kX1_does ⟨by decide +kernel, by decide +kernel, (by decide +kernel : (parseMethodDescriptor yX1_does.desc).map (fun d => d.parameters.length) = some 1)⟩ ⟨(Nat.le_of_ble_eq_true rfl), (Nat.le_of_ble_eq_true rfl)⟩ hl.1 (Nat.le_of_ble_eq_true rfl) dX1_readBehindSource_52 ⟨(Nat.le_of_ble_eq_true rfl), (Nat.le_of_ble_eq_true rfl)⟩ (fun v9 w9 H locs hN hH => ?_) (fun _ _ _ _ _ _ h => False.elim h)
        obtain ⟨rfl, rfl⟩ := hN
        have hH : Hp D A s ([(h0, .inr (1, [.ref tx, .int (nI n), .int (nI (a + 1 + 1)), .ref dr])), (tx, .inl (D.1 10, 40, .inl (fun j => nI (t j)))), (dr, .inr (0, [.int (nI f0), .int (nI f1), .int (nI 5), .int (nI f3), .int (nI f4), .int (nI f5), .int (bI f6), .int (nI f7), .int (oI f8), .int (oI f9)]))]) H locs := hH
        refine W.eq (g2 := F0 m 55 ls [.int (nI 1)]) rfl ?_
        refine lv_goto (tgt := 81) C.x C.b dX1_readBehindSource_55 (by decide) ?_
        exact rZ C hr (by decide) hH (Or.inl ⟨(a + 1 + 1, 5, some f3), by simp only [vb, k_3, k_35, k_44, cond_true, cond_false], rfl, by omega, rfl, rfl⟩) (Nat.le_of_ble_eq_true rfl) (Nat.le_of_ble_eq_true rfl) dX1_readBehindSource_81
      · have hH : Hp D A s ([(h0, .inr (1, [.ref tx, .int (nI n), .int (nI (a + 1)), .ref dr])), (tx, .inl (D.1 10, 40, .inl (fun j => nI (t j)))), (dr, .inr (0, [.int (nI f0), .int (nI f1), .int (nI f2), .int (nI f3), .int (nI f4), .int (nI f5), .int (bI f6), .int (nI f7), .int (oI f8), .int (oI f9)]))]) H locs := hH
        refine W.eq (g2 := F0 m 47 ls [.int (nI 0)]) rfl ?_
        refine vn_if_eq (tgt := 58) C.x C.b dX1_readBehindSource_47 (by decide) (by omega) (fun _ => ?_) (fun q => absurd q (by decide))
        refine lv_aload_n C.x C.b dX1_readBehindSource_58 rfl (lv_at hl 0 rfl) ?_
        refine lv_bipush (v := nI 72) C.x C.b dX1_readBehindSource_59 (by decide) ?_
        refine kV (As := [.int (nI 72)]) (isC := [0, 1, 2]) (isR := []) (wr := []) C hK hH (c_take l htr D H.size h0 tx dr t n (a + 1) f0 f1 f2 f3 f4 f5 f6 f7 f8 f9 72 hn (by omega) ht (by omega)) ⟨rfl, rfl, rfl, rfl, by decide⟩ 0 rfl rfl tw_370 tw_372 ts_7 tw_2 kX1_take ⟨by decide +kernel, by decide +kernel, (by decide +kernel : (parseMethodDescriptor yX1_take.desc).map (fun d => d.parameters.length) = some 1)⟩ ⟨(Nat.le_of_ble_eq_true rfl), (Nat.le_of_ble_eq_true rfl)⟩ hl.1 (Nat.le_of_ble_eq_true rfl) dX1_readBehindSource_61 ⟨(Nat.le_of_ble_eq_true rfl), (Nat.le_of_ble_eq_true rfl)⟩ (fun v9 w9 H locs hN hH => ?_) (fun _ _ _ _ _ _ h => False.elim h)
        rcases hN with ⟨k_61, kl_61, rfl, rfl⟩ | ⟨k_61, rfl, rfl⟩
        · have hH : Hp D A s ([(h0, .inr (1, [.ref tx, .int (nI n), .int (nI (a + 1 + 1)), .ref dr])), (tx, .inl (D.1 10, 40, .inl (fun j => nI (t j)))), (dr, .inr (0, [.int (nI f0), .int (nI f1), .int (nI f2), .int (nI f3), .int (nI f4), .int (nI f5), .int (bI f6), .int (nI f7), .int (oI f8), .int (oI f9)]))]) H locs := hH
          refine W.eq (g2 := F0 m 64 ls [.int (nI 1)]) rfl ?_
          refine vn_if_eq (tgt := 80) C.x C.b dX1_readBehindSource_64 (by decide) (by omega) (fun q => absurd q (by decide)) (fun _ => ?_)
          refine lv_aload_n C.x C.b dX1_readBehindSource_67 rfl (lv_at hl 0 rfl) ?_
          refine lv_bipush (v := nI 6) C.x C.b dX1_readBehindSource_68 (by decide) ?_
          refine kV (As := [.int (nI 6)]) (isC := [0, 1, 2]) (isR := []) (wr := []) C hK hH (c_does l htr D H.size h0 tx dr t n (a + 1 + 1) f0 f1 f2 f3 f4 f5 f6 f7 f8 f9 6 hn (by omega) ht) ⟨rfl, rfl, rfl, rfl, by decide⟩ 0 rfl rfl tw_378 tw_380 ts_9 tw_2 kX1_does ⟨by decide +kernel, by decide +kernel, (by decide +kernel : (parseMethodDescriptor yX1_does.desc).map (fun d => d.parameters.length) = some 1)⟩ ⟨(Nat.le_of_ble_eq_true rfl), (Nat.le_of_ble_eq_true rfl)⟩ hl.1 (Nat.le_of_ble_eq_true rfl) dX1_readBehindSource_70 ⟨(Nat.le_of_ble_eq_true rfl), (Nat.le_of_ble_eq_true rfl)⟩ (fun v9 w9 H locs hN hH => ?_) (fun _ _ _ _ _ _ h => False.elim h)
          obtain ⟨rfl, rfl⟩ := hN
          have hH : Hp D A s ([(h0, .inr (1, [.ref tx, .int (nI n), .int (nI (a + 1 + 1)), .ref dr])), (tx, .inl (D.1 10, 40, .inl (fun j => nI (t j)))), (dr, .inr (0, [.int (nI f0), .int (nI f1), .int (nI 6), .int (nI f3), .int (nI f4), .int (nI f5), .int (bI f6), .int (nI f7), .int (oI f8), .int (oI f9)]))]) H locs := hH
          refine W.eq (g2 := F0 m 73 ls [.int (nI 1)]) rfl ?_
          refine vn_if_eq (tgt := 80) C.x C.b dX1_readBehindSource_73 (by decide) (by omega) (fun q => absurd q (by decide)) (fun _ => ?_)
          refine lv_iconst (v := nI 1) C.x C.b dX1_readBehindSource_76 (by decide) ?_
          refine lv_goto (tgt := 81) C.x C.b dX1_readBehindSource_77 (by decide) ?_
          exact rZ C hr (by decide) hH (Or.inl ⟨(a + 1 + 1, 6, some f3), by simp only [vb, k_3, k_35, k_44, k_61, cond_true, cond_false], rfl, by omega, rfl, rfl⟩) (Nat.le_of_ble_eq_true rfl) (Nat.le_of_ble_eq_true rfl) dX1_readBehindSource_81
        · have hH : Hp D A s ([(h0, .inr (1, [.ref tx, .int (nI n), .int (nI (a + 1)), .ref dr])), (tx, .inl (D.1 10, 40, .inl (fun j => nI (t j)))), (dr, .inr (0, [.int (nI f0), .int (nI f1), .int (nI f2), .int (nI f3), .int (nI f4), .int (nI f5), .int (bI f6), .int (nI f7), .int (oI f8), .int (oI f9)]))]) H locs := hH
          refine W.eq (g2 := F0 m 64 ls [.int (nI 0)]) rfl ?_
          refine vn_if_eq (tgt := 80) C.x C.b dX1_readBehindSource_64 (by decide) (by omega) (fun _ => ?_) (fun q => absurd q (by decide))
          refine lv_iconst (v := nI 0) C.x C.b dX1_readBehindSource_80 (by decide) ?_
          exact rZ C hr (by decide) hH (Or.inr ⟨a + 1, f2, f3, by simp only [vb, k_3, k_35, k_44, k_61, cond_true, cond_false], by omega, rfl, rfl⟩) (Nat.le_of_ble_eq_true rfl) (Nat.le_of_ble_eq_true rfl) dX1_readBehindSource_81
    · have hH : Hp D A s ([(h0, .inr (1, [.ref tx, .int (nI n), .int (nI a), .ref dr])), (tx, .inl (D.1 10, 40, .inl (fun j => nI (t j)))), (dr, .inr (0, [.int (nI f0), .int (nI f1), .int (nI f2), .int (nI f3), .int (nI f4), .int (nI f5), .int (bI f6), .int (nI f7), .int (oI f8), .int (oI f9)]))]) H locs := hH
      refine W.eq (g2 := F0 m 38 ls [.int (nI 0)]) rfl ?_
      refine vn_if_eq (tgt := 82) C.x C.b dX1_readBehindSource_38 (by decide) (by omega) (fun _ => ?_) (fun q => absurd q (by decide))
      refine lv_aload_n C.x C.b dX1_readBehindSource_82 rfl (lv_at hl 0 rfl) ?_
      refine lv_iconst (v := nI 3) C.x C.b dX1_readBehindSource_83 (by decide) ?_
      refine kV (As := [.int (nI 3)]) (isC := [0, 1, 2]) (isR := []) (wr := []) C hK hH (c_does l htr D H.size h0 tx dr t n a f0 f1 f2 f3 f4 f5 f6 f7 f8 f9 3 hn (by omega) ht) ⟨rfl, rfl, rfl, rfl, by decide⟩ 0 rfl rfl tw_378 tw_380 ts_9 tw_2 kX1_does ⟨by decide +kernel, by decide +kernel, (by decide +kernel : (parseMethodDescriptor yX1_does.desc).map (fun d => d.parameters.length) = some 1)⟩ ⟨(Nat.le_of_ble_eq_true rfl), (Nat.le_of_ble_eq_true rfl)⟩ hl.1 (Nat.le_of_ble_eq_true rfl) dX1_readBehindSource_84 ⟨(Nat.le_of_ble_eq_true rfl), (Nat.le_of_ble_eq_true rfl)⟩ (fun v9 w9 H locs hN hH => ?_) (fun _ _ _ _ _ _ h => False.elim h)
      obtain ⟨rfl, rfl⟩ := hN
      have hH : Hp D A s ([(h0, .inr (1, [.ref tx, .int (nI n), .int (nI a), .ref dr])), (tx, .inl (D.1 10, 40, .inl (fun j => nI (t j)))), (dr, .inr (0, [.int (nI f0), .int (nI f1), .int (nI 3), .int (nI f3), .int (nI f4), .int (nI f5), .int (bI f6), .int (nI f7), .int (oI f8), .int (oI f9)]))]) H locs := hH
      refine W.eq (g2 := F0 m 87 ls [.int (nI 1)]) rfl ?_
      exact rZ C hr (by decide) hH (Or.inl ⟨(a, 3, some f3), by simp only [vb, k_3, k_35, cond_true, cond_false], rfl, by omega, rfl, rfl⟩) (Nat.le_of_ble_eq_true rfl) (Nat.le_of_ble_eq_true rfl) dX1_readBehindSource_87
set_option maxHeartbeats 4000000 in
set_option maxRecDepth 100000 in
theorem c_readValue (l : Launch) (htr : l.stackTraces = false) (D : va_G) (sz : Nat) (h0 tx dr : Nat) (t : Nat → Nat) (n a : Nat) (f0 f1 f2 f3 f4 f5 : Nat) (f6 : Bool) (f7 : Nat) (f8 f9 : Option Nat) (hn : n ≤ 40) (ha : a ≤ n) (ht : ∀ j, t j < 128) : Ct l yX1_readValue wX1_readValue { frames := 6, cells := 0, slots := 0, locals := 132 } D ([(h0, .inr (1, [.ref tx, .int (nI n), .int (nI a), .ref dr])), (tx, .inl (D.1 10, 40, .inl (fun j => nI (t j)))), (dr, .inr (0, [.int (nI f0), .int (nI f1), .int (nI f2), .int (nI f3), .int (nI f4), .int (nI f5), .int (bI f6), .int (nI f7), .int (oI f8), .int (oI f9)]))]) [.ref h0] sz (fun v w => (∃ q, vl t n a = .inr q ∧ q.1 ≤ n ∧ v = some (.int (nI 1)) ∧ w = [(h0, .inr (1, [.ref tx, .int (nI n), .int (nI q.1), .ref dr])), (tx, .inl (D.1 10, 40, .inl (fun j => nI (t j)))), (dr, .inr (0, [.int (nI f0), .int (nI f1), .int (nI q.2.1), .int (nI (q.2.2.getD f3)), .int (nI f4), .int (nI f5), .int (bI f6), .int (nI f7), .int (oI f8), .int (oI f9)]))]) ∨ (∃ a9 g2 g3, vl t n a = .inl a9 ∧ a9 ≤ n ∧ v = some (.int (nI 0)) ∧ w = [(h0, .inr (1, [.ref tx, .int (nI n), .int (nI a9), .ref dr])), (tx, .inl (D.1 10, 40, .inl (fun j => nI (t j)))), (dr, .inr (0, [.int (nI f0), .int (nI f1), .int (nI g2), .int (nI g3), .int (nI f4), .int (nI f5), .int (bI f6), .int (nI f7), .int (oI f8), .int (oI f9)]))])) (nox) := by
  refine Ct.of (cc := cX1_readValue) (nL := 1) (ret := (some .boolean)) (own := RX1) htr (by decide) rfl (Nat.le_of_ble_eq_true rfl) ?_
  intro p e s m args below meth c A C hr hK H locs hH ls hl
  have hl : lv_has ls 1 [(0, .ref h0)] := hl
  refine lv_aload_n C.x C.b dX1_readValue_0 rfl (lv_at hl 0 rfl) ?_
  refine lv_bipush (v := nI 48) C.x C.b dX1_readValue_1 (by decide) ?_
  refine kV (As := [.int (nI 48)]) (isC := [0, 1, 2]) (isR := []) (wr := []) C hK hH (c_take l htr D H.size h0 tx dr t n a f0 f1 f2 f3 f4 f5 f6 f7 f8 f9 48 hn (by omega) ht (by omega)) ⟨rfl, rfl, rfl, rfl, by decide⟩ 0 rfl rfl tw_370 tw_372 ts_7 tw_2 kX1_take ⟨by decide +kernel, by decide +kernel, (by decide +kernel : (parseMethodDescriptor yX1_take.desc).map (fun d => d.parameters.length) = some 1)⟩ ⟨(Nat.le_of_ble_eq_true rfl), (Nat.le_of_ble_eq_true rfl)⟩ hl.1 (Nat.le_of_ble_eq_true rfl) dX1_readValue_3 ⟨(Nat.le_of_ble_eq_true rfl), (Nat.le_of_ble_eq_true rfl)⟩ (fun v9 w9 H locs hN hH => ?_) (fun _ _ _ _ _ _ h => False.elim h)
  rcases hN with ⟨k_3, kl_3, rfl, rfl⟩ | ⟨k_3, rfl, rfl⟩
  · have hH : Hp D A s ([(h0, .inr (1, [.ref tx, .int (nI n), .int (nI (a + 1)), .ref dr])), (tx, .inl (D.1 10, 40, .inl (fun j => nI (t j)))), (dr, .inr (0, [.int (nI f0), .int (nI f1), .int (nI f2), .int (nI f3), .int (nI f4), .int (nI f5), .int (bI f6), .int (nI f7), .int (oI f8), .int (oI f9)]))]) H locs := hH
    refine W.eq (g2 := F0 m 6 ls [.int (nI 1)]) rfl ?_
    refine vn_if_eq (tgt := 15) C.x C.b dX1_readValue_6 (by decide) (by omega) (fun q => absurd q (by decide)) (fun _ => ?_)
    refine lv_aload_n C.x C.b dX1_readValue_9 rfl (lv_at hl 0 rfl) ?_
    refine lv_iconst (v := nI 0) C.x C.b dX1_readValue_10 (by decide) ?_
    refine kV (As := [.int (nI 0)]) (isC := [0, 1, 2]) (isR := []) (wr := []) C hK hH (c_does l htr D H.size h0 tx dr t n (a + 1) f0 f1 f2 f3 f4 f5 f6 f7 f8 f9 0 hn (by omega) ht) ⟨rfl, rfl, rfl, rfl, by decide⟩ 0 rfl rfl tw_378 tw_380 ts_9 tw_2 kX1_does ⟨by decide +kernel, by decide +kernel, (by decide +kernel : (parseMethodDescriptor yX1_does.desc).map (fun d => d.parameters.length) = some 1)⟩ ⟨(Nat.le_of_ble_eq_true rfl), (Nat.le_of_ble_eq_true rfl)⟩ hl.1 (Nat.le_of_ble_eq_true rfl) dX1_readValue_11 ⟨(Nat.le_of_ble_eq_true rfl), (Nat.le_of_ble_eq_true rfl)⟩ (fun v9 w9 H locs hN hH => ?_) (fun _ _ _ _ _ _ h => False.elim h)
    obtain ⟨rfl, rfl⟩ := hN
    have hH : Hp D A s ([(h0, .inr (1, [.ref tx, .int (nI n), .int (nI (a + 1)), .ref dr])), (tx, .inl (D.1 10, 40, .inl (fun j => nI (t j)))), (dr, .inr (0, [.int (nI f0), .int (nI f1), .int (nI 0), .int (nI f3), .int (nI f4), .int (nI f5), .int (bI f6), .int (nI f7), .int (oI f8), .int (oI f9)]))]) H locs := hH
    refine W.eq (g2 := F0 m 14 ls [.int (nI 1)]) rfl ?_
    exact rZ C hr (by decide) hH (Or.inl ⟨(a + 1, 0, none), by simp only [vl, k_3, cond_true, cond_false], by omega, rfl, rfl⟩) (Nat.le_of_ble_eq_true rfl) (Nat.le_of_ble_eq_true rfl) dX1_readValue_14
  · have hH : Hp D A s ([(h0, .inr (1, [.ref tx, .int (nI n), .int (nI a), .ref dr])), (tx, .inl (D.1 10, 40, .inl (fun j => nI (t j)))), (dr, .inr (0, [.int (nI f0), .int (nI f1), .int (nI f2), .int (nI f3), .int (nI f4), .int (nI f5), .int (bI f6), .int (nI f7), .int (oI f8), .int (oI f9)]))]) H locs := hH
    refine W.eq (g2 := F0 m 6 ls [.int (nI 0)]) rfl ?_
    refine vn_if_eq (tgt := 15) C.x C.b dX1_readValue_6 (by decide) (by omega) (fun _ => ?_) (fun q => absurd q (by decide))
    refine lv_aload_n C.x C.b dX1_readValue_15 rfl (lv_at hl 0 rfl) ?_
    refine lv_bipush (v := nI 49) C.x C.b dX1_readValue_16 (by decide) ?_
    refine kV (As := [.int (nI 49)]) (isC := [0, 1, 2]) (isR := []) (wr := []) C hK hH (c_take l htr D H.size h0 tx dr t n a f0 f1 f2 f3 f4 f5 f6 f7 f8 f9 49 hn (by omega) ht (by omega)) ⟨rfl, rfl, rfl, rfl, by decide⟩ 0 rfl rfl tw_370 tw_372 ts_7 tw_2 kX1_take ⟨by decide +kernel, by decide +kernel, (by decide +kernel : (parseMethodDescriptor yX1_take.desc).map (fun d => d.parameters.length) = some 1)⟩ ⟨(Nat.le_of_ble_eq_true rfl), (Nat.le_of_ble_eq_true rfl)⟩ hl.1 (Nat.le_of_ble_eq_true rfl) dX1_readValue_18 ⟨(Nat.le_of_ble_eq_true rfl), (Nat.le_of_ble_eq_true rfl)⟩ (fun v9 w9 H locs hN hH => ?_) (fun _ _ _ _ _ _ h => False.elim h)
    rcases hN with ⟨k_18, kl_18, rfl, rfl⟩ | ⟨k_18, rfl, rfl⟩
    · have hH : Hp D A s ([(h0, .inr (1, [.ref tx, .int (nI n), .int (nI (a + 1)), .ref dr])), (tx, .inl (D.1 10, 40, .inl (fun j => nI (t j)))), (dr, .inr (0, [.int (nI f0), .int (nI f1), .int (nI f2), .int (nI f3), .int (nI f4), .int (nI f5), .int (bI f6), .int (nI f7), .int (oI f8), .int (oI f9)]))]) H locs := hH
      refine W.eq (g2 := F0 m 21 ls [.int (nI 1)]) rfl ?_
      refine vn_if_eq (tgt := 30) C.x C.b dX1_readValue_21 (by decide) (by omega) (fun q => absurd q (by decide)) (fun _ => ?_)
      refine lv_aload_n C.x C.b dX1_readValue_24 rfl (lv_at hl 0 rfl) ?_
      refine lv_iconst (v := nI 1) C.x C.b dX1_readValue_25 (by decide) ?_
      refine kV (As := [.int (nI 1)]) (isC := [0, 1, 2]) (isR := []) (wr := []) C hK hH (c_does l htr D H.size h0 tx dr t n (a + 1) f0 f1 f2 f3 f4 f5 f6 f7 f8 f9 1 hn (by omega) ht) ⟨rfl, rfl, rfl, rfl, by decide⟩ 0 rfl rfl tw_378 tw_380 ts_9 tw_2 kX1_does ⟨by decide +kernel, by decide +kernel, (by decide +kernel : (parseMethodDescriptor yX1_does.desc).map (fun d => d.parameters.length) = some 1)⟩ ⟨(Nat.le_of_ble_eq_true rfl), (Nat.le_of_ble_eq_true rfl)⟩ hl.1 (Nat.le_of_ble_eq_true rfl) dX1_readValue_26 ⟨(Nat.le_of_ble_eq_true rfl), (Nat.le_of_ble_eq_true rfl)⟩ (fun v9 w9 H locs hN hH => ?_) (fun _ _ _ _ _ _ h => False.elim h)
      obtain ⟨rfl, rfl⟩ := hN
      have hH : Hp D A s ([(h0, .inr (1, [.ref tx, .int (nI n), .int (nI (a + 1)), .ref dr])), (tx, .inl (D.1 10, 40, .inl (fun j => nI (t j)))), (dr, .inr (0, [.int (nI f0), .int (nI f1), .int (nI 1), .int (nI f3), .int (nI f4), .int (nI f5), .int (bI f6), .int (nI f7), .int (oI f8), .int (oI f9)]))]) H locs := hH
      refine W.eq (g2 := F0 m 29 ls [.int (nI 1)]) rfl ?_
      exact rZ C hr (by decide) hH (Or.inl ⟨(a + 1, 1, none), by simp only [vl, k_3, k_18, cond_true, cond_false], by omega, rfl, rfl⟩) (Nat.le_of_ble_eq_true rfl) (Nat.le_of_ble_eq_true rfl) dX1_readValue_29
    · have hH : Hp D A s ([(h0, .inr (1, [.ref tx, .int (nI n), .int (nI a), .ref dr])), (tx, .inl (D.1 10, 40, .inl (fun j => nI (t j)))), (dr, .inr (0, [.int (nI f0), .int (nI f1), .int (nI f2), .int (nI f3), .int (nI f4), .int (nI f5), .int (bI f6), .int (nI f7), .int (oI f8), .int (oI f9)]))]) H locs := hH
      refine W.eq (g2 := F0 m 21 ls [.int (nI 0)]) rfl ?_
      refine vn_if_eq (tgt := 30) C.x C.b dX1_readValue_21 (by decide) (by omega) (fun _ => ?_) (fun q => absurd q (by decide))
      refine lv_aload_n C.x C.b dX1_readValue_30 rfl (lv_at hl 0 rfl) ?_
      refine lv_bipush (v := nI 45) C.x C.b dX1_readValue_31 (by decide) ?_
      refine kV (As := [.int (nI 45)]) (isC := [0, 1, 2]) (isR := []) (wr := []) C hK hH (c_take l htr D H.size h0 tx dr t n a f0 f1 f2 f3 f4 f5 f6 f7 f8 f9 45 hn (by omega) ht (by omega)) ⟨rfl, rfl, rfl, rfl, by decide⟩ 0 rfl rfl tw_370 tw_372 ts_7 tw_2 kX1_take ⟨by decide +kernel, by decide +kernel, (by decide +kernel : (parseMethodDescriptor yX1_take.desc).map (fun d => d.parameters.length) = some 1)⟩ ⟨(Nat.le_of_ble_eq_true rfl), (Nat.le_of_ble_eq_true rfl)⟩ hl.1 (Nat.le_of_ble_eq_true rfl) dX1_readValue_33 ⟨(Nat.le_of_ble_eq_true rfl), (Nat.le_of_ble_eq_true rfl)⟩ (fun v9 w9 H locs hN hH => ?_) (fun _ _ _ _ _ _ h => False.elim h)
      rcases hN with ⟨k_33, kl_33, rfl, rfl⟩ | ⟨k_33, rfl, rfl⟩
      · have hH : Hp D A s ([(h0, .inr (1, [.ref tx, .int (nI n), .int (nI (a + 1)), .ref dr])), (tx, .inl (D.1 10, 40, .inl (fun j => nI (t j)))), (dr, .inr (0, [.int (nI f0), .int (nI f1), .int (nI f2), .int (nI f3), .int (nI f4), .int (nI f5), .int (bI f6), .int (nI f7), .int (oI f8), .int (oI f9)]))]) H locs := hH
        refine W.eq (g2 := F0 m 36 ls [.int (nI 1)]) rfl ?_
        refine vn_if_eq (tgt := 80) C.x C.b dX1_readValue_36 (by decide) (by omega) (fun q => absurd q (by decide)) (fun _ => ?_)
        refine lv_aload_n C.x C.b dX1_readValue_39 rfl (lv_at hl 0 rfl) ?_
        refine lv_bipush (v := nI 49) C.x C.b dX1_readValue_40 (by decide) ?_
        refine kV (As := [.int (nI 49)]) (isC := [0, 1, 2]) (isR := []) (wr := []) C hK hH (c_take l htr D H.size h0 tx dr t n (a + 1) f0 f1 f2 f3 f4 f5 f6 f7 f8 f9 49 hn (by omega) ht (by omega)) ⟨rfl, rfl, rfl, rfl, by decide⟩ 0 rfl rfl tw_370 tw_372 ts_7 tw_2 kX1_take ⟨by decide +kernel, by decide +kernel, (by decide +kernel : (parseMethodDescriptor yX1_take.desc).map (fun d => d.parameters.length) = some 1)⟩ ⟨(Nat.le_of_ble_eq_true rfl), (Nat.le_of_ble_eq_true rfl)⟩ hl.1 (Nat.le_of_ble_eq_true rfl) dX1_readValue_42 ⟨(Nat.le_of_ble_eq_true rfl), (Nat.le_of_ble_eq_true rfl)⟩ (fun v9 w9 H locs hN hH => ?_) (fun _ _ _ _ _ _ h => False.elim h)
        rcases hN with ⟨k_42, kl_42, rfl, rfl⟩ | ⟨k_42, rfl, rfl⟩
        · have hH : Hp D A s ([(h0, .inr (1, [.ref tx, .int (nI n), .int (nI (a + 1 + 1)), .ref dr])), (tx, .inl (D.1 10, 40, .inl (fun j => nI (t j)))), (dr, .inr (0, [.int (nI f0), .int (nI f1), .int (nI f2), .int (nI f3), .int (nI f4), .int (nI f5), .int (bI f6), .int (nI f7), .int (oI f8), .int (oI f9)]))]) H locs := hH
          refine W.eq (g2 := F0 m 45 ls [.int (nI 1)]) rfl ?_
          refine vn_if_eq (tgt := 56) C.x C.b dX1_readValue_45 (by decide) (by omega) (fun q => absurd q (by decide)) (fun _ => ?_)
          refine lv_aload_n C.x C.b dX1_readValue_48 rfl (lv_at hl 0 rfl) ?_
          refine lv_iconst (v := nI 2) C.x C.b dX1_readValue_49 (by decide) ?_
          refine kV (As := [.int (nI 2)]) (isC := [0, 1, 2]) (isR := []) (wr := []) C hK hH (c_does l htr D H.size h0 tx dr t n (a + 1 + 1) f0 f1 f2 f3 f4 f5 f6 f7 f8 f9 2 hn (by omega) ht) ⟨rfl, rfl, rfl, rfl, by decide⟩ 0 rfl rfl tw_378 tw_380 ts_9 tw_2 kX1_does ⟨by decide +kernel, by decide +kernel, (by decide +kernel : (parseMethodDescriptor yX1_does.desc).map (fun d => d.parameters.length) = some 1)⟩ ⟨(Nat.le_of_ble_eq_true rfl), (Nat.le_of_ble_eq_true rfl)⟩ hl.1 (Nat.le_of_ble_eq_true rfl) dX1_readValue_50 ⟨(Nat.le_of_ble_eq_true rfl), (Nat.le_of_ble_eq_true rfl)⟩ (fun v9 w9 H locs hN hH => ?_) (fun _ _ _ _ _ _ h => False.elim h)
          obtain ⟨rfl, rfl⟩ := hN
          have hH : Hp D A s ([(h0, .inr (1, [.ref tx, .int (nI n), .int (nI (a + 1 + 1)), .ref dr])), (tx, .inl (D.1 10, 40, .inl (fun j => nI (t j)))), (dr, .inr (0, [.int (nI f0), .int (nI f1), .int (nI 2), .int (nI f3), .int (nI f4), .int (nI f5), .int (bI f6), .int (nI f7), .int (oI f8), .int (oI f9)]))]) H locs := hH
          refine W.eq (g2 := F0 m 53 ls [.int (nI 1)]) rfl ?_
          refine lv_goto (tgt := 79) C.x C.b dX1_readValue_53 (by decide) ?_
          exact rZ C hr (by decide) hH (Or.inl ⟨(a + 1 + 1, 2, none), by simp only [vl, k_3, k_18, k_33, k_42, cond_true, cond_false], by omega, rfl, rfl⟩) (Nat.le_of_ble_eq_true rfl) (Nat.le_of_ble_eq_true rfl) dX1_readValue_79
        · have hH : Hp D A s ([(h0, .inr (1, [.ref tx, .int (nI n), .int (nI (a + 1)), .ref dr])), (tx, .inl (D.1 10, 40, .inl (fun j => nI (t j)))), (dr, .inr (0, [.int (nI f0), .int (nI f1), .int (nI f2), .int (nI f3), .int (nI f4), .int (nI f5), .int (bI f6), .int (nI f7), .int (oI f8), .int (oI f9)]))]) H locs := hH
          refine W.eq (g2 := F0 m 45 ls [.int (nI 0)]) rfl ?_
          refine vn_if_eq (tgt := 56) C.x C.b dX1_readValue_45 (by decide) (by omega) (fun _ => ?_) (fun q => absurd q (by decide))
          refine lv_aload_n C.x C.b dX1_readValue_56 rfl (lv_at hl 0 rfl) ?_
          refine lv_bipush (v := nI 72) C.x C.b dX1_readValue_57 (by decide) ?_
          refine kV (As := [.int (nI 72)]) (isC := [0, 1, 2]) (isR := []) (wr := []) C hK hH (c_take l htr D H.size h0 tx dr t n (a + 1) f0 f1 f2 f3 f4 f5 f6 f7 f8 f9 72 hn (by omega) ht (by omega)) ⟨rfl, rfl, rfl, rfl, by decide⟩ 0 rfl rfl tw_370 tw_372 ts_7 tw_2 kX1_take ⟨by decide +kernel, by decide +kernel, (by decide +kernel : (parseMethodDescriptor yX1_take.desc).map (fun d => d.parameters.length) = some 1)⟩ ⟨(Nat.le_of_ble_eq_true rfl), (Nat.le_of_ble_eq_true rfl)⟩ hl.1 (Nat.le_of_ble_eq_true rfl) dX1_readValue_59 ⟨(Nat.le_of_ble_eq_true rfl), (Nat.le_of_ble_eq_true rfl)⟩ (fun v9 w9 H locs hN hH => ?_) (fun _ _ _ _ _ _ h => False.elim h)
          rcases hN with ⟨k_59, kl_59, rfl, rfl⟩ | ⟨k_59, rfl, rfl⟩
          · have hH : Hp D A s ([(h0, .inr (1, [.ref tx, .int (nI n), .int (nI (a + 1 + 1)), .ref dr])), (tx, .inl (D.1 10, 40, .inl (fun j => nI (t j)))), (dr, .inr (0, [.int (nI f0), .int (nI f1), .int (nI f2), .int (nI f3), .int (nI f4), .int (nI f5), .int (bI f6), .int (nI f7), .int (oI f8), .int (oI f9)]))]) H locs := hH
            refine W.eq (g2 := F0 m 62 ls [.int (nI 1)]) rfl ?_
            refine vn_if_eq (tgt := 78) C.x C.b dX1_readValue_62 (by decide) (by omega) (fun q => absurd q (by decide)) (fun _ => ?_)
            refine lv_aload_n C.x C.b dX1_readValue_65 rfl (lv_at hl 0 rfl) ?_
            refine lv_bipush (v := nI 15) C.x C.b dX1_readValue_66 (by decide) ?_
            refine kV (As := [.int (nI 15)]) (isC := [0, 1, 2]) (isR := []) (wr := []) C hK hH (c_does l htr D H.size h0 tx dr t n (a + 1 + 1) f0 f1 f2 f3 f4 f5 f6 f7 f8 f9 15 hn (by omega) ht) ⟨rfl, rfl, rfl, rfl, by decide⟩ 0 rfl rfl tw_378 tw_380 ts_9 tw_2 kX1_does ⟨by decide +kernel, by decide +kernel, (by decide +kernel : (parseMethodDescriptor yX1_does.desc).map (fun d => d.parameters.length) = some 1)⟩ ⟨(Nat.le_of_ble_eq_true rfl), (Nat.le_of_ble_eq_true rfl)⟩ hl.1 (Nat.le_of_ble_eq_true rfl) dX1_readValue_68 ⟨(Nat.le_of_ble_eq_true rfl), (Nat.le_of_ble_eq_true rfl)⟩ (fun v9 w9 H locs hN hH => ?_) (fun _ _ _ _ _ _ h => False.elim h)
            obtain ⟨rfl, rfl⟩ := hN
            have hH : Hp D A s ([(h0, .inr (1, [.ref tx, .int (nI n), .int (nI (a + 1 + 1)), .ref dr])), (tx, .inl (D.1 10, 40, .inl (fun j => nI (t j)))), (dr, .inr (0, [.int (nI f0), .int (nI f1), .int (nI 15), .int (nI f3), .int (nI f4), .int (nI f5), .int (bI f6), .int (nI f7), .int (oI f8), .int (oI f9)]))]) H locs := hH
            refine W.eq (g2 := F0 m 71 ls [.int (nI 1)]) rfl ?_
            refine vn_if_eq (tgt := 78) C.x C.b dX1_readValue_71 (by decide) (by omega) (fun q => absurd q (by decide)) (fun _ => ?_)
            refine lv_iconst (v := nI 1) C.x C.b dX1_readValue_74 (by decide) ?_
            refine lv_goto (tgt := 79) C.x C.b dX1_readValue_75 (by decide) ?_
            exact rZ C hr (by decide) hH (Or.inl ⟨(a + 1 + 1, 15, none), by simp only [vl, k_3, k_18, k_33, k_42, k_59, cond_true, cond_false], by omega, rfl, rfl⟩) (Nat.le_of_ble_eq_true rfl) (Nat.le_of_ble_eq_true rfl) dX1_readValue_79
          · have hH : Hp D A s ([(h0, .inr (1, [.ref tx, .int (nI n), .int (nI (a + 1)), .ref dr])), (tx, .inl (D.1 10, 40, .inl (fun j => nI (t j)))), (dr, .inr (0, [.int (nI f0), .int (nI f1), .int (nI f2), .int (nI f3), .int (nI f4), .int (nI f5), .int (bI f6), .int (nI f7), .int (oI f8), .int (oI f9)]))]) H locs := hH
            refine W.eq (g2 := F0 m 62 ls [.int (nI 0)]) rfl ?_
            refine vn_if_eq (tgt := 78) C.x C.b dX1_readValue_62 (by decide) (by omega) (fun _ => ?_) (fun q => absurd q (by decide))
            refine lv_iconst (v := nI 0) C.x C.b dX1_readValue_78 (by decide) ?_
            exact rZ C hr (by decide) hH (Or.inr ⟨a + 1, f2, f3, by simp only [vl, k_3, k_18, k_33, k_42, k_59, cond_true, cond_false], by omega, rfl, rfl⟩) (Nat.le_of_ble_eq_true rfl) (Nat.le_of_ble_eq_true rfl) dX1_readValue_79
      · have hH : Hp D A s ([(h0, .inr (1, [.ref tx, .int (nI n), .int (nI a), .ref dr])), (tx, .inl (D.1 10, 40, .inl (fun j => nI (t j)))), (dr, .inr (0, [.int (nI f0), .int (nI f1), .int (nI f2), .int (nI f3), .int (nI f4), .int (nI f5), .int (bI f6), .int (nI f7), .int (oI f8), .int (oI f9)]))]) H locs := hH
        refine W.eq (g2 := F0 m 36 ls [.int (nI 0)]) rfl ?_
        refine vn_if_eq (tgt := 80) C.x C.b dX1_readValue_36 (by decide) (by omega) (fun _ => ?_) (fun q => absurd q (by decide))
        refine lv_aload_n C.x C.b dX1_readValue_80 rfl (lv_at hl 0 rfl) ?_
        refine lv_bipush (v := nI 33) C.x C.b dX1_readValue_81 (by decide) ?_
        refine kV (As := [.int (nI 33)]) (isC := [0, 1, 2]) (isR := []) (wr := []) C hK hH (c_take l htr D H.size h0 tx dr t n a f0 f1 f2 f3 f4 f5 f6 f7 f8 f9 33 hn (by omega) ht (by omega)) ⟨rfl, rfl, rfl, rfl, by decide⟩ 0 rfl rfl tw_370 tw_372 ts_7 tw_2 kX1_take ⟨by decide +kernel, by decide +kernel, (by decide +kernel : (parseMethodDescriptor yX1_take.desc).map (fun d => d.parameters.length) = some 1)⟩ ⟨(Nat.le_of_ble_eq_true rfl), (Nat.le_of_ble_eq_true rfl)⟩ hl.1 (Nat.le_of_ble_eq_true rfl) dX1_readValue_83 ⟨(Nat.le_of_ble_eq_true rfl), (Nat.le_of_ble_eq_true rfl)⟩ (fun v9 w9 H locs hN hH => ?_) (fun _ _ _ _ _ _ h => False.elim h)
        rcases hN with ⟨k_83, kl_83, rfl, rfl⟩ | ⟨k_83, rfl, rfl⟩
        · have hH : Hp D A s ([(h0, .inr (1, [.ref tx, .int (nI n), .int (nI (a + 1)), .ref dr])), (tx, .inl (D.1 10, 40, .inl (fun j => nI (t j)))), (dr, .inr (0, [.int (nI f0), .int (nI f1), .int (nI f2), .int (nI f3), .int (nI f4), .int (nI f5), .int (bI f6), .int (nI f7), .int (oI f8), .int (oI f9)]))]) H locs := hH
          refine W.eq (g2 := F0 m 86 ls [.int (nI 1)]) rfl ?_
          refine vn_if_eq (tgt := 129) C.x C.b dX1_readValue_86 (by decide) (by omega) (fun q => absurd q (by decide)) (fun _ => ?_)
          refine lv_aload_n C.x C.b dX1_readValue_89 rfl (lv_at hl 0 rfl) ?_
          refine lv_bipush (v := nI 72) C.x C.b dX1_readValue_90 (by decide) ?_
          refine kV (As := [.int (nI 72)]) (isC := [0, 1, 2]) (isR := []) (wr := []) C hK hH (c_take l htr D H.size h0 tx dr t n (a + 1) f0 f1 f2 f3 f4 f5 f6 f7 f8 f9 72 hn (by omega) ht (by omega)) ⟨rfl, rfl, rfl, rfl, by decide⟩ 0 rfl rfl tw_370 tw_372 ts_7 tw_2 kX1_take ⟨by decide +kernel, by decide +kernel, (by decide +kernel : (parseMethodDescriptor yX1_take.desc).map (fun d => d.parameters.length) = some 1)⟩ ⟨(Nat.le_of_ble_eq_true rfl), (Nat.le_of_ble_eq_true rfl)⟩ hl.1 (Nat.le_of_ble_eq_true rfl) dX1_readValue_92 ⟨(Nat.le_of_ble_eq_true rfl), (Nat.le_of_ble_eq_true rfl)⟩ (fun v9 w9 H locs hN hH => ?_) (fun _ _ _ _ _ _ h => False.elim h)
          rcases hN with ⟨k_92, kl_92, rfl, rfl⟩ | ⟨k_92, rfl, rfl⟩
          · have hH : Hp D A s ([(h0, .inr (1, [.ref tx, .int (nI n), .int (nI (a + 1 + 1)), .ref dr])), (tx, .inl (D.1 10, 40, .inl (fun j => nI (t j)))), (dr, .inr (0, [.int (nI f0), .int (nI f1), .int (nI f2), .int (nI f3), .int (nI f4), .int (nI f5), .int (bI f6), .int (nI f7), .int (oI f8), .int (oI f9)]))]) H locs := hH
            refine W.eq (g2 := F0 m 95 ls [.int (nI 1)]) rfl ?_
            refine vn_if_eq (tgt := 107) C.x C.b dX1_readValue_95 (by decide) (by omega) (fun q => absurd q (by decide)) (fun _ => ?_)
            refine lv_aload_n C.x C.b dX1_readValue_98 rfl (lv_at hl 0 rfl) ?_
            refine lv_bipush (v := nI 14) C.x C.b dX1_readValue_99 (by decide) ?_
            refine kV (As := [.int (nI 14)]) (isC := [0, 1, 2]) (isR := []) (wr := []) C hK hH (c_does l htr D H.size h0 tx dr t n (a + 1 + 1) f0 f1 f2 f3 f4 f5 f6 f7 f8 f9 14 hn (by omega) ht) ⟨rfl, rfl, rfl, rfl, by decide⟩ 0 rfl rfl tw_378 tw_380 ts_9 tw_2 kX1_does ⟨by decide +kernel, by decide +kernel, (by decide +kernel : (parseMethodDescriptor yX1_does.desc).map (fun d => d.parameters.length) = some 1)⟩ ⟨(Nat.le_of_ble_eq_true rfl), (Nat.le_of_ble_eq_true rfl)⟩ hl.1 (Nat.le_of_ble_eq_true rfl) dX1_readValue_101 ⟨(Nat.le_of_ble_eq_true rfl), (Nat.le_of_ble_eq_true rfl)⟩ (fun v9 w9 H locs hN hH => ?_) (fun _ _ _ _ _ _ h => False.elim h)
            obtain ⟨rfl, rfl⟩ := hN
            have hH : Hp D A s ([(h0, .inr (1, [.ref tx, .int (nI n), .int (nI (a + 1 + 1)), .ref dr])), (tx, .inl (D.1 10, 40, .inl (fun j => nI (t j)))), (dr, .inr (0, [.int (nI f0), .int (nI f1), .int (nI 14), .int (nI f3), .int (nI f4), .int (nI f5), .int (bI f6), .int (nI f7), .int (oI f8), .int (oI f9)]))]) H locs := hH
            refine W.eq (g2 := F0 m 104 ls [.int (nI 1)]) rfl ?_
            refine lv_goto (tgt := 128) C.x C.b dX1_readValue_104 (by decide) ?_
            exact rZ C hr (by decide) hH (Or.inl ⟨(a + 1 + 1, 14, none), by simp only [vl, k_3, k_18, k_33, k_83, k_92, cond_true, cond_false], by omega, rfl, rfl⟩) (Nat.le_of_ble_eq_true rfl) (Nat.le_of_ble_eq_true rfl) dX1_readValue_128
          · have hH : Hp D A s ([(h0, .inr (1, [.ref tx, .int (nI n), .int (nI (a + 1)), .ref dr])), (tx, .inl (D.1 10, 40, .inl (fun j => nI (t j)))), (dr, .inr (0, [.int (nI f0), .int (nI f1), .int (nI f2), .int (nI f3), .int (nI f4), .int (nI f5), .int (bI f6), .int (nI f7), .int (oI f8), .int (oI f9)]))]) H locs := hH
            refine W.eq (g2 := F0 m 95 ls [.int (nI 0)]) rfl ?_
            refine vn_if_eq (tgt := 107) C.x C.b dX1_readValue_95 (by decide) (by omega) (fun _ => ?_) (fun q => absurd q (by decide))
            refine lv_aload_n C.x C.b dX1_readValue_107 rfl (lv_at hl 0 rfl) ?_
            refine kV (As := []) (isC := [0, 1, 2]) (isR := []) (wr := []) C hK hH (c_takeSource l htr D H.size h0 tx dr t n (a + 1) f0 f1 f2 f3 f4 f5 f6 f7 f8 f9 hn (by omega) ht) ⟨rfl, rfl, rfl, rfl, by decide⟩ 0 rfl rfl tw_382 tw_384 ts_10 tw_2 kX1_takeSource ⟨by decide +kernel, by decide +kernel, (by decide +kernel : (parseMethodDescriptor yX1_takeSource.desc).map (fun d => d.parameters.length) = some 0)⟩ ⟨(Nat.le_of_ble_eq_true rfl), (Nat.le_of_ble_eq_true rfl)⟩ hl.1 (Nat.le_of_ble_eq_true rfl) dX1_readValue_108 ⟨(Nat.le_of_ble_eq_true rfl), (Nat.le_of_ble_eq_true rfl)⟩ (fun v9 w9 H locs hN hH => ?_) (fun _ _ _ _ _ _ h => False.elim h)
            rcases hN with ⟨s_108, k_108, kl_108, rfl, rfl⟩ | ⟨k_108, rfl, rfl⟩
            · have hH : Hp D A s ([(h0, .inr (1, [.ref tx, .int (nI n), .int (nI (a + 1 + 1)), .ref dr])), (tx, .inl (D.1 10, 40, .inl (fun j => nI (t j)))), (dr, .inr (0, [.int (nI f0), .int (nI f1), .int (nI f2), .int (nI s_108), .int (nI f4), .int (nI f5), .int (bI f6), .int (nI f7), .int (oI f8), .int (oI f9)]))]) H locs := hH
              refine W.eq (g2 := F0 m 111 ls [.int (nI 1)]) rfl ?_
              refine vn_if_eq (tgt := 127) C.x C.b dX1_readValue_111 (by decide) (by omega) (fun q => absurd q (by decide)) (fun _ => ?_)
              refine lv_aload_n C.x C.b dX1_readValue_114 rfl (lv_at hl 0 rfl) ?_
              refine lv_bipush (v := nI 7) C.x C.b dX1_readValue_115 (by decide) ?_
              refine kV (As := [.int (nI 7)]) (isC := [0, 1, 2]) (isR := []) (wr := []) C hK hH (c_does l htr D H.size h0 tx dr t n (a + 1 + 1) f0 f1 f2 s_108 f4 f5 f6 f7 f8 f9 7 hn (by omega) ht) ⟨rfl, rfl, rfl, rfl, by decide⟩ 0 rfl rfl tw_378 tw_380 ts_9 tw_2 kX1_does ⟨by decide +kernel, by decide +kernel, (by decide +kernel : (parseMethodDescriptor yX1_does.desc).map (fun d => d.parameters.length) = some 1)⟩ ⟨(Nat.le_of_ble_eq_true rfl), (Nat.le_of_ble_eq_true rfl)⟩ hl.1 (Nat.le_of_ble_eq_true rfl) dX1_readValue_117 ⟨(Nat.le_of_ble_eq_true rfl), (Nat.le_of_ble_eq_true rfl)⟩ (fun v9 w9 H locs hN hH => ?_) (fun _ _ _ _ _ _ h => False.elim h)
              obtain ⟨rfl, rfl⟩ := hN
              have hH : Hp D A s ([(h0, .inr (1, [.ref tx, .int (nI n), .int (nI (a + 1 + 1)), .ref dr])), (tx, .inl (D.1 10, 40, .inl (fun j => nI (t j)))), (dr, .inr (0, [.int (nI f0), .int (nI f1), .int (nI 7), .int (nI s_108), .int (nI f4), .int (nI f5), .int (bI f6), .int (nI f7), .int (oI f8), .int (oI f9)]))]) H locs := hH
              refine W.eq (g2 := F0 m 120 ls [.int (nI 1)]) rfl ?_
              refine vn_if_eq (tgt := 127) C.x C.b dX1_readValue_120 (by decide) (by omega) (fun q => absurd q (by decide)) (fun _ => ?_)
              refine lv_iconst (v := nI 1) C.x C.b dX1_readValue_123 (by decide) ?_
              refine lv_goto (tgt := 128) C.x C.b dX1_readValue_124 (by decide) ?_
              exact rZ C hr (by decide) hH (Or.inl ⟨(a + 1 + 1, 7, some s_108), by simp only [vl, k_3, k_18, k_33, k_83, k_92, k_108, cond_true, cond_false], by omega, rfl, rfl⟩) (Nat.le_of_ble_eq_true rfl) (Nat.le_of_ble_eq_true rfl) dX1_readValue_128
            · have hH : Hp D A s ([(h0, .inr (1, [.ref tx, .int (nI n), .int (nI (a + 1)), .ref dr])), (tx, .inl (D.1 10, 40, .inl (fun j => nI (t j)))), (dr, .inr (0, [.int (nI f0), .int (nI f1), .int (nI f2), .int (nI f3), .int (nI f4), .int (nI f5), .int (bI f6), .int (nI f7), .int (oI f8), .int (oI f9)]))]) H locs := hH
              refine W.eq (g2 := F0 m 111 ls [.int (nI 0)]) rfl ?_
              refine vn_if_eq (tgt := 127) C.x C.b dX1_readValue_111 (by decide) (by omega) (fun _ => ?_) (fun q => absurd q (by decide))
              refine lv_iconst (v := nI 0) C.x C.b dX1_readValue_127 (by decide) ?_
              exact rZ C hr (by decide) hH (Or.inr ⟨a + 1, f2, f3, by simp only [vl, k_3, k_18, k_33, k_83, k_92, k_108, cond_true, cond_false], by omega, rfl, rfl⟩) (Nat.le_of_ble_eq_true rfl) (Nat.le_of_ble_eq_true rfl) dX1_readValue_128
        · have hH : Hp D A s ([(h0, .inr (1, [.ref tx, .int (nI n), .int (nI a), .ref dr])), (tx, .inl (D.1 10, 40, .inl (fun j => nI (t j)))), (dr, .inr (0, [.int (nI f0), .int (nI f1), .int (nI f2), .int (nI f3), .int (nI f4), .int (nI f5), .int (bI f6), .int (nI f7), .int (oI f8), .int (oI f9)]))]) H locs := hH
          refine W.eq (g2 := F0 m 86 ls [.int (nI 0)]) rfl ?_
          refine vn_if_eq (tgt := 129) C.x C.b dX1_readValue_86 (by decide) (by omega) (fun _ => ?_) (fun q => absurd q (by decide))
          refine lv_aload_n C.x C.b dX1_readValue_129 rfl (lv_at hl 0 rfl) ?_
          refine lv_bipush (v := nI 72) C.x C.b dX1_readValue_130 (by decide) ?_
          refine kV (As := [.int (nI 72)]) (isC := [0, 1, 2]) (isR := []) (wr := []) C hK hH (c_take l htr D H.size h0 tx dr t n a f0 f1 f2 f3 f4 f5 f6 f7 f8 f9 72 hn (by omega) ht (by omega)) ⟨rfl, rfl, rfl, rfl, by decide⟩ 0 rfl rfl tw_370 tw_372 ts_7 tw_2 kX1_take ⟨by decide +kernel, by decide +kernel, (by decide +kernel : (parseMethodDescriptor yX1_take.desc).map (fun d => d.parameters.length) = some 1)⟩ ⟨(Nat.le_of_ble_eq_true rfl), (Nat.le_of_ble_eq_true rfl)⟩ hl.1 (Nat.le_of_ble_eq_true rfl) dX1_readValue_132 ⟨(Nat.le_of_ble_eq_true rfl), (Nat.le_of_ble_eq_true rfl)⟩ (fun v9 w9 H locs hN hH => ?_) (fun _ _ _ _ _ _ h => False.elim h)
          rcases hN with ⟨k_132, kl_132, rfl, rfl⟩ | ⟨k_132, rfl, rfl⟩
          · have hH : Hp D A s ([(h0, .inr (1, [.ref tx, .int (nI n), .int (nI (a + 1)), .ref dr])), (tx, .inl (D.1 10, 40, .inl (fun j => nI (t j)))), (dr, .inr (0, [.int (nI f0), .int (nI f1), .int (nI f2), .int (nI f3), .int (nI f4), .int (nI f5), .int (bI f6), .int (nI f7), .int (oI f8), .int (oI f9)]))]) H locs := hH
            refine W.eq (g2 := F0 m 135 ls [.int (nI 1)]) rfl ?_
            refine vn_if_eq (tgt := 143) C.x C.b dX1_readValue_135 (by decide) (by omega) (fun q => absurd q (by decide)) (fun _ => ?_)
            refine lv_aload_n C.x C.b dX1_readValue_138 rfl (lv_at hl 0 rfl) ?_
            refine kV (As := []) (isC := [0, 1, 2]) (isR := []) (wr := []) C hK hH (c_readBehindH l htr D H.size h0 tx dr t n (a + 1) f0 f1 f2 f3 f4 f5 f6 f7 f8 f9 hn (by omega) ht) ⟨rfl, rfl, rfl, rfl, by decide⟩ 0 rfl rfl tw_386 tw_388 ts_11 tw_2 kX1_readBehindH ⟨by decide +kernel, by decide +kernel, (by decide +kernel : (parseMethodDescriptor yX1_readBehindH.desc).map (fun d => d.parameters.length) = some 0)⟩ ⟨(Nat.le_of_ble_eq_true rfl), (Nat.le_of_ble_eq_true rfl)⟩ hl.1 (Nat.le_of_ble_eq_true rfl) dX1_readValue_139 ⟨(Nat.le_of_ble_eq_true rfl), (Nat.le_of_ble_eq_true rfl)⟩ (fun v9 w9 H locs hN hH => ?_) (fun _ _ _ _ _ _ h => False.elim h)
            rcases hN with ⟨q_139, hq_139, kl_139, rfl, rfl⟩ | ⟨a9_139, g2_139, g3_139, ha9_139, kl_139, rfl, rfl⟩
            · have hH : Hp D A s ([(h0, .inr (1, [.ref tx, .int (nI n), .int (nI q_139.1), .ref dr])), (tx, .inl (D.1 10, 40, .inl (fun j => nI (t j)))), (dr, .inr (0, [.int (nI f0), .int (nI f1), .int (nI q_139.2.1), .int (nI (q_139.2.2.getD f3)), .int (nI f4), .int (nI f5), .int (bI f6), .int (nI f7), .int (oI f8), .int (oI f9)]))]) H locs := hH
              refine W.eq (g2 := F0 m 142 ls [.int (nI 1)]) rfl ?_
              exact rZ C hr (by decide) hH (Or.inl ⟨q_139, by simp only [vl, k_3, k_18, k_33, k_83, k_132, cond_true, cond_false]; exact hq_139, by omega, rfl, rfl⟩) (Nat.le_of_ble_eq_true rfl) (Nat.le_of_ble_eq_true rfl) dX1_readValue_142
            · have hH : Hp D A s ([(h0, .inr (1, [.ref tx, .int (nI n), .int (nI a9_139), .ref dr])), (tx, .inl (D.1 10, 40, .inl (fun j => nI (t j)))), (dr, .inr (0, [.int (nI f0), .int (nI f1), .int (nI g2_139), .int (nI g3_139), .int (nI f4), .int (nI f5), .int (bI f6), .int (nI f7), .int (oI f8), .int (oI f9)]))]) H locs := hH
              refine W.eq (g2 := F0 m 142 ls [.int (nI 0)]) rfl ?_
              exact rZ C hr (by decide) hH (Or.inr ⟨a9_139, g2_139, g3_139, by simp only [vl, k_3, k_18, k_33, k_83, k_132, cond_true, cond_false]; exact ha9_139, by omega, rfl, rfl⟩) (Nat.le_of_ble_eq_true rfl) (Nat.le_of_ble_eq_true rfl) dX1_readValue_142
          · have hH : Hp D A s ([(h0, .inr (1, [.ref tx, .int (nI n), .int (nI a), .ref dr])), (tx, .inl (D.1 10, 40, .inl (fun j => nI (t j)))), (dr, .inr (0, [.int (nI f0), .int (nI f1), .int (nI f2), .int (nI f3), .int (nI f4), .int (nI f5), .int (bI f6), .int (nI f7), .int (oI f8), .int (oI f9)]))]) H locs := hH
            refine W.eq (g2 := F0 m 135 ls [.int (nI 0)]) rfl ?_
            refine vn_if_eq (tgt := 143) C.x C.b dX1_readValue_135 (by decide) (by omega) (fun _ => ?_) (fun q => absurd q (by decide))
            refine lv_aload_n C.x C.b dX1_readValue_143 rfl (lv_at hl 0 rfl) ?_
            refine kV (As := []) (isC := [0, 1, 2]) (isR := []) (wr := []) C hK hH (c_takeSource l htr D H.size h0 tx dr t n a f0 f1 f2 f3 f4 f5 f6 f7 f8 f9 hn (by omega) ht) ⟨rfl, rfl, rfl, rfl, by decide⟩ 0 rfl rfl tw_382 tw_384 ts_10 tw_2 kX1_takeSource ⟨by decide +kernel, by decide +kernel, (by decide +kernel : (parseMethodDescriptor yX1_takeSource.desc).map (fun d => d.parameters.length) = some 0)⟩ ⟨(Nat.le_of_ble_eq_true rfl), (Nat.le_of_ble_eq_true rfl)⟩ hl.1 (Nat.le_of_ble_eq_true rfl) dX1_readValue_144 ⟨(Nat.le_of_ble_eq_true rfl), (Nat.le_of_ble_eq_true rfl)⟩ (fun v9 w9 H locs hN hH => ?_) (fun _ _ _ _ _ _ h => False.elim h)
            rcases hN with ⟨s_144, k_144, kl_144, rfl, rfl⟩ | ⟨k_144, rfl, rfl⟩
            · have hH : Hp D A s ([(h0, .inr (1, [.ref tx, .int (nI n), .int (nI (a + 1)), .ref dr])), (tx, .inl (D.1 10, 40, .inl (fun j => nI (t j)))), (dr, .inr (0, [.int (nI f0), .int (nI f1), .int (nI f2), .int (nI s_144), .int (nI f4), .int (nI f5), .int (bI f6), .int (nI f7), .int (oI f8), .int (oI f9)]))]) H locs := hH
              refine W.eq (g2 := F0 m 147 ls [.int (nI 1)]) rfl ?_
              refine vn_if_eq (tgt := 161) C.x C.b dX1_readValue_147 (by decide) (by omega) (fun q => absurd q (by decide)) (fun _ => ?_)
              refine lv_aload_n C.x C.b dX1_readValue_150 rfl (lv_at hl 0 rfl) ?_
              refine kV (As := []) (isC := [0, 1, 2]) (isR := []) (wr := []) C hK hH (c_readBehindSource l htr D H.size h0 tx dr t n (a + 1) f0 f1 f2 s_144 f4 f5 f6 f7 f8 f9 hn (by omega) ht) ⟨rfl, rfl, rfl, rfl, by decide⟩ 0 rfl rfl tw_390 tw_392 ts_12 tw_2 kX1_readBehindSource ⟨by decide +kernel, by decide +kernel, (by decide +kernel : (parseMethodDescriptor yX1_readBehindSource.desc).map (fun d => d.parameters.length) = some 0)⟩ ⟨(Nat.le_of_ble_eq_true rfl), (Nat.le_of_ble_eq_true rfl)⟩ hl.1 (Nat.le_of_ble_eq_true rfl) dX1_readValue_151 ⟨(Nat.le_of_ble_eq_true rfl), (Nat.le_of_ble_eq_true rfl)⟩ (fun v9 w9 H locs hN hH => ?_) (fun _ _ _ _ _ _ h => False.elim h)
              rcases hN with ⟨q_151, hq_151, hs_151, kl_151, rfl, rfl⟩ | ⟨a9_151, g2_151, g3_151, ha9_151, kl_151, rfl, rfl⟩
              · have hH : Hp D A s ([(h0, .inr (1, [.ref tx, .int (nI n), .int (nI q_151.1), .ref dr])), (tx, .inl (D.1 10, 40, .inl (fun j => nI (t j)))), (dr, .inr (0, [.int (nI f0), .int (nI f1), .int (nI q_151.2.1), .int (nI s_144), .int (nI f4), .int (nI f5), .int (bI f6), .int (nI f7), .int (oI f8), .int (oI f9)]))]) H locs := hH
                refine W.eq (g2 := F0 m 154 ls [.int (nI 1)]) rfl ?_
                refine vn_if_eq (tgt := 161) C.x C.b dX1_readValue_154 (by decide) (by omega) (fun q => absurd q (by decide)) (fun _ => ?_)
                refine lv_iconst (v := nI 1) C.x C.b dX1_readValue_157 (by decide) ?_
                refine lv_goto (tgt := 162) C.x C.b dX1_readValue_158 (by decide) ?_
                exact rZ C hr (by decide) hH (Or.inl ⟨q_151, by simp only [vl, k_3, k_18, k_33, k_83, k_132, k_144, cond_true, cond_false]; exact hq_151, by omega, rfl, by rw [hs_151]; rfl⟩) (Nat.le_of_ble_eq_true rfl) (Nat.le_of_ble_eq_true rfl) dX1_readValue_162
              · have hH : Hp D A s ([(h0, .inr (1, [.ref tx, .int (nI n), .int (nI a9_151), .ref dr])), (tx, .inl (D.1 10, 40, .inl (fun j => nI (t j)))), (dr, .inr (0, [.int (nI f0), .int (nI f1), .int (nI g2_151), .int (nI g3_151), .int (nI f4), .int (nI f5), .int (bI f6), .int (nI f7), .int (oI f8), .int (oI f9)]))]) H locs := hH
                refine W.eq (g2 := F0 m 154 ls [.int (nI 0)]) rfl ?_
                refine vn_if_eq (tgt := 161) C.x C.b dX1_readValue_154 (by decide) (by omega) (fun _ => ?_) (fun q => absurd q (by decide))
                refine lv_iconst (v := nI 0) C.x C.b dX1_readValue_161 (by decide) ?_
                exact rZ C hr (by decide) hH (Or.inr ⟨a9_151, g2_151, g3_151, by simp only [vl, k_3, k_18, k_33, k_83, k_132, k_144, cond_true, cond_false]; exact ha9_151, by omega, rfl, rfl⟩) (Nat.le_of_ble_eq_true rfl) (Nat.le_of_ble_eq_true rfl) dX1_readValue_162
            · have hH : Hp D A s ([(h0, .inr (1, [.ref tx, .int (nI n), .int (nI a), .ref dr])), (tx, .inl (D.1 10, 40, .inl (fun j => nI (t j)))), (dr, .inr (0, [.int (nI f0), .int (nI f1), .int (nI f2), .int (nI f3), .int (nI f4), .int (nI f5), .int (bI f6), .int (nI f7), .int (oI f8), .int (oI f9)]))]) H locs := hH
              refine W.eq (g2 := F0 m 147 ls [.int (nI 0)]) rfl ?_
              refine vn_if_eq (tgt := 161) C.x C.b dX1_readValue_147 (by decide) (by omega) (fun _ => ?_) (fun q => absurd q (by decide))
              refine lv_iconst (v := nI 0) C.x C.b dX1_readValue_161 (by decide) ?_
              exact rZ C hr (by decide) hH (Or.inr ⟨a, f2, f3, by simp only [vl, k_3, k_18, k_33, k_83, k_132, k_144, cond_true, cond_false], by omega, rfl, rfl⟩) (Nat.le_of_ble_eq_true rfl) (Nat.le_of_ble_eq_true rfl) dX1_readValue_162
