set_option maxHeartbeats 4000000 in
set_option maxRecDepth 100000 in
theorem c_readGoing (l : Launch) (htr : l.stackTraces = false) (D : va_G) (sz : Nat) (h0 tx dr : Nat) (t : Nat → Nat) (n a : Nat) (f0 f1 f2 f3 f4 f5 : Nat) (f6 : Bool) (f7 : Nat) (hn : n ≤ 40) (ha : a ≤ n) (ht : ∀ j, t j < 128) : Ct l yX1_readGoing wX1_readGoing { frames := 4, cells := 0, slots := 0, locals := 91 } D ([(h0, .inr (1, [.ref tx, .int (nI n), .int (nI a), .ref dr])), (tx, .inl (D.1 10, 40, .inl (fun j => nI (t j)))), (dr, .inr (0, [.int (nI f0), .int (nI f1), .int (nI f2), .int (nI f3), .int (nI f4), .int (nI f5), .int (bI f6), .int (nI f7), .int (oI none), .int (oI none)]))]) [.ref h0] sz (fun v w => (gl t n a = 0 ∧ v = some (.int (nI 1)) ∧ w = [(h0, .inr (1, [.ref tx, .int (nI n), .int (nI a), .ref dr])), (tx, .inl (D.1 10, 40, .inl (fun j => nI (t j)))), (dr, .inr (0, [.int (nI f0), .int (nI f1), .int (nI f2), .int (nI f3), .int (nI f4), .int (nI f5), .int (bI f6), .int (nI 0), .int (oI none), .int (oI none)]))]) ∨ (∃ q, gl t n a ≠ 0 ∧ gg t n (a + 1) (gl t n a) = .inr q ∧ a < q.1 ∧ q.1 ≤ n ∧ v = some (.int (nI 1)) ∧ w = [(h0, .inr (1, [.ref tx, .int (nI n), .int (nI q.1), .ref dr])), (tx, .inl (D.1 10, 40, .inl (fun j => nI (t j)))), (dr, .inr (0, [.int (nI f0), .int (nI f1), .int (nI f2), .int (nI f3), .int (nI f4), .int (nI f5), .int (bI f6), .int (nI (gl t n a)), .int (oI q.2.1), .int (oI q.2.2)]))]) ∨ (∃ a9 g8 g9, gl t n a ≠ 0 ∧ gg t n (a + 1) (gl t n a) = .inl a9 ∧ a9 ≤ n ∧ v = some (.int (nI 0)) ∧ w = [(h0, .inr (1, [.ref tx, .int (nI n), .int (nI a9), .ref dr])), (tx, .inl (D.1 10, 40, .inl (fun j => nI (t j)))), (dr, .inr (0, [.int (nI f0), .int (nI f1), .int (nI f2), .int (nI f3), .int (nI f4), .int (nI f5), .int (bI f6), .int (nI (gl t n a)), .int (oI g8), .int (oI g9)]))])) (nox) := by
  refine Ct.of (cc := cX1_readGoing) (nL := 1) (ret := (some .boolean)) (own := RX1) htr (by decide) rfl (Nat.le_of_ble_eq_true rfl) ?_
  intro p e s m args below meth c A C hr hK H locs hH ls hl
  have hl : lv_has ls 1 [(0, .ref h0)] := hl
  refine lv_aload_n C.x C.b dX1_readGoing_0 rfl (lv_at hl 0 rfl) ?_
  refine gGet (v := .ref dr) C hK hH 0 3 rfl rfl inX1 (by decide) tw_89 rfl dX1_readGoing_1 ?_
  refine lv_aload_n C.x C.b dX1_readGoing_4 rfl (lv_at hl 0 rfl) ?_
  refine gGet (v := .int (nI a)) C hK hH 0 2 rfl rfl inX1 (by decide) tw_87 rfl dX1_readGoing_5 ?_
  refine lv_aload_n C.x C.b dX1_readGoing_8 rfl (lv_at hl 0 rfl) ?_
  refine gGet (v := .int (nI n)) C hK hH 0 1 rfl rfl inX1 (by decide) tw_85 rfl dX1_readGoing_9 ?_
  refine vn_icmp_ge (tgt := 34) C.x C.b dX1_readGoing_12 (by decide) (by omega) (by omega) (fun c_12 => ?_) (fun c_12 => ?_)
  · refine lv_iconst (v := nI 0) C.x C.b dX1_readGoing_34 (by decide) ?_
    refine gPutN (v := .int (nI 0)) (ws' := [(h0, .inr (1, [.ref tx, .int (nI n), .int (nI a), .ref dr])), (tx, .inl (D.1 10, 40, .inl (fun j => nI (t j)))), (dr, .inr (0, [.int (nI f0), .int (nI f1), .int (nI f2), .int (nI f3), .int (nI f4), .int (nI f5), .int (bI f6), .int (nI 0), .int (oI none), .int (oI none)]))]) C hK hH 2 7 tyX0 tyX0_ok nmX0 rfl rfl inX0 (by decide) (nwl_of tn_54 rfl) rfl rfl rfl (Nat.le_of_ble_eq_true rfl) rfl dX1_readGoing_35 (fun H locs hH => ?_)
    refine lv_aload_n C.x C.b dX1_readGoing_38 rfl (lv_at hl 0 rfl) ?_
    refine gGet (v := .ref dr) C hK hH 0 3 rfl rfl inX1 (by decide) tw_89 rfl dX1_readGoing_39 ?_
    refine gGetN (v := .int (nI 0)) C hK hH 2 7 rfl rfl inX0 (by decide) (nwl_of tn_54 rfl) rfl dX1_readGoing_42 ?_
    refine vn_if_ne (tgt := 50) C.x C.b dX1_readGoing_45 (by decide) (by omega) (fun q => absurd q (by decide)) (fun _ => ?_)
    refine lv_iconst (v := nI 1) C.x C.b dX1_readGoing_48 (by decide) ?_
    exact rZ C hr (by decide) hH (Or.inl ⟨by first | exact gl_none hx_29 | exact gl_out (by omega), rfl, rfl⟩) (Nat.le_of_ble_eq_true rfl) (Nat.le_of_ble_eq_true rfl) dX1_readGoing_49
  · refine va_ldcS C.x C.b C.ow C.N.2.2 dX1_readGoing_15 ?_
    refine lv_aload_n C.x C.b dX1_readGoing_17 rfl (lv_at hl 0 rfl) ?_
    refine gGet (v := .ref tx) C hK hH 0 0 rfl rfl inX1 (by decide) tw_84 rfl dX1_readGoing_18 ?_
    refine lv_aload_n C.x C.b dX1_readGoing_21 rfl (lv_at hl 0 rfl) ?_
    refine gGet (v := .int (nI a)) C hK hH 0 2 rfl rfl inX1 (by decide) tw_87 rfl dX1_readGoing_22 ?_
    have hf_25 := ht a
    refine gCald (v := (nI (t a))) C hK hH 1 rfl (by omega) (by decide) dX1_readGoing_25 rfl ?_
    refine kVr (As := [.int (nI (t a))]) (isC := []) (isR := [0, 1, 2]) (wr := [(h0, .inr (1, [.ref tx, .int (nI n), .int (nI a), .ref dr])), (tx, .inl (D.1 10, 40, .inl (fun j => nI (t j)))), (dr, .inr (0, [.int (nI f0), .int (nI f1), .int (nI f2), .int (nI f3), .int (nI f4), .int (nI f5), .int (bI f6), .int (nI f7), .int (oI none), .int (oI none)]))]) C hK hH (c_indexOf l htr D H.size 1 (t a) (by decide) (by omega)) ⟨rfl, rfl, rfl, rfl, by decide⟩ (vk_recv C.Z.2.2.1 (i := 1) (by decide) hH.2.2) tw_280 tw_281 tw_282 tw_10 kJ0_indexOf ⟨by decide +kernel, by decide +kernel, (by decide +kernel : (parseMethodDescriptor yJ0_indexOf.desc).map (fun d => d.parameters.length) = some 1)⟩ ⟨(Nat.le_of_ble_eq_true rfl), (Nat.le_of_ble_eq_true rfl)⟩ hl.1 (Nat.le_of_ble_eq_true rfl) dX1_readGoing_26 ⟨(Nat.le_of_ble_eq_true rfl), (Nat.le_of_ble_eq_true rfl)⟩ (fun v9 w9 H locs hN hH => ?_) (fun _ _ _ _ _ _ h => False.elim h)
    obtain ⟨rfl, rfl⟩ := hN
    have hH : Hp D A s ([(h0, .inr (1, [.ref tx, .int (nI n), .int (nI a), .ref dr])), (tx, .inl (D.1 10, 40, .inl (fun j => nI (t j)))), (dr, .inr (0, [.int (nI f0), .int (nI f1), .int (nI f2), .int (nI f3), .int (nI f4), .int (nI f5), .int (bI f6), .int (nI f7), .int (oI none), .int (oI none)]))]) H locs := hH
    refine W.eq (g2 := F0 m 29 ls [.int (oI (ixS 1 (t a))), .ref dr]) rfl ?_
    cases hx_29 : ixS 1 (t a) with
    | none =>
      refine vt_top (y := -1) rfl ?_
      refine lv_iconst (v := nI 1) C.x C.b dX1_readGoing_29 (by decide) ?_
      refine lv_iadd C.x C.b dX1_readGoing_30 ?_
      refine vt_top (y := nI 0) (by decide) ?_
      refine lv_goto (tgt := 35) C.x C.b dX1_readGoing_31 (by decide) ?_
      refine gPutN (v := .int (nI 0)) (ws' := [(h0, .inr (1, [.ref tx, .int (nI n), .int (nI a), .ref dr])), (tx, .inl (D.1 10, 40, .inl (fun j => nI (t j)))), (dr, .inr (0, [.int (nI f0), .int (nI f1), .int (nI f2), .int (nI f3), .int (nI f4), .int (nI f5), .int (bI f6), .int (nI 0), .int (oI none), .int (oI none)]))]) C hK hH 2 7 tyX0 tyX0_ok nmX0 rfl rfl inX0 (by decide) (nwl_of tn_54 rfl) rfl rfl rfl (Nat.le_of_ble_eq_true rfl) rfl dX1_readGoing_35 (fun H locs hH => ?_)
      refine lv_aload_n C.x C.b dX1_readGoing_38 rfl (lv_at hl 0 rfl) ?_
      refine gGet (v := .ref dr) C hK hH 0 3 rfl rfl inX1 (by decide) tw_89 rfl dX1_readGoing_39 ?_
      refine gGetN (v := .int (nI 0)) C hK hH 2 7 rfl rfl inX0 (by decide) (nwl_of tn_54 rfl) rfl dX1_readGoing_42 ?_
      refine vn_if_ne (tgt := 50) C.x C.b dX1_readGoing_45 (by decide) (by omega) (fun q => absurd q (by decide)) (fun _ => ?_)
      refine lv_iconst (v := nI 1) C.x C.b dX1_readGoing_48 (by decide) ?_
      exact rZ C hr (by decide) hH (Or.inl ⟨by first | exact gl_none hx_29 | exact gl_out (by omega), rfl, rfl⟩) (Nat.le_of_ble_eq_true rfl) (Nat.le_of_ble_eq_true rfl) dX1_readGoing_49
    | some y_29 =>
      have hy_29 := ix1_lt hx_29
      refine vt_top (y := nI y_29) rfl ?_
      refine lv_iconst (v := nI 1) C.x C.b dX1_readGoing_29 (by decide) ?_
      refine lv_iadd C.x C.b dX1_readGoing_30 ?_
      refine vt_top (nI_add _ _) ?_
      refine lv_goto (tgt := 35) C.x C.b dX1_readGoing_31 (by decide) ?_
      refine gPutN (v := .int (nI (y_29 + 1))) (ws' := [(h0, .inr (1, [.ref tx, .int (nI n), .int (nI a), .ref dr])), (tx, .inl (D.1 10, 40, .inl (fun j => nI (t j)))), (dr, .inr (0, [.int (nI f0), .int (nI f1), .int (nI f2), .int (nI f3), .int (nI f4), .int (nI f5), .int (bI f6), .int (nI (y_29 + 1)), .int (oI none), .int (oI none)]))]) C hK hH 2 7 tyX0 tyX0_ok nmX0 rfl rfl inX0 (by decide) (nwl_of tn_54 rfl) rfl rfl rfl (Nat.le_of_ble_eq_true rfl) rfl dX1_readGoing_35 (fun H locs hH => ?_)
      refine lv_aload_n C.x C.b dX1_readGoing_38 rfl (lv_at hl 0 rfl) ?_
      refine gGet (v := .ref dr) C hK hH 0 3 rfl rfl inX1 (by decide) tw_89 rfl dX1_readGoing_39 ?_
      refine gGetN (v := .int (nI (y_29 + 1))) C hK hH 2 7 rfl rfl inX0 (by decide) (nwl_of tn_54 rfl) rfl dX1_readGoing_42 ?_
      refine vn_if_ne (tgt := 50) C.x C.b dX1_readGoing_45 (by decide) (by omega) (fun c_45 => ?_) (fun c_45 => ?_)
      · refine lv_aload_n C.x C.b dX1_readGoing_50 rfl (lv_at hl 0 rfl) ?_
        refine lv_dup C.x C.b dX1_readGoing_51 rfl ?_
        refine gGet (v := .int (nI a)) C hK hH 0 2 rfl rfl inX1 (by decide) tw_87 rfl dX1_readGoing_52 ?_
        refine lv_iconst (v := nI 1) C.x C.b dX1_readGoing_55 (by decide) ?_
        refine lv_iadd C.x C.b dX1_readGoing_56 ?_
        refine vt_top (nI_add _ _) ?_
        refine gPut (v := .int (nI (a + 1))) (ws' := [(h0, .inr (1, [.ref tx, .int (nI n), .int (nI (a + 1)), .ref dr])), (tx, .inl (D.1 10, 40, .inl (fun j => nI (t j)))), (dr, .inr (0, [.int (nI f0), .int (nI f1), .int (nI f2), .int (nI f3), .int (nI f4), .int (nI f5), .int (bI f6), .int (nI (y_29 + 1)), .int (oI none), .int (oI none)]))]) C hK hH 0 2 tyX1 tyX1_ok nmX1 rfl rfl inX1 (by decide) tw_87 rfl rfl rfl (Nat.le_of_ble_eq_true rfl) rfl dX1_readGoing_57 (fun H locs hH => ?_)
        refine lv_aload_n C.x C.b dX1_readGoing_60 rfl (lv_at hl 0 rfl) ?_
        refine gGet (v := .ref dr) C hK hH 0 3 rfl rfl inX1 (by decide) tw_89 rfl dX1_readGoing_61 ?_
        refine gGetN (v := .int (nI (y_29 + 1))) C hK hH 2 7 rfl rfl inX0 (by decide) (nwl_of tn_54 rfl) rfl dX1_readGoing_64 ?_
        refine lv_iconst (v := nI 4) C.x C.b dX1_readGoing_67 (by decide) ?_
        refine vn_icmp_ne (tgt := 84) C.x C.b dX1_readGoing_68 (by decide) (by omega) (by omega) (fun c_68 => ?_) (fun c_68 => ?_)
        · refine lv_aload_n C.x C.b dX1_readGoing_84 rfl (lv_at hl 0 rfl) ?_
          refine gGet (v := .ref dr) C hK hH 0 3 rfl rfl inX1 (by decide) tw_89 rfl dX1_readGoing_85 ?_
          refine lv_aload_n C.x C.b dX1_readGoing_88 rfl (lv_at hl 0 rfl) ?_
          refine kV (As := []) (isC := [0, 1, 2]) (isR := []) (wr := []) C hK hH (c_takeNumber l htr D H.size h0 tx dr t n (a + 1) f0 f1 f2 f3 f4 f5 f6 (y_29 + 1) none none hn (by omega) ht) ⟨rfl, rfl, rfl, rfl, by decide⟩ 0 rfl rfl tw_399 tw_401 ts_14 tw_2 kX1_takeNumber ⟨by decide +kernel, by decide +kernel, (by decide +kernel : (parseMethodDescriptor yX1_takeNumber.desc).map (fun d => d.parameters.length) = some 0)⟩ ⟨(Nat.le_of_ble_eq_true rfl), (Nat.le_of_ble_eq_true rfl)⟩ hl.1 (Nat.le_of_ble_eq_true rfl) dX1_readGoing_89 ⟨(Nat.le_of_ble_eq_true rfl), (Nat.le_of_ble_eq_true rfl)⟩ (fun v9 w9 H locs hN hH => ?_) (fun _ _ _ _ _ _ h => False.elim h)
          rcases hN with ⟨x_89, b_89, hb_89, hx63_89, ka_89, kl_89, rfl, rfl⟩ | ⟨hb_89, rfl, rfl⟩
          · have hH : Hp D A s ([(h0, .inr (1, [.ref tx, .int (nI n), .int (nI b_89), .ref dr])), (tx, .inl (D.1 10, 40, .inl (fun j => nI (t j)))), (dr, .inr (0, [.int (nI f0), .int (nI f1), .int (nI f2), .int (nI f3), .int (nI f4), .int (nI f5), .int (bI f6), .int (nI (y_29 + 1)), .int (oI none), .int (oI none)]))]) H locs := hH
            refine W.eq (g2 := F0 m 92 ls [.int (nI x_89), .ref dr]) rfl ?_
            refine gPutN (v := .int (nI x_89)) (ws' := [(h0, .inr (1, [.ref tx, .int (nI n), .int (nI b_89), .ref dr])), (tx, .inl (D.1 10, 40, .inl (fun j => nI (t j)))), (dr, .inr (0, [.int (nI f0), .int (nI f1), .int (nI f2), .int (nI f3), .int (nI f4), .int (nI f5), .int (bI f6), .int (nI (y_29 + 1)), .int (nI x_89), .int (oI none)]))]) C hK hH 2 8 tyX0 tyX0_ok nmX0 rfl rfl inX0 (by decide) (nwl_of tn_57 rfl) rfl rfl rfl (Nat.le_of_ble_eq_true rfl) rfl dX1_readGoing_92 (fun H locs hH => ?_)
            refine lv_aload_n C.x C.b dX1_readGoing_95 rfl (lv_at hl 0 rfl) ?_
            refine gGet (v := .ref dr) C hK hH 0 3 rfl rfl inX1 (by decide) tw_89 rfl dX1_readGoing_96 ?_
            refine gGetN (v := .int (nI (y_29 + 1))) C hK hH 2 7 rfl rfl inX0 (by decide) (nwl_of tn_54 rfl) rfl dX1_readGoing_99 ?_
            refine lv_iconst (v := nI 1) C.x C.b dX1_readGoing_102 (by decide) ?_
            refine vn_icmp_eq (tgt := 117) C.x C.b dX1_readGoing_103 (by decide) (by omega) (by omega) (fun c_103 => ?_) (fun c_103 => ?_)
            · refine lv_aload_n C.x C.b dX1_readGoing_117 rfl (lv_at hl 0 rfl) ?_
              refine gGet (v := .ref dr) C hK hH 0 3 rfl rfl inX1 (by decide) tw_89 rfl dX1_readGoing_118 ?_
              refine gGetN (v := .int (nI x_89)) C hK hH 2 8 rfl rfl inX0 (by decide) (nwl_of tn_57 rfl) rfl dX1_readGoing_121 ?_
              refine vn_if_lt (tgt := 131) C.x C.b dX1_readGoing_124 (by decide) (by omega) ?_
              refine lv_iconst (v := nI 1) C.x C.b dX1_readGoing_127 (by decide) ?_
              refine lv_goto (tgt := 132) C.x C.b dX1_readGoing_128 (by decide) ?_
              exact rZ C hr (by decide) hH (Or.inr (Or.inl ⟨(b_89, some x_89, none), by rw [gl_some (by omega) hx_29]; omega, by rw [gl_some (by omega) hx_29]; unfold gg; rw [if_neg (by omega), hb_89]; exact if_pos (by omega), by omega, by omega, rfl, by rw [gl_some (by omega) hx_29]; first | done | rfl⟩)) (Nat.le_of_ble_eq_true rfl) (Nat.le_of_ble_eq_true rfl) dX1_readGoing_132
            · refine lv_aload_n C.x C.b dX1_readGoing_106 rfl (lv_at hl 0 rfl) ?_
              refine gGet (v := .ref dr) C hK hH 0 3 rfl rfl inX1 (by decide) tw_89 rfl dX1_readGoing_107 ?_
              refine gGetN (v := .int (nI (y_29 + 1))) C hK hH 2 7 rfl rfl inX0 (by decide) (nwl_of tn_54 rfl) rfl dX1_readGoing_110 ?_
              refine lv_iconst (v := nI 4) C.x C.b dX1_readGoing_113 (by decide) ?_
              refine vn_icmp_ne (tgt := 133) C.x C.b dX1_readGoing_114 (by decide) (by omega) (by omega) (fun c_114 => ?_) (fun c_114 => ?_)
              · refine lv_aload_n C.x C.b dX1_readGoing_133 rfl (lv_at hl 0 rfl) ?_
                refine gGet (v := .ref dr) C hK hH 0 3 rfl rfl inX1 (by decide) tw_89 rfl dX1_readGoing_134 ?_
                refine gGetN (v := .int (nI x_89)) C hK hH 2 8 rfl rfl inX0 (by decide) (nwl_of tn_57 rfl) rfl dX1_readGoing_137 ?_
                refine vn_if_lt (tgt := 152) C.x C.b dX1_readGoing_140 (by decide) (by omega) ?_
                refine lv_aload_n C.x C.b dX1_readGoing_143 rfl (lv_at hl 0 rfl) ?_
                refine lv_bipush (v := nI 44) C.x C.b dX1_readGoing_144 (by decide) ?_
                refine kV (As := [.int (nI 44)]) (isC := [0, 1, 2]) (isR := []) (wr := []) C hK hH (c_take l htr D H.size h0 tx dr t n b_89 f0 f1 f2 f3 f4 f5 f6 (y_29 + 1) (some x_89) none 44 hn (by omega) ht (by omega)) ⟨rfl, rfl, rfl, rfl, by decide⟩ 0 rfl rfl tw_370 tw_372 ts_7 tw_2 kX1_take ⟨by decide +kernel, by decide +kernel, (by decide +kernel : (parseMethodDescriptor yX1_take.desc).map (fun d => d.parameters.length) = some 1)⟩ ⟨(Nat.le_of_ble_eq_true rfl), (Nat.le_of_ble_eq_true rfl)⟩ hl.1 (Nat.le_of_ble_eq_true rfl) dX1_readGoing_146 ⟨(Nat.le_of_ble_eq_true rfl), (Nat.le_of_ble_eq_true rfl)⟩ (fun v9 w9 H locs hN hH => ?_) (fun _ _ _ _ _ _ h => False.elim h)
                rcases hN with ⟨k_146, kl_146, rfl, rfl⟩ | ⟨k_146, rfl, rfl⟩
                · have hH : Hp D A s ([(h0, .inr (1, [.ref tx, .int (nI n), .int (nI (b_89 + 1)), .ref dr])), (tx, .inl (D.1 10, 40, .inl (fun j => nI (t j)))), (dr, .inr (0, [.int (nI f0), .int (nI f1), .int (nI f2), .int (nI f3), .int (nI f4), .int (nI f5), .int (bI f6), .int (nI (y_29 + 1)), .int (oI (some x_89)), .int (oI none)]))]) H locs := hH
                  refine W.eq (g2 := F0 m 149 ls [.int (nI 1)]) rfl ?_
                  refine vn_if_ne (tgt := 154) C.x C.b dX1_readGoing_149 (by decide) (by omega) (fun _ => ?_) (fun q => absurd q (by decide))
                  refine lv_aload_n C.x C.b dX1_readGoing_154 rfl (lv_at hl 0 rfl) ?_
                  refine gGet (v := .ref dr) C hK hH 0 3 rfl rfl inX1 (by decide) tw_89 rfl dX1_readGoing_155 ?_
                  refine lv_aload_n C.x C.b dX1_readGoing_158 rfl (lv_at hl 0 rfl) ?_
                  refine kV (As := []) (isC := [0, 1, 2]) (isR := []) (wr := []) C hK hH (c_takeNumber l htr D H.size h0 tx dr t n (b_89 + 1) f0 f1 f2 f3 f4 f5 f6 (y_29 + 1) (some x_89) none hn (by omega) ht) ⟨rfl, rfl, rfl, rfl, by decide⟩ 0 rfl rfl tw_399 tw_401 ts_14 tw_2 kX1_takeNumber ⟨by decide +kernel, by decide +kernel, (by decide +kernel : (parseMethodDescriptor yX1_takeNumber.desc).map (fun d => d.parameters.length) = some 0)⟩ ⟨(Nat.le_of_ble_eq_true rfl), (Nat.le_of_ble_eq_true rfl)⟩ hl.1 (Nat.le_of_ble_eq_true rfl) dX1_readGoing_159 ⟨(Nat.le_of_ble_eq_true rfl), (Nat.le_of_ble_eq_true rfl)⟩ (fun v9 w9 H locs hN hH => ?_) (fun _ _ _ _ _ _ h => False.elim h)
                  rcases hN with ⟨x_159, b_159, hb_159, hx63_159, ka_159, kl_159, rfl, rfl⟩ | ⟨hb_159, rfl, rfl⟩
                  · have hH : Hp D A s ([(h0, .inr (1, [.ref tx, .int (nI n), .int (nI b_159), .ref dr])), (tx, .inl (D.1 10, 40, .inl (fun j => nI (t j)))), (dr, .inr (0, [.int (nI f0), .int (nI f1), .int (nI f2), .int (nI f3), .int (nI f4), .int (nI f5), .int (bI f6), .int (nI (y_29 + 1)), .int (oI (some x_89)), .int (oI none)]))]) H locs := hH
                    refine W.eq (g2 := F0 m 162 ls [.int (nI x_159), .ref dr]) rfl ?_
                    refine gPutN (v := .int (nI x_159)) (ws' := [(h0, .inr (1, [.ref tx, .int (nI n), .int (nI b_159), .ref dr])), (tx, .inl (D.1 10, 40, .inl (fun j => nI (t j)))), (dr, .inr (0, [.int (nI f0), .int (nI f1), .int (nI f2), .int (nI f3), .int (nI f4), .int (nI f5), .int (bI f6), .int (nI (y_29 + 1)), .int (oI (some x_89)), .int (nI x_159)]))]) C hK hH 2 9 tyX0 tyX0_ok nmX0 rfl rfl inX0 (by decide) (nwl_of tn_60 rfl) rfl rfl rfl (Nat.le_of_ble_eq_true rfl) rfl dX1_readGoing_162 (fun H locs hH => ?_)
                    refine lv_aload_n C.x C.b dX1_readGoing_165 rfl (lv_at hl 0 rfl) ?_
                    refine gGet (v := .ref dr) C hK hH 0 3 rfl rfl inX1 (by decide) tw_89 rfl dX1_readGoing_166 ?_
                    refine gGetN (v := .int (nI x_159)) C hK hH 2 9 rfl rfl inX0 (by decide) (nwl_of tn_60 rfl) rfl dX1_readGoing_169 ?_
                    refine vn_if_lt (tgt := 179) C.x C.b dX1_readGoing_172 (by decide) (by omega) ?_
                    refine lv_iconst (v := nI 1) C.x C.b dX1_readGoing_175 (by decide) ?_
                    refine lv_goto (tgt := 180) C.x C.b dX1_readGoing_176 (by decide) ?_
                    exact rZ C hr (by decide) hH (Or.inr (Or.inl ⟨(b_159, some x_89, some x_159), by rw [gl_some (by omega) hx_29]; omega, by rw [gl_some (by omega) hx_29]; unfold gg; rw [if_neg (by omega), hb_89]; show (if _ then _ else _) = _; rw [if_neg (by omega), k_146, hb_159]; (try rfl), by omega, by omega, rfl, by rw [gl_some (by omega) hx_29]; first | done | rfl⟩)) (Nat.le_of_ble_eq_true rfl) (Nat.le_of_ble_eq_true rfl) dX1_readGoing_180
                  · have hH : Hp D A s ([(h0, .inr (1, [.ref tx, .int (nI n), .int (nI (b_89 + 1)), .ref dr])), (tx, .inl (D.1 10, 40, .inl (fun j => nI (t j)))), (dr, .inr (0, [.int (nI f0), .int (nI f1), .int (nI f2), .int (nI f3), .int (nI f4), .int (nI f5), .int (bI f6), .int (nI (y_29 + 1)), .int (oI (some x_89)), .int (oI none)]))]) H locs := hH
                    refine W.eq (g2 := F0 m 162 ls [.int (-1), .ref dr]) rfl ?_
                    refine gPutN (v := .int (-1)) (ws' := [(h0, .inr (1, [.ref tx, .int (nI n), .int (nI (b_89 + 1)), .ref dr])), (tx, .inl (D.1 10, 40, .inl (fun j => nI (t j)))), (dr, .inr (0, [.int (nI f0), .int (nI f1), .int (nI f2), .int (nI f3), .int (nI f4), .int (nI f5), .int (bI f6), .int (nI (y_29 + 1)), .int (oI (some x_89)), .int (-1)]))]) C hK hH 2 9 tyX0 tyX0_ok nmX0 rfl rfl inX0 (by decide) (nwl_of tn_60 rfl) rfl rfl rfl (Nat.le_of_ble_eq_true rfl) rfl dX1_readGoing_162 (fun H locs hH => ?_)
                    refine lv_aload_n C.x C.b dX1_readGoing_165 rfl (lv_at hl 0 rfl) ?_
                    refine gGet (v := .ref dr) C hK hH 0 3 rfl rfl inX1 (by decide) tw_89 rfl dX1_readGoing_166 ?_
                    refine gGetN (v := .int (-1)) C hK hH 2 9 rfl rfl inX0 (by decide) (nwl_of tn_60 rfl) rfl dX1_readGoing_169 ?_
                    refine lv_if_lt (tgt := 179) C.x C.b dX1_readGoing_172 (by decide) (fun _ => ?_) (fun q => absurd (by decide) q)
                    refine lv_iconst (v := nI 0) C.x C.b dX1_readGoing_179 (by decide) ?_
                    exact rZ C hr (by decide) hH (Or.inr (Or.inr ⟨b_89 + 1, some x_89, none, by rw [gl_some (by omega) hx_29]; omega, by rw [gl_some (by omega) hx_29]; unfold gg; rw [if_neg (by omega), hb_89]; show (if _ then _ else _) = _; rw [if_neg (by omega), k_146, hb_159]; (try rfl), by omega, rfl, by rw [gl_some (by omega) hx_29]; first | done | rfl⟩)) (Nat.le_of_ble_eq_true rfl) (Nat.le_of_ble_eq_true rfl) dX1_readGoing_180
                · have hH : Hp D A s ([(h0, .inr (1, [.ref tx, .int (nI n), .int (nI b_89), .ref dr])), (tx, .inl (D.1 10, 40, .inl (fun j => nI (t j)))), (dr, .inr (0, [.int (nI f0), .int (nI f1), .int (nI f2), .int (nI f3), .int (nI f4), .int (nI f5), .int (bI f6), .int (nI (y_29 + 1)), .int (oI (some x_89)), .int (oI none)]))]) H locs := hH
                  refine W.eq (g2 := F0 m 149 ls [.int (nI 0)]) rfl ?_
                  refine vn_if_ne (tgt := 154) C.x C.b dX1_readGoing_149 (by decide) (by omega) (fun q => absurd q (by decide)) (fun _ => ?_)
                  refine lv_iconst (v := nI 0) C.x C.b dX1_readGoing_152 (by decide) ?_
                  exact rZ C hr (by decide) hH (Or.inr (Or.inr ⟨b_89, some x_89, none, by rw [gl_some (by omega) hx_29]; omega, by rw [gl_some (by omega) hx_29]; unfold gg; rw [if_neg (by omega), hb_89]; show (if _ then _ else _) = _; rw [if_neg (by omega), k_146]; rfl, by omega, rfl, by rw [gl_some (by omega) hx_29]; first | done | rfl⟩)) (Nat.le_of_ble_eq_true rfl) (Nat.le_of_ble_eq_true rfl) dX1_readGoing_153
              · refine lv_aload_n C.x C.b dX1_readGoing_117 rfl (lv_at hl 0 rfl) ?_
                refine gGet (v := .ref dr) C hK hH 0 3 rfl rfl inX1 (by decide) tw_89 rfl dX1_readGoing_118 ?_
                refine gGetN (v := .int (nI x_89)) C hK hH 2 8 rfl rfl inX0 (by decide) (nwl_of tn_57 rfl) rfl dX1_readGoing_121 ?_
                refine vn_if_lt (tgt := 131) C.x C.b dX1_readGoing_124 (by decide) (by omega) ?_
                refine lv_iconst (v := nI 1) C.x C.b dX1_readGoing_127 (by decide) ?_
                refine lv_goto (tgt := 132) C.x C.b dX1_readGoing_128 (by decide) ?_
                exact rZ C hr (by decide) hH (Or.inr (Or.inl ⟨(b_89, some x_89, none), by rw [gl_some (by omega) hx_29]; omega, by rw [gl_some (by omega) hx_29]; unfold gg; rw [if_neg (by omega), hb_89]; exact if_pos (by omega), by omega, by omega, rfl, by rw [gl_some (by omega) hx_29]; first | done | rfl⟩)) (Nat.le_of_ble_eq_true rfl) (Nat.le_of_ble_eq_true rfl) dX1_readGoing_132
          · have hH : Hp D A s ([(h0, .inr (1, [.ref tx, .int (nI n), .int (nI (a + 1)), .ref dr])), (tx, .inl (D.1 10, 40, .inl (fun j => nI (t j)))), (dr, .inr (0, [.int (nI f0), .int (nI f1), .int (nI f2), .int (nI f3), .int (nI f4), .int (nI f5), .int (bI f6), .int (nI (y_29 + 1)), .int (oI none), .int (oI none)]))]) H locs := hH
            refine W.eq (g2 := F0 m 92 ls [.int (-1), .ref dr]) rfl ?_
            refine gPutN (v := .int (-1)) (ws' := [(h0, .inr (1, [.ref tx, .int (nI n), .int (nI (a + 1)), .ref dr])), (tx, .inl (D.1 10, 40, .inl (fun j => nI (t j)))), (dr, .inr (0, [.int (nI f0), .int (nI f1), .int (nI f2), .int (nI f3), .int (nI f4), .int (nI f5), .int (bI f6), .int (nI (y_29 + 1)), .int (-1), .int (oI none)]))]) C hK hH 2 8 tyX0 tyX0_ok nmX0 rfl rfl inX0 (by decide) (nwl_of tn_57 rfl) rfl rfl rfl (Nat.le_of_ble_eq_true rfl) rfl dX1_readGoing_92 (fun H locs hH => ?_)
            refine lv_aload_n C.x C.b dX1_readGoing_95 rfl (lv_at hl 0 rfl) ?_
            refine gGet (v := .ref dr) C hK hH 0 3 rfl rfl inX1 (by decide) tw_89 rfl dX1_readGoing_96 ?_
            refine gGetN (v := .int (nI (y_29 + 1))) C hK hH 2 7 rfl rfl inX0 (by decide) (nwl_of tn_54 rfl) rfl dX1_readGoing_99 ?_
            refine lv_iconst (v := nI 1) C.x C.b dX1_readGoing_102 (by decide) ?_
            refine vn_icmp_eq (tgt := 117) C.x C.b dX1_readGoing_103 (by decide) (by omega) (by omega) (fun c_103 => ?_) (fun c_103 => ?_)
            · refine lv_aload_n C.x C.b dX1_readGoing_117 rfl (lv_at hl 0 rfl) ?_
              refine gGet (v := .ref dr) C hK hH 0 3 rfl rfl inX1 (by decide) tw_89 rfl dX1_readGoing_118 ?_
              refine gGetN (v := .int (-1)) C hK hH 2 8 rfl rfl inX0 (by decide) (nwl_of tn_57 rfl) rfl dX1_readGoing_121 ?_
              refine lv_if_lt (tgt := 131) C.x C.b dX1_readGoing_124 (by decide) (fun _ => ?_) (fun q => absurd (by decide) q)
              refine lv_iconst (v := nI 0) C.x C.b dX1_readGoing_131 (by decide) ?_
              exact rZ C hr (by decide) hH (Or.inr (Or.inr ⟨a + 1, none, none, by rw [gl_some (by omega) hx_29]; omega, by rw [gl_some (by omega) hx_29]; unfold gg; rw [if_neg (by omega), hb_89], by omega, rfl, by rw [gl_some (by omega) hx_29]; first | done | rfl⟩)) (Nat.le_of_ble_eq_true rfl) (Nat.le_of_ble_eq_true rfl) dX1_readGoing_132
            · refine lv_aload_n C.x C.b dX1_readGoing_106 rfl (lv_at hl 0 rfl) ?_
              refine gGet (v := .ref dr) C hK hH 0 3 rfl rfl inX1 (by decide) tw_89 rfl dX1_readGoing_107 ?_
              refine gGetN (v := .int (nI (y_29 + 1))) C hK hH 2 7 rfl rfl inX0 (by decide) (nwl_of tn_54 rfl) rfl dX1_readGoing_110 ?_
              refine lv_iconst (v := nI 4) C.x C.b dX1_readGoing_113 (by decide) ?_
              refine vn_icmp_ne (tgt := 133) C.x C.b dX1_readGoing_114 (by decide) (by omega) (by omega) (fun c_114 => ?_) (fun c_114 => ?_)
              · refine lv_aload_n C.x C.b dX1_readGoing_133 rfl (lv_at hl 0 rfl) ?_
                refine gGet (v := .ref dr) C hK hH 0 3 rfl rfl inX1 (by decide) tw_89 rfl dX1_readGoing_134 ?_
                refine gGetN (v := .int (-1)) C hK hH 2 8 rfl rfl inX0 (by decide) (nwl_of tn_57 rfl) rfl dX1_readGoing_137 ?_
                refine lv_if_lt (tgt := 152) C.x C.b dX1_readGoing_140 (by decide) (fun _ => ?_) (fun q => absurd (by decide) q)
                refine lv_iconst (v := nI 0) C.x C.b dX1_readGoing_152 (by decide) ?_
                exact rZ C hr (by decide) hH (Or.inr (Or.inr ⟨a + 1, none, none, by rw [gl_some (by omega) hx_29]; omega, by rw [gl_some (by omega) hx_29]; unfold gg; rw [if_neg (by omega), hb_89], by omega, rfl, by rw [gl_some (by omega) hx_29]; first | done | rfl⟩)) (Nat.le_of_ble_eq_true rfl) (Nat.le_of_ble_eq_true rfl) dX1_readGoing_153
              · refine lv_aload_n C.x C.b dX1_readGoing_117 rfl (lv_at hl 0 rfl) ?_
                refine gGet (v := .ref dr) C hK hH 0 3 rfl rfl inX1 (by decide) tw_89 rfl dX1_readGoing_118 ?_
                refine gGetN (v := .int (-1)) C hK hH 2 8 rfl rfl inX0 (by decide) (nwl_of tn_57 rfl) rfl dX1_readGoing_121 ?_
                refine lv_if_lt (tgt := 131) C.x C.b dX1_readGoing_124 (by decide) (fun _ => ?_) (fun q => absurd (by decide) q)
                refine lv_iconst (v := nI 0) C.x C.b dX1_readGoing_131 (by decide) ?_
                exact rZ C hr (by decide) hH (Or.inr (Or.inr ⟨a + 1, none, none, by rw [gl_some (by omega) hx_29]; omega, by rw [gl_some (by omega) hx_29]; unfold gg; rw [if_neg (by omega), hb_89], by omega, rfl, by rw [gl_some (by omega) hx_29]; first | done | rfl⟩)) (Nat.le_of_ble_eq_true rfl) (Nat.le_of_ble_eq_true rfl) dX1_readGoing_132
        · refine lv_aload_n C.x C.b dX1_readGoing_71 rfl (lv_at hl 0 rfl) ?_
          refine gGet (v := .int (nI (a + 1))) C hK hH 0 2 rfl rfl inX1 (by decide) tw_87 rfl dX1_readGoing_72 ?_
          refine lv_aload_n C.x C.b dX1_readGoing_75 rfl (lv_at hl 0 rfl) ?_
          refine gGet (v := .int (nI n)) C hK hH 0 1 rfl rfl inX1 (by decide) tw_85 rfl dX1_readGoing_76 ?_
          refine vn_icmp_ne (tgt := 84) C.x C.b dX1_readGoing_79 (by decide) (by omega) (by omega) (fun c_79 => ?_) (fun c_79 => ?_)
          · refine lv_aload_n C.x C.b dX1_readGoing_84 rfl (lv_at hl 0 rfl) ?_
            refine gGet (v := .ref dr) C hK hH 0 3 rfl rfl inX1 (by decide) tw_89 rfl dX1_readGoing_85 ?_
            refine lv_aload_n C.x C.b dX1_readGoing_88 rfl (lv_at hl 0 rfl) ?_
            refine kV (As := []) (isC := [0, 1, 2]) (isR := []) (wr := []) C hK hH (c_takeNumber l htr D H.size h0 tx dr t n (a + 1) f0 f1 f2 f3 f4 f5 f6 (y_29 + 1) none none hn (by omega) ht) ⟨rfl, rfl, rfl, rfl, by decide⟩ 0 rfl rfl tw_399 tw_401 ts_14 tw_2 kX1_takeNumber ⟨by decide +kernel, by decide +kernel, (by decide +kernel : (parseMethodDescriptor yX1_takeNumber.desc).map (fun d => d.parameters.length) = some 0)⟩ ⟨(Nat.le_of_ble_eq_true rfl), (Nat.le_of_ble_eq_true rfl)⟩ hl.1 (Nat.le_of_ble_eq_true rfl) dX1_readGoing_89 ⟨(Nat.le_of_ble_eq_true rfl), (Nat.le_of_ble_eq_true rfl)⟩ (fun v9 w9 H locs hN hH => ?_) (fun _ _ _ _ _ _ h => False.elim h)
            rcases hN with ⟨x_89, b_89, hb_89, hx63_89, ka_89, kl_89, rfl, rfl⟩ | ⟨hb_89, rfl, rfl⟩
            · have hH : Hp D A s ([(h0, .inr (1, [.ref tx, .int (nI n), .int (nI b_89), .ref dr])), (tx, .inl (D.1 10, 40, .inl (fun j => nI (t j)))), (dr, .inr (0, [.int (nI f0), .int (nI f1), .int (nI f2), .int (nI f3), .int (nI f4), .int (nI f5), .int (bI f6), .int (nI (y_29 + 1)), .int (oI none), .int (oI none)]))]) H locs := hH
              refine W.eq (g2 := F0 m 92 ls [.int (nI x_89), .ref dr]) rfl ?_
              refine gPutN (v := .int (nI x_89)) (ws' := [(h0, .inr (1, [.ref tx, .int (nI n), .int (nI b_89), .ref dr])), (tx, .inl (D.1 10, 40, .inl (fun j => nI (t j)))), (dr, .inr (0, [.int (nI f0), .int (nI f1), .int (nI f2), .int (nI f3), .int (nI f4), .int (nI f5), .int (bI f6), .int (nI (y_29 + 1)), .int (nI x_89), .int (oI none)]))]) C hK hH 2 8 tyX0 tyX0_ok nmX0 rfl rfl inX0 (by decide) (nwl_of tn_57 rfl) rfl rfl rfl (Nat.le_of_ble_eq_true rfl) rfl dX1_readGoing_92 (fun H locs hH => ?_)
              refine lv_aload_n C.x C.b dX1_readGoing_95 rfl (lv_at hl 0 rfl) ?_
              refine gGet (v := .ref dr) C hK hH 0 3 rfl rfl inX1 (by decide) tw_89 rfl dX1_readGoing_96 ?_
              refine gGetN (v := .int (nI (y_29 + 1))) C hK hH 2 7 rfl rfl inX0 (by decide) (nwl_of tn_54 rfl) rfl dX1_readGoing_99 ?_
              refine lv_iconst (v := nI 1) C.x C.b dX1_readGoing_102 (by decide) ?_
              refine vn_icmp_eq (tgt := 117) C.x C.b dX1_readGoing_103 (by decide) (by omega) (by omega) (fun c_103 => ?_) (fun c_103 => ?_)
              · refine lv_aload_n C.x C.b dX1_readGoing_117 rfl (lv_at hl 0 rfl) ?_
                refine gGet (v := .ref dr) C hK hH 0 3 rfl rfl inX1 (by decide) tw_89 rfl dX1_readGoing_118 ?_
                refine gGetN (v := .int (nI x_89)) C hK hH 2 8 rfl rfl inX0 (by decide) (nwl_of tn_57 rfl) rfl dX1_readGoing_121 ?_
                refine vn_if_lt (tgt := 131) C.x C.b dX1_readGoing_124 (by decide) (by omega) ?_
                refine lv_iconst (v := nI 1) C.x C.b dX1_readGoing_127 (by decide) ?_
                refine lv_goto (tgt := 132) C.x C.b dX1_readGoing_128 (by decide) ?_
                exact rZ C hr (by decide) hH (Or.inr (Or.inl ⟨(b_89, some x_89, none), by rw [gl_some (by omega) hx_29]; omega, by rw [gl_some (by omega) hx_29]; unfold gg; rw [if_neg (by omega), hb_89]; exact if_pos (by omega), by omega, by omega, rfl, by rw [gl_some (by omega) hx_29]; first | done | rfl⟩)) (Nat.le_of_ble_eq_true rfl) (Nat.le_of_ble_eq_true rfl) dX1_readGoing_132
              · refine lv_aload_n C.x C.b dX1_readGoing_106 rfl (lv_at hl 0 rfl) ?_
                refine gGet (v := .ref dr) C hK hH 0 3 rfl rfl inX1 (by decide) tw_89 rfl dX1_readGoing_107 ?_
                refine gGetN (v := .int (nI (y_29 + 1))) C hK hH 2 7 rfl rfl inX0 (by decide) (nwl_of tn_54 rfl) rfl dX1_readGoing_110 ?_
                refine lv_iconst (v := nI 4) C.x C.b dX1_readGoing_113 (by decide) ?_
                refine vn_icmp_ne (tgt := 133) C.x C.b dX1_readGoing_114 (by decide) (by omega) (by omega) (fun c_114 => ?_) (fun c_114 => ?_)
                · refine lv_aload_n C.x C.b dX1_readGoing_133 rfl (lv_at hl 0 rfl) ?_
                  refine gGet (v := .ref dr) C hK hH 0 3 rfl rfl inX1 (by decide) tw_89 rfl dX1_readGoing_134 ?_
                  refine gGetN (v := .int (nI x_89)) C hK hH 2 8 rfl rfl inX0 (by decide) (nwl_of tn_57 rfl) rfl dX1_readGoing_137 ?_
                  refine vn_if_lt (tgt := 152) C.x C.b dX1_readGoing_140 (by decide) (by omega) ?_
                  refine lv_aload_n C.x C.b dX1_readGoing_143 rfl (lv_at hl 0 rfl) ?_
                  refine lv_bipush (v := nI 44) C.x C.b dX1_readGoing_144 (by decide) ?_
                  refine kV (As := [.int (nI 44)]) (isC := [0, 1, 2]) (isR := []) (wr := []) C hK hH (c_take l htr D H.size h0 tx dr t n b_89 f0 f1 f2 f3 f4 f5 f6 (y_29 + 1) (some x_89) none 44 hn (by omega) ht (by omega)) ⟨rfl, rfl, rfl, rfl, by decide⟩ 0 rfl rfl tw_370 tw_372 ts_7 tw_2 kX1_take ⟨by decide +kernel, by decide +kernel, (by decide +kernel : (parseMethodDescriptor yX1_take.desc).map (fun d => d.parameters.length) = some 1)⟩ ⟨(Nat.le_of_ble_eq_true rfl), (Nat.le_of_ble_eq_true rfl)⟩ hl.1 (Nat.le_of_ble_eq_true rfl) dX1_readGoing_146 ⟨(Nat.le_of_ble_eq_true rfl), (Nat.le_of_ble_eq_true rfl)⟩ (fun v9 w9 H locs hN hH => ?_) (fun _ _ _ _ _ _ h => False.elim h)
                  rcases hN with ⟨k_146, kl_146, rfl, rfl⟩ | ⟨k_146, rfl, rfl⟩
                  · have hH : Hp D A s ([(h0, .inr (1, [.ref tx, .int (nI n), .int (nI (b_89 + 1)), .ref dr])), (tx, .inl (D.1 10, 40, .inl (fun j => nI (t j)))), (dr, .inr (0, [.int (nI f0), .int (nI f1), .int (nI f2), .int (nI f3), .int (nI f4), .int (nI f5), .int (bI f6), .int (nI (y_29 + 1)), .int (oI (some x_89)), .int (oI none)]))]) H locs := hH
                    refine W.eq (g2 := F0 m 149 ls [.int (nI 1)]) rfl ?_
                    refine vn_if_ne (tgt := 154) C.x C.b dX1_readGoing_149 (by decide) (by omega) (fun _ => ?_) (fun q => absurd q (by decide))
                    refine lv_aload_n C.x C.b dX1_readGoing_154 rfl (lv_at hl 0 rfl) ?_
                    refine gGet (v := .ref dr) C hK hH 0 3 rfl rfl inX1 (by decide) tw_89 rfl dX1_readGoing_155 ?_
                    refine lv_aload_n C.x C.b dX1_readGoing_158 rfl (lv_at hl 0 rfl) ?_
                    refine kV (As := []) (isC := [0, 1, 2]) (isR := []) (wr := []) C hK hH (c_takeNumber l htr D H.size h0 tx dr t n (b_89 + 1) f0 f1 f2 f3 f4 f5 f6 (y_29 + 1) (some x_89) none hn (by omega) ht) ⟨rfl, rfl, rfl, rfl, by decide⟩ 0 rfl rfl tw_399 tw_401 ts_14 tw_2 kX1_takeNumber ⟨by decide +kernel, by decide +kernel, (by decide +kernel : (parseMethodDescriptor yX1_takeNumber.desc).map (fun d => d.parameters.length) = some 0)⟩ ⟨(Nat.le_of_ble_eq_true rfl), (Nat.le_of_ble_eq_true rfl)⟩ hl.1 (Nat.le_of_ble_eq_true rfl) dX1_readGoing_159 ⟨(Nat.le_of_ble_eq_true rfl), (Nat.le_of_ble_eq_true rfl)⟩ (fun v9 w9 H locs hN hH => ?_) (fun _ _ _ _ _ _ h => False.elim h)
                    rcases hN with ⟨x_159, b_159, hb_159, hx63_159, ka_159, kl_159, rfl, rfl⟩ | ⟨hb_159, rfl, rfl⟩
                    · have hH : Hp D A s ([(h0, .inr (1, [.ref tx, .int (nI n), .int (nI b_159), .ref dr])), (tx, .inl (D.1 10, 40, .inl (fun j => nI (t j)))), (dr, .inr (0, [.int (nI f0), .int (nI f1), .int (nI f2), .int (nI f3), .int (nI f4), .int (nI f5), .int (bI f6), .int (nI (y_29 + 1)), .int (oI (some x_89)), .int (oI none)]))]) H locs := hH
                      refine W.eq (g2 := F0 m 162 ls [.int (nI x_159), .ref dr]) rfl ?_
                      refine gPutN (v := .int (nI x_159)) (ws' := [(h0, .inr (1, [.ref tx, .int (nI n), .int (nI b_159), .ref dr])), (tx, .inl (D.1 10, 40, .inl (fun j => nI (t j)))), (dr, .inr (0, [.int (nI f0), .int (nI f1), .int (nI f2), .int (nI f3), .int (nI f4), .int (nI f5), .int (bI f6), .int (nI (y_29 + 1)), .int (oI (some x_89)), .int (nI x_159)]))]) C hK hH 2 9 tyX0 tyX0_ok nmX0 rfl rfl inX0 (by decide) (nwl_of tn_60 rfl) rfl rfl rfl (Nat.le_of_ble_eq_true rfl) rfl dX1_readGoing_162 (fun H locs hH => ?_)
                      refine lv_aload_n C.x C.b dX1_readGoing_165 rfl (lv_at hl 0 rfl) ?_
                      refine gGet (v := .ref dr) C hK hH 0 3 rfl rfl inX1 (by decide) tw_89 rfl dX1_readGoing_166 ?_
                      refine gGetN (v := .int (nI x_159)) C hK hH 2 9 rfl rfl inX0 (by decide) (nwl_of tn_60 rfl) rfl dX1_readGoing_169 ?_
                      refine vn_if_lt (tgt := 179) C.x C.b dX1_readGoing_172 (by decide) (by omega) ?_
                      refine lv_iconst (v := nI 1) C.x C.b dX1_readGoing_175 (by decide) ?_
                      refine lv_goto (tgt := 180) C.x C.b dX1_readGoing_176 (by decide) ?_
                      exact rZ C hr (by decide) hH (Or.inr (Or.inl ⟨(b_159, some x_89, some x_159), by rw [gl_some (by omega) hx_29]; omega, by rw [gl_some (by omega) hx_29]; unfold gg; rw [if_neg (by omega), hb_89]; show (if _ then _ else _) = _; rw [if_neg (by omega), k_146, hb_159]; (try rfl), by omega, by omega, rfl, by rw [gl_some (by omega) hx_29]; first | done | rfl⟩)) (Nat.le_of_ble_eq_true rfl) (Nat.le_of_ble_eq_true rfl) dX1_readGoing_180
                    · have hH : Hp D A s ([(h0, .inr (1, [.ref tx, .int (nI n), .int (nI (b_89 + 1)), .ref dr])), (tx, .inl (D.1 10, 40, .inl (fun j => nI (t j)))), (dr, .inr (0, [.int (nI f0), .int (nI f1), .int (nI f2), .int (nI f3), .int (nI f4), .int (nI f5), .int (bI f6), .int (nI (y_29 + 1)), .int (oI (some x_89)), .int (oI none)]))]) H locs := hH
                      refine W.eq (g2 := F0 m 162 ls [.int (-1), .ref dr]) rfl ?_
                      refine gPutN (v := .int (-1)) (ws' := [(h0, .inr (1, [.ref tx, .int (nI n), .int (nI (b_89 + 1)), .ref dr])), (tx, .inl (D.1 10, 40, .inl (fun j => nI (t j)))), (dr, .inr (0, [.int (nI f0), .int (nI f1), .int (nI f2), .int (nI f3), .int (nI f4), .int (nI f5), .int (bI f6), .int (nI (y_29 + 1)), .int (oI (some x_89)), .int (-1)]))]) C hK hH 2 9 tyX0 tyX0_ok nmX0 rfl rfl inX0 (by decide) (nwl_of tn_60 rfl) rfl rfl rfl (Nat.le_of_ble_eq_true rfl) rfl dX1_readGoing_162 (fun H locs hH => ?_)
                      refine lv_aload_n C.x C.b dX1_readGoing_165 rfl (lv_at hl 0 rfl) ?_
                      refine gGet (v := .ref dr) C hK hH 0 3 rfl rfl inX1 (by decide) tw_89 rfl dX1_readGoing_166 ?_
                      refine gGetN (v := .int (-1)) C hK hH 2 9 rfl rfl inX0 (by decide) (nwl_of tn_60 rfl) rfl dX1_readGoing_169 ?_
                      refine lv_if_lt (tgt := 179) C.x C.b dX1_readGoing_172 (by decide) (fun _ => ?_) (fun q => absurd (by decide) q)
                      refine lv_iconst (v := nI 0) C.x C.b dX1_readGoing_179 (by decide) ?_
                      exact rZ C hr (by decide) hH (Or.inr (Or.inr ⟨b_89 + 1, some x_89, none, by rw [gl_some (by omega) hx_29]; omega, by rw [gl_some (by omega) hx_29]; unfold gg; rw [if_neg (by omega), hb_89]; show (if _ then _ else _) = _; rw [if_neg (by omega), k_146, hb_159]; (try rfl), by omega, rfl, by rw [gl_some (by omega) hx_29]; first | done | rfl⟩)) (Nat.le_of_ble_eq_true rfl) (Nat.le_of_ble_eq_true rfl) dX1_readGoing_180
                  · have hH : Hp D A s ([(h0, .inr (1, [.ref tx, .int (nI n), .int (nI b_89), .ref dr])), (tx, .inl (D.1 10, 40, .inl (fun j => nI (t j)))), (dr, .inr (0, [.int (nI f0), .int (nI f1), .int (nI f2), .int (nI f3), .int (nI f4), .int (nI f5), .int (bI f6), .int (nI (y_29 + 1)), .int (oI (some x_89)), .int (oI none)]))]) H locs := hH
                    refine W.eq (g2 := F0 m 149 ls [.int (nI 0)]) rfl ?_
                    refine vn_if_ne (tgt := 154) C.x C.b dX1_readGoing_149 (by decide) (by omega) (fun q => absurd q (by decide)) (fun _ => ?_)
                    refine lv_iconst (v := nI 0) C.x C.b dX1_readGoing_152 (by decide) ?_
                    exact rZ C hr (by decide) hH (Or.inr (Or.inr ⟨b_89, some x_89, none, by rw [gl_some (by omega) hx_29]; omega, by rw [gl_some (by omega) hx_29]; unfold gg; rw [if_neg (by omega), hb_89]; show (if _ then _ else _) = _; rw [if_neg (by omega), k_146]; rfl, by omega, rfl, by rw [gl_some (by omega) hx_29]; first | done | rfl⟩)) (Nat.le_of_ble_eq_true rfl) (Nat.le_of_ble_eq_true rfl) dX1_readGoing_153
                · refine lv_aload_n C.x C.b dX1_readGoing_117 rfl (lv_at hl 0 rfl) ?_
                  refine gGet (v := .ref dr) C hK hH 0 3 rfl rfl inX1 (by decide) tw_89 rfl dX1_readGoing_118 ?_
                  refine gGetN (v := .int (nI x_89)) C hK hH 2 8 rfl rfl inX0 (by decide) (nwl_of tn_57 rfl) rfl dX1_readGoing_121 ?_
                  refine vn_if_lt (tgt := 131) C.x C.b dX1_readGoing_124 (by decide) (by omega) ?_
                  refine lv_iconst (v := nI 1) C.x C.b dX1_readGoing_127 (by decide) ?_
                  refine lv_goto (tgt := 132) C.x C.b dX1_readGoing_128 (by decide) ?_
                  exact rZ C hr (by decide) hH (Or.inr (Or.inl ⟨(b_89, some x_89, none), by rw [gl_some (by omega) hx_29]; omega, by rw [gl_some (by omega) hx_29]; unfold gg; rw [if_neg (by omega), hb_89]; exact if_pos (by omega), by omega, by omega, rfl, by rw [gl_some (by omega) hx_29]; first | done | rfl⟩)) (Nat.le_of_ble_eq_true rfl) (Nat.le_of_ble_eq_true rfl) dX1_readGoing_132
            · have hH : Hp D A s ([(h0, .inr (1, [.ref tx, .int (nI n), .int (nI (a + 1)), .ref dr])), (tx, .inl (D.1 10, 40, .inl (fun j => nI (t j)))), (dr, .inr (0, [.int (nI f0), .int (nI f1), .int (nI f2), .int (nI f3), .int (nI f4), .int (nI f5), .int (bI f6), .int (nI (y_29 + 1)), .int (oI none), .int (oI none)]))]) H locs := hH
              refine W.eq (g2 := F0 m 92 ls [.int (-1), .ref dr]) rfl ?_
              refine gPutN (v := .int (-1)) (ws' := [(h0, .inr (1, [.ref tx, .int (nI n), .int (nI (a + 1)), .ref dr])), (tx, .inl (D.1 10, 40, .inl (fun j => nI (t j)))), (dr, .inr (0, [.int (nI f0), .int (nI f1), .int (nI f2), .int (nI f3), .int (nI f4), .int (nI f5), .int (bI f6), .int (nI (y_29 + 1)), .int (-1), .int (oI none)]))]) C hK hH 2 8 tyX0 tyX0_ok nmX0 rfl rfl inX0 (by decide) (nwl_of tn_57 rfl) rfl rfl rfl (Nat.le_of_ble_eq_true rfl) rfl dX1_readGoing_92 (fun H locs hH => ?_)
              refine lv_aload_n C.x C.b dX1_readGoing_95 rfl (lv_at hl 0 rfl) ?_
              refine gGet (v := .ref dr) C hK hH 0 3 rfl rfl inX1 (by decide) tw_89 rfl dX1_readGoing_96 ?_
              refine gGetN (v := .int (nI (y_29 + 1))) C hK hH 2 7 rfl rfl inX0 (by decide) (nwl_of tn_54 rfl) rfl dX1_readGoing_99 ?_
              refine lv_iconst (v := nI 1) C.x C.b dX1_readGoing_102 (by decide) ?_
              refine vn_icmp_eq (tgt := 117) C.x C.b dX1_readGoing_103 (by decide) (by omega) (by omega) (fun c_103 => ?_) (fun c_103 => ?_)
              · refine lv_aload_n C.x C.b dX1_readGoing_117 rfl (lv_at hl 0 rfl) ?_
                refine gGet (v := .ref dr) C hK hH 0 3 rfl rfl inX1 (by decide) tw_89 rfl dX1_readGoing_118 ?_
                refine gGetN (v := .int (-1)) C hK hH 2 8 rfl rfl inX0 (by decide) (nwl_of tn_57 rfl) rfl dX1_readGoing_121 ?_
                refine lv_if_lt (tgt := 131) C.x C.b dX1_readGoing_124 (by decide) (fun _ => ?_) (fun q => absurd (by decide) q)
                refine lv_iconst (v := nI 0) C.x C.b dX1_readGoing_131 (by decide) ?_
                exact rZ C hr (by decide) hH (Or.inr (Or.inr ⟨a + 1, none, none, by rw [gl_some (by omega) hx_29]; omega, by rw [gl_some (by omega) hx_29]; unfold gg; rw [if_neg (by omega), hb_89], by omega, rfl, by rw [gl_some (by omega) hx_29]; first | done | rfl⟩)) (Nat.le_of_ble_eq_true rfl) (Nat.le_of_ble_eq_true rfl) dX1_readGoing_132
              · refine lv_aload_n C.x C.b dX1_readGoing_106 rfl (lv_at hl 0 rfl) ?_
                refine gGet (v := .ref dr) C hK hH 0 3 rfl rfl inX1 (by decide) tw_89 rfl dX1_readGoing_107 ?_
                refine gGetN (v := .int (nI (y_29 + 1))) C hK hH 2 7 rfl rfl inX0 (by decide) (nwl_of tn_54 rfl) rfl dX1_readGoing_110 ?_
                refine lv_iconst (v := nI 4) C.x C.b dX1_readGoing_113 (by decide) ?_
                refine vn_icmp_ne (tgt := 133) C.x C.b dX1_readGoing_114 (by decide) (by omega) (by omega) (fun c_114 => ?_) (fun c_114 => ?_)
                · refine lv_aload_n C.x C.b dX1_readGoing_133 rfl (lv_at hl 0 rfl) ?_
                  refine gGet (v := .ref dr) C hK hH 0 3 rfl rfl inX1 (by decide) tw_89 rfl dX1_readGoing_134 ?_
                  refine gGetN (v := .int (-1)) C hK hH 2 8 rfl rfl inX0 (by decide) (nwl_of tn_57 rfl) rfl dX1_readGoing_137 ?_
                  refine lv_if_lt (tgt := 152) C.x C.b dX1_readGoing_140 (by decide) (fun _ => ?_) (fun q => absurd (by decide) q)
                  refine lv_iconst (v := nI 0) C.x C.b dX1_readGoing_152 (by decide) ?_
                  exact rZ C hr (by decide) hH (Or.inr (Or.inr ⟨a + 1, none, none, by rw [gl_some (by omega) hx_29]; omega, by rw [gl_some (by omega) hx_29]; unfold gg; rw [if_neg (by omega), hb_89], by omega, rfl, by rw [gl_some (by omega) hx_29]; first | done | rfl⟩)) (Nat.le_of_ble_eq_true rfl) (Nat.le_of_ble_eq_true rfl) dX1_readGoing_153
                · refine lv_aload_n C.x C.b dX1_readGoing_117 rfl (lv_at hl 0 rfl) ?_
                  refine gGet (v := .ref dr) C hK hH 0 3 rfl rfl inX1 (by decide) tw_89 rfl dX1_readGoing_118 ?_
                  refine gGetN (v := .int (-1)) C hK hH 2 8 rfl rfl inX0 (by decide) (nwl_of tn_57 rfl) rfl dX1_readGoing_121 ?_
                  refine lv_if_lt (tgt := 131) C.x C.b dX1_readGoing_124 (by decide) (fun _ => ?_) (fun q => absurd (by decide) q)
                  refine lv_iconst (v := nI 0) C.x C.b dX1_readGoing_131 (by decide) ?_
                  exact rZ C hr (by decide) hH (Or.inr (Or.inr ⟨a + 1, none, none, by rw [gl_some (by omega) hx_29]; omega, by rw [gl_some (by omega) hx_29]; unfold gg; rw [if_neg (by omega), hb_89], by omega, rfl, by rw [gl_some (by omega) hx_29]; first | done | rfl⟩)) (Nat.le_of_ble_eq_true rfl) (Nat.le_of_ble_eq_true rfl) dX1_readGoing_132
          · refine lv_iconst (v := nI 1) C.x C.b dX1_readGoing_82 (by decide) ?_
            exact rZ C hr (by decide) hH (Or.inr (Or.inl ⟨(a + 1, none, none), by rw [gl_some (by omega) hx_29]; omega, by rw [gl_some (by omega) hx_29]; exact if_pos (by omega), by omega, by omega, rfl, by rw [gl_some (by omega) hx_29]⟩)) (Nat.le_of_ble_eq_true rfl) (Nat.le_of_ble_eq_true rfl) dX1_readGoing_83
      · exact absurd c_45 (by omega)
set_option maxHeartbeats 4000000 in
set_option maxRecDepth 100000 in
theorem c_isAtTarget (l : Launch) (htr : l.stackTraces = false) (D : va_G) (sz : Nat) (h0 tx dr : Nat) (t : Nat → Nat) (n a : Nat) (f0 f1 f2 f3 f4 f5 : Nat) (f6 : Bool) (f7 : Nat) (f8 f9 : Option Nat) (hn : n ≤ 40) (ha : a ≤ n) (ht : ∀ j, t j < 128) (hf1 : f1 < 512) : Ct l yX1_isAtTarget wX1_isAtTarget { frames := 4, cells := 0, slots := 0, locals := 91 } D ([(h0, .inr (1, [.ref tx, .int (nI n), .int (nI a), .ref dr])), (tx, .inl (D.1 10, 40, .inl (fun j => nI (t j)))), (dr, .inr (0, [.int (nI f0), .int (nI f1), .int (nI f2), .int (nI f3), .int (nI f4), .int (nI f5), .int (bI f6), .int (nI f7), .int (oI f8), .int (oI f9)]))]) [.ref h0] sz (fun v w => (∃ k, ta t n a f1 = some k ∧ k ≤ 8 ∧ ixS 0 (t a) = some k ∧ a < n ∧ v = some (.int (nI 1)) ∧ w = [(h0, .inr (1, [.ref tx, .int (nI n), .int (nI a), .ref dr])), (tx, .inl (D.1 10, 40, .inl (fun j => nI (t j)))), (dr, .inr (0, [.int (nI f0), .int (nI f1), .int (nI f2), .int (nI f3), .int (nI f4), .int (nI f5), .int (bI f6), .int (nI f7), .int (oI f8), .int (oI f9)]))]) ∨ (ta t n a f1 = none ∧ v = some (.int (nI 0)) ∧ w = [(h0, .inr (1, [.ref tx, .int (nI n), .int (nI a), .ref dr])), (tx, .inl (D.1 10, 40, .inl (fun j => nI (t j)))), (dr, .inr (0, [.int (nI f0), .int (nI f1), .int (nI f2), .int (nI f3), .int (nI f4), .int (nI f5), .int (bI f6), .int (nI f7), .int (oI f8), .int (oI f9)]))])) (nox) := by
  refine Ct.of (cc := cX1_isAtTarget) (nL := 3) (ret := (some .boolean)) (own := RX1) htr (by decide) rfl (Nat.le_of_ble_eq_true rfl) ?_
  intro p e s m args below meth c A C hr hK H locs hH ls hl
  have hl : lv_has ls 3 [(0, .ref h0)] := hl
  refine lv_aload_n C.x C.b dX1_isAtTarget_0 rfl (lv_at hl 0 rfl) ?_
  refine gGet (v := .int (nI a)) C hK hH 0 2 rfl rfl inX1 (by decide) tw_87 rfl dX1_isAtTarget_1 ?_
  refine lv_aload_n C.x C.b dX1_isAtTarget_4 rfl (lv_at hl 0 rfl) ?_
  refine gGet (v := .int (nI n)) C hK hH 0 1 rfl rfl inX1 (by decide) tw_85 rfl dX1_isAtTarget_5 ?_
  refine vn_icmp_ge (tgt := 28) C.x C.b dX1_isAtTarget_8 (by decide) (by omega) (by omega) (fun c_8 => ?_) (fun c_8 => ?_)
  · refine lv_iconst (v := -1) C.x C.b dX1_isAtTarget_28 (by decide) ?_
    refine lv_istore_n (lv' := [(1, .int (-1)), (0, .ref h0)]) C.x C.b dX1_isAtTarget_29 rfl hl (by decide) rfl (fun ls hl => ?_)
    refine lv_iload_n C.x C.b dX1_isAtTarget_30 rfl (lv_at hl 0 rfl) ?_
    refine lv_if_lt (tgt := 51) C.x C.b dX1_isAtTarget_31 (by decide) (fun _ => ?_) (fun q => absurd (by decide) q)
    refine lv_iconst (v := nI 0) C.x C.b dX1_isAtTarget_51 (by decide) ?_
    exact rZ C hr (by decide) hH (Or.inr ⟨by first | exact ta_nox hx_25 | exact ta_out (by omega), rfl, rfl⟩) (Nat.le_of_ble_eq_true rfl) (Nat.le_of_ble_eq_true rfl) dX1_isAtTarget_52
  · refine va_ldcS C.x C.b C.ow C.N.2.1 dX1_isAtTarget_11 ?_
    refine lv_aload_n C.x C.b dX1_isAtTarget_13 rfl (lv_at hl 0 rfl) ?_
    refine gGet (v := .ref tx) C hK hH 0 0 rfl rfl inX1 (by decide) tw_84 rfl dX1_isAtTarget_14 ?_
    refine lv_aload_n C.x C.b dX1_isAtTarget_17 rfl (lv_at hl 0 rfl) ?_
    refine gGet (v := .int (nI a)) C hK hH 0 2 rfl rfl inX1 (by decide) tw_87 rfl dX1_isAtTarget_18 ?_
    have hf_21 := ht a
    refine gCald (v := (nI (t a))) C hK hH 1 rfl (by omega) (by decide) dX1_isAtTarget_21 rfl ?_
    refine kVr (As := [.int (nI (t a))]) (isC := []) (isR := [0, 1, 2]) (wr := [(h0, .inr (1, [.ref tx, .int (nI n), .int (nI a), .ref dr])), (tx, .inl (D.1 10, 40, .inl (fun j => nI (t j)))), (dr, .inr (0, [.int (nI f0), .int (nI f1), .int (nI f2), .int (nI f3), .int (nI f4), .int (nI f5), .int (bI f6), .int (nI f7), .int (oI f8), .int (oI f9)]))]) C hK hH (c_indexOf l htr D H.size 0 (t a) (by decide) (by omega)) ⟨rfl, rfl, rfl, rfl, by decide⟩ (vk_recv C.Z.2.2.1 (i := 0) (by decide) hH.2.2) tw_280 tw_281 tw_282 tw_10 kJ0_indexOf ⟨by decide +kernel, by decide +kernel, (by decide +kernel : (parseMethodDescriptor yJ0_indexOf.desc).map (fun d => d.parameters.length) = some 1)⟩ ⟨(Nat.le_of_ble_eq_true rfl), (Nat.le_of_ble_eq_true rfl)⟩ hl.1 (Nat.le_of_ble_eq_true rfl) dX1_isAtTarget_22 ⟨(Nat.le_of_ble_eq_true rfl), (Nat.le_of_ble_eq_true rfl)⟩ (fun v9 w9 H locs hN hH => ?_) (fun _ _ _ _ _ _ h => False.elim h)
    obtain ⟨rfl, rfl⟩ := hN
    have hH : Hp D A s ([(h0, .inr (1, [.ref tx, .int (nI n), .int (nI a), .ref dr])), (tx, .inl (D.1 10, 40, .inl (fun j => nI (t j)))), (dr, .inr (0, [.int (nI f0), .int (nI f1), .int (nI f2), .int (nI f3), .int (nI f4), .int (nI f5), .int (bI f6), .int (nI f7), .int (oI f8), .int (oI f9)]))]) H locs := hH
    refine W.eq (g2 := F0 m 25 ls [.int (oI (ixS 0 (t a)))]) rfl ?_
    cases hx_25 : ixS 0 (t a) with
    | none =>
      refine vt_top (y := -1) rfl ?_
      refine lv_goto (tgt := 29) C.x C.b dX1_isAtTarget_25 (by decide) ?_
      refine lv_istore_n (lv' := [(1, .int (-1)), (0, .ref h0)]) C.x C.b dX1_isAtTarget_29 rfl hl (by decide) rfl (fun ls hl => ?_)
      refine lv_iload_n C.x C.b dX1_isAtTarget_30 rfl (lv_at hl 0 rfl) ?_
      refine lv_if_lt (tgt := 51) C.x C.b dX1_isAtTarget_31 (by decide) (fun _ => ?_) (fun q => absurd (by decide) q)
      refine lv_iconst (v := nI 0) C.x C.b dX1_isAtTarget_51 (by decide) ?_
      exact rZ C hr (by decide) hH (Or.inr ⟨by first | exact ta_nox hx_25 | exact ta_out (by omega), rfl, rfl⟩) (Nat.le_of_ble_eq_true rfl) (Nat.le_of_ble_eq_true rfl) dX1_isAtTarget_52
    | some y_25 =>
      have hy_25 := ixS_lt (by decide) hx_25
      refine vt_top (y := nI y_25) rfl ?_
      refine lv_goto (tgt := 29) C.x C.b dX1_isAtTarget_25 (by decide) ?_
      refine lv_istore_n (lv' := [(1, .int (nI y_25)), (0, .ref h0)]) C.x C.b dX1_isAtTarget_29 rfl hl (by decide) rfl (fun ls hl => ?_)
      refine lv_iload_n C.x C.b dX1_isAtTarget_30 rfl (lv_at hl 0 rfl) ?_
      refine vn_if_lt (tgt := 51) C.x C.b dX1_isAtTarget_31 (by decide) (by omega) ?_
      refine lv_iload_n C.x C.b dX1_isAtTarget_34 rfl (lv_at hl 0 rfl) ?_
      refine lv_bipush (v := nI 8) C.x C.b dX1_isAtTarget_35 (by decide) ?_
      refine vn_icmp_gt (tgt := 51) C.x C.b dX1_isAtTarget_37 (by decide) (by omega) (by omega) (fun c_37 => ?_) (fun c_37 => ?_)
      · refine lv_iconst (v := nI 0) C.x C.b dX1_isAtTarget_51 (by decide) ?_
        exact rZ C hr (by decide) hH (Or.inr ⟨ta_bad hx_25 (fun ⟨q1, q2, q3⟩ => by first | omega | (rw [s_45] at q2; exact absurd q2 (by decide)) | (rcases q3 with q | q | q <;> first | omega | (have h1 := tk_lt q; have h2 := tk_eq q; omega))), rfl, rfl⟩) (Nat.le_of_ble_eq_true rfl) (Nat.le_of_ble_eq_true rfl) dX1_isAtTarget_52
      · refine lv_aload_n C.x C.b dX1_isAtTarget_40 rfl (lv_at hl 1 rfl) ?_
        refine gGet (v := .ref dr) C hK hH 0 3 rfl rfl inX1 (by decide) tw_89 rfl dX1_isAtTarget_41 ?_
        refine lv_iload_n C.x C.b dX1_isAtTarget_44 rfl (lv_at hl 0 rfl) ?_
        refine kVN (As := [.int (nI y_25)]) (isC := [2]) (isR := [0, 1]) (wr := [(h0, .inr (1, [.ref tx, .int (nI n), .int (nI a), .ref dr])), (tx, .inl (D.1 10, 40, .inl (fun j => nI (t j))))]) C hK hH (c_sets l htr D H.size dr y_25 f0 f1 f2 f3 f4 f5 f6 f7 f8 f9 (by omega) (by omega)) ⟨rfl, rfl, rfl, rfl, by decide⟩ 2 rfl rfl (nwl_of tn_366 rfl) tw_368 ts_6 tw_3 kX0_sets ⟨by decide +kernel, by decide +kernel, (by decide +kernel : (parseMethodDescriptor yX0_sets.desc).map (fun d => d.parameters.length) = some 1)⟩ ⟨(Nat.le_of_ble_eq_true rfl), (Nat.le_of_ble_eq_true rfl)⟩ hl.1 (Nat.le_of_ble_eq_true rfl) dX1_isAtTarget_45 ⟨(Nat.le_of_ble_eq_true rfl), (Nat.le_of_ble_eq_true rfl)⟩ (fun v9 w9 H locs hN hH => ?_)
        rcases hN with ⟨s_45, rfl, rfl⟩ | ⟨s_45, rfl, rfl⟩
        · have hH : Hp D A s ([(h0, .inr (1, [.ref tx, .int (nI n), .int (nI a), .ref dr])), (tx, .inl (D.1 10, 40, .inl (fun j => nI (t j)))), (dr, .inr (0, [.int (nI f0), .int (nI f1), .int (nI f2), .int (nI f3), .int (nI f4), .int (nI f5), .int (bI f6), .int (nI f7), .int (oI f8), .int (oI f9)]))]) H locs := hH
          refine W.eq (g2 := F0 m 48 ls [.int (nI 1)]) rfl ?_
          refine vn_if_eq (tgt := 53) C.x C.b dX1_isAtTarget_48 (by decide) (by omega) (fun q => absurd q (by decide)) (fun _ => ?_)
          refine lv_iconst (v := nI 0) C.x C.b dX1_isAtTarget_51 (by decide) ?_
          exact rZ C hr (by decide) hH (Or.inr ⟨ta_bad hx_25 (fun ⟨q1, q2, q3⟩ => by first | omega | (rw [s_45] at q2; exact absurd q2 (by decide)) | (rcases q3 with q | q | q <;> first | omega | (have h1 := tk_lt q; have h2 := tk_eq q; omega))), rfl, rfl⟩) (Nat.le_of_ble_eq_true rfl) (Nat.le_of_ble_eq_true rfl) dX1_isAtTarget_52
        · have hH : Hp D A s ([(h0, .inr (1, [.ref tx, .int (nI n), .int (nI a), .ref dr])), (tx, .inl (D.1 10, 40, .inl (fun j => nI (t j)))), (dr, .inr (0, [.int (nI f0), .int (nI f1), .int (nI f2), .int (nI f3), .int (nI f4), .int (nI f5), .int (bI f6), .int (nI f7), .int (oI f8), .int (oI f9)]))]) H locs := hH
          refine W.eq (g2 := F0 m 48 ls [.int (nI 0)]) rfl ?_
          refine vn_if_eq (tgt := 53) C.x C.b dX1_isAtTarget_48 (by decide) (by omega) (fun _ => ?_) (fun q => absurd q (by decide))
          refine lv_aload_n C.x C.b dX1_isAtTarget_53 rfl (lv_at hl 1 rfl) ?_
          refine gGet (v := .ref dr) C hK hH 0 3 rfl rfl inX1 (by decide) tw_89 rfl dX1_isAtTarget_54 ?_
          refine gGetN (v := .int (nI f1)) C hK hH 2 1 rfl rfl inX0 (by decide) (nwl_of tn_41 rfl) rfl dX1_isAtTarget_57 ?_
          refine vn_if_eq (tgt := 67) C.x C.b dX1_isAtTarget_60 (by decide) (by omega) (fun c_60 => ?_) (fun c_60 => ?_)
          · refine lv_iconst (v := nI 1) C.x C.b dX1_isAtTarget_67 (by decide) ?_
            refine lv_goto (tgt := 72) C.x C.b dX1_isAtTarget_68 (by decide) ?_
            refine lv_istore_n (lv' := [(2, .int (nI 1)), (1, .int (nI y_25)), (0, .ref h0)]) C.x C.b dX1_isAtTarget_72 rfl hl (by decide) rfl (fun ls hl => ?_)
            refine lv_iload_n C.x C.b dX1_isAtTarget_73 rfl (lv_at hl 0 rfl) ?_
            refine vn_if_ne (tgt := 106) C.x C.b dX1_isAtTarget_74 (by decide) (by omega) (fun _ => ?_) (fun q => absurd q (by decide))
            refine lv_iconst (v := nI 1) C.x C.b dX1_isAtTarget_106 (by decide) ?_
            refine lv_goto (tgt := 111) C.x C.b dX1_isAtTarget_107 (by decide) ?_
            exact rZ C hr (by decide) hH (Or.inl ⟨y_25, ta_some (by omega) hx_25 (by omega) s_45 (by first | exact Or.inl (by omega) | exact Or.inr (Or.inl (by omega)) | exact Or.inr (Or.inr (tk_t (by omega) (by omega)))), by omega, by first | exact hx_25 | rfl, by omega, rfl, rfl⟩) (Nat.le_of_ble_eq_true rfl) (Nat.le_of_ble_eq_true rfl) dX1_isAtTarget_111
          · refine lv_iload_n C.x C.b dX1_isAtTarget_63 rfl (lv_at hl 0 rfl) ?_
            refine vn_if_ne (tgt := 71) C.x C.b dX1_isAtTarget_64 (by decide) (by omega) (fun c_64 => ?_) (fun c_64 => ?_)
            · refine lv_iconst (v := nI 0) C.x C.b dX1_isAtTarget_71 (by decide) ?_
              refine lv_istore_n (lv' := [(2, .int (nI 0)), (1, .int (nI y_25)), (0, .ref h0)]) C.x C.b dX1_isAtTarget_72 rfl hl (by decide) rfl (fun ls hl => ?_)
              refine lv_iload_n C.x C.b dX1_isAtTarget_73 rfl (lv_at hl 0 rfl) ?_
              refine vn_if_ne (tgt := 106) C.x C.b dX1_isAtTarget_74 (by decide) (by omega) (fun q => absurd q (by decide)) (fun _ => ?_)
              refine lv_aload_n C.x C.b dX1_isAtTarget_77 rfl (lv_at hl 2 rfl) ?_
              refine gGet (v := .int (nI a)) C hK hH 0 2 rfl rfl inX1 (by decide) tw_87 rfl dX1_isAtTarget_78 ?_
              refine lv_iconst (v := nI 1) C.x C.b dX1_isAtTarget_81 (by decide) ?_
              refine lv_iadd C.x C.b dX1_isAtTarget_82 ?_
              refine vt_top (nI_add _ _) ?_
              refine lv_aload_n C.x C.b dX1_isAtTarget_83 rfl (lv_at hl 2 rfl) ?_
              refine gGet (v := .int (nI n)) C hK hH 0 1 rfl rfl inX1 (by decide) tw_85 rfl dX1_isAtTarget_84 ?_
              refine vn_icmp_ge (tgt := 110) C.x C.b dX1_isAtTarget_87 (by decide) (by omega) (by omega) (fun c_87 => ?_) (fun c_87 => ?_)
              · refine lv_iconst (v := nI 0) C.x C.b dX1_isAtTarget_110 (by decide) ?_
                exact rZ C hr (by decide) hH (Or.inr ⟨ta_bad hx_25 (fun ⟨q1, q2, q3⟩ => by first | omega | (rw [s_45] at q2; exact absurd q2 (by decide)) | (rcases q3 with q | q | q <;> first | omega | (have h1 := tk_lt q; have h2 := tk_eq q; omega))), rfl, rfl⟩) (Nat.le_of_ble_eq_true rfl) (Nat.le_of_ble_eq_true rfl) dX1_isAtTarget_111
              · refine lv_aload_n C.x C.b dX1_isAtTarget_90 rfl (lv_at hl 2 rfl) ?_
                refine gGet (v := .ref tx) C hK hH 0 0 rfl rfl inX1 (by decide) tw_84 rfl dX1_isAtTarget_91 ?_
                refine lv_aload_n C.x C.b dX1_isAtTarget_94 rfl (lv_at hl 2 rfl) ?_
                refine gGet (v := .int (nI a)) C hK hH 0 2 rfl rfl inX1 (by decide) tw_87 rfl dX1_isAtTarget_95 ?_
                refine lv_iconst (v := nI 1) C.x C.b dX1_isAtTarget_98 (by decide) ?_
                refine lv_iadd C.x C.b dX1_isAtTarget_99 ?_
                refine vt_top (nI_add _ _) ?_
                have hf_100 := ht (a + 1)
                refine gCald (v := (nI (t (a + 1)))) C hK hH 1 rfl (by omega) (by decide) dX1_isAtTarget_100 rfl ?_
                refine lv_bipush (v := nI 61) C.x C.b dX1_isAtTarget_101 (by decide) ?_
                refine vn_icmp_ne (tgt := 110) C.x C.b dX1_isAtTarget_103 (by decide) (by omega) (by omega) (fun c_103 => ?_) (fun c_103 => ?_)
                · refine lv_iconst (v := nI 0) C.x C.b dX1_isAtTarget_110 (by decide) ?_
                  exact rZ C hr (by decide) hH (Or.inr ⟨ta_bad hx_25 (fun ⟨q1, q2, q3⟩ => by first | omega | (rw [s_45] at q2; exact absurd q2 (by decide)) | (rcases q3 with q | q | q <;> first | omega | (have h1 := tk_lt q; have h2 := tk_eq q; omega))), rfl, rfl⟩) (Nat.le_of_ble_eq_true rfl) (Nat.le_of_ble_eq_true rfl) dX1_isAtTarget_111
                · refine lv_iconst (v := nI 1) C.x C.b dX1_isAtTarget_106 (by decide) ?_
                  refine lv_goto (tgt := 111) C.x C.b dX1_isAtTarget_107 (by decide) ?_
                  exact rZ C hr (by decide) hH (Or.inl ⟨y_25, ta_some (by omega) hx_25 (by omega) s_45 (by first | exact Or.inl (by omega) | exact Or.inr (Or.inl (by omega)) | exact Or.inr (Or.inr (tk_t (by omega) (by omega)))), by omega, by first | exact hx_25 | rfl, by omega, rfl, rfl⟩) (Nat.le_of_ble_eq_true rfl) (Nat.le_of_ble_eq_true rfl) dX1_isAtTarget_111
            · refine lv_iconst (v := nI 1) C.x C.b dX1_isAtTarget_67 (by decide) ?_
              refine lv_goto (tgt := 72) C.x C.b dX1_isAtTarget_68 (by decide) ?_
              refine lv_istore_n (lv' := [(2, .int (nI 1)), (1, .int (nI y_25)), (0, .ref h0)]) C.x C.b dX1_isAtTarget_72 rfl hl (by decide) rfl (fun ls hl => ?_)
              refine lv_iload_n C.x C.b dX1_isAtTarget_73 rfl (lv_at hl 0 rfl) ?_
              refine vn_if_ne (tgt := 106) C.x C.b dX1_isAtTarget_74 (by decide) (by omega) (fun _ => ?_) (fun q => absurd q (by decide))
              refine lv_iconst (v := nI 1) C.x C.b dX1_isAtTarget_106 (by decide) ?_
              refine lv_goto (tgt := 111) C.x C.b dX1_isAtTarget_107 (by decide) ?_
              exact rZ C hr (by decide) hH (Or.inl ⟨y_25, ta_some (by omega) hx_25 (by omega) s_45 (by first | exact Or.inl (by omega) | exact Or.inr (Or.inl (by omega)) | exact Or.inr (Or.inr (tk_t (by omega) (by omega)))), by omega, by first | exact hx_25 | rfl, by omega, rfl, rfl⟩) (Nat.le_of_ble_eq_true rfl) (Nat.le_of_ble_eq_true rfl) dX1_isAtTarget_111
