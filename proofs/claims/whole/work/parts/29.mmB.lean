set_option maxHeartbeats 4000000 in
set_option maxRecDepth 100000 in
theorem c_add (l : Launch) (htr : l.stackTraces = false) (D : va_G) (sz : Nat) (h0 tx d0 : Nat) (t : Nat → Nat) (n a c0 : Nat) (hn : n < 40) (hc : c0 < 128) : Ct l yX1_add wX1_add { frames := 0, cells := 0, slots := 0, locals := 0 } D ([(h0, .inr (1, [.ref tx, .int (nI n), .int (nI a), .ref d0])), (tx, .inl (D.1 10, 40, .inl (fun j => nI (t j))))]) [.ref h0, .int (nI c0)] sz (fun v w => v = none ∧ w = [(h0, .inr (1, [.ref tx, .int (nI (n + 1)), .int (nI a), .ref d0])), (tx, .inl (D.1 10, 40, .inl (fun j => nI (va_up t n c0 j))))]) (nox) := by
  refine Ct.of (cc := cX1_add) (nL := 2) (ret := none) (own := RX1) htr (by decide) rfl (Nat.le_of_ble_eq_true rfl) ?_
  intro p e s m args below meth c A C hr hK H locs hH ls hl
  have hl : lv_has ls 2 [(0, .ref h0), (1, .int (nI c0))] := hl
  refine lv_aload_n C.x C.b dX1_add_0 rfl (lv_at hl 0 rfl) ?_
  refine gGet (v := .int (nI n)) C hK hH 0 1 rfl rfl inX1 (by decide) tw_85 rfl dX1_add_1 ?_
  refine lv_bipush (v := nI 40) C.x C.b dX1_add_4 (by decide) ?_
  refine vn_icmp_ge (tgt := 29) C.x C.b dX1_add_6 (by decide) (by omega) (by omega) (fun c_6 => ?_) (fun c_6 => ?_)
  · exact absurd c_6 (by omega)
  · refine lv_aload_n C.x C.b dX1_add_9 rfl (lv_at hl 0 rfl) ?_
    refine gGet (v := .ref tx) C hK hH 0 0 rfl rfl inX1 (by decide) tw_84 rfl dX1_add_10 ?_
    refine lv_aload_n C.x C.b dX1_add_13 rfl (lv_at hl 0 rfl) ?_
    refine gGet (v := .int (nI n)) C hK hH 0 1 rfl rfl inX1 (by decide) tw_85 rfl dX1_add_14 ?_
    refine lv_iload_n C.x C.b dX1_add_17 rfl (lv_at hl 1 rfl) ?_
    refine gCast (f' := (fun j => nI (va_up t n c0 j))) (ws' := [(h0, .inr (1, [.ref tx, .int (nI n), .int (nI a), .ref d0])), (tx, .inl (D.1 10, 40, .inl (fun j => nI (va_up t n c0 j))))]) C hK hH 1 rfl (by omega) (by decide) (txt_set hc) rfl dX1_add_18 (fun H locs hH => ?_)
    refine lv_aload_n C.x C.b dX1_add_19 rfl (lv_at hl 0 rfl) ?_
    refine lv_dup C.x C.b dX1_add_20 rfl ?_
    refine gGet (v := .int (nI n)) C hK hH 0 1 rfl rfl inX1 (by decide) tw_85 rfl dX1_add_21 ?_
    refine lv_iconst (v := nI 1) C.x C.b dX1_add_24 (by decide) ?_
    refine lv_iadd C.x C.b dX1_add_25 ?_
    refine vt_top (nI_add _ _) ?_
    refine gPut (v := .int (nI (n + 1))) (ws' := [(h0, .inr (1, [.ref tx, .int (nI (n + 1)), .int (nI a), .ref d0])), (tx, .inl (D.1 10, 40, .inl (fun j => nI (va_up t n c0 j))))]) C hK hH 0 1 tyX1 tyX1_ok nmX1 rfl rfl inX1 (by decide) tw_85 rfl rfl rfl (Nat.le_of_ble_eq_true rfl) rfl dX1_add_26 (fun H locs hH => ?_)
    exact rV C hr hH (⟨rfl, rfl⟩) (Nat.le_of_ble_eq_true rfl) (Nat.le_of_ble_eq_true rfl) dX1_add_29
set_option maxHeartbeats 4000000 in
set_option maxRecDepth 100000 in
theorem c_byteOf (l : Launch) (htr : l.stackTraces = false) (D : va_G) (sz : Nat) (z : Int64) (sh : Nat)  : Ct l yX2_byteOf wX2_byteOf { frames := 0, cells := 0, slots := 0, locals := 0 } D ([]) [.long z, .int (nI sh)] sz (fun v w => v = some (.int (nI (bO z sh))) ∧ w = []) (nox) := by
  refine Ct.of (cc := cX2_byteOf) (nL := 3) (ret := (some .int)) (own := RX2) htr (by decide) rfl (Nat.le_of_ble_eq_true rfl) ?_
  intro p e s m args below meth c A C hr hK H locs hH ls hl
  have hl : lv_has ls 3 [(0, .long z), (2, .int (nI sh))] := hl
  refine lv_lload_n C.x C.b dX2_byteOf_0 rfl (lv_at hl 0 rfl) ?_
  refine lv_iload_n C.x C.b dX2_byteOf_1 rfl (lv_at hl 1 rfl) ?_
  refine lv_lushr C.x C.b dX2_byteOf_2 rfl ?_
  refine lv_l2i C.x C.b dX2_byteOf_3 rfl ?_
  refine lv_sipush (v := nI 255) C.x C.b dX2_byteOf_4 (by decide) ?_
  refine lv_iand C.x C.b dX2_byteOf_7 ?_
  refine vt_top (y := nI (bO z sh)) (bO_all z sh).1 ?_
  exact rI C hr hH (⟨rfl, rfl⟩) (Nat.le_of_ble_eq_true rfl) (Nat.le_of_ble_eq_true rfl) dX2_byteOf_8
set_option maxHeartbeats 4000000 in
set_option maxRecDepth 100000 in
theorem c_type (l : Launch) (htr : l.stackTraces = false) (D : va_G) (sz : Nat) (x rd st rg ce byt : Nat) (wp : Int32) (wt ah : Nat) (wc : Bool) (cw : Int32) (bc : Bool) (cb cy wr ww br : Int32) (tx d0 : Nat) (t : Nat → Nat) (n at1 : Nat) (z : Int64) (hn : n ≤ 40) (ht : ∀ j, t j < 128) : Ct l yX2_type wX2_type { frames := 6, cells := 1, slots := 6, locals := 81 } D ([(x, .inr (2, [.ref rd, .int wp, .ref st, .int (nI wt), .int (nI ah), .ref rg, .ref ce, .ref byt, .int (bI wc), .int cw, .int (bI bc), .int cb, .int cy, .int wr, .int ww, .int br])), (rd, .inr (1, [.ref tx, .int (nI n), .int (nI at1), .ref d0])), (tx, .inl (D.1 10, 40, .inl (fun j => nI (t j))))]) [.ref x, .long z] sz (fun v w => badZ z 8 = false ∧ n + cnt8 z 8 ≤ 40 ∧ v = some (.int (nI (tyT t n z 8).2)) ∧ w = [(x, .inr (2, [.ref rd, .int wp, .ref st, .int (nI wt), .int (nI ah), .ref rg, .ref ce, .ref byt, .int (bI wc), .int cw, .int (bI bc), .int cb, .int cy, .int wr, .int ww, .int br])), (rd, .inr (1, [.ref tx, .int (nI ((tyT t n z 8).2)), .int (nI at1), .ref d0])), (tx, .inl (D.1 10, 40, .inl (fun i => nI ((tyT t n z 8).1 i))))]) (fun E w => (badZ z 8 = true ∧ E = eIA ∧ w = [(x, .inr (2, [.ref rd, .int wp, .ref st, .int (nI wt), .int (nI ah), .ref rg, .ref ce, .ref byt, .int (bI wc), .int cw, .int (bI bc), .int cb, .int cy, .int wr, .int ww, .int br])), (rd, .inr (1, [.ref tx, .int (nI n), .int (nI at1), .ref d0])), (tx, .inl (D.1 10, 40, .inl (fun j => nI (t j))))]) ∨ (badZ z 8 = false ∧ 40 < n + cnt8 z 8 ∧ E = eIS ∧ w = [(x, .inr (2, [.ref rd, .int wp, .ref st, .int (nI wt), .int (nI ah), .ref rg, .ref ce, .ref byt, .int (bI wc), .int cw, .int (bI bc), .int cb, .int cy, .int wr, .int ww, .int br])), (rd, .inr (1, [.ref tx, .int (nI n), .int (nI at1), .ref d0])), (tx, .inl (D.1 10, 40, .inl (fun j => nI (t j))))])) := by
  refine Ct.of (cc := cX2_type) (nL := 6) (ret := (some .int)) (own := RX2) htr (by decide) rfl (Nat.le_of_ble_eq_true rfl) ?_
  intro p e s m args below meth c A C hr hK H locs hH ls hl
  have hl : lv_has ls 6 [(0, .ref x), (1, .long z)] := hl
  refine lv_iconst (v := nI 0) C.x C.b dX2_type_0 (by decide) ?_
  refine vt_top (y := nI (cnt8 z 0)) rfl ?_
  refine lv_istore_n (lv' := [(3, .int (nI (cnt8 z 0))), (0, .ref x), (1, .long z)]) C.x C.b dX2_type_1 rfl hl (by decide) rfl (fun ls hl => ?_)
  refine lv_bipush (v := nI 56) C.x C.b dX2_type_2 (by decide) ?_
  refine vt_top (y := shI 0) sh_0.symm ?_
  refine lv_istore (lv' := [(4, .int (shI 0)), (3, .int (nI (cnt8 z 0))), (0, .ref x), (1, .long z)]) C.x C.b dX2_type_4 hl (by decide) rfl (fun ls hl => ?_)
  have hs0 := sh_0
  have L_6 : ∀ (fuel : Nat) (j : Nat) (hj : j ≤ 8) (hb0 : badZ z j = false), 8 - j < fuel → ∀ (H : Heap) (locs : List Loc), Hp D A s ([(x, .inr (2, [.ref rd, .int wp, .ref st, .int (nI wt), .int (nI ah), .ref rg, .ref ce, .ref byt, .int (bI wc), .int cw, .int (bI bc), .int cb, .int cy, .int wr, .int ww, .int br])), (rd, .inr (1, [.ref tx, .int (nI n), .int (nI at1), .ref d0])), (tx, .inl (D.1 10, 40, .inl (fun j => nI (t j))))]) H locs → ∀ ls : Array Slot, lv_has ls 6 [(4, .int (shI j)), (3, .int (nI (cnt8 z j))), (0, .ref x), (1, .long z)] → W p l e { frames := 6, cells := 1, slots := 6, locals := 81 } s m args below meth c H locs 0 0 (Qf below args s D A (fun v w => badZ z 8 = false ∧ n + cnt8 z 8 ≤ 40 ∧ v = some (.int (nI (tyT t n z 8).2)) ∧ w = [(x, .inr (2, [.ref rd, .int wp, .ref st, .int (nI wt), .int (nI ah), .ref rg, .ref ce, .ref byt, .int (bI wc), .int cw, .int (bI bc), .int cb, .int cy, .int wr, .int ww, .int br])), (rd, .inr (1, [.ref tx, .int (nI ((tyT t n z 8).2)), .int (nI at1), .ref d0])), (tx, .inl (D.1 10, 40, .inl (fun i => nI ((tyT t n z 8).1 i))))]) (fun E w => (badZ z 8 = true ∧ E = eIA ∧ w = [(x, .inr (2, [.ref rd, .int wp, .ref st, .int (nI wt), .int (nI ah), .ref rg, .ref ce, .ref byt, .int (bI wc), .int cw, .int (bI bc), .int cb, .int cy, .int wr, .int ww, .int br])), (rd, .inr (1, [.ref tx, .int (nI n), .int (nI at1), .ref d0])), (tx, .inl (D.1 10, 40, .inl (fun j => nI (t j))))]) ∨ (badZ z 8 = false ∧ 40 < n + cnt8 z 8 ∧ E = eIS ∧ w = [(x, .inr (2, [.ref rd, .int wp, .ref st, .int (nI wt), .int (nI ah), .ref rg, .ref ce, .ref byt, .int (bI wc), .int cw, .int (bI bc), .int cb, .int cy, .int wr, .int ww, .int br])), (rd, .inr (1, [.ref tx, .int (nI n), .int (nI at1), .ref d0])), (tx, .inl (D.1 10, 40, .inl (fun j => nI (t j))))])) { frames := 6, cells := 1, slots := 6, locals := 81 }) (F0 m 6 ls []) := by
    intro fuel
    induction fuel with
    | zero => intro j hj hb0 hm; exact absurd hm (Nat.not_lt_zero _)
    | succ fuel ih =>
      intro j hj hb0 hm H locs hH ls hl
      refine lv_iload C.x C.b dX2_type_6 (lv_at hl 0 rfl) ?_
      rcases Nat.lt_or_ge j 8 with hj8 | hj8
      · refine lv_if_lt (tgt := 65) C.x C.b dX2_type_8 (by decide) (fun q => absurd q (sh_nn j hj8).1) (fun _ => ?_)
        refine lv_lload_n C.x C.b dX2_type_11 rfl (lv_at hl 3 rfl) ?_
        refine lv_iload C.x C.b dX2_type_12 (lv_at hl 0 rfl) ?_
        refine vt_top (y := nI (56 - 8 * j)) (sh_nn j hj8).2.1 ?_
        refine kS (As := [.long z, .int (nI (56 - 8 * j))]) (isC := []) (isR := [0, 1, 2]) (wr := [(x, .inr (2, [.ref rd, .int wp, .ref st, .int (nI wt), .int (nI ah), .ref rg, .ref ce, .ref byt, .int (bI wc), .int cw, .int (bI bc), .int cb, .int cy, .int wr, .int ww, .int br])), (rd, .inr (1, [.ref tx, .int (nI n), .int (nI at1), .ref d0])), (tx, .inl (D.1 10, 40, .inl (fun j => nI (t j))))]) C hK hH (c_byteOf l htr D H.size z (56 - 8 * j)) ⟨rfl, rfl, rfl, rfl, by decide⟩ tw_164 tw_165 tw_1 kX2_byteOf ⟨by decide +kernel, by decide +kernel, (by decide +kernel : (parseMethodDescriptor yX2_byteOf.desc).map (fun d => d.parameters.length) = some 2)⟩ ⟨(Nat.le_of_ble_eq_true rfl), (Nat.le_of_ble_eq_true rfl)⟩ hl.1 (Nat.le_of_ble_eq_true rfl) dX2_type_14 ⟨(Nat.le_of_ble_eq_true rfl), (Nat.le_of_ble_eq_true rfl)⟩ (fun v9 w9 H locs hN hH => ?_) (fun _ _ _ _ _ _ h => False.elim h)
        obtain ⟨rfl, rfl⟩ := hN
        have hH : Hp D A s ([(x, .inr (2, [.ref rd, .int wp, .ref st, .int (nI wt), .int (nI ah), .ref rg, .ref ce, .ref byt, .int (bI wc), .int cw, .int (bI bc), .int cb, .int cy, .int wr, .int ww, .int br])), (rd, .inr (1, [.ref tx, .int (nI n), .int (nI at1), .ref d0])), (tx, .inl (D.1 10, 40, .inl (fun j => nI (t j))))]) H locs := hH
        refine W.eq (g2 := F0 m 17 ls [.int (nI (bO z (56 - 8 * j)))]) rfl ?_
        have hby : bO z (56 - 8 * j) < 256 := (bO_all z _).2
        have hby2 : by8 z j < 256 := hby
        refine lv_istore (lv' := [(5, .int (nI (by8 z j))), (4, .int (shI j)), (3, .int (nI (cnt8 z j))), (0, .ref x), (1, .long z)]) C.x C.b dX2_type_17 hl (by decide) rfl (fun ls hl => ?_)
        refine lv_iload C.x C.b dX2_type_19 (lv_at hl 0 rfl) ?_
        refine vn_if_eq (tgt := 46) C.x C.b dX2_type_21 (by decide) (by omega) (fun c_21 => ?_) (fun c_21 => ?_)
        · have nb_17 : (false || bad8 (by8 z j)) = false := by simp only [bad8, Bool.false_or, Bool.and_eq_false_iff, Bool.or_eq_false_iff, decide_eq_false_iff_not]; omega
          refine lv_iload_n C.x C.b dX2_type_46 rfl (lv_at hl 2 rfl) ?_
          refine lv_iload C.x C.b dX2_type_47 (lv_at hl 0 rfl) ?_
          refine vn_if_eq (tgt := 56) C.x C.b dX2_type_49 (by decide) (by omega) (fun c_49 => ?_) (fun c_49 => ?_)
          · refine lv_iconst (v := nI 0) C.x C.b dX2_type_56 (by decide) ?_
            refine lv_iadd C.x C.b dX2_type_57 ?_
            refine vt_top (nI_add _ _) ?_
            refine vt_top (y := nI (cnt8 z (j + 1))) (by rw [cnt8, if_pos c_49]) ?_
            refine lv_istore_n (lv' := [(3, .int (nI (cnt8 z (j + 1)))), (5, .int (nI (by8 z j))), (4, .int (shI j)), (0, .ref x), (1, .long z)]) C.x C.b dX2_type_58 rfl hl (by decide) rfl (fun ls hl => ?_)
            refine lv_iinc (v := shI (j + 1)) (lv' := [(4, .int (shI (j + 1))), (3, .int (nI (cnt8 z (j + 1)))), (5, .int (nI (by8 z j))), (0, .ref x), (1, .long z)]) C.x C.b dX2_type_59 hl (k := 2) rfl (sh_nn j hj8).2.2 (by decide) rfl (fun ls hl => ?_)
            refine lv_goto (tgt := 6) C.x C.b dX2_type_62 (by decide) ?_
            exact ih (j + 1) (by omega) (by rw [badZ, hb0]; exact nb_17) (by omega) _ _ hH ls (lv_sub hl [0, 1, 3, 4] rfl)
          · refine lv_iconst (v := nI 1) C.x C.b dX2_type_52 (by decide) ?_
            refine lv_goto (tgt := 57) C.x C.b dX2_type_53 (by decide) ?_
            refine lv_iadd C.x C.b dX2_type_57 ?_
            refine vt_top (nI_add _ _) ?_
            refine vt_top (y := nI (cnt8 z (j + 1))) (by rw [cnt8, if_neg c_49]) ?_
            refine lv_istore_n (lv' := [(3, .int (nI (cnt8 z (j + 1)))), (5, .int (nI (by8 z j))), (4, .int (shI j)), (0, .ref x), (1, .long z)]) C.x C.b dX2_type_58 rfl hl (by decide) rfl (fun ls hl => ?_)
            refine lv_iinc (v := shI (j + 1)) (lv' := [(4, .int (shI (j + 1))), (3, .int (nI (cnt8 z (j + 1)))), (5, .int (nI (by8 z j))), (0, .ref x), (1, .long z)]) C.x C.b dX2_type_59 hl (k := 2) rfl (sh_nn j hj8).2.2 (by decide) rfl (fun ls hl => ?_)
            refine lv_goto (tgt := 6) C.x C.b dX2_type_62 (by decide) ?_
            exact ih (j + 1) (by omega) (by rw [badZ, hb0]; exact nb_17) (by omega) _ _ hH ls (lv_sub hl [0, 1, 3, 4] rfl)
        · refine lv_iload C.x C.b dX2_type_24 (lv_at hl 0 rfl) ?_
          refine lv_bipush (v := nI 33) C.x C.b dX2_type_26 (by decide) ?_
          refine vn_icmp_lt (tgt := 38) C.x C.b dX2_type_28 (by decide) (by omega) (by omega) (fun c_28 => ?_) (fun c_28 => ?_)
          · exact tIA C hH hl.1 dX2_type_38 dX2_type_41 dX2_type_42 dX2_type_45 (Nat.le_of_ble_eq_true rfl) (Nat.le_of_ble_eq_true rfl) (Nat.le_of_ble_eq_true rfl) (Nat.le_of_ble_eq_true rfl) (Or.inl ⟨badZ_more 8 (by omega : j + 1 ≤ 8) (by rw [badZ, hb0]; simp only [bad8, Bool.false_or, Bool.and_eq_true, Bool.or_eq_true, decide_eq_true_eq]; omega), rfl, rfl⟩) (Nat.le_of_ble_eq_true rfl) (Nat.le_of_ble_eq_true rfl)
          · refine lv_iload C.x C.b dX2_type_31 (lv_at hl 0 rfl) ?_
            refine lv_bipush (v := nI 126) C.x C.b dX2_type_33 (by decide) ?_
            refine vn_icmp_le (tgt := 46) C.x C.b dX2_type_35 (by decide) (by omega) (by omega) (fun c_35 => ?_) (fun c_35 => ?_)
            · have nb_17 : (false || bad8 (by8 z j)) = false := by simp only [bad8, Bool.false_or, Bool.and_eq_false_iff, Bool.or_eq_false_iff, decide_eq_false_iff_not]; omega
              refine lv_iload_n C.x C.b dX2_type_46 rfl (lv_at hl 2 rfl) ?_
              refine lv_iload C.x C.b dX2_type_47 (lv_at hl 0 rfl) ?_
              refine vn_if_eq (tgt := 56) C.x C.b dX2_type_49 (by decide) (by omega) (fun c_49 => ?_) (fun c_49 => ?_)
              · refine lv_iconst (v := nI 0) C.x C.b dX2_type_56 (by decide) ?_
                refine lv_iadd C.x C.b dX2_type_57 ?_
                refine vt_top (nI_add _ _) ?_
                refine vt_top (y := nI (cnt8 z (j + 1))) (by rw [cnt8, if_pos c_49]) ?_
                refine lv_istore_n (lv' := [(3, .int (nI (cnt8 z (j + 1)))), (5, .int (nI (by8 z j))), (4, .int (shI j)), (0, .ref x), (1, .long z)]) C.x C.b dX2_type_58 rfl hl (by decide) rfl (fun ls hl => ?_)
                refine lv_iinc (v := shI (j + 1)) (lv' := [(4, .int (shI (j + 1))), (3, .int (nI (cnt8 z (j + 1)))), (5, .int (nI (by8 z j))), (0, .ref x), (1, .long z)]) C.x C.b dX2_type_59 hl (k := 2) rfl (sh_nn j hj8).2.2 (by decide) rfl (fun ls hl => ?_)
                refine lv_goto (tgt := 6) C.x C.b dX2_type_62 (by decide) ?_
                exact ih (j + 1) (by omega) (by rw [badZ, hb0]; exact nb_17) (by omega) _ _ hH ls (lv_sub hl [0, 1, 3, 4] rfl)
              · refine lv_iconst (v := nI 1) C.x C.b dX2_type_52 (by decide) ?_
                refine lv_goto (tgt := 57) C.x C.b dX2_type_53 (by decide) ?_
                refine lv_iadd C.x C.b dX2_type_57 ?_
                refine vt_top (nI_add _ _) ?_
                refine vt_top (y := nI (cnt8 z (j + 1))) (by rw [cnt8, if_neg c_49]) ?_
                refine lv_istore_n (lv' := [(3, .int (nI (cnt8 z (j + 1)))), (5, .int (nI (by8 z j))), (4, .int (shI j)), (0, .ref x), (1, .long z)]) C.x C.b dX2_type_58 rfl hl (by decide) rfl (fun ls hl => ?_)
                refine lv_iinc (v := shI (j + 1)) (lv' := [(4, .int (shI (j + 1))), (3, .int (nI (cnt8 z (j + 1)))), (5, .int (nI (by8 z j))), (0, .ref x), (1, .long z)]) C.x C.b dX2_type_59 hl (k := 2) rfl (sh_nn j hj8).2.2 (by decide) rfl (fun ls hl => ?_)
                refine lv_goto (tgt := 6) C.x C.b dX2_type_62 (by decide) ?_
                exact ih (j + 1) (by omega) (by rw [badZ, hb0]; exact nb_17) (by omega) _ _ hH ls (lv_sub hl [0, 1, 3, 4] rfl)
            · exact tIA C hH hl.1 dX2_type_38 dX2_type_41 dX2_type_42 dX2_type_45 (Nat.le_of_ble_eq_true rfl) (Nat.le_of_ble_eq_true rfl) (Nat.le_of_ble_eq_true rfl) (Nat.le_of_ble_eq_true rfl) (Or.inl ⟨badZ_more 8 (by omega : j + 1 ≤ 8) (by rw [badZ, hb0]; simp only [bad8, Bool.false_or, Bool.and_eq_true, Bool.or_eq_true, decide_eq_true_eq]; omega), rfl, rfl⟩) (Nat.le_of_ble_eq_true rfl) (Nat.le_of_ble_eq_true rfl)
      · obtain rfl : j = 8 := by omega
        refine lv_if_lt (tgt := 65) C.x C.b dX2_type_8 (by decide) (fun _ => ?_) (fun q => absurd sh_end q)
        have hbad : badZ z 8 = false := hb0
        have hc8 := cnt8_le z 8
        refine lv_aload_n C.x C.b dX2_type_65 rfl (lv_at hl 2 rfl) ?_
        refine gGet (v := .ref rd) C hK hH 0 0 rfl rfl inX2 (by decide) tw_101 rfl dX2_type_66 ?_
        refine gGetN (v := .int (nI n)) C hK hH 1 1 rfl rfl inX1 (by decide) (nwl_of tn_86 rfl) rfl dX2_type_69 ?_
        refine lv_iload_n C.x C.b dX2_type_72 rfl (lv_at hl 1 rfl) ?_
        refine lv_iadd C.x C.b dX2_type_73 ?_
        refine vt_top (nI_add _ _) ?_
        refine lv_bipush (v := nI 40) C.x C.b dX2_type_74 (by decide) ?_
        refine vn_icmp_le (tgt := 87) C.x C.b dX2_type_76 (by decide) (by omega) (by omega) (fun c_76 => ?_) (fun c_76 => ?_)
        · refine lv_bipush (v := nI 56) C.x C.b dX2_type_87 (by decide) ?_
          refine vt_top (y := shI 0) sh_0.symm ?_
          refine lv_istore (lv' := [(4, .int (shI 0)), (3, .int (nI (cnt8 z 8))), (0, .ref x), (1, .long z)]) C.x C.b dX2_type_89 hl (by decide) rfl (fun ls hl => ?_)
          have L_91 : ∀ (fuel : Nat) (j : Nat) (hj : j ≤ 8), 8 - j < fuel → ∀ (H : Heap) (locs : List Loc), Hp D A s ([(x, .inr (2, [.ref rd, .int wp, .ref st, .int (nI wt), .int (nI ah), .ref rg, .ref ce, .ref byt, .int (bI wc), .int cw, .int (bI bc), .int cb, .int cy, .int wr, .int ww, .int br])), (rd, .inr (1, [.ref tx, .int (nI ((tyT t n z j).2)), .int (nI at1), .ref d0])), (tx, .inl (D.1 10, 40, .inl (fun i => nI ((tyT t n z j).1 i))))]) H locs → ∀ ls : Array Slot, lv_has ls 6 [(4, .int (shI j)), (3, .int (nI (cnt8 z 8))), (0, .ref x), (1, .long z)] → W p l e { frames := 6, cells := 1, slots := 6, locals := 81 } s m args below meth c H locs 0 0 (Qf below args s D A (fun v w => badZ z 8 = false ∧ n + cnt8 z 8 ≤ 40 ∧ v = some (.int (nI (tyT t n z 8).2)) ∧ w = [(x, .inr (2, [.ref rd, .int wp, .ref st, .int (nI wt), .int (nI ah), .ref rg, .ref ce, .ref byt, .int (bI wc), .int cw, .int (bI bc), .int cb, .int cy, .int wr, .int ww, .int br])), (rd, .inr (1, [.ref tx, .int (nI ((tyT t n z 8).2)), .int (nI at1), .ref d0])), (tx, .inl (D.1 10, 40, .inl (fun i => nI ((tyT t n z 8).1 i))))]) (fun E w => (badZ z 8 = true ∧ E = eIA ∧ w = [(x, .inr (2, [.ref rd, .int wp, .ref st, .int (nI wt), .int (nI ah), .ref rg, .ref ce, .ref byt, .int (bI wc), .int cw, .int (bI bc), .int cb, .int cy, .int wr, .int ww, .int br])), (rd, .inr (1, [.ref tx, .int (nI n), .int (nI at1), .ref d0])), (tx, .inl (D.1 10, 40, .inl (fun j => nI (t j))))]) ∨ (badZ z 8 = false ∧ 40 < n + cnt8 z 8 ∧ E = eIS ∧ w = [(x, .inr (2, [.ref rd, .int wp, .ref st, .int (nI wt), .int (nI ah), .ref rg, .ref ce, .ref byt, .int (bI wc), .int cw, .int (bI bc), .int cb, .int cy, .int wr, .int ww, .int br])), (rd, .inr (1, [.ref tx, .int (nI n), .int (nI at1), .ref d0])), (tx, .inl (D.1 10, 40, .inl (fun j => nI (t j))))])) { frames := 6, cells := 1, slots := 6, locals := 81 }) (F0 m 91 ls []) := by
            intro fuel
            induction fuel with
            | zero => intro j hj hm; exact absurd hm (Nat.not_lt_zero _)
            | succ fuel ih =>
              intro j hj hm H locs hH ls hl
              refine lv_iload C.x C.b dX2_type_91 (lv_at hl 0 rfl) ?_
              rcases Nat.lt_or_ge j 8 with hj8 | hj8
              · refine lv_if_lt (tgt := 125) C.x C.b dX2_type_93 (by decide) (fun q => absurd q (sh_nn j hj8).1) (fun _ => ?_)
                refine lv_lload_n C.x C.b dX2_type_96 rfl (lv_at hl 3 rfl) ?_
                refine lv_iload C.x C.b dX2_type_97 (lv_at hl 0 rfl) ?_
                refine vt_top (y := nI (56 - 8 * j)) (sh_nn j hj8).2.1 ?_
                refine kS (As := [.long z, .int (nI (56 - 8 * j))]) (isC := []) (isR := [0, 1, 2]) (wr := [(x, .inr (2, [.ref rd, .int wp, .ref st, .int (nI wt), .int (nI ah), .ref rg, .ref ce, .ref byt, .int (bI wc), .int cw, .int (bI bc), .int cb, .int cy, .int wr, .int ww, .int br])), (rd, .inr (1, [.ref tx, .int (nI ((tyT t n z j).2)), .int (nI at1), .ref d0])), (tx, .inl (D.1 10, 40, .inl (fun i => nI ((tyT t n z j).1 i))))]) C hK hH (c_byteOf l htr D H.size z (56 - 8 * j)) ⟨rfl, rfl, rfl, rfl, by decide⟩ tw_164 tw_165 tw_1 kX2_byteOf ⟨by decide +kernel, by decide +kernel, (by decide +kernel : (parseMethodDescriptor yX2_byteOf.desc).map (fun d => d.parameters.length) = some 2)⟩ ⟨(Nat.le_of_ble_eq_true rfl), (Nat.le_of_ble_eq_true rfl)⟩ hl.1 (Nat.le_of_ble_eq_true rfl) dX2_type_99 ⟨(Nat.le_of_ble_eq_true rfl), (Nat.le_of_ble_eq_true rfl)⟩ (fun v9 w9 H locs hN hH => ?_) (fun _ _ _ _ _ _ h => False.elim h)
                obtain ⟨rfl, rfl⟩ := hN
                have hH : Hp D A s ([(x, .inr (2, [.ref rd, .int wp, .ref st, .int (nI wt), .int (nI ah), .ref rg, .ref ce, .ref byt, .int (bI wc), .int cw, .int (bI bc), .int cb, .int cy, .int wr, .int ww, .int br])), (rd, .inr (1, [.ref tx, .int (nI ((tyT t n z j).2)), .int (nI at1), .ref d0])), (tx, .inl (D.1 10, 40, .inl (fun i => nI ((tyT t n z j).1 i))))]) H locs := hH
                refine W.eq (g2 := F0 m 102 ls [.int (nI (bO z (56 - 8 * j)))]) rfl ?_
                have hby : bO z (56 - 8 * j) < 256 := (bO_all z _).2
                have hby2 : by8 z j < 256 := hby
                refine lv_istore (lv' := [(5, .int (nI (by8 z j))), (4, .int (shI j)), (3, .int (nI (cnt8 z 8))), (0, .ref x), (1, .long z)]) C.x C.b dX2_type_102 hl (by decide) rfl (fun ls hl => ?_)
                refine lv_iload C.x C.b dX2_type_104 (lv_at hl 0 rfl) ?_
                refine vn_if_eq (tgt := 119) C.x C.b dX2_type_106 (by decide) (by omega) (fun c_106 => ?_) (fun c_106 => ?_)
                · have e9 : tyT t n z j = tyT t n z (j + 1) := by rw [tyT, if_pos c_106]
                  have hH : Hp D A s ([(x, .inr (2, [.ref rd, .int wp, .ref st, .int (nI wt), .int (nI ah), .ref rg, .ref ce, .ref byt, .int (bI wc), .int cw, .int (bI bc), .int cb, .int cy, .int wr, .int ww, .int br])), (rd, .inr (1, [.ref tx, .int (nI ((tyT t n z (j + 1)).2)), .int (nI at1), .ref d0])), (tx, .inl (D.1 10, 40, .inl (fun i => nI ((tyT t n z (j + 1)).1 i))))]) H locs := by rw [← e9]; exact hH
                  refine lv_iinc (v := shI (j + 1)) (lv' := [(4, .int (shI (j + 1))), (5, .int (nI (by8 z j))), (3, .int (nI (cnt8 z 8))), (0, .ref x), (1, .long z)]) C.x C.b dX2_type_119 hl (k := 1) rfl (sh_nn j hj8).2.2 (by decide) rfl (fun ls hl => ?_)
                  refine lv_goto (tgt := 91) C.x C.b dX2_type_122 (by decide) ?_
                  exact ih (j + 1) (by omega) (by omega) _ _ hH ls (lv_sub hl [0, 2, 3, 4] rfl)
                · refine lv_aload_n C.x C.b dX2_type_109 rfl (lv_at hl 3 rfl) ?_
                  refine gGet (v := .ref rd) C hK hH 0 0 rfl rfl inX2 (by decide) tw_101 rfl dX2_type_110 ?_
                  refine lv_iload C.x C.b dX2_type_113 (lv_at hl 0 rfl) ?_
                  refine lv_i2c C.x C.b dX2_type_115 rfl ?_
                  have hb9 := badZ_at 8 hj8 hbad
                  simp only [bad8, Bool.and_eq_false_iff, Bool.or_eq_false_iff, decide_eq_false_iff_not] at hb9
                  refine vt_top (y := nI (by8 z j)) (c128 _ (by omega)) ?_
                  have hn9 := tyT_n t n z j
                  have hn8 := cnt8_mono z (i := j + 1) 8 (by omega)
                  rw [cnt8, if_neg c_106] at hn8
                  refine kVN (As := [.int (nI (by8 z j))]) (isC := [1, 2]) (isR := [0]) (wr := [(x, .inr (2, [.ref rd, .int wp, .ref st, .int (nI wt), .int (nI ah), .ref rg, .ref ce, .ref byt, .int (bI wc), .int cw, .int (bI bc), .int cb, .int cy, .int wr, .int ww, .int br]))]) C hK hH (c_add l htr D H.size rd tx d0 ((tyT t n z j).1) ((tyT t n z j).2) at1 (by8 z j) (by omega) (by omega)) ⟨rfl, rfl, rfl, rfl, by decide⟩ 1 rfl rfl (nwl_of tn_246 rfl) tw_248 ts_1 tw_2 kX1_add ⟨by decide +kernel, by decide +kernel, (by decide +kernel : (parseMethodDescriptor yX1_add.desc).map (fun d => d.parameters.length) = some 1)⟩ ⟨(Nat.le_of_ble_eq_true rfl), (Nat.le_of_ble_eq_true rfl)⟩ hl.1 (Nat.le_of_ble_eq_true rfl) dX2_type_116 ⟨(Nat.le_of_ble_eq_true rfl), (Nat.le_of_ble_eq_true rfl)⟩ (fun v9 w9 H locs hN hH => ?_)
                  obtain ⟨rfl, rfl⟩ := hN
                  have hH : Hp D A s ([(x, .inr (2, [.ref rd, .int wp, .ref st, .int (nI wt), .int (nI ah), .ref rg, .ref ce, .ref byt, .int (bI wc), .int cw, .int (bI bc), .int cb, .int cy, .int wr, .int ww, .int br])), (rd, .inr (1, [.ref tx, .int (nI ((tyT t n z j).2 + 1)), .int (nI at1), .ref d0])), (tx, .inl (D.1 10, 40, .inl (fun i9 => nI ((va_up ((tyT t n z j).1) ((tyT t n z j).2) (by8 z j)) i9))))]) H locs := hH
                  refine W.eq (g2 := F0 m 119 ls []) rfl ?_
                  have e9 : tyT t n z (j + 1) = (va_up (tyT t n z j).1 (tyT t n z j).2 (by8 z j), (tyT t n z j).2 + 1) := by rw [tyT, if_neg c_106]
                  have hH : Hp D A s ([(x, .inr (2, [.ref rd, .int wp, .ref st, .int (nI wt), .int (nI ah), .ref rg, .ref ce, .ref byt, .int (bI wc), .int cw, .int (bI bc), .int cb, .int cy, .int wr, .int ww, .int br])), (rd, .inr (1, [.ref tx, .int (nI ((tyT t n z (j + 1)).2)), .int (nI at1), .ref d0])), (tx, .inl (D.1 10, 40, .inl (fun i => nI ((tyT t n z (j + 1)).1 i))))]) H locs := by rw [e9]; exact hH
                  refine lv_iinc (v := shI (j + 1)) (lv' := [(4, .int (shI (j + 1))), (5, .int (nI (by8 z j))), (3, .int (nI (cnt8 z 8))), (0, .ref x), (1, .long z)]) C.x C.b dX2_type_119 hl (k := 1) rfl (sh_nn j hj8).2.2 (by decide) rfl (fun ls hl => ?_)
                  refine lv_goto (tgt := 91) C.x C.b dX2_type_122 (by decide) ?_
                  exact ih (j + 1) (by omega) (by omega) _ _ hH ls (lv_sub hl [0, 2, 3, 4] rfl)
              · obtain rfl : j = 8 := by omega
                refine lv_if_lt (tgt := 125) C.x C.b dX2_type_93 (by decide) (fun _ => ?_) (fun q => absurd sh_end q)
                refine lv_aload_n C.x C.b dX2_type_125 rfl (lv_at hl 2 rfl) ?_
                refine gGet (v := .ref rd) C hK hH 0 0 rfl rfl inX2 (by decide) tw_101 rfl dX2_type_126 ?_
                refine gGetN (v := .int (nI ((tyT t n z 8).2))) C hK hH 1 1 rfl rfl inX1 (by decide) (nwl_of tn_86 rfl) rfl dX2_type_129 ?_
                exact rI C hr hH (⟨hbad, by omega, rfl, rfl⟩) (Nat.le_of_ble_eq_true rfl) (Nat.le_of_ble_eq_true rfl) dX2_type_132
          exact L_91 _ 0 (by omega) (Nat.lt_succ_self _) _ _ hH ls (lv_sub hl [0, 1, 2, 3] rfl)
        · exact tIS C hH hl.1 dX2_type_79 dX2_type_82 dX2_type_83 dX2_type_86 (Nat.le_of_ble_eq_true rfl) (Nat.le_of_ble_eq_true rfl) (Nat.le_of_ble_eq_true rfl) (Nat.le_of_ble_eq_true rfl) (Or.inr ⟨hbad, by omega, rfl, rfl⟩) (Nat.le_of_ble_eq_true rfl) (Nat.le_of_ble_eq_true rfl)
  exact L_6 _ 0 (by omega) rfl (Nat.lt_succ_self _) _ _ hH ls (lv_sub hl [0, 1, 2, 3] rfl)
