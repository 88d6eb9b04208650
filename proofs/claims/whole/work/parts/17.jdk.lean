set_option maxHeartbeats 4000000 in
set_option maxRecDepth 100000 in
theorem c_coder (l : Launch) (htr : l.stackTraces = false) (D : va_G) (sz : Nat) (i : Nat) (hi : i < 2) : Ct l yJ0_coder wJ0_coder { frames := 0, cells := 0, slots := 0, locals := 0 } D ([]) [.ref (D.2 20 i)] sz (fun v w => v = some (.int (nI 0)) ∧ w = []) (nox) := by
  refine Ct.of (cc := cJ0_coder) (nL := 1) (ret := (some .byte)) (own := "java/lang/String") htr (by decide) rfl (Nat.le_of_ble_eq_true rfl) ?_
  intro p e s m args below meth c A C hr hK H locs hH ls hl
  have hl : lv_has ls 1 [(0, .ref (D.2 20 i))] := hl
  refine va_gets C.x C.b C.Z.2.2.2 hH.2.2 C.ow (C.ts _ tw_292) (fun _ h => h) dJ0_coder_0 ?_
  refine vt_top (y := nI 1) rfl ?_
  refine vn_if_eq (tgt := 13) C.x C.b dJ0_coder_3 (by decide) (by omega) (fun q => absurd q (by decide)) (fun _ => ?_)
  refine lv_aload_n C.x C.b dJ0_coder_6 rfl (lv_at hl 0 rfl) ?_
  refine vk_getf (v := .int 0) C.x C.b (C.Z.2.2.1.1 i hi).2.1 hH.2.2 C.ow (C.ts _ tw_739) (fun _ h => h) dJ0_coder_7 ?_
  refine vt_top (y := nI 0) rfl ?_
  refine lv_goto (tgt := 14) C.x C.b dJ0_coder_10 (by decide) ?_
  exact rZ C hr (by decide) hH (⟨rfl, rfl⟩) (Nat.le_of_ble_eq_true rfl) (Nat.le_of_ble_eq_true rfl) dJ0_coder_14
set_option maxHeartbeats 4000000 in
set_option maxRecDepth 100000 in
theorem c_isLatin1 (l : Launch) (htr : l.stackTraces = false) (D : va_G) (sz : Nat) (i : Nat) (hi : i < 2) : Ct l yJ0_isLatin1 wJ0_isLatin1 { frames := 0, cells := 0, slots := 0, locals := 0 } D ([]) [.ref (D.2 20 i)] sz (fun v w => v = some (.int (nI 1)) ∧ w = []) (nox) := by
  refine Ct.of (cc := cJ0_isLatin1) (nL := 1) (ret := (some .boolean)) (own := "java/lang/String") htr (by decide) rfl (Nat.le_of_ble_eq_true rfl) ?_
  intro p e s m args below meth c A C hr hK H locs hH ls hl
  have hl : lv_has ls 1 [(0, .ref (D.2 20 i))] := hl
  refine va_gets C.x C.b C.Z.2.2.2 hH.2.2 C.ow (C.ts _ tw_292) (fun _ h => h) dJ0_isLatin1_0 ?_
  refine vt_top (y := nI 1) rfl ?_
  refine vn_if_eq (tgt := 17) C.x C.b dJ0_isLatin1_3 (by decide) (by omega) (fun q => absurd q (by decide)) (fun _ => ?_)
  refine lv_aload_n C.x C.b dJ0_isLatin1_6 rfl (lv_at hl 0 rfl) ?_
  refine vk_getf (v := .int 0) C.x C.b (C.Z.2.2.1.1 i hi).2.1 hH.2.2 C.ow (C.ts _ tw_739) (fun _ h => h) dJ0_isLatin1_7 ?_
  refine vt_top (y := nI 0) rfl ?_
  refine vn_if_ne (tgt := 17) C.x C.b dJ0_isLatin1_10 (by decide) (by omega) (fun q => absurd q (by decide)) (fun _ => ?_)
  refine lv_iconst (v := nI 1) C.x C.b dJ0_isLatin1_13 (by decide) ?_
  refine lv_goto (tgt := 18) C.x C.b dJ0_isLatin1_14 (by decide) ?_
  exact rZ C hr (by decide) hH (⟨rfl, rfl⟩) (Nat.le_of_ble_eq_true rfl) (Nat.le_of_ble_eq_true rfl) dJ0_isLatin1_18
set_option maxHeartbeats 4000000 in
set_option maxRecDepth 100000 in
theorem c_length (l : Launch) (htr : l.stackTraces = false) (D : va_G) (sz : Nat) (i : Nat) (hi : i < 2) : Ct l yJ0_length wJ0_length { frames := 1, cells := 0, slots := 0, locals := 20 } D ([]) [.ref (D.2 20 i)] sz (fun v w => v = some (.int (nI (lnS.getD i 0))) ∧ w = []) (nox) := by
  refine Ct.of (cc := cJ0_length) (nL := 1) (ret := (some .int)) (own := "java/lang/String") htr (by decide) rfl (Nat.le_of_ble_eq_true rfl) ?_
  intro p e s m args below meth c A C hr hK H locs hH ls hl
  have hl : lv_has ls 1 [(0, .ref (D.2 20 i))] := hl
  refine lv_aload_n C.x C.b dJ0_length_0 rfl (lv_at hl 0 rfl) ?_
  refine vk_getf (v := .ref (D.2 21 i)) C.x C.b (C.Z.2.2.1.1 i hi).2.2.1 hH.2.2 C.ow (C.ts _ tw_740) (fun _ h => h) dJ0_length_1 ?_
  refine va_tlen (v := (nI (lnS.getD i 0))) C.x C.b (C.Z.2.2.1.1 i hi).2.2.2 hH.2.2 rfl dJ0_length_4 ?_
  refine lv_aload_n C.x C.b dJ0_length_5 rfl (lv_at hl 0 rfl) ?_
  refine kVr (As := []) (isC := []) (isR := []) (wr := []) C hK hH (c_coder l htr D H.size i hi) ⟨rfl, rfl, rfl, rfl, by decide⟩ (vk_recv C.Z.2.2.1 (i := i) hi hH.2.2) tw_298 tw_299 tw_300 tw_10 kJ0_coder ⟨by decide +kernel, by decide +kernel, (by decide +kernel : (parseMethodDescriptor yJ0_coder.desc).map (fun d => d.parameters.length) = some 0)⟩ ⟨(Nat.le_of_ble_eq_true rfl), (Nat.le_of_ble_eq_true rfl)⟩ hl.1 (Nat.le_of_ble_eq_true rfl) dJ0_length_6 ⟨(Nat.le_of_ble_eq_true rfl), (Nat.le_of_ble_eq_true rfl)⟩ (fun v9 w9 H locs hN hH => ?_) (fun _ _ _ _ _ _ h => False.elim h)
  obtain ⟨rfl, rfl⟩ := hN
  have hH : Hp D A s ([]) H locs := hH
  refine W.eq (g2 := F0 m 9 ls [.int (nI 0), .int (nI (lnS.getD i 0))]) rfl ?_
  refine lv_ishr C.x C.b dJ0_length_9 ?_
  refine vt_top (y := nI (lnS.getD i 0)) (sb_shr0 _) ?_
  exact rI C hr hH (⟨rfl, rfl⟩) (Nat.le_of_ble_eq_true rfl) (Nat.le_of_ble_eq_true rfl) dJ0_length_10
set_option maxHeartbeats 4000000 in
set_option maxRecDepth 100000 in
theorem c_canEncode (l : Launch) (htr : l.stackTraces = false) (D : va_G) (sz : Nat) (ch : Nat) (hc : ch < 128) : Ct l yJ1_canEncode wJ1_canEncode { frames := 0, cells := 0, slots := 0, locals := 0 } D ([]) [.int (nI ch)] sz (fun v w => v = some (.int (nI 1)) ∧ w = []) (nox) := by
  refine Ct.of (cc := cJ1_canEncode) (nL := 1) (ret := (some .boolean)) (own := "java/lang/StringLatin1") htr (by decide) rfl (Nat.le_of_ble_eq_true rfl) ?_
  intro p e s m args below meth c A C hr hK H locs hH ls hl
  have hl : lv_has ls 1 [(0, .int (nI ch))] := hl
  refine lv_iload_n C.x C.b dJ1_canEncode_0 rfl (lv_at hl 0 rfl) ?_
  refine vn_if_lt (tgt := 15) C.x C.b dJ1_canEncode_1 (by decide) (by omega) ?_
  refine lv_iload_n C.x C.b dJ1_canEncode_4 rfl (lv_at hl 0 rfl) ?_
  refine lv_sipush (v := nI 255) C.x C.b dJ1_canEncode_5 (by decide) ?_
  refine vn_icmp_gt (tgt := 15) C.x C.b dJ1_canEncode_8 (by decide) (by omega) (by omega) (fun c_8 => ?_) (fun c_8 => ?_)
  · exact absurd c_8 (by omega)
  · refine lv_iconst (v := nI 1) C.x C.b dJ1_canEncode_11 (by decide) ?_
    refine lv_goto (tgt := 16) C.x C.b dJ1_canEncode_12 (by decide) ?_
    exact rZ C hr (by decide) hH (⟨rfl, rfl⟩) (Nat.le_of_ble_eq_true rfl) (Nat.le_of_ble_eq_true rfl) dJ1_canEncode_16
set_option maxHeartbeats 4000000 in
set_option maxRecDepth 100000 in
theorem c_indexOfChar (l : Launch) (htr : l.stackTraces = false) (D : va_G) (sz : Nat) (i ch : Nat) (hi : i < 2) (hc : ch < 128) : Ct l yJ1_indexOfChar wJ1_indexOfChar { frames := 0, cells := 0, slots := 0, locals := 0 } D ([]) [.ref (D.2 21 i), .int (nI ch), .int (nI 0), .int (nI (lnS.getD i 0))] sz (fun v w => v = some (.int (oI (ixS i ch))) ∧ w = []) (nox) := by
  refine Ct.of (cc := cJ1_indexOfChar) (nL := 6) (ret := (some .int)) (own := "java/lang/StringLatin1") htr (by decide) rfl (Nat.le_of_ble_eq_true rfl) ?_
  intro p e s m args below meth c A C hr hK H locs hH ls hl
  have hl : lv_has ls 6 [(0, .ref (D.2 21 i)), (1, .int (nI ch)), (2, .int (nI 0)), (3, .int (nI (lnS.getD i 0)))] := hl
  refine lv_iload_n C.x C.b dJ1_indexOfChar_0 rfl (lv_at hl 1 rfl) ?_
  refine lv_i2b C.x C.b dJ1_indexOfChar_1 rfl ?_
  refine vt_top (y := nI ch) (b128 ch hc) ?_
  refine lv_istore (lv' := [(4, .int (nI ch)), (0, .ref (D.2 21 i)), (1, .int (nI ch)), (2, .int (nI 0)), (3, .int (nI (lnS.getD i 0)))]) C.x C.b dJ1_indexOfChar_2 hl (by decide) rfl (fun ls hl => ?_)
  refine lv_iload_n C.x C.b dJ1_indexOfChar_4 rfl (lv_at hl 3 rfl) ?_
  refine lv_istore (lv' := [(5, .int (nI 0)), (4, .int (nI ch)), (0, .ref (D.2 21 i)), (1, .int (nI ch)), (2, .int (nI 0)), (3, .int (nI (lnS.getD i 0)))]) C.x C.b dJ1_indexOfChar_5 hl (by decide) rfl (fun ls hl => ?_)
  have hln := lnS_all i hi
  have L_7 : ∀ (fuel : Nat) (k : Nat) (hk1 : k ≤ lnS.getD i 0) (hk2 : ixL ch ((stS i).drop k) k = ixS i ch), lnS.getD i 0 - k < fuel → ∀ (H : Heap) (locs : List Loc), Hp D A s ([]) H locs → ∀ ls : Array Slot, lv_has ls 6 [(5, .int (nI k)), (4, .int (nI ch)), (0, .ref (D.2 21 i)), (1, .int (nI ch)), (2, .int (nI 0)), (3, .int (nI (lnS.getD i 0)))] → W p l e { frames := 0, cells := 0, slots := 0, locals := 0 } s m args below meth c H locs 0 0 (Qf below args s D A (fun v w => v = some (.int (oI (ixS i ch))) ∧ w = []) (nox) { frames := 0, cells := 0, slots := 0, locals := 0 }) (F0 m 7 ls []) := by
    intro fuel
    induction fuel with
    | zero => intro k hk1 hk2 hm; exact absurd hm (Nat.not_lt_zero _)
    | succ fuel ih =>
      intro k hk1 hk2 hm H locs hH ls hl
      refine lv_iload C.x C.b dJ1_indexOfChar_7 (lv_at hl 0 rfl) ?_
      refine lv_iload_n C.x C.b dJ1_indexOfChar_9 rfl (lv_at hl 5 rfl) ?_
      refine vn_icmp_ge (tgt := 31) C.x C.b dJ1_indexOfChar_10 (by decide) (by omega) (by omega) (fun c_10 => ?_) (fun c_10 => ?_)
      · refine lv_iconst (v := -1) C.x C.b dJ1_indexOfChar_31 (by decide) ?_
        exact rI C hr hH (⟨by rw [← hk2, ixL_end hi (by omega)]; rfl, rfl⟩) (Nat.le_of_ble_eq_true rfl) (Nat.le_of_ble_eq_true rfl) dJ1_indexOfChar_32
      · refine lv_aload_n C.x C.b dJ1_indexOfChar_13 rfl (lv_at hl 2 rfl) ?_
        refine lv_iload C.x C.b dJ1_indexOfChar_14 (lv_at hl 0 rfl) ?_
        refine va_tb (i := nI k) (v := .int (nI ((stS i).getD k 0))) C.x C.b (C.Z.2.2.1.1 i hi).2.2.2 hH.2.2 (vp_in_nI (by omega) (by omega)) (by rw [nI_clamp (by omega)]; exact congrArg Value.int (byS_at hi (by omega))) dJ1_indexOfChar_16 ?_
        refine lv_iload C.x C.b dJ1_indexOfChar_17 (lv_at hl 1 rfl) ?_
        have hb9 := stS_lt i hi k (by omega)
        refine vn_icmp_ne (tgt := 25) C.x C.b dJ1_indexOfChar_19 (by decide) (by omega) (by omega) (fun c_19 => ?_) (fun c_19 => ?_)
        · refine lv_iinc (v := (nI (k + 1))) (lv' := [(5, .int (nI (k + 1))), (4, .int (nI ch)), (0, .ref (D.2 21 i)), (1, .int (nI ch)), (2, .int (nI 0)), (3, .int (nI (lnS.getD i 0)))]) C.x C.b dJ1_indexOfChar_25 hl (k := 0) rfl (by rw [show Int32.ofInt 1 = nI 1 from by decide, nI_add]) (by decide) rfl (fun ls hl => ?_)
          refine lv_goto (tgt := 7) C.x C.b dJ1_indexOfChar_28 (by decide) ?_
          exact ih (k + 1) (by omega) (by rw [← hk2]; exact (ixL_miss hi (by omega) (by omega)).symm) (by omega) _ _ hH ls (lv_sub hl [0, 1, 2, 3, 4, 5] rfl)
        · refine lv_iload C.x C.b dJ1_indexOfChar_22 (lv_at hl 0 rfl) ?_
          exact rI C hr hH (⟨by rw [← hk2, ixL_hit hi (by omega) (by omega)]; rfl, rfl⟩) (Nat.le_of_ble_eq_true rfl) (Nat.le_of_ble_eq_true rfl) dJ1_indexOfChar_24
  exact L_7 _ 0 (Nat.zero_le _) rfl (Nat.lt_succ_self _) _ _ hH ls (lv_sub hl [0, 1, 2, 3, 4, 5] rfl)
set_option maxHeartbeats 4000000 in
set_option maxRecDepth 100000 in
theorem c_J1indexOf (l : Launch) (htr : l.stackTraces = false) (D : va_G) (sz : Nat) (i ch : Nat) (hi : i < 2) (hc : ch < 128) : Ct l yJ1_indexOf wJ1_indexOf { frames := 1, cells := 0, slots := 0, locals := 25 } D ([]) [.ref (D.2 21 i), .int (nI ch), .int (nI 0), .int (nI (lnS.getD i 0))] sz (fun v w => v = some (.int (oI (ixS i ch))) ∧ w = []) (nox) := by
  refine Ct.of (cc := cJ1_indexOf) (nL := 4) (ret := (some .int)) (own := "java/lang/StringLatin1") htr (by decide) rfl (Nat.le_of_ble_eq_true rfl) ?_
  intro p e s m args below meth c A C hr hK H locs hH ls hl
  have hl : lv_has ls 4 [(0, .ref (D.2 21 i)), (1, .int (nI ch)), (2, .int (nI 0)), (3, .int (nI (lnS.getD i 0)))] := hl
  refine lv_iload_n C.x C.b dJ1_indexOf_0 rfl (lv_at hl 1 rfl) ?_
  refine kS (As := [.int (nI ch)]) (isC := []) (isR := []) (wr := []) C hK hH (c_canEncode l htr D H.size ch hc) ⟨rfl, rfl, rfl, rfl, by decide⟩ tw_305 tw_306 tw_11 kJ1_canEncode ⟨by decide +kernel, by decide +kernel, (by decide +kernel : (parseMethodDescriptor yJ1_canEncode.desc).map (fun d => d.parameters.length) = some 1)⟩ ⟨(Nat.le_of_ble_eq_true rfl), (Nat.le_of_ble_eq_true rfl)⟩ hl.1 (Nat.le_of_ble_eq_true rfl) dJ1_indexOf_1 ⟨(Nat.le_of_ble_eq_true rfl), (Nat.le_of_ble_eq_true rfl)⟩ (fun v9 w9 H locs hN hH => ?_) (fun _ _ _ _ _ _ h => False.elim h)
  obtain ⟨rfl, rfl⟩ := hN
  have hH : Hp D A s ([]) H locs := hH
  refine W.eq (g2 := F0 m 4 ls [.int (nI 1)]) rfl ?_
  refine vn_if_ne (tgt := 9) C.x C.b dJ1_indexOf_4 (by decide) (by omega) (fun _ => ?_) (fun q => absurd q (by decide))
  refine lv_iload_n C.x C.b dJ1_indexOf_9 rfl (lv_at hl 2 rfl) ?_
  refine lv_iconst (v := nI 0) C.x C.b dJ1_indexOf_10 (by decide) ?_
  refine va_mmax C.x C.b (C.ml.trans hl.1.symm) C.ow (C.ts _ tw_308) (C.ts _ tw_309) (C.ts _ tw_12) (C.ts _ kMath_max) (Nat.le_of_ble_eq_true rfl) (Nat.le_of_ble_eq_true rfl) (Nat.le_of_ble_eq_true rfl) (Nat.le_of_ble_eq_true rfl) dJ1_indexOf_11 ?_
  refine vt_top (y := nI 0) (by decide) ?_
  refine lv_istore_n (lv' := [(2, .int (nI 0)), (0, .ref (D.2 21 i)), (1, .int (nI ch)), (3, .int (nI (lnS.getD i 0)))]) C.x C.b dJ1_indexOf_14 rfl hl (by decide) rfl (fun ls hl => ?_)
  refine lv_iload_n C.x C.b dJ1_indexOf_15 rfl (lv_at hl 3 rfl) ?_
  refine lv_aload_n C.x C.b dJ1_indexOf_16 rfl (lv_at hl 1 rfl) ?_
  refine va_tlen (v := (nI (lnS.getD i 0))) C.x C.b (C.Z.2.2.1.1 i hi).2.2.2 hH.2.2 rfl dJ1_indexOf_17 ?_
  refine va_mmin C.x C.b (C.ml.trans hl.1.symm) C.ow (C.ts _ tw_311) (C.ts _ tw_312) (C.ts _ tw_12) (C.ts _ kMath_min) (Nat.le_of_ble_eq_true rfl) (Nat.le_of_ble_eq_true rfl) (Nat.le_of_ble_eq_true rfl) (Nat.le_of_ble_eq_true rfl) dJ1_indexOf_18 ?_
  refine vt_top (y := nI (lnS.getD i 0)) (ite_self _) ?_
  refine lv_istore_n (lv' := [(3, .int (nI (lnS.getD i 0))), (2, .int (nI 0)), (0, .ref (D.2 21 i)), (1, .int (nI ch))]) C.x C.b dJ1_indexOf_21 rfl hl (by decide) rfl (fun ls hl => ?_)
  have hln := lnS_all i hi
  refine lv_iload_n C.x C.b dJ1_indexOf_22 rfl (lv_at hl 1 rfl) ?_
  refine lv_iload_n C.x C.b dJ1_indexOf_23 rfl (lv_at hl 0 rfl) ?_
  refine vn_icmp_lt (tgt := 29) C.x C.b dJ1_indexOf_24 (by decide) (by omega) (by omega) (fun c_24 => ?_) (fun c_24 => ?_)
  · refine lv_aload_n C.x C.b dJ1_indexOf_29 rfl (lv_at hl 2 rfl) ?_
    refine lv_iload_n C.x C.b dJ1_indexOf_30 rfl (lv_at hl 3 rfl) ?_
    refine lv_iload_n C.x C.b dJ1_indexOf_31 rfl (lv_at hl 1 rfl) ?_
    refine lv_iload_n C.x C.b dJ1_indexOf_32 rfl (lv_at hl 0 rfl) ?_
    refine kS (As := [.ref (D.2 21 i), .int (nI ch), .int (nI 0), .int (nI (lnS.getD i 0))]) (isC := []) (isR := []) (wr := []) C hK hH (c_indexOfChar l htr D H.size i ch hi hc) ⟨rfl, rfl, rfl, rfl, by decide⟩ tw_314 tw_315 tw_11 kJ1_indexOfChar ⟨by decide +kernel, by decide +kernel, (by decide +kernel : (parseMethodDescriptor yJ1_indexOfChar.desc).map (fun d => d.parameters.length) = some 4)⟩ ⟨(Nat.le_of_ble_eq_true rfl), (Nat.le_of_ble_eq_true rfl)⟩ hl.1 (Nat.le_of_ble_eq_true rfl) dJ1_indexOf_33 ⟨(Nat.le_of_ble_eq_true rfl), (Nat.le_of_ble_eq_true rfl)⟩ (fun v9 w9 H locs hN hH => ?_) (fun _ _ _ _ _ _ h => False.elim h)
    obtain ⟨rfl, rfl⟩ := hN
    have hH : Hp D A s ([]) H locs := hH
    refine W.eq (g2 := F0 m 36 ls [.int (oI (ixS i ch))]) rfl ?_
    exact rI C hr hH (⟨rfl, rfl⟩) (Nat.le_of_ble_eq_true rfl) (Nat.le_of_ble_eq_true rfl) dJ1_indexOf_36
  · exact absurd c_24 (by omega)
set_option maxHeartbeats 4000000 in
set_option maxRecDepth 100000 in
theorem c_indexOf2 (l : Launch) (htr : l.stackTraces = false) (D : va_G) (sz : Nat) (i ch : Nat) (hi : i < 2) (hc : ch < 128) : Ct l yJ0_indexOf2 wJ0_indexOf2 { frames := 2, cells := 0, slots := 0, locals := 48 } D ([]) [.ref (D.2 20 i), .int (nI ch), .int (nI 0)] sz (fun v w => v = some (.int (oI (ixS i ch))) ∧ w = []) (nox) := by
  refine Ct.of (cc := cJ0_indexOf2) (nL := 3) (ret := (some .int)) (own := "java/lang/String") htr (by decide) rfl (Nat.le_of_ble_eq_true rfl) ?_
  intro p e s m args below meth c A C hr hK H locs hH ls hl
  have hl : lv_has ls 3 [(0, .ref (D.2 20 i)), (1, .int (nI ch)), (2, .int (nI 0))] := hl
  refine lv_aload_n C.x C.b dJ0_indexOf2_0 rfl (lv_at hl 0 rfl) ?_
  refine kVr (As := []) (isC := []) (isR := []) (wr := []) C hK hH (c_isLatin1 l htr D H.size i hi) ⟨rfl, rfl, rfl, rfl, by decide⟩ (vk_recv C.Z.2.2.1 (i := i) hi hH.2.2) tw_288 tw_289 tw_290 tw_10 kJ0_isLatin1 ⟨by decide +kernel, by decide +kernel, (by decide +kernel : (parseMethodDescriptor yJ0_isLatin1.desc).map (fun d => d.parameters.length) = some 0)⟩ ⟨(Nat.le_of_ble_eq_true rfl), (Nat.le_of_ble_eq_true rfl)⟩ hl.1 (Nat.le_of_ble_eq_true rfl) dJ0_indexOf2_1 ⟨(Nat.le_of_ble_eq_true rfl), (Nat.le_of_ble_eq_true rfl)⟩ (fun v9 w9 H locs hN hH => ?_) (fun _ _ _ _ _ _ h => False.elim h)
  obtain ⟨rfl, rfl⟩ := hN
  have hH : Hp D A s ([]) H locs := hH
  refine W.eq (g2 := F0 m 4 ls [.int (nI 1)]) rfl ?_
  refine vn_if_eq (tgt := 23) C.x C.b dJ0_indexOf2_4 (by decide) (by omega) (fun q => absurd q (by decide)) (fun _ => ?_)
  refine lv_aload_n C.x C.b dJ0_indexOf2_7 rfl (lv_at hl 0 rfl) ?_
  refine vk_getf (v := .ref (D.2 21 i)) C.x C.b (C.Z.2.2.1.1 i hi).2.2.1 hH.2.2 C.ow (C.ts _ tw_740) (fun _ h => h) dJ0_indexOf2_8 ?_
  refine lv_iload_n C.x C.b dJ0_indexOf2_11 rfl (lv_at hl 1 rfl) ?_
  refine lv_iload_n C.x C.b dJ0_indexOf2_12 rfl (lv_at hl 2 rfl) ?_
  refine lv_aload_n C.x C.b dJ0_indexOf2_13 rfl (lv_at hl 0 rfl) ?_
  refine kVr (As := []) (isC := []) (isR := []) (wr := []) C hK hH (c_length l htr D H.size i hi) ⟨rfl, rfl, rfl, rfl, by decide⟩ (vk_recv C.Z.2.2.1 (i := i) hi hH.2.2) tw_294 tw_295 tw_296 tw_10 kJ0_length ⟨by decide +kernel, by decide +kernel, (by decide +kernel : (parseMethodDescriptor yJ0_length.desc).map (fun d => d.parameters.length) = some 0)⟩ ⟨(Nat.le_of_ble_eq_true rfl), (Nat.le_of_ble_eq_true rfl)⟩ hl.1 (Nat.le_of_ble_eq_true rfl) dJ0_indexOf2_14 ⟨(Nat.le_of_ble_eq_true rfl), (Nat.le_of_ble_eq_true rfl)⟩ (fun v9 w9 H locs hN hH => ?_) (fun _ _ _ _ _ _ h => False.elim h)
  obtain ⟨rfl, rfl⟩ := hN
  have hH : Hp D A s ([]) H locs := hH
  refine W.eq (g2 := F0 m 17 ls [.int (nI (lnS.getD i 0)), .int (nI 0), .int (nI ch), .ref (D.2 21 i)]) rfl ?_
  refine kS (As := [.ref (D.2 21 i), .int (nI ch), .int (nI 0), .int (nI (lnS.getD i 0))]) (isC := []) (isR := []) (wr := []) C hK hH (c_J1indexOf l htr D H.size i ch hi hc) ⟨rfl, rfl, rfl, rfl, by decide⟩ tw_302 tw_303 tw_11 kJ1_indexOf ⟨by decide +kernel, by decide +kernel, (by decide +kernel : (parseMethodDescriptor yJ1_indexOf.desc).map (fun d => d.parameters.length) = some 4)⟩ ⟨(Nat.le_of_ble_eq_true rfl), (Nat.le_of_ble_eq_true rfl)⟩ hl.1 (Nat.le_of_ble_eq_true rfl) dJ0_indexOf2_17 ⟨(Nat.le_of_ble_eq_true rfl), (Nat.le_of_ble_eq_true rfl)⟩ (fun v9 w9 H locs hN hH => ?_) (fun _ _ _ _ _ _ h => False.elim h)
  obtain ⟨rfl, rfl⟩ := hN
  have hH : Hp D A s ([]) H locs := hH
  refine W.eq (g2 := F0 m 20 ls [.int (oI (ixS i ch))]) rfl ?_
  refine lv_goto (tgt := 36) C.x C.b dJ0_indexOf2_20 (by decide) ?_
  exact rI C hr hH (⟨rfl, rfl⟩) (Nat.le_of_ble_eq_true rfl) (Nat.le_of_ble_eq_true rfl) dJ0_indexOf2_36
set_option maxHeartbeats 4000000 in
set_option maxRecDepth 100000 in
theorem c_indexOf (l : Launch) (htr : l.stackTraces = false) (D : va_G) (sz : Nat) (i ch : Nat) (hi : i < 2) (hc : ch < 128) : Ct l yJ0_indexOf wJ0_indexOf { frames := 3, cells := 0, slots := 0, locals := 70 } D ([]) [.ref (D.2 20 i), .int (nI ch)] sz (fun v w => v = some (.int (oI (ixS i ch))) ∧ w = []) (nox) := by
  refine Ct.of (cc := cJ0_indexOf) (nL := 2) (ret := (some .int)) (own := "java/lang/String") htr (by decide) rfl (Nat.le_of_ble_eq_true rfl) ?_
  intro p e s m args below meth c A C hr hK H locs hH ls hl
  have hl : lv_has ls 2 [(0, .ref (D.2 20 i)), (1, .int (nI ch))] := hl
  refine lv_aload_n C.x C.b dJ0_indexOf_0 rfl (lv_at hl 0 rfl) ?_
  refine lv_iload_n C.x C.b dJ0_indexOf_1 rfl (lv_at hl 1 rfl) ?_
  refine lv_iconst (v := nI 0) C.x C.b dJ0_indexOf_2 (by decide) ?_
  refine kVr (As := [.int (nI ch), .int (nI 0)]) (isC := []) (isR := []) (wr := []) C hK hH (c_indexOf2 l htr D H.size i ch hi hc) ⟨rfl, rfl, rfl, rfl, by decide⟩ (vk_recv C.Z.2.2.1 (i := i) hi hH.2.2) tw_284 tw_285 tw_286 tw_10 kJ0_indexOf2 ⟨by decide +kernel, by decide +kernel, (by decide +kernel : (parseMethodDescriptor yJ0_indexOf2.desc).map (fun d => d.parameters.length) = some 2)⟩ ⟨(Nat.le_of_ble_eq_true rfl), (Nat.le_of_ble_eq_true rfl)⟩ hl.1 (Nat.le_of_ble_eq_true rfl) dJ0_indexOf_3 ⟨(Nat.le_of_ble_eq_true rfl), (Nat.le_of_ble_eq_true rfl)⟩ (fun v9 w9 H locs hN hH => ?_) (fun _ _ _ _ _ _ h => False.elim h)
  obtain ⟨rfl, rfl⟩ := hN
  have hH : Hp D A s ([]) H locs := hH
  refine W.eq (g2 := F0 m 6 ls [.int (oI (ixS i ch))]) rfl ?_
  exact rI C hr hH (⟨rfl, rfl⟩) (Nat.le_of_ble_eq_true rfl) (Nat.le_of_ble_eq_true rfl) dJ0_indexOf_6
