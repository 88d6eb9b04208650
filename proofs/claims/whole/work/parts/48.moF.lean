def bz (z : Int64) (j : Nat) : Nat := if badZ z j = true then 1 else 0
theorem bz_le (z : Int64) (j : Nat) : bz z j ≤ 1 := by unfold bz; split <;> omega
theorem bz_0 {z : Int64} {j : Nat} (h : bz z j = 0) : badZ z j = false := by
  unfold bz at h
  cases hb : badZ z j with
  | false => rfl
  | true => rw [hb] at h; exact absurd h (by decide)
theorem bz_1 {z : Int64} {j : Nat} (h : bz z j ≠ 0) : badZ z j = true := by
  unfold bz at h
  cases hb : badZ z j with
  | false => rw [hb] at h; exact absurd rfl h
  | true => rfl
theorem bz_b {z : Int64} {j : Nat} (h : by8 z j ≠ 0 ∧ (by8 z j < 33 ∨ 126 < by8 z j)) : bz z (j + 1) = 1 := by
  have : bad8 (by8 z j) = true := by simp only [bad8, Bool.and_eq_true, Bool.or_eq_true, decide_eq_true_eq]; exact h
  unfold bz; rw [badZ, this, Bool.or_true]; rfl
theorem bz_g {z : Int64} {j : Nat} (h : by8 z j = 0 ∨ (33 ≤ by8 z j ∧ by8 z j ≤ 126)) : bz z (j + 1) = bz z j := by
  have : bad8 (by8 z j) = false := by simp only [bad8, Bool.and_eq_false_iff, Bool.or_eq_false_iff, decide_eq_false_iff_not]; omega
  unfold bz; rw [badZ, this, Bool.or_false]
theorem txtI (t : Nat → Nat) (n c : Nat) : upd (fun i => nI (t i)) n (nI c) = fun i => nI (va_up t n c i) := by
  funext i; unfold upd va_up; split <;> rfl
set_option maxHeartbeats 4000000 in
set_option maxRecDepth 100000 in
theorem m_type (l : Launch) (htr : l.stackTraces = false) (D : va_G) (sz : Nat) (m0 tm rgm mem bym in_ so fr sh wo fe go fi se_ th n : Nat) (pl : Int32) (a pt hd : Nat) (cyc rds wrs fts : Int32) (thr : Nat) (wcm bcm : Bool) (wd0 ab : Int32) (t : Nat → Nat) (z : Int64) (hn : n ≤ 40) (ht : ∀ j, t j < 128) : Ct l yX3_type wX3_type { frames := 0, cells := 0, slots := 0, locals := 0 } D ([(m0, .inr (3, [.ref tm, .ref rgm, .ref mem, .ref bym, .ref in_, .ref so, .ref fr, .ref sh, .ref wo, .ref fe, .ref go, .ref fi, .ref se_, .ref th, .int (nI n), .int pl, .int (nI a), .int (nI pt), .int (nI hd), .int cyc, .int rds, .int wrs, .int fts, .int (nI thr), .int (bI wcm), .int (bI bcm), .int wd0, .int ab])), (tm, .inl (D.1 11, 40, .inl (fun i => nI (t i))))]) [.ref m0, .long z] sz (fun v w => (badZ z 8 = false ∧ n + cnt8 z 8 ≤ 40 ∧ v = some (.int (nI (tyT t n z 8).2)) ∧ w = [(m0, .inr (3, [.ref tm, .ref rgm, .ref mem, .ref bym, .ref in_, .ref so, .ref fr, .ref sh, .ref wo, .ref fe, .ref go, .ref fi, .ref se_, .ref th, .int (nI ((tyT t n z 8).2)), .int pl, .int (nI a), .int (nI pt), .int (nI hd), .int cyc, .int rds, .int wrs, .int fts, .int (nI 0), .int (bI wcm), .int (bI bcm), .int wd0, .int ab])), (tm, .inl (D.1 11, 40, .inl (fun i => nI (((tyT t n z 8).1) i))))]) ∨ (badZ z 8 = true ∧ v = some (.int (nI 0)) ∧ w = [(m0, .inr (3, [.ref tm, .ref rgm, .ref mem, .ref bym, .ref in_, .ref so, .ref fr, .ref sh, .ref wo, .ref fe, .ref go, .ref fi, .ref se_, .ref th, .int (nI n), .int pl, .int (nI a), .int (nI pt), .int (nI hd), .int cyc, .int rds, .int wrs, .int fts, .int (nI 1), .int (bI wcm), .int (bI bcm), .int wd0, .int ab])), (tm, .inl (D.1 11, 40, .inl (fun i => nI (t i))))]) ∨ (badZ z 8 = false ∧ 40 < n + cnt8 z 8 ∧ v = some (.int (nI 0)) ∧ w = [(m0, .inr (3, [.ref tm, .ref rgm, .ref mem, .ref bym, .ref in_, .ref so, .ref fr, .ref sh, .ref wo, .ref fe, .ref go, .ref fi, .ref se_, .ref th, .int (nI n), .int pl, .int (nI a), .int (nI pt), .int (nI hd), .int cyc, .int rds, .int wrs, .int fts, .int (nI 2), .int (bI wcm), .int (bI bcm), .int wd0, .int ab])), (tm, .inl (D.1 11, 40, .inl (fun i => nI (t i))))])) (nox) := by
  refine Ct.of (cc := cX3_type) (nL := 6) (ret := (some .int)) (own := RX3) htr (by decide) rfl (Nat.le_of_ble_eq_true rfl) ?_
  intro p e s m args below meth c A C hr hK H locs hH ls hl
  have hl : lv_has ls 6 [(0, .ref m0), (1, .long z)] := hl
  refine lv_aload_n C.x C.b dX3_type_0 rfl (lv_at hl 0 rfl) ?_
  refine lv_iconst (v := nI 0) C.x C.b dX3_type_1 (by decide) ?_
  refine gPut (v := .int (nI 0)) (ws' := [(m0, .inr (3, [.ref tm, .ref rgm, .ref mem, .ref bym, .ref in_, .ref so, .ref fr, .ref sh, .ref wo, .ref fe, .ref go, .ref fi, .ref se_, .ref th, .int (nI n), .int pl, .int (nI a), .int (nI pt), .int (nI hd), .int cyc, .int rds, .int wrs, .int fts, .int (nI 0), .int (bI wcm), .int (bI bcm), .int wd0, .int ab])), (tm, .inl (D.1 11, 40, .inl (fun i => nI (t i))))]) C hK hH 0 23 tyX3 tyX3_ok nmX3 rfl rfl inX3 (by decide) tw_561 rfl rfl rfl (Nat.le_of_ble_eq_true rfl) rfl dX3_type_2 (fun H locs hH => ?_)
  refine lv_iconst (v := nI 0) C.x C.b dX3_type_5 (by decide) ?_
  refine vt_top (y := nI (cnt8 z 0)) rfl ?_
  refine lv_istore_n (lv' := [(3, .int (nI (cnt8 z 0))), (0, .ref m0), (1, .long z)]) C.x C.b dX3_type_6 rfl hl (by decide) rfl (fun ls hl => ?_)
  refine lv_bipush (v := nI 56) C.x C.b dX3_type_7 (by decide) ?_
  refine vt_top (y := shI 0) sh_0.symm ?_
  refine lv_istore (lv' := [(4, .int (shI 0)), (3, .int (nI (cnt8 z 0))), (0, .ref m0), (1, .long z)]) C.x C.b dX3_type_9 hl (by decide) rfl (fun ls hl => ?_)
  have hH : Hp D A s ([(m0, .inr (3, [.ref tm, .ref rgm, .ref mem, .ref bym, .ref in_, .ref so, .ref fr, .ref sh, .ref wo, .ref fe, .ref go, .ref fi, .ref se_, .ref th, .int (nI n), .int pl, .int (nI a), .int (nI pt), .int (nI hd), .int cyc, .int rds, .int wrs, .int fts, .int (nI (bz z 0)), .int (bI wcm), .int (bI bcm), .int wd0, .int ab])), (tm, .inl (D.1 11, 40, .inl (fun i => nI (t i))))]) H locs := hH
  have L_11 : ∀ (fuel : Nat) (j : Nat) (hj : j ≤ 8), 8 - j < fuel → ∀ (H : Heap) (locs : List Loc), Hp D A s ([(m0, .inr (3, [.ref tm, .ref rgm, .ref mem, .ref bym, .ref in_, .ref so, .ref fr, .ref sh, .ref wo, .ref fe, .ref go, .ref fi, .ref se_, .ref th, .int (nI n), .int pl, .int (nI a), .int (nI pt), .int (nI hd), .int cyc, .int rds, .int wrs, .int fts, .int (nI (bz z j)), .int (bI wcm), .int (bI bcm), .int wd0, .int ab])), (tm, .inl (D.1 11, 40, .inl (fun i => nI (t i))))]) H locs → ∀ ls : Array Slot, lv_has ls 6 [(4, .int (shI j)), (3, .int (nI (cnt8 z j))), (0, .ref m0), (1, .long z)] → W p l e { frames := 0, cells := 0, slots := 0, locals := 0 } s m args below meth c H locs 0 0 (Qf below args s D A (fun v w => (badZ z 8 = false ∧ n + cnt8 z 8 ≤ 40 ∧ v = some (.int (nI (tyT t n z 8).2)) ∧ w = [(m0, .inr (3, [.ref tm, .ref rgm, .ref mem, .ref bym, .ref in_, .ref so, .ref fr, .ref sh, .ref wo, .ref fe, .ref go, .ref fi, .ref se_, .ref th, .int (nI ((tyT t n z 8).2)), .int pl, .int (nI a), .int (nI pt), .int (nI hd), .int cyc, .int rds, .int wrs, .int fts, .int (nI 0), .int (bI wcm), .int (bI bcm), .int wd0, .int ab])), (tm, .inl (D.1 11, 40, .inl (fun i => nI (((tyT t n z 8).1) i))))]) ∨ (badZ z 8 = true ∧ v = some (.int (nI 0)) ∧ w = [(m0, .inr (3, [.ref tm, .ref rgm, .ref mem, .ref bym, .ref in_, .ref so, .ref fr, .ref sh, .ref wo, .ref fe, .ref go, .ref fi, .ref se_, .ref th, .int (nI n), .int pl, .int (nI a), .int (nI pt), .int (nI hd), .int cyc, .int rds, .int wrs, .int fts, .int (nI 1), .int (bI wcm), .int (bI bcm), .int wd0, .int ab])), (tm, .inl (D.1 11, 40, .inl (fun i => nI (t i))))]) ∨ (badZ z 8 = false ∧ 40 < n + cnt8 z 8 ∧ v = some (.int (nI 0)) ∧ w = [(m0, .inr (3, [.ref tm, .ref rgm, .ref mem, .ref bym, .ref in_, .ref so, .ref fr, .ref sh, .ref wo, .ref fe, .ref go, .ref fi, .ref se_, .ref th, .int (nI n), .int pl, .int (nI a), .int (nI pt), .int (nI hd), .int cyc, .int rds, .int wrs, .int fts, .int (nI 2), .int (bI wcm), .int (bI bcm), .int wd0, .int ab])), (tm, .inl (D.1 11, 40, .inl (fun i => nI (t i))))])) (nox) { frames := 0, cells := 0, slots := 0, locals := 0 }) (F0 m 11 ls []) := by
    intro fuel
    induction fuel with
    | zero => intro j hj hm; exact absurd hm (Nat.not_lt_zero _)
    | succ fuel ih =>
      intro j hj hm H locs hH ls hl
      refine lv_iload C.x C.b dX3_type_11 (lv_at hl 0 rfl) ?_
      rcases Nat.lt_or_ge j 8 with hj8 | hj8
      · refine lv_if_lt (tgt := 65) C.x C.b dX3_type_13 (by decide) (fun q => absurd q (sh_nn j hj8).1) (fun _ => ?_)
        refine lv_lload_n C.x C.b dX3_type_16 rfl (lv_at hl 3 rfl) ?_
        refine lv_iload C.x C.b dX3_type_17 (lv_at hl 0 rfl) ?_
        refine vt_top (y := nI (56 - 8 * j)) (sh_nn j hj8).2.1 ?_
        refine lv_lushr C.x C.b dX3_type_19 rfl ?_
        refine lv_l2i C.x C.b dX3_type_20 rfl ?_
        refine lv_sipush (v := nI 255) C.x C.b dX3_type_21 (by decide) ?_
        refine lv_iand C.x C.b dX3_type_24 ?_
        refine vt_top (y := nI (by8 z j)) (bO_all z (56 - 8 * j)).1 ?_
        have hby2 : by8 z j < 256 := (bO_all z _).2
        refine lv_istore (lv' := [(5, .int (nI (by8 z j))), (4, .int (shI j)), (3, .int (nI (cnt8 z j))), (0, .ref m0), (1, .long z)]) C.x C.b dX3_type_25 hl (by decide) rfl (fun ls hl => ?_)
        refine lv_iload C.x C.b dX3_type_27 (lv_at hl 0 rfl) ?_
        refine vn_if_eq (tgt := 35) C.x C.b dX3_type_29 (by decide) (by omega) (fun c_29 => ?_) (fun c_29 => ?_)
        · refine lv_iload C.x C.b dX3_type_35 (lv_at hl 0 rfl) ?_
          refine vn_if_eq (tgt := 59) C.x C.b dX3_type_37 (by decide) (by omega) (fun _ => ?_) (fun q => absurd c_29 q)
          have e3 : cnt8 z (j + 1) = cnt8 z j := by rw [cnt8, if_pos c_29]; rfl
          have e4 : bz z (j + 1) = bz z j := bz_g (by omega)
          have hl : lv_has ls 6 [(5, .int (nI (by8 z j))), (4, .int (shI j)), (3, .int (nI (cnt8 z (j + 1)))), (0, .ref m0), (1, .long z)] := by rw [e3]; exact hl
          have hH : Hp D A s ([(m0, .inr (3, [.ref tm, .ref rgm, .ref mem, .ref bym, .ref in_, .ref so, .ref fr, .ref sh, .ref wo, .ref fe, .ref go, .ref fi, .ref se_, .ref th, .int (nI n), .int pl, .int (nI a), .int (nI pt), .int (nI hd), .int cyc, .int rds, .int wrs, .int fts, .int (nI (bz z (j + 1))), .int (bI wcm), .int (bI bcm), .int wd0, .int ab])), (tm, .inl (D.1 11, 40, .inl (fun i => nI (t i))))]) H locs := by rw [e4]; exact hH
          refine lv_iinc (v := shI (j + 1)) (lv' := [(4, .int (shI (j + 1))), (5, .int (nI (by8 z j))), (3, .int (nI (cnt8 z (j + 1)))), (0, .ref m0), (1, .long z)]) C.x C.b dX3_type_59 hl (k := 1) rfl (sh_nn j hj8).2.2 (by decide) rfl (fun ls hl => ?_)
          refine lv_goto (tgt := 11) C.x C.b dX3_type_62 (by decide) ?_
          exact ih (j + 1) (by omega) (by omega) _ _ hH ls (lv_sub hl [0, 2, 3, 4] rfl)
        · refine lv_iinc (v := (nI (cnt8 z j + 1))) (lv' := [(3, .int (nI (cnt8 z j + 1))), (5, .int (nI (by8 z j))), (4, .int (shI j)), (0, .ref m0), (1, .long z)]) C.x C.b dX3_type_32 hl (k := 2) rfl (by rw [show Int32.ofInt 1 = nI 1 from by decide, nI_add]) (by decide) rfl (fun ls hl => ?_)
          refine lv_iload C.x C.b dX3_type_35 (lv_at hl 1 rfl) ?_
          refine vn_if_eq (tgt := 59) C.x C.b dX3_type_37 (by decide) (by omega) (fun q => absurd q c_29) (fun _ => ?_)
          refine lv_iload C.x C.b dX3_type_40 (lv_at hl 1 rfl) ?_
          refine lv_bipush (v := nI 33) C.x C.b dX3_type_42 (by decide) ?_
          refine vn_icmp_lt (tgt := 54) C.x C.b dX3_type_44 (by decide) (by omega) (by omega) (fun c_44 => ?_) (fun c_44 => ?_)
          · refine lv_aload_n C.x C.b dX3_type_54 rfl (lv_at hl 3 rfl) ?_
            refine lv_iconst (v := nI 1) C.x C.b dX3_type_55 (by decide) ?_
            refine gPut (v := .int (nI 1)) (ws' := [(m0, .inr (3, [.ref tm, .ref rgm, .ref mem, .ref bym, .ref in_, .ref so, .ref fr, .ref sh, .ref wo, .ref fe, .ref go, .ref fi, .ref se_, .ref th, .int (nI n), .int pl, .int (nI a), .int (nI pt), .int (nI hd), .int cyc, .int rds, .int wrs, .int fts, .int (nI 1), .int (bI wcm), .int (bI bcm), .int wd0, .int ab])), (tm, .inl (D.1 11, 40, .inl (fun i => nI (t i))))]) C hK hH 0 23 tyX3 tyX3_ok nmX3 rfl rfl inX3 (by decide) tw_561 rfl rfl rfl (Nat.le_of_ble_eq_true rfl) rfl dX3_type_56 (fun H locs hH => ?_)
            have e3 : cnt8 z (j + 1) = cnt8 z j + 1 := by rw [cnt8, if_neg c_29]
            have e4 : bz z (j + 1) = 1 := bz_b (by omega)
            have hl : lv_has ls 6 [(3, .int (nI (cnt8 z (j + 1)))), (5, .int (nI (by8 z j))), (4, .int (shI j)), (0, .ref m0), (1, .long z)] := by rw [e3]; exact hl
            have hH : Hp D A s ([(m0, .inr (3, [.ref tm, .ref rgm, .ref mem, .ref bym, .ref in_, .ref so, .ref fr, .ref sh, .ref wo, .ref fe, .ref go, .ref fi, .ref se_, .ref th, .int (nI n), .int pl, .int (nI a), .int (nI pt), .int (nI hd), .int cyc, .int rds, .int wrs, .int fts, .int (nI (bz z (j + 1))), .int (bI wcm), .int (bI bcm), .int wd0, .int ab])), (tm, .inl (D.1 11, 40, .inl (fun i => nI (t i))))]) H locs := by rw [e4]; exact hH
            refine lv_iinc (v := shI (j + 1)) (lv' := [(4, .int (shI (j + 1))), (3, .int (nI (cnt8 z (j + 1)))), (5, .int (nI (by8 z j))), (0, .ref m0), (1, .long z)]) C.x C.b dX3_type_59 hl (k := 2) rfl (sh_nn j hj8).2.2 (by decide) rfl (fun ls hl => ?_)
            refine lv_goto (tgt := 11) C.x C.b dX3_type_62 (by decide) ?_
            exact ih (j + 1) (by omega) (by omega) _ _ hH ls (lv_sub hl [0, 1, 3, 4] rfl)
          · refine lv_iload C.x C.b dX3_type_47 (lv_at hl 1 rfl) ?_
            refine lv_bipush (v := nI 126) C.x C.b dX3_type_49 (by decide) ?_
            refine vn_icmp_le (tgt := 59) C.x C.b dX3_type_51 (by decide) (by omega) (by omega) (fun c_51 => ?_) (fun c_51 => ?_)
            · have e3 : cnt8 z (j + 1) = cnt8 z j + 1 := by rw [cnt8, if_neg c_29]
              have e4 : bz z (j + 1) = bz z j := bz_g (by omega)
              have hl : lv_has ls 6 [(3, .int (nI (cnt8 z (j + 1)))), (5, .int (nI (by8 z j))), (4, .int (shI j)), (0, .ref m0), (1, .long z)] := by rw [e3]; exact hl
              have hH : Hp D A s ([(m0, .inr (3, [.ref tm, .ref rgm, .ref mem, .ref bym, .ref in_, .ref so, .ref fr, .ref sh, .ref wo, .ref fe, .ref go, .ref fi, .ref se_, .ref th, .int (nI n), .int pl, .int (nI a), .int (nI pt), .int (nI hd), .int cyc, .int rds, .int wrs, .int fts, .int (nI (bz z (j + 1))), .int (bI wcm), .int (bI bcm), .int wd0, .int ab])), (tm, .inl (D.1 11, 40, .inl (fun i => nI (t i))))]) H locs := by rw [e4]; exact hH
              refine lv_iinc (v := shI (j + 1)) (lv' := [(4, .int (shI (j + 1))), (3, .int (nI (cnt8 z (j + 1)))), (5, .int (nI (by8 z j))), (0, .ref m0), (1, .long z)]) C.x C.b dX3_type_59 hl (k := 2) rfl (sh_nn j hj8).2.2 (by decide) rfl (fun ls hl => ?_)
              refine lv_goto (tgt := 11) C.x C.b dX3_type_62 (by decide) ?_
              exact ih (j + 1) (by omega) (by omega) _ _ hH ls (lv_sub hl [0, 1, 3, 4] rfl)
            · refine lv_aload_n C.x C.b dX3_type_54 rfl (lv_at hl 3 rfl) ?_
              refine lv_iconst (v := nI 1) C.x C.b dX3_type_55 (by decide) ?_
              refine gPut (v := .int (nI 1)) (ws' := [(m0, .inr (3, [.ref tm, .ref rgm, .ref mem, .ref bym, .ref in_, .ref so, .ref fr, .ref sh, .ref wo, .ref fe, .ref go, .ref fi, .ref se_, .ref th, .int (nI n), .int pl, .int (nI a), .int (nI pt), .int (nI hd), .int cyc, .int rds, .int wrs, .int fts, .int (nI 1), .int (bI wcm), .int (bI bcm), .int wd0, .int ab])), (tm, .inl (D.1 11, 40, .inl (fun i => nI (t i))))]) C hK hH 0 23 tyX3 tyX3_ok nmX3 rfl rfl inX3 (by decide) tw_561 rfl rfl rfl (Nat.le_of_ble_eq_true rfl) rfl dX3_type_56 (fun H locs hH => ?_)
              have e3 : cnt8 z (j + 1) = cnt8 z j + 1 := by rw [cnt8, if_neg c_29]
              have e4 : bz z (j + 1) = 1 := bz_b (by omega)
              have hl : lv_has ls 6 [(3, .int (nI (cnt8 z (j + 1)))), (5, .int (nI (by8 z j))), (4, .int (shI j)), (0, .ref m0), (1, .long z)] := by rw [e3]; exact hl
              have hH : Hp D A s ([(m0, .inr (3, [.ref tm, .ref rgm, .ref mem, .ref bym, .ref in_, .ref so, .ref fr, .ref sh, .ref wo, .ref fe, .ref go, .ref fi, .ref se_, .ref th, .int (nI n), .int pl, .int (nI a), .int (nI pt), .int (nI hd), .int cyc, .int rds, .int wrs, .int fts, .int (nI (bz z (j + 1))), .int (bI wcm), .int (bI bcm), .int wd0, .int ab])), (tm, .inl (D.1 11, 40, .inl (fun i => nI (t i))))]) H locs := by rw [e4]; exact hH
              refine lv_iinc (v := shI (j + 1)) (lv' := [(4, .int (shI (j + 1))), (3, .int (nI (cnt8 z (j + 1)))), (5, .int (nI (by8 z j))), (0, .ref m0), (1, .long z)]) C.x C.b dX3_type_59 hl (k := 2) rfl (sh_nn j hj8).2.2 (by decide) rfl (fun ls hl => ?_)
              refine lv_goto (tgt := 11) C.x C.b dX3_type_62 (by decide) ?_
              exact ih (j + 1) (by omega) (by omega) _ _ hH ls (lv_sub hl [0, 1, 3, 4] rfl)
      · obtain rfl : j = 8 := by omega
        refine lv_if_lt (tgt := 65) C.x C.b dX3_type_13 (by decide) (fun _ => ?_) (fun q => absurd sh_end q)
        have hc8 := cnt8_le z 8
        have hbz := bz_le z 8
        refine lv_aload_n C.x C.b dX3_type_65 rfl (lv_at hl 2 rfl) ?_
        refine gGet (v := .int (nI (bz z 8))) C hK hH 0 23 rfl rfl inX3 (by decide) tw_561 rfl dX3_type_66 ?_
        refine vn_if_ne (tgt := 88) C.x C.b dX3_type_69 (by decide) (by omega) (fun c_69 => ?_) (fun c_69 => ?_)
        · have hbad := bz_1 c_69
          have e1 : bz z 8 = 1 := by omega
          have hH : Hp D A s ([(m0, .inr (3, [.ref tm, .ref rgm, .ref mem, .ref bym, .ref in_, .ref so, .ref fr, .ref sh, .ref wo, .ref fe, .ref go, .ref fi, .ref se_, .ref th, .int (nI n), .int pl, .int (nI a), .int (nI pt), .int (nI hd), .int cyc, .int rds, .int wrs, .int fts, .int (nI 1), .int (bI wcm), .int (bI bcm), .int wd0, .int ab])), (tm, .inl (D.1 11, 40, .inl (fun i => nI (t i))))]) H locs := by rw [e1] at hH; exact hH
          refine lv_bipush (v := nI 56) C.x C.b dX3_type_88 (by decide) ?_
          refine vt_top (y := shI 0) sh_0.symm ?_
          refine lv_istore (lv' := [(4, .int (shI 0)), (3, .int (nI (cnt8 z 8))), (0, .ref m0), (1, .long z)]) C.x C.b dX3_type_90 hl (by decide) rfl (fun ls hl => ?_)
          refine lv_iload C.x C.b dX3_type_92 (lv_at hl 0 rfl) ?_
          refine lv_if_lt (tgt := 144) C.x C.b dX3_type_94 (by decide) (fun q => absurd q (sh_nn 0 (by decide)).1) (fun _ => ?_)
          refine lv_aload_n C.x C.b dX3_type_97 rfl (lv_at hl 2 rfl) ?_
          refine gGet (v := .int (nI 1)) C hK hH 0 23 rfl rfl inX3 (by decide) tw_561 rfl dX3_type_98 ?_
          refine vn_if_ne (tgt := 144) C.x C.b dX3_type_101 (by decide) (by omega) (fun _ => ?_) (fun q => absurd q (by decide))
          refine lv_aload_n C.x C.b dX3_type_144 rfl (lv_at hl 2 rfl) ?_
          refine gGet (v := .int (nI 1)) C hK hH 0 23 rfl rfl inX3 (by decide) tw_561 rfl dX3_type_145 ?_
          refine vn_if_ne (tgt := 158) C.x C.b dX3_type_148 (by decide) (by omega) (fun _ => ?_) (fun q => absurd q (by decide))
          refine lv_iconst (v := nI 0) C.x C.b dX3_type_158 (by decide) ?_
          exact rI C hr hH (Or.inr (Or.inl ⟨hbad, rfl, rfl⟩)) (Nat.le_of_ble_eq_true rfl) (Nat.le_of_ble_eq_true rfl) dX3_type_159
        · have hbad := bz_0 c_69
          have hH : Hp D A s ([(m0, .inr (3, [.ref tm, .ref rgm, .ref mem, .ref bym, .ref in_, .ref so, .ref fr, .ref sh, .ref wo, .ref fe, .ref go, .ref fi, .ref se_, .ref th, .int (nI n), .int pl, .int (nI a), .int (nI pt), .int (nI hd), .int cyc, .int rds, .int wrs, .int fts, .int (nI 0), .int (bI wcm), .int (bI bcm), .int wd0, .int ab])), (tm, .inl (D.1 11, 40, .inl (fun i => nI (t i))))]) H locs := by rw [c_69] at hH; exact hH
          refine lv_aload_n C.x C.b dX3_type_72 rfl (lv_at hl 2 rfl) ?_
          refine gGet (v := .int (nI n)) C hK hH 0 14 rfl rfl inX3 (by decide) tw_552 rfl dX3_type_73 ?_
          refine lv_iload_n C.x C.b dX3_type_76 rfl (lv_at hl 1 rfl) ?_
          refine lv_iadd C.x C.b dX3_type_77 ?_
          refine vt_top (nI_add _ _) ?_
          refine lv_bipush (v := nI 40) C.x C.b dX3_type_78 (by decide) ?_
          refine vn_icmp_le (tgt := 88) C.x C.b dX3_type_80 (by decide) (by omega) (by omega) (fun c_80 => ?_) (fun c_80 => ?_)
          · refine lv_bipush (v := nI 56) C.x C.b dX3_type_88 (by decide) ?_
            refine vt_top (y := shI 0) sh_0.symm ?_
            refine lv_istore (lv' := [(4, .int (shI 0)), (3, .int (nI (cnt8 z 8))), (0, .ref m0), (1, .long z)]) C.x C.b dX3_type_90 hl (by decide) rfl (fun ls hl => ?_)
            have L_92 : ∀ (fuel : Nat) (j : Nat) (hj : j ≤ 8), 8 - j < fuel → ∀ (H : Heap) (locs : List Loc), Hp D A s ([(m0, .inr (3, [.ref tm, .ref rgm, .ref mem, .ref bym, .ref in_, .ref so, .ref fr, .ref sh, .ref wo, .ref fe, .ref go, .ref fi, .ref se_, .ref th, .int (nI ((tyT t n z j).2)), .int pl, .int (nI a), .int (nI pt), .int (nI hd), .int cyc, .int rds, .int wrs, .int fts, .int (nI 0), .int (bI wcm), .int (bI bcm), .int wd0, .int ab])), (tm, .inl (D.1 11, 40, .inl (fun i => nI (((tyT t n z j).1) i))))]) H locs → ∀ ls : Array Slot, lv_has ls 6 [(4, .int (shI j)), (3, .int (nI (cnt8 z 8))), (0, .ref m0), (1, .long z)] → W p l e { frames := 0, cells := 0, slots := 0, locals := 0 } s m args below meth c H locs 0 0 (Qf below args s D A (fun v w => (badZ z 8 = false ∧ n + cnt8 z 8 ≤ 40 ∧ v = some (.int (nI (tyT t n z 8).2)) ∧ w = [(m0, .inr (3, [.ref tm, .ref rgm, .ref mem, .ref bym, .ref in_, .ref so, .ref fr, .ref sh, .ref wo, .ref fe, .ref go, .ref fi, .ref se_, .ref th, .int (nI ((tyT t n z 8).2)), .int pl, .int (nI a), .int (nI pt), .int (nI hd), .int cyc, .int rds, .int wrs, .int fts, .int (nI 0), .int (bI wcm), .int (bI bcm), .int wd0, .int ab])), (tm, .inl (D.1 11, 40, .inl (fun i => nI (((tyT t n z 8).1) i))))]) ∨ (badZ z 8 = true ∧ v = some (.int (nI 0)) ∧ w = [(m0, .inr (3, [.ref tm, .ref rgm, .ref mem, .ref bym, .ref in_, .ref so, .ref fr, .ref sh, .ref wo, .ref fe, .ref go, .ref fi, .ref se_, .ref th, .int (nI n), .int pl, .int (nI a), .int (nI pt), .int (nI hd), .int cyc, .int rds, .int wrs, .int fts, .int (nI 1), .int (bI wcm), .int (bI bcm), .int wd0, .int ab])), (tm, .inl (D.1 11, 40, .inl (fun i => nI (t i))))]) ∨ (badZ z 8 = false ∧ 40 < n + cnt8 z 8 ∧ v = some (.int (nI 0)) ∧ w = [(m0, .inr (3, [.ref tm, .ref rgm, .ref mem, .ref bym, .ref in_, .ref so, .ref fr, .ref sh, .ref wo, .ref fe, .ref go, .ref fi, .ref se_, .ref th, .int (nI n), .int pl, .int (nI a), .int (nI pt), .int (nI hd), .int cyc, .int rds, .int wrs, .int fts, .int (nI 2), .int (bI wcm), .int (bI bcm), .int wd0, .int ab])), (tm, .inl (D.1 11, 40, .inl (fun i => nI (t i))))])) (nox) { frames := 0, cells := 0, slots := 0, locals := 0 }) (F0 m 92 ls []) := by
              intro fuel
              induction fuel with
              | zero => intro j hj hm; exact absurd hm (Nat.not_lt_zero _)
              | succ fuel ih =>
                intro j hj hm H locs hH ls hl
                refine lv_iload C.x C.b dX3_type_92 (lv_at hl 0 rfl) ?_
                rcases Nat.lt_or_ge j 8 with hj8 | hj8
                · refine lv_if_lt (tgt := 144) C.x C.b dX3_type_94 (by decide) (fun q => absurd q (sh_nn j hj8).1) (fun _ => ?_)
                  refine lv_aload_n C.x C.b dX3_type_97 rfl (lv_at hl 2 rfl) ?_
                  refine gGet (v := .int (nI 0)) C hK hH 0 23 rfl rfl inX3 (by decide) tw_561 rfl dX3_type_98 ?_
                  refine vn_if_ne (tgt := 144) C.x C.b dX3_type_101 (by decide) (by omega) (fun q => absurd q (by decide)) (fun _ => ?_)
                  refine lv_lload_n C.x C.b dX3_type_104 rfl (lv_at hl 3 rfl) ?_
                  refine lv_iload C.x C.b dX3_type_105 (lv_at hl 0 rfl) ?_
                  refine vt_top (y := nI (56 - 8 * j)) (sh_nn j hj8).2.1 ?_
                  refine lv_lushr C.x C.b dX3_type_107 rfl ?_
                  refine lv_l2i C.x C.b dX3_type_108 rfl ?_
                  refine lv_sipush (v := nI 255) C.x C.b dX3_type_109 (by decide) ?_
                  refine lv_iand C.x C.b dX3_type_112 ?_
                  refine vt_top (y := nI (by8 z j)) (bO_all z (56 - 8 * j)).1 ?_
                  have hby2 : by8 z j < 256 := (bO_all z _).2
                  refine lv_istore (lv' := [(5, .int (nI (by8 z j))), (4, .int (shI j)), (3, .int (nI (cnt8 z 8))), (0, .ref m0), (1, .long z)]) C.x C.b dX3_type_113 hl (by decide) rfl (fun ls hl => ?_)
                  refine lv_iload C.x C.b dX3_type_115 (lv_at hl 0 rfl) ?_
                  refine vn_if_eq (tgt := 138) C.x C.b dX3_type_117 (by decide) (by omega) (fun c_117 => ?_) (fun c_117 => ?_)
                  · have e9 : tyT t n z (j + 1) = tyT t n z j := by rw [tyT, if_pos c_117]
                    have hH : Hp D A s ([(m0, .inr (3, [.ref tm, .ref rgm, .ref mem, .ref bym, .ref in_, .ref so, .ref fr, .ref sh, .ref wo, .ref fe, .ref go, .ref fi, .ref se_, .ref th, .int (nI ((tyT t n z (j + 1)).2)), .int pl, .int (nI a), .int (nI pt), .int (nI hd), .int cyc, .int rds, .int wrs, .int fts, .int (nI 0), .int (bI wcm), .int (bI bcm), .int wd0, .int ab])), (tm, .inl (D.1 11, 40, .inl (fun i => nI (((tyT t n z (j + 1)).1) i))))]) H locs := by rw [e9]; exact hH
                    refine lv_iinc (v := shI (j + 1)) (lv' := [(4, .int (shI (j + 1))), (5, .int (nI (by8 z j))), (3, .int (nI (cnt8 z 8))), (0, .ref m0), (1, .long z)]) C.x C.b dX3_type_138 hl (k := 1) rfl (sh_nn j hj8).2.2 (by decide) rfl (fun ls hl => ?_)
                    refine lv_goto (tgt := 92) C.x C.b dX3_type_141 (by decide) ?_
                    exact ih (j + 1) (by omega) (by omega) _ _ hH ls (lv_sub hl [0, 2, 3, 4] rfl)
                  · have hn9 := tyT_n t n z j
                    have hn8 := cnt8_mono z (i := j + 1) 8 (by omega)
                    rw [cnt8, if_neg c_117] at hn8
                    refine lv_aload_n C.x C.b dX3_type_120 rfl (lv_at hl 3 rfl) ?_
                    refine gGet (v := .ref tm) C hK hH 0 0 rfl rfl inX3 (by decide) tw_538 rfl dX3_type_121 ?_
                    refine lv_aload_n C.x C.b dX3_type_124 rfl (lv_at hl 3 rfl) ?_
                    refine lv_dup C.x C.b dX3_type_125 rfl ?_
                    refine gGet (v := .int (nI ((tyT t n z j).2))) C hK hH 0 14 rfl rfl inX3 (by decide) tw_552 rfl dX3_type_126 ?_
                    refine lv_dup_x1 C.x C.b dX3_type_129 rfl rfl ?_
                    refine lv_iconst (v := nI 1) C.x C.b dX3_type_130 (by decide) ?_
                    refine lv_iadd C.x C.b dX3_type_131 ?_
                    refine vt_top (nI_add _ _) ?_
                    refine gPut (v := .int (nI ((tyT t n z j).2 + 1))) (ws' := [(m0, .inr (3, [.ref tm, .ref rgm, .ref mem, .ref bym, .ref in_, .ref so, .ref fr, .ref sh, .ref wo, .ref fe, .ref go, .ref fi, .ref se_, .ref th, .int (nI ((tyT t n z j).2 + 1)), .int pl, .int (nI a), .int (nI pt), .int (nI hd), .int cyc, .int rds, .int wrs, .int fts, .int (nI 0), .int (bI wcm), .int (bI bcm), .int wd0, .int ab])), (tm, .inl (D.1 11, 40, .inl (fun i => nI (((tyT t n z j).1) i))))]) C hK hH 0 14 tyX3 tyX3_ok nmX3 rfl rfl inX3 (by decide) tw_552 rfl rfl rfl (Nat.le_of_ble_eq_true rfl) rfl dX3_type_132 (fun H locs hH => ?_)
                    refine lv_iload C.x C.b dX3_type_135 (lv_at hl 0 rfl) ?_
                    refine gIast (f' := (fun i => nI (va_up ((tyT t n z j).1) ((tyT t n z j).2) (by8 z j) i))) (ws' := [(m0, .inr (3, [.ref tm, .ref rgm, .ref mem, .ref bym, .ref in_, .ref so, .ref fr, .ref sh, .ref wo, .ref fe, .ref go, .ref fi, .ref se_, .ref th, .int (nI ((tyT t n z j).2 + 1)), .int pl, .int (nI a), .int (nI pt), .int (nI hd), .int cyc, .int rds, .int wrs, .int fts, .int (nI 0), .int (bI wcm), .int (bI bcm), .int wd0, .int ab])), (tm, .inl (D.1 11, 40, .inl (fun i => nI (va_up ((tyT t n z j).1) ((tyT t n z j).2) (by8 z j) i))))]) C hK hH 1 rfl (by omega) (by decide) (txtI _ _ _) rfl dX3_type_137 (fun H locs hH => ?_)
                    have e9 : tyT t n z (j + 1) = (va_up (tyT t n z j).1 (tyT t n z j).2 (by8 z j), (tyT t n z j).2 + 1) := by rw [tyT, if_neg c_117]
                    have hH : Hp D A s ([(m0, .inr (3, [.ref tm, .ref rgm, .ref mem, .ref bym, .ref in_, .ref so, .ref fr, .ref sh, .ref wo, .ref fe, .ref go, .ref fi, .ref se_, .ref th, .int (nI ((tyT t n z (j + 1)).2)), .int pl, .int (nI a), .int (nI pt), .int (nI hd), .int cyc, .int rds, .int wrs, .int fts, .int (nI 0), .int (bI wcm), .int (bI bcm), .int wd0, .int ab])), (tm, .inl (D.1 11, 40, .inl (fun i => nI (((tyT t n z (j + 1)).1) i))))]) H locs := by rw [e9]; exact hH
                    refine lv_iinc (v := shI (j + 1)) (lv' := [(4, .int (shI (j + 1))), (5, .int (nI (by8 z j))), (3, .int (nI (cnt8 z 8))), (0, .ref m0), (1, .long z)]) C.x C.b dX3_type_138 hl (k := 1) rfl (sh_nn j hj8).2.2 (by decide) rfl (fun ls hl => ?_)
                    refine lv_goto (tgt := 92) C.x C.b dX3_type_141 (by decide) ?_
                    exact ih (j + 1) (by omega) (by omega) _ _ hH ls (lv_sub hl [0, 2, 3, 4] rfl)
                · obtain rfl : j = 8 := by omega
                  refine lv_if_lt (tgt := 144) C.x C.b dX3_type_94 (by decide) (fun _ => ?_) (fun q => absurd sh_end q)
                  refine lv_aload_n C.x C.b dX3_type_144 rfl (lv_at hl 2 rfl) ?_
                  refine gGet (v := .int (nI 0)) C hK hH 0 23 rfl rfl inX3 (by decide) tw_561 rfl dX3_type_145 ?_
                  refine vn_if_ne (tgt := 158) C.x C.b dX3_type_148 (by decide) (by omega) (fun q => absurd q (by decide)) (fun _ => ?_)
                  refine lv_aload_n C.x C.b dX3_type_151 rfl (lv_at hl 2 rfl) ?_
                  refine gGet (v := .int (nI ((tyT t n z 8).2))) C hK hH 0 14 rfl rfl inX3 (by decide) tw_552 rfl dX3_type_152 ?_
                  refine lv_goto (tgt := 159) C.x C.b dX3_type_155 (by decide) ?_
                  exact rI C hr hH (Or.inl ⟨hbad, by omega, rfl, rfl⟩) (Nat.le_of_ble_eq_true rfl) (Nat.le_of_ble_eq_true rfl) dX3_type_159
            exact L_92 _ 0 (by omega) (Nat.lt_succ_self _) _ _ hH ls (lv_sub hl [0, 1, 2, 3] rfl)
          · refine lv_aload_n C.x C.b dX3_type_83 rfl (lv_at hl 2 rfl) ?_
            refine lv_iconst (v := nI 2) C.x C.b dX3_type_84 (by decide) ?_
            refine gPut (v := .int (nI 2)) (ws' := [(m0, .inr (3, [.ref tm, .ref rgm, .ref mem, .ref bym, .ref in_, .ref so, .ref fr, .ref sh, .ref wo, .ref fe, .ref go, .ref fi, .ref se_, .ref th, .int (nI n), .int pl, .int (nI a), .int (nI pt), .int (nI hd), .int cyc, .int rds, .int wrs, .int fts, .int (nI 2), .int (bI wcm), .int (bI bcm), .int wd0, .int ab])), (tm, .inl (D.1 11, 40, .inl (fun i => nI (t i))))]) C hK hH 0 23 tyX3 tyX3_ok nmX3 rfl rfl inX3 (by decide) tw_561 rfl rfl rfl (Nat.le_of_ble_eq_true rfl) rfl dX3_type_85 (fun H locs hH => ?_)
            refine lv_bipush (v := nI 56) C.x C.b dX3_type_88 (by decide) ?_
            refine vt_top (y := shI 0) sh_0.symm ?_
            refine lv_istore (lv' := [(4, .int (shI 0)), (3, .int (nI (cnt8 z 8))), (0, .ref m0), (1, .long z)]) C.x C.b dX3_type_90 hl (by decide) rfl (fun ls hl => ?_)
            refine lv_iload C.x C.b dX3_type_92 (lv_at hl 0 rfl) ?_
            refine lv_if_lt (tgt := 144) C.x C.b dX3_type_94 (by decide) (fun q => absurd q (sh_nn 0 (by decide)).1) (fun _ => ?_)
            refine lv_aload_n C.x C.b dX3_type_97 rfl (lv_at hl 2 rfl) ?_
            refine gGet (v := .int (nI 2)) C hK hH 0 23 rfl rfl inX3 (by decide) tw_561 rfl dX3_type_98 ?_
            refine vn_if_ne (tgt := 144) C.x C.b dX3_type_101 (by decide) (by omega) (fun _ => ?_) (fun q => absurd q (by decide))
            refine lv_aload_n C.x C.b dX3_type_144 rfl (lv_at hl 2 rfl) ?_
            refine gGet (v := .int (nI 2)) C hK hH 0 23 rfl rfl inX3 (by decide) tw_561 rfl dX3_type_145 ?_
            refine vn_if_ne (tgt := 158) C.x C.b dX3_type_148 (by decide) (by omega) (fun _ => ?_) (fun q => absurd q (by decide))
            refine lv_iconst (v := nI 0) C.x C.b dX3_type_158 (by decide) ?_
            exact rI C hr hH (Or.inr (Or.inr ⟨hbad, by omega, rfl, rfl⟩)) (Nat.le_of_ble_eq_true rfl) (Nat.le_of_ble_eq_true rfl) dX3_type_159
  exact L_11 _ 0 (by omega) (Nat.lt_succ_self _) _ _ hH ls (lv_sub hl [0, 1, 2, 3] rfl)
set_option maxHeartbeats 4000000 in
set_option maxRecDepth 100000 in
theorem m_count (l : Launch) (htr : l.stackTraces = false) (D : va_G) (sz : Nat) (m0 tm rgm mem bym in_ so fr sh wo fe go fi se_ th n : Nat) (pl : Int32) (a pt hd : Nat) (cyc rds wrs fts : Int32) (thr : Nat) (wcm bcm : Bool) (wd0 ab : Int32) (tb : Nat → Bool) (i : Int32)  : Ct l yX3_count wX3_count { frames := 0, cells := 0, slots := 0, locals := 0 } D ([(m0, .inr (3, [.ref tm, .ref rgm, .ref mem, .ref bym, .ref in_, .ref so, .ref fr, .ref sh, .ref wo, .ref fe, .ref go, .ref fi, .ref se_, .ref th, .int (nI n), .int pl, .int (nI a), .int (nI pt), .int (nI hd), .int cyc, .int rds, .int wrs, .int fts, .int (nI thr), .int (bI wcm), .int (bI bcm), .int wd0, .int ab])), (th, .inl (D.1 12, 64, .inl (fun j => bI (tb j))))]) [.ref m0, .int i] sz (fun v w => ((∃ j, j < 10 ∧ i = nI j ∧ v = some (.int (ctV pl n (cntB tb 64) hd cyc wcm bcm rds wrs fts j))) ∨ ((∀ j, j < 10 → i ≠ nI j) ∧ v = some (.int (-1)))) ∧ w = [(m0, .inr (3, [.ref tm, .ref rgm, .ref mem, .ref bym, .ref in_, .ref so, .ref fr, .ref sh, .ref wo, .ref fe, .ref go, .ref fi, .ref se_, .ref th, .int (nI n), .int pl, .int (nI a), .int (nI pt), .int (nI hd), .int cyc, .int rds, .int wrs, .int fts, .int (nI 0), .int (bI wcm), .int (bI bcm), .int wd0, .int ab])), (th, .inl (D.1 12, 64, .inl (fun j => bI (tb j))))]) (nox) := by
  refine Ct.of (cc := cX3_count) (nL := 4) (ret := (some .int)) (own := RX3) htr (by decide) rfl (Nat.le_of_ble_eq_true rfl) ?_
  intro p e s m args below meth c A C hr hK H locs hH ls hl
  have hl : lv_has ls 4 [(0, .ref m0), (1, .int i)] := hl
  refine lv_aload_n C.x C.b dX3_count_0 rfl (lv_at hl 0 rfl) ?_
  refine lv_iconst (v := nI 0) C.x C.b dX3_count_1 (by decide) ?_
  refine gPut (v := .int (nI 0)) (ws' := [(m0, .inr (3, [.ref tm, .ref rgm, .ref mem, .ref bym, .ref in_, .ref so, .ref fr, .ref sh, .ref wo, .ref fe, .ref go, .ref fi, .ref se_, .ref th, .int (nI n), .int pl, .int (nI a), .int (nI pt), .int (nI hd), .int cyc, .int rds, .int wrs, .int fts, .int (nI 0), .int (bI wcm), .int (bI bcm), .int wd0, .int ab])), (th, .inl (D.1 12, 64, .inl (fun j => bI (tb j))))]) C hK hH 0 23 tyX3 tyX3_ok nmX3 rfl rfl inX3 (by decide) tw_561 rfl rfl rfl (Nat.le_of_ble_eq_true rfl) rfl dX3_count_2 (fun H locs hH => ?_)
  refine lv_iconst (v := nI 0) C.x C.b dX3_count_5 (by decide) ?_
  refine vt_top (y := nI (cntB tb 0)) rfl ?_
  refine lv_istore_n (lv' := [(2, .int (nI (cntB tb 0))), (0, .ref m0), (1, .int i)]) C.x C.b dX3_count_6 rfl hl (by decide) rfl (fun ls hl => ?_)
  refine lv_iconst (v := nI 0) C.x C.b dX3_count_7 (by decide) ?_
  refine lv_istore_n (lv' := [(3, .int (nI 0)), (2, .int (nI (cntB tb 0))), (0, .ref m0), (1, .int i)]) C.x C.b dX3_count_8 rfl hl (by decide) rfl (fun ls hl => ?_)
  have L_9 : ∀ (fuel : Nat) (k : Nat) (hk : k ≤ 64), 64 - k < fuel → ∀ (H : Heap) (locs : List Loc), Hp D A s ([(m0, .inr (3, [.ref tm, .ref rgm, .ref mem, .ref bym, .ref in_, .ref so, .ref fr, .ref sh, .ref wo, .ref fe, .ref go, .ref fi, .ref se_, .ref th, .int (nI n), .int pl, .int (nI a), .int (nI pt), .int (nI hd), .int cyc, .int rds, .int wrs, .int fts, .int (nI 0), .int (bI wcm), .int (bI bcm), .int wd0, .int ab])), (th, .inl (D.1 12, 64, .inl (fun j => bI (tb j))))]) H locs → ∀ ls : Array Slot, lv_has ls 4 [(3, .int (nI k)), (2, .int (nI (cntB tb k))), (0, .ref m0), (1, .int i)] → W p l e { frames := 0, cells := 0, slots := 0, locals := 0 } s m args below meth c H locs 0 0 (Qf below args s D A (fun v w => ((∃ j, j < 10 ∧ i = nI j ∧ v = some (.int (ctV pl n (cntB tb 64) hd cyc wcm bcm rds wrs fts j))) ∨ ((∀ j, j < 10 → i ≠ nI j) ∧ v = some (.int (-1)))) ∧ w = [(m0, .inr (3, [.ref tm, .ref rgm, .ref mem, .ref bym, .ref in_, .ref so, .ref fr, .ref sh, .ref wo, .ref fe, .ref go, .ref fi, .ref se_, .ref th, .int (nI n), .int pl, .int (nI a), .int (nI pt), .int (nI hd), .int cyc, .int rds, .int wrs, .int fts, .int (nI 0), .int (bI wcm), .int (bI bcm), .int wd0, .int ab])), (th, .inl (D.1 12, 64, .inl (fun j => bI (tb j))))]) (nox) { frames := 0, cells := 0, slots := 0, locals := 0 }) (F0 m 9 ls []) := by
    intro fuel
    induction fuel with
    | zero => intro k hk hm; exact absurd hm (Nat.not_lt_zero _)
    | succ fuel ih =>
      intro k hk hm H locs hH ls hl
      refine lv_iload_n C.x C.b dX3_count_9 rfl (lv_at hl 0 rfl) ?_
      refine lv_bipush (v := nI 64) C.x C.b dX3_count_10 (by decide) ?_
      refine vn_icmp_ge (tgt := 33) C.x C.b dX3_count_12 (by decide) (by omega) (by omega) (fun c_12 => ?_) (fun c_12 => ?_)
      · obtain rfl : k = 64 := by omega
        refine lv_iload_n C.x C.b dX3_count_33 rfl (lv_at hl 3 rfl) ?_
        rcases pk_ix i (n := 10) (by decide) with h9 | h9 | ⟨j9, hj9, rfl⟩
        · refine lv_tableOut (tgt := 151) C.x C.b dX3_count_34 (Or.inl (sw_neg h9)) (by decide) ?_
          refine lv_iconst (v := -1) C.x C.b dX3_count_151 (by decide) ?_
          exact rI C hr hH (⟨Or.inr ⟨ixneg (by decide) h9, rfl⟩, rfl⟩) (Nat.le_of_ble_eq_true rfl) (Nat.le_of_ble_eq_true rfl) dX3_count_152
        · refine lv_tableOut (tgt := 151) C.x C.b dX3_count_34 (Or.inr (by have := sw_big h9 (by decide); omega)) (by decide) ?_
          refine lv_iconst (v := -1) C.x C.b dX3_count_151 (by decide) ?_
          exact rI C hr hH (⟨Or.inr ⟨ixbig (by decide) h9, rfl⟩, rfl⟩) (Nat.le_of_ble_eq_true rfl) (Nat.le_of_ble_eq_true rfl) dX3_count_152
        · obtain rfl | rfl | rfl | rfl | rfl | rfl | rfl | rfl | rfl | rfl : j9 = 0 ∨ j9 = 1 ∨ j9 = 2 ∨ j9 = 3 ∨ j9 = 4 ∨ j9 = 5 ∨ j9 = 6 ∨ j9 = 7 ∨ j9 = 8 ∨ j9 = 9 := by omega
          · refine lv_tableIn (off := 54) (tgt := 88) C.x C.b dX3_count_34 (by decide) (by decide) (by decide) (by decide) ?_
            refine lv_aload_n C.x C.b dX3_count_88 rfl (lv_at hl 2 rfl) ?_
            refine gGet (v := .int pl) C hK hH 0 15 rfl rfl inX3 (by decide) tw_553 rfl dX3_count_89 ?_
            exact rI C hr hH (⟨Or.inl ⟨0, by decide, rfl, rfl⟩, rfl⟩) (Nat.le_of_ble_eq_true rfl) (Nat.le_of_ble_eq_true rfl) dX3_count_92
          · refine lv_tableIn (off := 59) (tgt := 93) C.x C.b dX3_count_34 (by decide) (by decide) (by decide) (by decide) ?_
            refine lv_aload_n C.x C.b dX3_count_93 rfl (lv_at hl 2 rfl) ?_
            refine gGet (v := .int (nI n)) C hK hH 0 14 rfl rfl inX3 (by decide) tw_552 rfl dX3_count_94 ?_
            exact rI C hr hH (⟨Or.inl ⟨1, by decide, rfl, rfl⟩, rfl⟩) (Nat.le_of_ble_eq_true rfl) (Nat.le_of_ble_eq_true rfl) dX3_count_97
          · refine lv_tableIn (off := 64) (tgt := 98) C.x C.b dX3_count_34 (by decide) (by decide) (by decide) (by decide) ?_
            refine lv_iload_n C.x C.b dX3_count_98 rfl (lv_at hl 1 rfl) ?_
            exact rI C hr hH (⟨Or.inl ⟨2, by decide, rfl, rfl⟩, rfl⟩) (Nat.le_of_ble_eq_true rfl) (Nat.le_of_ble_eq_true rfl) dX3_count_99
          · refine lv_tableIn (off := 66) (tgt := 100) C.x C.b dX3_count_34 (by decide) (by decide) (by decide) (by decide) ?_
            refine lv_aload_n C.x C.b dX3_count_100 rfl (lv_at hl 2 rfl) ?_
            refine gGet (v := .int (nI hd)) C hK hH 0 18 rfl rfl inX3 (by decide) tw_556 rfl dX3_count_101 ?_
            exact rI C hr hH (⟨Or.inl ⟨3, by decide, rfl, rfl⟩, rfl⟩) (Nat.le_of_ble_eq_true rfl) (Nat.le_of_ble_eq_true rfl) dX3_count_104
          · refine lv_tableIn (off := 71) (tgt := 105) C.x C.b dX3_count_34 (by decide) (by decide) (by decide) (by decide) ?_
            refine lv_aload_n C.x C.b dX3_count_105 rfl (lv_at hl 2 rfl) ?_
            refine gGet (v := .int cyc) C hK hH 0 19 rfl rfl inX3 (by decide) tw_557 rfl dX3_count_106 ?_
            exact rI C hr hH (⟨Or.inl ⟨4, by decide, rfl, rfl⟩, rfl⟩) (Nat.le_of_ble_eq_true rfl) (Nat.le_of_ble_eq_true rfl) dX3_count_109
          · refine lv_tableIn (off := 76) (tgt := 110) C.x C.b dX3_count_34 (by decide) (by decide) (by decide) (by decide) ?_
            refine lv_aload_n C.x C.b dX3_count_110 rfl (lv_at hl 2 rfl) ?_
            refine gGet (v := .int (bI wcm)) C hK hH 0 24 rfl rfl inX3 (by decide) tw_562 rfl dX3_count_111 ?_
            refine vb_if_eq (tgt := 121) C.x C.b dX3_count_114 (by decide) (fun c_114 => ?_) (fun c_114 => ?_)
            · refine lv_iconst (v := nI 0) C.x C.b dX3_count_121 (by decide) ?_
              exact rI C hr hH (⟨Or.inl ⟨5, by decide, rfl, by rw [c_114]; rfl⟩, rfl⟩) (Nat.le_of_ble_eq_true rfl) (Nat.le_of_ble_eq_true rfl) dX3_count_122
            · refine lv_iconst (v := nI 1) C.x C.b dX3_count_117 (by decide) ?_
              refine lv_goto (tgt := 122) C.x C.b dX3_count_118 (by decide) ?_
              exact rI C hr hH (⟨Or.inl ⟨5, by decide, rfl, by rw [c_114]; rfl⟩, rfl⟩) (Nat.le_of_ble_eq_true rfl) (Nat.le_of_ble_eq_true rfl) dX3_count_122
          · refine lv_tableIn (off := 89) (tgt := 123) C.x C.b dX3_count_34 (by decide) (by decide) (by decide) (by decide) ?_
            refine lv_aload_n C.x C.b dX3_count_123 rfl (lv_at hl 2 rfl) ?_
            refine gGet (v := .int (bI bcm)) C hK hH 0 25 rfl rfl inX3 (by decide) tw_563 rfl dX3_count_124 ?_
            refine vb_if_eq (tgt := 134) C.x C.b dX3_count_127 (by decide) (fun c_127 => ?_) (fun c_127 => ?_)
            · refine lv_iconst (v := nI 0) C.x C.b dX3_count_134 (by decide) ?_
              exact rI C hr hH (⟨Or.inl ⟨6, by decide, rfl, by rw [c_127]; rfl⟩, rfl⟩) (Nat.le_of_ble_eq_true rfl) (Nat.le_of_ble_eq_true rfl) dX3_count_135
            · refine lv_iconst (v := nI 1) C.x C.b dX3_count_130 (by decide) ?_
              refine lv_goto (tgt := 135) C.x C.b dX3_count_131 (by decide) ?_
              exact rI C hr hH (⟨Or.inl ⟨6, by decide, rfl, by rw [c_127]; rfl⟩, rfl⟩) (Nat.le_of_ble_eq_true rfl) (Nat.le_of_ble_eq_true rfl) dX3_count_135
          · refine lv_tableIn (off := 102) (tgt := 136) C.x C.b dX3_count_34 (by decide) (by decide) (by decide) (by decide) ?_
            refine lv_aload_n C.x C.b dX3_count_136 rfl (lv_at hl 2 rfl) ?_
            refine gGet (v := .int rds) C hK hH 0 20 rfl rfl inX3 (by decide) tw_558 rfl dX3_count_137 ?_
            exact rI C hr hH (⟨Or.inl ⟨7, by decide, rfl, rfl⟩, rfl⟩) (Nat.le_of_ble_eq_true rfl) (Nat.le_of_ble_eq_true rfl) dX3_count_140
          · refine lv_tableIn (off := 107) (tgt := 141) C.x C.b dX3_count_34 (by decide) (by decide) (by decide) (by decide) ?_
            refine lv_aload_n C.x C.b dX3_count_141 rfl (lv_at hl 2 rfl) ?_
            refine gGet (v := .int wrs) C hK hH 0 21 rfl rfl inX3 (by decide) tw_559 rfl dX3_count_142 ?_
            exact rI C hr hH (⟨Or.inl ⟨8, by decide, rfl, rfl⟩, rfl⟩) (Nat.le_of_ble_eq_true rfl) (Nat.le_of_ble_eq_true rfl) dX3_count_145
          · refine lv_tableIn (off := 112) (tgt := 146) C.x C.b dX3_count_34 (by decide) (by decide) (by decide) (by decide) ?_
            refine lv_aload_n C.x C.b dX3_count_146 rfl (lv_at hl 2 rfl) ?_
            refine gGet (v := .int fts) C hK hH 0 22 rfl rfl inX3 (by decide) tw_560 rfl dX3_count_147 ?_
            exact rI C hr hH (⟨Or.inl ⟨9, by decide, rfl, rfl⟩, rfl⟩) (Nat.le_of_ble_eq_true rfl) (Nat.le_of_ble_eq_true rfl) dX3_count_150
      · have hcl := cntB_le tb k
        refine lv_aload_n C.x C.b dX3_count_15 rfl (lv_at hl 2 rfl) ?_
        refine gGet (v := .ref th) C hK hH 0 13 rfl rfl inX3 (by decide) tw_551 rfl dX3_count_16 ?_
        refine lv_iload_n C.x C.b dX3_count_19 rfl (lv_at hl 0 rfl) ?_
        refine gZald (v := (bI (tb k))) C hK hH 1 rfl (by omega) (by decide) dX3_count_20 rfl ?_
        refine vb_if_eq (tgt := 27) C.x C.b dX3_count_21 (by decide) (fun c_21 => ?_) (fun c_21 => ?_)
        · have e3 : cntB tb (k + 1) = cntB tb k := cntB_f c_21
          have hl : lv_has ls 4 [(3, .int (nI k)), (2, .int (nI (cntB tb (k + 1)))), (0, .ref m0), (1, .int i)] := by rw [e3]; exact hl
          refine lv_iinc (v := (nI (k + 1))) (lv' := [(3, .int (nI (k + 1))), (2, .int (nI (cntB tb (k + 1)))), (0, .ref m0), (1, .int i)]) C.x C.b dX3_count_27 hl (k := 0) rfl (by rw [show Int32.ofInt 1 = nI 1 from by decide, nI_add]) (by decide) rfl (fun ls hl => ?_)
          refine lv_goto (tgt := 9) C.x C.b dX3_count_30 (by decide) ?_
          exact ih (k + 1) (by omega) (by omega) _ _ hH ls (lv_sub hl [0, 1, 2, 3] rfl)
        · refine lv_iinc (v := (nI (cntB tb k + 1))) (lv' := [(2, .int (nI (cntB tb k + 1))), (3, .int (nI k)), (0, .ref m0), (1, .int i)]) C.x C.b dX3_count_24 hl (k := 1) rfl (by rw [show Int32.ofInt 1 = nI 1 from by decide, nI_add]) (by decide) rfl (fun ls hl => ?_)
          have e3 : cntB tb (k + 1) = cntB tb k + 1 := cntB_t c_21
          have hl : lv_has ls 4 [(2, .int (nI (cntB tb (k + 1)))), (3, .int (nI k)), (0, .ref m0), (1, .int i)] := by rw [e3]; exact hl
          refine lv_iinc (v := (nI (k + 1))) (lv' := [(3, .int (nI (k + 1))), (2, .int (nI (cntB tb (k + 1)))), (0, .ref m0), (1, .int i)]) C.x C.b dX3_count_27 hl (k := 1) rfl (by rw [show Int32.ofInt 1 = nI 1 from by decide, nI_add]) (by decide) rfl (fun ls hl => ?_)
          refine lv_goto (tgt := 9) C.x C.b dX3_count_30 (by decide) ?_
          exact ih (k + 1) (by omega) (by omega) _ _ hH ls (lv_sub hl [0, 1, 2, 3] rfl)
  exact L_9 _ 0 (by omega) (Nat.lt_succ_self _) _ _ hH ls (lv_sub hl [0, 1, 2, 3] rfl)
set_option maxHeartbeats 4000000 in
set_option maxRecDepth 100000 in
theorem m_word (l : Launch) (htr : l.stackTraces = false) (D : va_G) (sz : Nat) (m0 tm rgm mem bym in_ so fr sh wo fe go fi se_ th n : Nat) (pl : Int32) (a pt hd : Nat) (cyc rds wrs fts : Int32) (thr : Nat) (wcm bcm : Bool) (wd0 ab : Int32) (t : Nat → Nat) (Bin Bso Bfr Bsh Bwo Bfe Bgo Bfi Bse : Nat → Int32) (tb : Nat → Bool) (i : Int32) (hn : n ≤ 40) (ht : ∀ j, t j < 128) : Ct l yX3_word wX3_word { frames := 6, cells := 0, slots := 0, locals := 133 } D ([(m0, .inr (3, [.ref tm, .ref rgm, .ref mem, .ref bym, .ref in_, .ref so, .ref fr, .ref sh, .ref wo, .ref fe, .ref go, .ref fi, .ref se_, .ref th, .int (nI n), .int pl, .int (nI a), .int (nI pt), .int (nI hd), .int cyc, .int rds, .int wrs, .int fts, .int (nI thr), .int (bI wcm), .int (bI bcm), .int wd0, .int ab])), (tm, .inl (D.1 11, 40, .inl (fun j => nI (t j)))), (in_, .inl (D.1 11, 65, .inl Bin)), (so, .inl (D.1 11, 65, .inl Bso)), (fr, .inl (D.1 11, 65, .inl Bfr)), (sh, .inl (D.1 11, 65, .inl Bsh)), (wo, .inl (D.1 11, 65, .inl Bwo)), (fe, .inl (D.1 11, 65, .inl Bfe)), (go, .inl (D.1 11, 65, .inl Bgo)), (fi, .inl (D.1 11, 65, .inl Bfi)), (se_, .inl (D.1 11, 65, .inl Bse)), (th, .inl (D.1 12, 64, .inl (fun j => bI (tb j))))]) [.ref m0, .int i] sz (fun v w => (∃ (k a9 : Nat) (f0 f1 f2 f3 f4 f5 : Nat) (f6 : Bool) (f7 : Nat) (f8 f9 : Option Nat), k < 64 ∧ i = nI k ∧ RDT t n = .inr (f0, f1, f2, f3, f4, f5, f6, f7, f8, f9) ∧ v = some (.int (nI f0)) ∧ w = [(m0, .inr (3, [.ref tm, .ref rgm, .ref mem, .ref bym, .ref in_, .ref so, .ref fr, .ref sh, .ref wo, .ref fe, .ref go, .ref fi, .ref se_, .ref th, .int (nI 0), .int pl, .int (nI a9), .int (nI f0), .int (nI hd), .int cyc, .int rds, .int wrs, .int fts, .int (nI 0), .int (bI wcm), .int (bI bcm), .int wd0, .int ab])), (tm, .inl (D.1 11, 40, .inl (fun j => nI (t j)))), (in_, .inl (D.1 11, 65, .inl (upd (upd Bin 64 (nI f1)) k (nI f1)))), (so, .inl (D.1 11, 65, .inl (upd (upd Bso 64 (nI (ms f2))) k (nI (ms f2))))), (fr, .inl (D.1 11, 65, .inl (upd (upd Bfr 64 (oI (some f3))) k (oI (some f3))))), (sh, .inl (D.1 11, 65, .inl (upd (upd Bsh 64 (nI f4)) k (nI f4)))), (wo, .inl (D.1 11, 65, .inl (upd (upd Bwo 64 (nI f5)) k (nI f5)))), (fe, .inl (D.1 11, 65, .inl (upd (upd Bfe 64 (bI f6)) k (bI f6)))), (go, .inl (D.1 11, 65, .inl (upd (upd Bgo 64 (nI f7)) k (nI f7)))), (fi, .inl (D.1 11, 65, .inl (upd (upd Bfi 64 (oI f8)) k (oI f8)))), (se_, .inl (D.1 11, 65, .inl (upd (upd Bse 64 (oI f9)) k (oI f9)))), (th, .inl (D.1 12, 64, .inl (fun j => bI (va_up tb k true j))))]) ∨ ((∀ k, k < 64 → i ≠ nI k) ∧ v = some (.int (nI 0)) ∧ w = [(m0, .inr (3, [.ref tm, .ref rgm, .ref mem, .ref bym, .ref in_, .ref so, .ref fr, .ref sh, .ref wo, .ref fe, .ref go, .ref fi, .ref se_, .ref th, .int (nI n), .int pl, .int (nI a), .int (nI pt), .int (nI hd), .int cyc, .int rds, .int wrs, .int fts, .int (nI 1), .int (bI wcm), .int (bI bcm), .int wd0, .int ab])), (tm, .inl (D.1 11, 40, .inl (fun j => nI (t j)))), (in_, .inl (D.1 11, 65, .inl Bin)), (so, .inl (D.1 11, 65, .inl Bso)), (fr, .inl (D.1 11, 65, .inl Bfr)), (sh, .inl (D.1 11, 65, .inl Bsh)), (wo, .inl (D.1 11, 65, .inl Bwo)), (fe, .inl (D.1 11, 65, .inl Bfe)), (go, .inl (D.1 11, 65, .inl Bgo)), (fi, .inl (D.1 11, 65, .inl Bfi)), (se_, .inl (D.1 11, 65, .inl Bse)), (th, .inl (D.1 12, 64, .inl (fun j => bI (tb j))))]) ∨ (∃ (k a9 z0 z1 z2 : Nat) (z3 : Option Nat) (z4 z5 : Nat) (z6 : Bool) (z7 : Nat) (z8 z9 : Option Nat), k < 64 ∧ i = nI k ∧ RDT t n = .inl a9 ∧ a9 ≤ n ∧ v = some (.int (nI 0)) ∧ w = [(m0, .inr (3, [.ref tm, .ref rgm, .ref mem, .ref bym, .ref in_, .ref so, .ref fr, .ref sh, .ref wo, .ref fe, .ref go, .ref fi, .ref se_, .ref th, .int (nI 0), .int (nI a9), .int (nI a9), .int (nI z0), .int (nI hd), .int cyc, .int rds, .int wrs, .int fts, .int (nI 1), .int (bI wcm), .int (bI bcm), .int wd0, .int ab])), (tm, .inl (D.1 11, 40, .inl (fun j => nI (t j)))), (in_, .inl (D.1 11, 65, .inl (upd Bin 64 (nI z1)))), (so, .inl (D.1 11, 65, .inl (upd Bso 64 (nI z2)))), (fr, .inl (D.1 11, 65, .inl (upd Bfr 64 (oI z3)))), (sh, .inl (D.1 11, 65, .inl (upd Bsh 64 (nI z4)))), (wo, .inl (D.1 11, 65, .inl (upd Bwo 64 (nI z5)))), (fe, .inl (D.1 11, 65, .inl (upd Bfe 64 (bI z6)))), (go, .inl (D.1 11, 65, .inl (upd Bgo 64 (nI z7)))), (fi, .inl (D.1 11, 65, .inl (upd Bfi 64 (oI z8)))), (se_, .inl (D.1 11, 65, .inl (upd Bse 64 (oI z9)))), (th, .inl (D.1 12, 64, .inl (fun j => bI (tb j))))])) (nox) := by
  refine Ct.of (cc := cX3_word) (nL := 3) (ret := (some .int)) (own := RX3) htr (by decide) rfl (Nat.le_of_ble_eq_true rfl) ?_
  intro p e s m args below meth c A C hr hK H locs hH ls hl
  have hl : lv_has ls 3 [(0, .ref m0), (1, .int i)] := hl
  refine lv_aload_n C.x C.b dX3_word_0 rfl (lv_at hl 0 rfl) ?_
  refine lv_iload_n C.x C.b dX3_word_1 rfl (lv_at hl 1 rfl) ?_
  refine lv_if_lt (tgt := 11) C.x C.b dX3_word_2 (by decide) (fun c_2 => ?_) (fun c_2 => ?_)
  · refine lv_iconst (v := nI 1) C.x C.b dX3_word_11 (by decide) ?_
    refine lv_goto (tgt := 16) C.x C.b dX3_word_12 (by decide) ?_
    refine gPut (v := .int (nI 1)) (ws' := [(m0, .inr (3, [.ref tm, .ref rgm, .ref mem, .ref bym, .ref in_, .ref so, .ref fr, .ref sh, .ref wo, .ref fe, .ref go, .ref fi, .ref se_, .ref th, .int (nI n), .int pl, .int (nI a), .int (nI pt), .int (nI hd), .int cyc, .int rds, .int wrs, .int fts, .int (nI 1), .int (bI wcm), .int (bI bcm), .int wd0, .int ab])), (tm, .inl (D.1 11, 40, .inl (fun j => nI (t j)))), (in_, .inl (D.1 11, 65, .inl Bin)), (so, .inl (D.1 11, 65, .inl Bso)), (fr, .inl (D.1 11, 65, .inl Bfr)), (sh, .inl (D.1 11, 65, .inl Bsh)), (wo, .inl (D.1 11, 65, .inl Bwo)), (fe, .inl (D.1 11, 65, .inl Bfe)), (go, .inl (D.1 11, 65, .inl Bgo)), (fi, .inl (D.1 11, 65, .inl Bfi)), (se_, .inl (D.1 11, 65, .inl Bse)), (th, .inl (D.1 12, 64, .inl (fun j => bI (tb j))))]) C hK hH 0 23 tyX3 tyX3_ok nmX3 rfl rfl inX3 (by decide) tw_561 rfl rfl rfl (Nat.le_of_ble_eq_true rfl) rfl dX3_word_16 (fun H locs hH => ?_)
    refine lv_aload_n C.x C.b dX3_word_19 rfl (lv_at hl 0 rfl) ?_
    refine gGet (v := .int (nI 1)) C hK hH 0 23 rfl rfl inX3 (by decide) tw_561 rfl dX3_word_20 ?_
    refine vn_if_eq (tgt := 28) C.x C.b dX3_word_23 (by decide) (by omega) (fun q => absurd q (by decide)) (fun _ => ?_)
    refine lv_iconst (v := nI 0) C.x C.b dX3_word_26 (by decide) ?_
    exact rI C hr hH (Or.inr (Or.inl ⟨(by first | exact rg_neg (by decide) c_2 | exact rg_nl (b := 63) (by decide) c_8 | exact rg_gt (b := 63) (by decide) c_8), rfl, rfl⟩)) (Nat.le_of_ble_eq_true rfl) (Nat.le_of_ble_eq_true rfl) dX3_word_27
  · refine lv_iload_n C.x C.b dX3_word_5 rfl (lv_at hl 1 rfl) ?_
    refine lv_bipush (v := nI 63) C.x C.b dX3_word_6 (by decide) ?_
    refine lv_icmp_le (tgt := 15) C.x C.b dX3_word_8 (by decide) (fun c_8 => ?_) (fun c_8 => ?_)
    · obtain ⟨k9, hk9, rfl⟩ : ∃ k, k < 63 + 1 ∧ i = nI k := by first | exact rg_le (by decide) c_2 c_8 | exact rg_ng (by decide) c_2 c_8
      have hk9 : k9 < 64 := hk9
      refine lv_iconst (v := nI 0) C.x C.b dX3_word_15 (by decide) ?_
      refine gPut (v := .int (nI 0)) (ws' := [(m0, .inr (3, [.ref tm, .ref rgm, .ref mem, .ref bym, .ref in_, .ref so, .ref fr, .ref sh, .ref wo, .ref fe, .ref go, .ref fi, .ref se_, .ref th, .int (nI n), .int pl, .int (nI a), .int (nI pt), .int (nI hd), .int cyc, .int rds, .int wrs, .int fts, .int (nI 0), .int (bI wcm), .int (bI bcm), .int wd0, .int ab])), (tm, .inl (D.1 11, 40, .inl (fun j => nI (t j)))), (in_, .inl (D.1 11, 65, .inl Bin)), (so, .inl (D.1 11, 65, .inl Bso)), (fr, .inl (D.1 11, 65, .inl Bfr)), (sh, .inl (D.1 11, 65, .inl Bsh)), (wo, .inl (D.1 11, 65, .inl Bwo)), (fe, .inl (D.1 11, 65, .inl Bfe)), (go, .inl (D.1 11, 65, .inl Bgo)), (fi, .inl (D.1 11, 65, .inl Bfi)), (se_, .inl (D.1 11, 65, .inl Bse)), (th, .inl (D.1 12, 64, .inl (fun j => bI (tb j))))]) C hK hH 0 23 tyX3 tyX3_ok nmX3 rfl rfl inX3 (by decide) tw_561 rfl rfl rfl (Nat.le_of_ble_eq_true rfl) rfl dX3_word_16 (fun H locs hH => ?_)
      refine lv_aload_n C.x C.b dX3_word_19 rfl (lv_at hl 0 rfl) ?_
      refine gGet (v := .int (nI 0)) C hK hH 0 23 rfl rfl inX3 (by decide) tw_561 rfl dX3_word_20 ?_
      refine vn_if_eq (tgt := 28) C.x C.b dX3_word_23 (by decide) (by omega) (fun _ => ?_) (fun q => absurd q (by decide))
      refine lv_aload_n C.x C.b dX3_word_28 rfl (lv_at hl 0 rfl) ?_
      refine gGet (v := .ref in_) C hK hH 0 4 rfl rfl inX3 (by decide) tw_542 rfl dX3_word_29 ?_
      refine lv_bipush (v := nI 64) C.x C.b dX3_word_32 (by decide) ?_
      refine lv_iconst (v := nI 0) C.x C.b dX3_word_34 (by decide) ?_
      refine gIast (f' := upd Bin 64 (nI 0)) (ws' := [(m0, .inr (3, [.ref tm, .ref rgm, .ref mem, .ref bym, .ref in_, .ref so, .ref fr, .ref sh, .ref wo, .ref fe, .ref go, .ref fi, .ref se_, .ref th, .int (nI n), .int pl, .int (nI a), .int (nI pt), .int (nI hd), .int cyc, .int rds, .int wrs, .int fts, .int (nI 0), .int (bI wcm), .int (bI bcm), .int wd0, .int ab])), (tm, .inl (D.1 11, 40, .inl (fun j => nI (t j)))), (in_, .inl (D.1 11, 65, .inl (upd Bin 64 (nI 0)))), (so, .inl (D.1 11, 65, .inl Bso)), (fr, .inl (D.1 11, 65, .inl Bfr)), (sh, .inl (D.1 11, 65, .inl Bsh)), (wo, .inl (D.1 11, 65, .inl Bwo)), (fe, .inl (D.1 11, 65, .inl Bfe)), (go, .inl (D.1 11, 65, .inl Bgo)), (fi, .inl (D.1 11, 65, .inl Bfi)), (se_, .inl (D.1 11, 65, .inl Bse)), (th, .inl (D.1 12, 64, .inl (fun j => bI (tb j))))]) C hK hH 2 rfl (by omega) (by decide) rfl rfl dX3_word_35 (fun H locs hH => ?_)
      refine lv_aload_n C.x C.b dX3_word_36 rfl (lv_at hl 0 rfl) ?_
      refine gGet (v := .ref so) C hK hH 0 5 rfl rfl inX3 (by decide) tw_543 rfl dX3_word_37 ?_
      refine lv_bipush (v := nI 64) C.x C.b dX3_word_40 (by decide) ?_
      refine lv_bipush (v := nI 13) C.x C.b dX3_word_42 (by decide) ?_
      refine gIast (f' := upd Bso 64 (nI 13)) (ws' := [(m0, .inr (3, [.ref tm, .ref rgm, .ref mem, .ref bym, .ref in_, .ref so, .ref fr, .ref sh, .ref wo, .ref fe, .ref go, .ref fi, .ref se_, .ref th, .int (nI n), .int pl, .int (nI a), .int (nI pt), .int (nI hd), .int cyc, .int rds, .int wrs, .int fts, .int (nI 0), .int (bI wcm), .int (bI bcm), .int wd0, .int ab])), (tm, .inl (D.1 11, 40, .inl (fun j => nI (t j)))), (in_, .inl (D.1 11, 65, .inl (upd Bin 64 (nI 0)))), (so, .inl (D.1 11, 65, .inl (upd Bso 64 (nI 13)))), (fr, .inl (D.1 11, 65, .inl Bfr)), (sh, .inl (D.1 11, 65, .inl Bsh)), (wo, .inl (D.1 11, 65, .inl Bwo)), (fe, .inl (D.1 11, 65, .inl Bfe)), (go, .inl (D.1 11, 65, .inl Bgo)), (fi, .inl (D.1 11, 65, .inl Bfi)), (se_, .inl (D.1 11, 65, .inl Bse)), (th, .inl (D.1 12, 64, .inl (fun j => bI (tb j))))]) C hK hH 3 rfl (by omega) (by decide) rfl rfl dX3_word_44 (fun H locs hH => ?_)
      refine lv_aload_n C.x C.b dX3_word_45 rfl (lv_at hl 0 rfl) ?_
      refine gGet (v := .ref fr) C hK hH 0 6 rfl rfl inX3 (by decide) tw_544 rfl dX3_word_46 ?_
      refine lv_bipush (v := nI 64) C.x C.b dX3_word_49 (by decide) ?_
      refine lv_iconst (v := nI 0) C.x C.b dX3_word_51 (by decide) ?_
      refine gIast (f' := upd Bfr 64 (nI 0)) (ws' := [(m0, .inr (3, [.ref tm, .ref rgm, .ref mem, .ref bym, .ref in_, .ref so, .ref fr, .ref sh, .ref wo, .ref fe, .ref go, .ref fi, .ref se_, .ref th, .int (nI n), .int pl, .int (nI a), .int (nI pt), .int (nI hd), .int cyc, .int rds, .int wrs, .int fts, .int (nI 0), .int (bI wcm), .int (bI bcm), .int wd0, .int ab])), (tm, .inl (D.1 11, 40, .inl (fun j => nI (t j)))), (in_, .inl (D.1 11, 65, .inl (upd Bin 64 (nI 0)))), (so, .inl (D.1 11, 65, .inl (upd Bso 64 (nI 13)))), (fr, .inl (D.1 11, 65, .inl (upd Bfr 64 (nI 0)))), (sh, .inl (D.1 11, 65, .inl Bsh)), (wo, .inl (D.1 11, 65, .inl Bwo)), (fe, .inl (D.1 11, 65, .inl Bfe)), (go, .inl (D.1 11, 65, .inl Bgo)), (fi, .inl (D.1 11, 65, .inl Bfi)), (se_, .inl (D.1 11, 65, .inl Bse)), (th, .inl (D.1 12, 64, .inl (fun j => bI (tb j))))]) C hK hH 4 rfl (by omega) (by decide) rfl rfl dX3_word_52 (fun H locs hH => ?_)
      refine lv_aload_n C.x C.b dX3_word_53 rfl (lv_at hl 0 rfl) ?_
      refine gGet (v := .ref sh) C hK hH 0 7 rfl rfl inX3 (by decide) tw_545 rfl dX3_word_54 ?_
      refine lv_bipush (v := nI 64) C.x C.b dX3_word_57 (by decide) ?_
      refine lv_iconst (v := nI 0) C.x C.b dX3_word_59 (by decide) ?_
      refine gIast (f' := upd Bsh 64 (nI 0)) (ws' := [(m0, .inr (3, [.ref tm, .ref rgm, .ref mem, .ref bym, .ref in_, .ref so, .ref fr, .ref sh, .ref wo, .ref fe, .ref go, .ref fi, .ref se_, .ref th, .int (nI n), .int pl, .int (nI a), .int (nI pt), .int (nI hd), .int cyc, .int rds, .int wrs, .int fts, .int (nI 0), .int (bI wcm), .int (bI bcm), .int wd0, .int ab])), (tm, .inl (D.1 11, 40, .inl (fun j => nI (t j)))), (in_, .inl (D.1 11, 65, .inl (upd Bin 64 (nI 0)))), (so, .inl (D.1 11, 65, .inl (upd Bso 64 (nI 13)))), (fr, .inl (D.1 11, 65, .inl (upd Bfr 64 (nI 0)))), (sh, .inl (D.1 11, 65, .inl (upd Bsh 64 (nI 0)))), (wo, .inl (D.1 11, 65, .inl Bwo)), (fe, .inl (D.1 11, 65, .inl Bfe)), (go, .inl (D.1 11, 65, .inl Bgo)), (fi, .inl (D.1 11, 65, .inl Bfi)), (se_, .inl (D.1 11, 65, .inl Bse)), (th, .inl (D.1 12, 64, .inl (fun j => bI (tb j))))]) C hK hH 5 rfl (by omega) (by decide) rfl rfl dX3_word_60 (fun H locs hH => ?_)
      refine lv_aload_n C.x C.b dX3_word_61 rfl (lv_at hl 0 rfl) ?_
      refine gGet (v := .ref wo) C hK hH 0 8 rfl rfl inX3 (by decide) tw_546 rfl dX3_word_62 ?_
      refine lv_bipush (v := nI 64) C.x C.b dX3_word_65 (by decide) ?_
      refine lv_iconst (v := nI 0) C.x C.b dX3_word_67 (by decide) ?_
      refine gIast (f' := upd Bwo 64 (nI 0)) (ws' := [(m0, .inr (3, [.ref tm, .ref rgm, .ref mem, .ref bym, .ref in_, .ref so, .ref fr, .ref sh, .ref wo, .ref fe, .ref go, .ref fi, .ref se_, .ref th, .int (nI n), .int pl, .int (nI a), .int (nI pt), .int (nI hd), .int cyc, .int rds, .int wrs, .int fts, .int (nI 0), .int (bI wcm), .int (bI bcm), .int wd0, .int ab])), (tm, .inl (D.1 11, 40, .inl (fun j => nI (t j)))), (in_, .inl (D.1 11, 65, .inl (upd Bin 64 (nI 0)))), (so, .inl (D.1 11, 65, .inl (upd Bso 64 (nI 13)))), (fr, .inl (D.1 11, 65, .inl (upd Bfr 64 (nI 0)))), (sh, .inl (D.1 11, 65, .inl (upd Bsh 64 (nI 0)))), (wo, .inl (D.1 11, 65, .inl (upd Bwo 64 (nI 0)))), (fe, .inl (D.1 11, 65, .inl Bfe)), (go, .inl (D.1 11, 65, .inl Bgo)), (fi, .inl (D.1 11, 65, .inl Bfi)), (se_, .inl (D.1 11, 65, .inl Bse)), (th, .inl (D.1 12, 64, .inl (fun j => bI (tb j))))]) C hK hH 6 rfl (by omega) (by decide) rfl rfl dX3_word_68 (fun H locs hH => ?_)
      refine lv_aload_n C.x C.b dX3_word_69 rfl (lv_at hl 0 rfl) ?_
      refine gGet (v := .ref fe) C hK hH 0 9 rfl rfl inX3 (by decide) tw_547 rfl dX3_word_70 ?_
      refine lv_bipush (v := nI 64) C.x C.b dX3_word_73 (by decide) ?_
      refine lv_iconst (v := nI 0) C.x C.b dX3_word_75 (by decide) ?_
      refine gIast (f' := upd Bfe 64 (nI 0)) (ws' := [(m0, .inr (3, [.ref tm, .ref rgm, .ref mem, .ref bym, .ref in_, .ref so, .ref fr, .ref sh, .ref wo, .ref fe, .ref go, .ref fi, .ref se_, .ref th, .int (nI n), .int pl, .int (nI a), .int (nI pt), .int (nI hd), .int cyc, .int rds, .int wrs, .int fts, .int (nI 0), .int (bI wcm), .int (bI bcm), .int wd0, .int ab])), (tm, .inl (D.1 11, 40, .inl (fun j => nI (t j)))), (in_, .inl (D.1 11, 65, .inl (upd Bin 64 (nI 0)))), (so, .inl (D.1 11, 65, .inl (upd Bso 64 (nI 13)))), (fr, .inl (D.1 11, 65, .inl (upd Bfr 64 (nI 0)))), (sh, .inl (D.1 11, 65, .inl (upd Bsh 64 (nI 0)))), (wo, .inl (D.1 11, 65, .inl (upd Bwo 64 (nI 0)))), (fe, .inl (D.1 11, 65, .inl (upd Bfe 64 (nI 0)))), (go, .inl (D.1 11, 65, .inl Bgo)), (fi, .inl (D.1 11, 65, .inl Bfi)), (se_, .inl (D.1 11, 65, .inl Bse)), (th, .inl (D.1 12, 64, .inl (fun j => bI (tb j))))]) C hK hH 7 rfl (by omega) (by decide) rfl rfl dX3_word_76 (fun H locs hH => ?_)
      refine lv_aload_n C.x C.b dX3_word_77 rfl (lv_at hl 0 rfl) ?_
      refine gGet (v := .ref go) C hK hH 0 10 rfl rfl inX3 (by decide) tw_548 rfl dX3_word_78 ?_
      refine lv_bipush (v := nI 64) C.x C.b dX3_word_81 (by decide) ?_
      refine lv_iconst (v := nI 0) C.x C.b dX3_word_83 (by decide) ?_
      refine gIast (f' := upd Bgo 64 (nI 0)) (ws' := [(m0, .inr (3, [.ref tm, .ref rgm, .ref mem, .ref bym, .ref in_, .ref so, .ref fr, .ref sh, .ref wo, .ref fe, .ref go, .ref fi, .ref se_, .ref th, .int (nI n), .int pl, .int (nI a), .int (nI pt), .int (nI hd), .int cyc, .int rds, .int wrs, .int fts, .int (nI 0), .int (bI wcm), .int (bI bcm), .int wd0, .int ab])), (tm, .inl (D.1 11, 40, .inl (fun j => nI (t j)))), (in_, .inl (D.1 11, 65, .inl (upd Bin 64 (nI 0)))), (so, .inl (D.1 11, 65, .inl (upd Bso 64 (nI 13)))), (fr, .inl (D.1 11, 65, .inl (upd Bfr 64 (nI 0)))), (sh, .inl (D.1 11, 65, .inl (upd Bsh 64 (nI 0)))), (wo, .inl (D.1 11, 65, .inl (upd Bwo 64 (nI 0)))), (fe, .inl (D.1 11, 65, .inl (upd Bfe 64 (nI 0)))), (go, .inl (D.1 11, 65, .inl (upd Bgo 64 (nI 0)))), (fi, .inl (D.1 11, 65, .inl Bfi)), (se_, .inl (D.1 11, 65, .inl Bse)), (th, .inl (D.1 12, 64, .inl (fun j => bI (tb j))))]) C hK hH 8 rfl (by omega) (by decide) rfl rfl dX3_word_84 (fun H locs hH => ?_)
      refine lv_aload_n C.x C.b dX3_word_85 rfl (lv_at hl 0 rfl) ?_
      refine gGet (v := .ref fi) C hK hH 0 11 rfl rfl inX3 (by decide) tw_549 rfl dX3_word_86 ?_
      refine lv_bipush (v := nI 64) C.x C.b dX3_word_89 (by decide) ?_
      refine lv_iconst (v := -1) C.x C.b dX3_word_91 (by decide) ?_
      refine gIast (f' := upd Bfi 64 (-1)) (ws' := [(m0, .inr (3, [.ref tm, .ref rgm, .ref mem, .ref bym, .ref in_, .ref so, .ref fr, .ref sh, .ref wo, .ref fe, .ref go, .ref fi, .ref se_, .ref th, .int (nI n), .int pl, .int (nI a), .int (nI pt), .int (nI hd), .int cyc, .int rds, .int wrs, .int fts, .int (nI 0), .int (bI wcm), .int (bI bcm), .int wd0, .int ab])), (tm, .inl (D.1 11, 40, .inl (fun j => nI (t j)))), (in_, .inl (D.1 11, 65, .inl (upd Bin 64 (nI 0)))), (so, .inl (D.1 11, 65, .inl (upd Bso 64 (nI 13)))), (fr, .inl (D.1 11, 65, .inl (upd Bfr 64 (nI 0)))), (sh, .inl (D.1 11, 65, .inl (upd Bsh 64 (nI 0)))), (wo, .inl (D.1 11, 65, .inl (upd Bwo 64 (nI 0)))), (fe, .inl (D.1 11, 65, .inl (upd Bfe 64 (nI 0)))), (go, .inl (D.1 11, 65, .inl (upd Bgo 64 (nI 0)))), (fi, .inl (D.1 11, 65, .inl (upd Bfi 64 (-1)))), (se_, .inl (D.1 11, 65, .inl Bse)), (th, .inl (D.1 12, 64, .inl (fun j => bI (tb j))))]) C hK hH 9 rfl (by omega) (by decide) rfl rfl dX3_word_92 (fun H locs hH => ?_)
      refine lv_aload_n C.x C.b dX3_word_93 rfl (lv_at hl 0 rfl) ?_
      refine gGet (v := .ref se_) C hK hH 0 12 rfl rfl inX3 (by decide) tw_550 rfl dX3_word_94 ?_
      refine lv_bipush (v := nI 64) C.x C.b dX3_word_97 (by decide) ?_
      refine lv_iconst (v := -1) C.x C.b dX3_word_99 (by decide) ?_
      refine gIast (f' := upd Bse 64 (-1)) (ws' := [(m0, .inr (3, [.ref tm, .ref rgm, .ref mem, .ref bym, .ref in_, .ref so, .ref fr, .ref sh, .ref wo, .ref fe, .ref go, .ref fi, .ref se_, .ref th, .int (nI n), .int pl, .int (nI a), .int (nI pt), .int (nI hd), .int cyc, .int rds, .int wrs, .int fts, .int (nI 0), .int (bI wcm), .int (bI bcm), .int wd0, .int ab])), (tm, .inl (D.1 11, 40, .inl (fun j => nI (t j)))), (in_, .inl (D.1 11, 65, .inl (upd Bin 64 (nI 0)))), (so, .inl (D.1 11, 65, .inl (upd Bso 64 (nI 13)))), (fr, .inl (D.1 11, 65, .inl (upd Bfr 64 (nI 0)))), (sh, .inl (D.1 11, 65, .inl (upd Bsh 64 (nI 0)))), (wo, .inl (D.1 11, 65, .inl (upd Bwo 64 (nI 0)))), (fe, .inl (D.1 11, 65, .inl (upd Bfe 64 (nI 0)))), (go, .inl (D.1 11, 65, .inl (upd Bgo 64 (nI 0)))), (fi, .inl (D.1 11, 65, .inl (upd Bfi 64 (-1)))), (se_, .inl (D.1 11, 65, .inl (upd Bse 64 (-1)))), (th, .inl (D.1 12, 64, .inl (fun j => bI (tb j))))]) C hK hH 10 rfl (by omega) (by decide) rfl rfl dX3_word_100 (fun H locs hH => ?_)
      refine lv_aload_n C.x C.b dX3_word_101 rfl (lv_at hl 0 rfl) ?_
      refine lv_iconst (v := nI 0) C.x C.b dX3_word_102 (by decide) ?_
      refine gPut (v := .int (nI 0)) (ws' := [(m0, .inr (3, [.ref tm, .ref rgm, .ref mem, .ref bym, .ref in_, .ref so, .ref fr, .ref sh, .ref wo, .ref fe, .ref go, .ref fi, .ref se_, .ref th, .int (nI n), .int pl, .int (nI a), .int (nI 0), .int (nI hd), .int cyc, .int rds, .int wrs, .int fts, .int (nI 0), .int (bI wcm), .int (bI bcm), .int wd0, .int ab])), (tm, .inl (D.1 11, 40, .inl (fun j => nI (t j)))), (in_, .inl (D.1 11, 65, .inl (upd Bin 64 (nI 0)))), (so, .inl (D.1 11, 65, .inl (upd Bso 64 (nI 13)))), (fr, .inl (D.1 11, 65, .inl (upd Bfr 64 (nI 0)))), (sh, .inl (D.1 11, 65, .inl (upd Bsh 64 (nI 0)))), (wo, .inl (D.1 11, 65, .inl (upd Bwo 64 (nI 0)))), (fe, .inl (D.1 11, 65, .inl (upd Bfe 64 (nI 0)))), (go, .inl (D.1 11, 65, .inl (upd Bgo 64 (nI 0)))), (fi, .inl (D.1 11, 65, .inl (upd Bfi 64 (-1)))), (se_, .inl (D.1 11, 65, .inl (upd Bse 64 (-1)))), (th, .inl (D.1 12, 64, .inl (fun j => bI (tb j))))]) C hK hH 0 17 tyX3 tyX3_ok nmX3 rfl rfl inX3 (by decide) tw_555 rfl rfl rfl (Nat.le_of_ble_eq_true rfl) rfl dX3_word_103 (fun H locs hH => ?_)
      refine lv_aload_n C.x C.b dX3_word_106 rfl (lv_at hl 0 rfl) ?_
      refine lv_iconst (v := nI 0) C.x C.b dX3_word_107 (by decide) ?_
      refine gPut (v := .int (nI 0)) (ws' := [(m0, .inr (3, [.ref tm, .ref rgm, .ref mem, .ref bym, .ref in_, .ref so, .ref fr, .ref sh, .ref wo, .ref fe, .ref go, .ref fi, .ref se_, .ref th, .int (nI n), .int pl, .int (nI 0), .int (nI 0), .int (nI hd), .int cyc, .int rds, .int wrs, .int fts, .int (nI 0), .int (bI wcm), .int (bI bcm), .int wd0, .int ab])), (tm, .inl (D.1 11, 40, .inl (fun j => nI (t j)))), (in_, .inl (D.1 11, 65, .inl (upd Bin 64 (nI 0)))), (so, .inl (D.1 11, 65, .inl (upd Bso 64 (nI 13)))), (fr, .inl (D.1 11, 65, .inl (upd Bfr 64 (nI 0)))), (sh, .inl (D.1 11, 65, .inl (upd Bsh 64 (nI 0)))), (wo, .inl (D.1 11, 65, .inl (upd Bwo 64 (nI 0)))), (fe, .inl (D.1 11, 65, .inl (upd Bfe 64 (nI 0)))), (go, .inl (D.1 11, 65, .inl (upd Bgo 64 (nI 0)))), (fi, .inl (D.1 11, 65, .inl (upd Bfi 64 (-1)))), (se_, .inl (D.1 11, 65, .inl (upd Bse 64 (-1)))), (th, .inl (D.1 12, 64, .inl (fun j => bI (tb j))))]) C hK hH 0 16 tyX3 tyX3_ok nmX3 rfl rfl inX3 (by decide) tw_554 rfl rfl rfl (Nat.le_of_ble_eq_true rfl) rfl dX3_word_108 (fun H locs hH => ?_)
      have hH : Hp D A s ([(m0, .inr (3, [.ref tm, .ref rgm, .ref mem, .ref bym, .ref in_, .ref so, .ref fr, .ref sh, .ref wo, .ref fe, .ref go, .ref fi, .ref se_, .ref th, .int (nI n), .int pl, .int (nI 0), .int (nI 0), .int (nI hd), .int cyc, .int rds, .int wrs, .int fts, .int (nI 0), .int (bI wcm), .int (bI bcm), .int wd0, .int ab])), (tm, .inl (D.1 11, 40, .inl (fun j => nI (t j)))), (in_, .inl (D.1 11, 65, .inl (upd Bin 64 (nI 0)))), (so, .inl (D.1 11, 65, .inl (upd Bso 64 (nI 13)))), (fr, .inl (D.1 11, 65, .inl (upd Bfr 64 (oI (some 0))))), (sh, .inl (D.1 11, 65, .inl (upd Bsh 64 (nI 0)))), (wo, .inl (D.1 11, 65, .inl (upd Bwo 64 (nI 0)))), (fe, .inl (D.1 11, 65, .inl (upd Bfe 64 (bI false)))), (go, .inl (D.1 11, 65, .inl (upd Bgo 64 (nI 0)))), (fi, .inl (D.1 11, 65, .inl (upd Bfi 64 (oI none)))), (se_, .inl (D.1 11, 65, .inl (upd Bse 64 (oI none)))), (th, .inl (D.1 12, 64, .inl (fun j => bI (tb j))))]) H locs := hH
      refine lv_aload_n C.x C.b dX3_word_111 rfl (lv_at hl 0 rfl) ?_
      refine kV (As := []) (isC := [0, 1, 2, 3, 4, 5, 6, 7, 8, 9, 10]) (isR := [11]) (wr := [(th, .inl (D.1 12, 64, .inl (fun j => bI (tb j))))]) C hK hH (m_reads l htr D H.size m0 tm rgm mem bym in_ so fr sh wo fe go fi se_ th n pl hd cyc rds wrs fts 0 wcm bcm wd0 ab t Bin Bso Bfr Bsh Bwo Bfe Bgo Bfi Bse hn ht) ⟨rfl, rfl, rfl, rfl, by decide⟩ 0 rfl rfl tw_636 tw_638 ts_22 tw_4 kX3_reads ⟨by decide +kernel, by decide +kernel, (by decide +kernel : (parseMethodDescriptor yX3_reads.desc).map (fun d => d.parameters.length) = some 0)⟩ ⟨(Nat.le_of_ble_eq_true rfl), (Nat.le_of_ble_eq_true rfl)⟩ hl.1 (Nat.le_of_ble_eq_true rfl) dX3_word_112 ⟨(Nat.le_of_ble_eq_true rfl), (Nat.le_of_ble_eq_true rfl)⟩ (fun v9 w9 H locs hN hH => ?_) (fun _ _ _ _ _ _ h => False.elim h)
      rcases hN with ⟨a9, f0, f1, f2, f3, f4, f5, f6, f7, f8, f9, hR, rfl, rfl⟩ | ⟨a9, z0, z1, z2, z3, z4, z5, z6, z7, z8, z9, hR, hal, rfl, rfl⟩
      · have hH : Hp D A s ([(th, .inl (D.1 12, 64, .inl (fun j => bI (tb j)))), (m0, .inr (3, [.ref tm, .ref rgm, .ref mem, .ref bym, .ref in_, .ref so, .ref fr, .ref sh, .ref wo, .ref fe, .ref go, .ref fi, .ref se_, .ref th, .int (nI n), .int pl, .int (nI a9), .int (nI f0), .int (nI hd), .int cyc, .int rds, .int wrs, .int fts, .int (nI 0), .int (bI wcm), .int (bI bcm), .int wd0, .int ab])), (tm, .inl (D.1 11, 40, .inl (fun j => nI (t j)))), (in_, .inl (D.1 11, 65, .inl (upd Bin 64 (nI f1)))), (so, .inl (D.1 11, 65, .inl (upd Bso 64 (nI (ms f2))))), (fr, .inl (D.1 11, 65, .inl (upd Bfr 64 (oI (some f3))))), (sh, .inl (D.1 11, 65, .inl (upd Bsh 64 (nI f4)))), (wo, .inl (D.1 11, 65, .inl (upd Bwo 64 (nI f5)))), (fe, .inl (D.1 11, 65, .inl (upd Bfe 64 (bI f6)))), (go, .inl (D.1 11, 65, .inl (upd Bgo 64 (nI f7)))), (fi, .inl (D.1 11, 65, .inl (upd Bfi 64 (oI f8)))), (se_, .inl (D.1 11, 65, .inl (upd Bse 64 (oI f9))))]) H locs := hH
        refine W.eq (g2 := F0 m 115 ls [.int (nI 1)]) rfl ?_
        refine lv_istore_n (lv' := [(2, .int (nI 1)), (0, .ref m0), (1, .int (nI k9))]) C.x C.b dX3_word_115 rfl hl (by decide) rfl (fun ls hl => ?_)
        refine lv_aload_n C.x C.b dX3_word_116 rfl (lv_at hl 1 rfl) ?_
        refine lv_iconst (v := nI 0) C.x C.b dX3_word_117 (by decide) ?_
        refine gPut (v := .int (nI 0)) (ws' := [(th, .inl (D.1 12, 64, .inl (fun j => bI (tb j)))), (m0, .inr (3, [.ref tm, .ref rgm, .ref mem, .ref bym, .ref in_, .ref so, .ref fr, .ref sh, .ref wo, .ref fe, .ref go, .ref fi, .ref se_, .ref th, .int (nI 0), .int pl, .int (nI a9), .int (nI f0), .int (nI hd), .int cyc, .int rds, .int wrs, .int fts, .int (nI 0), .int (bI wcm), .int (bI bcm), .int wd0, .int ab])), (tm, .inl (D.1 11, 40, .inl (fun j => nI (t j)))), (in_, .inl (D.1 11, 65, .inl (upd Bin 64 (nI f1)))), (so, .inl (D.1 11, 65, .inl (upd Bso 64 (nI (ms f2))))), (fr, .inl (D.1 11, 65, .inl (upd Bfr 64 (oI (some f3))))), (sh, .inl (D.1 11, 65, .inl (upd Bsh 64 (nI f4)))), (wo, .inl (D.1 11, 65, .inl (upd Bwo 64 (nI f5)))), (fe, .inl (D.1 11, 65, .inl (upd Bfe 64 (bI f6)))), (go, .inl (D.1 11, 65, .inl (upd Bgo 64 (nI f7)))), (fi, .inl (D.1 11, 65, .inl (upd Bfi 64 (oI f8)))), (se_, .inl (D.1 11, 65, .inl (upd Bse 64 (oI f9))))]) C hK hH 1 14 tyX3 tyX3_ok nmX3 rfl rfl inX3 (by decide) tw_552 rfl rfl rfl (Nat.le_of_ble_eq_true rfl) rfl dX3_word_118 (fun H locs hH => ?_)
        refine lv_iload_n C.x C.b dX3_word_121 rfl (lv_at hl 0 rfl) ?_
        refine vn_if_ne (tgt := 140) C.x C.b dX3_word_122 (by decide) (by omega) (fun _ => ?_) (fun q => absurd q (by decide))
        refine lv_aload_n C.x C.b dX3_word_140 rfl (lv_at hl 1 rfl) ?_
        refine gGet (v := .ref in_) C hK hH 1 4 rfl rfl inX3 (by decide) tw_542 rfl dX3_word_141 ?_
        refine lv_iload_n C.x C.b dX3_word_144 rfl (lv_at hl 2 rfl) ?_
        refine lv_aload_n C.x C.b dX3_word_145 rfl (lv_at hl 1 rfl) ?_
        refine gGet (v := .ref in_) C hK hH 1 4 rfl rfl inX3 (by decide) tw_542 rfl dX3_word_146 ?_
        refine lv_bipush (v := nI 64) C.x C.b dX3_word_149 (by decide) ?_
        refine gIald (v := (nI f1)) C hK hH 3 rfl (by omega) (by decide) dX3_word_151 rfl ?_
        refine gIast (f' := upd (upd Bin 64 (nI f1)) k9 (nI f1)) (ws' := [(th, .inl (D.1 12, 64, .inl (fun j => bI (tb j)))), (m0, .inr (3, [.ref tm, .ref rgm, .ref mem, .ref bym, .ref in_, .ref so, .ref fr, .ref sh, .ref wo, .ref fe, .ref go, .ref fi, .ref se_, .ref th, .int (nI 0), .int pl, .int (nI a9), .int (nI f0), .int (nI hd), .int cyc, .int rds, .int wrs, .int fts, .int (nI 0), .int (bI wcm), .int (bI bcm), .int wd0, .int ab])), (tm, .inl (D.1 11, 40, .inl (fun j => nI (t j)))), (in_, .inl (D.1 11, 65, .inl (upd (upd Bin 64 (nI f1)) k9 (nI f1)))), (so, .inl (D.1 11, 65, .inl (upd Bso 64 (nI (ms f2))))), (fr, .inl (D.1 11, 65, .inl (upd Bfr 64 (oI (some f3))))), (sh, .inl (D.1 11, 65, .inl (upd Bsh 64 (nI f4)))), (wo, .inl (D.1 11, 65, .inl (upd Bwo 64 (nI f5)))), (fe, .inl (D.1 11, 65, .inl (upd Bfe 64 (bI f6)))), (go, .inl (D.1 11, 65, .inl (upd Bgo 64 (nI f7)))), (fi, .inl (D.1 11, 65, .inl (upd Bfi 64 (oI f8)))), (se_, .inl (D.1 11, 65, .inl (upd Bse 64 (oI f9))))]) C hK hH 3 rfl (by omega) (by decide) rfl rfl dX3_word_152 (fun H locs hH => ?_)
        refine lv_aload_n C.x C.b dX3_word_153 rfl (lv_at hl 1 rfl) ?_
        refine gGet (v := .ref so) C hK hH 1 5 rfl rfl inX3 (by decide) tw_543 rfl dX3_word_154 ?_
        refine lv_iload_n C.x C.b dX3_word_157 rfl (lv_at hl 2 rfl) ?_
        refine lv_aload_n C.x C.b dX3_word_158 rfl (lv_at hl 1 rfl) ?_
        refine gGet (v := .ref so) C hK hH 1 5 rfl rfl inX3 (by decide) tw_543 rfl dX3_word_159 ?_
        refine lv_bipush (v := nI 64) C.x C.b dX3_word_162 (by decide) ?_
        refine gIald (v := (nI (ms f2))) C hK hH 4 rfl (by omega) (by decide) dX3_word_164 rfl ?_
        refine gIast (f' := upd (upd Bso 64 (nI (ms f2))) k9 (nI (ms f2))) (ws' := [(th, .inl (D.1 12, 64, .inl (fun j => bI (tb j)))), (m0, .inr (3, [.ref tm, .ref rgm, .ref mem, .ref bym, .ref in_, .ref so, .ref fr, .ref sh, .ref wo, .ref fe, .ref go, .ref fi, .ref se_, .ref th, .int (nI 0), .int pl, .int (nI a9), .int (nI f0), .int (nI hd), .int cyc, .int rds, .int wrs, .int fts, .int (nI 0), .int (bI wcm), .int (bI bcm), .int wd0, .int ab])), (tm, .inl (D.1 11, 40, .inl (fun j => nI (t j)))), (in_, .inl (D.1 11, 65, .inl (upd (upd Bin 64 (nI f1)) k9 (nI f1)))), (so, .inl (D.1 11, 65, .inl (upd (upd Bso 64 (nI (ms f2))) k9 (nI (ms f2))))), (fr, .inl (D.1 11, 65, .inl (upd Bfr 64 (oI (some f3))))), (sh, .inl (D.1 11, 65, .inl (upd Bsh 64 (nI f4)))), (wo, .inl (D.1 11, 65, .inl (upd Bwo 64 (nI f5)))), (fe, .inl (D.1 11, 65, .inl (upd Bfe 64 (bI f6)))), (go, .inl (D.1 11, 65, .inl (upd Bgo 64 (nI f7)))), (fi, .inl (D.1 11, 65, .inl (upd Bfi 64 (oI f8)))), (se_, .inl (D.1 11, 65, .inl (upd Bse 64 (oI f9))))]) C hK hH 4 rfl (by omega) (by decide) rfl rfl dX3_word_165 (fun H locs hH => ?_)
        refine lv_aload_n C.x C.b dX3_word_166 rfl (lv_at hl 1 rfl) ?_
        refine gGet (v := .ref fr) C hK hH 1 6 rfl rfl inX3 (by decide) tw_544 rfl dX3_word_167 ?_
        refine lv_iload_n C.x C.b dX3_word_170 rfl (lv_at hl 2 rfl) ?_
        refine lv_aload_n C.x C.b dX3_word_171 rfl (lv_at hl 1 rfl) ?_
        refine gGet (v := .ref fr) C hK hH 1 6 rfl rfl inX3 (by decide) tw_544 rfl dX3_word_172 ?_
        refine lv_bipush (v := nI 64) C.x C.b dX3_word_175 (by decide) ?_
        refine gIald (v := (oI (some f3))) C hK hH 5 rfl (by omega) (by decide) dX3_word_177 rfl ?_
        refine gIast (f' := upd (upd Bfr 64 (oI (some f3))) k9 (oI (some f3))) (ws' := [(th, .inl (D.1 12, 64, .inl (fun j => bI (tb j)))), (m0, .inr (3, [.ref tm, .ref rgm, .ref mem, .ref bym, .ref in_, .ref so, .ref fr, .ref sh, .ref wo, .ref fe, .ref go, .ref fi, .ref se_, .ref th, .int (nI 0), .int pl, .int (nI a9), .int (nI f0), .int (nI hd), .int cyc, .int rds, .int wrs, .int fts, .int (nI 0), .int (bI wcm), .int (bI bcm), .int wd0, .int ab])), (tm, .inl (D.1 11, 40, .inl (fun j => nI (t j)))), (in_, .inl (D.1 11, 65, .inl (upd (upd Bin 64 (nI f1)) k9 (nI f1)))), (so, .inl (D.1 11, 65, .inl (upd (upd Bso 64 (nI (ms f2))) k9 (nI (ms f2))))), (fr, .inl (D.1 11, 65, .inl (upd (upd Bfr 64 (oI (some f3))) k9 (oI (some f3))))), (sh, .inl (D.1 11, 65, .inl (upd Bsh 64 (nI f4)))), (wo, .inl (D.1 11, 65, .inl (upd Bwo 64 (nI f5)))), (fe, .inl (D.1 11, 65, .inl (upd Bfe 64 (bI f6)))), (go, .inl (D.1 11, 65, .inl (upd Bgo 64 (nI f7)))), (fi, .inl (D.1 11, 65, .inl (upd Bfi 64 (oI f8)))), (se_, .inl (D.1 11, 65, .inl (upd Bse 64 (oI f9))))]) C hK hH 5 rfl (by omega) (by decide) rfl rfl dX3_word_178 (fun H locs hH => ?_)
        refine lv_aload_n C.x C.b dX3_word_179 rfl (lv_at hl 1 rfl) ?_
        refine gGet (v := .ref sh) C hK hH 1 7 rfl rfl inX3 (by decide) tw_545 rfl dX3_word_180 ?_
        refine lv_iload_n C.x C.b dX3_word_183 rfl (lv_at hl 2 rfl) ?_
        refine lv_aload_n C.x C.b dX3_word_184 rfl (lv_at hl 1 rfl) ?_
        refine gGet (v := .ref sh) C hK hH 1 7 rfl rfl inX3 (by decide) tw_545 rfl dX3_word_185 ?_
        refine lv_bipush (v := nI 64) C.x C.b dX3_word_188 (by decide) ?_
        refine gIald (v := (nI f4)) C hK hH 6 rfl (by omega) (by decide) dX3_word_190 rfl ?_
        refine gIast (f' := upd (upd Bsh 64 (nI f4)) k9 (nI f4)) (ws' := [(th, .inl (D.1 12, 64, .inl (fun j => bI (tb j)))), (m0, .inr (3, [.ref tm, .ref rgm, .ref mem, .ref bym, .ref in_, .ref so, .ref fr, .ref sh, .ref wo, .ref fe, .ref go, .ref fi, .ref se_, .ref th, .int (nI 0), .int pl, .int (nI a9), .int (nI f0), .int (nI hd), .int cyc, .int rds, .int wrs, .int fts, .int (nI 0), .int (bI wcm), .int (bI bcm), .int wd0, .int ab])), (tm, .inl (D.1 11, 40, .inl (fun j => nI (t j)))), (in_, .inl (D.1 11, 65, .inl (upd (upd Bin 64 (nI f1)) k9 (nI f1)))), (so, .inl (D.1 11, 65, .inl (upd (upd Bso 64 (nI (ms f2))) k9 (nI (ms f2))))), (fr, .inl (D.1 11, 65, .inl (upd (upd Bfr 64 (oI (some f3))) k9 (oI (some f3))))), (sh, .inl (D.1 11, 65, .inl (upd (upd Bsh 64 (nI f4)) k9 (nI f4)))), (wo, .inl (D.1 11, 65, .inl (upd Bwo 64 (nI f5)))), (fe, .inl (D.1 11, 65, .inl (upd Bfe 64 (bI f6)))), (go, .inl (D.1 11, 65, .inl (upd Bgo 64 (nI f7)))), (fi, .inl (D.1 11, 65, .inl (upd Bfi 64 (oI f8)))), (se_, .inl (D.1 11, 65, .inl (upd Bse 64 (oI f9))))]) C hK hH 6 rfl (by omega) (by decide) rfl rfl dX3_word_191 (fun H locs hH => ?_)
        refine lv_aload_n C.x C.b dX3_word_192 rfl (lv_at hl 1 rfl) ?_
        refine gGet (v := .ref wo) C hK hH 1 8 rfl rfl inX3 (by decide) tw_546 rfl dX3_word_193 ?_
        refine lv_iload_n C.x C.b dX3_word_196 rfl (lv_at hl 2 rfl) ?_
        refine lv_aload_n C.x C.b dX3_word_197 rfl (lv_at hl 1 rfl) ?_
        refine gGet (v := .ref wo) C hK hH 1 8 rfl rfl inX3 (by decide) tw_546 rfl dX3_word_198 ?_
        refine lv_bipush (v := nI 64) C.x C.b dX3_word_201 (by decide) ?_
        refine gIald (v := (nI f5)) C hK hH 7 rfl (by omega) (by decide) dX3_word_203 rfl ?_
        refine gIast (f' := upd (upd Bwo 64 (nI f5)) k9 (nI f5)) (ws' := [(th, .inl (D.1 12, 64, .inl (fun j => bI (tb j)))), (m0, .inr (3, [.ref tm, .ref rgm, .ref mem, .ref bym, .ref in_, .ref so, .ref fr, .ref sh, .ref wo, .ref fe, .ref go, .ref fi, .ref se_, .ref th, .int (nI 0), .int pl, .int (nI a9), .int (nI f0), .int (nI hd), .int cyc, .int rds, .int wrs, .int fts, .int (nI 0), .int (bI wcm), .int (bI bcm), .int wd0, .int ab])), (tm, .inl (D.1 11, 40, .inl (fun j => nI (t j)))), (in_, .inl (D.1 11, 65, .inl (upd (upd Bin 64 (nI f1)) k9 (nI f1)))), (so, .inl (D.1 11, 65, .inl (upd (upd Bso 64 (nI (ms f2))) k9 (nI (ms f2))))), (fr, .inl (D.1 11, 65, .inl (upd (upd Bfr 64 (oI (some f3))) k9 (oI (some f3))))), (sh, .inl (D.1 11, 65, .inl (upd (upd Bsh 64 (nI f4)) k9 (nI f4)))), (wo, .inl (D.1 11, 65, .inl (upd (upd Bwo 64 (nI f5)) k9 (nI f5)))), (fe, .inl (D.1 11, 65, .inl (upd Bfe 64 (bI f6)))), (go, .inl (D.1 11, 65, .inl (upd Bgo 64 (nI f7)))), (fi, .inl (D.1 11, 65, .inl (upd Bfi 64 (oI f8)))), (se_, .inl (D.1 11, 65, .inl (upd Bse 64 (oI f9))))]) C hK hH 7 rfl (by omega) (by decide) rfl rfl dX3_word_204 (fun H locs hH => ?_)
        refine lv_aload_n C.x C.b dX3_word_205 rfl (lv_at hl 1 rfl) ?_
        refine gGet (v := .ref fe) C hK hH 1 9 rfl rfl inX3 (by decide) tw_547 rfl dX3_word_206 ?_
        refine lv_iload_n C.x C.b dX3_word_209 rfl (lv_at hl 2 rfl) ?_
        refine lv_aload_n C.x C.b dX3_word_210 rfl (lv_at hl 1 rfl) ?_
        refine gGet (v := .ref fe) C hK hH 1 9 rfl rfl inX3 (by decide) tw_547 rfl dX3_word_211 ?_
        refine lv_bipush (v := nI 64) C.x C.b dX3_word_214 (by decide) ?_
        refine gIald (v := (bI f6)) C hK hH 8 rfl (by omega) (by decide) dX3_word_216 rfl ?_
        refine gIast (f' := upd (upd Bfe 64 (bI f6)) k9 (bI f6)) (ws' := [(th, .inl (D.1 12, 64, .inl (fun j => bI (tb j)))), (m0, .inr (3, [.ref tm, .ref rgm, .ref mem, .ref bym, .ref in_, .ref so, .ref fr, .ref sh, .ref wo, .ref fe, .ref go, .ref fi, .ref se_, .ref th, .int (nI 0), .int pl, .int (nI a9), .int (nI f0), .int (nI hd), .int cyc, .int rds, .int wrs, .int fts, .int (nI 0), .int (bI wcm), .int (bI bcm), .int wd0, .int ab])), (tm, .inl (D.1 11, 40, .inl (fun j => nI (t j)))), (in_, .inl (D.1 11, 65, .inl (upd (upd Bin 64 (nI f1)) k9 (nI f1)))), (so, .inl (D.1 11, 65, .inl (upd (upd Bso 64 (nI (ms f2))) k9 (nI (ms f2))))), (fr, .inl (D.1 11, 65, .inl (upd (upd Bfr 64 (oI (some f3))) k9 (oI (some f3))))), (sh, .inl (D.1 11, 65, .inl (upd (upd Bsh 64 (nI f4)) k9 (nI f4)))), (wo, .inl (D.1 11, 65, .inl (upd (upd Bwo 64 (nI f5)) k9 (nI f5)))), (fe, .inl (D.1 11, 65, .inl (upd (upd Bfe 64 (bI f6)) k9 (bI f6)))), (go, .inl (D.1 11, 65, .inl (upd Bgo 64 (nI f7)))), (fi, .inl (D.1 11, 65, .inl (upd Bfi 64 (oI f8)))), (se_, .inl (D.1 11, 65, .inl (upd Bse 64 (oI f9))))]) C hK hH 8 rfl (by omega) (by decide) rfl rfl dX3_word_217 (fun H locs hH => ?_)
        refine lv_aload_n C.x C.b dX3_word_218 rfl (lv_at hl 1 rfl) ?_
        refine gGet (v := .ref go) C hK hH 1 10 rfl rfl inX3 (by decide) tw_548 rfl dX3_word_219 ?_
        refine lv_iload_n C.x C.b dX3_word_222 rfl (lv_at hl 2 rfl) ?_
        refine lv_aload_n C.x C.b dX3_word_223 rfl (lv_at hl 1 rfl) ?_
        refine gGet (v := .ref go) C hK hH 1 10 rfl rfl inX3 (by decide) tw_548 rfl dX3_word_224 ?_
        refine lv_bipush (v := nI 64) C.x C.b dX3_word_227 (by decide) ?_
        refine gIald (v := (nI f7)) C hK hH 9 rfl (by omega) (by decide) dX3_word_229 rfl ?_
        refine gIast (f' := upd (upd Bgo 64 (nI f7)) k9 (nI f7)) (ws' := [(th, .inl (D.1 12, 64, .inl (fun j => bI (tb j)))), (m0, .inr (3, [.ref tm, .ref rgm, .ref mem, .ref bym, .ref in_, .ref so, .ref fr, .ref sh, .ref wo, .ref fe, .ref go, .ref fi, .ref se_, .ref th, .int (nI 0), .int pl, .int (nI a9), .int (nI f0), .int (nI hd), .int cyc, .int rds, .int wrs, .int fts, .int (nI 0), .int (bI wcm), .int (bI bcm), .int wd0, .int ab])), (tm, .inl (D.1 11, 40, .inl (fun j => nI (t j)))), (in_, .inl (D.1 11, 65, .inl (upd (upd Bin 64 (nI f1)) k9 (nI f1)))), (so, .inl (D.1 11, 65, .inl (upd (upd Bso 64 (nI (ms f2))) k9 (nI (ms f2))))), (fr, .inl (D.1 11, 65, .inl (upd (upd Bfr 64 (oI (some f3))) k9 (oI (some f3))))), (sh, .inl (D.1 11, 65, .inl (upd (upd Bsh 64 (nI f4)) k9 (nI f4)))), (wo, .inl (D.1 11, 65, .inl (upd (upd Bwo 64 (nI f5)) k9 (nI f5)))), (fe, .inl (D.1 11, 65, .inl (upd (upd Bfe 64 (bI f6)) k9 (bI f6)))), (go, .inl (D.1 11, 65, .inl (upd (upd Bgo 64 (nI f7)) k9 (nI f7)))), (fi, .inl (D.1 11, 65, .inl (upd Bfi 64 (oI f8)))), (se_, .inl (D.1 11, 65, .inl (upd Bse 64 (oI f9))))]) C hK hH 9 rfl (by omega) (by decide) rfl rfl dX3_word_230 (fun H locs hH => ?_)
        refine lv_aload_n C.x C.b dX3_word_231 rfl (lv_at hl 1 rfl) ?_
        refine gGet (v := .ref fi) C hK hH 1 11 rfl rfl inX3 (by decide) tw_549 rfl dX3_word_232 ?_
        refine lv_iload_n C.x C.b dX3_word_235 rfl (lv_at hl 2 rfl) ?_
        refine lv_aload_n C.x C.b dX3_word_236 rfl (lv_at hl 1 rfl) ?_
        refine gGet (v := .ref fi) C hK hH 1 11 rfl rfl inX3 (by decide) tw_549 rfl dX3_word_237 ?_
        refine lv_bipush (v := nI 64) C.x C.b dX3_word_240 (by decide) ?_
        refine gIald (v := (oI f8)) C hK hH 10 rfl (by omega) (by decide) dX3_word_242 rfl ?_
        refine gIast (f' := upd (upd Bfi 64 (oI f8)) k9 (oI f8)) (ws' := [(th, .inl (D.1 12, 64, .inl (fun j => bI (tb j)))), (m0, .inr (3, [.ref tm, .ref rgm, .ref mem, .ref bym, .ref in_, .ref so, .ref fr, .ref sh, .ref wo, .ref fe, .ref go, .ref fi, .ref se_, .ref th, .int (nI 0), .int pl, .int (nI a9), .int (nI f0), .int (nI hd), .int cyc, .int rds, .int wrs, .int fts, .int (nI 0), .int (bI wcm), .int (bI bcm), .int wd0, .int ab])), (tm, .inl (D.1 11, 40, .inl (fun j => nI (t j)))), (in_, .inl (D.1 11, 65, .inl (upd (upd Bin 64 (nI f1)) k9 (nI f1)))), (so, .inl (D.1 11, 65, .inl (upd (upd Bso 64 (nI (ms f2))) k9 (nI (ms f2))))), (fr, .inl (D.1 11, 65, .inl (upd (upd Bfr 64 (oI (some f3))) k9 (oI (some f3))))), (sh, .inl (D.1 11, 65, .inl (upd (upd Bsh 64 (nI f4)) k9 (nI f4)))), (wo, .inl (D.1 11, 65, .inl (upd (upd Bwo 64 (nI f5)) k9 (nI f5)))), (fe, .inl (D.1 11, 65, .inl (upd (upd Bfe 64 (bI f6)) k9 (bI f6)))), (go, .inl (D.1 11, 65, .inl (upd (upd Bgo 64 (nI f7)) k9 (nI f7)))), (fi, .inl (D.1 11, 65, .inl (upd (upd Bfi 64 (oI f8)) k9 (oI f8)))), (se_, .inl (D.1 11, 65, .inl (upd Bse 64 (oI f9))))]) C hK hH 10 rfl (by omega) (by decide) rfl rfl dX3_word_243 (fun H locs hH => ?_)
        refine lv_aload_n C.x C.b dX3_word_244 rfl (lv_at hl 1 rfl) ?_
        refine gGet (v := .ref se_) C hK hH 1 12 rfl rfl inX3 (by decide) tw_550 rfl dX3_word_245 ?_
        refine lv_iload_n C.x C.b dX3_word_248 rfl (lv_at hl 2 rfl) ?_
        refine lv_aload_n C.x C.b dX3_word_249 rfl (lv_at hl 1 rfl) ?_
        refine gGet (v := .ref se_) C hK hH 1 12 rfl rfl inX3 (by decide) tw_550 rfl dX3_word_250 ?_
        refine lv_bipush (v := nI 64) C.x C.b dX3_word_253 (by decide) ?_
        refine gIald (v := (oI f9)) C hK hH 11 rfl (by omega) (by decide) dX3_word_255 rfl ?_
        refine gIast (f' := upd (upd Bse 64 (oI f9)) k9 (oI f9)) (ws' := [(th, .inl (D.1 12, 64, .inl (fun j => bI (tb j)))), (m0, .inr (3, [.ref tm, .ref rgm, .ref mem, .ref bym, .ref in_, .ref so, .ref fr, .ref sh, .ref wo, .ref fe, .ref go, .ref fi, .ref se_, .ref th, .int (nI 0), .int pl, .int (nI a9), .int (nI f0), .int (nI hd), .int cyc, .int rds, .int wrs, .int fts, .int (nI 0), .int (bI wcm), .int (bI bcm), .int wd0, .int ab])), (tm, .inl (D.1 11, 40, .inl (fun j => nI (t j)))), (in_, .inl (D.1 11, 65, .inl (upd (upd Bin 64 (nI f1)) k9 (nI f1)))), (so, .inl (D.1 11, 65, .inl (upd (upd Bso 64 (nI (ms f2))) k9 (nI (ms f2))))), (fr, .inl (D.1 11, 65, .inl (upd (upd Bfr 64 (oI (some f3))) k9 (oI (some f3))))), (sh, .inl (D.1 11, 65, .inl (upd (upd Bsh 64 (nI f4)) k9 (nI f4)))), (wo, .inl (D.1 11, 65, .inl (upd (upd Bwo 64 (nI f5)) k9 (nI f5)))), (fe, .inl (D.1 11, 65, .inl (upd (upd Bfe 64 (bI f6)) k9 (bI f6)))), (go, .inl (D.1 11, 65, .inl (upd (upd Bgo 64 (nI f7)) k9 (nI f7)))), (fi, .inl (D.1 11, 65, .inl (upd (upd Bfi 64 (oI f8)) k9 (oI f8)))), (se_, .inl (D.1 11, 65, .inl (upd (upd Bse 64 (oI f9)) k9 (oI f9))))]) C hK hH 11 rfl (by omega) (by decide) rfl rfl dX3_word_256 (fun H locs hH => ?_)
        refine lv_aload_n C.x C.b dX3_word_257 rfl (lv_at hl 1 rfl) ?_
        refine gGet (v := .ref th) C hK hH 1 13 rfl rfl inX3 (by decide) tw_551 rfl dX3_word_258 ?_
        refine lv_iload_n C.x C.b dX3_word_261 rfl (lv_at hl 2 rfl) ?_
        refine lv_iconst (v := nI 1) C.x C.b dX3_word_262 (by decide) ?_
        refine gZast (f' := (fun j => bI (va_up tb k9 true j))) (ws' := [(th, .inl (D.1 12, 64, .inl (fun j => bI (va_up tb k9 true j)))), (m0, .inr (3, [.ref tm, .ref rgm, .ref mem, .ref bym, .ref in_, .ref so, .ref fr, .ref sh, .ref wo, .ref fe, .ref go, .ref fi, .ref se_, .ref th, .int (nI 0), .int pl, .int (nI a9), .int (nI f0), .int (nI hd), .int cyc, .int rds, .int wrs, .int fts, .int (nI 0), .int (bI wcm), .int (bI bcm), .int wd0, .int ab])), (tm, .inl (D.1 11, 40, .inl (fun j => nI (t j)))), (in_, .inl (D.1 11, 65, .inl (upd (upd Bin 64 (nI f1)) k9 (nI f1)))), (so, .inl (D.1 11, 65, .inl (upd (upd Bso 64 (nI (ms f2))) k9 (nI (ms f2))))), (fr, .inl (D.1 11, 65, .inl (upd (upd Bfr 64 (oI (some f3))) k9 (oI (some f3))))), (sh, .inl (D.1 11, 65, .inl (upd (upd Bsh 64 (nI f4)) k9 (nI f4)))), (wo, .inl (D.1 11, 65, .inl (upd (upd Bwo 64 (nI f5)) k9 (nI f5)))), (fe, .inl (D.1 11, 65, .inl (upd (upd Bfe 64 (bI f6)) k9 (bI f6)))), (go, .inl (D.1 11, 65, .inl (upd (upd Bgo 64 (nI f7)) k9 (nI f7)))), (fi, .inl (D.1 11, 65, .inl (upd (upd Bfi 64 (oI f8)) k9 (oI f8)))), (se_, .inl (D.1 11, 65, .inl (upd (upd Bse 64 (oI f9)) k9 (oI f9))))]) C hK hH 0 rfl (by omega) (by decide) (tb_set tb k9 true) rfl dX3_word_263 (fun H locs hH => ?_)
        refine lv_aload_n C.x C.b dX3_word_264 rfl (lv_at hl 1 rfl) ?_
        refine gGet (v := .int (nI f0)) C hK hH 1 17 rfl rfl inX3 (by decide) tw_555 rfl dX3_word_265 ?_
        have hH : Hp D A s ([(m0, .inr (3, [.ref tm, .ref rgm, .ref mem, .ref bym, .ref in_, .ref so, .ref fr, .ref sh, .ref wo, .ref fe, .ref go, .ref fi, .ref se_, .ref th, .int (nI 0), .int pl, .int (nI a9), .int (nI f0), .int (nI hd), .int cyc, .int rds, .int wrs, .int fts, .int (nI 0), .int (bI wcm), .int (bI bcm), .int wd0, .int ab])), (tm, .inl (D.1 11, 40, .inl (fun j => nI (t j)))), (in_, .inl (D.1 11, 65, .inl (upd (upd Bin 64 (nI f1)) k9 (nI f1)))), (so, .inl (D.1 11, 65, .inl (upd (upd Bso 64 (nI (ms f2))) k9 (nI (ms f2))))), (fr, .inl (D.1 11, 65, .inl (upd (upd Bfr 64 (oI (some f3))) k9 (oI (some f3))))), (sh, .inl (D.1 11, 65, .inl (upd (upd Bsh 64 (nI f4)) k9 (nI f4)))), (wo, .inl (D.1 11, 65, .inl (upd (upd Bwo 64 (nI f5)) k9 (nI f5)))), (fe, .inl (D.1 11, 65, .inl (upd (upd Bfe 64 (bI f6)) k9 (bI f6)))), (go, .inl (D.1 11, 65, .inl (upd (upd Bgo 64 (nI f7)) k9 (nI f7)))), (fi, .inl (D.1 11, 65, .inl (upd (upd Bfi 64 (oI f8)) k9 (oI f8)))), (se_, .inl (D.1 11, 65, .inl (upd (upd Bse 64 (oI f9)) k9 (oI f9)))), (th, .inl (D.1 12, 64, .inl (fun j => bI (va_up tb k9 true j))))]) H locs := Hp.reo hH [1, 2, 3, 4, 5, 6, 7, 8, 9, 10, 11, 0] rfl 12 rfl (by decide)
        exact rI C hr hH (Or.inl ⟨k9, a9, f0, f1, f2, f3, f4, f5, f6, f7, f8, f9, hk9, rfl, hR, rfl, rfl⟩) (Nat.le_of_ble_eq_true rfl) (Nat.le_of_ble_eq_true rfl) dX3_word_268
      · have hH : Hp D A s ([(th, .inl (D.1 12, 64, .inl (fun j => bI (tb j)))), (m0, .inr (3, [.ref tm, .ref rgm, .ref mem, .ref bym, .ref in_, .ref so, .ref fr, .ref sh, .ref wo, .ref fe, .ref go, .ref fi, .ref se_, .ref th, .int (nI n), .int pl, .int (nI a9), .int (nI z0), .int (nI hd), .int cyc, .int rds, .int wrs, .int fts, .int (nI 0), .int (bI wcm), .int (bI bcm), .int wd0, .int ab])), (tm, .inl (D.1 11, 40, .inl (fun j => nI (t j)))), (in_, .inl (D.1 11, 65, .inl (upd Bin 64 (nI z1)))), (so, .inl (D.1 11, 65, .inl (upd Bso 64 (nI z2)))), (fr, .inl (D.1 11, 65, .inl (upd Bfr 64 (oI z3)))), (sh, .inl (D.1 11, 65, .inl (upd Bsh 64 (nI z4)))), (wo, .inl (D.1 11, 65, .inl (upd Bwo 64 (nI z5)))), (fe, .inl (D.1 11, 65, .inl (upd Bfe 64 (bI z6)))), (go, .inl (D.1 11, 65, .inl (upd Bgo 64 (nI z7)))), (fi, .inl (D.1 11, 65, .inl (upd Bfi 64 (oI z8)))), (se_, .inl (D.1 11, 65, .inl (upd Bse 64 (oI z9))))]) H locs := hH
        refine W.eq (g2 := F0 m 115 ls [.int (nI 0)]) rfl ?_
        refine lv_istore_n (lv' := [(2, .int (nI 0)), (0, .ref m0), (1, .int (nI k9))]) C.x C.b dX3_word_115 rfl hl (by decide) rfl (fun ls hl => ?_)
        refine lv_aload_n C.x C.b dX3_word_116 rfl (lv_at hl 1 rfl) ?_
        refine lv_iconst (v := nI 0) C.x C.b dX3_word_117 (by decide) ?_
        refine gPut (v := .int (nI 0)) (ws' := [(th, .inl (D.1 12, 64, .inl (fun j => bI (tb j)))), (m0, .inr (3, [.ref tm, .ref rgm, .ref mem, .ref bym, .ref in_, .ref so, .ref fr, .ref sh, .ref wo, .ref fe, .ref go, .ref fi, .ref se_, .ref th, .int (nI 0), .int pl, .int (nI a9), .int (nI z0), .int (nI hd), .int cyc, .int rds, .int wrs, .int fts, .int (nI 0), .int (bI wcm), .int (bI bcm), .int wd0, .int ab])), (tm, .inl (D.1 11, 40, .inl (fun j => nI (t j)))), (in_, .inl (D.1 11, 65, .inl (upd Bin 64 (nI z1)))), (so, .inl (D.1 11, 65, .inl (upd Bso 64 (nI z2)))), (fr, .inl (D.1 11, 65, .inl (upd Bfr 64 (oI z3)))), (sh, .inl (D.1 11, 65, .inl (upd Bsh 64 (nI z4)))), (wo, .inl (D.1 11, 65, .inl (upd Bwo 64 (nI z5)))), (fe, .inl (D.1 11, 65, .inl (upd Bfe 64 (bI z6)))), (go, .inl (D.1 11, 65, .inl (upd Bgo 64 (nI z7)))), (fi, .inl (D.1 11, 65, .inl (upd Bfi 64 (oI z8)))), (se_, .inl (D.1 11, 65, .inl (upd Bse 64 (oI z9))))]) C hK hH 1 14 tyX3 tyX3_ok nmX3 rfl rfl inX3 (by decide) tw_552 rfl rfl rfl (Nat.le_of_ble_eq_true rfl) rfl dX3_word_118 (fun H locs hH => ?_)
        refine lv_iload_n C.x C.b dX3_word_121 rfl (lv_at hl 0 rfl) ?_
        refine vn_if_ne (tgt := 140) C.x C.b dX3_word_122 (by decide) (by omega) (fun q => absurd q (by decide)) (fun _ => ?_)
        refine lv_aload_n C.x C.b dX3_word_125 rfl (lv_at hl 1 rfl) ?_
        refine lv_aload_n C.x C.b dX3_word_126 rfl (lv_at hl 1 rfl) ?_
        refine gGet (v := .int (nI a9)) C hK hH 1 16 rfl rfl inX3 (by decide) tw_554 rfl dX3_word_127 ?_
        refine gPut (v := .int (nI a9)) (ws' := [(th, .inl (D.1 12, 64, .inl (fun j => bI (tb j)))), (m0, .inr (3, [.ref tm, .ref rgm, .ref mem, .ref bym, .ref in_, .ref so, .ref fr, .ref sh, .ref wo, .ref fe, .ref go, .ref fi, .ref se_, .ref th, .int (nI 0), .int (nI a9), .int (nI a9), .int (nI z0), .int (nI hd), .int cyc, .int rds, .int wrs, .int fts, .int (nI 0), .int (bI wcm), .int (bI bcm), .int wd0, .int ab])), (tm, .inl (D.1 11, 40, .inl (fun j => nI (t j)))), (in_, .inl (D.1 11, 65, .inl (upd Bin 64 (nI z1)))), (so, .inl (D.1 11, 65, .inl (upd Bso 64 (nI z2)))), (fr, .inl (D.1 11, 65, .inl (upd Bfr 64 (oI z3)))), (sh, .inl (D.1 11, 65, .inl (upd Bsh 64 (nI z4)))), (wo, .inl (D.1 11, 65, .inl (upd Bwo 64 (nI z5)))), (fe, .inl (D.1 11, 65, .inl (upd Bfe 64 (bI z6)))), (go, .inl (D.1 11, 65, .inl (upd Bgo 64 (nI z7)))), (fi, .inl (D.1 11, 65, .inl (upd Bfi 64 (oI z8)))), (se_, .inl (D.1 11, 65, .inl (upd Bse 64 (oI z9))))]) C hK hH 1 15 tyX3 tyX3_ok nmX3 rfl rfl inX3 (by decide) tw_553 rfl rfl rfl (Nat.le_of_ble_eq_true rfl) rfl dX3_word_130 (fun H locs hH => ?_)
        refine lv_aload_n C.x C.b dX3_word_133 rfl (lv_at hl 1 rfl) ?_
        refine lv_iconst (v := nI 1) C.x C.b dX3_word_134 (by decide) ?_
        refine gPut (v := .int (nI 1)) (ws' := [(th, .inl (D.1 12, 64, .inl (fun j => bI (tb j)))), (m0, .inr (3, [.ref tm, .ref rgm, .ref mem, .ref bym, .ref in_, .ref so, .ref fr, .ref sh, .ref wo, .ref fe, .ref go, .ref fi, .ref se_, .ref th, .int (nI 0), .int (nI a9), .int (nI a9), .int (nI z0), .int (nI hd), .int cyc, .int rds, .int wrs, .int fts, .int (nI 1), .int (bI wcm), .int (bI bcm), .int wd0, .int ab])), (tm, .inl (D.1 11, 40, .inl (fun j => nI (t j)))), (in_, .inl (D.1 11, 65, .inl (upd Bin 64 (nI z1)))), (so, .inl (D.1 11, 65, .inl (upd Bso 64 (nI z2)))), (fr, .inl (D.1 11, 65, .inl (upd Bfr 64 (oI z3)))), (sh, .inl (D.1 11, 65, .inl (upd Bsh 64 (nI z4)))), (wo, .inl (D.1 11, 65, .inl (upd Bwo 64 (nI z5)))), (fe, .inl (D.1 11, 65, .inl (upd Bfe 64 (bI z6)))), (go, .inl (D.1 11, 65, .inl (upd Bgo 64 (nI z7)))), (fi, .inl (D.1 11, 65, .inl (upd Bfi 64 (oI z8)))), (se_, .inl (D.1 11, 65, .inl (upd Bse 64 (oI z9))))]) C hK hH 1 23 tyX3 tyX3_ok nmX3 rfl rfl inX3 (by decide) tw_561 rfl rfl rfl (Nat.le_of_ble_eq_true rfl) rfl dX3_word_135 (fun H locs hH => ?_)
        refine lv_iconst (v := nI 0) C.x C.b dX3_word_138 (by decide) ?_
        have hH : Hp D A s ([(m0, .inr (3, [.ref tm, .ref rgm, .ref mem, .ref bym, .ref in_, .ref so, .ref fr, .ref sh, .ref wo, .ref fe, .ref go, .ref fi, .ref se_, .ref th, .int (nI 0), .int (nI a9), .int (nI a9), .int (nI z0), .int (nI hd), .int cyc, .int rds, .int wrs, .int fts, .int (nI 1), .int (bI wcm), .int (bI bcm), .int wd0, .int ab])), (tm, .inl (D.1 11, 40, .inl (fun j => nI (t j)))), (in_, .inl (D.1 11, 65, .inl (upd Bin 64 (nI z1)))), (so, .inl (D.1 11, 65, .inl (upd Bso 64 (nI z2)))), (fr, .inl (D.1 11, 65, .inl (upd Bfr 64 (oI z3)))), (sh, .inl (D.1 11, 65, .inl (upd Bsh 64 (nI z4)))), (wo, .inl (D.1 11, 65, .inl (upd Bwo 64 (nI z5)))), (fe, .inl (D.1 11, 65, .inl (upd Bfe 64 (bI z6)))), (go, .inl (D.1 11, 65, .inl (upd Bgo 64 (nI z7)))), (fi, .inl (D.1 11, 65, .inl (upd Bfi 64 (oI z8)))), (se_, .inl (D.1 11, 65, .inl (upd Bse 64 (oI z9)))), (th, .inl (D.1 12, 64, .inl (fun j => bI (tb j))))]) H locs := Hp.reo hH [1, 2, 3, 4, 5, 6, 7, 8, 9, 10, 11, 0] rfl 12 rfl (by decide)
        exact rI C hr hH (Or.inr (Or.inr ⟨k9, a9, z0, z1, z2, z3, z4, z5, z6, z7, z8, z9, hk9, rfl, hR, hal, rfl, rfl⟩)) (Nat.le_of_ble_eq_true rfl) (Nat.le_of_ble_eq_true rfl) dX3_word_139
    · refine lv_iconst (v := nI 1) C.x C.b dX3_word_11 (by decide) ?_
      refine lv_goto (tgt := 16) C.x C.b dX3_word_12 (by decide) ?_
      refine gPut (v := .int (nI 1)) (ws' := [(m0, .inr (3, [.ref tm, .ref rgm, .ref mem, .ref bym, .ref in_, .ref so, .ref fr, .ref sh, .ref wo, .ref fe, .ref go, .ref fi, .ref se_, .ref th, .int (nI n), .int pl, .int (nI a), .int (nI pt), .int (nI hd), .int cyc, .int rds, .int wrs, .int fts, .int (nI 1), .int (bI wcm), .int (bI bcm), .int wd0, .int ab])), (tm, .inl (D.1 11, 40, .inl (fun j => nI (t j)))), (in_, .inl (D.1 11, 65, .inl Bin)), (so, .inl (D.1 11, 65, .inl Bso)), (fr, .inl (D.1 11, 65, .inl Bfr)), (sh, .inl (D.1 11, 65, .inl Bsh)), (wo, .inl (D.1 11, 65, .inl Bwo)), (fe, .inl (D.1 11, 65, .inl Bfe)), (go, .inl (D.1 11, 65, .inl Bgo)), (fi, .inl (D.1 11, 65, .inl Bfi)), (se_, .inl (D.1 11, 65, .inl Bse)), (th, .inl (D.1 12, 64, .inl (fun j => bI (tb j))))]) C hK hH 0 23 tyX3 tyX3_ok nmX3 rfl rfl inX3 (by decide) tw_561 rfl rfl rfl (Nat.le_of_ble_eq_true rfl) rfl dX3_word_16 (fun H locs hH => ?_)
      refine lv_aload_n C.x C.b dX3_word_19 rfl (lv_at hl 0 rfl) ?_
      refine gGet (v := .int (nI 1)) C hK hH 0 23 rfl rfl inX3 (by decide) tw_561 rfl dX3_word_20 ?_
      refine vn_if_eq (tgt := 28) C.x C.b dX3_word_23 (by decide) (by omega) (fun q => absurd q (by decide)) (fun _ => ?_)
      refine lv_iconst (v := nI 0) C.x C.b dX3_word_26 (by decide) ?_
      exact rI C hr hH (Or.inr (Or.inl ⟨(by first | exact rg_neg (by decide) c_2 | exact rg_nl (b := 63) (by decide) c_8 | exact rg_gt (b := 63) (by decide) c_8), rfl, rfl⟩)) (Nat.le_of_ble_eq_true rfl) (Nat.le_of_ble_eq_true rfl) dX3_word_27
