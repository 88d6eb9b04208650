theorem vh_up {t : Nat → Nat} {n a : Nat} {q : Nat × Nat × Option Nat} (h : vh t n a = .inr q) : a ≤ q.1 := by
  unfold vh at h
  repeat' (first | (cases h; done) | (cases h; dsimp only; omega) | (split at h) | (simp only [cond] at h))
theorem vb_up {t : Nat → Nat} {n a k : Nat} {q : Nat × Nat × Option Nat} (h : vb t n a k = .inr q) : a ≤ q.1 := by
  unfold vb at h
  repeat' (first | (cases h; done) | (cases h; dsimp only; omega) | (split at h) | (simp only [cond] at h))
theorem vl_up {t : Nat → Nat} {n a : Nat} {q : Nat × Nat × Option Nat} (h : vl t n a = .inr q) : a < q.1 := by
  unfold vl at h
  repeat' (first | (cases h; done) | (cases h; dsimp only; omega) | (have := vh_up h; omega) | (have := vb_up h; omega) | (split at h) | (simp only [cond] at h))
set_option maxHeartbeats 4000000 in
set_option maxRecDepth 100000 in
theorem m_setting (l : Launch) (htr : l.stackTraces = false) (D : va_G) (sz : Nat) (m0 tm rgm mem bym in_ so fr sh wo fe go fi se_ th n : Nat) (pl : Int32) (a pt hd : Nat) (cyc rds wrs fts : Int32) (thr : Nat) (wcm bcm : Bool) (wd0 ab : Int32) (t : Nat → Nat) (Bso Bfr Bin Bsh : Nat → Int32) (o0 : Nat) (hn : n ≤ 40) (ha : a ≤ n) (ht : ∀ j, t j < 128) (h0 : stI (lk t n a) ≠ none) : Ct l yX3_setting wX3_setting { frames := 4, cells := 0, slots := 0, locals := 83 } D ([(m0, .inr (3, [.ref tm, .ref rgm, .ref mem, .ref bym, .ref in_, .ref so, .ref fr, .ref sh, .ref wo, .ref fe, .ref go, .ref fi, .ref se_, .ref th, .int (nI n), .int pl, .int (nI a), .int (nI pt), .int (nI hd), .int cyc, .int rds, .int wrs, .int fts, .int (nI thr), .int (bI wcm), .int (bI bcm), .int wd0, .int ab])), (tm, .inl (D.1 11, 40, .inl (fun j => nI (t j)))), (so, .inl (D.1 11, 65, .inl (upd Bso 64 (nI o0)))), (fr, .inl (D.1 11, 65, .inl (upd Bfr 64 (oI (some 0))))), (in_, .inl (D.1 11, 65, .inl (upd Bin 64 (nI 0)))), (sh, .inl (D.1 11, 65, .inl (upd Bsh 64 (nI 0))))]) [.ref m0] sz (fun v w => (∃ q, se t n a = .inr q ∧ a < q.1 ∧ q.1 ≤ n ∧ q.2.1 < 512 ∧ v = some (.int (nI 1)) ∧ w = [(m0, .inr (3, [.ref tm, .ref rgm, .ref mem, .ref bym, .ref in_, .ref so, .ref fr, .ref sh, .ref wo, .ref fe, .ref go, .ref fi, .ref se_, .ref th, .int (nI n), .int pl, .int (nI q.1), .int (nI (pt + 1)), .int (nI hd), .int cyc, .int rds, .int wrs, .int fts, .int (nI thr), .int (bI wcm), .int (bI bcm), .int wd0, .int ab])), (tm, .inl (D.1 11, 40, .inl (fun j => nI (t j)))), (so, .inl (D.1 11, 65, .inl (upd Bso 64 (nI (ms q.2.2.1))))), (fr, .inl (D.1 11, 65, .inl (upd Bfr 64 (oI (some (q.2.2.2.1.getD 0)))))), (in_, .inl (D.1 11, 65, .inl (upd Bin 64 (nI q.2.1)))), (sh, .inl (D.1 11, 65, .inl (upd Bsh 64 (nI q.2.2.2.2))))]) ∨ (∃ a9 pt9 m9 o9 x9 h9, se t n a = .inl a9 ∧ a9 ≤ n ∧ v = some (.int (nI 0)) ∧ w = [(m0, .inr (3, [.ref tm, .ref rgm, .ref mem, .ref bym, .ref in_, .ref so, .ref fr, .ref sh, .ref wo, .ref fe, .ref go, .ref fi, .ref se_, .ref th, .int (nI n), .int pl, .int (nI a9), .int (nI pt9), .int (nI hd), .int cyc, .int rds, .int wrs, .int fts, .int (nI thr), .int (bI wcm), .int (bI bcm), .int wd0, .int ab])), (tm, .inl (D.1 11, 40, .inl (fun j => nI (t j)))), (so, .inl (D.1 11, 65, .inl (upd Bso 64 (nI o9)))), (fr, .inl (D.1 11, 65, .inl (upd Bfr 64 (oI x9)))), (in_, .inl (D.1 11, 65, .inl (upd Bin 64 (nI m9)))), (sh, .inl (D.1 11, 65, .inl (upd Bsh 64 (nI h9))))])) (nox) := by
  refine Ct.of (cc := cX3_setting) (nL := 7) (ret := (some .boolean)) (own := RX3) htr (by decide) rfl (Nat.le_of_ble_eq_true rfl) ?_
  intro p e s m args below meth c A C hr hK H locs hH ls hl
  have hl : lv_has ls 7 [(0, .ref m0)] := hl
  refine lv_iconst (v := nI 0) C.x C.b dX3_setting_0 (by decide) ?_
  refine lv_istore_n (lv' := [(1, .int (nI 0)), (0, .ref m0)]) C.x C.b dX3_setting_1 rfl hl (by decide) rfl (fun ls hl => ?_)
  refine lv_iconst (v := nI 1) C.x C.b dX3_setting_2 (by decide) ?_
  refine lv_istore_n (lv' := [(2, .int (nI 1)), (1, .int (nI 0)), (0, .ref m0)]) C.x C.b dX3_setting_3 rfl hl (by decide) rfl (fun ls hl => ?_)
  have L_4 : ∀ (fuel : Nat) (y : Nat) (a1 : Nat) (m1 : Nat) (hy4 : y ≤ 4) (ha1 : a1 ≤ n) (hle : a ≤ a1) (hm1 : m1 < 512) (hz : y = 0 → a1 = a ∧ m1 = 0) (hnz : y ≠ 0 → m1 ≠ 0 ∧ a < a1) (hT : tl t n (4 - y) a1 m1 = tl t n 4 a 0), 4 - y < fuel → ∀ (H : Heap) (locs : List Loc), Hp D A s ([(m0, .inr (3, [.ref tm, .ref rgm, .ref mem, .ref bym, .ref in_, .ref so, .ref fr, .ref sh, .ref wo, .ref fe, .ref go, .ref fi, .ref se_, .ref th, .int (nI n), .int pl, .int (nI a1), .int (nI pt), .int (nI hd), .int cyc, .int rds, .int wrs, .int fts, .int (nI thr), .int (bI wcm), .int (bI bcm), .int wd0, .int ab])), (tm, .inl (D.1 11, 40, .inl (fun j => nI (t j)))), (so, .inl (D.1 11, 65, .inl (upd Bso 64 (nI o0)))), (fr, .inl (D.1 11, 65, .inl (upd Bfr 64 (oI (some 0))))), (in_, .inl (D.1 11, 65, .inl (upd Bin 64 (nI m1)))), (sh, .inl (D.1 11, 65, .inl (upd Bsh 64 (nI 0))))]) H locs → ∀ ls : Array Slot, lv_has ls 7 [(1, .int (nI y)), (2, .int (nI 1)), (0, .ref m0)] → W p l e { frames := 4, cells := 0, slots := 0, locals := 83 } s m args below meth c H locs 0 0 (Qf below args s D A (fun v w => (∃ q, se t n a = .inr q ∧ a < q.1 ∧ q.1 ≤ n ∧ q.2.1 < 512 ∧ v = some (.int (nI 1)) ∧ w = [(m0, .inr (3, [.ref tm, .ref rgm, .ref mem, .ref bym, .ref in_, .ref so, .ref fr, .ref sh, .ref wo, .ref fe, .ref go, .ref fi, .ref se_, .ref th, .int (nI n), .int pl, .int (nI q.1), .int (nI (pt + 1)), .int (nI hd), .int cyc, .int rds, .int wrs, .int fts, .int (nI thr), .int (bI wcm), .int (bI bcm), .int wd0, .int ab])), (tm, .inl (D.1 11, 40, .inl (fun j => nI (t j)))), (so, .inl (D.1 11, 65, .inl (upd Bso 64 (nI (ms q.2.2.1))))), (fr, .inl (D.1 11, 65, .inl (upd Bfr 64 (oI (some (q.2.2.2.1.getD 0)))))), (in_, .inl (D.1 11, 65, .inl (upd Bin 64 (nI q.2.1)))), (sh, .inl (D.1 11, 65, .inl (upd Bsh 64 (nI q.2.2.2.2))))]) ∨ (∃ a9 pt9 m9 o9 x9 h9, se t n a = .inl a9 ∧ a9 ≤ n ∧ v = some (.int (nI 0)) ∧ w = [(m0, .inr (3, [.ref tm, .ref rgm, .ref mem, .ref bym, .ref in_, .ref so, .ref fr, .ref sh, .ref wo, .ref fe, .ref go, .ref fi, .ref se_, .ref th, .int (nI n), .int pl, .int (nI a9), .int (nI pt9), .int (nI hd), .int cyc, .int rds, .int wrs, .int fts, .int (nI thr), .int (bI wcm), .int (bI bcm), .int wd0, .int ab])), (tm, .inl (D.1 11, 40, .inl (fun j => nI (t j)))), (so, .inl (D.1 11, 65, .inl (upd Bso 64 (nI o9)))), (fr, .inl (D.1 11, 65, .inl (upd Bfr 64 (oI x9)))), (in_, .inl (D.1 11, 65, .inl (upd Bin 64 (nI m9)))), (sh, .inl (D.1 11, 65, .inl (upd Bsh 64 (nI h9))))])) (nox) { frames := 4, cells := 0, slots := 0, locals := 83 }) (F0 m 4 ls []) := by
    intro fuel
    induction fuel with
    | zero => intro y a1 m1 hy4 ha1 hle hm1 hz hnz hT hm; exact absurd hm (Nat.not_lt_zero _)
    | succ fuel ih =>
      intro y a1 m1 hy4 ha1 hle hm1 hz hnz hT hm H locs hH ls hl
      refine lv_iload_n C.x C.b dX3_setting_4 rfl (lv_at hl 1 rfl) ?_
      refine vn_if_eq (tgt := 173) C.x C.b dX3_setting_5 (by decide) (by omega) (fun q => absurd q (by decide)) (fun _ => ?_)
      have K_173 : ∀ (hE : tl t n 4 a 0 = .inr (a1, m1)) (hm0 : m1 ≠ 0) (haa : a < a1) (H : Heap) (locs : List Loc), Hp D A s ([(m0, .inr (3, [.ref tm, .ref rgm, .ref mem, .ref bym, .ref in_, .ref so, .ref fr, .ref sh, .ref wo, .ref fe, .ref go, .ref fi, .ref se_, .ref th, .int (nI n), .int pl, .int (nI a1), .int (nI pt), .int (nI hd), .int cyc, .int rds, .int wrs, .int fts, .int (nI thr), .int (bI wcm), .int (bI bcm), .int wd0, .int ab])), (tm, .inl (D.1 11, 40, .inl (fun j => nI (t j)))), (so, .inl (D.1 11, 65, .inl (upd Bso 64 (nI o0)))), (fr, .inl (D.1 11, 65, .inl (upd Bfr 64 (oI (some 0))))), (in_, .inl (D.1 11, 65, .inl (upd Bin 64 (nI m1)))), (sh, .inl (D.1 11, 65, .inl (upd Bsh 64 (nI 0))))]) H locs → ∀ ls : Array Slot, lv_has ls 7 [(0, .ref m0)] → W p l e { frames := 4, cells := 0, slots := 0, locals := 83 } s m args below meth c H locs 0 0 (Qf below args s D A (fun v w => (∃ q, se t n a = .inr q ∧ a < q.1 ∧ q.1 ≤ n ∧ q.2.1 < 512 ∧ v = some (.int (nI 1)) ∧ w = [(m0, .inr (3, [.ref tm, .ref rgm, .ref mem, .ref bym, .ref in_, .ref so, .ref fr, .ref sh, .ref wo, .ref fe, .ref go, .ref fi, .ref se_, .ref th, .int (nI n), .int pl, .int (nI q.1), .int (nI (pt + 1)), .int (nI hd), .int cyc, .int rds, .int wrs, .int fts, .int (nI thr), .int (bI wcm), .int (bI bcm), .int wd0, .int ab])), (tm, .inl (D.1 11, 40, .inl (fun j => nI (t j)))), (so, .inl (D.1 11, 65, .inl (upd Bso 64 (nI (ms q.2.2.1))))), (fr, .inl (D.1 11, 65, .inl (upd Bfr 64 (oI (some (q.2.2.2.1.getD 0)))))), (in_, .inl (D.1 11, 65, .inl (upd Bin 64 (nI q.2.1)))), (sh, .inl (D.1 11, 65, .inl (upd Bsh 64 (nI q.2.2.2.2))))]) ∨ (∃ a9 pt9 m9 o9 x9 h9, se t n a = .inl a9 ∧ a9 ≤ n ∧ v = some (.int (nI 0)) ∧ w = [(m0, .inr (3, [.ref tm, .ref rgm, .ref mem, .ref bym, .ref in_, .ref so, .ref fr, .ref sh, .ref wo, .ref fe, .ref go, .ref fi, .ref se_, .ref th, .int (nI n), .int pl, .int (nI a9), .int (nI pt9), .int (nI hd), .int cyc, .int rds, .int wrs, .int fts, .int (nI thr), .int (bI wcm), .int (bI bcm), .int wd0, .int ab])), (tm, .inl (D.1 11, 40, .inl (fun j => nI (t j)))), (so, .inl (D.1 11, 65, .inl (upd Bso 64 (nI o9)))), (fr, .inl (D.1 11, 65, .inl (upd Bfr 64 (oI x9)))), (in_, .inl (D.1 11, 65, .inl (upd Bin 64 (nI m9)))), (sh, .inl (D.1 11, 65, .inl (upd Bsh 64 (nI h9))))])) (nox) { frames := 4, cells := 0, slots := 0, locals := 83 }) (F0 m 173 ls []) := by
        intro hE hm0 haa H locs hH ls hl
        refine lv_aload_n C.x C.b dX3_setting_173 rfl (lv_at hl 0 rfl) ?_
        refine kV (As := []) (isC := [0, 1, 2, 3]) (isR := [4, 5]) (wr := [(in_, .inl (D.1 11, 65, .inl (upd Bin 64 (nI m1)))), (sh, .inl (D.1 11, 65, .inl (upd Bsh 64 (nI 0))))]) C hK hH (m_value l htr D H.size m0 tm rgm mem bym in_ so fr sh wo fe go fi se_ th n pl a1 pt hd cyc rds wrs fts thr wcm bcm wd0 ab t Bso Bfr o0 (some 0) hn (by omega) ht) ⟨rfl, rfl, rfl, rfl, by decide⟩ 0 rfl rfl tw_656 tw_658 ts_27 tw_4 kX3_value ⟨by decide +kernel, by decide +kernel, (by decide +kernel : (parseMethodDescriptor yX3_value.desc).map (fun d => d.parameters.length) = some 0)⟩ ⟨(Nat.le_of_ble_eq_true rfl), (Nat.le_of_ble_eq_true rfl)⟩ hl.1 (Nat.le_of_ble_eq_true rfl) dX3_setting_174 ⟨(Nat.le_of_ble_eq_true rfl), (Nat.le_of_ble_eq_true rfl)⟩ (fun v9 w9 H locs hN hH => ?_) (fun _ _ _ _ _ _ h => False.elim h)
        rcases hN with ⟨⟨c_174, o_174, s_174⟩, hq_174, kl_174, rfl, rfl⟩ | ⟨a9_174, o9_174, x9_174, hq_174, kl_174, rfl, rfl⟩
        · have hH : Hp D A s ([(in_, .inl (D.1 11, 65, .inl (upd Bin 64 (nI m1)))), (sh, .inl (D.1 11, 65, .inl (upd Bsh 64 (nI 0)))), (m0, .inr (3, [.ref tm, .ref rgm, .ref mem, .ref bym, .ref in_, .ref so, .ref fr, .ref sh, .ref wo, .ref fe, .ref go, .ref fi, .ref se_, .ref th, .int (nI n), .int pl, .int (nI c_174), .int (nI pt), .int (nI hd), .int cyc, .int rds, .int wrs, .int fts, .int (nI thr), .int (bI wcm), .int (bI bcm), .int wd0, .int ab])), (tm, .inl (D.1 11, 40, .inl (fun j => nI (t j)))), (so, .inl (D.1 11, 65, .inl (upd Bso 64 (nI (ms o_174))))), (fr, .inl (D.1 11, 65, .inl (upd Bfr 64 (oI (orx s_174 (some 0))))))]) H locs := hH
          have kl_174 : c_174 ≤ n := kl_174
          refine W.eq (g2 := F0 m 177 ls [.int (nI 1)]) rfl ?_
          refine vn_if_ne (tgt := 182) C.x C.b dX3_setting_177 (by decide) (by omega) (fun _ => ?_) (fun q => absurd q (by decide))
          refine lv_aload_n C.x C.b dX3_setting_182 rfl (lv_at hl 0 rfl) ?_
          refine lv_bipush (v := nI 60) C.x C.b dX3_setting_183 (by decide) ?_
          refine kV (As := [.int (nI 60)]) (isC := [2, 3]) (isR := [0, 1, 4, 5]) (wr := [(in_, .inl (D.1 11, 65, .inl (upd Bin 64 (nI m1)))), (sh, .inl (D.1 11, 65, .inl (upd Bsh 64 (nI 0)))), (so, .inl (D.1 11, 65, .inl (upd Bso 64 (nI (ms o_174))))), (fr, .inl (D.1 11, 65, .inl (upd Bfr 64 (oI (orx s_174 (some 0))))))]) C hK hH (m_has l htr D H.size m0 tm rgm mem bym in_ so fr sh wo fe go fi se_ th n pl c_174 pt hd cyc rds wrs fts thr wcm bcm wd0 ab t 60 hn (by omega) ht (by omega)) ⟨rfl, rfl, rfl, rfl, by decide⟩ 2 rfl rfl tw_652 tw_654 ts_26 tw_4 kX3_has ⟨by decide +kernel, by decide +kernel, (by decide +kernel : (parseMethodDescriptor yX3_has.desc).map (fun d => d.parameters.length) = some 1)⟩ ⟨(Nat.le_of_ble_eq_true rfl), (Nat.le_of_ble_eq_true rfl)⟩ hl.1 (Nat.le_of_ble_eq_true rfl) dX3_setting_185 ⟨(Nat.le_of_ble_eq_true rfl), (Nat.le_of_ble_eq_true rfl)⟩ (fun v9 w9 H locs hN hH => ?_) (fun _ _ _ _ _ _ h => False.elim h)
          rcases hN with ⟨k_185, kl_185, rfl, rfl⟩ | ⟨k_185, rfl, rfl⟩
          · have hH : Hp D A s ([(in_, .inl (D.1 11, 65, .inl (upd Bin 64 (nI m1)))), (sh, .inl (D.1 11, 65, .inl (upd Bsh 64 (nI 0)))), (so, .inl (D.1 11, 65, .inl (upd Bso 64 (nI (ms o_174))))), (fr, .inl (D.1 11, 65, .inl (upd Bfr 64 (oI (orx s_174 (some 0)))))), (m0, .inr (3, [.ref tm, .ref rgm, .ref mem, .ref bym, .ref in_, .ref so, .ref fr, .ref sh, .ref wo, .ref fe, .ref go, .ref fi, .ref se_, .ref th, .int (nI n), .int pl, .int (nI (c_174 + 1)), .int (nI pt), .int (nI hd), .int cyc, .int rds, .int wrs, .int fts, .int (nI thr), .int (bI wcm), .int (bI bcm), .int wd0, .int ab])), (tm, .inl (D.1 11, 40, .inl (fun j => nI (t j))))]) H locs := hH
            refine W.eq (g2 := F0 m 188 ls [.int (nI 1)]) rfl ?_
            refine vn_if_eq (tgt := 202) C.x C.b dX3_setting_188 (by decide) (by omega) (fun q => absurd q (by decide)) (fun _ => ?_)
            refine lv_aload_n C.x C.b dX3_setting_191 rfl (lv_at hl 0 rfl) ?_
            refine gGet (v := .ref sh) C hK hH 4 7 rfl rfl inX3 (by decide) tw_545 rfl dX3_setting_192 ?_
            refine lv_bipush (v := nI 64) C.x C.b dX3_setting_195 (by decide) ?_
            refine lv_iconst (v := nI 1) C.x C.b dX3_setting_197 (by decide) ?_
            refine gIast (f' := upd Bsh 64 (nI 1)) (ws' := [(in_, .inl (D.1 11, 65, .inl (upd Bin 64 (nI m1)))), (sh, .inl (D.1 11, 65, .inl (upd Bsh 64 (nI 1)))), (so, .inl (D.1 11, 65, .inl (upd Bso 64 (nI (ms o_174))))), (fr, .inl (D.1 11, 65, .inl (upd Bfr 64 (oI (orx s_174 (some 0)))))), (m0, .inr (3, [.ref tm, .ref rgm, .ref mem, .ref bym, .ref in_, .ref so, .ref fr, .ref sh, .ref wo, .ref fe, .ref go, .ref fi, .ref se_, .ref th, .int (nI n), .int pl, .int (nI (c_174 + 1)), .int (nI pt), .int (nI hd), .int cyc, .int rds, .int wrs, .int fts, .int (nI thr), .int (bI wcm), .int (bI bcm), .int wd0, .int ab])), (tm, .inl (D.1 11, 40, .inl (fun j => nI (t j))))]) C hK hH 1 rfl (by omega) (by decide) (upd_upd _ _ _ _) rfl dX3_setting_198 (fun H locs hH => ?_)
            refine lv_goto (tgt := 219) C.x C.b dX3_setting_199 (by decide) ?_
            refine lv_aload_n C.x C.b dX3_setting_219 rfl (lv_at hl 0 rfl) ?_
            refine lv_dup C.x C.b dX3_setting_220 rfl ?_
            refine gGet (v := .int (nI pt)) C hK hH 4 17 rfl rfl inX3 (by decide) tw_555 rfl dX3_setting_221 ?_
            refine lv_iconst (v := nI 1) C.x C.b dX3_setting_224 (by decide) ?_
            refine lv_iadd C.x C.b dX3_setting_225 ?_
            refine vt_top (nI_add _ _) ?_
            refine gPut (v := .int (nI (pt + 1))) (ws' := [(in_, .inl (D.1 11, 65, .inl (upd Bin 64 (nI m1)))), (sh, .inl (D.1 11, 65, .inl (upd Bsh 64 (nI 1)))), (so, .inl (D.1 11, 65, .inl (upd Bso 64 (nI (ms o_174))))), (fr, .inl (D.1 11, 65, .inl (upd Bfr 64 (oI (orx s_174 (some 0)))))), (m0, .inr (3, [.ref tm, .ref rgm, .ref mem, .ref bym, .ref in_, .ref so, .ref fr, .ref sh, .ref wo, .ref fe, .ref go, .ref fi, .ref se_, .ref th, .int (nI n), .int pl, .int (nI (c_174 + 1)), .int (nI (pt + 1)), .int (nI hd), .int cyc, .int rds, .int wrs, .int fts, .int (nI thr), .int (bI wcm), .int (bI bcm), .int wd0, .int ab])), (tm, .inl (D.1 11, 40, .inl (fun j => nI (t j))))]) C hK hH 4 17 tyX3 tyX3_ok nmX3 rfl rfl inX3 (by decide) tw_555 rfl rfl rfl (Nat.le_of_ble_eq_true rfl) rfl dX3_setting_226 (fun H locs hH => ?_)
            refine lv_iconst (v := nI 1) C.x C.b dX3_setting_229 (by decide) ?_
            have hH : Hp D A s ([(m0, .inr (3, [.ref tm, .ref rgm, .ref mem, .ref bym, .ref in_, .ref so, .ref fr, .ref sh, .ref wo, .ref fe, .ref go, .ref fi, .ref se_, .ref th, .int (nI n), .int pl, .int (nI (c_174 + 1)), .int (nI (pt + 1)), .int (nI hd), .int cyc, .int rds, .int wrs, .int fts, .int (nI thr), .int (bI wcm), .int (bI bcm), .int wd0, .int ab])), (tm, .inl (D.1 11, 40, .inl (fun j => nI (t j)))), (so, .inl (D.1 11, 65, .inl (upd Bso 64 (nI (ms o_174))))), (fr, .inl (D.1 11, 65, .inl (upd Bfr 64 (oI (orx s_174 (some 0)))))), (in_, .inl (D.1 11, 65, .inl (upd Bin 64 (nI m1)))), (sh, .inl (D.1 11, 65, .inl (upd Bsh 64 (nI 1))))]) H locs := Hp.reo hH [4, 5, 2, 3, 0, 1] rfl 6 rfl (by decide)
            exact rZ C hr (by decide) hH (Or.inl ⟨(c_174 + 1, m1, o_174, s_174, 1), by simp only [se, hE, if_neg hm0, hq_174, k_185, cond_true, cond_false], by have := vl_up hq_174; omega, by omega, by omega, rfl, by cases s_174 <;> rfl⟩) (Nat.le_of_ble_eq_true rfl) (Nat.le_of_ble_eq_true rfl) dX3_setting_230
          · have hH : Hp D A s ([(in_, .inl (D.1 11, 65, .inl (upd Bin 64 (nI m1)))), (sh, .inl (D.1 11, 65, .inl (upd Bsh 64 (nI 0)))), (so, .inl (D.1 11, 65, .inl (upd Bso 64 (nI (ms o_174))))), (fr, .inl (D.1 11, 65, .inl (upd Bfr 64 (oI (orx s_174 (some 0)))))), (m0, .inr (3, [.ref tm, .ref rgm, .ref mem, .ref bym, .ref in_, .ref so, .ref fr, .ref sh, .ref wo, .ref fe, .ref go, .ref fi, .ref se_, .ref th, .int (nI n), .int pl, .int (nI c_174), .int (nI pt), .int (nI hd), .int cyc, .int rds, .int wrs, .int fts, .int (nI thr), .int (bI wcm), .int (bI bcm), .int wd0, .int ab])), (tm, .inl (D.1 11, 40, .inl (fun j => nI (t j))))]) H locs := hH
            refine W.eq (g2 := F0 m 188 ls [.int (nI 0)]) rfl ?_
            refine vn_if_eq (tgt := 202) C.x C.b dX3_setting_188 (by decide) (by omega) (fun _ => ?_) (fun q => absurd q (by decide))
            refine lv_aload_n C.x C.b dX3_setting_202 rfl (lv_at hl 0 rfl) ?_
            refine lv_bipush (v := nI 62) C.x C.b dX3_setting_203 (by decide) ?_
            refine kV (As := [.int (nI 62)]) (isC := [4, 5]) (isR := [0, 1, 2, 3]) (wr := [(in_, .inl (D.1 11, 65, .inl (upd Bin 64 (nI m1)))), (sh, .inl (D.1 11, 65, .inl (upd Bsh 64 (nI 0)))), (so, .inl (D.1 11, 65, .inl (upd Bso 64 (nI (ms o_174))))), (fr, .inl (D.1 11, 65, .inl (upd Bfr 64 (oI (orx s_174 (some 0))))))]) C hK hH (m_has l htr D H.size m0 tm rgm mem bym in_ so fr sh wo fe go fi se_ th n pl c_174 pt hd cyc rds wrs fts thr wcm bcm wd0 ab t 62 hn (by omega) ht (by omega)) ⟨rfl, rfl, rfl, rfl, by decide⟩ 4 rfl rfl tw_652 tw_654 ts_26 tw_4 kX3_has ⟨by decide +kernel, by decide +kernel, (by decide +kernel : (parseMethodDescriptor yX3_has.desc).map (fun d => d.parameters.length) = some 1)⟩ ⟨(Nat.le_of_ble_eq_true rfl), (Nat.le_of_ble_eq_true rfl)⟩ hl.1 (Nat.le_of_ble_eq_true rfl) dX3_setting_205 ⟨(Nat.le_of_ble_eq_true rfl), (Nat.le_of_ble_eq_true rfl)⟩ (fun v9 w9 H locs hN hH => ?_) (fun _ _ _ _ _ _ h => False.elim h)
            rcases hN with ⟨k_205, kl_205, rfl, rfl⟩ | ⟨k_205, rfl, rfl⟩
            · have hH : Hp D A s ([(in_, .inl (D.1 11, 65, .inl (upd Bin 64 (nI m1)))), (sh, .inl (D.1 11, 65, .inl (upd Bsh 64 (nI 0)))), (so, .inl (D.1 11, 65, .inl (upd Bso 64 (nI (ms o_174))))), (fr, .inl (D.1 11, 65, .inl (upd Bfr 64 (oI (orx s_174 (some 0)))))), (m0, .inr (3, [.ref tm, .ref rgm, .ref mem, .ref bym, .ref in_, .ref so, .ref fr, .ref sh, .ref wo, .ref fe, .ref go, .ref fi, .ref se_, .ref th, .int (nI n), .int pl, .int (nI (c_174 + 1)), .int (nI pt), .int (nI hd), .int cyc, .int rds, .int wrs, .int fts, .int (nI thr), .int (bI wcm), .int (bI bcm), .int wd0, .int ab])), (tm, .inl (D.1 11, 40, .inl (fun j => nI (t j))))]) H locs := hH
              refine W.eq (g2 := F0 m 208 ls [.int (nI 1)]) rfl ?_
              refine vn_if_eq (tgt := 219) C.x C.b dX3_setting_208 (by decide) (by omega) (fun q => absurd q (by decide)) (fun _ => ?_)
              refine lv_aload_n C.x C.b dX3_setting_211 rfl (lv_at hl 0 rfl) ?_
              refine gGet (v := .ref sh) C hK hH 4 7 rfl rfl inX3 (by decide) tw_545 rfl dX3_setting_212 ?_
              refine lv_bipush (v := nI 64) C.x C.b dX3_setting_215 (by decide) ?_
              refine lv_iconst (v := nI 2) C.x C.b dX3_setting_217 (by decide) ?_
              refine gIast (f' := upd Bsh 64 (nI 2)) (ws' := [(in_, .inl (D.1 11, 65, .inl (upd Bin 64 (nI m1)))), (sh, .inl (D.1 11, 65, .inl (upd Bsh 64 (nI 2)))), (so, .inl (D.1 11, 65, .inl (upd Bso 64 (nI (ms o_174))))), (fr, .inl (D.1 11, 65, .inl (upd Bfr 64 (oI (orx s_174 (some 0)))))), (m0, .inr (3, [.ref tm, .ref rgm, .ref mem, .ref bym, .ref in_, .ref so, .ref fr, .ref sh, .ref wo, .ref fe, .ref go, .ref fi, .ref se_, .ref th, .int (nI n), .int pl, .int (nI (c_174 + 1)), .int (nI pt), .int (nI hd), .int cyc, .int rds, .int wrs, .int fts, .int (nI thr), .int (bI wcm), .int (bI bcm), .int wd0, .int ab])), (tm, .inl (D.1 11, 40, .inl (fun j => nI (t j))))]) C hK hH 1 rfl (by omega) (by decide) (upd_upd _ _ _ _) rfl dX3_setting_218 (fun H locs hH => ?_)
              refine lv_aload_n C.x C.b dX3_setting_219 rfl (lv_at hl 0 rfl) ?_
              refine lv_dup C.x C.b dX3_setting_220 rfl ?_
              refine gGet (v := .int (nI pt)) C hK hH 4 17 rfl rfl inX3 (by decide) tw_555 rfl dX3_setting_221 ?_
              refine lv_iconst (v := nI 1) C.x C.b dX3_setting_224 (by decide) ?_
              refine lv_iadd C.x C.b dX3_setting_225 ?_
              refine vt_top (nI_add _ _) ?_
              refine gPut (v := .int (nI (pt + 1))) (ws' := [(in_, .inl (D.1 11, 65, .inl (upd Bin 64 (nI m1)))), (sh, .inl (D.1 11, 65, .inl (upd Bsh 64 (nI 2)))), (so, .inl (D.1 11, 65, .inl (upd Bso 64 (nI (ms o_174))))), (fr, .inl (D.1 11, 65, .inl (upd Bfr 64 (oI (orx s_174 (some 0)))))), (m0, .inr (3, [.ref tm, .ref rgm, .ref mem, .ref bym, .ref in_, .ref so, .ref fr, .ref sh, .ref wo, .ref fe, .ref go, .ref fi, .ref se_, .ref th, .int (nI n), .int pl, .int (nI (c_174 + 1)), .int (nI (pt + 1)), .int (nI hd), .int cyc, .int rds, .int wrs, .int fts, .int (nI thr), .int (bI wcm), .int (bI bcm), .int wd0, .int ab])), (tm, .inl (D.1 11, 40, .inl (fun j => nI (t j))))]) C hK hH 4 17 tyX3 tyX3_ok nmX3 rfl rfl inX3 (by decide) tw_555 rfl rfl rfl (Nat.le_of_ble_eq_true rfl) rfl dX3_setting_226 (fun H locs hH => ?_)
              refine lv_iconst (v := nI 1) C.x C.b dX3_setting_229 (by decide) ?_
              have hH : Hp D A s ([(m0, .inr (3, [.ref tm, .ref rgm, .ref mem, .ref bym, .ref in_, .ref so, .ref fr, .ref sh, .ref wo, .ref fe, .ref go, .ref fi, .ref se_, .ref th, .int (nI n), .int pl, .int (nI (c_174 + 1)), .int (nI (pt + 1)), .int (nI hd), .int cyc, .int rds, .int wrs, .int fts, .int (nI thr), .int (bI wcm), .int (bI bcm), .int wd0, .int ab])), (tm, .inl (D.1 11, 40, .inl (fun j => nI (t j)))), (so, .inl (D.1 11, 65, .inl (upd Bso 64 (nI (ms o_174))))), (fr, .inl (D.1 11, 65, .inl (upd Bfr 64 (oI (orx s_174 (some 0)))))), (in_, .inl (D.1 11, 65, .inl (upd Bin 64 (nI m1)))), (sh, .inl (D.1 11, 65, .inl (upd Bsh 64 (nI 2))))]) H locs := Hp.reo hH [4, 5, 2, 3, 0, 1] rfl 6 rfl (by decide)
              exact rZ C hr (by decide) hH (Or.inl ⟨(c_174 + 1, m1, o_174, s_174, 2), by simp only [se, hE, if_neg hm0, hq_174, k_185, k_205, cond_true, cond_false], by have := vl_up hq_174; omega, by omega, by omega, rfl, by cases s_174 <;> rfl⟩) (Nat.le_of_ble_eq_true rfl) (Nat.le_of_ble_eq_true rfl) dX3_setting_230
            · have hH : Hp D A s ([(in_, .inl (D.1 11, 65, .inl (upd Bin 64 (nI m1)))), (sh, .inl (D.1 11, 65, .inl (upd Bsh 64 (nI 0)))), (so, .inl (D.1 11, 65, .inl (upd Bso 64 (nI (ms o_174))))), (fr, .inl (D.1 11, 65, .inl (upd Bfr 64 (oI (orx s_174 (some 0)))))), (m0, .inr (3, [.ref tm, .ref rgm, .ref mem, .ref bym, .ref in_, .ref so, .ref fr, .ref sh, .ref wo, .ref fe, .ref go, .ref fi, .ref se_, .ref th, .int (nI n), .int pl, .int (nI c_174), .int (nI pt), .int (nI hd), .int cyc, .int rds, .int wrs, .int fts, .int (nI thr), .int (bI wcm), .int (bI bcm), .int wd0, .int ab])), (tm, .inl (D.1 11, 40, .inl (fun j => nI (t j))))]) H locs := hH
              refine W.eq (g2 := F0 m 208 ls [.int (nI 0)]) rfl ?_
              refine vn_if_eq (tgt := 219) C.x C.b dX3_setting_208 (by decide) (by omega) (fun _ => ?_) (fun q => absurd q (by decide))
              refine lv_aload_n C.x C.b dX3_setting_219 rfl (lv_at hl 0 rfl) ?_
              refine lv_dup C.x C.b dX3_setting_220 rfl ?_
              refine gGet (v := .int (nI pt)) C hK hH 4 17 rfl rfl inX3 (by decide) tw_555 rfl dX3_setting_221 ?_
              refine lv_iconst (v := nI 1) C.x C.b dX3_setting_224 (by decide) ?_
              refine lv_iadd C.x C.b dX3_setting_225 ?_
              refine vt_top (nI_add _ _) ?_
              refine gPut (v := .int (nI (pt + 1))) (ws' := [(in_, .inl (D.1 11, 65, .inl (upd Bin 64 (nI m1)))), (sh, .inl (D.1 11, 65, .inl (upd Bsh 64 (nI 0)))), (so, .inl (D.1 11, 65, .inl (upd Bso 64 (nI (ms o_174))))), (fr, .inl (D.1 11, 65, .inl (upd Bfr 64 (oI (orx s_174 (some 0)))))), (m0, .inr (3, [.ref tm, .ref rgm, .ref mem, .ref bym, .ref in_, .ref so, .ref fr, .ref sh, .ref wo, .ref fe, .ref go, .ref fi, .ref se_, .ref th, .int (nI n), .int pl, .int (nI c_174), .int (nI (pt + 1)), .int (nI hd), .int cyc, .int rds, .int wrs, .int fts, .int (nI thr), .int (bI wcm), .int (bI bcm), .int wd0, .int ab])), (tm, .inl (D.1 11, 40, .inl (fun j => nI (t j))))]) C hK hH 4 17 tyX3 tyX3_ok nmX3 rfl rfl inX3 (by decide) tw_555 rfl rfl rfl (Nat.le_of_ble_eq_true rfl) rfl dX3_setting_226 (fun H locs hH => ?_)
              refine lv_iconst (v := nI 1) C.x C.b dX3_setting_229 (by decide) ?_
              have hH : Hp D A s ([(m0, .inr (3, [.ref tm, .ref rgm, .ref mem, .ref bym, .ref in_, .ref so, .ref fr, .ref sh, .ref wo, .ref fe, .ref go, .ref fi, .ref se_, .ref th, .int (nI n), .int pl, .int (nI c_174), .int (nI (pt + 1)), .int (nI hd), .int cyc, .int rds, .int wrs, .int fts, .int (nI thr), .int (bI wcm), .int (bI bcm), .int wd0, .int ab])), (tm, .inl (D.1 11, 40, .inl (fun j => nI (t j)))), (so, .inl (D.1 11, 65, .inl (upd Bso 64 (nI (ms o_174))))), (fr, .inl (D.1 11, 65, .inl (upd Bfr 64 (oI (orx s_174 (some 0)))))), (in_, .inl (D.1 11, 65, .inl (upd Bin 64 (nI m1)))), (sh, .inl (D.1 11, 65, .inl (upd Bsh 64 (nI 0))))]) H locs := Hp.reo hH [4, 5, 2, 3, 0, 1] rfl 6 rfl (by decide)
              exact rZ C hr (by decide) hH (Or.inl ⟨(c_174, m1, o_174, s_174, 0), by simp only [se, hE, if_neg hm0, hq_174, k_185, k_205, cond_true, cond_false], by have := vl_up hq_174; omega, by omega, by omega, rfl, by cases s_174 <;> rfl⟩) (Nat.le_of_ble_eq_true rfl) (Nat.le_of_ble_eq_true rfl) dX3_setting_230
        · have hH : Hp D A s ([(in_, .inl (D.1 11, 65, .inl (upd Bin 64 (nI m1)))), (sh, .inl (D.1 11, 65, .inl (upd Bsh 64 (nI 0)))), (m0, .inr (3, [.ref tm, .ref rgm, .ref mem, .ref bym, .ref in_, .ref so, .ref fr, .ref sh, .ref wo, .ref fe, .ref go, .ref fi, .ref se_, .ref th, .int (nI n), .int pl, .int (nI a9_174), .int (nI pt), .int (nI hd), .int cyc, .int rds, .int wrs, .int fts, .int (nI thr), .int (bI wcm), .int (bI bcm), .int wd0, .int ab])), (tm, .inl (D.1 11, 40, .inl (fun j => nI (t j)))), (so, .inl (D.1 11, 65, .inl (upd Bso 64 (nI o9_174)))), (fr, .inl (D.1 11, 65, .inl (upd Bfr 64 (oI x9_174))))]) H locs := hH
          refine W.eq (g2 := F0 m 177 ls [.int (nI 0)]) rfl ?_
          refine vn_if_ne (tgt := 182) C.x C.b dX3_setting_177 (by decide) (by omega) (fun q => absurd q (by decide)) (fun _ => ?_)
          refine lv_iconst (v := nI 0) C.x C.b dX3_setting_180 (by decide) ?_
          have hH : Hp D A s ([(m0, .inr (3, [.ref tm, .ref rgm, .ref mem, .ref bym, .ref in_, .ref so, .ref fr, .ref sh, .ref wo, .ref fe, .ref go, .ref fi, .ref se_, .ref th, .int (nI n), .int pl, .int (nI a9_174), .int (nI pt), .int (nI hd), .int cyc, .int rds, .int wrs, .int fts, .int (nI thr), .int (bI wcm), .int (bI bcm), .int wd0, .int ab])), (tm, .inl (D.1 11, 40, .inl (fun j => nI (t j)))), (so, .inl (D.1 11, 65, .inl (upd Bso 64 (nI o9_174)))), (fr, .inl (D.1 11, 65, .inl (upd Bfr 64 (oI x9_174)))), (in_, .inl (D.1 11, 65, .inl (upd Bin 64 (nI m1)))), (sh, .inl (D.1 11, 65, .inl (upd Bsh 64 (nI 0))))]) H locs := Hp.reo hH [2, 3, 4, 5, 0, 1] rfl 6 rfl (by decide)
          exact rZ C hr (by decide) hH (Or.inr ⟨a9_174, pt, m1, o9_174, x9_174, 0, by simp only [se, hE, if_neg hm0, hq_174], by omega, rfl, rfl⟩) (Nat.le_of_ble_eq_true rfl) (Nat.le_of_ble_eq_true rfl) dX3_setting_181
      refine lv_aload_n C.x C.b dX3_setting_8 rfl (lv_at hl 2 rfl) ?_
      refine lv_aload_n C.x C.b dX3_setting_9 rfl (lv_at hl 2 rfl) ?_
      refine kV (As := []) (isC := [0, 1]) (isR := [2, 3, 4, 5]) (wr := [(so, .inl (D.1 11, 65, .inl (upd Bso 64 (nI o0)))), (fr, .inl (D.1 11, 65, .inl (upd Bfr 64 (oI (some 0))))), (in_, .inl (D.1 11, 65, .inl (upd Bin 64 (nI m1)))), (sh, .inl (D.1 11, 65, .inl (upd Bsh 64 (nI 0))))]) C hK hH (m_look l htr D H.size m0 tm rgm mem bym in_ so fr sh wo fe go fi se_ th n pl a1 pt hd cyc rds wrs fts thr wcm bcm wd0 ab t hn (by omega) ht) ⟨rfl, rfl, rfl, rfl, by decide⟩ 0 rfl rfl tw_640 tw_642 ts_23 tw_4 kX3_look ⟨by decide +kernel, by decide +kernel, (by decide +kernel : (parseMethodDescriptor yX3_look.desc).map (fun d => d.parameters.length) = some 0)⟩ ⟨(Nat.le_of_ble_eq_true rfl), (Nat.le_of_ble_eq_true rfl)⟩ hl.1 (Nat.le_of_ble_eq_true rfl) dX3_setting_10 ⟨(Nat.le_of_ble_eq_true rfl), (Nat.le_of_ble_eq_true rfl)⟩ (fun v9 w9 H locs hN hH => ?_) (fun _ _ _ _ _ _ h => False.elim h)
      obtain ⟨rfl, rfl⟩ := hN
      have hH : Hp D A s ([(so, .inl (D.1 11, 65, .inl (upd Bso 64 (nI o0)))), (fr, .inl (D.1 11, 65, .inl (upd Bfr 64 (oI (some 0))))), (in_, .inl (D.1 11, 65, .inl (upd Bin 64 (nI m1)))), (sh, .inl (D.1 11, 65, .inl (upd Bsh 64 (nI 0)))), (m0, .inr (3, [.ref tm, .ref rgm, .ref mem, .ref bym, .ref in_, .ref so, .ref fr, .ref sh, .ref wo, .ref fe, .ref go, .ref fi, .ref se_, .ref th, .int (nI n), .int pl, .int (nI a1), .int (nI pt), .int (nI hd), .int cyc, .int rds, .int wrs, .int fts, .int (nI thr), .int (bI wcm), .int (bI bcm), .int wd0, .int ab])), (tm, .inl (D.1 11, 40, .inl (fun j => nI (t j))))]) H locs := hH
      refine W.eq (g2 := F0 m 13 ls [.int (nI (lk t n a1)), .ref m0]) rfl ?_
      refine kV (As := [.int (nI (lk t n a1))]) (isC := [4]) (isR := [0, 1, 2, 3, 5]) (wr := [(so, .inl (D.1 11, 65, .inl (upd Bso 64 (nI o0)))), (fr, .inl (D.1 11, 65, .inl (upd Bfr 64 (oI (some 0))))), (in_, .inl (D.1 11, 65, .inl (upd Bin 64 (nI m1)))), (sh, .inl (D.1 11, 65, .inl (upd Bsh 64 (nI 0)))), (tm, .inl (D.1 11, 40, .inl (fun j => nI (t j))))]) C hK hH (m_settable l htr D H.size m0 tm rgm mem bym in_ so fr sh wo fe go fi se_ th n pl a1 pt hd cyc rds wrs fts thr wcm bcm wd0 ab (lk t n a1) (lk_lt ht)) ⟨rfl, rfl, rfl, rfl, by decide⟩ 4 rfl rfl tw_644 tw_646 ts_24 tw_4 kX3_settable ⟨by decide +kernel, by decide +kernel, (by decide +kernel : (parseMethodDescriptor yX3_settable.desc).map (fun d => d.parameters.length) = some 1)⟩ ⟨(Nat.le_of_ble_eq_true rfl), (Nat.le_of_ble_eq_true rfl)⟩ hl.1 (Nat.le_of_ble_eq_true rfl) dX3_setting_13 ⟨(Nat.le_of_ble_eq_true rfl), (Nat.le_of_ble_eq_true rfl)⟩ (fun v9 w9 H locs hN hH => ?_) (fun _ _ _ _ _ _ h => False.elim h)
      obtain ⟨rfl, rfl⟩ := hN
      have hH : Hp D A s ([(so, .inl (D.1 11, 65, .inl (upd Bso 64 (nI o0)))), (fr, .inl (D.1 11, 65, .inl (upd Bfr 64 (oI (some 0))))), (in_, .inl (D.1 11, 65, .inl (upd Bin 64 (nI m1)))), (sh, .inl (D.1 11, 65, .inl (upd Bsh 64 (nI 0)))), (tm, .inl (D.1 11, 40, .inl (fun j => nI (t j)))), (m0, .inr (3, [.ref tm, .ref rgm, .ref mem, .ref bym, .ref in_, .ref so, .ref fr, .ref sh, .ref wo, .ref fe, .ref go, .ref fi, .ref se_, .ref th, .int (nI n), .int pl, .int (nI a1), .int (nI pt), .int (nI hd), .int cyc, .int rds, .int wrs, .int fts, .int (nI thr), .int (bI wcm), .int (bI bcm), .int wd0, .int ab]))]) H locs := hH
      refine W.eq (g2 := F0 m 16 ls [.int (oI (stI (lk t n a1)))]) rfl ?_
      cases hx_16 : stI (lk t n a1) with
      | none =>
        refine vt_top (y := -1) rfl ?_
        refine lv_istore_n (lv' := [(3, .int (-1)), (1, .int (nI y)), (2, .int (nI 1)), (0, .ref m0)]) C.x C.b dX3_setting_16 rfl hl (by decide) rfl (fun ls hl => ?_)
        refine lv_iload_n C.x C.b dX3_setting_17 rfl (lv_at hl 0 rfl) ?_
        refine lv_if_lt (tgt := 39) C.x C.b dX3_setting_18 (by decide) (fun _ => ?_) (fun q => absurd (by decide) q)
        refine lv_iconst (v := nI 0) C.x C.b dX3_setting_39 (by decide) ?_
        refine lv_istore (lv' := [(4, .int (nI 0)), (3, .int (-1)), (1, .int (nI y)), (2, .int (nI 1)), (0, .ref m0)]) C.x C.b dX3_setting_40 hl (by decide) rfl (fun ls hl => ?_)
        refine lv_aload_n C.x C.b dX3_setting_42 rfl (lv_at hl 4 rfl) ?_
        refine gGet (v := .int (nI a1)) C hK hH 5 16 rfl rfl inX3 (by decide) tw_554 rfl dX3_setting_43 ?_
        refine lv_iconst (v := nI 1) C.x C.b dX3_setting_46 (by decide) ?_
        refine lv_iadd C.x C.b dX3_setting_47 ?_
        refine vt_top (nI_add _ _) ?_
        refine lv_aload_n C.x C.b dX3_setting_48 rfl (lv_at hl 4 rfl) ?_
        refine gGet (v := .int (nI n)) C hK hH 5 14 rfl rfl inX3 (by decide) tw_552 rfl dX3_setting_49 ?_
        refine vn_icmp_ge (tgt := 75) C.x C.b dX3_setting_52 (by decide) (by omega) (by omega) (fun c_52 => ?_) (fun c_52 => ?_)
        · refine lv_iconst (v := nI 0) C.x C.b dX3_setting_75 (by decide) ?_
          refine lv_istore (lv' := [(5, .int (nI 0)), (4, .int (nI 0)), (3, .int (-1)), (1, .int (nI y)), (2, .int (nI 1)), (0, .ref m0)]) C.x C.b dX3_setting_76 hl (by decide) rfl (fun ls hl => ?_)
          refine lv_iload_n C.x C.b dX3_setting_78 rfl (lv_at hl 2 rfl) ?_
          refine lv_if_lt (tgt := 96) C.x C.b dX3_setting_79 (by decide) (fun _ => ?_) (fun q => absurd (by decide) q)
          refine lv_iconst (v := nI 0) C.x C.b dX3_setting_96 (by decide) ?_
          refine lv_istore (lv' := [(6, .int (nI 0)), (5, .int (nI 0)), (4, .int (nI 0)), (3, .int (-1)), (1, .int (nI y)), (2, .int (nI 1)), (0, .ref m0)]) C.x C.b dX3_setting_97 hl (by decide) rfl (fun ls hl => ?_)
          refine lv_iload_n C.x C.b dX3_setting_99 rfl (lv_at hl 4 rfl) ?_
          refine vn_if_ne (tgt := 110) C.x C.b dX3_setting_100 (by decide) (by omega) (fun c_100 => ?_) (fun c_100 => ?_)
          · refine lv_iload C.x C.b dX3_setting_110 (lv_at hl 0 rfl) ?_
            refine vn_if_eq (tgt := 168) C.x C.b dX3_setting_112 (by decide) (by omega) (fun _ => ?_) (fun q => absurd q (by decide))
            refine lv_iconst (v := nI 0) C.x C.b dX3_setting_168 (by decide) ?_
            refine lv_istore_n (lv' := [(2, .int (nI 0)), (6, .int (nI 0)), (5, .int (nI 0)), (4, .int (nI 0)), (3, .int (-1)), (1, .int (nI y)), (0, .ref m0)]) C.x C.b dX3_setting_169 rfl hl (by decide) rfl (fun ls hl => ?_)
            refine lv_goto (tgt := 4) C.x C.b dX3_setting_170 (by decide) ?_
            refine lv_iload_n C.x C.b dX3_setting_4 rfl (lv_at hl 0 rfl) ?_
            refine vn_if_eq (tgt := 173) C.x C.b dX3_setting_5 (by decide) (by omega) (fun _ => ?_) (fun q => absurd q (by decide))
            have hH : Hp D A s ([(m0, .inr (3, [.ref tm, .ref rgm, .ref mem, .ref bym, .ref in_, .ref so, .ref fr, .ref sh, .ref wo, .ref fe, .ref go, .ref fi, .ref se_, .ref th, .int (nI n), .int pl, .int (nI a1), .int (nI pt), .int (nI hd), .int cyc, .int rds, .int wrs, .int fts, .int (nI thr), .int (bI wcm), .int (bI bcm), .int wd0, .int ab])), (tm, .inl (D.1 11, 40, .inl (fun j => nI (t j)))), (so, .inl (D.1 11, 65, .inl (upd Bso 64 (nI o0)))), (fr, .inl (D.1 11, 65, .inl (upd Bfr 64 (oI (some 0))))), (in_, .inl (D.1 11, 65, .inl (upd Bin 64 (nI m1)))), (sh, .inl (D.1 11, 65, .inl (upd Bsh 64 (nI 0))))]) H locs := Hp.reo hH [5, 4, 0, 1, 2, 3] rfl 6 rfl (by decide)
            exact K_173 (by rw [← hT]; exact tl_stop (by first | exact Or.inl (by omega) | exact Or.inr (ta_stI hx_16) | exact Or.inr (ta_bad hy2 (fun ⟨q1, q2, q3⟩ => by first | (rw [c_32] at q2; exact absurd q2 (by decide)) | (rcases q3 with q | q | q <;> first | exact (hnz (by omega)).1 q | omega | (have h1 := tk_lt q; have h2 := tk_eq q; omega)))))) (hnz (by omega)).1 (hnz (by omega)).2 _ _ hH ls (lv_sub hl [6] rfl)
          · refine lv_iload C.x C.b dX3_setting_103 (lv_at hl 0 rfl) ?_
            refine vn_if_ne (tgt := 110) C.x C.b dX3_setting_105 (by decide) (by omega) (fun q => absurd q (by decide)) (fun _ => ?_)
            exfalso
            obtain ⟨e1, e2⟩ := hz c_100
            subst e1
            subst e2
            first | exact h0 hx_16 | (simp at c_32; done) | omega
        · refine lv_aload_n C.x C.b dX3_setting_55 rfl (lv_at hl 4 rfl) ?_
          refine gGet (v := .ref tm) C hK hH 5 0 rfl rfl inX3 (by decide) tw_538 rfl dX3_setting_56 ?_
          refine lv_aload_n C.x C.b dX3_setting_59 rfl (lv_at hl 4 rfl) ?_
          refine gGet (v := .int (nI a1)) C hK hH 5 16 rfl rfl inX3 (by decide) tw_554 rfl dX3_setting_60 ?_
          refine lv_iconst (v := nI 1) C.x C.b dX3_setting_63 (by decide) ?_
          refine lv_iadd C.x C.b dX3_setting_64 ?_
          refine vt_top (nI_add _ _) ?_
          have hf_65 := ht (a1 + 1)
          refine gIald (v := (nI (t (a1 + 1)))) C hK hH 4 rfl (by omega) (by decide) dX3_setting_65 rfl ?_
          refine lv_bipush (v := nI 61) C.x C.b dX3_setting_66 (by decide) ?_
          refine vn_icmp_ne (tgt := 75) C.x C.b dX3_setting_68 (by decide) (by omega) (by omega) (fun c_68 => ?_) (fun c_68 => ?_)
          · refine lv_iconst (v := nI 0) C.x C.b dX3_setting_75 (by decide) ?_
            refine lv_istore (lv' := [(5, .int (nI 0)), (4, .int (nI 0)), (3, .int (-1)), (1, .int (nI y)), (2, .int (nI 1)), (0, .ref m0)]) C.x C.b dX3_setting_76 hl (by decide) rfl (fun ls hl => ?_)
            refine lv_iload_n C.x C.b dX3_setting_78 rfl (lv_at hl 2 rfl) ?_
            refine lv_if_lt (tgt := 96) C.x C.b dX3_setting_79 (by decide) (fun _ => ?_) (fun q => absurd (by decide) q)
            refine lv_iconst (v := nI 0) C.x C.b dX3_setting_96 (by decide) ?_
            refine lv_istore (lv' := [(6, .int (nI 0)), (5, .int (nI 0)), (4, .int (nI 0)), (3, .int (-1)), (1, .int (nI y)), (2, .int (nI 1)), (0, .ref m0)]) C.x C.b dX3_setting_97 hl (by decide) rfl (fun ls hl => ?_)
            refine lv_iload_n C.x C.b dX3_setting_99 rfl (lv_at hl 4 rfl) ?_
            refine vn_if_ne (tgt := 110) C.x C.b dX3_setting_100 (by decide) (by omega) (fun c_100 => ?_) (fun c_100 => ?_)
            · refine lv_iload C.x C.b dX3_setting_110 (lv_at hl 0 rfl) ?_
              refine vn_if_eq (tgt := 168) C.x C.b dX3_setting_112 (by decide) (by omega) (fun _ => ?_) (fun q => absurd q (by decide))
              refine lv_iconst (v := nI 0) C.x C.b dX3_setting_168 (by decide) ?_
              refine lv_istore_n (lv' := [(2, .int (nI 0)), (6, .int (nI 0)), (5, .int (nI 0)), (4, .int (nI 0)), (3, .int (-1)), (1, .int (nI y)), (0, .ref m0)]) C.x C.b dX3_setting_169 rfl hl (by decide) rfl (fun ls hl => ?_)
              refine lv_goto (tgt := 4) C.x C.b dX3_setting_170 (by decide) ?_
              refine lv_iload_n C.x C.b dX3_setting_4 rfl (lv_at hl 0 rfl) ?_
              refine vn_if_eq (tgt := 173) C.x C.b dX3_setting_5 (by decide) (by omega) (fun _ => ?_) (fun q => absurd q (by decide))
              have hH : Hp D A s ([(m0, .inr (3, [.ref tm, .ref rgm, .ref mem, .ref bym, .ref in_, .ref so, .ref fr, .ref sh, .ref wo, .ref fe, .ref go, .ref fi, .ref se_, .ref th, .int (nI n), .int pl, .int (nI a1), .int (nI pt), .int (nI hd), .int cyc, .int rds, .int wrs, .int fts, .int (nI thr), .int (bI wcm), .int (bI bcm), .int wd0, .int ab])), (tm, .inl (D.1 11, 40, .inl (fun j => nI (t j)))), (so, .inl (D.1 11, 65, .inl (upd Bso 64 (nI o0)))), (fr, .inl (D.1 11, 65, .inl (upd Bfr 64 (oI (some 0))))), (in_, .inl (D.1 11, 65, .inl (upd Bin 64 (nI m1)))), (sh, .inl (D.1 11, 65, .inl (upd Bsh 64 (nI 0))))]) H locs := Hp.reo hH [5, 4, 0, 1, 2, 3] rfl 6 rfl (by decide)
              exact K_173 (by rw [← hT]; exact tl_stop (by first | exact Or.inl (by omega) | exact Or.inr (ta_stI hx_16) | exact Or.inr (ta_bad hy2 (fun ⟨q1, q2, q3⟩ => by first | (rw [c_32] at q2; exact absurd q2 (by decide)) | (rcases q3 with q | q | q <;> first | exact (hnz (by omega)).1 q | omega | (have h1 := tk_lt q; have h2 := tk_eq q; omega)))))) (hnz (by omega)).1 (hnz (by omega)).2 _ _ hH ls (lv_sub hl [6] rfl)
            · refine lv_iload C.x C.b dX3_setting_103 (lv_at hl 0 rfl) ?_
              refine vn_if_ne (tgt := 110) C.x C.b dX3_setting_105 (by decide) (by omega) (fun q => absurd q (by decide)) (fun _ => ?_)
              exfalso
              obtain ⟨e1, e2⟩ := hz c_100
              subst e1
              subst e2
              first | exact h0 hx_16 | (simp at c_32; done) | omega
          · refine lv_iconst (v := nI 1) C.x C.b dX3_setting_71 (by decide) ?_
            refine lv_goto (tgt := 76) C.x C.b dX3_setting_72 (by decide) ?_
            refine lv_istore (lv' := [(5, .int (nI 1)), (4, .int (nI 0)), (3, .int (-1)), (1, .int (nI y)), (2, .int (nI 1)), (0, .ref m0)]) C.x C.b dX3_setting_76 hl (by decide) rfl (fun ls hl => ?_)
            refine lv_iload_n C.x C.b dX3_setting_78 rfl (lv_at hl 2 rfl) ?_
            refine lv_if_lt (tgt := 96) C.x C.b dX3_setting_79 (by decide) (fun _ => ?_) (fun q => absurd (by decide) q)
            refine lv_iconst (v := nI 0) C.x C.b dX3_setting_96 (by decide) ?_
            refine lv_istore (lv' := [(6, .int (nI 0)), (5, .int (nI 1)), (4, .int (nI 0)), (3, .int (-1)), (1, .int (nI y)), (2, .int (nI 1)), (0, .ref m0)]) C.x C.b dX3_setting_97 hl (by decide) rfl (fun ls hl => ?_)
            refine lv_iload_n C.x C.b dX3_setting_99 rfl (lv_at hl 4 rfl) ?_
            refine vn_if_ne (tgt := 110) C.x C.b dX3_setting_100 (by decide) (by omega) (fun c_100 => ?_) (fun c_100 => ?_)
            · refine lv_iload C.x C.b dX3_setting_110 (lv_at hl 0 rfl) ?_
              refine vn_if_eq (tgt := 168) C.x C.b dX3_setting_112 (by decide) (by omega) (fun _ => ?_) (fun q => absurd q (by decide))
              refine lv_iconst (v := nI 0) C.x C.b dX3_setting_168 (by decide) ?_
              refine lv_istore_n (lv' := [(2, .int (nI 0)), (6, .int (nI 0)), (5, .int (nI 1)), (4, .int (nI 0)), (3, .int (-1)), (1, .int (nI y)), (0, .ref m0)]) C.x C.b dX3_setting_169 rfl hl (by decide) rfl (fun ls hl => ?_)
              refine lv_goto (tgt := 4) C.x C.b dX3_setting_170 (by decide) ?_
              refine lv_iload_n C.x C.b dX3_setting_4 rfl (lv_at hl 0 rfl) ?_
              refine vn_if_eq (tgt := 173) C.x C.b dX3_setting_5 (by decide) (by omega) (fun _ => ?_) (fun q => absurd q (by decide))
              have hH : Hp D A s ([(m0, .inr (3, [.ref tm, .ref rgm, .ref mem, .ref bym, .ref in_, .ref so, .ref fr, .ref sh, .ref wo, .ref fe, .ref go, .ref fi, .ref se_, .ref th, .int (nI n), .int pl, .int (nI a1), .int (nI pt), .int (nI hd), .int cyc, .int rds, .int wrs, .int fts, .int (nI thr), .int (bI wcm), .int (bI bcm), .int wd0, .int ab])), (tm, .inl (D.1 11, 40, .inl (fun j => nI (t j)))), (so, .inl (D.1 11, 65, .inl (upd Bso 64 (nI o0)))), (fr, .inl (D.1 11, 65, .inl (upd Bfr 64 (oI (some 0))))), (in_, .inl (D.1 11, 65, .inl (upd Bin 64 (nI m1)))), (sh, .inl (D.1 11, 65, .inl (upd Bsh 64 (nI 0))))]) H locs := Hp.reo hH [5, 4, 0, 1, 2, 3] rfl 6 rfl (by decide)
              exact K_173 (by rw [← hT]; exact tl_stop (by first | exact Or.inl (by omega) | exact Or.inr (ta_stI hx_16) | exact Or.inr (ta_bad hy2 (fun ⟨q1, q2, q3⟩ => by first | (rw [c_32] at q2; exact absurd q2 (by decide)) | (rcases q3 with q | q | q <;> first | exact (hnz (by omega)).1 q | omega | (have h1 := tk_lt q; have h2 := tk_eq q; omega)))))) (hnz (by omega)).1 (hnz (by omega)).2 _ _ hH ls (lv_sub hl [6] rfl)
            · refine lv_iload C.x C.b dX3_setting_103 (lv_at hl 0 rfl) ?_
              refine vn_if_ne (tgt := 110) C.x C.b dX3_setting_105 (by decide) (by omega) (fun q => absurd q (by decide)) (fun _ => ?_)
              exfalso
              obtain ⟨e1, e2⟩ := hz c_100
              subst e1
              subst e2
              first | exact h0 hx_16 | (simp at c_32; done) | omega
      | some y_16 =>
        have hy_16 := stI_ix hx_16
        refine vt_top (y := nI y_16) rfl ?_
        refine lv_istore_n (lv' := [(3, .int (nI y_16)), (1, .int (nI y)), (2, .int (nI 1)), (0, .ref m0)]) C.x C.b dX3_setting_16 rfl hl (by decide) rfl (fun ls hl => ?_)
        obtain ⟨hy1, hy2, hy3⟩ := hy_16
        refine lv_iload_n C.x C.b dX3_setting_17 rfl (lv_at hl 0 rfl) ?_
        refine vn_if_lt (tgt := 39) C.x C.b dX3_setting_18 (by decide) (by omega) ?_
        refine lv_aload_n C.x C.b dX3_setting_21 rfl (lv_at hl 3 rfl) ?_
        refine gGet (v := .ref in_) C hK hH 5 4 rfl rfl inX3 (by decide) tw_542 rfl dX3_setting_22 ?_
        refine lv_bipush (v := nI 64) C.x C.b dX3_setting_25 (by decide) ?_
        refine gIald (v := (nI m1)) C hK hH 2 rfl (by omega) (by decide) dX3_setting_27 rfl ?_
        refine lv_iload_n C.x C.b dX3_setting_28 rfl (lv_at hl 0 rfl) ?_
        refine lv_ishr C.x C.b dX3_setting_29 ?_
        refine lv_iconst (v := nI 1) C.x C.b dX3_setting_30 (by decide) ?_
        refine lv_iand C.x C.b dX3_setting_31 ?_
        refine vt_top (y := bI (m1.testBit y_16)) (bitOf (by omega) (by omega)) ?_
        refine vb_if_eq (tgt := 39) C.x C.b dX3_setting_32 (by decide) (fun c_32 => ?_) (fun c_32 => ?_)
        · refine lv_iconst (v := nI 0) C.x C.b dX3_setting_39 (by decide) ?_
          refine lv_istore (lv' := [(4, .int (nI 0)), (3, .int (nI y_16)), (1, .int (nI y)), (2, .int (nI 1)), (0, .ref m0)]) C.x C.b dX3_setting_40 hl (by decide) rfl (fun ls hl => ?_)
          refine lv_aload_n C.x C.b dX3_setting_42 rfl (lv_at hl 4 rfl) ?_
          refine gGet (v := .int (nI a1)) C hK hH 5 16 rfl rfl inX3 (by decide) tw_554 rfl dX3_setting_43 ?_
          refine lv_iconst (v := nI 1) C.x C.b dX3_setting_46 (by decide) ?_
          refine lv_iadd C.x C.b dX3_setting_47 ?_
          refine vt_top (nI_add _ _) ?_
          refine lv_aload_n C.x C.b dX3_setting_48 rfl (lv_at hl 4 rfl) ?_
          refine gGet (v := .int (nI n)) C hK hH 5 14 rfl rfl inX3 (by decide) tw_552 rfl dX3_setting_49 ?_
          refine vn_icmp_ge (tgt := 75) C.x C.b dX3_setting_52 (by decide) (by omega) (by omega) (fun c_52 => ?_) (fun c_52 => ?_)
          · refine lv_iconst (v := nI 0) C.x C.b dX3_setting_75 (by decide) ?_
            refine lv_istore (lv' := [(5, .int (nI 0)), (4, .int (nI 0)), (3, .int (nI y_16)), (1, .int (nI y)), (2, .int (nI 1)), (0, .ref m0)]) C.x C.b dX3_setting_76 hl (by decide) rfl (fun ls hl => ?_)
            refine lv_iload_n C.x C.b dX3_setting_78 rfl (lv_at hl 2 rfl) ?_
            refine vn_if_lt (tgt := 96) C.x C.b dX3_setting_79 (by decide) (by omega) ?_
            refine lv_iload C.x C.b dX3_setting_82 (lv_at hl 1 rfl) ?_
            refine vn_if_ne (tgt := 96) C.x C.b dX3_setting_84 (by decide) (by omega) (fun q => absurd q (by decide)) (fun _ => ?_)
            refine lv_iload_n C.x C.b dX3_setting_87 rfl (lv_at hl 3 rfl) ?_
            refine lv_iconst (v := nI 4) C.x C.b dX3_setting_88 (by decide) ?_
            refine vn_icmp_ge (tgt := 96) C.x C.b dX3_setting_89 (by decide) (by omega) (by omega) (fun c_89 => ?_) (fun c_89 => ?_)
            · refine lv_iconst (v := nI 0) C.x C.b dX3_setting_96 (by decide) ?_
              refine lv_istore (lv' := [(6, .int (nI 0)), (5, .int (nI 0)), (4, .int (nI 0)), (3, .int (nI y_16)), (1, .int (nI y)), (2, .int (nI 1)), (0, .ref m0)]) C.x C.b dX3_setting_97 hl (by decide) rfl (fun ls hl => ?_)
              refine lv_iload_n C.x C.b dX3_setting_99 rfl (lv_at hl 4 rfl) ?_
              refine vn_if_ne (tgt := 110) C.x C.b dX3_setting_100 (by decide) (by omega) (fun c_100 => ?_) (fun c_100 => ?_)
              · refine lv_iload C.x C.b dX3_setting_110 (lv_at hl 0 rfl) ?_
                refine vn_if_eq (tgt := 168) C.x C.b dX3_setting_112 (by decide) (by omega) (fun _ => ?_) (fun q => absurd q (by decide))
                refine lv_iconst (v := nI 0) C.x C.b dX3_setting_168 (by decide) ?_
                refine lv_istore_n (lv' := [(2, .int (nI 0)), (6, .int (nI 0)), (5, .int (nI 0)), (4, .int (nI 0)), (3, .int (nI y_16)), (1, .int (nI y)), (0, .ref m0)]) C.x C.b dX3_setting_169 rfl hl (by decide) rfl (fun ls hl => ?_)
                refine lv_goto (tgt := 4) C.x C.b dX3_setting_170 (by decide) ?_
                refine lv_iload_n C.x C.b dX3_setting_4 rfl (lv_at hl 0 rfl) ?_
                refine vn_if_eq (tgt := 173) C.x C.b dX3_setting_5 (by decide) (by omega) (fun _ => ?_) (fun q => absurd q (by decide))
                have hH : Hp D A s ([(m0, .inr (3, [.ref tm, .ref rgm, .ref mem, .ref bym, .ref in_, .ref so, .ref fr, .ref sh, .ref wo, .ref fe, .ref go, .ref fi, .ref se_, .ref th, .int (nI n), .int pl, .int (nI a1), .int (nI pt), .int (nI hd), .int cyc, .int rds, .int wrs, .int fts, .int (nI thr), .int (bI wcm), .int (bI bcm), .int wd0, .int ab])), (tm, .inl (D.1 11, 40, .inl (fun j => nI (t j)))), (so, .inl (D.1 11, 65, .inl (upd Bso 64 (nI o0)))), (fr, .inl (D.1 11, 65, .inl (upd Bfr 64 (oI (some 0))))), (in_, .inl (D.1 11, 65, .inl (upd Bin 64 (nI m1)))), (sh, .inl (D.1 11, 65, .inl (upd Bsh 64 (nI 0))))]) H locs := Hp.reo hH [5, 4, 0, 1, 2, 3] rfl 6 rfl (by decide)
                exact K_173 (by rw [← hT]; exact tl_stop (by first | exact Or.inl (by omega) | exact Or.inr (ta_stI hx_16) | exact Or.inr (ta_bad hy2 (fun ⟨q1, q2, q3⟩ => by first | (rw [c_32] at q2; exact absurd q2 (by decide)) | (rcases q3 with q | q | q <;> first | exact (hnz (by omega)).1 q | omega | (have h1 := tk_lt q; have h2 := tk_eq q; omega)))))) (hnz (by omega)).1 (hnz (by omega)).2 _ _ hH ls (lv_sub hl [6] rfl)
              · refine lv_iload C.x C.b dX3_setting_103 (lv_at hl 0 rfl) ?_
                refine vn_if_ne (tgt := 110) C.x C.b dX3_setting_105 (by decide) (by omega) (fun q => absurd q (by decide)) (fun _ => ?_)
                exfalso
                obtain ⟨e1, e2⟩ := hz c_100
                subst e1
                subst e2
                first | exact h0 hx_16 | (simp at c_32; done) | omega
            · refine lv_iconst (v := nI 1) C.x C.b dX3_setting_92 (by decide) ?_
              refine lv_goto (tgt := 97) C.x C.b dX3_setting_93 (by decide) ?_
              refine lv_istore (lv' := [(6, .int (nI 1)), (5, .int (nI 0)), (4, .int (nI 0)), (3, .int (nI y_16)), (1, .int (nI y)), (2, .int (nI 1)), (0, .ref m0)]) C.x C.b dX3_setting_97 hl (by decide) rfl (fun ls hl => ?_)
              refine lv_iload_n C.x C.b dX3_setting_99 rfl (lv_at hl 4 rfl) ?_
              refine vn_if_ne (tgt := 110) C.x C.b dX3_setting_100 (by decide) (by omega) (fun c_100 => ?_) (fun c_100 => ?_)
              · refine lv_iload C.x C.b dX3_setting_110 (lv_at hl 0 rfl) ?_
                refine vn_if_eq (tgt := 168) C.x C.b dX3_setting_112 (by decide) (by omega) (fun q => absurd q (by decide)) (fun _ => ?_)
                refine lv_iload C.x C.b dX3_setting_115 (lv_at hl 1 rfl) ?_
                refine vn_if_ne (tgt := 128) C.x C.b dX3_setting_117 (by decide) (by omega) (fun q => absurd q (by decide)) (fun _ => ?_)
                refine lv_iload_n C.x C.b dX3_setting_120 rfl (lv_at hl 4 rfl) ?_
                refine vn_if_eq (tgt := 128) C.x C.b dX3_setting_121 (by decide) (by omega) (fun c_121 => ?_) (fun c_121 => ?_)
                · have hta : ta t n a1 m1 = some y_16 := ta_some hy1 hy2 hy3 c_32 (by first | exact Or.inl (hz (by omega)).2 | exact Or.inr (Or.inl (by omega)) | exact Or.inr (Or.inr (tk_t (by omega) (by omega))))
                  refine lv_aload_n C.x C.b dX3_setting_128 rfl (lv_at hl 6 rfl) ?_
                  refine lv_dup C.x C.b dX3_setting_129 rfl ?_
                  refine gGet (v := .int (nI a1)) C hK hH 5 16 rfl rfl inX3 (by decide) tw_554 rfl dX3_setting_130 ?_
                  refine lv_iconst (v := nI 1) C.x C.b dX3_setting_133 (by decide) ?_
                  refine lv_iadd C.x C.b dX3_setting_134 ?_
                  refine vt_top (nI_add _ _) ?_
                  refine gPut (v := .int (nI (a1 + 1))) (ws' := [(so, .inl (D.1 11, 65, .inl (upd Bso 64 (nI o0)))), (fr, .inl (D.1 11, 65, .inl (upd Bfr 64 (oI (some 0))))), (in_, .inl (D.1 11, 65, .inl (upd Bin 64 (nI m1)))), (sh, .inl (D.1 11, 65, .inl (upd Bsh 64 (nI 0)))), (tm, .inl (D.1 11, 40, .inl (fun j => nI (t j)))), (m0, .inr (3, [.ref tm, .ref rgm, .ref mem, .ref bym, .ref in_, .ref so, .ref fr, .ref sh, .ref wo, .ref fe, .ref go, .ref fi, .ref se_, .ref th, .int (nI n), .int pl, .int (nI (a1 + 1)), .int (nI pt), .int (nI hd), .int cyc, .int rds, .int wrs, .int fts, .int (nI thr), .int (bI wcm), .int (bI bcm), .int wd0, .int ab]))]) C hK hH 5 16 tyX3 tyX3_ok nmX3 rfl rfl inX3 (by decide) tw_554 rfl rfl rfl (Nat.le_of_ble_eq_true rfl) rfl dX3_setting_135 (fun H locs hH => ?_)
                  refine lv_aload_n C.x C.b dX3_setting_138 rfl (lv_at hl 6 rfl) ?_
                  refine lv_bipush (v := nI 61) C.x C.b dX3_setting_139 (by decide) ?_
                  refine kV (As := [.int (nI 61)]) (isC := [5, 4]) (isR := [0, 1, 2, 3]) (wr := [(so, .inl (D.1 11, 65, .inl (upd Bso 64 (nI o0)))), (fr, .inl (D.1 11, 65, .inl (upd Bfr 64 (oI (some 0))))), (in_, .inl (D.1 11, 65, .inl (upd Bin 64 (nI m1)))), (sh, .inl (D.1 11, 65, .inl (upd Bsh 64 (nI 0))))]) C hK hH (m_has l htr D H.size m0 tm rgm mem bym in_ so fr sh wo fe go fi se_ th n pl (a1 + 1) pt hd cyc rds wrs fts thr wcm bcm wd0 ab t 61 hn (by omega) ht (by omega)) ⟨rfl, rfl, rfl, rfl, by decide⟩ 5 rfl rfl tw_652 tw_654 ts_26 tw_4 kX3_has ⟨by decide +kernel, by decide +kernel, (by decide +kernel : (parseMethodDescriptor yX3_has.desc).map (fun d => d.parameters.length) = some 1)⟩ ⟨(Nat.le_of_ble_eq_true rfl), (Nat.le_of_ble_eq_true rfl)⟩ hl.1 (Nat.le_of_ble_eq_true rfl) dX3_setting_141 ⟨(Nat.le_of_ble_eq_true rfl), (Nat.le_of_ble_eq_true rfl)⟩ (fun v9 w9 H locs hN hH => ?_) (fun _ _ _ _ _ _ h => False.elim h)
                  rcases hN with ⟨k_141, kl_141, rfl, rfl⟩ | ⟨k_141, rfl, rfl⟩
                  · have hH : Hp D A s ([(so, .inl (D.1 11, 65, .inl (upd Bso 64 (nI o0)))), (fr, .inl (D.1 11, 65, .inl (upd Bfr 64 (oI (some 0))))), (in_, .inl (D.1 11, 65, .inl (upd Bin 64 (nI m1)))), (sh, .inl (D.1 11, 65, .inl (upd Bsh 64 (nI 0)))), (m0, .inr (3, [.ref tm, .ref rgm, .ref mem, .ref bym, .ref in_, .ref so, .ref fr, .ref sh, .ref wo, .ref fe, .ref go, .ref fi, .ref se_, .ref th, .int (nI n), .int pl, .int (nI (a1 + 1 + 1)), .int (nI pt), .int (nI hd), .int cyc, .int rds, .int wrs, .int fts, .int (nI thr), .int (bI wcm), .int (bI bcm), .int wd0, .int ab])), (tm, .inl (D.1 11, 40, .inl (fun j => nI (t j))))]) H locs := hH
                    refine W.eq (g2 := F0 m 144 ls [.int (nI 1)]) rfl ?_
                    refine vn_if_ne (tgt := 149) C.x C.b dX3_setting_144 (by decide) (by omega) (fun _ => ?_) (fun q => absurd q (by decide))
                    refine lv_aload_n C.x C.b dX3_setting_149 rfl (lv_at hl 6 rfl) ?_
                    refine gGet (v := .ref in_) C hK hH 4 4 rfl rfl inX3 (by decide) tw_542 rfl dX3_setting_150 ?_
                    refine lv_bipush (v := nI 64) C.x C.b dX3_setting_153 (by decide) ?_
                    refine lv_dup2_11 C.x C.b dX3_setting_155 rfl rfl ?_
                    refine gIald (v := (nI m1)) C hK hH 2 rfl (by omega) (by decide) dX3_setting_156 rfl ?_
                    refine lv_iconst (v := nI 1) C.x C.b dX3_setting_157 (by decide) ?_
                    refine lv_iload_n C.x C.b dX3_setting_158 rfl (lv_at hl 3 rfl) ?_
                    refine lv_ishl C.x C.b dX3_setting_159 ?_
                    refine lv_ior C.x C.b dX3_setting_160 ?_
                    refine vt_top (y := nI (m1 ||| 2 ^ y_16)) (orbit (by omega)) ?_
                    refine gIast (f' := upd Bin 64 (nI (m1 ||| 2 ^ y_16))) (ws' := [(so, .inl (D.1 11, 65, .inl (upd Bso 64 (nI o0)))), (fr, .inl (D.1 11, 65, .inl (upd Bfr 64 (oI (some 0))))), (in_, .inl (D.1 11, 65, .inl (upd Bin 64 (nI (m1 ||| 2 ^ y_16))))), (sh, .inl (D.1 11, 65, .inl (upd Bsh 64 (nI 0)))), (m0, .inr (3, [.ref tm, .ref rgm, .ref mem, .ref bym, .ref in_, .ref so, .ref fr, .ref sh, .ref wo, .ref fe, .ref go, .ref fi, .ref se_, .ref th, .int (nI n), .int pl, .int (nI (a1 + 1 + 1)), .int (nI pt), .int (nI hd), .int cyc, .int rds, .int wrs, .int fts, .int (nI thr), .int (bI wcm), .int (bI bcm), .int wd0, .int ab])), (tm, .inl (D.1 11, 40, .inl (fun j => nI (t j))))]) C hK hH 2 rfl (by omega) (by decide) (upd_upd _ _ _ _) rfl dX3_setting_161 (fun H locs hH => ?_)
                    refine lv_iinc (v := (nI (y + 1))) (lv' := [(1, .int (nI (y + 1))), (6, .int (nI 1)), (5, .int (nI 0)), (4, .int (nI 0)), (3, .int (nI y_16)), (2, .int (nI 1)), (0, .ref m0)]) C.x C.b dX3_setting_162 hl (k := 4) rfl (by rw [show Int32.ofInt 1 = nI 1 from by decide, nI_add]) (by decide) rfl (fun ls hl => ?_)
                    refine lv_goto (tgt := 170) C.x C.b dX3_setting_165 (by decide) ?_
                    refine lv_goto (tgt := 4) C.x C.b dX3_setting_170 (by decide) ?_
                    have hH : Hp D A s ([(m0, .inr (3, [.ref tm, .ref rgm, .ref mem, .ref bym, .ref in_, .ref so, .ref fr, .ref sh, .ref wo, .ref fe, .ref go, .ref fi, .ref se_, .ref th, .int (nI n), .int pl, .int (nI (a1 + 1 + 1)), .int (nI pt), .int (nI hd), .int cyc, .int rds, .int wrs, .int fts, .int (nI thr), .int (bI wcm), .int (bI bcm), .int wd0, .int ab])), (tm, .inl (D.1 11, 40, .inl (fun j => nI (t j)))), (so, .inl (D.1 11, 65, .inl (upd Bso 64 (nI o0)))), (fr, .inl (D.1 11, 65, .inl (upd Bfr 64 (oI (some 0))))), (in_, .inl (D.1 11, 65, .inl (upd Bin 64 (nI (m1 ||| 2 ^ y_16))))), (sh, .inl (D.1 11, 65, .inl (upd Bsh 64 (nI 0))))]) H locs := Hp.reo hH [4, 5, 0, 1, 2, 3] rfl 6 rfl (by decide)
                    exact ih (y + 1) (a1 + 1 + 1) (m1 ||| 2 ^ y_16) (by omega) (by omega) (by omega) (or512 hm1 (by omega)) (fun q => absurd q (by omega)) (fun _ => ⟨orne, by omega⟩) (by rw [← hT]; exact (tl_go (by omega) hta k_141).symm) (by omega) _ _ hH ls (lv_sub hl [0, 5, 6] rfl)
                  · have hH : Hp D A s ([(so, .inl (D.1 11, 65, .inl (upd Bso 64 (nI o0)))), (fr, .inl (D.1 11, 65, .inl (upd Bfr 64 (oI (some 0))))), (in_, .inl (D.1 11, 65, .inl (upd Bin 64 (nI m1)))), (sh, .inl (D.1 11, 65, .inl (upd Bsh 64 (nI 0)))), (m0, .inr (3, [.ref tm, .ref rgm, .ref mem, .ref bym, .ref in_, .ref so, .ref fr, .ref sh, .ref wo, .ref fe, .ref go, .ref fi, .ref se_, .ref th, .int (nI n), .int pl, .int (nI (a1 + 1)), .int (nI pt), .int (nI hd), .int cyc, .int rds, .int wrs, .int fts, .int (nI thr), .int (bI wcm), .int (bI bcm), .int wd0, .int ab])), (tm, .inl (D.1 11, 40, .inl (fun j => nI (t j))))]) H locs := hH
                    refine W.eq (g2 := F0 m 144 ls [.int (nI 0)]) rfl ?_
                    refine vn_if_ne (tgt := 149) C.x C.b dX3_setting_144 (by decide) (by omega) (fun q => absurd q (by decide)) (fun _ => ?_)
                    refine lv_iconst (v := nI 0) C.x C.b dX3_setting_147 (by decide) ?_
                    have hH : Hp D A s ([(m0, .inr (3, [.ref tm, .ref rgm, .ref mem, .ref bym, .ref in_, .ref so, .ref fr, .ref sh, .ref wo, .ref fe, .ref go, .ref fi, .ref se_, .ref th, .int (nI n), .int pl, .int (nI (a1 + 1)), .int (nI pt), .int (nI hd), .int cyc, .int rds, .int wrs, .int fts, .int (nI thr), .int (bI wcm), .int (bI bcm), .int wd0, .int ab])), (tm, .inl (D.1 11, 40, .inl (fun j => nI (t j)))), (so, .inl (D.1 11, 65, .inl (upd Bso 64 (nI o0)))), (fr, .inl (D.1 11, 65, .inl (upd Bfr 64 (oI (some 0))))), (in_, .inl (D.1 11, 65, .inl (upd Bin 64 (nI m1)))), (sh, .inl (D.1 11, 65, .inl (upd Bsh 64 (nI 0))))]) H locs := Hp.reo hH [4, 5, 0, 1, 2, 3] rfl 6 rfl (by decide)
                    exact rZ C hr (by decide) hH (Or.inr ⟨a1 + 1, pt, m1, o0, some 0, 0, by unfold se; rw [← hT, tl_fail (by omega) hta k_141], by omega, rfl, rfl⟩) (Nat.le_of_ble_eq_true rfl) (Nat.le_of_ble_eq_true rfl) dX3_setting_148
                · refine lv_iload_n C.x C.b dX3_setting_124 rfl (lv_at hl 3 rfl) ?_
                  refine vn_if_ne (tgt := 168) C.x C.b dX3_setting_125 (by decide) (by omega) (fun c_125 => ?_) (fun c_125 => ?_)
                  · refine lv_iconst (v := nI 0) C.x C.b dX3_setting_168 (by decide) ?_
                    refine lv_istore_n (lv' := [(2, .int (nI 0)), (6, .int (nI 1)), (5, .int (nI 0)), (4, .int (nI 0)), (3, .int (nI y_16)), (1, .int (nI y)), (0, .ref m0)]) C.x C.b dX3_setting_169 rfl hl (by decide) rfl (fun ls hl => ?_)
                    refine lv_goto (tgt := 4) C.x C.b dX3_setting_170 (by decide) ?_
                    refine lv_iload_n C.x C.b dX3_setting_4 rfl (lv_at hl 0 rfl) ?_
                    refine vn_if_eq (tgt := 173) C.x C.b dX3_setting_5 (by decide) (by omega) (fun _ => ?_) (fun q => absurd q (by decide))
                    have hH : Hp D A s ([(m0, .inr (3, [.ref tm, .ref rgm, .ref mem, .ref bym, .ref in_, .ref so, .ref fr, .ref sh, .ref wo, .ref fe, .ref go, .ref fi, .ref se_, .ref th, .int (nI n), .int pl, .int (nI a1), .int (nI pt), .int (nI hd), .int cyc, .int rds, .int wrs, .int fts, .int (nI thr), .int (bI wcm), .int (bI bcm), .int wd0, .int ab])), (tm, .inl (D.1 11, 40, .inl (fun j => nI (t j)))), (so, .inl (D.1 11, 65, .inl (upd Bso 64 (nI o0)))), (fr, .inl (D.1 11, 65, .inl (upd Bfr 64 (oI (some 0))))), (in_, .inl (D.1 11, 65, .inl (upd Bin 64 (nI m1)))), (sh, .inl (D.1 11, 65, .inl (upd Bsh 64 (nI 0))))]) H locs := Hp.reo hH [5, 4, 0, 1, 2, 3] rfl 6 rfl (by decide)
                    exact K_173 (by rw [← hT]; exact tl_stop (by first | exact Or.inl (by omega) | exact Or.inr (ta_stI hx_16) | exact Or.inr (ta_bad hy2 (fun ⟨q1, q2, q3⟩ => by first | (rw [c_32] at q2; exact absurd q2 (by decide)) | (rcases q3 with q | q | q <;> first | exact (hnz (by omega)).1 q | omega | (have h1 := tk_lt q; have h2 := tk_eq q; omega)))))) (hnz (by omega)).1 (hnz (by omega)).2 _ _ hH ls (lv_sub hl [6] rfl)
                  · have hta : ta t n a1 m1 = some y_16 := ta_some hy1 hy2 hy3 c_32 (by first | exact Or.inl (hz (by omega)).2 | exact Or.inr (Or.inl (by omega)) | exact Or.inr (Or.inr (tk_t (by omega) (by omega))))
                    refine lv_aload_n C.x C.b dX3_setting_128 rfl (lv_at hl 6 rfl) ?_
                    refine lv_dup C.x C.b dX3_setting_129 rfl ?_
                    refine gGet (v := .int (nI a1)) C hK hH 5 16 rfl rfl inX3 (by decide) tw_554 rfl dX3_setting_130 ?_
                    refine lv_iconst (v := nI 1) C.x C.b dX3_setting_133 (by decide) ?_
                    refine lv_iadd C.x C.b dX3_setting_134 ?_
                    refine vt_top (nI_add _ _) ?_
                    refine gPut (v := .int (nI (a1 + 1))) (ws' := [(so, .inl (D.1 11, 65, .inl (upd Bso 64 (nI o0)))), (fr, .inl (D.1 11, 65, .inl (upd Bfr 64 (oI (some 0))))), (in_, .inl (D.1 11, 65, .inl (upd Bin 64 (nI m1)))), (sh, .inl (D.1 11, 65, .inl (upd Bsh 64 (nI 0)))), (tm, .inl (D.1 11, 40, .inl (fun j => nI (t j)))), (m0, .inr (3, [.ref tm, .ref rgm, .ref mem, .ref bym, .ref in_, .ref so, .ref fr, .ref sh, .ref wo, .ref fe, .ref go, .ref fi, .ref se_, .ref th, .int (nI n), .int pl, .int (nI (a1 + 1)), .int (nI pt), .int (nI hd), .int cyc, .int rds, .int wrs, .int fts, .int (nI thr), .int (bI wcm), .int (bI bcm), .int wd0, .int ab]))]) C hK hH 5 16 tyX3 tyX3_ok nmX3 rfl rfl inX3 (by decide) tw_554 rfl rfl rfl (Nat.le_of_ble_eq_true rfl) rfl dX3_setting_135 (fun H locs hH => ?_)
                    refine lv_aload_n C.x C.b dX3_setting_138 rfl (lv_at hl 6 rfl) ?_
                    refine lv_bipush (v := nI 61) C.x C.b dX3_setting_139 (by decide) ?_
                    refine kV (As := [.int (nI 61)]) (isC := [5, 4]) (isR := [0, 1, 2, 3]) (wr := [(so, .inl (D.1 11, 65, .inl (upd Bso 64 (nI o0)))), (fr, .inl (D.1 11, 65, .inl (upd Bfr 64 (oI (some 0))))), (in_, .inl (D.1 11, 65, .inl (upd Bin 64 (nI m1)))), (sh, .inl (D.1 11, 65, .inl (upd Bsh 64 (nI 0))))]) C hK hH (m_has l htr D H.size m0 tm rgm mem bym in_ so fr sh wo fe go fi se_ th n pl (a1 + 1) pt hd cyc rds wrs fts thr wcm bcm wd0 ab t 61 hn (by omega) ht (by omega)) ⟨rfl, rfl, rfl, rfl, by decide⟩ 5 rfl rfl tw_652 tw_654 ts_26 tw_4 kX3_has ⟨by decide +kernel, by decide +kernel, (by decide +kernel : (parseMethodDescriptor yX3_has.desc).map (fun d => d.parameters.length) = some 1)⟩ ⟨(Nat.le_of_ble_eq_true rfl), (Nat.le_of_ble_eq_true rfl)⟩ hl.1 (Nat.le_of_ble_eq_true rfl) dX3_setting_141 ⟨(Nat.le_of_ble_eq_true rfl), (Nat.le_of_ble_eq_true rfl)⟩ (fun v9 w9 H locs hN hH => ?_) (fun _ _ _ _ _ _ h => False.elim h)
                    rcases hN with ⟨k_141, kl_141, rfl, rfl⟩ | ⟨k_141, rfl, rfl⟩
                    · have hH : Hp D A s ([(so, .inl (D.1 11, 65, .inl (upd Bso 64 (nI o0)))), (fr, .inl (D.1 11, 65, .inl (upd Bfr 64 (oI (some 0))))), (in_, .inl (D.1 11, 65, .inl (upd Bin 64 (nI m1)))), (sh, .inl (D.1 11, 65, .inl (upd Bsh 64 (nI 0)))), (m0, .inr (3, [.ref tm, .ref rgm, .ref mem, .ref bym, .ref in_, .ref so, .ref fr, .ref sh, .ref wo, .ref fe, .ref go, .ref fi, .ref se_, .ref th, .int (nI n), .int pl, .int (nI (a1 + 1 + 1)), .int (nI pt), .int (nI hd), .int cyc, .int rds, .int wrs, .int fts, .int (nI thr), .int (bI wcm), .int (bI bcm), .int wd0, .int ab])), (tm, .inl (D.1 11, 40, .inl (fun j => nI (t j))))]) H locs := hH
                      refine W.eq (g2 := F0 m 144 ls [.int (nI 1)]) rfl ?_
                      refine vn_if_ne (tgt := 149) C.x C.b dX3_setting_144 (by decide) (by omega) (fun _ => ?_) (fun q => absurd q (by decide))
                      refine lv_aload_n C.x C.b dX3_setting_149 rfl (lv_at hl 6 rfl) ?_
                      refine gGet (v := .ref in_) C hK hH 4 4 rfl rfl inX3 (by decide) tw_542 rfl dX3_setting_150 ?_
                      refine lv_bipush (v := nI 64) C.x C.b dX3_setting_153 (by decide) ?_
                      refine lv_dup2_11 C.x C.b dX3_setting_155 rfl rfl ?_
                      refine gIald (v := (nI m1)) C hK hH 2 rfl (by omega) (by decide) dX3_setting_156 rfl ?_
                      refine lv_iconst (v := nI 1) C.x C.b dX3_setting_157 (by decide) ?_
                      refine lv_iload_n C.x C.b dX3_setting_158 rfl (lv_at hl 3 rfl) ?_
                      refine lv_ishl C.x C.b dX3_setting_159 ?_
                      refine lv_ior C.x C.b dX3_setting_160 ?_
                      refine vt_top (y := nI (m1 ||| 2 ^ y_16)) (orbit (by omega)) ?_
                      refine gIast (f' := upd Bin 64 (nI (m1 ||| 2 ^ y_16))) (ws' := [(so, .inl (D.1 11, 65, .inl (upd Bso 64 (nI o0)))), (fr, .inl (D.1 11, 65, .inl (upd Bfr 64 (oI (some 0))))), (in_, .inl (D.1 11, 65, .inl (upd Bin 64 (nI (m1 ||| 2 ^ y_16))))), (sh, .inl (D.1 11, 65, .inl (upd Bsh 64 (nI 0)))), (m0, .inr (3, [.ref tm, .ref rgm, .ref mem, .ref bym, .ref in_, .ref so, .ref fr, .ref sh, .ref wo, .ref fe, .ref go, .ref fi, .ref se_, .ref th, .int (nI n), .int pl, .int (nI (a1 + 1 + 1)), .int (nI pt), .int (nI hd), .int cyc, .int rds, .int wrs, .int fts, .int (nI thr), .int (bI wcm), .int (bI bcm), .int wd0, .int ab])), (tm, .inl (D.1 11, 40, .inl (fun j => nI (t j))))]) C hK hH 2 rfl (by omega) (by decide) (upd_upd _ _ _ _) rfl dX3_setting_161 (fun H locs hH => ?_)
                      refine lv_iinc (v := (nI (y + 1))) (lv' := [(1, .int (nI (y + 1))), (6, .int (nI 1)), (5, .int (nI 0)), (4, .int (nI 0)), (3, .int (nI y_16)), (2, .int (nI 1)), (0, .ref m0)]) C.x C.b dX3_setting_162 hl (k := 4) rfl (by rw [show Int32.ofInt 1 = nI 1 from by decide, nI_add]) (by decide) rfl (fun ls hl => ?_)
                      refine lv_goto (tgt := 170) C.x C.b dX3_setting_165 (by decide) ?_
                      refine lv_goto (tgt := 4) C.x C.b dX3_setting_170 (by decide) ?_
                      have hH : Hp D A s ([(m0, .inr (3, [.ref tm, .ref rgm, .ref mem, .ref bym, .ref in_, .ref so, .ref fr, .ref sh, .ref wo, .ref fe, .ref go, .ref fi, .ref se_, .ref th, .int (nI n), .int pl, .int (nI (a1 + 1 + 1)), .int (nI pt), .int (nI hd), .int cyc, .int rds, .int wrs, .int fts, .int (nI thr), .int (bI wcm), .int (bI bcm), .int wd0, .int ab])), (tm, .inl (D.1 11, 40, .inl (fun j => nI (t j)))), (so, .inl (D.1 11, 65, .inl (upd Bso 64 (nI o0)))), (fr, .inl (D.1 11, 65, .inl (upd Bfr 64 (oI (some 0))))), (in_, .inl (D.1 11, 65, .inl (upd Bin 64 (nI (m1 ||| 2 ^ y_16))))), (sh, .inl (D.1 11, 65, .inl (upd Bsh 64 (nI 0))))]) H locs := Hp.reo hH [4, 5, 0, 1, 2, 3] rfl 6 rfl (by decide)
                      exact ih (y + 1) (a1 + 1 + 1) (m1 ||| 2 ^ y_16) (by omega) (by omega) (by omega) (or512 hm1 (by omega)) (fun q => absurd q (by omega)) (fun _ => ⟨orne, by omega⟩) (by rw [← hT]; exact (tl_go (by omega) hta k_141).symm) (by omega) _ _ hH ls (lv_sub hl [0, 5, 6] rfl)
                    · have hH : Hp D A s ([(so, .inl (D.1 11, 65, .inl (upd Bso 64 (nI o0)))), (fr, .inl (D.1 11, 65, .inl (upd Bfr 64 (oI (some 0))))), (in_, .inl (D.1 11, 65, .inl (upd Bin 64 (nI m1)))), (sh, .inl (D.1 11, 65, .inl (upd Bsh 64 (nI 0)))), (m0, .inr (3, [.ref tm, .ref rgm, .ref mem, .ref bym, .ref in_, .ref so, .ref fr, .ref sh, .ref wo, .ref fe, .ref go, .ref fi, .ref se_, .ref th, .int (nI n), .int pl, .int (nI (a1 + 1)), .int (nI pt), .int (nI hd), .int cyc, .int rds, .int wrs, .int fts, .int (nI thr), .int (bI wcm), .int (bI bcm), .int wd0, .int ab])), (tm, .inl (D.1 11, 40, .inl (fun j => nI (t j))))]) H locs := hH
                      refine W.eq (g2 := F0 m 144 ls [.int (nI 0)]) rfl ?_
                      refine vn_if_ne (tgt := 149) C.x C.b dX3_setting_144 (by decide) (by omega) (fun q => absurd q (by decide)) (fun _ => ?_)
                      refine lv_iconst (v := nI 0) C.x C.b dX3_setting_147 (by decide) ?_
                      have hH : Hp D A s ([(m0, .inr (3, [.ref tm, .ref rgm, .ref mem, .ref bym, .ref in_, .ref so, .ref fr, .ref sh, .ref wo, .ref fe, .ref go, .ref fi, .ref se_, .ref th, .int (nI n), .int pl, .int (nI (a1 + 1)), .int (nI pt), .int (nI hd), .int cyc, .int rds, .int wrs, .int fts, .int (nI thr), .int (bI wcm), .int (bI bcm), .int wd0, .int ab])), (tm, .inl (D.1 11, 40, .inl (fun j => nI (t j)))), (so, .inl (D.1 11, 65, .inl (upd Bso 64 (nI o0)))), (fr, .inl (D.1 11, 65, .inl (upd Bfr 64 (oI (some 0))))), (in_, .inl (D.1 11, 65, .inl (upd Bin 64 (nI m1)))), (sh, .inl (D.1 11, 65, .inl (upd Bsh 64 (nI 0))))]) H locs := Hp.reo hH [4, 5, 0, 1, 2, 3] rfl 6 rfl (by decide)
                      exact rZ C hr (by decide) hH (Or.inr ⟨a1 + 1, pt, m1, o0, some 0, 0, by unfold se; rw [← hT, tl_fail (by omega) hta k_141], by omega, rfl, rfl⟩) (Nat.le_of_ble_eq_true rfl) (Nat.le_of_ble_eq_true rfl) dX3_setting_148
              · refine lv_iload C.x C.b dX3_setting_103 (lv_at hl 0 rfl) ?_
                refine vn_if_ne (tgt := 110) C.x C.b dX3_setting_105 (by decide) (by omega) (fun _ => ?_) (fun q => absurd q (by decide))
                refine lv_iload C.x C.b dX3_setting_110 (lv_at hl 0 rfl) ?_
                refine vn_if_eq (tgt := 168) C.x C.b dX3_setting_112 (by decide) (by omega) (fun q => absurd q (by decide)) (fun _ => ?_)
                refine lv_iload C.x C.b dX3_setting_115 (lv_at hl 1 rfl) ?_
                refine vn_if_ne (tgt := 128) C.x C.b dX3_setting_117 (by decide) (by omega) (fun q => absurd q (by decide)) (fun _ => ?_)
                refine lv_iload_n C.x C.b dX3_setting_120 rfl (lv_at hl 4 rfl) ?_
                refine vn_if_eq (tgt := 128) C.x C.b dX3_setting_121 (by decide) (by omega) (fun c_121 => ?_) (fun c_121 => ?_)
                · have hta : ta t n a1 m1 = some y_16 := ta_some hy1 hy2 hy3 c_32 (by first | exact Or.inl (hz (by omega)).2 | exact Or.inr (Or.inl (by omega)) | exact Or.inr (Or.inr (tk_t (by omega) (by omega))))
                  refine lv_aload_n C.x C.b dX3_setting_128 rfl (lv_at hl 6 rfl) ?_
                  refine lv_dup C.x C.b dX3_setting_129 rfl ?_
                  refine gGet (v := .int (nI a1)) C hK hH 5 16 rfl rfl inX3 (by decide) tw_554 rfl dX3_setting_130 ?_
                  refine lv_iconst (v := nI 1) C.x C.b dX3_setting_133 (by decide) ?_
                  refine lv_iadd C.x C.b dX3_setting_134 ?_
                  refine vt_top (nI_add _ _) ?_
                  refine gPut (v := .int (nI (a1 + 1))) (ws' := [(so, .inl (D.1 11, 65, .inl (upd Bso 64 (nI o0)))), (fr, .inl (D.1 11, 65, .inl (upd Bfr 64 (oI (some 0))))), (in_, .inl (D.1 11, 65, .inl (upd Bin 64 (nI m1)))), (sh, .inl (D.1 11, 65, .inl (upd Bsh 64 (nI 0)))), (tm, .inl (D.1 11, 40, .inl (fun j => nI (t j)))), (m0, .inr (3, [.ref tm, .ref rgm, .ref mem, .ref bym, .ref in_, .ref so, .ref fr, .ref sh, .ref wo, .ref fe, .ref go, .ref fi, .ref se_, .ref th, .int (nI n), .int pl, .int (nI (a1 + 1)), .int (nI pt), .int (nI hd), .int cyc, .int rds, .int wrs, .int fts, .int (nI thr), .int (bI wcm), .int (bI bcm), .int wd0, .int ab]))]) C hK hH 5 16 tyX3 tyX3_ok nmX3 rfl rfl inX3 (by decide) tw_554 rfl rfl rfl (Nat.le_of_ble_eq_true rfl) rfl dX3_setting_135 (fun H locs hH => ?_)
                  refine lv_aload_n C.x C.b dX3_setting_138 rfl (lv_at hl 6 rfl) ?_
                  refine lv_bipush (v := nI 61) C.x C.b dX3_setting_139 (by decide) ?_
                  refine kV (As := [.int (nI 61)]) (isC := [5, 4]) (isR := [0, 1, 2, 3]) (wr := [(so, .inl (D.1 11, 65, .inl (upd Bso 64 (nI o0)))), (fr, .inl (D.1 11, 65, .inl (upd Bfr 64 (oI (some 0))))), (in_, .inl (D.1 11, 65, .inl (upd Bin 64 (nI m1)))), (sh, .inl (D.1 11, 65, .inl (upd Bsh 64 (nI 0))))]) C hK hH (m_has l htr D H.size m0 tm rgm mem bym in_ so fr sh wo fe go fi se_ th n pl (a1 + 1) pt hd cyc rds wrs fts thr wcm bcm wd0 ab t 61 hn (by omega) ht (by omega)) ⟨rfl, rfl, rfl, rfl, by decide⟩ 5 rfl rfl tw_652 tw_654 ts_26 tw_4 kX3_has ⟨by decide +kernel, by decide +kernel, (by decide +kernel : (parseMethodDescriptor yX3_has.desc).map (fun d => d.parameters.length) = some 1)⟩ ⟨(Nat.le_of_ble_eq_true rfl), (Nat.le_of_ble_eq_true rfl)⟩ hl.1 (Nat.le_of_ble_eq_true rfl) dX3_setting_141 ⟨(Nat.le_of_ble_eq_true rfl), (Nat.le_of_ble_eq_true rfl)⟩ (fun v9 w9 H locs hN hH => ?_) (fun _ _ _ _ _ _ h => False.elim h)
                  rcases hN with ⟨k_141, kl_141, rfl, rfl⟩ | ⟨k_141, rfl, rfl⟩
                  · have hH : Hp D A s ([(so, .inl (D.1 11, 65, .inl (upd Bso 64 (nI o0)))), (fr, .inl (D.1 11, 65, .inl (upd Bfr 64 (oI (some 0))))), (in_, .inl (D.1 11, 65, .inl (upd Bin 64 (nI m1)))), (sh, .inl (D.1 11, 65, .inl (upd Bsh 64 (nI 0)))), (m0, .inr (3, [.ref tm, .ref rgm, .ref mem, .ref bym, .ref in_, .ref so, .ref fr, .ref sh, .ref wo, .ref fe, .ref go, .ref fi, .ref se_, .ref th, .int (nI n), .int pl, .int (nI (a1 + 1 + 1)), .int (nI pt), .int (nI hd), .int cyc, .int rds, .int wrs, .int fts, .int (nI thr), .int (bI wcm), .int (bI bcm), .int wd0, .int ab])), (tm, .inl (D.1 11, 40, .inl (fun j => nI (t j))))]) H locs := hH
                    refine W.eq (g2 := F0 m 144 ls [.int (nI 1)]) rfl ?_
                    refine vn_if_ne (tgt := 149) C.x C.b dX3_setting_144 (by decide) (by omega) (fun _ => ?_) (fun q => absurd q (by decide))
                    refine lv_aload_n C.x C.b dX3_setting_149 rfl (lv_at hl 6 rfl) ?_
                    refine gGet (v := .ref in_) C hK hH 4 4 rfl rfl inX3 (by decide) tw_542 rfl dX3_setting_150 ?_
                    refine lv_bipush (v := nI 64) C.x C.b dX3_setting_153 (by decide) ?_
                    refine lv_dup2_11 C.x C.b dX3_setting_155 rfl rfl ?_
                    refine gIald (v := (nI m1)) C hK hH 2 rfl (by omega) (by decide) dX3_setting_156 rfl ?_
                    refine lv_iconst (v := nI 1) C.x C.b dX3_setting_157 (by decide) ?_
                    refine lv_iload_n C.x C.b dX3_setting_158 rfl (lv_at hl 3 rfl) ?_
                    refine lv_ishl C.x C.b dX3_setting_159 ?_
                    refine lv_ior C.x C.b dX3_setting_160 ?_
                    refine vt_top (y := nI (m1 ||| 2 ^ y_16)) (orbit (by omega)) ?_
                    refine gIast (f' := upd Bin 64 (nI (m1 ||| 2 ^ y_16))) (ws' := [(so, .inl (D.1 11, 65, .inl (upd Bso 64 (nI o0)))), (fr, .inl (D.1 11, 65, .inl (upd Bfr 64 (oI (some 0))))), (in_, .inl (D.1 11, 65, .inl (upd Bin 64 (nI (m1 ||| 2 ^ y_16))))), (sh, .inl (D.1 11, 65, .inl (upd Bsh 64 (nI 0)))), (m0, .inr (3, [.ref tm, .ref rgm, .ref mem, .ref bym, .ref in_, .ref so, .ref fr, .ref sh, .ref wo, .ref fe, .ref go, .ref fi, .ref se_, .ref th, .int (nI n), .int pl, .int (nI (a1 + 1 + 1)), .int (nI pt), .int (nI hd), .int cyc, .int rds, .int wrs, .int fts, .int (nI thr), .int (bI wcm), .int (bI bcm), .int wd0, .int ab])), (tm, .inl (D.1 11, 40, .inl (fun j => nI (t j))))]) C hK hH 2 rfl (by omega) (by decide) (upd_upd _ _ _ _) rfl dX3_setting_161 (fun H locs hH => ?_)
                    refine lv_iinc (v := (nI (y + 1))) (lv' := [(1, .int (nI (y + 1))), (6, .int (nI 1)), (5, .int (nI 0)), (4, .int (nI 0)), (3, .int (nI y_16)), (2, .int (nI 1)), (0, .ref m0)]) C.x C.b dX3_setting_162 hl (k := 4) rfl (by rw [show Int32.ofInt 1 = nI 1 from by decide, nI_add]) (by decide) rfl (fun ls hl => ?_)
                    refine lv_goto (tgt := 170) C.x C.b dX3_setting_165 (by decide) ?_
                    refine lv_goto (tgt := 4) C.x C.b dX3_setting_170 (by decide) ?_
                    have hH : Hp D A s ([(m0, .inr (3, [.ref tm, .ref rgm, .ref mem, .ref bym, .ref in_, .ref so, .ref fr, .ref sh, .ref wo, .ref fe, .ref go, .ref fi, .ref se_, .ref th, .int (nI n), .int pl, .int (nI (a1 + 1 + 1)), .int (nI pt), .int (nI hd), .int cyc, .int rds, .int wrs, .int fts, .int (nI thr), .int (bI wcm), .int (bI bcm), .int wd0, .int ab])), (tm, .inl (D.1 11, 40, .inl (fun j => nI (t j)))), (so, .inl (D.1 11, 65, .inl (upd Bso 64 (nI o0)))), (fr, .inl (D.1 11, 65, .inl (upd Bfr 64 (oI (some 0))))), (in_, .inl (D.1 11, 65, .inl (upd Bin 64 (nI (m1 ||| 2 ^ y_16))))), (sh, .inl (D.1 11, 65, .inl (upd Bsh 64 (nI 0))))]) H locs := Hp.reo hH [4, 5, 0, 1, 2, 3] rfl 6 rfl (by decide)
                    exact ih (y + 1) (a1 + 1 + 1) (m1 ||| 2 ^ y_16) (by omega) (by omega) (by omega) (or512 hm1 (by omega)) (fun q => absurd q (by omega)) (fun _ => ⟨orne, by omega⟩) (by rw [← hT]; exact (tl_go (by omega) hta k_141).symm) (by omega) _ _ hH ls (lv_sub hl [0, 5, 6] rfl)
                  · have hH : Hp D A s ([(so, .inl (D.1 11, 65, .inl (upd Bso 64 (nI o0)))), (fr, .inl (D.1 11, 65, .inl (upd Bfr 64 (oI (some 0))))), (in_, .inl (D.1 11, 65, .inl (upd Bin 64 (nI m1)))), (sh, .inl (D.1 11, 65, .inl (upd Bsh 64 (nI 0)))), (m0, .inr (3, [.ref tm, .ref rgm, .ref mem, .ref bym, .ref in_, .ref so, .ref fr, .ref sh, .ref wo, .ref fe, .ref go, .ref fi, .ref se_, .ref th, .int (nI n), .int pl, .int (nI (a1 + 1)), .int (nI pt), .int (nI hd), .int cyc, .int rds, .int wrs, .int fts, .int (nI thr), .int (bI wcm), .int (bI bcm), .int wd0, .int ab])), (tm, .inl (D.1 11, 40, .inl (fun j => nI (t j))))]) H locs := hH
                    refine W.eq (g2 := F0 m 144 ls [.int (nI 0)]) rfl ?_
                    refine vn_if_ne (tgt := 149) C.x C.b dX3_setting_144 (by decide) (by omega) (fun q => absurd q (by decide)) (fun _ => ?_)
                    refine lv_iconst (v := nI 0) C.x C.b dX3_setting_147 (by decide) ?_
                    have hH : Hp D A s ([(m0, .inr (3, [.ref tm, .ref rgm, .ref mem, .ref bym, .ref in_, .ref so, .ref fr, .ref sh, .ref wo, .ref fe, .ref go, .ref fi, .ref se_, .ref th, .int (nI n), .int pl, .int (nI (a1 + 1)), .int (nI pt), .int (nI hd), .int cyc, .int rds, .int wrs, .int fts, .int (nI thr), .int (bI wcm), .int (bI bcm), .int wd0, .int ab])), (tm, .inl (D.1 11, 40, .inl (fun j => nI (t j)))), (so, .inl (D.1 11, 65, .inl (upd Bso 64 (nI o0)))), (fr, .inl (D.1 11, 65, .inl (upd Bfr 64 (oI (some 0))))), (in_, .inl (D.1 11, 65, .inl (upd Bin 64 (nI m1)))), (sh, .inl (D.1 11, 65, .inl (upd Bsh 64 (nI 0))))]) H locs := Hp.reo hH [4, 5, 0, 1, 2, 3] rfl 6 rfl (by decide)
                    exact rZ C hr (by decide) hH (Or.inr ⟨a1 + 1, pt, m1, o0, some 0, 0, by unfold se; rw [← hT, tl_fail (by omega) hta k_141], by omega, rfl, rfl⟩) (Nat.le_of_ble_eq_true rfl) (Nat.le_of_ble_eq_true rfl) dX3_setting_148
                · refine lv_iload_n C.x C.b dX3_setting_124 rfl (lv_at hl 3 rfl) ?_
                  refine vn_if_ne (tgt := 168) C.x C.b dX3_setting_125 (by decide) (by omega) (fun c_125 => ?_) (fun c_125 => ?_)
                  · refine lv_iconst (v := nI 0) C.x C.b dX3_setting_168 (by decide) ?_
                    refine lv_istore_n (lv' := [(2, .int (nI 0)), (6, .int (nI 1)), (5, .int (nI 0)), (4, .int (nI 0)), (3, .int (nI y_16)), (1, .int (nI y)), (0, .ref m0)]) C.x C.b dX3_setting_169 rfl hl (by decide) rfl (fun ls hl => ?_)
                    refine lv_goto (tgt := 4) C.x C.b dX3_setting_170 (by decide) ?_
                    refine lv_iload_n C.x C.b dX3_setting_4 rfl (lv_at hl 0 rfl) ?_
                    refine vn_if_eq (tgt := 173) C.x C.b dX3_setting_5 (by decide) (by omega) (fun _ => ?_) (fun q => absurd q (by decide))
                    have hH : Hp D A s ([(m0, .inr (3, [.ref tm, .ref rgm, .ref mem, .ref bym, .ref in_, .ref so, .ref fr, .ref sh, .ref wo, .ref fe, .ref go, .ref fi, .ref se_, .ref th, .int (nI n), .int pl, .int (nI a1), .int (nI pt), .int (nI hd), .int cyc, .int rds, .int wrs, .int fts, .int (nI thr), .int (bI wcm), .int (bI bcm), .int wd0, .int ab])), (tm, .inl (D.1 11, 40, .inl (fun j => nI (t j)))), (so, .inl (D.1 11, 65, .inl (upd Bso 64 (nI o0)))), (fr, .inl (D.1 11, 65, .inl (upd Bfr 64 (oI (some 0))))), (in_, .inl (D.1 11, 65, .inl (upd Bin 64 (nI m1)))), (sh, .inl (D.1 11, 65, .inl (upd Bsh 64 (nI 0))))]) H locs := Hp.reo hH [5, 4, 0, 1, 2, 3] rfl 6 rfl (by decide)
                    exact K_173 (by rw [← hT]; exact tl_stop (by first | exact Or.inl (by omega) | exact Or.inr (ta_stI hx_16) | exact Or.inr (ta_bad hy2 (fun ⟨q1, q2, q3⟩ => by first | (rw [c_32] at q2; exact absurd q2 (by decide)) | (rcases q3 with q | q | q <;> first | exact (hnz (by omega)).1 q | omega | (have h1 := tk_lt q; have h2 := tk_eq q; omega)))))) (hnz (by omega)).1 (hnz (by omega)).2 _ _ hH ls (lv_sub hl [6] rfl)
                  · have hta : ta t n a1 m1 = some y_16 := ta_some hy1 hy2 hy3 c_32 (by first | exact Or.inl (hz (by omega)).2 | exact Or.inr (Or.inl (by omega)) | exact Or.inr (Or.inr (tk_t (by omega) (by omega))))
                    refine lv_aload_n C.x C.b dX3_setting_128 rfl (lv_at hl 6 rfl) ?_
                    refine lv_dup C.x C.b dX3_setting_129 rfl ?_
                    refine gGet (v := .int (nI a1)) C hK hH 5 16 rfl rfl inX3 (by decide) tw_554 rfl dX3_setting_130 ?_
                    refine lv_iconst (v := nI 1) C.x C.b dX3_setting_133 (by decide) ?_
                    refine lv_iadd C.x C.b dX3_setting_134 ?_
                    refine vt_top (nI_add _ _) ?_
                    refine gPut (v := .int (nI (a1 + 1))) (ws' := [(so, .inl (D.1 11, 65, .inl (upd Bso 64 (nI o0)))), (fr, .inl (D.1 11, 65, .inl (upd Bfr 64 (oI (some 0))))), (in_, .inl (D.1 11, 65, .inl (upd Bin 64 (nI m1)))), (sh, .inl (D.1 11, 65, .inl (upd Bsh 64 (nI 0)))), (tm, .inl (D.1 11, 40, .inl (fun j => nI (t j)))), (m0, .inr (3, [.ref tm, .ref rgm, .ref mem, .ref bym, .ref in_, .ref so, .ref fr, .ref sh, .ref wo, .ref fe, .ref go, .ref fi, .ref se_, .ref th, .int (nI n), .int pl, .int (nI (a1 + 1)), .int (nI pt), .int (nI hd), .int cyc, .int rds, .int wrs, .int fts, .int (nI thr), .int (bI wcm), .int (bI bcm), .int wd0, .int ab]))]) C hK hH 5 16 tyX3 tyX3_ok nmX3 rfl rfl inX3 (by decide) tw_554 rfl rfl rfl (Nat.le_of_ble_eq_true rfl) rfl dX3_setting_135 (fun H locs hH => ?_)
                    refine lv_aload_n C.x C.b dX3_setting_138 rfl (lv_at hl 6 rfl) ?_
                    refine lv_bipush (v := nI 61) C.x C.b dX3_setting_139 (by decide) ?_
                    refine kV (As := [.int (nI 61)]) (isC := [5, 4]) (isR := [0, 1, 2, 3]) (wr := [(so, .inl (D.1 11, 65, .inl (upd Bso 64 (nI o0)))), (fr, .inl (D.1 11, 65, .inl (upd Bfr 64 (oI (some 0))))), (in_, .inl (D.1 11, 65, .inl (upd Bin 64 (nI m1)))), (sh, .inl (D.1 11, 65, .inl (upd Bsh 64 (nI 0))))]) C hK hH (m_has l htr D H.size m0 tm rgm mem bym in_ so fr sh wo fe go fi se_ th n pl (a1 + 1) pt hd cyc rds wrs fts thr wcm bcm wd0 ab t 61 hn (by omega) ht (by omega)) ⟨rfl, rfl, rfl, rfl, by decide⟩ 5 rfl rfl tw_652 tw_654 ts_26 tw_4 kX3_has ⟨by decide +kernel, by decide +kernel, (by decide +kernel : (parseMethodDescriptor yX3_has.desc).map (fun d => d.parameters.length) = some 1)⟩ ⟨(Nat.le_of_ble_eq_true rfl), (Nat.le_of_ble_eq_true rfl)⟩ hl.1 (Nat.le_of_ble_eq_true rfl) dX3_setting_141 ⟨(Nat.le_of_ble_eq_true rfl), (Nat.le_of_ble_eq_true rfl)⟩ (fun v9 w9 H locs hN hH => ?_) (fun _ _ _ _ _ _ h => False.elim h)
                    rcases hN with ⟨k_141, kl_141, rfl, rfl⟩ | ⟨k_141, rfl, rfl⟩
                    · have hH : Hp D A s ([(so, .inl (D.1 11, 65, .inl (upd Bso 64 (nI o0)))), (fr, .inl (D.1 11, 65, .inl (upd Bfr 64 (oI (some 0))))), (in_, .inl (D.1 11, 65, .inl (upd Bin 64 (nI m1)))), (sh, .inl (D.1 11, 65, .inl (upd Bsh 64 (nI 0)))), (m0, .inr (3, [.ref tm, .ref rgm, .ref mem, .ref bym, .ref in_, .ref so, .ref fr, .ref sh, .ref wo, .ref fe, .ref go, .ref fi, .ref se_, .ref th, .int (nI n), .int pl, .int (nI (a1 + 1 + 1)), .int (nI pt), .int (nI hd), .int cyc, .int rds, .int wrs, .int fts, .int (nI thr), .int (bI wcm), .int (bI bcm), .int wd0, .int ab])), (tm, .inl (D.1 11, 40, .inl (fun j => nI (t j))))]) H locs := hH
                      refine W.eq (g2 := F0 m 144 ls [.int (nI 1)]) rfl ?_
                      refine vn_if_ne (tgt := 149) C.x C.b dX3_setting_144 (by decide) (by omega) (fun _ => ?_) (fun q => absurd q (by decide))
                      refine lv_aload_n C.x C.b dX3_setting_149 rfl (lv_at hl 6 rfl) ?_
                      refine gGet (v := .ref in_) C hK hH 4 4 rfl rfl inX3 (by decide) tw_542 rfl dX3_setting_150 ?_
                      refine lv_bipush (v := nI 64) C.x C.b dX3_setting_153 (by decide) ?_
                      refine lv_dup2_11 C.x C.b dX3_setting_155 rfl rfl ?_
                      refine gIald (v := (nI m1)) C hK hH 2 rfl (by omega) (by decide) dX3_setting_156 rfl ?_
                      refine lv_iconst (v := nI 1) C.x C.b dX3_setting_157 (by decide) ?_
                      refine lv_iload_n C.x C.b dX3_setting_158 rfl (lv_at hl 3 rfl) ?_
                      refine lv_ishl C.x C.b dX3_setting_159 ?_
                      refine lv_ior C.x C.b dX3_setting_160 ?_
                      refine vt_top (y := nI (m1 ||| 2 ^ y_16)) (orbit (by omega)) ?_
                      refine gIast (f' := upd Bin 64 (nI (m1 ||| 2 ^ y_16))) (ws' := [(so, .inl (D.1 11, 65, .inl (upd Bso 64 (nI o0)))), (fr, .inl (D.1 11, 65, .inl (upd Bfr 64 (oI (some 0))))), (in_, .inl (D.1 11, 65, .inl (upd Bin 64 (nI (m1 ||| 2 ^ y_16))))), (sh, .inl (D.1 11, 65, .inl (upd Bsh 64 (nI 0)))), (m0, .inr (3, [.ref tm, .ref rgm, .ref mem, .ref bym, .ref in_, .ref so, .ref fr, .ref sh, .ref wo, .ref fe, .ref go, .ref fi, .ref se_, .ref th, .int (nI n), .int pl, .int (nI (a1 + 1 + 1)), .int (nI pt), .int (nI hd), .int cyc, .int rds, .int wrs, .int fts, .int (nI thr), .int (bI wcm), .int (bI bcm), .int wd0, .int ab])), (tm, .inl (D.1 11, 40, .inl (fun j => nI (t j))))]) C hK hH 2 rfl (by omega) (by decide) (upd_upd _ _ _ _) rfl dX3_setting_161 (fun H locs hH => ?_)
                      refine lv_iinc (v := (nI (y + 1))) (lv' := [(1, .int (nI (y + 1))), (6, .int (nI 1)), (5, .int (nI 0)), (4, .int (nI 0)), (3, .int (nI y_16)), (2, .int (nI 1)), (0, .ref m0)]) C.x C.b dX3_setting_162 hl (k := 4) rfl (by rw [show Int32.ofInt 1 = nI 1 from by decide, nI_add]) (by decide) rfl (fun ls hl => ?_)
                      refine lv_goto (tgt := 170) C.x C.b dX3_setting_165 (by decide) ?_
                      refine lv_goto (tgt := 4) C.x C.b dX3_setting_170 (by decide) ?_
                      have hH : Hp D A s ([(m0, .inr (3, [.ref tm, .ref rgm, .ref mem, .ref bym, .ref in_, .ref so, .ref fr, .ref sh, .ref wo, .ref fe, .ref go, .ref fi, .ref se_, .ref th, .int (nI n), .int pl, .int (nI (a1 + 1 + 1)), .int (nI pt), .int (nI hd), .int cyc, .int rds, .int wrs, .int fts, .int (nI thr), .int (bI wcm), .int (bI bcm), .int wd0, .int ab])), (tm, .inl (D.1 11, 40, .inl (fun j => nI (t j)))), (so, .inl (D.1 11, 65, .inl (upd Bso 64 (nI o0)))), (fr, .inl (D.1 11, 65, .inl (upd Bfr 64 (oI (some 0))))), (in_, .inl (D.1 11, 65, .inl (upd Bin 64 (nI (m1 ||| 2 ^ y_16))))), (sh, .inl (D.1 11, 65, .inl (upd Bsh 64 (nI 0))))]) H locs := Hp.reo hH [4, 5, 0, 1, 2, 3] rfl 6 rfl (by decide)
                      exact ih (y + 1) (a1 + 1 + 1) (m1 ||| 2 ^ y_16) (by omega) (by omega) (by omega) (or512 hm1 (by omega)) (fun q => absurd q (by omega)) (fun _ => ⟨orne, by omega⟩) (by rw [← hT]; exact (tl_go (by omega) hta k_141).symm) (by omega) _ _ hH ls (lv_sub hl [0, 5, 6] rfl)
                    · have hH : Hp D A s ([(so, .inl (D.1 11, 65, .inl (upd Bso 64 (nI o0)))), (fr, .inl (D.1 11, 65, .inl (upd Bfr 64 (oI (some 0))))), (in_, .inl (D.1 11, 65, .inl (upd Bin 64 (nI m1)))), (sh, .inl (D.1 11, 65, .inl (upd Bsh 64 (nI 0)))), (m0, .inr (3, [.ref tm, .ref rgm, .ref mem, .ref bym, .ref in_, .ref so, .ref fr, .ref sh, .ref wo, .ref fe, .ref go, .ref fi, .ref se_, .ref th, .int (nI n), .int pl, .int (nI (a1 + 1)), .int (nI pt), .int (nI hd), .int cyc, .int rds, .int wrs, .int fts, .int (nI thr), .int (bI wcm), .int (bI bcm), .int wd0, .int ab])), (tm, .inl (D.1 11, 40, .inl (fun j => nI (t j))))]) H locs := hH
                      refine W.eq (g2 := F0 m 144 ls [.int (nI 0)]) rfl ?_
                      refine vn_if_ne (tgt := 149) C.x C.b dX3_setting_144 (by decide) (by omega) (fun q => absurd q (by decide)) (fun _ => ?_)
                      refine lv_iconst (v := nI 0) C.x C.b dX3_setting_147 (by decide) ?_
                      have hH : Hp D A s ([(m0, .inr (3, [.ref tm, .ref rgm, .ref mem, .ref bym, .ref in_, .ref so, .ref fr, .ref sh, .ref wo, .ref fe, .ref go, .ref fi, .ref se_, .ref th, .int (nI n), .int pl, .int (nI (a1 + 1)), .int (nI pt), .int (nI hd), .int cyc, .int rds, .int wrs, .int fts, .int (nI thr), .int (bI wcm), .int (bI bcm), .int wd0, .int ab])), (tm, .inl (D.1 11, 40, .inl (fun j => nI (t j)))), (so, .inl (D.1 11, 65, .inl (upd Bso 64 (nI o0)))), (fr, .inl (D.1 11, 65, .inl (upd Bfr 64 (oI (some 0))))), (in_, .inl (D.1 11, 65, .inl (upd Bin 64 (nI m1)))), (sh, .inl (D.1 11, 65, .inl (upd Bsh 64 (nI 0))))]) H locs := Hp.reo hH [4, 5, 0, 1, 2, 3] rfl 6 rfl (by decide)
                      exact rZ C hr (by decide) hH (Or.inr ⟨a1 + 1, pt, m1, o0, some 0, 0, by unfold se; rw [← hT, tl_fail (by omega) hta k_141], by omega, rfl, rfl⟩) (Nat.le_of_ble_eq_true rfl) (Nat.le_of_ble_eq_true rfl) dX3_setting_148
          · refine lv_aload_n C.x C.b dX3_setting_55 rfl (lv_at hl 4 rfl) ?_
            refine gGet (v := .ref tm) C hK hH 5 0 rfl rfl inX3 (by decide) tw_538 rfl dX3_setting_56 ?_
            refine lv_aload_n C.x C.b dX3_setting_59 rfl (lv_at hl 4 rfl) ?_
            refine gGet (v := .int (nI a1)) C hK hH 5 16 rfl rfl inX3 (by decide) tw_554 rfl dX3_setting_60 ?_
            refine lv_iconst (v := nI 1) C.x C.b dX3_setting_63 (by decide) ?_
            refine lv_iadd C.x C.b dX3_setting_64 ?_
            refine vt_top (nI_add _ _) ?_
            have hf_65 := ht (a1 + 1)
            refine gIald (v := (nI (t (a1 + 1)))) C hK hH 4 rfl (by omega) (by decide) dX3_setting_65 rfl ?_
            refine lv_bipush (v := nI 61) C.x C.b dX3_setting_66 (by decide) ?_
            refine vn_icmp_ne (tgt := 75) C.x C.b dX3_setting_68 (by decide) (by omega) (by omega) (fun c_68 => ?_) (fun c_68 => ?_)
            · refine lv_iconst (v := nI 0) C.x C.b dX3_setting_75 (by decide) ?_
              refine lv_istore (lv' := [(5, .int (nI 0)), (4, .int (nI 0)), (3, .int (nI y_16)), (1, .int (nI y)), (2, .int (nI 1)), (0, .ref m0)]) C.x C.b dX3_setting_76 hl (by decide) rfl (fun ls hl => ?_)
              refine lv_iload_n C.x C.b dX3_setting_78 rfl (lv_at hl 2 rfl) ?_
              refine vn_if_lt (tgt := 96) C.x C.b dX3_setting_79 (by decide) (by omega) ?_
              refine lv_iload C.x C.b dX3_setting_82 (lv_at hl 1 rfl) ?_
              refine vn_if_ne (tgt := 96) C.x C.b dX3_setting_84 (by decide) (by omega) (fun q => absurd q (by decide)) (fun _ => ?_)
              refine lv_iload_n C.x C.b dX3_setting_87 rfl (lv_at hl 3 rfl) ?_
              refine lv_iconst (v := nI 4) C.x C.b dX3_setting_88 (by decide) ?_
              refine vn_icmp_ge (tgt := 96) C.x C.b dX3_setting_89 (by decide) (by omega) (by omega) (fun c_89 => ?_) (fun c_89 => ?_)
              · refine lv_iconst (v := nI 0) C.x C.b dX3_setting_96 (by decide) ?_
                refine lv_istore (lv' := [(6, .int (nI 0)), (5, .int (nI 0)), (4, .int (nI 0)), (3, .int (nI y_16)), (1, .int (nI y)), (2, .int (nI 1)), (0, .ref m0)]) C.x C.b dX3_setting_97 hl (by decide) rfl (fun ls hl => ?_)
                refine lv_iload_n C.x C.b dX3_setting_99 rfl (lv_at hl 4 rfl) ?_
                refine vn_if_ne (tgt := 110) C.x C.b dX3_setting_100 (by decide) (by omega) (fun c_100 => ?_) (fun c_100 => ?_)
                · refine lv_iload C.x C.b dX3_setting_110 (lv_at hl 0 rfl) ?_
                  refine vn_if_eq (tgt := 168) C.x C.b dX3_setting_112 (by decide) (by omega) (fun _ => ?_) (fun q => absurd q (by decide))
                  refine lv_iconst (v := nI 0) C.x C.b dX3_setting_168 (by decide) ?_
                  refine lv_istore_n (lv' := [(2, .int (nI 0)), (6, .int (nI 0)), (5, .int (nI 0)), (4, .int (nI 0)), (3, .int (nI y_16)), (1, .int (nI y)), (0, .ref m0)]) C.x C.b dX3_setting_169 rfl hl (by decide) rfl (fun ls hl => ?_)
                  refine lv_goto (tgt := 4) C.x C.b dX3_setting_170 (by decide) ?_
                  refine lv_iload_n C.x C.b dX3_setting_4 rfl (lv_at hl 0 rfl) ?_
                  refine vn_if_eq (tgt := 173) C.x C.b dX3_setting_5 (by decide) (by omega) (fun _ => ?_) (fun q => absurd q (by decide))
                  have hH : Hp D A s ([(m0, .inr (3, [.ref tm, .ref rgm, .ref mem, .ref bym, .ref in_, .ref so, .ref fr, .ref sh, .ref wo, .ref fe, .ref go, .ref fi, .ref se_, .ref th, .int (nI n), .int pl, .int (nI a1), .int (nI pt), .int (nI hd), .int cyc, .int rds, .int wrs, .int fts, .int (nI thr), .int (bI wcm), .int (bI bcm), .int wd0, .int ab])), (tm, .inl (D.1 11, 40, .inl (fun j => nI (t j)))), (so, .inl (D.1 11, 65, .inl (upd Bso 64 (nI o0)))), (fr, .inl (D.1 11, 65, .inl (upd Bfr 64 (oI (some 0))))), (in_, .inl (D.1 11, 65, .inl (upd Bin 64 (nI m1)))), (sh, .inl (D.1 11, 65, .inl (upd Bsh 64 (nI 0))))]) H locs := Hp.reo hH [5, 4, 0, 1, 2, 3] rfl 6 rfl (by decide)
                  exact K_173 (by rw [← hT]; exact tl_stop (by first | exact Or.inl (by omega) | exact Or.inr (ta_stI hx_16) | exact Or.inr (ta_bad hy2 (fun ⟨q1, q2, q3⟩ => by first | (rw [c_32] at q2; exact absurd q2 (by decide)) | (rcases q3 with q | q | q <;> first | exact (hnz (by omega)).1 q | omega | (have h1 := tk_lt q; have h2 := tk_eq q; omega)))))) (hnz (by omega)).1 (hnz (by omega)).2 _ _ hH ls (lv_sub hl [6] rfl)
                · refine lv_iload C.x C.b dX3_setting_103 (lv_at hl 0 rfl) ?_
                  refine vn_if_ne (tgt := 110) C.x C.b dX3_setting_105 (by decide) (by omega) (fun q => absurd q (by decide)) (fun _ => ?_)
                  exfalso
                  obtain ⟨e1, e2⟩ := hz c_100
                  subst e1
                  subst e2
                  first | exact h0 hx_16 | (simp at c_32; done) | omega
              · refine lv_iconst (v := nI 1) C.x C.b dX3_setting_92 (by decide) ?_
                refine lv_goto (tgt := 97) C.x C.b dX3_setting_93 (by decide) ?_
                refine lv_istore (lv' := [(6, .int (nI 1)), (5, .int (nI 0)), (4, .int (nI 0)), (3, .int (nI y_16)), (1, .int (nI y)), (2, .int (nI 1)), (0, .ref m0)]) C.x C.b dX3_setting_97 hl (by decide) rfl (fun ls hl => ?_)
                refine lv_iload_n C.x C.b dX3_setting_99 rfl (lv_at hl 4 rfl) ?_
                refine vn_if_ne (tgt := 110) C.x C.b dX3_setting_100 (by decide) (by omega) (fun c_100 => ?_) (fun c_100 => ?_)
                · refine lv_iload C.x C.b dX3_setting_110 (lv_at hl 0 rfl) ?_
                  refine vn_if_eq (tgt := 168) C.x C.b dX3_setting_112 (by decide) (by omega) (fun q => absurd q (by decide)) (fun _ => ?_)
                  refine lv_iload C.x C.b dX3_setting_115 (lv_at hl 1 rfl) ?_
                  refine vn_if_ne (tgt := 128) C.x C.b dX3_setting_117 (by decide) (by omega) (fun q => absurd q (by decide)) (fun _ => ?_)
                  refine lv_iload_n C.x C.b dX3_setting_120 rfl (lv_at hl 4 rfl) ?_
                  refine vn_if_eq (tgt := 128) C.x C.b dX3_setting_121 (by decide) (by omega) (fun c_121 => ?_) (fun c_121 => ?_)
                  · have hta : ta t n a1 m1 = some y_16 := ta_some hy1 hy2 hy3 c_32 (by first | exact Or.inl (hz (by omega)).2 | exact Or.inr (Or.inl (by omega)) | exact Or.inr (Or.inr (tk_t (by omega) (by omega))))
                    refine lv_aload_n C.x C.b dX3_setting_128 rfl (lv_at hl 6 rfl) ?_
                    refine lv_dup C.x C.b dX3_setting_129 rfl ?_
                    refine gGet (v := .int (nI a1)) C hK hH 5 16 rfl rfl inX3 (by decide) tw_554 rfl dX3_setting_130 ?_
                    refine lv_iconst (v := nI 1) C.x C.b dX3_setting_133 (by decide) ?_
                    refine lv_iadd C.x C.b dX3_setting_134 ?_
                    refine vt_top (nI_add _ _) ?_
                    refine gPut (v := .int (nI (a1 + 1))) (ws' := [(so, .inl (D.1 11, 65, .inl (upd Bso 64 (nI o0)))), (fr, .inl (D.1 11, 65, .inl (upd Bfr 64 (oI (some 0))))), (in_, .inl (D.1 11, 65, .inl (upd Bin 64 (nI m1)))), (sh, .inl (D.1 11, 65, .inl (upd Bsh 64 (nI 0)))), (tm, .inl (D.1 11, 40, .inl (fun j => nI (t j)))), (m0, .inr (3, [.ref tm, .ref rgm, .ref mem, .ref bym, .ref in_, .ref so, .ref fr, .ref sh, .ref wo, .ref fe, .ref go, .ref fi, .ref se_, .ref th, .int (nI n), .int pl, .int (nI (a1 + 1)), .int (nI pt), .int (nI hd), .int cyc, .int rds, .int wrs, .int fts, .int (nI thr), .int (bI wcm), .int (bI bcm), .int wd0, .int ab]))]) C hK hH 5 16 tyX3 tyX3_ok nmX3 rfl rfl inX3 (by decide) tw_554 rfl rfl rfl (Nat.le_of_ble_eq_true rfl) rfl dX3_setting_135 (fun H locs hH => ?_)
                    refine lv_aload_n C.x C.b dX3_setting_138 rfl (lv_at hl 6 rfl) ?_
                    refine lv_bipush (v := nI 61) C.x C.b dX3_setting_139 (by decide) ?_
                    refine kV (As := [.int (nI 61)]) (isC := [5, 4]) (isR := [0, 1, 2, 3]) (wr := [(so, .inl (D.1 11, 65, .inl (upd Bso 64 (nI o0)))), (fr, .inl (D.1 11, 65, .inl (upd Bfr 64 (oI (some 0))))), (in_, .inl (D.1 11, 65, .inl (upd Bin 64 (nI m1)))), (sh, .inl (D.1 11, 65, .inl (upd Bsh 64 (nI 0))))]) C hK hH (m_has l htr D H.size m0 tm rgm mem bym in_ so fr sh wo fe go fi se_ th n pl (a1 + 1) pt hd cyc rds wrs fts thr wcm bcm wd0 ab t 61 hn (by omega) ht (by omega)) ⟨rfl, rfl, rfl, rfl, by decide⟩ 5 rfl rfl tw_652 tw_654 ts_26 tw_4 kX3_has ⟨by decide +kernel, by decide +kernel, (by decide +kernel : (parseMethodDescriptor yX3_has.desc).map (fun d => d.parameters.length) = some 1)⟩ ⟨(Nat.le_of_ble_eq_true rfl), (Nat.le_of_ble_eq_true rfl)⟩ hl.1 (Nat.le_of_ble_eq_true rfl) dX3_setting_141 ⟨(Nat.le_of_ble_eq_true rfl), (Nat.le_of_ble_eq_true rfl)⟩ (fun v9 w9 H locs hN hH => ?_) (fun _ _ _ _ _ _ h => False.elim h)
                    rcases hN with ⟨k_141, kl_141, rfl, rfl⟩ | ⟨k_141, rfl, rfl⟩
                    · have hH : Hp D A s ([(so, .inl (D.1 11, 65, .inl (upd Bso 64 (nI o0)))), (fr, .inl (D.1 11, 65, .inl (upd Bfr 64 (oI (some 0))))), (in_, .inl (D.1 11, 65, .inl (upd Bin 64 (nI m1)))), (sh, .inl (D.1 11, 65, .inl (upd Bsh 64 (nI 0)))), (m0, .inr (3, [.ref tm, .ref rgm, .ref mem, .ref bym, .ref in_, .ref so, .ref fr, .ref sh, .ref wo, .ref fe, .ref go, .ref fi, .ref se_, .ref th, .int (nI n), .int pl, .int (nI (a1 + 1 + 1)), .int (nI pt), .int (nI hd), .int cyc, .int rds, .int wrs, .int fts, .int (nI thr), .int (bI wcm), .int (bI bcm), .int wd0, .int ab])), (tm, .inl (D.1 11, 40, .inl (fun j => nI (t j))))]) H locs := hH
                      refine W.eq (g2 := F0 m 144 ls [.int (nI 1)]) rfl ?_
                      refine vn_if_ne (tgt := 149) C.x C.b dX3_setting_144 (by decide) (by omega) (fun _ => ?_) (fun q => absurd q (by decide))
                      refine lv_aload_n C.x C.b dX3_setting_149 rfl (lv_at hl 6 rfl) ?_
                      refine gGet (v := .ref in_) C hK hH 4 4 rfl rfl inX3 (by decide) tw_542 rfl dX3_setting_150 ?_
                      refine lv_bipush (v := nI 64) C.x C.b dX3_setting_153 (by decide) ?_
                      refine lv_dup2_11 C.x C.b dX3_setting_155 rfl rfl ?_
                      refine gIald (v := (nI m1)) C hK hH 2 rfl (by omega) (by decide) dX3_setting_156 rfl ?_
                      refine lv_iconst (v := nI 1) C.x C.b dX3_setting_157 (by decide) ?_
                      refine lv_iload_n C.x C.b dX3_setting_158 rfl (lv_at hl 3 rfl) ?_
                      refine lv_ishl C.x C.b dX3_setting_159 ?_
                      refine lv_ior C.x C.b dX3_setting_160 ?_
                      refine vt_top (y := nI (m1 ||| 2 ^ y_16)) (orbit (by omega)) ?_
                      refine gIast (f' := upd Bin 64 (nI (m1 ||| 2 ^ y_16))) (ws' := [(so, .inl (D.1 11, 65, .inl (upd Bso 64 (nI o0)))), (fr, .inl (D.1 11, 65, .inl (upd Bfr 64 (oI (some 0))))), (in_, .inl (D.1 11, 65, .inl (upd Bin 64 (nI (m1 ||| 2 ^ y_16))))), (sh, .inl (D.1 11, 65, .inl (upd Bsh 64 (nI 0)))), (m0, .inr (3, [.ref tm, .ref rgm, .ref mem, .ref bym, .ref in_, .ref so, .ref fr, .ref sh, .ref wo, .ref fe, .ref go, .ref fi, .ref se_, .ref th, .int (nI n), .int pl, .int (nI (a1 + 1 + 1)), .int (nI pt), .int (nI hd), .int cyc, .int rds, .int wrs, .int fts, .int (nI thr), .int (bI wcm), .int (bI bcm), .int wd0, .int ab])), (tm, .inl (D.1 11, 40, .inl (fun j => nI (t j))))]) C hK hH 2 rfl (by omega) (by decide) (upd_upd _ _ _ _) rfl dX3_setting_161 (fun H locs hH => ?_)
                      refine lv_iinc (v := (nI (y + 1))) (lv' := [(1, .int (nI (y + 1))), (6, .int (nI 1)), (5, .int (nI 0)), (4, .int (nI 0)), (3, .int (nI y_16)), (2, .int (nI 1)), (0, .ref m0)]) C.x C.b dX3_setting_162 hl (k := 4) rfl (by rw [show Int32.ofInt 1 = nI 1 from by decide, nI_add]) (by decide) rfl (fun ls hl => ?_)
                      refine lv_goto (tgt := 170) C.x C.b dX3_setting_165 (by decide) ?_
                      refine lv_goto (tgt := 4) C.x C.b dX3_setting_170 (by decide) ?_
                      have hH : Hp D A s ([(m0, .inr (3, [.ref tm, .ref rgm, .ref mem, .ref bym, .ref in_, .ref so, .ref fr, .ref sh, .ref wo, .ref fe, .ref go, .ref fi, .ref se_, .ref th, .int (nI n), .int pl, .int (nI (a1 + 1 + 1)), .int (nI pt), .int (nI hd), .int cyc, .int rds, .int wrs, .int fts, .int (nI thr), .int (bI wcm), .int (bI bcm), .int wd0, .int ab])), (tm, .inl (D.1 11, 40, .inl (fun j => nI (t j)))), (so, .inl (D.1 11, 65, .inl (upd Bso 64 (nI o0)))), (fr, .inl (D.1 11, 65, .inl (upd Bfr 64 (oI (some 0))))), (in_, .inl (D.1 11, 65, .inl (upd Bin 64 (nI (m1 ||| 2 ^ y_16))))), (sh, .inl (D.1 11, 65, .inl (upd Bsh 64 (nI 0))))]) H locs := Hp.reo hH [4, 5, 0, 1, 2, 3] rfl 6 rfl (by decide)
                      exact ih (y + 1) (a1 + 1 + 1) (m1 ||| 2 ^ y_16) (by omega) (by omega) (by omega) (or512 hm1 (by omega)) (fun q => absurd q (by omega)) (fun _ => ⟨orne, by omega⟩) (by rw [← hT]; exact (tl_go (by omega) hta k_141).symm) (by omega) _ _ hH ls (lv_sub hl [0, 5, 6] rfl)
                    · have hH : Hp D A s ([(so, .inl (D.1 11, 65, .inl (upd Bso 64 (nI o0)))), (fr, .inl (D.1 11, 65, .inl (upd Bfr 64 (oI (some 0))))), (in_, .inl (D.1 11, 65, .inl (upd Bin 64 (nI m1)))), (sh, .inl (D.1 11, 65, .inl (upd Bsh 64 (nI 0)))), (m0, .inr (3, [.ref tm, .ref rgm, .ref mem, .ref bym, .ref in_, .ref so, .ref fr, .ref sh, .ref wo, .ref fe, .ref go, .ref fi, .ref se_, .ref th, .int (nI n), .int pl, .int (nI (a1 + 1)), .int (nI pt), .int (nI hd), .int cyc, .int rds, .int wrs, .int fts, .int (nI thr), .int (bI wcm), .int (bI bcm), .int wd0, .int ab])), (tm, .inl (D.1 11, 40, .inl (fun j => nI (t j))))]) H locs := hH
                      refine W.eq (g2 := F0 m 144 ls [.int (nI 0)]) rfl ?_
                      refine vn_if_ne (tgt := 149) C.x C.b dX3_setting_144 (by decide) (by omega) (fun q => absurd q (by decide)) (fun _ => ?_)
                      refine lv_iconst (v := nI 0) C.x C.b dX3_setting_147 (by decide) ?_
                      have hH : Hp D A s ([(m0, .inr (3, [.ref tm, .ref rgm, .ref mem, .ref bym, .ref in_, .ref so, .ref fr, .ref sh, .ref wo, .ref fe, .ref go, .ref fi, .ref se_, .ref th, .int (nI n), .int pl, .int (nI (a1 + 1)), .int (nI pt), .int (nI hd), .int cyc, .int rds, .int wrs, .int fts, .int (nI thr), .int (bI wcm), .int (bI bcm), .int wd0, .int ab])), (tm, .inl (D.1 11, 40, .inl (fun j => nI (t j)))), (so, .inl (D.1 11, 65, .inl (upd Bso 64 (nI o0)))), (fr, .inl (D.1 11, 65, .inl (upd Bfr 64 (oI (some 0))))), (in_, .inl (D.1 11, 65, .inl (upd Bin 64 (nI m1)))), (sh, .inl (D.1 11, 65, .inl (upd Bsh 64 (nI 0))))]) H locs := Hp.reo hH [4, 5, 0, 1, 2, 3] rfl 6 rfl (by decide)
                      exact rZ C hr (by decide) hH (Or.inr ⟨a1 + 1, pt, m1, o0, some 0, 0, by unfold se; rw [← hT, tl_fail (by omega) hta k_141], by omega, rfl, rfl⟩) (Nat.le_of_ble_eq_true rfl) (Nat.le_of_ble_eq_true rfl) dX3_setting_148
                  · refine lv_iload_n C.x C.b dX3_setting_124 rfl (lv_at hl 3 rfl) ?_
                    refine vn_if_ne (tgt := 168) C.x C.b dX3_setting_125 (by decide) (by omega) (fun c_125 => ?_) (fun c_125 => ?_)
                    · refine lv_iconst (v := nI 0) C.x C.b dX3_setting_168 (by decide) ?_
                      refine lv_istore_n (lv' := [(2, .int (nI 0)), (6, .int (nI 1)), (5, .int (nI 0)), (4, .int (nI 0)), (3, .int (nI y_16)), (1, .int (nI y)), (0, .ref m0)]) C.x C.b dX3_setting_169 rfl hl (by decide) rfl (fun ls hl => ?_)
                      refine lv_goto (tgt := 4) C.x C.b dX3_setting_170 (by decide) ?_
                      refine lv_iload_n C.x C.b dX3_setting_4 rfl (lv_at hl 0 rfl) ?_
                      refine vn_if_eq (tgt := 173) C.x C.b dX3_setting_5 (by decide) (by omega) (fun _ => ?_) (fun q => absurd q (by decide))
                      have hH : Hp D A s ([(m0, .inr (3, [.ref tm, .ref rgm, .ref mem, .ref bym, .ref in_, .ref so, .ref fr, .ref sh, .ref wo, .ref fe, .ref go, .ref fi, .ref se_, .ref th, .int (nI n), .int pl, .int (nI a1), .int (nI pt), .int (nI hd), .int cyc, .int rds, .int wrs, .int fts, .int (nI thr), .int (bI wcm), .int (bI bcm), .int wd0, .int ab])), (tm, .inl (D.1 11, 40, .inl (fun j => nI (t j)))), (so, .inl (D.1 11, 65, .inl (upd Bso 64 (nI o0)))), (fr, .inl (D.1 11, 65, .inl (upd Bfr 64 (oI (some 0))))), (in_, .inl (D.1 11, 65, .inl (upd Bin 64 (nI m1)))), (sh, .inl (D.1 11, 65, .inl (upd Bsh 64 (nI 0))))]) H locs := Hp.reo hH [5, 4, 0, 1, 2, 3] rfl 6 rfl (by decide)
                      exact K_173 (by rw [← hT]; exact tl_stop (by first | exact Or.inl (by omega) | exact Or.inr (ta_stI hx_16) | exact Or.inr (ta_bad hy2 (fun ⟨q1, q2, q3⟩ => by first | (rw [c_32] at q2; exact absurd q2 (by decide)) | (rcases q3 with q | q | q <;> first | exact (hnz (by omega)).1 q | omega | (have h1 := tk_lt q; have h2 := tk_eq q; omega)))))) (hnz (by omega)).1 (hnz (by omega)).2 _ _ hH ls (lv_sub hl [6] rfl)
                    · have hta : ta t n a1 m1 = some y_16 := ta_some hy1 hy2 hy3 c_32 (by first | exact Or.inl (hz (by omega)).2 | exact Or.inr (Or.inl (by omega)) | exact Or.inr (Or.inr (tk_t (by omega) (by omega))))
                      refine lv_aload_n C.x C.b dX3_setting_128 rfl (lv_at hl 6 rfl) ?_
                      refine lv_dup C.x C.b dX3_setting_129 rfl ?_
                      refine gGet (v := .int (nI a1)) C hK hH 5 16 rfl rfl inX3 (by decide) tw_554 rfl dX3_setting_130 ?_
                      refine lv_iconst (v := nI 1) C.x C.b dX3_setting_133 (by decide) ?_
                      refine lv_iadd C.x C.b dX3_setting_134 ?_
                      refine vt_top (nI_add _ _) ?_
                      refine gPut (v := .int (nI (a1 + 1))) (ws' := [(so, .inl (D.1 11, 65, .inl (upd Bso 64 (nI o0)))), (fr, .inl (D.1 11, 65, .inl (upd Bfr 64 (oI (some 0))))), (in_, .inl (D.1 11, 65, .inl (upd Bin 64 (nI m1)))), (sh, .inl (D.1 11, 65, .inl (upd Bsh 64 (nI 0)))), (tm, .inl (D.1 11, 40, .inl (fun j => nI (t j)))), (m0, .inr (3, [.ref tm, .ref rgm, .ref mem, .ref bym, .ref in_, .ref so, .ref fr, .ref sh, .ref wo, .ref fe, .ref go, .ref fi, .ref se_, .ref th, .int (nI n), .int pl, .int (nI (a1 + 1)), .int (nI pt), .int (nI hd), .int cyc, .int rds, .int wrs, .int fts, .int (nI thr), .int (bI wcm), .int (bI bcm), .int wd0, .int ab]))]) C hK hH 5 16 tyX3 tyX3_ok nmX3 rfl rfl inX3 (by decide) tw_554 rfl rfl rfl (Nat.le_of_ble_eq_true rfl) rfl dX3_setting_135 (fun H locs hH => ?_)
                      refine lv_aload_n C.x C.b dX3_setting_138 rfl (lv_at hl 6 rfl) ?_
                      refine lv_bipush (v := nI 61) C.x C.b dX3_setting_139 (by decide) ?_
                      refine kV (As := [.int (nI 61)]) (isC := [5, 4]) (isR := [0, 1, 2, 3]) (wr := [(so, .inl (D.1 11, 65, .inl (upd Bso 64 (nI o0)))), (fr, .inl (D.1 11, 65, .inl (upd Bfr 64 (oI (some 0))))), (in_, .inl (D.1 11, 65, .inl (upd Bin 64 (nI m1)))), (sh, .inl (D.1 11, 65, .inl (upd Bsh 64 (nI 0))))]) C hK hH (m_has l htr D H.size m0 tm rgm mem bym in_ so fr sh wo fe go fi se_ th n pl (a1 + 1) pt hd cyc rds wrs fts thr wcm bcm wd0 ab t 61 hn (by omega) ht (by omega)) ⟨rfl, rfl, rfl, rfl, by decide⟩ 5 rfl rfl tw_652 tw_654 ts_26 tw_4 kX3_has ⟨by decide +kernel, by decide +kernel, (by decide +kernel : (parseMethodDescriptor yX3_has.desc).map (fun d => d.parameters.length) = some 1)⟩ ⟨(Nat.le_of_ble_eq_true rfl), (Nat.le_of_ble_eq_true rfl)⟩ hl.1 (Nat.le_of_ble_eq_true rfl) dX3_setting_141 ⟨(Nat.le_of_ble_eq_true rfl), (Nat.le_of_ble_eq_true rfl)⟩ (fun v9 w9 H locs hN hH => ?_) (fun _ _ _ _ _ _ h => False.elim h)
                      rcases hN with ⟨k_141, kl_141, rfl, rfl⟩ | ⟨k_141, rfl, rfl⟩
                      · have hH : Hp D A s ([(so, .inl (D.1 11, 65, .inl (upd Bso 64 (nI o0)))), (fr, .inl (D.1 11, 65, .inl (upd Bfr 64 (oI (some 0))))), (in_, .inl (D.1 11, 65, .inl (upd Bin 64 (nI m1)))), (sh, .inl (D.1 11, 65, .inl (upd Bsh 64 (nI 0)))), (m0, .inr (3, [.ref tm, .ref rgm, .ref mem, .ref bym, .ref in_, .ref so, .ref fr, .ref sh, .ref wo, .ref fe, .ref go, .ref fi, .ref se_, .ref th, .int (nI n), .int pl, .int (nI (a1 + 1 + 1)), .int (nI pt), .int (nI hd), .int cyc, .int rds, .int wrs, .int fts, .int (nI thr), .int (bI wcm), .int (bI bcm), .int wd0, .int ab])), (tm, .inl (D.1 11, 40, .inl (fun j => nI (t j))))]) H locs := hH
                        refine W.eq (g2 := F0 m 144 ls [.int (nI 1)]) rfl ?_
                        refine vn_if_ne (tgt := 149) C.x C.b dX3_setting_144 (by decide) (by omega) (fun _ => ?_) (fun q => absurd q (by decide))
                        refine lv_aload_n C.x C.b dX3_setting_149 rfl (lv_at hl 6 rfl) ?_
                        refine gGet (v := .ref in_) C hK hH 4 4 rfl rfl inX3 (by decide) tw_542 rfl dX3_setting_150 ?_
                        refine lv_bipush (v := nI 64) C.x C.b dX3_setting_153 (by decide) ?_
                        refine lv_dup2_11 C.x C.b dX3_setting_155 rfl rfl ?_
                        refine gIald (v := (nI m1)) C hK hH 2 rfl (by omega) (by decide) dX3_setting_156 rfl ?_
                        refine lv_iconst (v := nI 1) C.x C.b dX3_setting_157 (by decide) ?_
                        refine lv_iload_n C.x C.b dX3_setting_158 rfl (lv_at hl 3 rfl) ?_
                        refine lv_ishl C.x C.b dX3_setting_159 ?_
                        refine lv_ior C.x C.b dX3_setting_160 ?_
                        refine vt_top (y := nI (m1 ||| 2 ^ y_16)) (orbit (by omega)) ?_
                        refine gIast (f' := upd Bin 64 (nI (m1 ||| 2 ^ y_16))) (ws' := [(so, .inl (D.1 11, 65, .inl (upd Bso 64 (nI o0)))), (fr, .inl (D.1 11, 65, .inl (upd Bfr 64 (oI (some 0))))), (in_, .inl (D.1 11, 65, .inl (upd Bin 64 (nI (m1 ||| 2 ^ y_16))))), (sh, .inl (D.1 11, 65, .inl (upd Bsh 64 (nI 0)))), (m0, .inr (3, [.ref tm, .ref rgm, .ref mem, .ref bym, .ref in_, .ref so, .ref fr, .ref sh, .ref wo, .ref fe, .ref go, .ref fi, .ref se_, .ref th, .int (nI n), .int pl, .int (nI (a1 + 1 + 1)), .int (nI pt), .int (nI hd), .int cyc, .int rds, .int wrs, .int fts, .int (nI thr), .int (bI wcm), .int (bI bcm), .int wd0, .int ab])), (tm, .inl (D.1 11, 40, .inl (fun j => nI (t j))))]) C hK hH 2 rfl (by omega) (by decide) (upd_upd _ _ _ _) rfl dX3_setting_161 (fun H locs hH => ?_)
                        refine lv_iinc (v := (nI (y + 1))) (lv' := [(1, .int (nI (y + 1))), (6, .int (nI 1)), (5, .int (nI 0)), (4, .int (nI 0)), (3, .int (nI y_16)), (2, .int (nI 1)), (0, .ref m0)]) C.x C.b dX3_setting_162 hl (k := 4) rfl (by rw [show Int32.ofInt 1 = nI 1 from by decide, nI_add]) (by decide) rfl (fun ls hl => ?_)
                        refine lv_goto (tgt := 170) C.x C.b dX3_setting_165 (by decide) ?_
                        refine lv_goto (tgt := 4) C.x C.b dX3_setting_170 (by decide) ?_
                        have hH : Hp D A s ([(m0, .inr (3, [.ref tm, .ref rgm, .ref mem, .ref bym, .ref in_, .ref so, .ref fr, .ref sh, .ref wo, .ref fe, .ref go, .ref fi, .ref se_, .ref th, .int (nI n), .int pl, .int (nI (a1 + 1 + 1)), .int (nI pt), .int (nI hd), .int cyc, .int rds, .int wrs, .int fts, .int (nI thr), .int (bI wcm), .int (bI bcm), .int wd0, .int ab])), (tm, .inl (D.1 11, 40, .inl (fun j => nI (t j)))), (so, .inl (D.1 11, 65, .inl (upd Bso 64 (nI o0)))), (fr, .inl (D.1 11, 65, .inl (upd Bfr 64 (oI (some 0))))), (in_, .inl (D.1 11, 65, .inl (upd Bin 64 (nI (m1 ||| 2 ^ y_16))))), (sh, .inl (D.1 11, 65, .inl (upd Bsh 64 (nI 0))))]) H locs := Hp.reo hH [4, 5, 0, 1, 2, 3] rfl 6 rfl (by decide)
                        exact ih (y + 1) (a1 + 1 + 1) (m1 ||| 2 ^ y_16) (by omega) (by omega) (by omega) (or512 hm1 (by omega)) (fun q => absurd q (by omega)) (fun _ => ⟨orne, by omega⟩) (by rw [← hT]; exact (tl_go (by omega) hta k_141).symm) (by omega) _ _ hH ls (lv_sub hl [0, 5, 6] rfl)
                      · have hH : Hp D A s ([(so, .inl (D.1 11, 65, .inl (upd Bso 64 (nI o0)))), (fr, .inl (D.1 11, 65, .inl (upd Bfr 64 (oI (some 0))))), (in_, .inl (D.1 11, 65, .inl (upd Bin 64 (nI m1)))), (sh, .inl (D.1 11, 65, .inl (upd Bsh 64 (nI 0)))), (m0, .inr (3, [.ref tm, .ref rgm, .ref mem, .ref bym, .ref in_, .ref so, .ref fr, .ref sh, .ref wo, .ref fe, .ref go, .ref fi, .ref se_, .ref th, .int (nI n), .int pl, .int (nI (a1 + 1)), .int (nI pt), .int (nI hd), .int cyc, .int rds, .int wrs, .int fts, .int (nI thr), .int (bI wcm), .int (bI bcm), .int wd0, .int ab])), (tm, .inl (D.1 11, 40, .inl (fun j => nI (t j))))]) H locs := hH
                        refine W.eq (g2 := F0 m 144 ls [.int (nI 0)]) rfl ?_
                        refine vn_if_ne (tgt := 149) C.x C.b dX3_setting_144 (by decide) (by omega) (fun q => absurd q (by decide)) (fun _ => ?_)
                        refine lv_iconst (v := nI 0) C.x C.b dX3_setting_147 (by decide) ?_
                        have hH : Hp D A s ([(m0, .inr (3, [.ref tm, .ref rgm, .ref mem, .ref bym, .ref in_, .ref so, .ref fr, .ref sh, .ref wo, .ref fe, .ref go, .ref fi, .ref se_, .ref th, .int (nI n), .int pl, .int (nI (a1 + 1)), .int (nI pt), .int (nI hd), .int cyc, .int rds, .int wrs, .int fts, .int (nI thr), .int (bI wcm), .int (bI bcm), .int wd0, .int ab])), (tm, .inl (D.1 11, 40, .inl (fun j => nI (t j)))), (so, .inl (D.1 11, 65, .inl (upd Bso 64 (nI o0)))), (fr, .inl (D.1 11, 65, .inl (upd Bfr 64 (oI (some 0))))), (in_, .inl (D.1 11, 65, .inl (upd Bin 64 (nI m1)))), (sh, .inl (D.1 11, 65, .inl (upd Bsh 64 (nI 0))))]) H locs := Hp.reo hH [4, 5, 0, 1, 2, 3] rfl 6 rfl (by decide)
                        exact rZ C hr (by decide) hH (Or.inr ⟨a1 + 1, pt, m1, o0, some 0, 0, by unfold se; rw [← hT, tl_fail (by omega) hta k_141], by omega, rfl, rfl⟩) (Nat.le_of_ble_eq_true rfl) (Nat.le_of_ble_eq_true rfl) dX3_setting_148
                · refine lv_iload C.x C.b dX3_setting_103 (lv_at hl 0 rfl) ?_
                  refine vn_if_ne (tgt := 110) C.x C.b dX3_setting_105 (by decide) (by omega) (fun _ => ?_) (fun q => absurd q (by decide))
                  refine lv_iload C.x C.b dX3_setting_110 (lv_at hl 0 rfl) ?_
                  refine vn_if_eq (tgt := 168) C.x C.b dX3_setting_112 (by decide) (by omega) (fun q => absurd q (by decide)) (fun _ => ?_)
                  refine lv_iload C.x C.b dX3_setting_115 (lv_at hl 1 rfl) ?_
                  refine vn_if_ne (tgt := 128) C.x C.b dX3_setting_117 (by decide) (by omega) (fun q => absurd q (by decide)) (fun _ => ?_)
                  refine lv_iload_n C.x C.b dX3_setting_120 rfl (lv_at hl 4 rfl) ?_
                  refine vn_if_eq (tgt := 128) C.x C.b dX3_setting_121 (by decide) (by omega) (fun c_121 => ?_) (fun c_121 => ?_)
                  · have hta : ta t n a1 m1 = some y_16 := ta_some hy1 hy2 hy3 c_32 (by first | exact Or.inl (hz (by omega)).2 | exact Or.inr (Or.inl (by omega)) | exact Or.inr (Or.inr (tk_t (by omega) (by omega))))
                    refine lv_aload_n C.x C.b dX3_setting_128 rfl (lv_at hl 6 rfl) ?_
                    refine lv_dup C.x C.b dX3_setting_129 rfl ?_
                    refine gGet (v := .int (nI a1)) C hK hH 5 16 rfl rfl inX3 (by decide) tw_554 rfl dX3_setting_130 ?_
                    refine lv_iconst (v := nI 1) C.x C.b dX3_setting_133 (by decide) ?_
                    refine lv_iadd C.x C.b dX3_setting_134 ?_
                    refine vt_top (nI_add _ _) ?_
                    refine gPut (v := .int (nI (a1 + 1))) (ws' := [(so, .inl (D.1 11, 65, .inl (upd Bso 64 (nI o0)))), (fr, .inl (D.1 11, 65, .inl (upd Bfr 64 (oI (some 0))))), (in_, .inl (D.1 11, 65, .inl (upd Bin 64 (nI m1)))), (sh, .inl (D.1 11, 65, .inl (upd Bsh 64 (nI 0)))), (tm, .inl (D.1 11, 40, .inl (fun j => nI (t j)))), (m0, .inr (3, [.ref tm, .ref rgm, .ref mem, .ref bym, .ref in_, .ref so, .ref fr, .ref sh, .ref wo, .ref fe, .ref go, .ref fi, .ref se_, .ref th, .int (nI n), .int pl, .int (nI (a1 + 1)), .int (nI pt), .int (nI hd), .int cyc, .int rds, .int wrs, .int fts, .int (nI thr), .int (bI wcm), .int (bI bcm), .int wd0, .int ab]))]) C hK hH 5 16 tyX3 tyX3_ok nmX3 rfl rfl inX3 (by decide) tw_554 rfl rfl rfl (Nat.le_of_ble_eq_true rfl) rfl dX3_setting_135 (fun H locs hH => ?_)
                    refine lv_aload_n C.x C.b dX3_setting_138 rfl (lv_at hl 6 rfl) ?_
                    refine lv_bipush (v := nI 61) C.x C.b dX3_setting_139 (by decide) ?_
                    refine kV (As := [.int (nI 61)]) (isC := [5, 4]) (isR := [0, 1, 2, 3]) (wr := [(so, .inl (D.1 11, 65, .inl (upd Bso 64 (nI o0)))), (fr, .inl (D.1 11, 65, .inl (upd Bfr 64 (oI (some 0))))), (in_, .inl (D.1 11, 65, .inl (upd Bin 64 (nI m1)))), (sh, .inl (D.1 11, 65, .inl (upd Bsh 64 (nI 0))))]) C hK hH (m_has l htr D H.size m0 tm rgm mem bym in_ so fr sh wo fe go fi se_ th n pl (a1 + 1) pt hd cyc rds wrs fts thr wcm bcm wd0 ab t 61 hn (by omega) ht (by omega)) ⟨rfl, rfl, rfl, rfl, by decide⟩ 5 rfl rfl tw_652 tw_654 ts_26 tw_4 kX3_has ⟨by decide +kernel, by decide +kernel, (by decide +kernel : (parseMethodDescriptor yX3_has.desc).map (fun d => d.parameters.length) = some 1)⟩ ⟨(Nat.le_of_ble_eq_true rfl), (Nat.le_of_ble_eq_true rfl)⟩ hl.1 (Nat.le_of_ble_eq_true rfl) dX3_setting_141 ⟨(Nat.le_of_ble_eq_true rfl), (Nat.le_of_ble_eq_true rfl)⟩ (fun v9 w9 H locs hN hH => ?_) (fun _ _ _ _ _ _ h => False.elim h)
                    rcases hN with ⟨k_141, kl_141, rfl, rfl⟩ | ⟨k_141, rfl, rfl⟩
                    · have hH : Hp D A s ([(so, .inl (D.1 11, 65, .inl (upd Bso 64 (nI o0)))), (fr, .inl (D.1 11, 65, .inl (upd Bfr 64 (oI (some 0))))), (in_, .inl (D.1 11, 65, .inl (upd Bin 64 (nI m1)))), (sh, .inl (D.1 11, 65, .inl (upd Bsh 64 (nI 0)))), (m0, .inr (3, [.ref tm, .ref rgm, .ref mem, .ref bym, .ref in_, .ref so, .ref fr, .ref sh, .ref wo, .ref fe, .ref go, .ref fi, .ref se_, .ref th, .int (nI n), .int pl, .int (nI (a1 + 1 + 1)), .int (nI pt), .int (nI hd), .int cyc, .int rds, .int wrs, .int fts, .int (nI thr), .int (bI wcm), .int (bI bcm), .int wd0, .int ab])), (tm, .inl (D.1 11, 40, .inl (fun j => nI (t j))))]) H locs := hH
                      refine W.eq (g2 := F0 m 144 ls [.int (nI 1)]) rfl ?_
                      refine vn_if_ne (tgt := 149) C.x C.b dX3_setting_144 (by decide) (by omega) (fun _ => ?_) (fun q => absurd q (by decide))
                      refine lv_aload_n C.x C.b dX3_setting_149 rfl (lv_at hl 6 rfl) ?_
                      refine gGet (v := .ref in_) C hK hH 4 4 rfl rfl inX3 (by decide) tw_542 rfl dX3_setting_150 ?_
                      refine lv_bipush (v := nI 64) C.x C.b dX3_setting_153 (by decide) ?_
                      refine lv_dup2_11 C.x C.b dX3_setting_155 rfl rfl ?_
                      refine gIald (v := (nI m1)) C hK hH 2 rfl (by omega) (by decide) dX3_setting_156 rfl ?_
                      refine lv_iconst (v := nI 1) C.x C.b dX3_setting_157 (by decide) ?_
                      refine lv_iload_n C.x C.b dX3_setting_158 rfl (lv_at hl 3 rfl) ?_
                      refine lv_ishl C.x C.b dX3_setting_159 ?_
                      refine lv_ior C.x C.b dX3_setting_160 ?_
                      refine vt_top (y := nI (m1 ||| 2 ^ y_16)) (orbit (by omega)) ?_
                      refine gIast (f' := upd Bin 64 (nI (m1 ||| 2 ^ y_16))) (ws' := [(so, .inl (D.1 11, 65, .inl (upd Bso 64 (nI o0)))), (fr, .inl (D.1 11, 65, .inl (upd Bfr 64 (oI (some 0))))), (in_, .inl (D.1 11, 65, .inl (upd Bin 64 (nI (m1 ||| 2 ^ y_16))))), (sh, .inl (D.1 11, 65, .inl (upd Bsh 64 (nI 0)))), (m0, .inr (3, [.ref tm, .ref rgm, .ref mem, .ref bym, .ref in_, .ref so, .ref fr, .ref sh, .ref wo, .ref fe, .ref go, .ref fi, .ref se_, .ref th, .int (nI n), .int pl, .int (nI (a1 + 1 + 1)), .int (nI pt), .int (nI hd), .int cyc, .int rds, .int wrs, .int fts, .int (nI thr), .int (bI wcm), .int (bI bcm), .int wd0, .int ab])), (tm, .inl (D.1 11, 40, .inl (fun j => nI (t j))))]) C hK hH 2 rfl (by omega) (by decide) (upd_upd _ _ _ _) rfl dX3_setting_161 (fun H locs hH => ?_)
                      refine lv_iinc (v := (nI (y + 1))) (lv' := [(1, .int (nI (y + 1))), (6, .int (nI 1)), (5, .int (nI 0)), (4, .int (nI 0)), (3, .int (nI y_16)), (2, .int (nI 1)), (0, .ref m0)]) C.x C.b dX3_setting_162 hl (k := 4) rfl (by rw [show Int32.ofInt 1 = nI 1 from by decide, nI_add]) (by decide) rfl (fun ls hl => ?_)
                      refine lv_goto (tgt := 170) C.x C.b dX3_setting_165 (by decide) ?_
                      refine lv_goto (tgt := 4) C.x C.b dX3_setting_170 (by decide) ?_
                      have hH : Hp D A s ([(m0, .inr (3, [.ref tm, .ref rgm, .ref mem, .ref bym, .ref in_, .ref so, .ref fr, .ref sh, .ref wo, .ref fe, .ref go, .ref fi, .ref se_, .ref th, .int (nI n), .int pl, .int (nI (a1 + 1 + 1)), .int (nI pt), .int (nI hd), .int cyc, .int rds, .int wrs, .int fts, .int (nI thr), .int (bI wcm), .int (bI bcm), .int wd0, .int ab])), (tm, .inl (D.1 11, 40, .inl (fun j => nI (t j)))), (so, .inl (D.1 11, 65, .inl (upd Bso 64 (nI o0)))), (fr, .inl (D.1 11, 65, .inl (upd Bfr 64 (oI (some 0))))), (in_, .inl (D.1 11, 65, .inl (upd Bin 64 (nI (m1 ||| 2 ^ y_16))))), (sh, .inl (D.1 11, 65, .inl (upd Bsh 64 (nI 0))))]) H locs := Hp.reo hH [4, 5, 0, 1, 2, 3] rfl 6 rfl (by decide)
                      exact ih (y + 1) (a1 + 1 + 1) (m1 ||| 2 ^ y_16) (by omega) (by omega) (by omega) (or512 hm1 (by omega)) (fun q => absurd q (by omega)) (fun _ => ⟨orne, by omega⟩) (by rw [← hT]; exact (tl_go (by omega) hta k_141).symm) (by omega) _ _ hH ls (lv_sub hl [0, 5, 6] rfl)
                    · have hH : Hp D A s ([(so, .inl (D.1 11, 65, .inl (upd Bso 64 (nI o0)))), (fr, .inl (D.1 11, 65, .inl (upd Bfr 64 (oI (some 0))))), (in_, .inl (D.1 11, 65, .inl (upd Bin 64 (nI m1)))), (sh, .inl (D.1 11, 65, .inl (upd Bsh 64 (nI 0)))), (m0, .inr (3, [.ref tm, .ref rgm, .ref mem, .ref bym, .ref in_, .ref so, .ref fr, .ref sh, .ref wo, .ref fe, .ref go, .ref fi, .ref se_, .ref th, .int (nI n), .int pl, .int (nI (a1 + 1)), .int (nI pt), .int (nI hd), .int cyc, .int rds, .int wrs, .int fts, .int (nI thr), .int (bI wcm), .int (bI bcm), .int wd0, .int ab])), (tm, .inl (D.1 11, 40, .inl (fun j => nI (t j))))]) H locs := hH
                      refine W.eq (g2 := F0 m 144 ls [.int (nI 0)]) rfl ?_
                      refine vn_if_ne (tgt := 149) C.x C.b dX3_setting_144 (by decide) (by omega) (fun q => absurd q (by decide)) (fun _ => ?_)
                      refine lv_iconst (v := nI 0) C.x C.b dX3_setting_147 (by decide) ?_
                      have hH : Hp D A s ([(m0, .inr (3, [.ref tm, .ref rgm, .ref mem, .ref bym, .ref in_, .ref so, .ref fr, .ref sh, .ref wo, .ref fe, .ref go, .ref fi, .ref se_, .ref th, .int (nI n), .int pl, .int (nI (a1 + 1)), .int (nI pt), .int (nI hd), .int cyc, .int rds, .int wrs, .int fts, .int (nI thr), .int (bI wcm), .int (bI bcm), .int wd0, .int ab])), (tm, .inl (D.1 11, 40, .inl (fun j => nI (t j)))), (so, .inl (D.1 11, 65, .inl (upd Bso 64 (nI o0)))), (fr, .inl (D.1 11, 65, .inl (upd Bfr 64 (oI (some 0))))), (in_, .inl (D.1 11, 65, .inl (upd Bin 64 (nI m1)))), (sh, .inl (D.1 11, 65, .inl (upd Bsh 64 (nI 0))))]) H locs := Hp.reo hH [4, 5, 0, 1, 2, 3] rfl 6 rfl (by decide)
                      exact rZ C hr (by decide) hH (Or.inr ⟨a1 + 1, pt, m1, o0, some 0, 0, by unfold se; rw [← hT, tl_fail (by omega) hta k_141], by omega, rfl, rfl⟩) (Nat.le_of_ble_eq_true rfl) (Nat.le_of_ble_eq_true rfl) dX3_setting_148
                  · refine lv_iload_n C.x C.b dX3_setting_124 rfl (lv_at hl 3 rfl) ?_
                    refine vn_if_ne (tgt := 168) C.x C.b dX3_setting_125 (by decide) (by omega) (fun c_125 => ?_) (fun c_125 => ?_)
                    · refine lv_iconst (v := nI 0) C.x C.b dX3_setting_168 (by decide) ?_
                      refine lv_istore_n (lv' := [(2, .int (nI 0)), (6, .int (nI 1)), (5, .int (nI 0)), (4, .int (nI 0)), (3, .int (nI y_16)), (1, .int (nI y)), (0, .ref m0)]) C.x C.b dX3_setting_169 rfl hl (by decide) rfl (fun ls hl => ?_)
                      refine lv_goto (tgt := 4) C.x C.b dX3_setting_170 (by decide) ?_
                      refine lv_iload_n C.x C.b dX3_setting_4 rfl (lv_at hl 0 rfl) ?_
                      refine vn_if_eq (tgt := 173) C.x C.b dX3_setting_5 (by decide) (by omega) (fun _ => ?_) (fun q => absurd q (by decide))
                      have hH : Hp D A s ([(m0, .inr (3, [.ref tm, .ref rgm, .ref mem, .ref bym, .ref in_, .ref so, .ref fr, .ref sh, .ref wo, .ref fe, .ref go, .ref fi, .ref se_, .ref th, .int (nI n), .int pl, .int (nI a1), .int (nI pt), .int (nI hd), .int cyc, .int rds, .int wrs, .int fts, .int (nI thr), .int (bI wcm), .int (bI bcm), .int wd0, .int ab])), (tm, .inl (D.1 11, 40, .inl (fun j => nI (t j)))), (so, .inl (D.1 11, 65, .inl (upd Bso 64 (nI o0)))), (fr, .inl (D.1 11, 65, .inl (upd Bfr 64 (oI (some 0))))), (in_, .inl (D.1 11, 65, .inl (upd Bin 64 (nI m1)))), (sh, .inl (D.1 11, 65, .inl (upd Bsh 64 (nI 0))))]) H locs := Hp.reo hH [5, 4, 0, 1, 2, 3] rfl 6 rfl (by decide)
                      exact K_173 (by rw [← hT]; exact tl_stop (by first | exact Or.inl (by omega) | exact Or.inr (ta_stI hx_16) | exact Or.inr (ta_bad hy2 (fun ⟨q1, q2, q3⟩ => by first | (rw [c_32] at q2; exact absurd q2 (by decide)) | (rcases q3 with q | q | q <;> first | exact (hnz (by omega)).1 q | omega | (have h1 := tk_lt q; have h2 := tk_eq q; omega)))))) (hnz (by omega)).1 (hnz (by omega)).2 _ _ hH ls (lv_sub hl [6] rfl)
                    · have hta : ta t n a1 m1 = some y_16 := ta_some hy1 hy2 hy3 c_32 (by first | exact Or.inl (hz (by omega)).2 | exact Or.inr (Or.inl (by omega)) | exact Or.inr (Or.inr (tk_t (by omega) (by omega))))
                      refine lv_aload_n C.x C.b dX3_setting_128 rfl (lv_at hl 6 rfl) ?_
                      refine lv_dup C.x C.b dX3_setting_129 rfl ?_
                      refine gGet (v := .int (nI a1)) C hK hH 5 16 rfl rfl inX3 (by decide) tw_554 rfl dX3_setting_130 ?_
                      refine lv_iconst (v := nI 1) C.x C.b dX3_setting_133 (by decide) ?_
                      refine lv_iadd C.x C.b dX3_setting_134 ?_
                      refine vt_top (nI_add _ _) ?_
                      refine gPut (v := .int (nI (a1 + 1))) (ws' := [(so, .inl (D.1 11, 65, .inl (upd Bso 64 (nI o0)))), (fr, .inl (D.1 11, 65, .inl (upd Bfr 64 (oI (some 0))))), (in_, .inl (D.1 11, 65, .inl (upd Bin 64 (nI m1)))), (sh, .inl (D.1 11, 65, .inl (upd Bsh 64 (nI 0)))), (tm, .inl (D.1 11, 40, .inl (fun j => nI (t j)))), (m0, .inr (3, [.ref tm, .ref rgm, .ref mem, .ref bym, .ref in_, .ref so, .ref fr, .ref sh, .ref wo, .ref fe, .ref go, .ref fi, .ref se_, .ref th, .int (nI n), .int pl, .int (nI (a1 + 1)), .int (nI pt), .int (nI hd), .int cyc, .int rds, .int wrs, .int fts, .int (nI thr), .int (bI wcm), .int (bI bcm), .int wd0, .int ab]))]) C hK hH 5 16 tyX3 tyX3_ok nmX3 rfl rfl inX3 (by decide) tw_554 rfl rfl rfl (Nat.le_of_ble_eq_true rfl) rfl dX3_setting_135 (fun H locs hH => ?_)
                      refine lv_aload_n C.x C.b dX3_setting_138 rfl (lv_at hl 6 rfl) ?_
                      refine lv_bipush (v := nI 61) C.x C.b dX3_setting_139 (by decide) ?_
                      refine kV (As := [.int (nI 61)]) (isC := [5, 4]) (isR := [0, 1, 2, 3]) (wr := [(so, .inl (D.1 11, 65, .inl (upd Bso 64 (nI o0)))), (fr, .inl (D.1 11, 65, .inl (upd Bfr 64 (oI (some 0))))), (in_, .inl (D.1 11, 65, .inl (upd Bin 64 (nI m1)))), (sh, .inl (D.1 11, 65, .inl (upd Bsh 64 (nI 0))))]) C hK hH (m_has l htr D H.size m0 tm rgm mem bym in_ so fr sh wo fe go fi se_ th n pl (a1 + 1) pt hd cyc rds wrs fts thr wcm bcm wd0 ab t 61 hn (by omega) ht (by omega)) ⟨rfl, rfl, rfl, rfl, by decide⟩ 5 rfl rfl tw_652 tw_654 ts_26 tw_4 kX3_has ⟨by decide +kernel, by decide +kernel, (by decide +kernel : (parseMethodDescriptor yX3_has.desc).map (fun d => d.parameters.length) = some 1)⟩ ⟨(Nat.le_of_ble_eq_true rfl), (Nat.le_of_ble_eq_true rfl)⟩ hl.1 (Nat.le_of_ble_eq_true rfl) dX3_setting_141 ⟨(Nat.le_of_ble_eq_true rfl), (Nat.le_of_ble_eq_true rfl)⟩ (fun v9 w9 H locs hN hH => ?_) (fun _ _ _ _ _ _ h => False.elim h)
                      rcases hN with ⟨k_141, kl_141, rfl, rfl⟩ | ⟨k_141, rfl, rfl⟩
                      · have hH : Hp D A s ([(so, .inl (D.1 11, 65, .inl (upd Bso 64 (nI o0)))), (fr, .inl (D.1 11, 65, .inl (upd Bfr 64 (oI (some 0))))), (in_, .inl (D.1 11, 65, .inl (upd Bin 64 (nI m1)))), (sh, .inl (D.1 11, 65, .inl (upd Bsh 64 (nI 0)))), (m0, .inr (3, [.ref tm, .ref rgm, .ref mem, .ref bym, .ref in_, .ref so, .ref fr, .ref sh, .ref wo, .ref fe, .ref go, .ref fi, .ref se_, .ref th, .int (nI n), .int pl, .int (nI (a1 + 1 + 1)), .int (nI pt), .int (nI hd), .int cyc, .int rds, .int wrs, .int fts, .int (nI thr), .int (bI wcm), .int (bI bcm), .int wd0, .int ab])), (tm, .inl (D.1 11, 40, .inl (fun j => nI (t j))))]) H locs := hH
                        refine W.eq (g2 := F0 m 144 ls [.int (nI 1)]) rfl ?_
                        refine vn_if_ne (tgt := 149) C.x C.b dX3_setting_144 (by decide) (by omega) (fun _ => ?_) (fun q => absurd q (by decide))
                        refine lv_aload_n C.x C.b dX3_setting_149 rfl (lv_at hl 6 rfl) ?_
                        refine gGet (v := .ref in_) C hK hH 4 4 rfl rfl inX3 (by decide) tw_542 rfl dX3_setting_150 ?_
                        refine lv_bipush (v := nI 64) C.x C.b dX3_setting_153 (by decide) ?_
                        refine lv_dup2_11 C.x C.b dX3_setting_155 rfl rfl ?_
                        refine gIald (v := (nI m1)) C hK hH 2 rfl (by omega) (by decide) dX3_setting_156 rfl ?_
                        refine lv_iconst (v := nI 1) C.x C.b dX3_setting_157 (by decide) ?_
                        refine lv_iload_n C.x C.b dX3_setting_158 rfl (lv_at hl 3 rfl) ?_
                        refine lv_ishl C.x C.b dX3_setting_159 ?_
                        refine lv_ior C.x C.b dX3_setting_160 ?_
                        refine vt_top (y := nI (m1 ||| 2 ^ y_16)) (orbit (by omega)) ?_
                        refine gIast (f' := upd Bin 64 (nI (m1 ||| 2 ^ y_16))) (ws' := [(so, .inl (D.1 11, 65, .inl (upd Bso 64 (nI o0)))), (fr, .inl (D.1 11, 65, .inl (upd Bfr 64 (oI (some 0))))), (in_, .inl (D.1 11, 65, .inl (upd Bin 64 (nI (m1 ||| 2 ^ y_16))))), (sh, .inl (D.1 11, 65, .inl (upd Bsh 64 (nI 0)))), (m0, .inr (3, [.ref tm, .ref rgm, .ref mem, .ref bym, .ref in_, .ref so, .ref fr, .ref sh, .ref wo, .ref fe, .ref go, .ref fi, .ref se_, .ref th, .int (nI n), .int pl, .int (nI (a1 + 1 + 1)), .int (nI pt), .int (nI hd), .int cyc, .int rds, .int wrs, .int fts, .int (nI thr), .int (bI wcm), .int (bI bcm), .int wd0, .int ab])), (tm, .inl (D.1 11, 40, .inl (fun j => nI (t j))))]) C hK hH 2 rfl (by omega) (by decide) (upd_upd _ _ _ _) rfl dX3_setting_161 (fun H locs hH => ?_)
                        refine lv_iinc (v := (nI (y + 1))) (lv' := [(1, .int (nI (y + 1))), (6, .int (nI 1)), (5, .int (nI 0)), (4, .int (nI 0)), (3, .int (nI y_16)), (2, .int (nI 1)), (0, .ref m0)]) C.x C.b dX3_setting_162 hl (k := 4) rfl (by rw [show Int32.ofInt 1 = nI 1 from by decide, nI_add]) (by decide) rfl (fun ls hl => ?_)
                        refine lv_goto (tgt := 170) C.x C.b dX3_setting_165 (by decide) ?_
                        refine lv_goto (tgt := 4) C.x C.b dX3_setting_170 (by decide) ?_
                        have hH : Hp D A s ([(m0, .inr (3, [.ref tm, .ref rgm, .ref mem, .ref bym, .ref in_, .ref so, .ref fr, .ref sh, .ref wo, .ref fe, .ref go, .ref fi, .ref se_, .ref th, .int (nI n), .int pl, .int (nI (a1 + 1 + 1)), .int (nI pt), .int (nI hd), .int cyc, .int rds, .int wrs, .int fts, .int (nI thr), .int (bI wcm), .int (bI bcm), .int wd0, .int ab])), (tm, .inl (D.1 11, 40, .inl (fun j => nI (t j)))), (so, .inl (D.1 11, 65, .inl (upd Bso 64 (nI o0)))), (fr, .inl (D.1 11, 65, .inl (upd Bfr 64 (oI (some 0))))), (in_, .inl (D.1 11, 65, .inl (upd Bin 64 (nI (m1 ||| 2 ^ y_16))))), (sh, .inl (D.1 11, 65, .inl (upd Bsh 64 (nI 0))))]) H locs := Hp.reo hH [4, 5, 0, 1, 2, 3] rfl 6 rfl (by decide)
                        exact ih (y + 1) (a1 + 1 + 1) (m1 ||| 2 ^ y_16) (by omega) (by omega) (by omega) (or512 hm1 (by omega)) (fun q => absurd q (by omega)) (fun _ => ⟨orne, by omega⟩) (by rw [← hT]; exact (tl_go (by omega) hta k_141).symm) (by omega) _ _ hH ls (lv_sub hl [0, 5, 6] rfl)
                      · have hH : Hp D A s ([(so, .inl (D.1 11, 65, .inl (upd Bso 64 (nI o0)))), (fr, .inl (D.1 11, 65, .inl (upd Bfr 64 (oI (some 0))))), (in_, .inl (D.1 11, 65, .inl (upd Bin 64 (nI m1)))), (sh, .inl (D.1 11, 65, .inl (upd Bsh 64 (nI 0)))), (m0, .inr (3, [.ref tm, .ref rgm, .ref mem, .ref bym, .ref in_, .ref so, .ref fr, .ref sh, .ref wo, .ref fe, .ref go, .ref fi, .ref se_, .ref th, .int (nI n), .int pl, .int (nI (a1 + 1)), .int (nI pt), .int (nI hd), .int cyc, .int rds, .int wrs, .int fts, .int (nI thr), .int (bI wcm), .int (bI bcm), .int wd0, .int ab])), (tm, .inl (D.1 11, 40, .inl (fun j => nI (t j))))]) H locs := hH
                        refine W.eq (g2 := F0 m 144 ls [.int (nI 0)]) rfl ?_
                        refine vn_if_ne (tgt := 149) C.x C.b dX3_setting_144 (by decide) (by omega) (fun q => absurd q (by decide)) (fun _ => ?_)
                        refine lv_iconst (v := nI 0) C.x C.b dX3_setting_147 (by decide) ?_
                        have hH : Hp D A s ([(m0, .inr (3, [.ref tm, .ref rgm, .ref mem, .ref bym, .ref in_, .ref so, .ref fr, .ref sh, .ref wo, .ref fe, .ref go, .ref fi, .ref se_, .ref th, .int (nI n), .int pl, .int (nI (a1 + 1)), .int (nI pt), .int (nI hd), .int cyc, .int rds, .int wrs, .int fts, .int (nI thr), .int (bI wcm), .int (bI bcm), .int wd0, .int ab])), (tm, .inl (D.1 11, 40, .inl (fun j => nI (t j)))), (so, .inl (D.1 11, 65, .inl (upd Bso 64 (nI o0)))), (fr, .inl (D.1 11, 65, .inl (upd Bfr 64 (oI (some 0))))), (in_, .inl (D.1 11, 65, .inl (upd Bin 64 (nI m1)))), (sh, .inl (D.1 11, 65, .inl (upd Bsh 64 (nI 0))))]) H locs := Hp.reo hH [4, 5, 0, 1, 2, 3] rfl 6 rfl (by decide)
                        exact rZ C hr (by decide) hH (Or.inr ⟨a1 + 1, pt, m1, o0, some 0, 0, by unfold se; rw [← hT, tl_fail (by omega) hta k_141], by omega, rfl, rfl⟩) (Nat.le_of_ble_eq_true rfl) (Nat.le_of_ble_eq_true rfl) dX3_setting_148
            · refine lv_iconst (v := nI 1) C.x C.b dX3_setting_71 (by decide) ?_
              refine lv_goto (tgt := 76) C.x C.b dX3_setting_72 (by decide) ?_
              refine lv_istore (lv' := [(5, .int (nI 1)), (4, .int (nI 0)), (3, .int (nI y_16)), (1, .int (nI y)), (2, .int (nI 1)), (0, .ref m0)]) C.x C.b dX3_setting_76 hl (by decide) rfl (fun ls hl => ?_)
              refine lv_iload_n C.x C.b dX3_setting_78 rfl (lv_at hl 2 rfl) ?_
              refine vn_if_lt (tgt := 96) C.x C.b dX3_setting_79 (by decide) (by omega) ?_
              refine lv_iload C.x C.b dX3_setting_82 (lv_at hl 1 rfl) ?_
              refine vn_if_ne (tgt := 96) C.x C.b dX3_setting_84 (by decide) (by omega) (fun q => absurd q (by decide)) (fun _ => ?_)
              refine lv_iload_n C.x C.b dX3_setting_87 rfl (lv_at hl 3 rfl) ?_
              refine lv_iconst (v := nI 4) C.x C.b dX3_setting_88 (by decide) ?_
              refine vn_icmp_ge (tgt := 96) C.x C.b dX3_setting_89 (by decide) (by omega) (by omega) (fun c_89 => ?_) (fun c_89 => ?_)
              · refine lv_iconst (v := nI 0) C.x C.b dX3_setting_96 (by decide) ?_
                refine lv_istore (lv' := [(6, .int (nI 0)), (5, .int (nI 1)), (4, .int (nI 0)), (3, .int (nI y_16)), (1, .int (nI y)), (2, .int (nI 1)), (0, .ref m0)]) C.x C.b dX3_setting_97 hl (by decide) rfl (fun ls hl => ?_)
                refine lv_iload_n C.x C.b dX3_setting_99 rfl (lv_at hl 4 rfl) ?_
                refine vn_if_ne (tgt := 110) C.x C.b dX3_setting_100 (by decide) (by omega) (fun c_100 => ?_) (fun c_100 => ?_)
                · refine lv_iload C.x C.b dX3_setting_110 (lv_at hl 0 rfl) ?_
                  refine vn_if_eq (tgt := 168) C.x C.b dX3_setting_112 (by decide) (by omega) (fun _ => ?_) (fun q => absurd q (by decide))
                  refine lv_iconst (v := nI 0) C.x C.b dX3_setting_168 (by decide) ?_
                  refine lv_istore_n (lv' := [(2, .int (nI 0)), (6, .int (nI 0)), (5, .int (nI 1)), (4, .int (nI 0)), (3, .int (nI y_16)), (1, .int (nI y)), (0, .ref m0)]) C.x C.b dX3_setting_169 rfl hl (by decide) rfl (fun ls hl => ?_)
                  refine lv_goto (tgt := 4) C.x C.b dX3_setting_170 (by decide) ?_
                  refine lv_iload_n C.x C.b dX3_setting_4 rfl (lv_at hl 0 rfl) ?_
                  refine vn_if_eq (tgt := 173) C.x C.b dX3_setting_5 (by decide) (by omega) (fun _ => ?_) (fun q => absurd q (by decide))
                  have hH : Hp D A s ([(m0, .inr (3, [.ref tm, .ref rgm, .ref mem, .ref bym, .ref in_, .ref so, .ref fr, .ref sh, .ref wo, .ref fe, .ref go, .ref fi, .ref se_, .ref th, .int (nI n), .int pl, .int (nI a1), .int (nI pt), .int (nI hd), .int cyc, .int rds, .int wrs, .int fts, .int (nI thr), .int (bI wcm), .int (bI bcm), .int wd0, .int ab])), (tm, .inl (D.1 11, 40, .inl (fun j => nI (t j)))), (so, .inl (D.1 11, 65, .inl (upd Bso 64 (nI o0)))), (fr, .inl (D.1 11, 65, .inl (upd Bfr 64 (oI (some 0))))), (in_, .inl (D.1 11, 65, .inl (upd Bin 64 (nI m1)))), (sh, .inl (D.1 11, 65, .inl (upd Bsh 64 (nI 0))))]) H locs := Hp.reo hH [5, 4, 0, 1, 2, 3] rfl 6 rfl (by decide)
                  exact K_173 (by rw [← hT]; exact tl_stop (by first | exact Or.inl (by omega) | exact Or.inr (ta_stI hx_16) | exact Or.inr (ta_bad hy2 (fun ⟨q1, q2, q3⟩ => by first | (rw [c_32] at q2; exact absurd q2 (by decide)) | (rcases q3 with q | q | q <;> first | exact (hnz (by omega)).1 q | omega | (have h1 := tk_lt q; have h2 := tk_eq q; omega)))))) (hnz (by omega)).1 (hnz (by omega)).2 _ _ hH ls (lv_sub hl [6] rfl)
                · refine lv_iload C.x C.b dX3_setting_103 (lv_at hl 0 rfl) ?_
                  refine vn_if_ne (tgt := 110) C.x C.b dX3_setting_105 (by decide) (by omega) (fun q => absurd q (by decide)) (fun _ => ?_)
                  exfalso
                  obtain ⟨e1, e2⟩ := hz c_100
                  subst e1
                  subst e2
                  first | exact h0 hx_16 | (simp at c_32; done) | omega
              · refine lv_iconst (v := nI 1) C.x C.b dX3_setting_92 (by decide) ?_
                refine lv_goto (tgt := 97) C.x C.b dX3_setting_93 (by decide) ?_
                refine lv_istore (lv' := [(6, .int (nI 1)), (5, .int (nI 1)), (4, .int (nI 0)), (3, .int (nI y_16)), (1, .int (nI y)), (2, .int (nI 1)), (0, .ref m0)]) C.x C.b dX3_setting_97 hl (by decide) rfl (fun ls hl => ?_)
                refine lv_iload_n C.x C.b dX3_setting_99 rfl (lv_at hl 4 rfl) ?_
                refine vn_if_ne (tgt := 110) C.x C.b dX3_setting_100 (by decide) (by omega) (fun c_100 => ?_) (fun c_100 => ?_)
                · refine lv_iload C.x C.b dX3_setting_110 (lv_at hl 0 rfl) ?_
                  refine vn_if_eq (tgt := 168) C.x C.b dX3_setting_112 (by decide) (by omega) (fun q => absurd q (by decide)) (fun _ => ?_)
                  refine lv_iload C.x C.b dX3_setting_115 (lv_at hl 1 rfl) ?_
                  refine vn_if_ne (tgt := 128) C.x C.b dX3_setting_117 (by decide) (by omega) (fun _ => ?_) (fun q => absurd q (by decide))
                  have hta : ta t n a1 m1 = some y_16 := ta_some hy1 hy2 hy3 c_32 (by first | exact Or.inl (hz (by omega)).2 | exact Or.inr (Or.inl (by omega)) | exact Or.inr (Or.inr (tk_t (by omega) (by omega))))
                  refine lv_aload_n C.x C.b dX3_setting_128 rfl (lv_at hl 6 rfl) ?_
                  refine lv_dup C.x C.b dX3_setting_129 rfl ?_
                  refine gGet (v := .int (nI a1)) C hK hH 5 16 rfl rfl inX3 (by decide) tw_554 rfl dX3_setting_130 ?_
                  refine lv_iconst (v := nI 1) C.x C.b dX3_setting_133 (by decide) ?_
                  refine lv_iadd C.x C.b dX3_setting_134 ?_
                  refine vt_top (nI_add _ _) ?_
                  refine gPut (v := .int (nI (a1 + 1))) (ws' := [(so, .inl (D.1 11, 65, .inl (upd Bso 64 (nI o0)))), (fr, .inl (D.1 11, 65, .inl (upd Bfr 64 (oI (some 0))))), (in_, .inl (D.1 11, 65, .inl (upd Bin 64 (nI m1)))), (sh, .inl (D.1 11, 65, .inl (upd Bsh 64 (nI 0)))), (tm, .inl (D.1 11, 40, .inl (fun j => nI (t j)))), (m0, .inr (3, [.ref tm, .ref rgm, .ref mem, .ref bym, .ref in_, .ref so, .ref fr, .ref sh, .ref wo, .ref fe, .ref go, .ref fi, .ref se_, .ref th, .int (nI n), .int pl, .int (nI (a1 + 1)), .int (nI pt), .int (nI hd), .int cyc, .int rds, .int wrs, .int fts, .int (nI thr), .int (bI wcm), .int (bI bcm), .int wd0, .int ab]))]) C hK hH 5 16 tyX3 tyX3_ok nmX3 rfl rfl inX3 (by decide) tw_554 rfl rfl rfl (Nat.le_of_ble_eq_true rfl) rfl dX3_setting_135 (fun H locs hH => ?_)
                  refine lv_aload_n C.x C.b dX3_setting_138 rfl (lv_at hl 6 rfl) ?_
                  refine lv_bipush (v := nI 61) C.x C.b dX3_setting_139 (by decide) ?_
                  refine kV (As := [.int (nI 61)]) (isC := [5, 4]) (isR := [0, 1, 2, 3]) (wr := [(so, .inl (D.1 11, 65, .inl (upd Bso 64 (nI o0)))), (fr, .inl (D.1 11, 65, .inl (upd Bfr 64 (oI (some 0))))), (in_, .inl (D.1 11, 65, .inl (upd Bin 64 (nI m1)))), (sh, .inl (D.1 11, 65, .inl (upd Bsh 64 (nI 0))))]) C hK hH (m_has l htr D H.size m0 tm rgm mem bym in_ so fr sh wo fe go fi se_ th n pl (a1 + 1) pt hd cyc rds wrs fts thr wcm bcm wd0 ab t 61 hn (by omega) ht (by omega)) ⟨rfl, rfl, rfl, rfl, by decide⟩ 5 rfl rfl tw_652 tw_654 ts_26 tw_4 kX3_has ⟨by decide +kernel, by decide +kernel, (by decide +kernel : (parseMethodDescriptor yX3_has.desc).map (fun d => d.parameters.length) = some 1)⟩ ⟨(Nat.le_of_ble_eq_true rfl), (Nat.le_of_ble_eq_true rfl)⟩ hl.1 (Nat.le_of_ble_eq_true rfl) dX3_setting_141 ⟨(Nat.le_of_ble_eq_true rfl), (Nat.le_of_ble_eq_true rfl)⟩ (fun v9 w9 H locs hN hH => ?_) (fun _ _ _ _ _ _ h => False.elim h)
                  rcases hN with ⟨k_141, kl_141, rfl, rfl⟩ | ⟨k_141, rfl, rfl⟩
                  · have hH : Hp D A s ([(so, .inl (D.1 11, 65, .inl (upd Bso 64 (nI o0)))), (fr, .inl (D.1 11, 65, .inl (upd Bfr 64 (oI (some 0))))), (in_, .inl (D.1 11, 65, .inl (upd Bin 64 (nI m1)))), (sh, .inl (D.1 11, 65, .inl (upd Bsh 64 (nI 0)))), (m0, .inr (3, [.ref tm, .ref rgm, .ref mem, .ref bym, .ref in_, .ref so, .ref fr, .ref sh, .ref wo, .ref fe, .ref go, .ref fi, .ref se_, .ref th, .int (nI n), .int pl, .int (nI (a1 + 1 + 1)), .int (nI pt), .int (nI hd), .int cyc, .int rds, .int wrs, .int fts, .int (nI thr), .int (bI wcm), .int (bI bcm), .int wd0, .int ab])), (tm, .inl (D.1 11, 40, .inl (fun j => nI (t j))))]) H locs := hH
                    refine W.eq (g2 := F0 m 144 ls [.int (nI 1)]) rfl ?_
                    refine vn_if_ne (tgt := 149) C.x C.b dX3_setting_144 (by decide) (by omega) (fun _ => ?_) (fun q => absurd q (by decide))
                    refine lv_aload_n C.x C.b dX3_setting_149 rfl (lv_at hl 6 rfl) ?_
                    refine gGet (v := .ref in_) C hK hH 4 4 rfl rfl inX3 (by decide) tw_542 rfl dX3_setting_150 ?_
                    refine lv_bipush (v := nI 64) C.x C.b dX3_setting_153 (by decide) ?_
                    refine lv_dup2_11 C.x C.b dX3_setting_155 rfl rfl ?_
                    refine gIald (v := (nI m1)) C hK hH 2 rfl (by omega) (by decide) dX3_setting_156 rfl ?_
                    refine lv_iconst (v := nI 1) C.x C.b dX3_setting_157 (by decide) ?_
                    refine lv_iload_n C.x C.b dX3_setting_158 rfl (lv_at hl 3 rfl) ?_
                    refine lv_ishl C.x C.b dX3_setting_159 ?_
                    refine lv_ior C.x C.b dX3_setting_160 ?_
                    refine vt_top (y := nI (m1 ||| 2 ^ y_16)) (orbit (by omega)) ?_
                    refine gIast (f' := upd Bin 64 (nI (m1 ||| 2 ^ y_16))) (ws' := [(so, .inl (D.1 11, 65, .inl (upd Bso 64 (nI o0)))), (fr, .inl (D.1 11, 65, .inl (upd Bfr 64 (oI (some 0))))), (in_, .inl (D.1 11, 65, .inl (upd Bin 64 (nI (m1 ||| 2 ^ y_16))))), (sh, .inl (D.1 11, 65, .inl (upd Bsh 64 (nI 0)))), (m0, .inr (3, [.ref tm, .ref rgm, .ref mem, .ref bym, .ref in_, .ref so, .ref fr, .ref sh, .ref wo, .ref fe, .ref go, .ref fi, .ref se_, .ref th, .int (nI n), .int pl, .int (nI (a1 + 1 + 1)), .int (nI pt), .int (nI hd), .int cyc, .int rds, .int wrs, .int fts, .int (nI thr), .int (bI wcm), .int (bI bcm), .int wd0, .int ab])), (tm, .inl (D.1 11, 40, .inl (fun j => nI (t j))))]) C hK hH 2 rfl (by omega) (by decide) (upd_upd _ _ _ _) rfl dX3_setting_161 (fun H locs hH => ?_)
                    refine lv_iinc (v := (nI (y + 1))) (lv' := [(1, .int (nI (y + 1))), (6, .int (nI 1)), (5, .int (nI 1)), (4, .int (nI 0)), (3, .int (nI y_16)), (2, .int (nI 1)), (0, .ref m0)]) C.x C.b dX3_setting_162 hl (k := 4) rfl (by rw [show Int32.ofInt 1 = nI 1 from by decide, nI_add]) (by decide) rfl (fun ls hl => ?_)
                    refine lv_goto (tgt := 170) C.x C.b dX3_setting_165 (by decide) ?_
                    refine lv_goto (tgt := 4) C.x C.b dX3_setting_170 (by decide) ?_
                    have hH : Hp D A s ([(m0, .inr (3, [.ref tm, .ref rgm, .ref mem, .ref bym, .ref in_, .ref so, .ref fr, .ref sh, .ref wo, .ref fe, .ref go, .ref fi, .ref se_, .ref th, .int (nI n), .int pl, .int (nI (a1 + 1 + 1)), .int (nI pt), .int (nI hd), .int cyc, .int rds, .int wrs, .int fts, .int (nI thr), .int (bI wcm), .int (bI bcm), .int wd0, .int ab])), (tm, .inl (D.1 11, 40, .inl (fun j => nI (t j)))), (so, .inl (D.1 11, 65, .inl (upd Bso 64 (nI o0)))), (fr, .inl (D.1 11, 65, .inl (upd Bfr 64 (oI (some 0))))), (in_, .inl (D.1 11, 65, .inl (upd Bin 64 (nI (m1 ||| 2 ^ y_16))))), (sh, .inl (D.1 11, 65, .inl (upd Bsh 64 (nI 0))))]) H locs := Hp.reo hH [4, 5, 0, 1, 2, 3] rfl 6 rfl (by decide)
                    exact ih (y + 1) (a1 + 1 + 1) (m1 ||| 2 ^ y_16) (by omega) (by omega) (by omega) (or512 hm1 (by omega)) (fun q => absurd q (by omega)) (fun _ => ⟨orne, by omega⟩) (by rw [← hT]; exact (tl_go (by omega) hta k_141).symm) (by omega) _ _ hH ls (lv_sub hl [0, 5, 6] rfl)
                  · have hH : Hp D A s ([(so, .inl (D.1 11, 65, .inl (upd Bso 64 (nI o0)))), (fr, .inl (D.1 11, 65, .inl (upd Bfr 64 (oI (some 0))))), (in_, .inl (D.1 11, 65, .inl (upd Bin 64 (nI m1)))), (sh, .inl (D.1 11, 65, .inl (upd Bsh 64 (nI 0)))), (m0, .inr (3, [.ref tm, .ref rgm, .ref mem, .ref bym, .ref in_, .ref so, .ref fr, .ref sh, .ref wo, .ref fe, .ref go, .ref fi, .ref se_, .ref th, .int (nI n), .int pl, .int (nI (a1 + 1)), .int (nI pt), .int (nI hd), .int cyc, .int rds, .int wrs, .int fts, .int (nI thr), .int (bI wcm), .int (bI bcm), .int wd0, .int ab])), (tm, .inl (D.1 11, 40, .inl (fun j => nI (t j))))]) H locs := hH
                    refine W.eq (g2 := F0 m 144 ls [.int (nI 0)]) rfl ?_
                    refine vn_if_ne (tgt := 149) C.x C.b dX3_setting_144 (by decide) (by omega) (fun q => absurd q (by decide)) (fun _ => ?_)
                    refine lv_iconst (v := nI 0) C.x C.b dX3_setting_147 (by decide) ?_
                    have hH : Hp D A s ([(m0, .inr (3, [.ref tm, .ref rgm, .ref mem, .ref bym, .ref in_, .ref so, .ref fr, .ref sh, .ref wo, .ref fe, .ref go, .ref fi, .ref se_, .ref th, .int (nI n), .int pl, .int (nI (a1 + 1)), .int (nI pt), .int (nI hd), .int cyc, .int rds, .int wrs, .int fts, .int (nI thr), .int (bI wcm), .int (bI bcm), .int wd0, .int ab])), (tm, .inl (D.1 11, 40, .inl (fun j => nI (t j)))), (so, .inl (D.1 11, 65, .inl (upd Bso 64 (nI o0)))), (fr, .inl (D.1 11, 65, .inl (upd Bfr 64 (oI (some 0))))), (in_, .inl (D.1 11, 65, .inl (upd Bin 64 (nI m1)))), (sh, .inl (D.1 11, 65, .inl (upd Bsh 64 (nI 0))))]) H locs := Hp.reo hH [4, 5, 0, 1, 2, 3] rfl 6 rfl (by decide)
                    exact rZ C hr (by decide) hH (Or.inr ⟨a1 + 1, pt, m1, o0, some 0, 0, by unfold se; rw [← hT, tl_fail (by omega) hta k_141], by omega, rfl, rfl⟩) (Nat.le_of_ble_eq_true rfl) (Nat.le_of_ble_eq_true rfl) dX3_setting_148
                · refine lv_iload C.x C.b dX3_setting_103 (lv_at hl 0 rfl) ?_
                  refine vn_if_ne (tgt := 110) C.x C.b dX3_setting_105 (by decide) (by omega) (fun _ => ?_) (fun q => absurd q (by decide))
                  refine lv_iload C.x C.b dX3_setting_110 (lv_at hl 0 rfl) ?_
                  refine vn_if_eq (tgt := 168) C.x C.b dX3_setting_112 (by decide) (by omega) (fun q => absurd q (by decide)) (fun _ => ?_)
                  refine lv_iload C.x C.b dX3_setting_115 (lv_at hl 1 rfl) ?_
                  refine vn_if_ne (tgt := 128) C.x C.b dX3_setting_117 (by decide) (by omega) (fun _ => ?_) (fun q => absurd q (by decide))
                  have hta : ta t n a1 m1 = some y_16 := ta_some hy1 hy2 hy3 c_32 (by first | exact Or.inl (hz (by omega)).2 | exact Or.inr (Or.inl (by omega)) | exact Or.inr (Or.inr (tk_t (by omega) (by omega))))
                  refine lv_aload_n C.x C.b dX3_setting_128 rfl (lv_at hl 6 rfl) ?_
                  refine lv_dup C.x C.b dX3_setting_129 rfl ?_
                  refine gGet (v := .int (nI a1)) C hK hH 5 16 rfl rfl inX3 (by decide) tw_554 rfl dX3_setting_130 ?_
                  refine lv_iconst (v := nI 1) C.x C.b dX3_setting_133 (by decide) ?_
                  refine lv_iadd C.x C.b dX3_setting_134 ?_
                  refine vt_top (nI_add _ _) ?_
                  refine gPut (v := .int (nI (a1 + 1))) (ws' := [(so, .inl (D.1 11, 65, .inl (upd Bso 64 (nI o0)))), (fr, .inl (D.1 11, 65, .inl (upd Bfr 64 (oI (some 0))))), (in_, .inl (D.1 11, 65, .inl (upd Bin 64 (nI m1)))), (sh, .inl (D.1 11, 65, .inl (upd Bsh 64 (nI 0)))), (tm, .inl (D.1 11, 40, .inl (fun j => nI (t j)))), (m0, .inr (3, [.ref tm, .ref rgm, .ref mem, .ref bym, .ref in_, .ref so, .ref fr, .ref sh, .ref wo, .ref fe, .ref go, .ref fi, .ref se_, .ref th, .int (nI n), .int pl, .int (nI (a1 + 1)), .int (nI pt), .int (nI hd), .int cyc, .int rds, .int wrs, .int fts, .int (nI thr), .int (bI wcm), .int (bI bcm), .int wd0, .int ab]))]) C hK hH 5 16 tyX3 tyX3_ok nmX3 rfl rfl inX3 (by decide) tw_554 rfl rfl rfl (Nat.le_of_ble_eq_true rfl) rfl dX3_setting_135 (fun H locs hH => ?_)
                  refine lv_aload_n C.x C.b dX3_setting_138 rfl (lv_at hl 6 rfl) ?_
                  refine lv_bipush (v := nI 61) C.x C.b dX3_setting_139 (by decide) ?_
                  refine kV (As := [.int (nI 61)]) (isC := [5, 4]) (isR := [0, 1, 2, 3]) (wr := [(so, .inl (D.1 11, 65, .inl (upd Bso 64 (nI o0)))), (fr, .inl (D.1 11, 65, .inl (upd Bfr 64 (oI (some 0))))), (in_, .inl (D.1 11, 65, .inl (upd Bin 64 (nI m1)))), (sh, .inl (D.1 11, 65, .inl (upd Bsh 64 (nI 0))))]) C hK hH (m_has l htr D H.size m0 tm rgm mem bym in_ so fr sh wo fe go fi se_ th n pl (a1 + 1) pt hd cyc rds wrs fts thr wcm bcm wd0 ab t 61 hn (by omega) ht (by omega)) ⟨rfl, rfl, rfl, rfl, by decide⟩ 5 rfl rfl tw_652 tw_654 ts_26 tw_4 kX3_has ⟨by decide +kernel, by decide +kernel, (by decide +kernel : (parseMethodDescriptor yX3_has.desc).map (fun d => d.parameters.length) = some 1)⟩ ⟨(Nat.le_of_ble_eq_true rfl), (Nat.le_of_ble_eq_true rfl)⟩ hl.1 (Nat.le_of_ble_eq_true rfl) dX3_setting_141 ⟨(Nat.le_of_ble_eq_true rfl), (Nat.le_of_ble_eq_true rfl)⟩ (fun v9 w9 H locs hN hH => ?_) (fun _ _ _ _ _ _ h => False.elim h)
                  rcases hN with ⟨k_141, kl_141, rfl, rfl⟩ | ⟨k_141, rfl, rfl⟩
                  · have hH : Hp D A s ([(so, .inl (D.1 11, 65, .inl (upd Bso 64 (nI o0)))), (fr, .inl (D.1 11, 65, .inl (upd Bfr 64 (oI (some 0))))), (in_, .inl (D.1 11, 65, .inl (upd Bin 64 (nI m1)))), (sh, .inl (D.1 11, 65, .inl (upd Bsh 64 (nI 0)))), (m0, .inr (3, [.ref tm, .ref rgm, .ref mem, .ref bym, .ref in_, .ref so, .ref fr, .ref sh, .ref wo, .ref fe, .ref go, .ref fi, .ref se_, .ref th, .int (nI n), .int pl, .int (nI (a1 + 1 + 1)), .int (nI pt), .int (nI hd), .int cyc, .int rds, .int wrs, .int fts, .int (nI thr), .int (bI wcm), .int (bI bcm), .int wd0, .int ab])), (tm, .inl (D.1 11, 40, .inl (fun j => nI (t j))))]) H locs := hH
                    refine W.eq (g2 := F0 m 144 ls [.int (nI 1)]) rfl ?_
                    refine vn_if_ne (tgt := 149) C.x C.b dX3_setting_144 (by decide) (by omega) (fun _ => ?_) (fun q => absurd q (by decide))
                    refine lv_aload_n C.x C.b dX3_setting_149 rfl (lv_at hl 6 rfl) ?_
                    refine gGet (v := .ref in_) C hK hH 4 4 rfl rfl inX3 (by decide) tw_542 rfl dX3_setting_150 ?_
                    refine lv_bipush (v := nI 64) C.x C.b dX3_setting_153 (by decide) ?_
                    refine lv_dup2_11 C.x C.b dX3_setting_155 rfl rfl ?_
                    refine gIald (v := (nI m1)) C hK hH 2 rfl (by omega) (by decide) dX3_setting_156 rfl ?_
                    refine lv_iconst (v := nI 1) C.x C.b dX3_setting_157 (by decide) ?_
                    refine lv_iload_n C.x C.b dX3_setting_158 rfl (lv_at hl 3 rfl) ?_
                    refine lv_ishl C.x C.b dX3_setting_159 ?_
                    refine lv_ior C.x C.b dX3_setting_160 ?_
                    refine vt_top (y := nI (m1 ||| 2 ^ y_16)) (orbit (by omega)) ?_
                    refine gIast (f' := upd Bin 64 (nI (m1 ||| 2 ^ y_16))) (ws' := [(so, .inl (D.1 11, 65, .inl (upd Bso 64 (nI o0)))), (fr, .inl (D.1 11, 65, .inl (upd Bfr 64 (oI (some 0))))), (in_, .inl (D.1 11, 65, .inl (upd Bin 64 (nI (m1 ||| 2 ^ y_16))))), (sh, .inl (D.1 11, 65, .inl (upd Bsh 64 (nI 0)))), (m0, .inr (3, [.ref tm, .ref rgm, .ref mem, .ref bym, .ref in_, .ref so, .ref fr, .ref sh, .ref wo, .ref fe, .ref go, .ref fi, .ref se_, .ref th, .int (nI n), .int pl, .int (nI (a1 + 1 + 1)), .int (nI pt), .int (nI hd), .int cyc, .int rds, .int wrs, .int fts, .int (nI thr), .int (bI wcm), .int (bI bcm), .int wd0, .int ab])), (tm, .inl (D.1 11, 40, .inl (fun j => nI (t j))))]) C hK hH 2 rfl (by omega) (by decide) (upd_upd _ _ _ _) rfl dX3_setting_161 (fun H locs hH => ?_)
                    refine lv_iinc (v := (nI (y + 1))) (lv' := [(1, .int (nI (y + 1))), (6, .int (nI 1)), (5, .int (nI 1)), (4, .int (nI 0)), (3, .int (nI y_16)), (2, .int (nI 1)), (0, .ref m0)]) C.x C.b dX3_setting_162 hl (k := 4) rfl (by rw [show Int32.ofInt 1 = nI 1 from by decide, nI_add]) (by decide) rfl (fun ls hl => ?_)
                    refine lv_goto (tgt := 170) C.x C.b dX3_setting_165 (by decide) ?_
                    refine lv_goto (tgt := 4) C.x C.b dX3_setting_170 (by decide) ?_
                    have hH : Hp D A s ([(m0, .inr (3, [.ref tm, .ref rgm, .ref mem, .ref bym, .ref in_, .ref so, .ref fr, .ref sh, .ref wo, .ref fe, .ref go, .ref fi, .ref se_, .ref th, .int (nI n), .int pl, .int (nI (a1 + 1 + 1)), .int (nI pt), .int (nI hd), .int cyc, .int rds, .int wrs, .int fts, .int (nI thr), .int (bI wcm), .int (bI bcm), .int wd0, .int ab])), (tm, .inl (D.1 11, 40, .inl (fun j => nI (t j)))), (so, .inl (D.1 11, 65, .inl (upd Bso 64 (nI o0)))), (fr, .inl (D.1 11, 65, .inl (upd Bfr 64 (oI (some 0))))), (in_, .inl (D.1 11, 65, .inl (upd Bin 64 (nI (m1 ||| 2 ^ y_16))))), (sh, .inl (D.1 11, 65, .inl (upd Bsh 64 (nI 0))))]) H locs := Hp.reo hH [4, 5, 0, 1, 2, 3] rfl 6 rfl (by decide)
                    exact ih (y + 1) (a1 + 1 + 1) (m1 ||| 2 ^ y_16) (by omega) (by omega) (by omega) (or512 hm1 (by omega)) (fun q => absurd q (by omega)) (fun _ => ⟨orne, by omega⟩) (by rw [← hT]; exact (tl_go (by omega) hta k_141).symm) (by omega) _ _ hH ls (lv_sub hl [0, 5, 6] rfl)
                  · have hH : Hp D A s ([(so, .inl (D.1 11, 65, .inl (upd Bso 64 (nI o0)))), (fr, .inl (D.1 11, 65, .inl (upd Bfr 64 (oI (some 0))))), (in_, .inl (D.1 11, 65, .inl (upd Bin 64 (nI m1)))), (sh, .inl (D.1 11, 65, .inl (upd Bsh 64 (nI 0)))), (m0, .inr (3, [.ref tm, .ref rgm, .ref mem, .ref bym, .ref in_, .ref so, .ref fr, .ref sh, .ref wo, .ref fe, .ref go, .ref fi, .ref se_, .ref th, .int (nI n), .int pl, .int (nI (a1 + 1)), .int (nI pt), .int (nI hd), .int cyc, .int rds, .int wrs, .int fts, .int (nI thr), .int (bI wcm), .int (bI bcm), .int wd0, .int ab])), (tm, .inl (D.1 11, 40, .inl (fun j => nI (t j))))]) H locs := hH
                    refine W.eq (g2 := F0 m 144 ls [.int (nI 0)]) rfl ?_
                    refine vn_if_ne (tgt := 149) C.x C.b dX3_setting_144 (by decide) (by omega) (fun q => absurd q (by decide)) (fun _ => ?_)
                    refine lv_iconst (v := nI 0) C.x C.b dX3_setting_147 (by decide) ?_
                    have hH : Hp D A s ([(m0, .inr (3, [.ref tm, .ref rgm, .ref mem, .ref bym, .ref in_, .ref so, .ref fr, .ref sh, .ref wo, .ref fe, .ref go, .ref fi, .ref se_, .ref th, .int (nI n), .int pl, .int (nI (a1 + 1)), .int (nI pt), .int (nI hd), .int cyc, .int rds, .int wrs, .int fts, .int (nI thr), .int (bI wcm), .int (bI bcm), .int wd0, .int ab])), (tm, .inl (D.1 11, 40, .inl (fun j => nI (t j)))), (so, .inl (D.1 11, 65, .inl (upd Bso 64 (nI o0)))), (fr, .inl (D.1 11, 65, .inl (upd Bfr 64 (oI (some 0))))), (in_, .inl (D.1 11, 65, .inl (upd Bin 64 (nI m1)))), (sh, .inl (D.1 11, 65, .inl (upd Bsh 64 (nI 0))))]) H locs := Hp.reo hH [4, 5, 0, 1, 2, 3] rfl 6 rfl (by decide)
                    exact rZ C hr (by decide) hH (Or.inr ⟨a1 + 1, pt, m1, o0, some 0, 0, by unfold se; rw [← hT, tl_fail (by omega) hta k_141], by omega, rfl, rfl⟩) (Nat.le_of_ble_eq_true rfl) (Nat.le_of_ble_eq_true rfl) dX3_setting_148
        · refine lv_iconst (v := nI 1) C.x C.b dX3_setting_35 (by decide) ?_
          refine lv_goto (tgt := 40) C.x C.b dX3_setting_36 (by decide) ?_
          refine lv_istore (lv' := [(4, .int (nI 1)), (3, .int (nI y_16)), (1, .int (nI y)), (2, .int (nI 1)), (0, .ref m0)]) C.x C.b dX3_setting_40 hl (by decide) rfl (fun ls hl => ?_)
          refine lv_aload_n C.x C.b dX3_setting_42 rfl (lv_at hl 4 rfl) ?_
          refine gGet (v := .int (nI a1)) C hK hH 5 16 rfl rfl inX3 (by decide) tw_554 rfl dX3_setting_43 ?_
          refine lv_iconst (v := nI 1) C.x C.b dX3_setting_46 (by decide) ?_
          refine lv_iadd C.x C.b dX3_setting_47 ?_
          refine vt_top (nI_add _ _) ?_
          refine lv_aload_n C.x C.b dX3_setting_48 rfl (lv_at hl 4 rfl) ?_
          refine gGet (v := .int (nI n)) C hK hH 5 14 rfl rfl inX3 (by decide) tw_552 rfl dX3_setting_49 ?_
          refine vn_icmp_ge (tgt := 75) C.x C.b dX3_setting_52 (by decide) (by omega) (by omega) (fun c_52 => ?_) (fun c_52 => ?_)
          · refine lv_iconst (v := nI 0) C.x C.b dX3_setting_75 (by decide) ?_
            refine lv_istore (lv' := [(5, .int (nI 0)), (4, .int (nI 1)), (3, .int (nI y_16)), (1, .int (nI y)), (2, .int (nI 1)), (0, .ref m0)]) C.x C.b dX3_setting_76 hl (by decide) rfl (fun ls hl => ?_)
            refine lv_iload_n C.x C.b dX3_setting_78 rfl (lv_at hl 2 rfl) ?_
            refine vn_if_lt (tgt := 96) C.x C.b dX3_setting_79 (by decide) (by omega) ?_
            refine lv_iload C.x C.b dX3_setting_82 (lv_at hl 1 rfl) ?_
            refine vn_if_ne (tgt := 96) C.x C.b dX3_setting_84 (by decide) (by omega) (fun _ => ?_) (fun q => absurd q (by decide))
            refine lv_iconst (v := nI 0) C.x C.b dX3_setting_96 (by decide) ?_
            refine lv_istore (lv' := [(6, .int (nI 0)), (5, .int (nI 0)), (4, .int (nI 1)), (3, .int (nI y_16)), (1, .int (nI y)), (2, .int (nI 1)), (0, .ref m0)]) C.x C.b dX3_setting_97 hl (by decide) rfl (fun ls hl => ?_)
            refine lv_iload_n C.x C.b dX3_setting_99 rfl (lv_at hl 4 rfl) ?_
            refine vn_if_ne (tgt := 110) C.x C.b dX3_setting_100 (by decide) (by omega) (fun c_100 => ?_) (fun c_100 => ?_)
            · refine lv_iload C.x C.b dX3_setting_110 (lv_at hl 0 rfl) ?_
              refine vn_if_eq (tgt := 168) C.x C.b dX3_setting_112 (by decide) (by omega) (fun _ => ?_) (fun q => absurd q (by decide))
              refine lv_iconst (v := nI 0) C.x C.b dX3_setting_168 (by decide) ?_
              refine lv_istore_n (lv' := [(2, .int (nI 0)), (6, .int (nI 0)), (5, .int (nI 0)), (4, .int (nI 1)), (3, .int (nI y_16)), (1, .int (nI y)), (0, .ref m0)]) C.x C.b dX3_setting_169 rfl hl (by decide) rfl (fun ls hl => ?_)
              refine lv_goto (tgt := 4) C.x C.b dX3_setting_170 (by decide) ?_
              refine lv_iload_n C.x C.b dX3_setting_4 rfl (lv_at hl 0 rfl) ?_
              refine vn_if_eq (tgt := 173) C.x C.b dX3_setting_5 (by decide) (by omega) (fun _ => ?_) (fun q => absurd q (by decide))
              have hH : Hp D A s ([(m0, .inr (3, [.ref tm, .ref rgm, .ref mem, .ref bym, .ref in_, .ref so, .ref fr, .ref sh, .ref wo, .ref fe, .ref go, .ref fi, .ref se_, .ref th, .int (nI n), .int pl, .int (nI a1), .int (nI pt), .int (nI hd), .int cyc, .int rds, .int wrs, .int fts, .int (nI thr), .int (bI wcm), .int (bI bcm), .int wd0, .int ab])), (tm, .inl (D.1 11, 40, .inl (fun j => nI (t j)))), (so, .inl (D.1 11, 65, .inl (upd Bso 64 (nI o0)))), (fr, .inl (D.1 11, 65, .inl (upd Bfr 64 (oI (some 0))))), (in_, .inl (D.1 11, 65, .inl (upd Bin 64 (nI m1)))), (sh, .inl (D.1 11, 65, .inl (upd Bsh 64 (nI 0))))]) H locs := Hp.reo hH [5, 4, 0, 1, 2, 3] rfl 6 rfl (by decide)
              exact K_173 (by rw [← hT]; exact tl_stop (by first | exact Or.inl (by omega) | exact Or.inr (ta_stI hx_16) | exact Or.inr (ta_bad hy2 (fun ⟨q1, q2, q3⟩ => by first | (rw [c_32] at q2; exact absurd q2 (by decide)) | (rcases q3 with q | q | q <;> first | exact (hnz (by omega)).1 q | omega | (have h1 := tk_lt q; have h2 := tk_eq q; omega)))))) (hnz (by omega)).1 (hnz (by omega)).2 _ _ hH ls (lv_sub hl [6] rfl)
            · refine lv_iload C.x C.b dX3_setting_103 (lv_at hl 0 rfl) ?_
              refine vn_if_ne (tgt := 110) C.x C.b dX3_setting_105 (by decide) (by omega) (fun q => absurd q (by decide)) (fun _ => ?_)
              exfalso
              obtain ⟨e1, e2⟩ := hz c_100
              subst e1
              subst e2
              first | exact h0 hx_16 | (simp at c_32; done) | omega
          · refine lv_aload_n C.x C.b dX3_setting_55 rfl (lv_at hl 4 rfl) ?_
            refine gGet (v := .ref tm) C hK hH 5 0 rfl rfl inX3 (by decide) tw_538 rfl dX3_setting_56 ?_
            refine lv_aload_n C.x C.b dX3_setting_59 rfl (lv_at hl 4 rfl) ?_
            refine gGet (v := .int (nI a1)) C hK hH 5 16 rfl rfl inX3 (by decide) tw_554 rfl dX3_setting_60 ?_
            refine lv_iconst (v := nI 1) C.x C.b dX3_setting_63 (by decide) ?_
            refine lv_iadd C.x C.b dX3_setting_64 ?_
            refine vt_top (nI_add _ _) ?_
            have hf_65 := ht (a1 + 1)
            refine gIald (v := (nI (t (a1 + 1)))) C hK hH 4 rfl (by omega) (by decide) dX3_setting_65 rfl ?_
            refine lv_bipush (v := nI 61) C.x C.b dX3_setting_66 (by decide) ?_
            refine vn_icmp_ne (tgt := 75) C.x C.b dX3_setting_68 (by decide) (by omega) (by omega) (fun c_68 => ?_) (fun c_68 => ?_)
            · refine lv_iconst (v := nI 0) C.x C.b dX3_setting_75 (by decide) ?_
              refine lv_istore (lv' := [(5, .int (nI 0)), (4, .int (nI 1)), (3, .int (nI y_16)), (1, .int (nI y)), (2, .int (nI 1)), (0, .ref m0)]) C.x C.b dX3_setting_76 hl (by decide) rfl (fun ls hl => ?_)
              refine lv_iload_n C.x C.b dX3_setting_78 rfl (lv_at hl 2 rfl) ?_
              refine vn_if_lt (tgt := 96) C.x C.b dX3_setting_79 (by decide) (by omega) ?_
              refine lv_iload C.x C.b dX3_setting_82 (lv_at hl 1 rfl) ?_
              refine vn_if_ne (tgt := 96) C.x C.b dX3_setting_84 (by decide) (by omega) (fun _ => ?_) (fun q => absurd q (by decide))
              refine lv_iconst (v := nI 0) C.x C.b dX3_setting_96 (by decide) ?_
              refine lv_istore (lv' := [(6, .int (nI 0)), (5, .int (nI 0)), (4, .int (nI 1)), (3, .int (nI y_16)), (1, .int (nI y)), (2, .int (nI 1)), (0, .ref m0)]) C.x C.b dX3_setting_97 hl (by decide) rfl (fun ls hl => ?_)
              refine lv_iload_n C.x C.b dX3_setting_99 rfl (lv_at hl 4 rfl) ?_
              refine vn_if_ne (tgt := 110) C.x C.b dX3_setting_100 (by decide) (by omega) (fun c_100 => ?_) (fun c_100 => ?_)
              · refine lv_iload C.x C.b dX3_setting_110 (lv_at hl 0 rfl) ?_
                refine vn_if_eq (tgt := 168) C.x C.b dX3_setting_112 (by decide) (by omega) (fun _ => ?_) (fun q => absurd q (by decide))
                refine lv_iconst (v := nI 0) C.x C.b dX3_setting_168 (by decide) ?_
                refine lv_istore_n (lv' := [(2, .int (nI 0)), (6, .int (nI 0)), (5, .int (nI 0)), (4, .int (nI 1)), (3, .int (nI y_16)), (1, .int (nI y)), (0, .ref m0)]) C.x C.b dX3_setting_169 rfl hl (by decide) rfl (fun ls hl => ?_)
                refine lv_goto (tgt := 4) C.x C.b dX3_setting_170 (by decide) ?_
                refine lv_iload_n C.x C.b dX3_setting_4 rfl (lv_at hl 0 rfl) ?_
                refine vn_if_eq (tgt := 173) C.x C.b dX3_setting_5 (by decide) (by omega) (fun _ => ?_) (fun q => absurd q (by decide))
                have hH : Hp D A s ([(m0, .inr (3, [.ref tm, .ref rgm, .ref mem, .ref bym, .ref in_, .ref so, .ref fr, .ref sh, .ref wo, .ref fe, .ref go, .ref fi, .ref se_, .ref th, .int (nI n), .int pl, .int (nI a1), .int (nI pt), .int (nI hd), .int cyc, .int rds, .int wrs, .int fts, .int (nI thr), .int (bI wcm), .int (bI bcm), .int wd0, .int ab])), (tm, .inl (D.1 11, 40, .inl (fun j => nI (t j)))), (so, .inl (D.1 11, 65, .inl (upd Bso 64 (nI o0)))), (fr, .inl (D.1 11, 65, .inl (upd Bfr 64 (oI (some 0))))), (in_, .inl (D.1 11, 65, .inl (upd Bin 64 (nI m1)))), (sh, .inl (D.1 11, 65, .inl (upd Bsh 64 (nI 0))))]) H locs := Hp.reo hH [5, 4, 0, 1, 2, 3] rfl 6 rfl (by decide)
                exact K_173 (by rw [← hT]; exact tl_stop (by first | exact Or.inl (by omega) | exact Or.inr (ta_stI hx_16) | exact Or.inr (ta_bad hy2 (fun ⟨q1, q2, q3⟩ => by first | (rw [c_32] at q2; exact absurd q2 (by decide)) | (rcases q3 with q | q | q <;> first | exact (hnz (by omega)).1 q | omega | (have h1 := tk_lt q; have h2 := tk_eq q; omega)))))) (hnz (by omega)).1 (hnz (by omega)).2 _ _ hH ls (lv_sub hl [6] rfl)
              · refine lv_iload C.x C.b dX3_setting_103 (lv_at hl 0 rfl) ?_
                refine vn_if_ne (tgt := 110) C.x C.b dX3_setting_105 (by decide) (by omega) (fun q => absurd q (by decide)) (fun _ => ?_)
                exfalso
                obtain ⟨e1, e2⟩ := hz c_100
                subst e1
                subst e2
                first | exact h0 hx_16 | (simp at c_32; done) | omega
            · refine lv_iconst (v := nI 1) C.x C.b dX3_setting_71 (by decide) ?_
              refine lv_goto (tgt := 76) C.x C.b dX3_setting_72 (by decide) ?_
              refine lv_istore (lv' := [(5, .int (nI 1)), (4, .int (nI 1)), (3, .int (nI y_16)), (1, .int (nI y)), (2, .int (nI 1)), (0, .ref m0)]) C.x C.b dX3_setting_76 hl (by decide) rfl (fun ls hl => ?_)
              refine lv_iload_n C.x C.b dX3_setting_78 rfl (lv_at hl 2 rfl) ?_
              refine vn_if_lt (tgt := 96) C.x C.b dX3_setting_79 (by decide) (by omega) ?_
              refine lv_iload C.x C.b dX3_setting_82 (lv_at hl 1 rfl) ?_
              refine vn_if_ne (tgt := 96) C.x C.b dX3_setting_84 (by decide) (by omega) (fun _ => ?_) (fun q => absurd q (by decide))
              refine lv_iconst (v := nI 0) C.x C.b dX3_setting_96 (by decide) ?_
              refine lv_istore (lv' := [(6, .int (nI 0)), (5, .int (nI 1)), (4, .int (nI 1)), (3, .int (nI y_16)), (1, .int (nI y)), (2, .int (nI 1)), (0, .ref m0)]) C.x C.b dX3_setting_97 hl (by decide) rfl (fun ls hl => ?_)
              refine lv_iload_n C.x C.b dX3_setting_99 rfl (lv_at hl 4 rfl) ?_
              refine vn_if_ne (tgt := 110) C.x C.b dX3_setting_100 (by decide) (by omega) (fun c_100 => ?_) (fun c_100 => ?_)
              · refine lv_iload C.x C.b dX3_setting_110 (lv_at hl 0 rfl) ?_
                refine vn_if_eq (tgt := 168) C.x C.b dX3_setting_112 (by decide) (by omega) (fun _ => ?_) (fun q => absurd q (by decide))
                refine lv_iconst (v := nI 0) C.x C.b dX3_setting_168 (by decide) ?_
                refine lv_istore_n (lv' := [(2, .int (nI 0)), (6, .int (nI 0)), (5, .int (nI 1)), (4, .int (nI 1)), (3, .int (nI y_16)), (1, .int (nI y)), (0, .ref m0)]) C.x C.b dX3_setting_169 rfl hl (by decide) rfl (fun ls hl => ?_)
                refine lv_goto (tgt := 4) C.x C.b dX3_setting_170 (by decide) ?_
                refine lv_iload_n C.x C.b dX3_setting_4 rfl (lv_at hl 0 rfl) ?_
                refine vn_if_eq (tgt := 173) C.x C.b dX3_setting_5 (by decide) (by omega) (fun _ => ?_) (fun q => absurd q (by decide))
                have hH : Hp D A s ([(m0, .inr (3, [.ref tm, .ref rgm, .ref mem, .ref bym, .ref in_, .ref so, .ref fr, .ref sh, .ref wo, .ref fe, .ref go, .ref fi, .ref se_, .ref th, .int (nI n), .int pl, .int (nI a1), .int (nI pt), .int (nI hd), .int cyc, .int rds, .int wrs, .int fts, .int (nI thr), .int (bI wcm), .int (bI bcm), .int wd0, .int ab])), (tm, .inl (D.1 11, 40, .inl (fun j => nI (t j)))), (so, .inl (D.1 11, 65, .inl (upd Bso 64 (nI o0)))), (fr, .inl (D.1 11, 65, .inl (upd Bfr 64 (oI (some 0))))), (in_, .inl (D.1 11, 65, .inl (upd Bin 64 (nI m1)))), (sh, .inl (D.1 11, 65, .inl (upd Bsh 64 (nI 0))))]) H locs := Hp.reo hH [5, 4, 0, 1, 2, 3] rfl 6 rfl (by decide)
                exact K_173 (by rw [← hT]; exact tl_stop (by first | exact Or.inl (by omega) | exact Or.inr (ta_stI hx_16) | exact Or.inr (ta_bad hy2 (fun ⟨q1, q2, q3⟩ => by first | (rw [c_32] at q2; exact absurd q2 (by decide)) | (rcases q3 with q | q | q <;> first | exact (hnz (by omega)).1 q | omega | (have h1 := tk_lt q; have h2 := tk_eq q; omega)))))) (hnz (by omega)).1 (hnz (by omega)).2 _ _ hH ls (lv_sub hl [6] rfl)
              · refine lv_iload C.x C.b dX3_setting_103 (lv_at hl 0 rfl) ?_
                refine vn_if_ne (tgt := 110) C.x C.b dX3_setting_105 (by decide) (by omega) (fun q => absurd q (by decide)) (fun _ => ?_)
                exfalso
                obtain ⟨e1, e2⟩ := hz c_100
                subst e1
                subst e2
                first | exact h0 hx_16 | (simp at c_32; done) | omega
  exact L_4 _ 0 a 0 (by omega) ha (Nat.le_refl _) (by omega) (fun _ => ⟨rfl, rfl⟩) (fun q => absurd rfl q) rfl (Nat.lt_succ_self _) _ _ hH ls (lv_sub hl [1, 0, 2] rfl)
