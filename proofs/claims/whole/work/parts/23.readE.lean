set_option maxHeartbeats 4000000 in
set_option maxRecDepth 100000 in
theorem c_readSetting (l : Launch) (htr : l.stackTraces = false) (D : va_G) (sz : Nat) (h0 tx dr : Nat) (t : Nat → Nat) (n a : Nat) (f0 f5 : Nat) (f6 : Bool) (f7 : Nat) (f8 f9 : Option Nat) (hn : n ≤ 40) (ha : a ≤ n) (ht : ∀ j, t j < 128) : Ct l yX1_readSetting wX1_readSetting { frames := 7, cells := 0, slots := 0, locals := 152 } D ([(h0, .inr (1, [.ref tx, .int (nI n), .int (nI a), .ref dr])), (tx, .inl (D.1 10, 40, .inl (fun j => nI (t j)))), (dr, .inr (0, [.int (nI f0), .int (nI 0), .int (nI 0), .int (nI 0), .int (nI 0), .int (nI f5), .int (bI f6), .int (nI f7), .int (oI f8), .int (oI f9)]))]) [.ref h0] sz (fun v w => (∃ q, se t n a = .inr q ∧ q.1 ≤ n ∧ q.2.1 < 512 ∧ v = some (.int (nI 1)) ∧ w = [(h0, .inr (1, [.ref tx, .int (nI n), .int (nI q.1), .ref dr])), (tx, .inl (D.1 10, 40, .inl (fun j => nI (t j)))), (dr, .inr (0, [.int (nI f0), .int (nI q.2.1), .int (nI q.2.2.1), .int (nI (q.2.2.2.1.getD 0)), .int (nI q.2.2.2.2), .int (nI f5), .int (bI f6), .int (nI f7), .int (oI f8), .int (oI f9)]))]) ∨ (∃ a9 g1 g2 g3, se t n a = .inl a9 ∧ a9 ≤ n ∧ v = some (.int (nI 0)) ∧ w = [(h0, .inr (1, [.ref tx, .int (nI n), .int (nI a9), .ref dr])), (tx, .inl (D.1 10, 40, .inl (fun j => nI (t j)))), (dr, .inr (0, [.int (nI f0), .int (nI g1), .int (nI g2), .int (nI g3), .int (nI 0), .int (nI f5), .int (bI f6), .int (nI f7), .int (oI f8), .int (oI f9)]))])) (nox) := by
  refine Ct.of (cc := cX1_readSetting) (nL := 2) (ret := (some .boolean)) (own := RX1) htr (by decide) rfl (Nat.le_of_ble_eq_true rfl) ?_
  intro p e s m args below meth c A C hr hK H locs hH ls hl
  have hl : lv_has ls 2 [(0, .ref h0)] := hl
  refine lv_iconst (v := nI 0) C.x C.b dX1_readSetting_0 (by decide) ?_
  refine lv_istore_n (lv' := [(1, .int (nI 0)), (0, .ref h0)]) C.x C.b dX1_readSetting_1 rfl hl (by decide) rfl (fun ls hl => ?_)
  have L_2 : ∀ (fuel : Nat) (i : Nat) (a1 : Nat) (m1 : Nat) (hi4 : i ≤ 4) (ha1 : a1 ≤ n) (hm1 : m1 < 512) (hT : tl t n (4 - i) a1 m1 = tl t n 4 a 0), 4 - i < fuel → ∀ (H : Heap) (locs : List Loc), Hp D A s ([(h0, .inr (1, [.ref tx, .int (nI n), .int (nI a1), .ref dr])), (tx, .inl (D.1 10, 40, .inl (fun j => nI (t j)))), (dr, .inr (0, [.int (nI f0), .int (nI m1), .int (nI 0), .int (nI 0), .int (nI 0), .int (nI f5), .int (bI f6), .int (nI f7), .int (oI f8), .int (oI f9)]))]) H locs → ∀ ls : Array Slot, lv_has ls 2 [(1, .int (nI i)), (0, .ref h0)] → W p l e { frames := 7, cells := 0, slots := 0, locals := 152 } s m args below meth c H locs 0 0 (Qf below args s D A (fun v w => (∃ q, se t n a = .inr q ∧ q.1 ≤ n ∧ q.2.1 < 512 ∧ v = some (.int (nI 1)) ∧ w = [(h0, .inr (1, [.ref tx, .int (nI n), .int (nI q.1), .ref dr])), (tx, .inl (D.1 10, 40, .inl (fun j => nI (t j)))), (dr, .inr (0, [.int (nI f0), .int (nI q.2.1), .int (nI q.2.2.1), .int (nI (q.2.2.2.1.getD 0)), .int (nI q.2.2.2.2), .int (nI f5), .int (bI f6), .int (nI f7), .int (oI f8), .int (oI f9)]))]) ∨ (∃ a9 g1 g2 g3, se t n a = .inl a9 ∧ a9 ≤ n ∧ v = some (.int (nI 0)) ∧ w = [(h0, .inr (1, [.ref tx, .int (nI n), .int (nI a9), .ref dr])), (tx, .inl (D.1 10, 40, .inl (fun j => nI (t j)))), (dr, .inr (0, [.int (nI f0), .int (nI g1), .int (nI g2), .int (nI g3), .int (nI 0), .int (nI f5), .int (bI f6), .int (nI f7), .int (oI f8), .int (oI f9)]))])) (nox) { frames := 7, cells := 0, slots := 0, locals := 152 }) (F0 m 2 ls []) := by
    intro fuel
    induction fuel with
    | zero => intro i a1 m1 hi4 ha1 hm1 hT hm; exact absurd hm (Nat.not_lt_zero _)
    | succ fuel ih =>
      intro i a1 m1 hi4 ha1 hm1 hT hm H locs hH ls hl
      refine lv_iload_n C.x C.b dX1_readSetting_2 rfl (lv_at hl 0 rfl) ?_
      refine lv_iconst (v := nI 4) C.x C.b dX1_readSetting_3 (by decide) ?_
      refine vn_icmp_ge (tgt := 69) C.x C.b dX1_readSetting_4 (by decide) (by omega) (by omega) (fun c_4 => ?_) (fun c_4 => ?_)
      · have hE : tl t n 4 a 0 = .inr (a1, m1) := by rw [← hT]; exact tl_stop (by first | exact Or.inl (by omega) | exact Or.inr hk_8)
        refine lv_aload_n C.x C.b dX1_readSetting_69 rfl (lv_at hl 1 rfl) ?_
        refine gGet (v := .ref dr) C hK hH 0 3 rfl rfl inX1 (by decide) tw_89 rfl dX1_readSetting_70 ?_
        refine gGetN (v := .int (nI m1)) C hK hH 2 1 rfl rfl inX0 (by decide) (nwl_of tn_41 rfl) rfl dX1_readSetting_73 ?_
        refine vn_if_ne (tgt := 81) C.x C.b dX1_readSetting_76 (by decide) (by omega) (fun c_76 => ?_) (fun c_76 => ?_)
        · refine lv_aload_n C.x C.b dX1_readSetting_81 rfl (lv_at hl 1 rfl) ?_
          refine kV (As := []) (isC := [0, 1, 2]) (isR := []) (wr := []) C hK hH (c_readValue l htr D H.size h0 tx dr t n a1 f0 m1 0 0 0 f5 f6 f7 f8 f9 hn (by omega) ht) ⟨rfl, rfl, rfl, rfl, by decide⟩ 0 rfl rfl tw_374 tw_376 ts_8 tw_2 kX1_readValue ⟨by decide +kernel, by decide +kernel, (by decide +kernel : (parseMethodDescriptor yX1_readValue.desc).map (fun d => d.parameters.length) = some 0)⟩ ⟨(Nat.le_of_ble_eq_true rfl), (Nat.le_of_ble_eq_true rfl)⟩ hl.1 (Nat.le_of_ble_eq_true rfl) dX1_readSetting_82 ⟨(Nat.le_of_ble_eq_true rfl), (Nat.le_of_ble_eq_true rfl)⟩ (fun v9 w9 H locs hN hH => ?_) (fun _ _ _ _ _ _ h => False.elim h)
          rcases hN with ⟨⟨c_82, o_82, s_82⟩, hq_82, kl_82, rfl, rfl⟩ | ⟨a9_82, g2_82, g3_82, hq_82, kl_82, rfl, rfl⟩
          · have hH : Hp D A s ([(h0, .inr (1, [.ref tx, .int (nI n), .int (nI c_82), .ref dr])), (tx, .inl (D.1 10, 40, .inl (fun j => nI (t j)))), (dr, .inr (0, [.int (nI f0), .int (nI m1), .int (nI o_82), .int (nI (s_82.getD 0)), .int (nI 0), .int (nI f5), .int (bI f6), .int (nI f7), .int (oI f8), .int (oI f9)]))]) H locs := hH
            have kl_82 : c_82 ≤ n := kl_82
            refine W.eq (g2 := F0 m 85 ls [.int (nI 1)]) rfl ?_
            refine vn_if_ne (tgt := 90) C.x C.b dX1_readSetting_85 (by decide) (by omega) (fun _ => ?_) (fun q => absurd q (by decide))
            refine lv_aload_n C.x C.b dX1_readSetting_90 rfl (lv_at hl 1 rfl) ?_
            refine gGet (v := .ref dr) C hK hH 0 3 rfl rfl inX1 (by decide) tw_89 rfl dX1_readSetting_91 ?_
            refine lv_aload_n C.x C.b dX1_readSetting_94 rfl (lv_at hl 1 rfl) ?_
            refine lv_bipush (v := nI 60) C.x C.b dX1_readSetting_95 (by decide) ?_
            refine kV (As := [.int (nI 60)]) (isC := [0, 1, 2]) (isR := []) (wr := []) C hK hH (c_take l htr D H.size h0 tx dr t n c_82 f0 m1 o_82 (s_82.getD 0) 0 f5 f6 f7 f8 f9 60 hn (by omega) ht (by omega)) ⟨rfl, rfl, rfl, rfl, by decide⟩ 0 rfl rfl tw_370 tw_372 ts_7 tw_2 kX1_take ⟨by decide +kernel, by decide +kernel, (by decide +kernel : (parseMethodDescriptor yX1_take.desc).map (fun d => d.parameters.length) = some 1)⟩ ⟨(Nat.le_of_ble_eq_true rfl), (Nat.le_of_ble_eq_true rfl)⟩ hl.1 (Nat.le_of_ble_eq_true rfl) dX1_readSetting_97 ⟨(Nat.le_of_ble_eq_true rfl), (Nat.le_of_ble_eq_true rfl)⟩ (fun v9 w9 H locs hN hH => ?_) (fun _ _ _ _ _ _ h => False.elim h)
            rcases hN with ⟨k_97, kl_97, rfl, rfl⟩ | ⟨k_97, rfl, rfl⟩
            · have hH : Hp D A s ([(h0, .inr (1, [.ref tx, .int (nI n), .int (nI (c_82 + 1)), .ref dr])), (tx, .inl (D.1 10, 40, .inl (fun j => nI (t j)))), (dr, .inr (0, [.int (nI f0), .int (nI m1), .int (nI o_82), .int (nI (s_82.getD 0)), .int (nI 0), .int (nI f5), .int (bI f6), .int (nI f7), .int (oI f8), .int (oI f9)]))]) H locs := hH
              refine W.eq (g2 := F0 m 100 ls [.int (nI 1), .ref dr]) rfl ?_
              refine vn_if_eq (tgt := 107) C.x C.b dX1_readSetting_100 (by decide) (by omega) (fun q => absurd q (by decide)) (fun _ => ?_)
              refine lv_iconst (v := nI 1) C.x C.b dX1_readSetting_103 (by decide) ?_
              refine lv_goto (tgt := 121) C.x C.b dX1_readSetting_104 (by decide) ?_
              refine gPutN (v := .int (nI 1)) (ws' := [(h0, .inr (1, [.ref tx, .int (nI n), .int (nI (c_82 + 1)), .ref dr])), (tx, .inl (D.1 10, 40, .inl (fun j => nI (t j)))), (dr, .inr (0, [.int (nI f0), .int (nI m1), .int (nI o_82), .int (nI (s_82.getD 0)), .int (nI 1), .int (nI f5), .int (bI f6), .int (nI f7), .int (oI f8), .int (oI f9)]))]) C hK hH 2 4 tyX0 tyX0_ok nmX0 rfl rfl inX0 (by decide) (nwl_of tn_48 rfl) rfl rfl rfl (Nat.le_of_ble_eq_true rfl) rfl dX1_readSetting_121 (fun H locs hH => ?_)
              refine lv_iconst (v := nI 1) C.x C.b dX1_readSetting_124 (by decide) ?_
              exact rZ C hr (by decide) hH (Or.inl ⟨(c_82 + 1, m1, o_82, s_82, 1), by simp only [se, hE, if_neg c_76, hq_82, k_97, cond_true, cond_false], by omega, by omega, rfl, rfl⟩) (Nat.le_of_ble_eq_true rfl) (Nat.le_of_ble_eq_true rfl) dX1_readSetting_125
            · have hH : Hp D A s ([(h0, .inr (1, [.ref tx, .int (nI n), .int (nI c_82), .ref dr])), (tx, .inl (D.1 10, 40, .inl (fun j => nI (t j)))), (dr, .inr (0, [.int (nI f0), .int (nI m1), .int (nI o_82), .int (nI (s_82.getD 0)), .int (nI 0), .int (nI f5), .int (bI f6), .int (nI f7), .int (oI f8), .int (oI f9)]))]) H locs := hH
              refine W.eq (g2 := F0 m 100 ls [.int (nI 0), .ref dr]) rfl ?_
              refine vn_if_eq (tgt := 107) C.x C.b dX1_readSetting_100 (by decide) (by omega) (fun _ => ?_) (fun q => absurd q (by decide))
              refine lv_aload_n C.x C.b dX1_readSetting_107 rfl (lv_at hl 1 rfl) ?_
              refine lv_bipush (v := nI 62) C.x C.b dX1_readSetting_108 (by decide) ?_
              refine kV (As := [.int (nI 62)]) (isC := [0, 1, 2]) (isR := []) (wr := []) C hK hH (c_take l htr D H.size h0 tx dr t n c_82 f0 m1 o_82 (s_82.getD 0) 0 f5 f6 f7 f8 f9 62 hn (by omega) ht (by omega)) ⟨rfl, rfl, rfl, rfl, by decide⟩ 0 rfl rfl tw_370 tw_372 ts_7 tw_2 kX1_take ⟨by decide +kernel, by decide +kernel, (by decide +kernel : (parseMethodDescriptor yX1_take.desc).map (fun d => d.parameters.length) = some 1)⟩ ⟨(Nat.le_of_ble_eq_true rfl), (Nat.le_of_ble_eq_true rfl)⟩ hl.1 (Nat.le_of_ble_eq_true rfl) dX1_readSetting_110 ⟨(Nat.le_of_ble_eq_true rfl), (Nat.le_of_ble_eq_true rfl)⟩ (fun v9 w9 H locs hN hH => ?_) (fun _ _ _ _ _ _ h => False.elim h)
              rcases hN with ⟨k_110, kl_110, rfl, rfl⟩ | ⟨k_110, rfl, rfl⟩
              · have hH : Hp D A s ([(h0, .inr (1, [.ref tx, .int (nI n), .int (nI (c_82 + 1)), .ref dr])), (tx, .inl (D.1 10, 40, .inl (fun j => nI (t j)))), (dr, .inr (0, [.int (nI f0), .int (nI m1), .int (nI o_82), .int (nI (s_82.getD 0)), .int (nI 0), .int (nI f5), .int (bI f6), .int (nI f7), .int (oI f8), .int (oI f9)]))]) H locs := hH
                refine W.eq (g2 := F0 m 113 ls [.int (nI 1), .ref dr]) rfl ?_
                refine vn_if_eq (tgt := 120) C.x C.b dX1_readSetting_113 (by decide) (by omega) (fun q => absurd q (by decide)) (fun _ => ?_)
                refine lv_iconst (v := nI 2) C.x C.b dX1_readSetting_116 (by decide) ?_
                refine lv_goto (tgt := 121) C.x C.b dX1_readSetting_117 (by decide) ?_
                refine gPutN (v := .int (nI 2)) (ws' := [(h0, .inr (1, [.ref tx, .int (nI n), .int (nI (c_82 + 1)), .ref dr])), (tx, .inl (D.1 10, 40, .inl (fun j => nI (t j)))), (dr, .inr (0, [.int (nI f0), .int (nI m1), .int (nI o_82), .int (nI (s_82.getD 0)), .int (nI 2), .int (nI f5), .int (bI f6), .int (nI f7), .int (oI f8), .int (oI f9)]))]) C hK hH 2 4 tyX0 tyX0_ok nmX0 rfl rfl inX0 (by decide) (nwl_of tn_48 rfl) rfl rfl rfl (Nat.le_of_ble_eq_true rfl) rfl dX1_readSetting_121 (fun H locs hH => ?_)
                refine lv_iconst (v := nI 1) C.x C.b dX1_readSetting_124 (by decide) ?_
                exact rZ C hr (by decide) hH (Or.inl ⟨(c_82 + 1, m1, o_82, s_82, 2), by simp only [se, hE, if_neg c_76, hq_82, k_97, k_110, cond_true, cond_false], by omega, by omega, rfl, rfl⟩) (Nat.le_of_ble_eq_true rfl) (Nat.le_of_ble_eq_true rfl) dX1_readSetting_125
              · have hH : Hp D A s ([(h0, .inr (1, [.ref tx, .int (nI n), .int (nI c_82), .ref dr])), (tx, .inl (D.1 10, 40, .inl (fun j => nI (t j)))), (dr, .inr (0, [.int (nI f0), .int (nI m1), .int (nI o_82), .int (nI (s_82.getD 0)), .int (nI 0), .int (nI f5), .int (bI f6), .int (nI f7), .int (oI f8), .int (oI f9)]))]) H locs := hH
                refine W.eq (g2 := F0 m 113 ls [.int (nI 0), .ref dr]) rfl ?_
                refine vn_if_eq (tgt := 120) C.x C.b dX1_readSetting_113 (by decide) (by omega) (fun _ => ?_) (fun q => absurd q (by decide))
                refine lv_iconst (v := nI 0) C.x C.b dX1_readSetting_120 (by decide) ?_
                refine gPutN (v := .int (nI 0)) (ws' := [(h0, .inr (1, [.ref tx, .int (nI n), .int (nI c_82), .ref dr])), (tx, .inl (D.1 10, 40, .inl (fun j => nI (t j)))), (dr, .inr (0, [.int (nI f0), .int (nI m1), .int (nI o_82), .int (nI (s_82.getD 0)), .int (nI 0), .int (nI f5), .int (bI f6), .int (nI f7), .int (oI f8), .int (oI f9)]))]) C hK hH 2 4 tyX0 tyX0_ok nmX0 rfl rfl inX0 (by decide) (nwl_of tn_48 rfl) rfl rfl rfl (Nat.le_of_ble_eq_true rfl) rfl dX1_readSetting_121 (fun H locs hH => ?_)
                refine lv_iconst (v := nI 1) C.x C.b dX1_readSetting_124 (by decide) ?_
                exact rZ C hr (by decide) hH (Or.inl ⟨(c_82, m1, o_82, s_82, 0), by simp only [se, hE, if_neg c_76, hq_82, k_97, k_110, cond_true, cond_false], by omega, by omega, rfl, rfl⟩) (Nat.le_of_ble_eq_true rfl) (Nat.le_of_ble_eq_true rfl) dX1_readSetting_125
          · have hH : Hp D A s ([(h0, .inr (1, [.ref tx, .int (nI n), .int (nI a9_82), .ref dr])), (tx, .inl (D.1 10, 40, .inl (fun j => nI (t j)))), (dr, .inr (0, [.int (nI f0), .int (nI m1), .int (nI g2_82), .int (nI g3_82), .int (nI 0), .int (nI f5), .int (bI f6), .int (nI f7), .int (oI f8), .int (oI f9)]))]) H locs := hH
            refine W.eq (g2 := F0 m 85 ls [.int (nI 0)]) rfl ?_
            refine vn_if_ne (tgt := 90) C.x C.b dX1_readSetting_85 (by decide) (by omega) (fun q => absurd q (by decide)) (fun _ => ?_)
            refine lv_iconst (v := nI 0) C.x C.b dX1_readSetting_88 (by decide) ?_
            exact rZ C hr (by decide) hH (Or.inr ⟨a9_82, m1, g2_82, g3_82, by simp only [se, hE, if_neg c_76, hq_82], by omega, rfl, rfl⟩) (Nat.le_of_ble_eq_true rfl) (Nat.le_of_ble_eq_true rfl) dX1_readSetting_89
        · refine lv_iconst (v := nI 1) C.x C.b dX1_readSetting_79 (by decide) ?_
          exact rZ C hr (by decide) hH (Or.inl ⟨(a1, m1, 0, none, 0), by simp only [se, hE, if_pos c_76], by omega, by omega, rfl, rfl⟩) (Nat.le_of_ble_eq_true rfl) (Nat.le_of_ble_eq_true rfl) dX1_readSetting_80
      · refine lv_aload_n C.x C.b dX1_readSetting_7 rfl (lv_at hl 1 rfl) ?_
        refine kV (As := []) (isC := [0, 1, 2]) (isR := []) (wr := []) C hK hH (c_isAtTarget l htr D H.size h0 tx dr t n a1 f0 m1 0 0 0 f5 f6 f7 f8 f9 hn (by omega) ht (by omega)) ⟨rfl, rfl, rfl, rfl, by decide⟩ 0 rfl rfl tw_275 tw_277 ts_5 tw_2 kX1_isAtTarget ⟨by decide +kernel, by decide +kernel, (by decide +kernel : (parseMethodDescriptor yX1_isAtTarget.desc).map (fun d => d.parameters.length) = some 0)⟩ ⟨(Nat.le_of_ble_eq_true rfl), (Nat.le_of_ble_eq_true rfl)⟩ hl.1 (Nat.le_of_ble_eq_true rfl) dX1_readSetting_8 ⟨(Nat.le_of_ble_eq_true rfl), (Nat.le_of_ble_eq_true rfl)⟩ (fun v9 w9 H locs hN hH => ?_) (fun _ _ _ _ _ _ h => False.elim h)
        rcases hN with ⟨k_8, hk_8, hk8_8, hi_8, kl_8, rfl, rfl⟩ | ⟨hk_8, rfl, rfl⟩
        · have hH : Hp D A s ([(h0, .inr (1, [.ref tx, .int (nI n), .int (nI a1), .ref dr])), (tx, .inl (D.1 10, 40, .inl (fun j => nI (t j)))), (dr, .inr (0, [.int (nI f0), .int (nI m1), .int (nI 0), .int (nI 0), .int (nI 0), .int (nI f5), .int (bI f6), .int (nI f7), .int (oI f8), .int (oI f9)]))]) H locs := hH
          refine W.eq (g2 := F0 m 11 ls [.int (nI 1)]) rfl ?_
          refine vn_if_eq (tgt := 69) C.x C.b dX1_readSetting_11 (by decide) (by omega) (fun q => absurd q (by decide)) (fun _ => ?_)
          refine lv_aload_n C.x C.b dX1_readSetting_14 rfl (lv_at hl 1 rfl) ?_
          refine gGet (v := .ref dr) C hK hH 0 3 rfl rfl inX1 (by decide) tw_89 rfl dX1_readSetting_15 ?_
          refine lv_dup C.x C.b dX1_readSetting_18 rfl ?_
          refine gGetN (v := .int (nI m1)) C hK hH 2 1 rfl rfl inX0 (by decide) (nwl_of tn_41 rfl) rfl dX1_readSetting_19 ?_
          refine lv_iconst (v := nI 1) C.x C.b dX1_readSetting_22 (by decide) ?_
          refine va_ldcS C.x C.b C.ow C.N.2.1 dX1_readSetting_23 ?_
          refine lv_aload_n C.x C.b dX1_readSetting_25 rfl (lv_at hl 1 rfl) ?_
          refine gGet (v := .ref tx) C hK hH 0 0 rfl rfl inX1 (by decide) tw_84 rfl dX1_readSetting_26 ?_
          refine lv_aload_n C.x C.b dX1_readSetting_29 rfl (lv_at hl 1 rfl) ?_
          refine gGet (v := .int (nI a1)) C hK hH 0 2 rfl rfl inX1 (by decide) tw_87 rfl dX1_readSetting_30 ?_
          have hf_33 := ht a1
          refine gCald (v := (nI (t a1))) C hK hH 1 rfl (by omega) (by decide) dX1_readSetting_33 rfl ?_
          refine kVr (As := [.int (nI (t a1))]) (isC := []) (isR := [0, 1, 2]) (wr := [(h0, .inr (1, [.ref tx, .int (nI n), .int (nI a1), .ref dr])), (tx, .inl (D.1 10, 40, .inl (fun j => nI (t j)))), (dr, .inr (0, [.int (nI f0), .int (nI m1), .int (nI 0), .int (nI 0), .int (nI 0), .int (nI f5), .int (bI f6), .int (nI f7), .int (oI f8), .int (oI f9)]))]) C hK hH (c_indexOf l htr D H.size 0 (t a1) (by decide) (by omega)) ⟨rfl, rfl, rfl, rfl, by decide⟩ (vk_recv C.Z.2.2.1 (i := 0) (by decide) hH.2.2) tw_280 tw_281 tw_282 tw_10 kJ0_indexOf ⟨by decide +kernel, by decide +kernel, (by decide +kernel : (parseMethodDescriptor yJ0_indexOf.desc).map (fun d => d.parameters.length) = some 1)⟩ ⟨(Nat.le_of_ble_eq_true rfl), (Nat.le_of_ble_eq_true rfl)⟩ hl.1 (Nat.le_of_ble_eq_true rfl) dX1_readSetting_34 ⟨(Nat.le_of_ble_eq_true rfl), (Nat.le_of_ble_eq_true rfl)⟩ (fun v9 w9 H locs hN hH => ?_) (fun _ _ _ _ _ _ h => False.elim h)
          obtain ⟨rfl, rfl⟩ := hN
          have hH : Hp D A s ([(h0, .inr (1, [.ref tx, .int (nI n), .int (nI a1), .ref dr])), (tx, .inl (D.1 10, 40, .inl (fun j => nI (t j)))), (dr, .inr (0, [.int (nI f0), .int (nI m1), .int (nI 0), .int (nI 0), .int (nI 0), .int (nI f5), .int (bI f6), .int (nI f7), .int (oI f8), .int (oI f9)]))]) H locs := hH
          refine W.eq (g2 := F0 m 37 ls [.int (oI (ixS 0 (t a1))), .int (nI 1), .int (nI m1), .ref dr]) rfl ?_
          refine vt_top (y := nI k_8) (by rw [hi_8]; rfl) ?_
          refine lv_ishl C.x C.b dX1_readSetting_37 ?_
          refine lv_ior C.x C.b dX1_readSetting_38 ?_
          refine vt_top (y := nI (m1 ||| 2 ^ k_8)) (orbit (by omega)) ?_
          refine gPutN (v := .int (nI (m1 ||| 2 ^ k_8))) (ws' := [(h0, .inr (1, [.ref tx, .int (nI n), .int (nI a1), .ref dr])), (tx, .inl (D.1 10, 40, .inl (fun j => nI (t j)))), (dr, .inr (0, [.int (nI f0), .int (nI (m1 ||| 2 ^ k_8)), .int (nI 0), .int (nI 0), .int (nI 0), .int (nI f5), .int (bI f6), .int (nI f7), .int (oI f8), .int (oI f9)]))]) C hK hH 2 1 tyX0 tyX0_ok nmX0 rfl rfl inX0 (by decide) (nwl_of tn_41 rfl) rfl rfl rfl (Nat.le_of_ble_eq_true rfl) rfl dX1_readSetting_39 (fun H locs hH => ?_)
          refine lv_aload_n C.x C.b dX1_readSetting_42 rfl (lv_at hl 1 rfl) ?_
          refine lv_dup C.x C.b dX1_readSetting_43 rfl ?_
          refine gGet (v := .int (nI a1)) C hK hH 0 2 rfl rfl inX1 (by decide) tw_87 rfl dX1_readSetting_44 ?_
          refine lv_iconst (v := nI 1) C.x C.b dX1_readSetting_47 (by decide) ?_
          refine lv_iadd C.x C.b dX1_readSetting_48 ?_
          refine vt_top (nI_add _ _) ?_
          refine gPut (v := .int (nI (a1 + 1))) (ws' := [(h0, .inr (1, [.ref tx, .int (nI n), .int (nI (a1 + 1)), .ref dr])), (tx, .inl (D.1 10, 40, .inl (fun j => nI (t j)))), (dr, .inr (0, [.int (nI f0), .int (nI (m1 ||| 2 ^ k_8)), .int (nI 0), .int (nI 0), .int (nI 0), .int (nI f5), .int (bI f6), .int (nI f7), .int (oI f8), .int (oI f9)]))]) C hK hH 0 2 tyX1 tyX1_ok nmX1 rfl rfl inX1 (by decide) tw_87 rfl rfl rfl (Nat.le_of_ble_eq_true rfl) rfl dX1_readSetting_49 (fun H locs hH => ?_)
          refine lv_aload_n C.x C.b dX1_readSetting_52 rfl (lv_at hl 1 rfl) ?_
          refine lv_bipush (v := nI 61) C.x C.b dX1_readSetting_53 (by decide) ?_
          refine kV (As := [.int (nI 61)]) (isC := [0, 1, 2]) (isR := []) (wr := []) C hK hH (c_take l htr D H.size h0 tx dr t n (a1 + 1) f0 (m1 ||| 2 ^ k_8) 0 0 0 f5 f6 f7 f8 f9 61 hn (by omega) ht (by omega)) ⟨rfl, rfl, rfl, rfl, by decide⟩ 0 rfl rfl tw_370 tw_372 ts_7 tw_2 kX1_take ⟨by decide +kernel, by decide +kernel, (by decide +kernel : (parseMethodDescriptor yX1_take.desc).map (fun d => d.parameters.length) = some 1)⟩ ⟨(Nat.le_of_ble_eq_true rfl), (Nat.le_of_ble_eq_true rfl)⟩ hl.1 (Nat.le_of_ble_eq_true rfl) dX1_readSetting_55 ⟨(Nat.le_of_ble_eq_true rfl), (Nat.le_of_ble_eq_true rfl)⟩ (fun v9 w9 H locs hN hH => ?_) (fun _ _ _ _ _ _ h => False.elim h)
          rcases hN with ⟨k_55, kl_55, rfl, rfl⟩ | ⟨k_55, rfl, rfl⟩
          · have hH : Hp D A s ([(h0, .inr (1, [.ref tx, .int (nI n), .int (nI (a1 + 1 + 1)), .ref dr])), (tx, .inl (D.1 10, 40, .inl (fun j => nI (t j)))), (dr, .inr (0, [.int (nI f0), .int (nI (m1 ||| 2 ^ k_8)), .int (nI 0), .int (nI 0), .int (nI 0), .int (nI f5), .int (bI f6), .int (nI f7), .int (oI f8), .int (oI f9)]))]) H locs := hH
            refine W.eq (g2 := F0 m 58 ls [.int (nI 1)]) rfl ?_
            refine vn_if_ne (tgt := 63) C.x C.b dX1_readSetting_58 (by decide) (by omega) (fun _ => ?_) (fun q => absurd q (by decide))
            refine lv_iinc (v := (nI (i + 1))) (lv' := [(1, .int (nI (i + 1))), (0, .ref h0)]) C.x C.b dX1_readSetting_63 hl (k := 0) rfl (by rw [show Int32.ofInt 1 = nI 1 from by decide, nI_add]) (by decide) rfl (fun ls hl => ?_)
            refine lv_goto (tgt := 2) C.x C.b dX1_readSetting_66 (by decide) ?_
            exact ih (i + 1) (a1 + 1 + 1) (m1 ||| 2 ^ k_8) (by omega) (by omega) (or512 hm1 (by omega)) (by rw [← hT]; exact (tl_go (by omega) hk_8 k_55).symm) (by omega) _ _ hH ls (lv_sub hl [0, 1] rfl)
          · have hH : Hp D A s ([(h0, .inr (1, [.ref tx, .int (nI n), .int (nI (a1 + 1)), .ref dr])), (tx, .inl (D.1 10, 40, .inl (fun j => nI (t j)))), (dr, .inr (0, [.int (nI f0), .int (nI (m1 ||| 2 ^ k_8)), .int (nI 0), .int (nI 0), .int (nI 0), .int (nI f5), .int (bI f6), .int (nI f7), .int (oI f8), .int (oI f9)]))]) H locs := hH
            refine W.eq (g2 := F0 m 58 ls [.int (nI 0)]) rfl ?_
            refine vn_if_ne (tgt := 63) C.x C.b dX1_readSetting_58 (by decide) (by omega) (fun q => absurd q (by decide)) (fun _ => ?_)
            refine lv_iconst (v := nI 0) C.x C.b dX1_readSetting_61 (by decide) ?_
            exact rZ C hr (by decide) hH (Or.inr ⟨a1 + 1, (m1 ||| 2 ^ k_8), 0, 0, by unfold se; rw [← hT, tl_fail (by omega) hk_8 k_55], by omega, rfl, rfl⟩) (Nat.le_of_ble_eq_true rfl) (Nat.le_of_ble_eq_true rfl) dX1_readSetting_62
        · have hH : Hp D A s ([(h0, .inr (1, [.ref tx, .int (nI n), .int (nI a1), .ref dr])), (tx, .inl (D.1 10, 40, .inl (fun j => nI (t j)))), (dr, .inr (0, [.int (nI f0), .int (nI m1), .int (nI 0), .int (nI 0), .int (nI 0), .int (nI f5), .int (bI f6), .int (nI f7), .int (oI f8), .int (oI f9)]))]) H locs := hH
          refine W.eq (g2 := F0 m 11 ls [.int (nI 0)]) rfl ?_
          refine vn_if_eq (tgt := 69) C.x C.b dX1_readSetting_11 (by decide) (by omega) (fun _ => ?_) (fun q => absurd q (by decide))
          have hE : tl t n 4 a 0 = .inr (a1, m1) := by rw [← hT]; exact tl_stop (by first | exact Or.inl (by omega) | exact Or.inr hk_8)
          refine lv_aload_n C.x C.b dX1_readSetting_69 rfl (lv_at hl 1 rfl) ?_
          refine gGet (v := .ref dr) C hK hH 0 3 rfl rfl inX1 (by decide) tw_89 rfl dX1_readSetting_70 ?_
          refine gGetN (v := .int (nI m1)) C hK hH 2 1 rfl rfl inX0 (by decide) (nwl_of tn_41 rfl) rfl dX1_readSetting_73 ?_
          refine vn_if_ne (tgt := 81) C.x C.b dX1_readSetting_76 (by decide) (by omega) (fun c_76 => ?_) (fun c_76 => ?_)
          · refine lv_aload_n C.x C.b dX1_readSetting_81 rfl (lv_at hl 1 rfl) ?_
            refine kV (As := []) (isC := [0, 1, 2]) (isR := []) (wr := []) C hK hH (c_readValue l htr D H.size h0 tx dr t n a1 f0 m1 0 0 0 f5 f6 f7 f8 f9 hn (by omega) ht) ⟨rfl, rfl, rfl, rfl, by decide⟩ 0 rfl rfl tw_374 tw_376 ts_8 tw_2 kX1_readValue ⟨by decide +kernel, by decide +kernel, (by decide +kernel : (parseMethodDescriptor yX1_readValue.desc).map (fun d => d.parameters.length) = some 0)⟩ ⟨(Nat.le_of_ble_eq_true rfl), (Nat.le_of_ble_eq_true rfl)⟩ hl.1 (Nat.le_of_ble_eq_true rfl) dX1_readSetting_82 ⟨(Nat.le_of_ble_eq_true rfl), (Nat.le_of_ble_eq_true rfl)⟩ (fun v9 w9 H locs hN hH => ?_) (fun _ _ _ _ _ _ h => False.elim h)
            rcases hN with ⟨⟨c_82, o_82, s_82⟩, hq_82, kl_82, rfl, rfl⟩ | ⟨a9_82, g2_82, g3_82, hq_82, kl_82, rfl, rfl⟩
            · have hH : Hp D A s ([(h0, .inr (1, [.ref tx, .int (nI n), .int (nI c_82), .ref dr])), (tx, .inl (D.1 10, 40, .inl (fun j => nI (t j)))), (dr, .inr (0, [.int (nI f0), .int (nI m1), .int (nI o_82), .int (nI (s_82.getD 0)), .int (nI 0), .int (nI f5), .int (bI f6), .int (nI f7), .int (oI f8), .int (oI f9)]))]) H locs := hH
              have kl_82 : c_82 ≤ n := kl_82
              refine W.eq (g2 := F0 m 85 ls [.int (nI 1)]) rfl ?_
              refine vn_if_ne (tgt := 90) C.x C.b dX1_readSetting_85 (by decide) (by omega) (fun _ => ?_) (fun q => absurd q (by decide))
              refine lv_aload_n C.x C.b dX1_readSetting_90 rfl (lv_at hl 1 rfl) ?_
              refine gGet (v := .ref dr) C hK hH 0 3 rfl rfl inX1 (by decide) tw_89 rfl dX1_readSetting_91 ?_
              refine lv_aload_n C.x C.b dX1_readSetting_94 rfl (lv_at hl 1 rfl) ?_
              refine lv_bipush (v := nI 60) C.x C.b dX1_readSetting_95 (by decide) ?_
              refine kV (As := [.int (nI 60)]) (isC := [0, 1, 2]) (isR := []) (wr := []) C hK hH (c_take l htr D H.size h0 tx dr t n c_82 f0 m1 o_82 (s_82.getD 0) 0 f5 f6 f7 f8 f9 60 hn (by omega) ht (by omega)) ⟨rfl, rfl, rfl, rfl, by decide⟩ 0 rfl rfl tw_370 tw_372 ts_7 tw_2 kX1_take ⟨by decide +kernel, by decide +kernel, (by decide +kernel : (parseMethodDescriptor yX1_take.desc).map (fun d => d.parameters.length) = some 1)⟩ ⟨(Nat.le_of_ble_eq_true rfl), (Nat.le_of_ble_eq_true rfl)⟩ hl.1 (Nat.le_of_ble_eq_true rfl) dX1_readSetting_97 ⟨(Nat.le_of_ble_eq_true rfl), (Nat.le_of_ble_eq_true rfl)⟩ (fun v9 w9 H locs hN hH => ?_) (fun _ _ _ _ _ _ h => False.elim h)
              rcases hN with ⟨k_97, kl_97, rfl, rfl⟩ | ⟨k_97, rfl, rfl⟩
              · have hH : Hp D A s ([(h0, .inr (1, [.ref tx, .int (nI n), .int (nI (c_82 + 1)), .ref dr])), (tx, .inl (D.1 10, 40, .inl (fun j => nI (t j)))), (dr, .inr (0, [.int (nI f0), .int (nI m1), .int (nI o_82), .int (nI (s_82.getD 0)), .int (nI 0), .int (nI f5), .int (bI f6), .int (nI f7), .int (oI f8), .int (oI f9)]))]) H locs := hH
                refine W.eq (g2 := F0 m 100 ls [.int (nI 1), .ref dr]) rfl ?_
                refine vn_if_eq (tgt := 107) C.x C.b dX1_readSetting_100 (by decide) (by omega) (fun q => absurd q (by decide)) (fun _ => ?_)
                refine lv_iconst (v := nI 1) C.x C.b dX1_readSetting_103 (by decide) ?_
                refine lv_goto (tgt := 121) C.x C.b dX1_readSetting_104 (by decide) ?_
                refine gPutN (v := .int (nI 1)) (ws' := [(h0, .inr (1, [.ref tx, .int (nI n), .int (nI (c_82 + 1)), .ref dr])), (tx, .inl (D.1 10, 40, .inl (fun j => nI (t j)))), (dr, .inr (0, [.int (nI f0), .int (nI m1), .int (nI o_82), .int (nI (s_82.getD 0)), .int (nI 1), .int (nI f5), .int (bI f6), .int (nI f7), .int (oI f8), .int (oI f9)]))]) C hK hH 2 4 tyX0 tyX0_ok nmX0 rfl rfl inX0 (by decide) (nwl_of tn_48 rfl) rfl rfl rfl (Nat.le_of_ble_eq_true rfl) rfl dX1_readSetting_121 (fun H locs hH => ?_)
                refine lv_iconst (v := nI 1) C.x C.b dX1_readSetting_124 (by decide) ?_
                exact rZ C hr (by decide) hH (Or.inl ⟨(c_82 + 1, m1, o_82, s_82, 1), by simp only [se, hE, if_neg c_76, hq_82, k_97, cond_true, cond_false], by omega, by omega, rfl, rfl⟩) (Nat.le_of_ble_eq_true rfl) (Nat.le_of_ble_eq_true rfl) dX1_readSetting_125
              · have hH : Hp D A s ([(h0, .inr (1, [.ref tx, .int (nI n), .int (nI c_82), .ref dr])), (tx, .inl (D.1 10, 40, .inl (fun j => nI (t j)))), (dr, .inr (0, [.int (nI f0), .int (nI m1), .int (nI o_82), .int (nI (s_82.getD 0)), .int (nI 0), .int (nI f5), .int (bI f6), .int (nI f7), .int (oI f8), .int (oI f9)]))]) H locs := hH
                refine W.eq (g2 := F0 m 100 ls [.int (nI 0), .ref dr]) rfl ?_
                refine vn_if_eq (tgt := 107) C.x C.b dX1_readSetting_100 (by decide) (by omega) (fun _ => ?_) (fun q => absurd q (by decide))
                refine lv_aload_n C.x C.b dX1_readSetting_107 rfl (lv_at hl 1 rfl) ?_
                refine lv_bipush (v := nI 62) C.x C.b dX1_readSetting_108 (by decide) ?_
                refine kV (As := [.int (nI 62)]) (isC := [0, 1, 2]) (isR := []) (wr := []) C hK hH (c_take l htr D H.size h0 tx dr t n c_82 f0 m1 o_82 (s_82.getD 0) 0 f5 f6 f7 f8 f9 62 hn (by omega) ht (by omega)) ⟨rfl, rfl, rfl, rfl, by decide⟩ 0 rfl rfl tw_370 tw_372 ts_7 tw_2 kX1_take ⟨by decide +kernel, by decide +kernel, (by decide +kernel : (parseMethodDescriptor yX1_take.desc).map (fun d => d.parameters.length) = some 1)⟩ ⟨(Nat.le_of_ble_eq_true rfl), (Nat.le_of_ble_eq_true rfl)⟩ hl.1 (Nat.le_of_ble_eq_true rfl) dX1_readSetting_110 ⟨(Nat.le_of_ble_eq_true rfl), (Nat.le_of_ble_eq_true rfl)⟩ (fun v9 w9 H locs hN hH => ?_) (fun _ _ _ _ _ _ h => False.elim h)
                rcases hN with ⟨k_110, kl_110, rfl, rfl⟩ | ⟨k_110, rfl, rfl⟩
                · have hH : Hp D A s ([(h0, .inr (1, [.ref tx, .int (nI n), .int (nI (c_82 + 1)), .ref dr])), (tx, .inl (D.1 10, 40, .inl (fun j => nI (t j)))), (dr, .inr (0, [.int (nI f0), .int (nI m1), .int (nI o_82), .int (nI (s_82.getD 0)), .int (nI 0), .int (nI f5), .int (bI f6), .int (nI f7), .int (oI f8), .int (oI f9)]))]) H locs := hH
                  refine W.eq (g2 := F0 m 113 ls [.int (nI 1), .ref dr]) rfl ?_
                  refine vn_if_eq (tgt := 120) C.x C.b dX1_readSetting_113 (by decide) (by omega) (fun q => absurd q (by decide)) (fun _ => ?_)
                  refine lv_iconst (v := nI 2) C.x C.b dX1_readSetting_116 (by decide) ?_
                  refine lv_goto (tgt := 121) C.x C.b dX1_readSetting_117 (by decide) ?_
                  refine gPutN (v := .int (nI 2)) (ws' := [(h0, .inr (1, [.ref tx, .int (nI n), .int (nI (c_82 + 1)), .ref dr])), (tx, .inl (D.1 10, 40, .inl (fun j => nI (t j)))), (dr, .inr (0, [.int (nI f0), .int (nI m1), .int (nI o_82), .int (nI (s_82.getD 0)), .int (nI 2), .int (nI f5), .int (bI f6), .int (nI f7), .int (oI f8), .int (oI f9)]))]) C hK hH 2 4 tyX0 tyX0_ok nmX0 rfl rfl inX0 (by decide) (nwl_of tn_48 rfl) rfl rfl rfl (Nat.le_of_ble_eq_true rfl) rfl dX1_readSetting_121 (fun H locs hH => ?_)
                  refine lv_iconst (v := nI 1) C.x C.b dX1_readSetting_124 (by decide) ?_
                  exact rZ C hr (by decide) hH (Or.inl ⟨(c_82 + 1, m1, o_82, s_82, 2), by simp only [se, hE, if_neg c_76, hq_82, k_97, k_110, cond_true, cond_false], by omega, by omega, rfl, rfl⟩) (Nat.le_of_ble_eq_true rfl) (Nat.le_of_ble_eq_true rfl) dX1_readSetting_125
                · have hH : Hp D A s ([(h0, .inr (1, [.ref tx, .int (nI n), .int (nI c_82), .ref dr])), (tx, .inl (D.1 10, 40, .inl (fun j => nI (t j)))), (dr, .inr (0, [.int (nI f0), .int (nI m1), .int (nI o_82), .int (nI (s_82.getD 0)), .int (nI 0), .int (nI f5), .int (bI f6), .int (nI f7), .int (oI f8), .int (oI f9)]))]) H locs := hH
                  refine W.eq (g2 := F0 m 113 ls [.int (nI 0), .ref dr]) rfl ?_
                  refine vn_if_eq (tgt := 120) C.x C.b dX1_readSetting_113 (by decide) (by omega) (fun _ => ?_) (fun q => absurd q (by decide))
                  refine lv_iconst (v := nI 0) C.x C.b dX1_readSetting_120 (by decide) ?_
                  refine gPutN (v := .int (nI 0)) (ws' := [(h0, .inr (1, [.ref tx, .int (nI n), .int (nI c_82), .ref dr])), (tx, .inl (D.1 10, 40, .inl (fun j => nI (t j)))), (dr, .inr (0, [.int (nI f0), .int (nI m1), .int (nI o_82), .int (nI (s_82.getD 0)), .int (nI 0), .int (nI f5), .int (bI f6), .int (nI f7), .int (oI f8), .int (oI f9)]))]) C hK hH 2 4 tyX0 tyX0_ok nmX0 rfl rfl inX0 (by decide) (nwl_of tn_48 rfl) rfl rfl rfl (Nat.le_of_ble_eq_true rfl) rfl dX1_readSetting_121 (fun H locs hH => ?_)
                  refine lv_iconst (v := nI 1) C.x C.b dX1_readSetting_124 (by decide) ?_
                  exact rZ C hr (by decide) hH (Or.inl ⟨(c_82, m1, o_82, s_82, 0), by simp only [se, hE, if_neg c_76, hq_82, k_97, k_110, cond_true, cond_false], by omega, by omega, rfl, rfl⟩) (Nat.le_of_ble_eq_true rfl) (Nat.le_of_ble_eq_true rfl) dX1_readSetting_125
            · have hH : Hp D A s ([(h0, .inr (1, [.ref tx, .int (nI n), .int (nI a9_82), .ref dr])), (tx, .inl (D.1 10, 40, .inl (fun j => nI (t j)))), (dr, .inr (0, [.int (nI f0), .int (nI m1), .int (nI g2_82), .int (nI g3_82), .int (nI 0), .int (nI f5), .int (bI f6), .int (nI f7), .int (oI f8), .int (oI f9)]))]) H locs := hH
              refine W.eq (g2 := F0 m 85 ls [.int (nI 0)]) rfl ?_
              refine vn_if_ne (tgt := 90) C.x C.b dX1_readSetting_85 (by decide) (by omega) (fun q => absurd q (by decide)) (fun _ => ?_)
              refine lv_iconst (v := nI 0) C.x C.b dX1_readSetting_88 (by decide) ?_
              exact rZ C hr (by decide) hH (Or.inr ⟨a9_82, m1, g2_82, g3_82, by simp only [se, hE, if_neg c_76, hq_82], by omega, rfl, rfl⟩) (Nat.le_of_ble_eq_true rfl) (Nat.le_of_ble_eq_true rfl) dX1_readSetting_89
          · refine lv_iconst (v := nI 1) C.x C.b dX1_readSetting_79 (by decide) ?_
            exact rZ C hr (by decide) hH (Or.inl ⟨(a1, m1, 0, none, 0), by simp only [se, hE, if_pos c_76], by omega, by omega, rfl, rfl⟩) (Nat.le_of_ble_eq_true rfl) (Nat.le_of_ble_eq_true rfl) dX1_readSetting_80
  exact L_2 _ 0 a 0 (by omega) ha (by omega) rfl (Nat.lt_succ_self _) _ _ hH ls (lv_sub hl [0, 1] rfl)
