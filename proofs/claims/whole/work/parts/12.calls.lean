theorem Ct.of {l : Launch} {y : MethodName} {rm : Room} {D : va_G} {ws : va_W} {As : List Value} {sz : Nat} {N : Option Value → va_W → Prop} {X : String → va_W → Prop} {cc : ByteArray} {nL : Nat} {ret : Option FieldType} {own : String}
    (hl : l.stackTraces = false) (hy : plainName y.cls = true) (ho : y.cls = own) (hsl : (lg_sl As).length ≤ nL)
    (body : ∀ (p : Program) (e : Env) (s : State) (m : MethodId) (args : Array Value) (below : List Frame) (meth : Method) (c : Code) (A : Nat → Prop), Cx p l s m meth c args cc nL own A D [] → meth.sig.returnType = ret → Kn D s → ∀ (H : Heap) (locs : List Loc), Hp D A s ws H locs →
      ∀ ls : Array Slot, lv_has ls nL (lv_args 0 As) → W p l e rm s m args below meth c H locs 0 0 (Qf below args s D A N X rm) (F0 m 0 ls [])) :
    Ct l y (.code y cc nL ret :: tg) rm D ws As sz N X := by
  refine vx_ofW (cc := cc) (maxL := nL) (ret := ret) hy rfl ?_
  intro p e s m args below meth c s₁ B hml htab hv
  obtain ⟨rfl, hsz, hP, hK, hD, hZ, hN⟩ := hv
  subst hsz
  have hts := atoms_spec (ws := .code y cc nL ret :: tg) B.pre
  have hl0 := lv_entry As (n := nL) hsl
  rw [lg_entry_eq]
  refine body p e s m _ below meth c (va_A ws s.heap.size) ?_ B.returns hK _ _ ⟨hP, hD.self, va_S.rf⟩ _ hl0
  refine ⟨B.exec, B.bytes, hml, by rw [← ho]; exact findClass_of_methodNamed B.named, fun w h => hts w (List.mem_cons_of_mem _ h), B.notSynchronized, fun q h => Or.inr h, hZ, hN, hl, ?_⟩
  cases hx : c.exceptionTable.toList with
  | nil => rfl
  | cons a t => exact (htab a (by rw [hx]; exact List.mem_cons_self)).elim
theorem Ct.met {l : Launch} {y : MethodName} {wy : List Cond} {rm : Room} {D : va_G} {ws : va_W} {As : List Value} {sz : Nat} {N : Option Value → va_W → Prop} (h : Ct l y wy rm D ws As sz N nox) : Met l y wy rm (va_Pc As (Pr D ws sz)) (Qn D (va_A ws sz) N) rm.cells rm.slots (va_A ws sz) := by
  intro p e h1 h2 h3 s m args below h4 h5 h6 h7
  obtain ⟨n, o, g1, g2, g3, g4⟩ := h p e h1 h2 h3 s m args below h4 h5 h6 h7
  refine ⟨n, o, g1, g2, g3, ?_⟩
  rcases g4 with g | ⟨q, -, E, ce, L, ⟨⟨w, hx, -⟩, -⟩, -⟩
  · exact g
  · exact hx.elim
/-- a weaker end -/
theorem Ct.mono {l : Launch} {y : MethodName} {wy : List Cond} {rm : Room} {D : va_G} {ws : va_W} {As : List Value} {sz : Nat} {N N' : Option Value → va_W → Prop} {X X' : String → va_W → Prop} (h : Ct l y wy rm D ws As sz N X) (hN : ∀ v w, N v w → N' v w) (hX : ∀ E w, X E w → X' E w) : Ct l y wy rm D ws As sz N' X' := by
  intro p e h1 h2 h3 s m args below h4 h5 h6 h7
  obtain ⟨n, o, g1, g2, g3, g4⟩ := h p e h1 h2 h3 s m args below h4 h5 h6 h7
  refine ⟨n, o, g1, g2, g3, ?_⟩
  rcases g4 with ⟨⟨⟨v, w, a1, a2, a3, a4⟩, a5⟩, a6⟩ | ⟨q, b1, E, ce, L, ⟨⟨w, hx, b2, b3⟩, b4⟩, b5⟩
  · exact Or.inl ⟨⟨⟨v, w, a1, hN v w a2, a3, a4⟩, a5⟩, a6⟩
  · exact Or.inr ⟨q, b1, E, ce, L, ⟨⟨w, hX E w hx, b2, b3⟩, b4⟩, b5⟩
/-- a callee's part of the world, and the rest -/
def Cut (ws wc wr : va_W) (isC isR : List Nat) : Prop := isC.map (fun i => ws[i]?) = wc.map some ∧ isR.map (fun i => ws[i]?) = wr.map some ∧ va_nd isC = true ∧ va_nd isR = true ∧ ∀ i ∈ isR, i ∉ isC
section CALL
variable {p : Program} {l : Launch} {e : Env} {R : Room} {s : State} {m : MethodId} {args : Array Value} {below : List Frame} {meth : Method} {c : Code} {H : Heap} {locs : List Loc} {cells slots : Nat} {Q : State → Prop} {cc : ByteArray} {pc : Nat} {ls : Array Slot} {rest : List Value} {nL : Nat} {own : String} {A : Nat → Prop} {D : va_G} {ws wc wr : va_W} {hh : List (Nat × Nat × Nat × Nat)}
variable {y : MethodName} {rm : Room} {As : List Value} {N : Option Value → va_W → Prop} {X : String → va_W → Prop} {isC isR : List Nat} {index maxL n : Nat} {ret : Option FieldType} {bytes : ByteArray} {b : Nat}
/-- the start of a callee out of what the caller has -/
theorem preOf (C : Cx p l s m meth c args cc nL own A D hh) (hK : Kn D s) (hH : Hp D A s ws H locs) (hc : isC.map (fun i => ws[i]?) = wc.map some) (hn : va_nd isC = true) : ∀ U : State, U.heap = H → s.WarmedH U.vm → va_Pc As (Pr D wc H.size) As.toArray U := by
  intro U hU hW
  have hFc := va_free (wc := wc) hH.2.1 hH.2.2 C.hA isC hc
  refine ⟨rfl, by rw [hU], ?_, Kn.moved hW.alike hK, (hH.2.1.sub isC hn hc).weaken (fun _ _ _ _ => trivial), ?_, Nw.warm hW C.N⟩
  · rw [hU]
    intro k q hk
    have h1 : (isC.map (fun i => ws[i]?))[k]? = some (some q) := by rw [hc]; simp [hk]
    simp only [List.getElem?_map, Option.map_eq_some_iff] at h1
    obtain ⟨i, -, hi⟩ := h1
    exact hH.1 i q hi
  · rw [hU]
    exact Zs.moved hW.alike ((C.Z.kept hH.2.2.2.1).narrow hFc)
/-- what a call leaves -/
theorem joinOf (C : Cx p l s m meth c args cc nL own A D hh) (hH : Hp D A s ws H locs) (cut : Cut ws wc wr isC isR) {H1 : Heap} {locs1 : List Loc} {w1 : va_W} (hS1 : va_S A s.heap H1 locs1) (hk1 : ∀ q : Nat, q < H.size → ¬ va_A wc H.size q → H1[q]? = H[q]?) (hP1 : va_P D vwCl w1 H1) (hD1 : va_D (va_A wc H.size) w1) : Hp D A s (wr ++ w1) H1 locs1 := by
  have hFc := va_free (wc := wc) hH.2.1 hH.2.2 C.hA isC cut.1
  obtain ⟨hP, hD⟩ := va_join (wr := wr) (w1 := w1) hH.1 hH.2.1 isC isR cut.1 cut.2.1 cut.2.2.2.1 cut.2.2.2.2 hk1 hFc hP1 hD1
  exact ⟨hP, hD, hS1⟩
theorem runX (C : Cx p l s m meth c args cc nL own A D hh) (hH : Hp D A s ws H locs) (cut : Cut ws wc wr isC isR) {a : Array Value} {st0 : List Value}
    (hr : vx_Run p l e R s m args below meth c H locs cells slots rm.cells rm.slots (F0 m pc ls st0) rest (Qn D (va_A wc H.size) N a) (Qx D (va_A wc H.size) X) (va_A wc H.size))
    (kk : ∀ (v : Option Value) (w1 : va_W) (H1 : Heap) (locs1 : List Loc), N v w1 → Hp D A s (wr ++ w1) H1 locs1 → W p l e R s m args below meth c H1 locs1 (cells + rm.cells) (slots + rm.slots) Q (F0 m (pc + 3) ls (v.toList ++ rest)))
    (kx : ∀ (E : String) (q9 : Nat) (ce : Cell) (w1 : va_W) (H1 : Heap) (locs1 : List Loc), X E w1 → Hp D A s (wr ++ w1) H1 locs1 → H1[q9]? = some ce → ce.vm = .none → s.vm.findClass E = some ce.cls → vx_W p l e R s m args below meth c H1 locs1 (cells + rm.cells) (slots + rm.slots) Q (F0 m pc ls rest) q9) :
    W p l e R s m args below meth c H locs cells slots Q (F0 m pc ls st0) := by
  have hFc := va_free (wc := wc) hH.2.1 hH.2.2 C.hA isC cut.1
  intro T hT XX
  rcases hr T hT XX with ⟨v, st₀, t, T', L, h0, X', hL, e1, e2, ⟨⟨v', w1, hv, hN, hP1, hD1⟩, hF⟩, go⟩ | ⟨q, st₀, t, T', L, E, ce, h0, X', hL, e1, e2, ⟨⟨w1, hx, hP1, hD1⟩, hF⟩, hce, hcv, hcl, go⟩
  · cases hv
    obtain ⟨k1, k2, k3⟩ := vx_keep (A0 := A) (A1 := va_A wc H.size) (free := va_A wc H.size) h0 e1 hH.2.2 (fun q _ h => hFc q h) hFc hL hF
    obtain ⟨t2, a1, b1⟩ := kk v w1 T'.heap (locs ++ L) hN (joinOf C hH cut k3 k2 (by rw [e1]; exact hP1) hD1) T' rfl X'
    exact ⟨t2, go t2 a1, b1⟩
  · obtain ⟨k1, k2, k3⟩ := vx_keep (A0 := A) (A1 := va_A wc H.size) (free := va_A wc H.size) h0 e1 hH.2.2 (fun q _ h => hFc q h) hFc hL hF
    obtain ⟨t2, a1, b1⟩ := kx E q ce w1 T'.heap (locs ++ L) hx (joinOf C hH cut k3 k2 (by rw [e1]; exact hP1) hD1) (by rw [e1]; exact hce) hcv hcl T' rfl X'
    exact ⟨t2, go.trans a1, b1⟩
theorem run0 (C : Cx p l s m meth c args cc nL own A D hh) (hH : Hp D A s ws H locs) (cut : Cut ws wc wr isC isR) {a : Array Value} {st0 : List Value}
    (hr : va_Run p l e R s m args below meth c H locs cells slots rm.cells rm.slots (F0 m pc ls st0) rest (Qn D (va_A wc H.size) N a) (va_A wc H.size))
    (kk : ∀ (v : Option Value) (w1 : va_W) (H1 : Heap) (locs1 : List Loc), N v w1 → Hp D A s (wr ++ w1) H1 locs1 → W p l e R s m args below meth c H1 locs1 (cells + rm.cells) (slots + rm.slots) Q (F0 m (pc + 3) ls (v.toList ++ rest))) :
    W p l e R s m args below meth c H locs cells slots Q (F0 m pc ls st0) := by
  have hFc := va_free (wc := wc) hH.2.1 hH.2.2 C.hA isC cut.1
  intro T hT XX
  obtain ⟨v, st₀, t, T', L, h0, X', hL, e1, e2, ⟨⟨v', w1, hv, hN, hP1, hD1⟩, hF⟩, go⟩ := hr T hT XX
  cases hv
  obtain ⟨k1, k2, k3⟩ := vx_keep (A0 := A) (A1 := va_A wc H.size) (free := va_A wc H.size) h0 e1 hH.2.2 (fun q _ h => hFc q h) hFc hL hF
  obtain ⟨t2, a1, b1⟩ := kk v w1 T'.heap (locs ++ L) hN (joinOf C hH cut k3 k2 (by rw [e1]; exact hP1) hD1) T' rfl X'
  exact ⟨t2, go t2 a1, b1⟩
/-- invokevirtual of a method of ours, by a link of the own sort -/
theorem kV (C : Cx p l s m meth c args cc nL own A D hh) (hK : Kn D s) (hH : Hp D A s ws H locs) (hM : Ct l y (.code y bytes maxL ret :: tg) rm D wc (.ref b :: As) H.size N X) (cut : Cut ws wc wr isC isR)
    (q0 : Nat) {ci NN : Nat} {fs : List Value} {TT : u_T} (hrc : ws[q0]? = some (b, .inr (ci, fs))) (hcl : vwCl[ci]? = some (y.cls, TT, NN))
    (w1 : Cond.methodLink own index y ∈ tg) (w2 : Cond.instanceMethod y ∈ tg) (w3 : Cond.selects y.cls y y ∈ tg) (w4 : Cond.initialized y.cls ∈ tg) (w5 : Cond.code y bytes maxL ret ∈ tg)
    (hd : y.cls ≠ "java/lang/invoke/MethodHandle" ∧ y.cls ≠ "java/lang/invoke/VarHandle" ∧ (parseMethodDescriptor y.desc).map (fun d => d.parameters.length) = some As.length) (hR : rm.frames + 1 ≤ R.frames ∧ 8 + (maxL + 11) + rm.locals ≤ R.locals)
    (hl : ls.size = nL) (hrm : (rest.map fun v => v.category).sum ≤ 8) (hdg : decode cc pc = .ok (.invokevirtual index, 3)) (hf : cells + rm.cells ≤ R.cells ∧ slots + rm.slots ≤ R.slots)
    (kk : ∀ (v : Option Value) (w1 : va_W) (H1 : Heap) (locs1 : List Loc), N v w1 → Hp D A s (wr ++ w1) H1 locs1 → W p l e R s m args below meth c H1 locs1 (cells + rm.cells) (slots + rm.slots) Q (F0 m (pc + 3) ls (v.toList ++ rest)))
    (kx : ∀ (E : String) (q9 : Nat) (ce : Cell) (w1 : va_W) (H1 : Heap) (locs1 : List Loc), X E w1 → Hp D A s (wr ++ w1) H1 locs1 → H1[q9]? = some ce → ce.vm = .none → s.vm.findClass E = some ce.cls → vx_W p l e R s m args below meth c H1 locs1 (cells + rm.cells) (slots + rm.slots) Q (F0 m pc ls rest) q9) :
    W p l e R s m args below meth c H locs cells slots Q (F0 m pc ls (As.reverse ++ .ref b :: rest)) := by
  have hG : GoodIn tg (wsV own index y.cls y (.code y bytes maxL ret :: tg)) := tg_GoodIn (fun w hw => by
    simp only [wsV, List.mem_append, List.mem_cons, List.not_mem_nil, or_false] at hw
    rcases hw with (rfl | rfl | rfl | rfl) | rfl | hw
    · exact w1
    · exact w2
    · exact w3
    · exact w4
    · exact w5
    · exact hw)
  refine runX C hH cut (vx_runV (b := b) (As := As) (rest := rest) C.fix hM (cwV As.length C.ts hG rfl rfl rfl ⟨rfl, hd⟩ hR) ⟨Pr.blind, ?_, preOf C hK hH cut.1 cut.2.2.1⟩ rfl rfl hl rfl (lv_room hrm) hdg hf) kk kx
  exact va_recv hK.1 hH.1 hcl hrc
/-- the same of an object that isn't of the world -/
theorem kVr (C : Cx p l s m meth c args cc nL own A D hh) (hK : Kn D s) (hH : Hp D A s ws H locs) (hM : Ct l y (.code y bytes maxL ret :: tg) rm D wc (.ref b :: As) H.size N X) (cut : Cut ws wc wr isC isR)
    (hrv : ∃ cell : Cell, H[b]? = some cell ∧ cell.vm.isStatics = false ∧ s.vm.findClass y.cls = some cell.cls)
    (w1 : Cond.methodLink own index y ∈ tg) (w2 : Cond.instanceMethod y ∈ tg) (w3 : Cond.selects y.cls y y ∈ tg) (w4 : Cond.initialized y.cls ∈ tg) (w5 : Cond.code y bytes maxL ret ∈ tg)
    (hd : y.cls ≠ "java/lang/invoke/MethodHandle" ∧ y.cls ≠ "java/lang/invoke/VarHandle" ∧ (parseMethodDescriptor y.desc).map (fun d => d.parameters.length) = some As.length) (hR : rm.frames + 1 ≤ R.frames ∧ 8 + (maxL + 11) + rm.locals ≤ R.locals)
    (hl : ls.size = nL) (hrm : (rest.map fun v => v.category).sum ≤ 8) (hdg : decode cc pc = .ok (.invokevirtual index, 3)) (hf : cells + rm.cells ≤ R.cells ∧ slots + rm.slots ≤ R.slots)
    (kk : ∀ (v : Option Value) (w1 : va_W) (H1 : Heap) (locs1 : List Loc), N v w1 → Hp D A s (wr ++ w1) H1 locs1 → W p l e R s m args below meth c H1 locs1 (cells + rm.cells) (slots + rm.slots) Q (F0 m (pc + 3) ls (v.toList ++ rest)))
    (kx : ∀ (E : String) (q9 : Nat) (ce : Cell) (w1 : va_W) (H1 : Heap) (locs1 : List Loc), X E w1 → Hp D A s (wr ++ w1) H1 locs1 → H1[q9]? = some ce → ce.vm = .none → s.vm.findClass E = some ce.cls → vx_W p l e R s m args below meth c H1 locs1 (cells + rm.cells) (slots + rm.slots) Q (F0 m pc ls rest) q9) :
    W p l e R s m args below meth c H locs cells slots Q (F0 m pc ls (As.reverse ++ .ref b :: rest)) := by
  have hG : GoodIn tg (wsV own index y.cls y (.code y bytes maxL ret :: tg)) := tg_GoodIn (fun w hw => by
    simp only [wsV, List.mem_append, List.mem_cons, List.not_mem_nil, or_false] at hw
    rcases hw with (rfl | rfl | rfl | rfl) | rfl | hw
    · exact w1
    · exact w2
    · exact w3
    · exact w4
    · exact w5
    · exact hw)
  refine runX C hH cut (vx_runV (b := b) (As := As) (rest := rest) C.fix hM (cwV As.length C.ts hG rfl rfl rfl ⟨rfl, hd⟩ hR) ⟨Pr.blind, ?_, preOf C hK hH cut.1 cut.2.2.1⟩ rfl rfl hl rfl (lv_room hrm) hdg hf) kk kx
  exact hrv
/-- invokestatic of a method of the own sort -/
theorem kS (C : Cx p l s m meth c args cc nL own A D hh) (hK : Kn D s) (hH : Hp D A s ws H locs) (hM : Ct l y (.code y bytes maxL ret :: tg) rm D wc As H.size N X) (cut : Cut ws wc wr isC isR)
    (w1 : Cond.methodLink own index y ∈ tg) (w2 : Cond.static y ∈ tg) (w4 : Cond.initialized y.cls ∈ tg) (w5 : Cond.code y bytes maxL ret ∈ tg)
    (hd : y.cls ≠ "java/lang/invoke/MethodHandle" ∧ y.cls ≠ "java/lang/invoke/VarHandle" ∧ (parseMethodDescriptor y.desc).map (fun d => d.parameters.length) = some As.length) (hR : rm.frames + 1 ≤ R.frames ∧ 8 + (maxL + 11) + rm.locals ≤ R.locals)
    (hl : ls.size = nL) (hrm : (rest.map fun v => v.category).sum ≤ 8) (hdg : decode cc pc = .ok (.invokestatic index, 3)) (hf : cells + rm.cells ≤ R.cells ∧ slots + rm.slots ≤ R.slots)
    (kk : ∀ (v : Option Value) (w1 : va_W) (H1 : Heap) (locs1 : List Loc), N v w1 → Hp D A s (wr ++ w1) H1 locs1 → W p l e R s m args below meth c H1 locs1 (cells + rm.cells) (slots + rm.slots) Q (F0 m (pc + 3) ls (v.toList ++ rest)))
    (kx : ∀ (E : String) (q9 : Nat) (ce : Cell) (w1 : va_W) (H1 : Heap) (locs1 : List Loc), X E w1 → Hp D A s (wr ++ w1) H1 locs1 → H1[q9]? = some ce → ce.vm = .none → s.vm.findClass E = some ce.cls → vx_W p l e R s m args below meth c H1 locs1 (cells + rm.cells) (slots + rm.slots) Q (F0 m pc ls rest) q9) :
    W p l e R s m args below meth c H locs cells slots Q (F0 m pc ls (As.reverse ++ rest)) := by
  have hG : GoodIn tg (.code y bytes maxL ret :: tg) := tg_GoodIn (fun w hw => (List.mem_cons.mp hw).elim (fun e => e ▸ w5) (fun h => h))
  exact runX C hH cut (vx_runS (As := As) (rest := rest) C.fix hM ⟨callB_of As.length C.ts hG rfl rfl rfl (C.ts _ w4) (C.ts _ w1) hd hR, C.ts _ w2⟩ ⟨Pr.blind, preOf C hK hH cut.1 cut.2.2.1⟩ rfl rfl hl rfl (lv_room hrm) hdg hf) kk kx
/-- invokevirtual of a nest mate's method, which doesn't throw -/
theorem kVN {host : String} (C : Cx p l s m meth c args cc nL own A D hh) (hK : Kn D s) (hH : Hp D A s ws H locs) (hM : Ct l y (.code y bytes maxL ret :: tg) rm D wc (.ref b :: As) H.size N nox) (cut : Cut ws wc wr isC isR)
    (q0 : Nat) {ci NN : Nat} {fs : List Value} {TT : u_T} (hrc : ws[q0]? = some (b, .inr (ci, fs))) (hcl : vwCl[ci]? = some (y.cls, TT, NN))
    (w1 : Cond.methodLinkNest own index y host ∈ nwl) (w2 : Cond.instanceMethod y ∈ tg) (w3 : Cond.selects y.cls y y ∈ tg) (w4 : Cond.initialized y.cls ∈ tg) (w5 : Cond.code y bytes maxL ret ∈ tg)
    (hd : y.cls ≠ "java/lang/invoke/MethodHandle" ∧ y.cls ≠ "java/lang/invoke/VarHandle" ∧ (parseMethodDescriptor y.desc).map (fun d => d.parameters.length) = some As.length) (hR : rm.frames + 1 ≤ R.frames ∧ 8 + (maxL + 11) + rm.locals ≤ R.locals)
    (hl : ls.size = nL) (hrm : (rest.map fun v => v.category).sum ≤ 8) (hdg : decode cc pc = .ok (.invokevirtual index, 3)) (hf : cells + rm.cells ≤ R.cells ∧ slots + rm.slots ≤ R.slots)
    (kk : ∀ (v : Option Value) (w1 : va_W) (H1 : Heap) (locs1 : List Loc), N v w1 → Hp D A s (wr ++ w1) H1 locs1 → W p l e R s m args below meth c H1 locs1 (cells + rm.cells) (slots + rm.slots) Q (F0 m (pc + 3) ls (v.toList ++ rest))) :
    W p l e R s m args below meth c H locs cells slots Q (F0 m pc ls (As.reverse ++ .ref b :: rest)) := by
  have hG : GoodIn tg (.code y bytes maxL ret :: tg) := tg_GoodIn (fun w hw => (List.mem_cons.mp hw).elim (fun e => e ▸ w5) (fun h => h))
  exact run0 C hH cut (va_runVN (C := y.cls) (b := b) (As := As) (rest := rest) C.fix hM.met ⟨va_cnB As.length C.ts hG rfl rfl rfl (C.N.1 _ w1) (C.ts _ w4) hd hR, C.ts _ w2, C.ts _ w3⟩ ⟨Pr.blind, va_recv hK.1 hH.1 hcl hrc, preOf C hK hH cut.1 cut.2.2.1⟩ rfl rfl hl rfl (lv_room hrm) hdg hf) kk
/-- a constructor of the own sort, or of another that may be seen -/
theorem kI (C : Cx p l s m meth c args cc nL own A D hh) (hK : Kn D s) (hH : Hp D A s ws H locs) (hM : Ct l y (.code y bytes maxL none :: tg) rm D wc (.ref b :: As) H.size N nox) (cut : Cut ws wc wr isC isR) (hy1 : y.name = "<init>")
    (w1 : Cond.methodLink own index y ∈ tg) (w2 : Cond.instanceMethod y ∈ tg) (w4 : Cond.initialized y.cls ∈ tg) (w5 : Cond.code y bytes maxL none ∈ tg)
    (hd : y.cls ≠ "java/lang/invoke/MethodHandle" ∧ y.cls ≠ "java/lang/invoke/VarHandle" ∧ (parseMethodDescriptor y.desc).map (fun d => d.parameters.length) = some As.length) (hR : rm.frames + 1 ≤ R.frames ∧ 8 + (maxL + 11) + rm.locals ≤ R.locals)
    (hl : ls.size = nL) (hrm : (rest.map fun v => v.category).sum ≤ 8) (hdg : decode cc pc = .ok (.invokespecial index, 3)) (hf : cells + rm.cells ≤ R.cells ∧ slots + rm.slots ≤ R.slots)
    (kk : ∀ (v : Option Value) (w1 : va_W) (H1 : Heap) (locs1 : List Loc), N v w1 → Hp D A s (wr ++ w1) H1 locs1 → W p l e R s m args below meth c H1 locs1 (cells + rm.cells) (slots + rm.slots) Q (F0 m (pc + 3) ls (v.toList ++ rest))) :
    W p l e R s m args below meth c H locs cells slots Q (F0 m pc ls (As.reverse ++ .ref b :: rest)) := by
  have hG : GoodIn tg (.code y bytes maxL none :: tg) := tg_GoodIn (fun w hw => (List.mem_cons.mp hw).elim (fun e => e ▸ w5) (fun h => h))
  exact run0 C hH cut (va_runI (b := b) (As := As) (rest := rest) C.fix hM.met (cwI As.length C.ts hG rfl rfl rfl (C.ts _ w4) (C.ts _ w1) (C.ts _ w2) hy1 hd hR) ⟨Pr.blind, preOf C hK hH cut.1 cut.2.2.1⟩ rfl rfl hl rfl (lv_room hrm) hdg hf) kk
theorem kIN {host : String} (C : Cx p l s m meth c args cc nL own A D hh) (hK : Kn D s) (hH : Hp D A s ws H locs) (hM : Ct l y (.code y bytes maxL none :: tg) rm D wc (.ref b :: As) H.size N nox) (cut : Cut ws wc wr isC isR) (hy1 : y.name = "<init>")
    (w1 : Cond.methodLinkNest own index y host ∈ nwl) (w2 : Cond.instanceMethod y ∈ tg) (w4 : Cond.initialized y.cls ∈ tg) (w5 : Cond.code y bytes maxL none ∈ tg)
    (hd : y.cls ≠ "java/lang/invoke/MethodHandle" ∧ y.cls ≠ "java/lang/invoke/VarHandle" ∧ (parseMethodDescriptor y.desc).map (fun d => d.parameters.length) = some As.length) (hR : rm.frames + 1 ≤ R.frames ∧ 8 + (maxL + 11) + rm.locals ≤ R.locals)
    (hl : ls.size = nL) (hrm : (rest.map fun v => v.category).sum ≤ 8) (hdg : decode cc pc = .ok (.invokespecial index, 3)) (hf : cells + rm.cells ≤ R.cells ∧ slots + rm.slots ≤ R.slots)
    (kk : ∀ (v : Option Value) (w1 : va_W) (H1 : Heap) (locs1 : List Loc), N v w1 → Hp D A s (wr ++ w1) H1 locs1 → W p l e R s m args below meth c H1 locs1 (cells + rm.cells) (slots + rm.slots) Q (F0 m (pc + 3) ls (v.toList ++ rest))) :
    W p l e R s m args below meth c H locs cells slots Q (F0 m pc ls (As.reverse ++ .ref b :: rest)) := by
  have hG : GoodIn tg (.code y bytes maxL none :: tg) := tg_GoodIn (fun w hw => (List.mem_cons.mp hw).elim (fun e => e ▸ w5) (fun h => h))
  exact run0 C hH cut (va_runIN (b := b) (As := As) (rest := rest) C.fix hM.met ⟨va_cnB As.length C.ts hG rfl rfl rfl (C.N.1 _ w1) (C.ts _ w4) hd hR, hy1, C.ts _ w2⟩ ⟨Pr.blind, preOf C hK hH cut.1 cut.2.2.1⟩ rfl rfl hl rfl (lv_room hrm) hdg hf) kk
/-- it goes on to the caller -/
theorem kOut {N0 : Option Value → va_W → Prop} {X0 : String → va_W → Prop} {rm0 : Room} {E : String} {ce : Cell} {q : Nat} (C : Cx p l s m meth c args cc nL own A D []) (hH : Hp D A s ws H locs) (hX : X0 E ws) (hce : H[q]? = some ce) (hv : ce.vm = .none) (hcl : s.vm.findClass E = some ce.cls) (hc : cells ≤ rm0.cells) (hs : slots ≤ rm0.slots) :
    vx_W p l e R s m args below meth c H locs cells slots (Qf below args s D A N0 X0 rm0) (F0 m pc ls rest) q := by
  refine vx_out ?_ C.locks hce hv hcl (fun t ht ha => ⟨⟨ws, hX, by rw [ht]; exact hH.1, hH.2.1⟩, hH.2.2.F ht⟩) hH.2.2.2.2 hc hs
  rw [C.tab]
  intro x hx
  cases hx
end CALL
