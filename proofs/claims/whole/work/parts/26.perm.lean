/-! worlds in any order -/
theorem vP_mem {D : va_G} {cl : List vw_C} {ws : va_W} {H : Heap} : va_P D cl ws H ↔ ∀ q ∈ ws, va_at D cl q H := by
  constructor
  · intro h q hq
    obtain ⟨k, hk⟩ := List.getElem?_of_mem hq
    exact h k q hk
  · intro h k q hk
    exact h q (List.mem_of_getElem? hk)
theorem vD_mem {A : Nat → Prop} {ws : va_W} : va_D A ws ↔ (ws.map Prod.fst).Nodup ∧ ∀ q ∈ ws, A q.1 := by
  constructor
  · intro ⟨h1, h2⟩
    refine ⟨List.pairwise_iff_getElem.mpr (fun i j hi hj hij e => ?_), fun q hq => ?_⟩
    · rw [List.length_map] at hi hj
      rw [List.getElem_map, List.getElem_map] at e
      have := h1 i j ws[i] ws[j] (List.getElem?_eq_getElem hi) (List.getElem?_eq_getElem hj) e
      omega
    · obtain ⟨k, hk⟩ := List.getElem?_of_mem hq
      exact h2 k q hk
  · intro ⟨h1, h2⟩
    refine ⟨fun i j p q hp hq e => ?_, fun k q hk => h2 q (List.mem_of_getElem? hk)⟩
    have h1 := List.pairwise_iff_getElem.mp h1
    obtain ⟨hi, ei⟩ := List.getElem?_eq_some_iff.mp hp
    obtain ⟨hj, ej⟩ := List.getElem?_eq_some_iff.mp hq
    rcases Nat.lt_trichotomy i j with h | h | h
    · exact absurd (by rw [List.getElem_map, List.getElem_map, ei, ej]; exact e) (h1 i j (by simpa using hi) (by simpa using hj) h)
    · exact h
    · exact absurd (by rw [List.getElem_map, List.getElem_map, ei, ej]; exact e.symm) (h1 j i (by simpa using hj) (by simpa using hi) h)
theorem vP_perm {D : va_G} {cl : List vw_C} {ws ws' : va_W} {H : Heap} (h : ws.Perm ws') (hP : va_P D cl ws H) : va_P D cl ws' H := vP_mem.mpr (fun q hq => vP_mem.mp hP q (h.mem_iff.mpr hq))
theorem vD_perm {A : Nat → Prop} {ws ws' : va_W} (h : ws.Perm ws') (hD : va_D A ws) : va_D A ws' := by
  rw [vD_mem] at hD ⊢
  exact ⟨(h.map Prod.fst).nodup_iff.mp hD.1, fun q hq => hD.2 q (h.mem_iff.mpr hq)⟩
theorem Hp.perm {D : va_G} {A : Nat → Prop} {s : State} {ws ws' : va_W} {H : Heap} {locs : List Loc} (h : ws.Perm ws') (hH : Hp D A s ws H locs) : Hp D A s ws' H locs := ⟨vP_perm h hH.1, vD_perm h hH.2.1, hH.2.2⟩
/-- a world of places, parted -/
theorem perm_of {X wr cx : va_W} (isR isC : List Nat) (h1 : isR.filterMap (fun i => X[i]?) = wr) (h2 : isC.filterMap (fun i => X[i]?) = cx) (h : (List.range X.length).Perm (isR ++ isC)) : X.Perm (wr ++ cx) := by
  have e : (List.range X.length).filterMap (fun i => X[i]?) = X := by
    clear h h1 h2
    induction X with
    | nil => rfl
    | cons a l ih =>
      rw [List.length_cons, List.range_succ_eq_map, List.filterMap_cons]
      simp only [List.getElem?_cons_zero, List.filterMap_map, Function.comp_def, List.getElem?_cons_succ]
      exact congrArg (a :: ·) ih
  have h3 := h.filterMap (fun i => X[i]?)
  rw [e, List.filterMap_append, h1, h2] at h3
  exact h3
section PCALL
variable {p : Program} {l : Launch} {e : Env} {R : Room} {s : State} {m : MethodId} {args : Array Value} {below : List Frame} {meth : Method} {c : Code} {H : Heap} {locs : List Loc} {cells slots : Nat} {Q : State → Prop} {cc : ByteArray} {pc : Nat} {ls : Array Slot} {rest : List Value} {nL : Nat} {own : String} {A : Nat → Prop} {D : va_G} {ws wc wr : va_W} {hh : List (Nat × Nat × Nat × Nat)}
variable {y : MethodName} {rm : Room} {As : List Value} {N : Option Value → va_W → Prop} {X : String → va_W → Prop} {index maxL n : Nat} {ret : Option FieldType} {bytes : ByteArray} {b : Nat}
theorem freeP (C : Cx p l s m meth c args cc nL own A D hh) (hH : Hp D A s (wr ++ wc) H locs) : ∀ q, va_A wc H.size q → A q := by
  intro q hq
  rcases hq with ⟨k, e9, hk⟩ | hq
  · exact (vD_mem.mp hH.2.1).2 (q, e9) (List.mem_append_right _ (List.mem_of_getElem? hk))
  · exact C.hA q (Nat.le_trans hH.2.2.1 hq)
theorem preP (C : Cx p l s m meth c args cc nL own A D hh) (hK : Kn D s) (hH : Hp D A s (wr ++ wc) H locs) : ∀ U : State, U.heap = H → s.WarmedH U.vm → va_Pc As (Pr D wc H.size) As.toArray U := by
  intro U hU hW
  have hFc := freeP C hH
  refine ⟨rfl, by rw [hU], ?_, Kn.moved hW.alike hK, ?_, ?_, Nw.warm hW C.N⟩
  · rw [hU]; exact vP_mem.mpr (fun q hq => vP_mem.mp hH.1 q (List.mem_append_right _ hq))
  · have h := vD_mem.mp hH.2.1
    rw [List.map_append] at h
    exact vD_mem.mpr ⟨(List.nodup_append.mp h.1).2.1, fun _ _ => trivial⟩
  · rw [hU]
    exact Zs.moved hW.alike ((C.Z.kept hH.2.2.2.1).narrow hFc)
theorem joinP (C : Cx p l s m meth c args cc nL own A D hh) (hH : Hp D A s (wr ++ wc) H locs) {H1 : Heap} {locs1 : List Loc} {w1 : va_W} (hS1 : va_S A s.heap H1 locs1) (hk1 : ∀ q : Nat, q < H.size → ¬ va_A wc H.size q → H1[q]? = H[q]?) (hP1 : va_P D vwCl w1 H1) (hD1 : va_D (va_A wc H.size) w1) : Hp D A s (wr ++ w1) H1 locs1 := by
  have hFc := freeP C hH
  have hd := vD_mem.mp hH.2.1
  have hp := vP_mem.mp hH.1
  have hd1 := vD_mem.mp hD1
  rw [List.map_append] at hd
  have hnd := List.nodup_append.mp hd.1
  have hout : ∀ q ∈ wr, ¬ va_A wc H.size q.1 := by
    intro q hq hA
    rcases hA with ⟨k, e9, hk⟩ | hA
    · exact hnd.2.2 q.1 (List.mem_map_of_mem hq) q.1 (List.mem_map.mpr ⟨(q.1, e9), List.mem_of_getElem? hk, rfl⟩) rfl
    · exact absurd (hp q (List.mem_append_left _ hq)).lt (by omega)
  refine ⟨vP_mem.mpr (fun q hq => ?_), vD_mem.mpr ⟨?_, fun q hq => ?_⟩, hS1⟩
  · rcases List.mem_append.mp hq with h | h
    · have h1 := hp q (List.mem_append_left _ h)
      exact va_at.kept h1 (hk1 q.1 h1.lt (hout q h))
    · exact vP_mem.mp hP1 q h
  · rw [List.map_append]
    refine List.nodup_append.mpr ⟨hnd.1, hd1.1, fun a ha b hb e9 => ?_⟩
    obtain ⟨q, hq, rfl⟩ := List.mem_map.mp ha
    obtain ⟨z, hz, rfl⟩ := List.mem_map.mp hb
    exact hout q hq (e9 ▸ hd1.2 z hz)
  · rcases List.mem_append.mp hq with h | h
    · exact hd.2 q (List.mem_append_left _ h)
    · exact hFc _ (hd1.2 q h)
theorem runP (C : Cx p l s m meth c args cc nL own A D hh) (hH : Hp D A s (wr ++ wc) H locs) {a : Array Value} {st0 : List Value}
    (hr : vx_Run p l e R s m args below meth c H locs cells slots rm.cells rm.slots (F0 m pc ls st0) rest (Qn D (va_A wc H.size) N a) (Qx D (va_A wc H.size) X) (va_A wc H.size))
    (kk : ∀ (v : Option Value) (w1 : va_W) (H1 : Heap) (locs1 : List Loc), N v w1 → Hp D A s (wr ++ w1) H1 locs1 → W p l e R s m args below meth c H1 locs1 (cells + rm.cells) (slots + rm.slots) Q (F0 m (pc + 3) ls (v.toList ++ rest)))
    (kx : ∀ (E : String) (q9 : Nat) (ce : Cell) (w1 : va_W) (H1 : Heap) (locs1 : List Loc), X E w1 → Hp D A s (wr ++ w1) H1 locs1 → H1[q9]? = some ce → ce.vm = .none → s.vm.findClass E = some ce.cls → vx_W p l e R s m args below meth c H1 locs1 (cells + rm.cells) (slots + rm.slots) Q (F0 m pc ls rest) q9) :
    W p l e R s m args below meth c H locs cells slots Q (F0 m pc ls st0) := by
  have hFc := freeP C hH
  intro T hT XX
  rcases hr T hT XX with ⟨v, st₀, t, T', L, h0, X', hL, e1, e2, ⟨⟨v', w1, hv, hN, hP1, hD1⟩, hF⟩, go⟩ | ⟨q, st₀, t, T', L, E, ce, h0, X', hL, e1, e2, ⟨⟨w1, hx, hP1, hD1⟩, hF⟩, hce, hcv, hcl, go⟩
  · cases hv
    obtain ⟨k1, k2, k3⟩ := vx_keep (A0 := A) (A1 := va_A wc H.size) (free := va_A wc H.size) h0 e1 hH.2.2 (fun q _ h => hFc q h) hFc hL hF
    obtain ⟨t2, a1, b1⟩ := kk v w1 T'.heap (locs ++ L) hN (joinP C hH k3 k2 (by rw [e1]; exact hP1) hD1) T' rfl X'
    exact ⟨t2, go t2 a1, b1⟩
  · obtain ⟨k1, k2, k3⟩ := vx_keep (A0 := A) (A1 := va_A wc H.size) (free := va_A wc H.size) h0 e1 hH.2.2 (fun q _ h => hFc q h) hFc hL hF
    obtain ⟨t2, a1, b1⟩ := kx E q ce w1 T'.heap (locs ++ L) hx (joinP C hH k3 k2 (by rw [e1]; exact hP1) hD1) (by rw [e1]; exact hce) hcv hcl T' rfl X'
    exact ⟨t2, go.trans a1, b1⟩
/-- invokevirtual; the world stands as the rest and the callee's part -/
theorem pV (C : Cx p l s m meth c args cc nL own A D hh) (hK : Kn D s) (hH : Hp D A s (wr ++ wc) H locs) (hM : Ct l y (.code y bytes maxL ret :: tg) rm D wc (.ref b :: As) H.size N X)
    {ci NN : Nat} {fs : List Value} {TT : u_T} (hrc : (b, (.inr (ci, fs) : va_E)) ∈ wc) (hcl : vwCl[ci]? = some (y.cls, TT, NN))
    (w1 : Cond.methodLink own index y ∈ tg) (w2 : Cond.instanceMethod y ∈ tg) (w3 : Cond.selects y.cls y y ∈ tg) (w4 : Cond.initialized y.cls ∈ tg) (w5 : Cond.code y bytes maxL ret ∈ tg)
    (hd : y.cls ≠ "java/lang/invoke/MethodHandle" ∧ y.cls ≠ "java/lang/invoke/VarHandle" ∧ (parseMethodDescriptor y.desc).map (fun d => d.parameters.length) = some As.length) (hR : rm.frames + 1 ≤ R.frames ∧ 8 + (maxL + 11) + rm.locals ≤ R.locals)
    (hl : ls.size = nL) (hrm : (rest.map fun v => v.category).sum ≤ 8) (hdg : decode cc pc = .ok (.invokevirtual index, 3)) (hf : cells + rm.cells ≤ R.cells ∧ slots + rm.slots ≤ R.slots)
    (kk : ∀ (v : Option Value) (w1 : va_W) (H1 : Heap) (locs1 : List Loc), N v w1 → Hp D A s (wr ++ w1) H1 locs1 → W p l e R s m args below meth c H1 locs1 (cells + rm.cells) (slots + rm.slots) Q (F0 m (pc + 3) ls (v.toList ++ rest)))
    (kx : ∀ (E : String) (q9 : Nat) (ce : Cell) (w1 : va_W) (H1 : Heap) (locs1 : List Loc), X E w1 → Hp D A s (wr ++ w1) H1 locs1 → H1[q9]? = some ce → ce.vm = .none → s.vm.findClass E = some ce.cls → vx_W p l e R s m args below meth c H1 locs1 (cells + rm.cells) (slots + rm.slots) Q (F0 m pc ls rest) q9) :
    W p l e R s m args below meth c H locs cells slots Q (F0 m pc ls (As.reverse ++ .ref b :: rest)) := by
  have hG : GoodIn tg (wsV own index y.cls y (.code y bytes maxL ret :: tg)) := tg_GoodIn (fun w hw => by
    simp only [wsV, List.mem_append, List.mem_cons, List.not_mem_nil, or_false] at hw
    rcases hw with (rfl | rfl | rfl | rfl) | rfl | hw
    · exact w1
    · exact w2
    · exact w3
    · exact w4
    · exact w5
    · exact hw)
  obtain ⟨k0, hk0⟩ := List.getElem?_of_mem (List.mem_append_right wr hrc)
  refine runP C hH (vx_runV (b := b) (As := As) (rest := rest) C.fix hM (cwV As.length C.ts hG rfl rfl rfl ⟨rfl, hd⟩ hR) ⟨Pr.blind, ?_, preP C hK hH⟩ rfl rfl hl rfl (lv_room hrm) hdg hf) kk kx
  exact va_recv hK.1 hH.1 hcl hk0
/-- invokestatic; likewise -/
theorem pS (C : Cx p l s m meth c args cc nL own A D hh) (hK : Kn D s) (hH : Hp D A s (wr ++ wc) H locs) (hM : Ct l y (.code y bytes maxL ret :: tg) rm D wc As H.size N X)
    (w1 : Cond.methodLink own index y ∈ tg) (w2 : Cond.static y ∈ tg) (w4 : Cond.initialized y.cls ∈ tg) (w5 : Cond.code y bytes maxL ret ∈ tg)
    (hd : y.cls ≠ "java/lang/invoke/MethodHandle" ∧ y.cls ≠ "java/lang/invoke/VarHandle" ∧ (parseMethodDescriptor y.desc).map (fun d => d.parameters.length) = some As.length) (hR : rm.frames + 1 ≤ R.frames ∧ 8 + (maxL + 11) + rm.locals ≤ R.locals)
    (hl : ls.size = nL) (hrm : (rest.map fun v => v.category).sum ≤ 8) (hdg : decode cc pc = .ok (.invokestatic index, 3)) (hf : cells + rm.cells ≤ R.cells ∧ slots + rm.slots ≤ R.slots)
    (kk : ∀ (v : Option Value) (w1 : va_W) (H1 : Heap) (locs1 : List Loc), N v w1 → Hp D A s (wr ++ w1) H1 locs1 → W p l e R s m args below meth c H1 locs1 (cells + rm.cells) (slots + rm.slots) Q (F0 m (pc + 3) ls (v.toList ++ rest)))
    (kx : ∀ (E : String) (q9 : Nat) (ce : Cell) (w1 : va_W) (H1 : Heap) (locs1 : List Loc), X E w1 → Hp D A s (wr ++ w1) H1 locs1 → H1[q9]? = some ce → ce.vm = .none → s.vm.findClass E = some ce.cls → vx_W p l e R s m args below meth c H1 locs1 (cells + rm.cells) (slots + rm.slots) Q (F0 m pc ls rest) q9) :
    W p l e R s m args below meth c H locs cells slots Q (F0 m pc ls (As.reverse ++ rest)) := by
  have hG : GoodIn tg (.code y bytes maxL ret :: tg) := tg_GoodIn (fun w hw => (List.mem_cons.mp hw).elim (fun e => e ▸ w5) (fun h => h))
  exact runP C hH (vx_runS (As := As) (rest := rest) C.fix hM ⟨callB_of As.length C.ts hG rfl rfl rfl (C.ts _ w4) (C.ts _ w1) hd hR, C.ts _ w2⟩ ⟨Pr.blind, preP C hK hH⟩ rfl rfl hl rfl (lv_room hrm) hdg hf) kk kx
end PCALL
