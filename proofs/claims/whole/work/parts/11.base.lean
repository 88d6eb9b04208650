/-! what stands through a walk: the words of the nest, the constants of the start -/
def isNest (w : Cond) : Bool := match w with
  | .fieldLinkNest .. => true
  | .methodLinkNest .. => true
  | .declares .. => true
  | .castable .. => true
  | _ => false
def nwl : List Cond := lw_tbl.filter isNest
theorem nwl_of {w : Cond} (h : w ∈ lw_tbl) (g : isNest w = true) : w ∈ nwl := List.mem_filter.mpr ⟨h, g⟩
/-- the claim's two texts: their lengths and bytes -/
def lnS : List Nat := [11, 4]
def byS : List (List Int32) := [[65, 68, 80, 83, 76, 67, 84, 79, 72, 77, 85], [103, 122, 110, 109]]
def Nw (D : va_G) (U : State) : Prop := (∀ w ∈ nwl, va_Nw w U) ∧ vk_R RX1 60 "ADPSLCTOHMU" (D.2 20 0) U ∧ vk_R RX1 92 "gznm" (D.2 20 1) U
theorem Nw.warm {D : va_G} {s U : State} (hW : s.WarmedH U.vm) (h : Nw D s) : Nw D U := by
  refine ⟨fun w hw => ?_, vk_R.warm hW h.2.1, vk_R.warm hW h.2.2⟩
  have h1 := h.1 w hw
  have h2 := (List.mem_filter.mp hw).2
  cases w <;> first | (exact va_Nw.warmF hW h1) | (exact va_Nw.warmM hW h1) | (exact va_Nw.warmD hW h1) | (exact va_Nw.warmC hW h1) | (simp [isNest] at h2)
theorem Nw.same {D : va_G} {u U : State} (e : u.vm = U.vm) (h : Nw D u) : Nw D U := by
  refine ⟨fun w hw => ?_, vk_R.same e.symm h.2.1, vk_R.same e.symm h.2.2⟩
  have h1 := h.1 w hw
  have h2 := (List.mem_filter.mp hw).2
  cases w <;> first | (exact va_Nw.same rfl e h1) | (simp [isNest] at h2)
def Zs (D : va_G) (A : Nat → Prop) (U : State) (H : Heap) : Prop := vx_Zq Bundle.tN "UNASSIGNED_STACK" Bundle.steD A U H ∧ vx_Zq Bundle.tN "SUPPRESSED_SENTINEL" Bundle.listD A U H ∧ vk_S 2 lnS byS (D.2 20) (D.2 21) A U H ∧ va_Z "java/lang/String" "COMPACT_STRINGS" "Z" (.int 1) A U H
theorem Zs.moved {D : va_G} {A : Nat → Prop} {u U : State} {H : Heap} (hvm : u.vm.Alike U.vm) (h : Zs D A u H) : Zs D A U H := ⟨vx_Zq.moved hvm h.1, vx_Zq.moved hvm h.2.1, vk_S.moved hvm h.2.2.1, va_Z.moved hvm h.2.2.2⟩
theorem Zs.kept {D : va_G} {A : Nat → Prop} {U : State} {H H1 : Heap} (h : Zs D A U H) (hq : ∀ a : Nat, a < H.size → ¬ A a → H1[a]? = H[a]?) : Zs D A U H1 := ⟨vx_Zq.kept h.1 hq, vx_Zq.kept h.2.1 hq, vk_S.kept h.2.2.1 hq, va_Z.kept h.2.2.2 hq⟩
theorem Zs.narrow {D : va_G} {A B : Nat → Prop} {U : State} {H : Heap} (h : Zs D A U H) (hAB : ∀ q, B q → A q) : Zs D B U H := ⟨vx_Zq.narrow h.1 hAB, vx_Zq.narrow h.2.1 hAB, vk_S.narrow h.2.2.1 hAB, va_Z.narrow h.2.2.2 hAB⟩
/-- the kinds of array that the claim has -/
def TY (D : va_G) : List (ClassId × FieldType) := [(D.1 10, .char), (D.1 11, .int), (D.1 12, .boolean), (D.1 13, .object "MicroMachine$Word"), (D.1 14, .long)]
def Kn (D : va_G) (U : State) : Prop := va_K D vwCl (TY D) U ∧ va_AO "MicroMachine$Word" U
theorem Kn.moved {D : va_G} {u U : State} (h : u.vm.Alike U.vm) (k : Kn D u) : Kn D U := ⟨va_K.moved h k.1, va_AO.moved h k.2⟩
/-- a method's start: its world, the words, the constants -/
def Pr (D : va_G) (ws : va_W) (sz : Nat) (U : State) : Prop := U.heap.size = sz ∧ va_P D vwCl ws U.heap ∧ Kn D U ∧ va_D (fun _ => True) ws ∧ Zs D (va_A ws sz) U U.heap ∧ Nw D U
theorem Pr.blind {D : va_G} {ws : va_W} {sz : Nat} {As : List Value} : FrameBlind (va_Pc As (Pr D ws sz)) := by
  intro a U g mk ⟨q0, q1, qP, qK, qD, qZ, qN⟩
  exact ⟨q0, q1, qP, Kn.moved (u := U) (U := U.calling g mk a) (Vm.Alike.refl U.vm) qK, qD, Zs.moved (u := U) (U := U.calling g mk a) (Vm.Alike.refl U.vm) qZ, Nw.same (u := U) (U := U.calling g mk a) rfl qN⟩
/-- what a method says at its end: the answer and the world -/
def Qn (D : va_G) (A : Nat → Prop) (N : Option Value → va_W → Prop) : Array Value → State → Outcome → State → Prop := fun _ st oc t => (∃ (v : Option Value) (w : va_W), oc = .returned v ∧ N v w ∧ va_P D vwCl w t.heap ∧ va_D A w) ∧ va_F A st t
def Qx (D : va_G) (A : Nat → Prop) (X : String → va_W → Prop) : String → State → State → Prop := fun E st t => (∃ w : va_W, X E w ∧ va_P D vwCl w t.heap ∧ va_D A w) ∧ va_F A st t
/-- a method's contract -/
def Ct (l : Launch) (y : MethodName) (wy : List Cond) (rm : Room) (D : va_G) (ws : va_W) (As : List Value) (sz : Nat) (N : Option Value → va_W → Prop) (X : String → va_W → Prop) : Prop :=
  vx_Met l y wy rm (va_Pc As (Pr D ws sz)) (Qn D (va_A ws sz) N) (Qx D (va_A ws sz) X) rm.cells rm.slots (va_A ws sz)
abbrev nox : String → va_W → Prop := fun _ _ => False
/-- what is fixed in a method's body -/
def Cx (p : Program) (l : Launch) (s : State) (m : MethodId) (meth : Method) (c : Code) (args : Array Value) (cc : ByteArray) (nL : Nat) (own : String) (A : Nat → Prop) (D : va_G) (hh : List (Nat × Nat × Nat × Nat)) : Prop :=
  p.tables.exec = Jvm.exec ∧ c.code = cc ∧ c.maxLocals = nL ∧ s.vm.findClass own = some m.cls ∧ (∀ w ∈ tg, w.before args s = true) ∧ meth.locks = false ∧ (∀ q, s.heap.size ≤ q → A q) ∧ Zs D A s s.heap ∧ Nw D s ∧ l.stackTraces = false ∧ c.exceptionTable.toList = tableOf hh
/-- the heap on the way: the world's cells, all else as it was -/
def Hp (D : va_G) (A : Nat → Prop) (s : State) (ws : va_W) (H : Heap) (locs : List Loc) : Prop := va_P D vwCl ws H ∧ va_D A ws ∧ va_S A s.heap H locs
section CX
variable {p : Program} {l : Launch} {e : Env} {R : Room} {s : State} {m : MethodId} {args : Array Value} {below : List Frame} {meth : Method} {c : Code} {H : Heap} {locs : List Loc} {cells slots : Nat} {Q : State → Prop} {cc : ByteArray} {pc : Nat} {ls : Array Slot} {rest : List Value} {nL : Nat} {own : String} {A : Nat → Prop} {D : va_G} {ws : va_W} {hh : List (Nat × Nat × Nat × Nat)}
theorem Cx.x (C : Cx p l s m meth c args cc nL own A D hh) : p.tables.exec = Jvm.exec := C.1
theorem Cx.b (C : Cx p l s m meth c args cc nL own A D hh) : c.code = cc := C.2.1
theorem Cx.ml (C : Cx p l s m meth c args cc nL own A D hh) : c.maxLocals = nL := C.2.2.1
theorem Cx.ow (C : Cx p l s m meth c args cc nL own A D hh) : s.vm.findClass own = some m.cls := C.2.2.2.1
theorem Cx.ts (C : Cx p l s m meth c args cc nL own A D hh) : ∀ w ∈ tg, w.before args s = true := C.2.2.2.2.1
theorem Cx.locks (C : Cx p l s m meth c args cc nL own A D hh) : meth.locks = false := C.2.2.2.2.2.1
theorem Cx.hA (C : Cx p l s m meth c args cc nL own A D hh) : ∀ q, s.heap.size ≤ q → A q := C.2.2.2.2.2.2.1
theorem Cx.Z (C : Cx p l s m meth c args cc nL own A D hh) : Zs D A s s.heap := C.2.2.2.2.2.2.2.1
theorem Cx.N (C : Cx p l s m meth c args cc nL own A D hh) : Nw D s := C.2.2.2.2.2.2.2.2.1
theorem Cx.tr (C : Cx p l s m meth c args cc nL own A D hh) : l.stackTraces = false := C.2.2.2.2.2.2.2.2.2.1
theorem Cx.tab (C : Cx p l s m meth c args cc nL own A D hh) : c.exceptionTable.toList = tableOf hh := C.2.2.2.2.2.2.2.2.2.2
theorem Cx.fix (C : Cx p l s m meth c args cc nL own A D hh) : CallFix p m c cc nL s args tg own := ⟨C.x, C.b, C.ml, C.ow, C.ts⟩
/-- the end that a contract asks for -/
def Qf (below : List Frame) (args : Array Value) (s : State) (D : va_G) (A : Nat → Prop) (N : Option Value → va_W → Prop) (X : String → va_W → Prop) (rm : Room) : State → Prop := vx_MQ below (Qn D A N) (Qx D A X) args s rm.cells rm.slots A
/-- ireturn of an int -/
theorem rI {N : Option Value → va_W → Prop} {X : String → va_W → Prop} {rm : Room} {v : Int32} (C : Cx p l s m meth c args cc nL own A D hh) (hr : meth.sig.returnType = some .int) (hH : Hp D A s ws H locs) (hN : N (some (.int v)) ws) (hc : cells ≤ rm.cells) (hs : slots ≤ rm.slots) (hdg : decode cc pc = .ok (.ireturn, 1)) :
    W p l e R s m args below meth c H locs cells slots (Qf below args s D A N X rm) (F0 m pc ls [.int v]) := by
  refine vx_ret (W.widen hc hs ?_)
  exact W.iret C.x C.b hr (fun t ht hW => ⟨⟨_, ws, rfl, hN, by rw [ht]; exact hH.1, hH.2.1⟩, hH.2.2.F ht⟩) hH.2.2.2.2 hdg C.locks
theorem rZ {N : Option Value → va_W → Prop} {X : String → va_W → Prop} {rm : Room} {v : Int32} {ty : FieldType} (C : Cx p l s m meth c args cc nL own A D hh) (hr : meth.sig.returnType = some ty) (hn : narrow ty (.int v) = .int v) (hH : Hp D A s ws H locs) (hN : N (some (.int v)) ws) (hc : cells ≤ rm.cells) (hs : slots ≤ rm.slots) (hdg : decode cc pc = .ok (.ireturn, 1)) :
    W p l e R s m args below meth c H locs cells slots (Qf below args s D A N X rm) (F0 m pc ls [.int v]) := by
  refine vx_ret (W.widen hc hs ?_)
  exact W.zret C.x C.b hr hn (fun t ht hW => ⟨⟨_, ws, rfl, hN, by rw [ht]; exact hH.1, hH.2.1⟩, hH.2.2.F ht⟩) hH.2.2.2.2 hdg C.locks
theorem rV {N : Option Value → va_W → Prop} {X : String → va_W → Prop} {rm : Room} (C : Cx p l s m meth c args cc nL own A D hh) (hr : meth.sig.returnType = none) (hH : Hp D A s ws H locs) (hN : N none ws) (hc : cells ≤ rm.cells) (hs : slots ≤ rm.slots) (hdg : decode cc pc = .ok (.return_, 1)) :
    W p l e R s m args below meth c H locs cells slots (Qf below args s D A N X rm) (F0 m pc ls []) := by
  refine vx_ret (W.widen hc hs ?_)
  exact W.vret C.x C.b hr (fun t ht hW => ⟨⟨_, ws, rfl, hN, by rw [ht]; exact hH.1, hH.2.1⟩, hH.2.2.F ht⟩) hH.2.2.2.2 hdg C.locks
theorem rA {N : Option Value → va_W → Prop} {X : String → va_W → Prop} {rm : Room} {r : Option Nat} {rt : FieldType} (C : Cx p l s m meth c args cc nL own A D hh) (hr : meth.sig.returnType = some rt) (hrt : (∃ n, rt = .object n) ∨ ∃ t, rt = .array t) (hH : Hp D A s ws H locs) (hN : N (some (va_rf r)) ws) (hc : cells ≤ rm.cells) (hs : slots ≤ rm.slots) (hdg : decode cc pc = .ok (.areturn, 1)) :
    W p l e R s m args below meth c H locs cells slots (Qf below args s D A N X rm) (F0 m pc ls [va_rf r]) := by
  refine vx_ret (W.widen hc hs ?_)
  exact W.aret C.x C.b hr hrt (va_rf_or r) (fun t ht hW => ⟨⟨_, ws, rfl, hN, by rw [ht]; exact hH.1, hH.2.1⟩, hH.2.2.F ht⟩) hH.2.2.2.2 hdg C.locks
end CX
