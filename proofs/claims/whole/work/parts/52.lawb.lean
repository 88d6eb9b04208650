/-! the law's own methods: they catch -/
def Nc4 (U : State) : Prop := va_Nc eIS eIA U ∧ va_Nc eNS eIA U ∧ va_Nc eIO eIA U ∧ va_Nc eIO eNS U
theorem Nc4.moved {u U : State} (h : u.vm.Alike U.vm) (k : Nc4 u) : Nc4 U := ⟨va_Nc.moved h k.1, va_Nc.moved h k.2.1, va_Nc.moved h k.2.2.1, va_Nc.moved h k.2.2.2⟩
def Pr2 (D : va_G) (ws : va_W) (sz : Nat) (U : State) : Prop := Pr D ws sz U ∧ Nc4 U
theorem Pr2.blind {D : va_G} {ws : va_W} {sz : Nat} {As : List Value} : FrameBlind (va_Pc As (Pr2 D ws sz)) := by
  intro a U g mk ⟨q0, q1, q2⟩
  exact ⟨q0, (Pr.blind (As := As) a U g mk ⟨q0, q1⟩).2, Nc4.moved (u := U) (U := U.calling g mk a) (Vm.Alike.refl U.vm) q2⟩
def Ct2 (l : Launch) (y : MethodName) (wy : List Cond) (rm : Room) (D : va_G) (ws : va_W) (As : List Value) (sz : Nat) (N : Option Value → va_W → Prop) : Prop :=
  vx_Met l y wy rm (va_Pc As (Pr2 D ws sz)) (Qn D (va_A ws sz) N) (Qx D (va_A ws sz) nox) rm.cells rm.slots (va_A ws sz)
theorem Ct2.of {l : Launch} {y : MethodName} {rm : Room} {D : va_G} {ws : va_W} {As : List Value} {sz : Nat} {N : Option Value → va_W → Prop} {cc : ByteArray} {nL : Nat} {ret : Option FieldType} {own : String} {hh : List (Nat × Nat × Nat × Nat)}
    (hl : l.stackTraces = false) (hy : plainName y.cls = true) (ho : y.cls = own) (hsl : (lg_sl As).length ≤ nL)
    (body : ∀ (p : Program) (e : Env) (s : State) (m : MethodId) (args : Array Value) (below : List Frame) (meth : Method) (c : Code) (A : Nat → Prop), Cx p l s m meth c args cc nL own A D hh → Nc4 s → meth.sig.returnType = ret → Kn D s → ∀ (H : Heap) (locs : List Loc), Hp D A s ws H locs →
      ∀ ls : Array Slot, lv_has ls nL (lv_args 0 As) → W p l e rm s m args below meth c H locs 0 0 (Qf below args s D A N nox rm) (F0 m 0 ls [])) :
    Ct2 l y (.codeWith y cc nL ret hh :: tg) rm D ws As sz N := by
  refine vx_ofWH (cc := cc) (maxL := nL) (ret := ret) (hh := hh) hy rfl ?_
  intro p e s m args below meth c s₁ B hml hv
  obtain ⟨rfl, ⟨hsz, hP, hK, hD, hZ, hN⟩, hc4⟩ := hv
  subst hsz
  have hts := atoms_spec (ws := .codeWith y cc nL ret hh :: tg) B.pre
  have hl0 := lv_entry As (n := nL) hsl
  rw [lg_entry_eq]
  refine body p e s m _ below meth c (va_A ws s.heap.size) ?_ hc4 B.returns hK _ _ ⟨hP, hD.self, va_S.rf⟩ _ hl0
  exact ⟨B.exec, B.bytes, hml, by rw [← ho]; exact findClass_of_methodNamed B.named, fun w h => hts w (List.mem_cons_of_mem _ h), B.notSynchronized, fun q h => Or.inr h, hZ, hN, hl, vx_table (x := y) B (hts _ List.mem_cons_self)⟩
section CATCH
variable {p : Program} {l : Launch} {e : Env} {R : Room} {s : State} {m : MethodId} {args : Array Value} {below : List Frame} {meth : Method} {c : Code} {H : Heap} {locs : List Loc} {cells slots : Nat} {Q : State → Prop} {cc : ByteArray} {pc : Nat} {ls : Array Slot} {rest : List Value} {nL : Nat} {own : String} {A : Nat → Prop} {D : va_G} {ws wc wr : va_W} {hh : List (Nat × Nat × Nat × Nat)}
theorem kCat {E name : String} {ce : Cell} {q : Nat} (C : Cx p l s m meth c args cc nL own A D hh) (pre : List ExceptionTableEntry) (x : ExceptionTableEntry) (suf : List ExceptionTableEntry) (hsplit : tableOf hh = pre ++ x :: suf)
    (hpass : ∀ z ∈ pre, z.catchType ≠ 0 ∧ ∃ nm : String, Cond.classLink own z.catchType nm ∈ tg ∧ va_Nc E nm s) (hx : covers x pc = true) (h0 : x.catchType ≠ 0)
    (hlink : Cond.classLink own x.catchType name ∈ tg) (hcast : Cond.castable E name ∈ nwl) (hcell : H[q]? = some ce) (hv : ce.vm = .none) (hcl : s.vm.findClass E = some ce.cls)
    (kk : W p l e R s m args below meth c H locs cells slots Q (F0 m x.handlerPc ls [.ref q])) : vx_W p l e R s m args below meth c H locs cells slots Q (F0 m pc ls rest) q := by
  refine vx_catch (own := own) (name := name) (E := E) C.ow pre x suf (C.tab.trans hsplit) (fun z hz => Or.inr ?_) hx h0 (C.ts _ hlink) ?_ hcell hv hcl kk
  · obtain ⟨h1, nm, h2, h3⟩ := hpass z hz
    exact ⟨h1, nm, C.ts _ h2, h3⟩
  · exact va_tabs rfl rfl (C.N.1 _ hcast)
variable {y : MethodName} {rm : Room} {As : List Value} {N : Option Value → va_W → Prop} {index maxL : Nat} {ret : Option FieldType} {bytes : ByteArray}
/-- invokestatic of a method that catches -/
theorem pSW {hy : List (Nat × Nat × Nat × Nat)} (C : Cx p l s m meth c args cc nL own A D hh) (h4 : Nc4 s) (hK : Kn D s) (hH : Hp D A s (wr ++ wc) H locs) (hM : Ct2 l y (.codeWith y bytes maxL ret hy :: tg) rm D wc As H.size N)
    (w1 : Cond.methodLink own index y ∈ tg) (w2 : Cond.static y ∈ tg) (w4 : Cond.initialized y.cls ∈ tg) (w5 : Cond.codeWith y bytes maxL ret hy ∈ tg)
    (hd : y.cls ≠ "java/lang/invoke/MethodHandle" ∧ y.cls ≠ "java/lang/invoke/VarHandle" ∧ (parseMethodDescriptor y.desc).map (fun d => d.parameters.length) = some As.length) (hR : rm.frames + 1 ≤ R.frames ∧ 8 + (maxL + 11) + rm.locals ≤ R.locals)
    (hl : ls.size = nL) (hrm : (rest.map fun v => v.category).sum ≤ 8) (hdg : decode cc pc = .ok (.invokestatic index, 3)) (hf : cells + rm.cells ≤ R.cells ∧ slots + rm.slots ≤ R.slots)
    (kk : ∀ (v : Option Value) (w1 : va_W) (H1 : Heap) (locs1 : List Loc), N v w1 → Hp D A s (wr ++ w1) H1 locs1 → W p l e R s m args below meth c H1 locs1 (cells + rm.cells) (slots + rm.slots) Q (F0 m (pc + 3) ls (v.toList ++ rest))) :
    W p l e R s m args below meth c H locs cells slots Q (F0 m pc ls (As.reverse ++ rest)) := by
  have hG : GoodIn tg (va_wsS own index y (.codeWith y bytes maxL ret hy :: tg)) := tg_GoodIn (fun w hw => by
    simp only [va_wsS, List.mem_append, List.mem_cons, List.not_mem_nil, or_false] at hw
    rcases hw with (rfl | rfl | rfl) | rfl | hw
    · exact w1
    · exact w2
    · exact w4
    · exact w5
    · exact hw)
  refine runP (X := nox) C hH (vx_runSX (As := As) (rest := rest) C.fix hM (vx_cwSW As.length C.ts hG rfl rfl rfl hd hR) ⟨Pr2.blind, fun U hU hW => ?_⟩ rfl rfl hl rfl (lv_room hrm) hdg hf) kk (fun _ _ _ _ _ _ h => False.elim h)
  have h := preP (As := As) C hK hH U hU hW
  exact ⟨h.1, h.2, Nc4.moved hW.alike h4⟩
end CATCH
/-! the law's world: its cells, and the pool behind them -/
theorem pmN {X a b P : va_W} (h : X.Perm (a ++ b)) : (X ++ P).Perm ((a ++ P) ++ b) := by
  refine (h.append_right P).trans ?_
  rw [List.append_assoc, List.append_assoc]
  exact List.perm_append_comm.append_left a
theorem pmP {X a b P : va_W} (h : X.Perm (a ++ b)) : (X ++ P).Perm (a ++ (b ++ P)) := by
  rw [← List.append_assoc]; exact h.append_right P
theorem lg_self (x : Int64) : lg_cmp x x = 0 := by
  unfold lg_cmp
  have h : ¬ x < x := by rw [Int64.lt_iff_toInt_lt]; omega
  simp [h]
