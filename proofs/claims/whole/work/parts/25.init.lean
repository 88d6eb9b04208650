/-- a constructor's contract -/
theorem Ct.ofI {l : Launch} {y : MethodName} {rm : Room} {D : va_G} {ws : va_W} {As : List Value} {sz : Nat} {N : Option Value → va_W → Prop} {X : String → va_W → Prop} {cc : ByteArray} {nL : Nat} {ret : Option FieldType} {own : String}
    (hl : l.stackTraces = false) (hy : plainName y.cls = true) (ho : y.cls = own) (hsl : (lg_sl As).length ≤ nL)
    (body : ∀ (p : Program) (e : Env) (s : State) (m : MethodId) (args : Array Value) (below : List Frame) (meth : Method) (c : Code) (A : Nat → Prop), Cx p l s m meth c args cc nL own A D [] → meth.name = y.name → meth.sig.returnType = ret → Kn D s → ∀ (H : Heap) (locs : List Loc), Hp D A s ws H locs →
      ∀ ls : Array Slot, lv_has ls nL (lv_args 0 As) → W p l e rm s m args below meth c H locs 0 0 (Qf below args s D A N X rm) (F0 m 0 ls [])) :
    Ct l y (.code y cc nL ret :: tg) rm D ws As sz N X := by
  refine vx_ofW (cc := cc) (maxL := nL) (ret := ret) hy rfl ?_
  intro p e s m args below meth c s₁ B hml htab hv
  obtain ⟨rfl, hsz, hP, hK, hD, hZ, hN⟩ := hv
  subst hsz
  have hts := atoms_spec (ws := .code y cc nL ret :: tg) B.pre
  have hl0 := lv_entry As (n := nL) hsl
  rw [lg_entry_eq]
  refine body p e s m _ below meth c (va_A ws s.heap.size) ?_ (name_of_methodNamed B.named B.method).1 B.returns hK _ _ ⟨hP, hD.self, va_S.rf⟩ _ hl0
  refine ⟨B.exec, B.bytes, hml, by rw [← ho]; exact findClass_of_methodNamed B.named, fun w h => hts w (List.mem_cons_of_mem _ h), B.notSynchronized, fun q h => Or.inr h, hZ, hN, hl, ?_⟩
  cases hx : c.exceptionTable.toList with
  | nil => rfl
  | cons a t => exact (htab a (by rw [hx]; exact List.mem_cons_self)).elim
section NEWA
variable {p : Program} {l : Launch} {e : Env} {R : Room} {s : State} {m : MethodId} {args : Array Value} {below : List Frame} {meth : Method} {c : Code} {H : Heap} {locs : List Loc} {cells slots : Nat} {Q : State → Prop} {cc : ByteArray} {pc : Nat} {ls : Array Slot} {rest : List Value} {nL : Nat} {own : String} {A : Nat → Prop} {D : va_G} {ws ws' : va_W} {hh : List (Nat × Nat × Nat × Nat)} {a : Nat}
theorem ra_nm {cA : ClassId} {ty : FieldType} (h : va_RA s cA ty) : s.vm.findClass ("[" ++ ty.toString) = some cA := by
  cases ty with
  | object C => obtain ⟨k1, c1, -, -, -, e1⟩ := h; exact e1
  | _ => exact h
theorem ra_eq {cA cB : ClassId} {ty : FieldType} (h1 : va_RA s cA ty) (h2 : va_RA s cB ty) : cA = cB := Option.some.inj ((ra_nm h1).symm.trans (ra_nm h2))
theorem gNewa (C : Cx p l s m meth c args cc nL own A D hh) (hK : Kn D s) (hH : Hp D A s ws H locs) {atype : ArrayType} {ty : FieldType} (i : Nat) {g : ClassId} (hty : newarray.typeOf atype = ty) (hi : (TY D)[i]? = some (g, ty)) (w1 : Cond.arrayClass ty ∈ tg) {n N' : Nat} {a0 : vp_A} (ha : ∀ cA : ClassId, vp_cell cA a0 = arrV cA n (fun _ => defaultValue ty)) (hn : n < 2 ^ 31) (hbytes : n * componentBytes ty ≤ 536870912) (hcells : cells + 1 ≤ R.cells) (hslots : slots + n ≤ R.slots) (hdg : decode cc pc = .ok (.newarray atype, 2))
    (kk : ∀ (q : Nat) (H1 : Heap), Hp D A s (ws ++ [(q, .inl (g, a0))]) H1 locs → W p l e R s m args below meth c H1 locs (cells + 1) (slots + n) Q (F0 m (pc + 2) ls (.ref q :: rest))) : W p l e R s m args below meth c H locs cells slots Q (F0 m pc ls (.int (nI n) :: rest)) := by
  refine va_newa C.x C.b (by rw [hty]; exact C.ts _ w1) hty hK.1 hH.1 hH.2.1 hH.2.2 C.hA ha (nI_pos hn) (nI_clamp hn) hbytes hcells hslots hdg (fun q cA H1 h1 h2 h3 h4 => ?_)
  have e : cA = g := ra_eq (h1.2 5 (cA, ty) rfl).2 (hK.1.2 i (g, ty) hi).2
  subst e
  exact kk q H1 ⟨h2, h3, h4⟩
theorem gNewq (C : Cx p l s m meth c args cc nL own A D hh) (hK : Kn D s) (hH : Hp D A s ws H locs) {index n : Nat} (w1 : Cond.classLink own index "MicroMachine$Word" ∈ tg) (hn : n < 2 ^ 31) (hbytes : n * 4 ≤ 536870912) (hcells : cells + 1 ≤ R.cells) (hslots : slots + n ≤ R.slots) (hdg : decode cc pc = .ok (.anewarray index, 3))
    (kk : ∀ (q : Nat) (H1 : Heap), Hp D A s (ws ++ [(q, .inl (D.1 13, n, .inr (.inr (.inr (.inr (fun _ => none))))))]) H1 locs → W p l e R s m args below meth c H1 locs (cells + 1) (slots + n) Q (F0 m (pc + 3) ls (.ref q :: rest))) : W p l e R s m args below meth c H locs cells slots Q (F0 m pc ls (.int (nI n) :: rest)) := by
  refine va_newq C.x C.b C.ow (C.ts _ w1) hK.2 hK.1 hH.1 hH.2.1 hH.2.2 C.hA (nI_pos hn) (nI_clamp hn) hbytes hcells hslots hdg (fun q cA H1 h1 h2 h3 h4 => ?_)
  have e : cA = D.1 13 := ra_eq (h1.2 5 (cA, .object "MicroMachine$Word") rfl).2 (hK.1.2 3 (D.1 13, .object "MicroMachine$Word") rfl).2
  subst e
  exact kk q H1 ⟨h2, h3, h4⟩
end NEWA
theorem nar128 : ∀ c, c < 128 → vp_nar .char (nI c) = nI c := by decide +kernel
theorem txt_set {t : Nat → Nat} {n c : Nat} (hc : c < 128) : upd (fun j => nI (t j)) n (vp_nar .char (nI c)) = (fun j => nI (va_up t n c j)) := by
  funext j
  rw [nar128 c hc]
  by_cases h : j = n <;> simp [upd, va_up, h]
