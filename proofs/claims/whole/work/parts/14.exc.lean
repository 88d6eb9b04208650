theorem hatOf {p : Program} {l : Launch} {s : State} {m : MethodId} {meth : Method} {c : Code} {args : Array Value} {cc : ByteArray} {nL : Nat} {own : String} {A : Nat → Prop} {D : va_G} {hh : List (Nat × Nat × Nat × Nat)} (C : Cx p l s m meth c args cc nL own A D hh) {L : List Cond} (h1 : ∀ w ∈ L.filter goodWord, w ∈ tg) (h2 : ∀ w ∈ L.filter (fun w => !goodWord w), w ∈ nwl) : ∀ w ∈ L, w.before args s = true := by
  intro w hw
  cases hg : goodWord w with
  | true => exact C.ts w (h1 w (List.mem_filter.mpr ⟨hw, hg⟩))
  | false =>
    have h3 := h2 w (List.mem_filter.mpr ⟨hw, by simp [hg]⟩)
    have h4 := C.N.1 w h3
    have h5 := (List.mem_filter.mp h3).2
    refine h4.use ?_
    cases w <;> first | rfl | (simp [isNest] at h5)
def eIA : String := "java/lang/IllegalArgumentException"
theorem xIA_1 : ∀ w ∈ (vx_at0 RX2 42 "java/lang/IllegalArgumentException" ["java/lang/RuntimeException", "java/lang/Exception"]).filter goodWord, w ∈ tg := by decide +kernel
theorem xIA_2 : ∀ w ∈ (vx_at0 RX2 42 "java/lang/IllegalArgumentException" ["java/lang/RuntimeException", "java/lang/Exception"]).filter (fun w => !goodWord w), w ∈ nwl := by decide +kernel
theorem xIA_3 : ∀ w ∈ Cond.classLink RX2 40 "java/lang/IllegalArgumentException" :: Cond.initialized "java/lang/IllegalArgumentException" :: vx_at0 RX2 42 "java/lang/IllegalArgumentException" ["java/lang/RuntimeException", "java/lang/Exception"], vx_ot w = true := by decide +kernel
theorem tIA {p : Program} {l : Launch} {e : Env} {R : Room} {s : State} {m : MethodId} {args : Array Value} {below : List Frame} {meth : Method} {c : Code} {H : Heap} {locs : List Loc} {cells slots : Nat} {cc : ByteArray} {pc : Nat} {ls : Array Slot} {rest : List Value} {nL : Nat} {A : Nat → Prop} {D : va_G} {ws : va_W} {N : Option Value → va_W → Prop} {X : String → va_W → Prop} {rm : Room} (C : Cx p l s m meth c args cc nL RX2 A D []) (hH : Hp D A s ws H locs)
    (hl : ls.size = nL) (d0 : decode cc pc = .ok (.new 40, 3)) (d3 : decode cc (pc + 3) = .ok (.dup, 1)) (d4 : decode cc (pc + 4) = .ok (.invokespecial 42, 3)) (d7 : decode cc (pc + 7) = .ok (.athrow, 1))
    (hRframes : 5 < R.frames) (hRlocals : (rest.map fun v => v.category).sum + 81 ≤ R.locals) (hRcells : cells + 1 ≤ R.cells) (hRslots : slots + 6 ≤ R.slots) (hX : X eIA ws) (hc : cells + 1 ≤ rm.cells) (hs : slots + 6 ≤ rm.slots) :
    W p l e R s m args below meth c H locs cells slots (Qf below args s D A N X rm) (F0 m pc ls rest) :=
  gThrow (names := ["java/lang/RuntimeException", "java/lang/Exception"]) C hH (by decide +kernel) (by decide +kernel) tw_167 tw_8 (hatOf C xIA_1 xIA_2) xIA_3 hl d0 d3 d4 d7 hRframes hRlocals hRcells hRslots hX hc hs
def eIS : String := "java/lang/IllegalStateException"
theorem xIS_1 : ∀ w ∈ (vx_at0 RX2 48 "java/lang/IllegalStateException" ["java/lang/RuntimeException", "java/lang/Exception"]).filter goodWord, w ∈ tg := by decide +kernel
theorem xIS_2 : ∀ w ∈ (vx_at0 RX2 48 "java/lang/IllegalStateException" ["java/lang/RuntimeException", "java/lang/Exception"]).filter (fun w => !goodWord w), w ∈ nwl := by decide +kernel
theorem xIS_3 : ∀ w ∈ Cond.classLink RX2 46 "java/lang/IllegalStateException" :: Cond.initialized "java/lang/IllegalStateException" :: vx_at0 RX2 48 "java/lang/IllegalStateException" ["java/lang/RuntimeException", "java/lang/Exception"], vx_ot w = true := by decide +kernel
theorem tIS {p : Program} {l : Launch} {e : Env} {R : Room} {s : State} {m : MethodId} {args : Array Value} {below : List Frame} {meth : Method} {c : Code} {H : Heap} {locs : List Loc} {cells slots : Nat} {cc : ByteArray} {pc : Nat} {ls : Array Slot} {rest : List Value} {nL : Nat} {A : Nat → Prop} {D : va_G} {ws : va_W} {N : Option Value → va_W → Prop} {X : String → va_W → Prop} {rm : Room} (C : Cx p l s m meth c args cc nL RX2 A D []) (hH : Hp D A s ws H locs)
    (hl : ls.size = nL) (d0 : decode cc pc = .ok (.new 46, 3)) (d3 : decode cc (pc + 3) = .ok (.dup, 1)) (d4 : decode cc (pc + 4) = .ok (.invokespecial 48, 3)) (d7 : decode cc (pc + 7) = .ok (.athrow, 1))
    (hRframes : 5 < R.frames) (hRlocals : (rest.map fun v => v.category).sum + 81 ≤ R.locals) (hRcells : cells + 1 ≤ R.cells) (hRslots : slots + 6 ≤ R.slots) (hX : X eIS ws) (hc : cells + 1 ≤ rm.cells) (hs : slots + 6 ≤ rm.slots) :
    W p l e R s m args below meth c H locs cells slots (Qf below args s D A N X rm) (F0 m pc ls rest) :=
  gThrow (names := ["java/lang/RuntimeException", "java/lang/Exception"]) C hH (by decide +kernel) (by decide +kernel) tw_231 tw_9 (hatOf C xIS_1 xIS_2) xIS_3 hl d0 d3 d4 d7 hRframes hRlocals hRcells hRslots hX hc hs
def eNS : String := "java/util/NoSuchElementException"
theorem xNS_1 : ∀ w ∈ (vx_at0 RX2 72 "java/util/NoSuchElementException" ["java/lang/RuntimeException", "java/lang/Exception"]).filter goodWord, w ∈ tg := by decide +kernel
theorem xNS_2 : ∀ w ∈ (vx_at0 RX2 72 "java/util/NoSuchElementException" ["java/lang/RuntimeException", "java/lang/Exception"]).filter (fun w => !goodWord w), w ∈ nwl := by decide +kernel
theorem xNS_3 : ∀ w ∈ Cond.classLink RX2 70 "java/util/NoSuchElementException" :: Cond.initialized "java/util/NoSuchElementException" :: vx_at0 RX2 72 "java/util/NoSuchElementException" ["java/lang/RuntimeException", "java/lang/Exception"], vx_ot w = true := by decide +kernel
theorem tNS {p : Program} {l : Launch} {e : Env} {R : Room} {s : State} {m : MethodId} {args : Array Value} {below : List Frame} {meth : Method} {c : Code} {H : Heap} {locs : List Loc} {cells slots : Nat} {cc : ByteArray} {pc : Nat} {ls : Array Slot} {rest : List Value} {nL : Nat} {A : Nat → Prop} {D : va_G} {ws : va_W} {N : Option Value → va_W → Prop} {X : String → va_W → Prop} {rm : Room} (C : Cx p l s m meth c args cc nL RX2 A D []) (hH : Hp D A s ws H locs)
    (hl : ls.size = nL) (d0 : decode cc pc = .ok (.new 70, 3)) (d3 : decode cc (pc + 3) = .ok (.dup, 1)) (d4 : decode cc (pc + 4) = .ok (.invokespecial 72, 3)) (d7 : decode cc (pc + 7) = .ok (.athrow, 1))
    (hRframes : 5 < R.frames) (hRlocals : (rest.map fun v => v.category).sum + 81 ≤ R.locals) (hRcells : cells + 1 ≤ R.cells) (hRslots : slots + 6 ≤ R.slots) (hX : X eNS ws) (hc : cells + 1 ≤ rm.cells) (hs : slots + 6 ≤ rm.slots) :
    W p l e R s m args below meth c H locs cells slots (Qf below args s D A N X rm) (F0 m pc ls rest) :=
  gThrow (names := ["java/lang/RuntimeException", "java/lang/Exception"]) C hH (by decide +kernel) (by decide +kernel) tw_416 tw_16 (hatOf C xNS_1 xNS_2) xNS_3 hl d0 d3 d4 d7 hRframes hRlocals hRcells hRslots hX hc hs
def eIO : String := "java/lang/IndexOutOfBoundsException"
theorem xIO_1 : ∀ w ∈ (vx_at0 RX2 138 "java/lang/IndexOutOfBoundsException" ["java/lang/RuntimeException", "java/lang/Exception"]).filter goodWord, w ∈ tg := by decide +kernel
theorem xIO_2 : ∀ w ∈ (vx_at0 RX2 138 "java/lang/IndexOutOfBoundsException" ["java/lang/RuntimeException", "java/lang/Exception"]).filter (fun w => !goodWord w), w ∈ nwl := by decide +kernel
theorem xIO_3 : ∀ w ∈ Cond.classLink RX2 136 "java/lang/IndexOutOfBoundsException" :: Cond.initialized "java/lang/IndexOutOfBoundsException" :: vx_at0 RX2 138 "java/lang/IndexOutOfBoundsException" ["java/lang/RuntimeException", "java/lang/Exception"], vx_ot w = true := by decide +kernel
theorem tIO {p : Program} {l : Launch} {e : Env} {R : Room} {s : State} {m : MethodId} {args : Array Value} {below : List Frame} {meth : Method} {c : Code} {H : Heap} {locs : List Loc} {cells slots : Nat} {cc : ByteArray} {pc : Nat} {ls : Array Slot} {rest : List Value} {nL : Nat} {A : Nat → Prop} {D : va_G} {ws : va_W} {N : Option Value → va_W → Prop} {X : String → va_W → Prop} {rm : Room} (C : Cx p l s m meth c args cc nL RX2 A D []) (hH : Hp D A s ws H locs)
    (hl : ls.size = nL) (d0 : decode cc pc = .ok (.new 136, 3)) (d3 : decode cc (pc + 3) = .ok (.dup, 1)) (d4 : decode cc (pc + 4) = .ok (.invokespecial 138, 3)) (d7 : decode cc (pc + 7) = .ok (.athrow, 1))
    (hRframes : 5 < R.frames) (hRlocals : (rest.map fun v => v.category).sum + 81 ≤ R.locals) (hRcells : cells + 1 ≤ R.cells) (hRslots : slots + 6 ≤ R.slots) (hX : X eIO ws) (hc : cells + 1 ≤ rm.cells) (hs : slots + 6 ≤ rm.slots) :
    W p l e R s m args below meth c H locs cells slots (Qf below args s D A N X rm) (F0 m pc ls rest) :=
  gThrow (names := ["java/lang/RuntimeException", "java/lang/Exception"]) C hH (by decide +kernel) (by decide +kernel) tw_462 tw_17 (hatOf C xIO_1 xIO_2) xIO_3 hl d0 d3 d4 d7 hRframes hRlocals hRcells hRslots hX hc hs
