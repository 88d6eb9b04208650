section HEAP
variable {p : Program} {l : Launch} {e : Env} {R : Room} {s : State} {m : MethodId} {args : Array Value} {below : List Frame} {meth : Method} {c : Code} {H : Heap} {locs : List Loc} {cells slots : Nat} {Q : State → Prop} {cc : ByteArray} {pc : Nat} {ls : Array Slot} {rest : List Value} {nL : Nat} {own : String} {A : Nat → Prop} {D : va_G} {ws ws' : va_W} {hh : List (Nat × Nat × Nat × Nat)} {a : Nat}
theorem gGet (C : Cx p l s m meth c args cc nL own A D hh) (hK : Kn D s) (hH : Hp D A s ws H locs) (q0 k : Nat) {ci N index : Nat} {Cn : String} {T : u_T} {fs : List Value} {v : Value} (he : ws[q0]? = some (a, .inr (ci, fs))) (hc : vwCl[ci]? = some (Cn, T, N)) (hin : ∀ w ∈ u_ws Cn T N, w ∈ tg) (hk : k < N) (hw : Cond.fieldLink own index (T k).1 (T k).2.1 (T k).2.2.1 ∈ tg) (hv : fs[k]? = some v) (hdg : decode cc pc = .ok (.getfield index, 3))
    (kk : W p l e R s m args below meth c H locs cells slots Q (F0 m (pc + 3) ls (v :: rest))) : W p l e R s m args below meth c H locs cells slots Q (F0 m pc ls (.ref a :: rest)) :=
  va_get C.x C.b C.ts hin C.ow hK.1 hH.1 q0 he hc k hk (C.ts _ hw) (fun _ h => h) hv hdg kk
theorem gGetN (C : Cx p l s m meth c args cc nL own A D hh) (hK : Kn D s) (hH : Hp D A s ws H locs) (q0 k : Nat) {ci N index : Nat} {Cn host : String} {T : u_T} {fs : List Value} {v : Value} (he : ws[q0]? = some (a, .inr (ci, fs))) (hc : vwCl[ci]? = some (Cn, T, N)) (hin : ∀ w ∈ u_ws Cn T N, w ∈ tg) (hk : k < N) (hw : Cond.fieldLinkNest own index (T k).1 (T k).2.1 (T k).2.2.1 host ∈ nwl) (hv : fs[k]? = some v) (hdg : decode cc pc = .ok (.getfield index, 3))
    (kk : W p l e R s m args below meth c H locs cells slots Q (F0 m (pc + 3) ls (v :: rest))) : W p l e R s m args below meth c H locs cells slots Q (F0 m pc ls (.ref a :: rest)) :=
  va_getN C.x C.b C.ts hin C.ow hK.1 hH.1 q0 he hc k hk ((C.N.1 _ hw).use rfl) (fun _ h => h) hv hdg kk
theorem gPut (C : Cx p l s m meth c args cc nL own A D hh) (hK : Kn D s) (hH : Hp D A s ws H locs) (q0 k : Nat) {ci N index : Nat} {Cn : String} {T : u_T} {fs : List Value} {v : Value} (ty0 : Nat → FieldType) (hty : ∀ k, k < N → parseFieldDescriptor (T k).2.2.1 = some (ty0 k)) (hnm : ∀ a, a < N → ∀ b, b < N → a ≠ b → (T a).2.1 ≠ (T b).2.1) (he : ws[q0]? = some (a, .inr (ci, fs))) (hc : vwCl[ci]? = some (Cn, T, N)) (hin : ∀ w ∈ u_ws Cn T N, w ∈ tg) (hk : k < N) (hw : Cond.fieldLink own index (T k).1 (T k).2.1 (T k).2.2.1 ∈ tg) (hfin : (T k).2.2.2 = false) (hn : narrow (ty0 k) v = v) (hfit : fits (ty0 k) v = true) (hl : k < fs.length)
    (hset : ws.set q0 (a, .inr (ci, fs.set k v)) = ws') (hdg : decode cc pc = .ok (.putfield index, 3)) (kk : ∀ (H1 : Heap) (locs1 : List Loc), Hp D A s ws' H1 locs1 → W p l e R s m args below meth c H1 locs1 cells slots Q (F0 m (pc + 3) ls rest)) : W p l e R s m args below meth c H locs cells slots Q (F0 m pc ls (v :: .ref a :: rest)) :=
  va_put C.x C.b C.ts hin ty0 hty hnm C.ow hK.1 hH.1 hH.2.1 hH.2.2 q0 he hc k hk (C.ts _ hw) (fun _ h => h) hfin (hty k hk) hn hfit hl hdg (fun H1 locs1 h1 h2 h3 => kk H1 locs1 ⟨hset ▸ h1, hset ▸ h2, h3⟩)
theorem gPutF (C : Cx p l s m meth c args cc nL own A D hh) (hK : Kn D s) (hH : Hp D A s ws H locs) (q0 k : Nat) {ci N index : Nat} {Cn : String} {T : u_T} {fs : List Value} {v : Value} (ty0 : Nat → FieldType) (hty : ∀ k, k < N → parseFieldDescriptor (T k).2.2.1 = some (ty0 k)) (hnm : ∀ a, a < N → ∀ b, b < N → a ≠ b → (T a).2.1 ≠ (T b).2.1) (he : ws[q0]? = some (a, .inr (ci, fs))) (hc : vwCl[ci]? = some (Cn, T, N)) (hin : ∀ w ∈ u_ws Cn T N, w ∈ tg) (hk : k < N) (hw : Cond.fieldLink own index (T k).1 (T k).2.1 (T k).2.2.1 ∈ tg) (hfin : (T k).2.2.2 = true) (hini : meth.name = "<init>") (hdc : (T k).1 = own) (hn : narrow (ty0 k) v = v) (hfit : fits (ty0 k) v = true) (hl : k < fs.length)
    (hset : ws.set q0 (a, .inr (ci, fs.set k v)) = ws') (hdg : decode cc pc = .ok (.putfield index, 3)) (kk : ∀ (H1 : Heap) (locs1 : List Loc), Hp D A s ws' H1 locs1 → W p l e R s m args below meth c H1 locs1 cells slots Q (F0 m (pc + 3) ls rest)) : W p l e R s m args below meth c H locs cells slots Q (F0 m pc ls (v :: .ref a :: rest)) :=
  va_putF C.x C.b C.ts hin ty0 hty hnm C.ow hK.1 hH.1 hH.2.1 hH.2.2 q0 he hc k hk (C.ts _ hw) (fun _ h => h) hfin hini hdc (hty k hk) hn hfit hl hdg (fun H1 locs1 h1 h2 h3 => kk H1 locs1 ⟨hset ▸ h1, hset ▸ h2, h3⟩)
theorem gPutN (C : Cx p l s m meth c args cc nL own A D hh) (hK : Kn D s) (hH : Hp D A s ws H locs) (q0 k : Nat) {ci N index : Nat} {Cn host : String} {T : u_T} {fs : List Value} {v : Value} (ty0 : Nat → FieldType) (hty : ∀ k, k < N → parseFieldDescriptor (T k).2.2.1 = some (ty0 k)) (hnm : ∀ a, a < N → ∀ b, b < N → a ≠ b → (T a).2.1 ≠ (T b).2.1) (he : ws[q0]? = some (a, .inr (ci, fs))) (hc : vwCl[ci]? = some (Cn, T, N)) (hin : ∀ w ∈ u_ws Cn T N, w ∈ tg) (hk : k < N) (hw : Cond.fieldLinkNest own index (T k).1 (T k).2.1 (T k).2.2.1 host ∈ nwl) (hfin : (T k).2.2.2 = false) (hn : narrow (ty0 k) v = v) (hfit : fits (ty0 k) v = true) (hl : k < fs.length)
    (hset : ws.set q0 (a, .inr (ci, fs.set k v)) = ws') (hdg : decode cc pc = .ok (.putfield index, 3)) (kk : ∀ (H1 : Heap) (locs1 : List Loc), Hp D A s ws' H1 locs1 → W p l e R s m args below meth c H1 locs1 cells slots Q (F0 m (pc + 3) ls rest)) : W p l e R s m args below meth c H locs cells slots Q (F0 m pc ls (v :: .ref a :: rest)) :=
  va_putN C.x C.b C.ts hin ty0 hty hnm C.ow hK.1 hH.1 hH.2.1 hH.2.2 q0 he hc k hk ((C.N.1 _ hw).use rfl) (fun _ h => h) hfin (hty k hk) hn hfit hl hdg (fun H1 locs1 h1 h2 h3 => kk H1 locs1 ⟨hset ▸ h1, hset ▸ h2, h3⟩)
/-! arrays, at a place that is known as a Nat -/
theorem gCald (C : Cx p l s m meth c args cc nL own A D hh) (hK : Kn D s) (hH : Hp D A s ws H locs) (q0 : Nat) {n k : Nat} {f : Nat → Int32} (ha : ws[q0]? = some (a, .inl (D.1 10, n, .inl f))) (hk : k < n) (hn : n < 2 ^ 31) (hdg : decode cc pc = .ok (.caload, 1)) {v : Int32} (hv : f k = v)
    (kk : W p l e R s m args below meth c H locs cells slots Q (F0 m (pc + 1) ls (.int v :: rest))) : W p l e R s m args below meth c H locs cells slots Q (F0 m pc ls (.int (nI k) :: .ref a :: rest)) := by
  refine va_cald C.x C.b hK.1 hH.1 q0 0 ha rfl (vp_in_nI hk hn) hdg ?_
  rw [nI_clamp (by omega), hv]; exact kk
theorem gIald (C : Cx p l s m meth c args cc nL own A D hh) (hK : Kn D s) (hH : Hp D A s ws H locs) (q0 : Nat) {n k : Nat} {f : Nat → Int32} (ha : ws[q0]? = some (a, .inl (D.1 11, n, .inl f))) (hk : k < n) (hn : n < 2 ^ 31) (hdg : decode cc pc = .ok (.iaload, 1)) {v : Int32} (hv : f k = v)
    (kk : W p l e R s m args below meth c H locs cells slots Q (F0 m (pc + 1) ls (.int v :: rest))) : W p l e R s m args below meth c H locs cells slots Q (F0 m pc ls (.int (nI k) :: .ref a :: rest)) := by
  refine va_iald C.x C.b hK.1 hH.1 q0 1 ha rfl (vp_in_nI hk hn) hdg ?_
  rw [nI_clamp (by omega), hv]; exact kk
theorem gZald (C : Cx p l s m meth c args cc nL own A D hh) (hK : Kn D s) (hH : Hp D A s ws H locs) (q0 : Nat) {n k : Nat} {f : Nat → Int32} (ha : ws[q0]? = some (a, .inl (D.1 12, n, .inl f))) (hk : k < n) (hn : n < 2 ^ 31) (hdg : decode cc pc = .ok (.baload, 1)) {v : Int32} (hv : f k = v)
    (kk : W p l e R s m args below meth c H locs cells slots Q (F0 m (pc + 1) ls (.int v :: rest))) : W p l e R s m args below meth c H locs cells slots Q (F0 m pc ls (.int (nI k) :: .ref a :: rest)) := by
  refine va_zald C.x C.b hK.1 hH.1 q0 2 ha rfl (vp_in_nI hk hn) hdg ?_
  rw [nI_clamp (by omega), hv]; exact kk
theorem gAald (C : Cx p l s m meth c args cc nL own A D hh) (hK : Kn D s) (hH : Hp D A s ws H locs) (q0 : Nat) {n k : Nat} {f : Nat → Option Nat} (ha : ws[q0]? = some (a, .inl (D.1 13, n, .inr (.inr (.inr (.inr f)))))) (hk : k < n) (hn : n < 2 ^ 31) (hdg : decode cc pc = .ok (.aaload, 1)) {v : Option Nat} (hv : f k = v)
    (kk : W p l e R s m args below meth c H locs cells slots Q (F0 m (pc + 1) ls (va_rf v :: rest))) : W p l e R s m args below meth c H locs cells slots Q (F0 m pc ls (.int (nI k) :: .ref a :: rest)) := by
  refine va_aldq C.x C.b hK.1 hH.1 q0 3 ha rfl (vp_in_nI hk hn) hdg ?_
  rw [nI_clamp (by omega), hv]; exact kk
theorem gLald (C : Cx p l s m meth c args cc nL own A D hh) (hK : Kn D s) (hH : Hp D A s ws H locs) (q0 : Nat) {n k : Nat} {f : Nat → Int64} (ha : ws[q0]? = some (a, .inl (D.1 14, n, .inr (.inl f)))) (hk : k < n) (hn : n < 2 ^ 31) (hdg : decode cc pc = .ok (.laload, 1)) {v : Int64} (hv : f k = v)
    (kk : W p l e R s m args below meth c H locs cells slots Q (F0 m (pc + 1) ls (.long v :: rest))) : W p l e R s m args below meth c H locs cells slots Q (F0 m pc ls (.int (nI k) :: .ref a :: rest)) := by
  refine va_lald C.x C.b hK.1 hH.1 q0 4 ha rfl (vp_in_nI hk hn) hdg ?_
  rw [nI_clamp (by omega), hv]; exact kk
theorem gCast (C : Cx p l s m meth c args cc nL own A D hh) (hK : Kn D s) (hH : Hp D A s ws H locs) (q0 : Nat) {n k : Nat} {x : Int32} {f f' : Nat → Int32} (ha : ws[q0]? = some (a, .inl (D.1 10, n, .inl f))) (hk : k < n) (hn : n < 2 ^ 31) (hf : upd f k (vp_nar .char x) = f') (hset : ws.set q0 (a, .inl (D.1 10, n, .inl f')) = ws') (hdg : decode cc pc = .ok (.castore, 1))
    (kk : ∀ (H1 : Heap) (locs1 : List Loc), Hp D A s ws' H1 locs1 → W p l e R s m args below meth c H1 locs1 cells slots Q (F0 m (pc + 1) ls rest)) : W p l e R s m args below meth c H locs cells slots Q (F0 m pc ls (.int x :: .int (nI k) :: .ref a :: rest)) := by
  refine va_cast C.x C.b hK.1 hH.1 hH.2.1 hH.2.2 q0 0 ha rfl (vp_in_nI hk hn) hdg (fun H1 locs1 h1 h2 h3 => ?_)
  rw [nI_clamp (by omega), hf, hset] at h1 h2
  exact kk H1 locs1 ⟨h1, h2, h3⟩
theorem gIast (C : Cx p l s m meth c args cc nL own A D hh) (hK : Kn D s) (hH : Hp D A s ws H locs) (q0 : Nat) {n k : Nat} {x : Int32} {f f' : Nat → Int32} (ha : ws[q0]? = some (a, .inl (D.1 11, n, .inl f))) (hk : k < n) (hn : n < 2 ^ 31) (hf : upd f k x = f') (hset : ws.set q0 (a, .inl (D.1 11, n, .inl f')) = ws') (hdg : decode cc pc = .ok (.iastore, 1))
    (kk : ∀ (H1 : Heap) (locs1 : List Loc), Hp D A s ws' H1 locs1 → W p l e R s m args below meth c H1 locs1 cells slots Q (F0 m (pc + 1) ls rest)) : W p l e R s m args below meth c H locs cells slots Q (F0 m pc ls (.int x :: .int (nI k) :: .ref a :: rest)) := by
  refine va_iast C.x C.b hK.1 hH.1 hH.2.1 hH.2.2 q0 1 ha rfl (vp_in_nI hk hn) hdg (fun H1 locs1 h1 h2 h3 => ?_)
  rw [nI_clamp (by omega), hf, hset] at h1 h2
  exact kk H1 locs1 ⟨h1, h2, h3⟩
theorem gZast (C : Cx p l s m meth c args cc nL own A D hh) (hK : Kn D s) (hH : Hp D A s ws H locs) (q0 : Nat) {n k : Nat} {x : Int32} {f f' : Nat → Int32} (ha : ws[q0]? = some (a, .inl (D.1 12, n, .inl f))) (hk : k < n) (hn : n < 2 ^ 31) (hf : upd f k (vp_nar .boolean x) = f') (hset : ws.set q0 (a, .inl (D.1 12, n, .inl f')) = ws') (hdg : decode cc pc = .ok (.bastore, 1))
    (kk : ∀ (H1 : Heap) (locs1 : List Loc), Hp D A s ws' H1 locs1 → W p l e R s m args below meth c H1 locs1 cells slots Q (F0 m (pc + 1) ls rest)) : W p l e R s m args below meth c H locs cells slots Q (F0 m pc ls (.int x :: .int (nI k) :: .ref a :: rest)) := by
  refine va_zast C.x C.b hK.1 hH.1 hH.2.1 hH.2.2 q0 2 ha rfl (vp_in_nI hk hn) hdg (fun H1 locs1 h1 h2 h3 => ?_)
  rw [nI_clamp (by omega), hf, hset] at h1 h2
  exact kk H1 locs1 ⟨h1, h2, h3⟩
theorem gLast (C : Cx p l s m meth c args cc nL own A D hh) (hK : Kn D s) (hH : Hp D A s ws H locs) (q0 : Nat) {n k : Nat} {x : Int64} {f f' : Nat → Int64} (ha : ws[q0]? = some (a, .inl (D.1 14, n, .inr (.inl f)))) (hk : k < n) (hn : n < 2 ^ 31) (hf : vp_updL f k x = f') (hset : ws.set q0 (a, .inl (D.1 14, n, .inr (.inl f'))) = ws') (hdg : decode cc pc = .ok (.lastore, 1))
    (kk : ∀ (H1 : Heap) (locs1 : List Loc), Hp D A s ws' H1 locs1 → W p l e R s m args below meth c H1 locs1 cells slots Q (F0 m (pc + 1) ls rest)) : W p l e R s m args below meth c H locs cells slots Q (F0 m pc ls (.long x :: .int (nI k) :: .ref a :: rest)) := by
  refine va_last C.x C.b hK.1 hH.1 hH.2.1 hH.2.2 q0 4 ha rfl (vp_in_nI hk hn) hdg (fun H1 locs1 h1 h2 h3 => ?_)
  rw [nI_clamp (by omega), hf, hset] at h1 h2
  exact kk H1 locs1 ⟨h1, h2, h3⟩
theorem gNew (C : Cx p l s m meth c args cc nL own A D hh) (hK : Kn D s) (hH : Hp D A s ws H locs) {ci N index : Nat} {Cn : String} {T : u_T} {fs : List Value} (ty0 : Nat → FieldType) (hty : ∀ k, k < N → parseFieldDescriptor (T k).2.2.1 = some (ty0 k)) (hc : vwCl[ci]? = some (Cn, T, N)) (hin : ∀ w ∈ u_ws Cn T N, w ∈ tg) (w1 : Cond.classLink own index Cn ∈ tg) (w2 : Cond.instantiable Cn N ∈ tg) (w3 : Cond.initialized Cn ∈ tg) (hfs : ∀ j, j < N → defaultValue (ty0 j) = vp_V fs j) (hcells : cells + 1 ≤ R.cells) (hslots : slots + N ≤ R.slots) (hdg : decode cc pc = .ok (.new index, 3))
    (kk : ∀ (q : Nat) (H1 : Heap), Hp D A s (ws ++ [(q, .inr (ci, fs))]) H1 locs → W p l e R s m args below meth c H1 locs (cells + 1) (slots + N) Q (F0 m (pc + 3) ls (.ref q :: rest))) : W p l e R s m args below meth c H locs cells slots Q (F0 m pc ls rest) :=
  va_new C.x C.b C.ts hin ty0 hty C.ow (C.ts _ w1) (C.ts _ w2) (C.ts _ w3) hK.1 hH.1 hH.2.1 hH.2.2 C.hA hc hfs hcells hslots hdg (fun q H1 h1 h2 h3 => kk q H1 ⟨h1, h2, h3⟩)
/-- a throw of a new exception, in a method without a table -/
theorem gThrow {N : Option Value → va_W → Prop} {X : String → va_W → Prop} {rm : Room} (C : Cx p l s m meth c args cc nL own A D []) (hH : Hp D A s ws H locs) {cls : String} {names : List String} {ik ic : Nat} (hcls : Bundle.fit cls = true) (hnames : ∀ n ∈ names, Bundle.fit n = true) (w1 : Cond.classLink own ik cls ∈ tg) (w2 : Cond.initialized cls ∈ tg) (hat : ∀ w ∈ vx_at0 own ic cls names, w.before args s = true) (hgood : ∀ w ∈ Cond.classLink own ik cls :: Cond.initialized cls :: vx_at0 own ic cls names, vx_ot w = true)
    (hl : ls.size = nL) (d0 : decode cc pc = .ok (.new ik, 3)) (d3 : decode cc (pc + 3) = .ok (.dup, 1)) (d4 : decode cc (pc + 4) = .ok (.invokespecial ic, 3)) (d7 : decode cc (pc + 7) = .ok (.athrow, 1))
    (hRframes : names.length + 3 < R.frames) (hRlocals : (rest.map fun v => v.category).sum + (13 * (names.length + 1) + 42) ≤ R.locals) (hRcells : cells + 1 ≤ R.cells) (hRslots : slots + 6 ≤ R.slots) (hX : X cls ws) (hc : cells + 1 ≤ rm.cells) (hs : slots + 6 ≤ rm.slots) :
    W p l e R s m args below meth c H locs cells slots (Qf below args s D A N X rm) (F0 m pc ls rest) := by
  refine vx_throw0 C.x C.b C.tr (own := own) (cls := cls) (names := names) (A := A) C.ow hcls hnames (C.ts _ w1) (C.ts _ w2) hat hgood C.Z.1 C.Z.2.1 hH.2.2 (hl.trans C.ml.symm) d0 d3 d4 d7 ?_ hRframes hRlocals hRcells hRslots C.locks ?_ hH.2.2.2.2 hc hs
  · rw [C.tab]
    intro x hx
    cases hx
  · intro t ha hsz hk
    refine ⟨⟨ws, hX, ?_, hH.2.1⟩, ?_, ?_⟩
    · intro k q hq
      have hlt := (hH.1 k q hq).lt
      have h1 := hH.1 k q hq
      exact va_at.kept h1 (hk q.1 hlt)
    · exact Nat.le_trans hH.2.2.1 hsz
    · intro q hq hA
      rw [hk q (Nat.lt_of_lt_of_le hq hH.2.2.1)]
      exact hH.2.2.2.1 q hq hA
end HEAP
