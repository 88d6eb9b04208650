section
-- ===== PART A: goes FIRST, ahead of the names: the tables' words, and 'selects' of the private methods out of them =====
/-- a private method of a class that the tables say can be made, by its rows of tables_1 -/
def lw_okq (q : MethodName × Nat) : Prop := (q.1.cls ≠ "java/lang/invoke/MethodHandle" ∧ q.1.cls ≠ "java/lang/invoke/VarHandle") ∧ Cond.instantiable q.1.cls q.2 ∈ tables_1 ∧ Cond.privateMethod q.1 ∈ tables_1 ∧ Cond.instanceMethod q.1 ∈ tables_1
theorem lw_p0 : lw_okq (⟨"java/lang/Throwable", "fillInStackTrace", "(I)Ljava/lang/Throwable;"⟩, 6) := ⟨⟨by decide +kernel, by decide +kernel⟩, List.mem_of_getElem? (i := 207) (by decide +kernel), List.mem_of_getElem? (i := 205) (by decide +kernel), List.mem_of_getElem? (i := 206) (by decide +kernel)⟩
theorem lw_p1 : lw_okq (⟨"MicroMachine$WordReader", "add", "(C)V"⟩, 4) := ⟨⟨by decide +kernel, by decide +kernel⟩, List.mem_of_getElem? (i := 27) (by decide +kernel), List.mem_of_getElem? (i := 247) (by decide +kernel), List.mem_of_getElem? (i := 248) (by decide +kernel)⟩
theorem lw_p2 : lw_okq (⟨"MicroMachine$WordReader", "read", "()LMicroMachine$Word;"⟩, 4) := ⟨⟨by decide +kernel, by decide +kernel⟩, List.mem_of_getElem? (i := 27) (by decide +kernel), List.mem_of_getElem? (i := 264) (by decide +kernel), List.mem_of_getElem? (i := 265) (by decide +kernel)⟩
theorem lw_p3 : lw_okq (⟨"MicroMachine$WordReader", "readIfThere", "(I)Z"⟩, 4) := ⟨⟨by decide +kernel, by decide +kernel⟩, List.mem_of_getElem? (i := 27) (by decide +kernel), List.mem_of_getElem? (i := 268) (by decide +kernel), List.mem_of_getElem? (i := 269) (by decide +kernel)⟩
theorem lw_p4 : lw_okq (⟨"MicroMachine$WordReader", "readSetting", "()Z"⟩, 4) := ⟨⟨by decide +kernel, by decide +kernel⟩, List.mem_of_getElem? (i := 27) (by decide +kernel), List.mem_of_getElem? (i := 272) (by decide +kernel), List.mem_of_getElem? (i := 273) (by decide +kernel)⟩
theorem lw_p5 : lw_okq (⟨"MicroMachine$WordReader", "isAtTarget", "()Z"⟩, 4) := ⟨⟨by decide +kernel, by decide +kernel⟩, List.mem_of_getElem? (i := 27) (by decide +kernel), List.mem_of_getElem? (i := 276) (by decide +kernel), List.mem_of_getElem? (i := 277) (by decide +kernel)⟩
theorem lw_p6 : lw_okq (⟨"MicroMachine$Word", "sets", "(I)Z"⟩, 10) := ⟨⟨by decide +kernel, by decide +kernel⟩, List.mem_of_getElem? (i := 33) (by decide +kernel), List.mem_of_getElem? (i := 367) (by decide +kernel), List.mem_of_getElem? (i := 368) (by decide +kernel)⟩
theorem lw_p7 : lw_okq (⟨"MicroMachine$WordReader", "take", "(C)Z"⟩, 4) := ⟨⟨by decide +kernel, by decide +kernel⟩, List.mem_of_getElem? (i := 27) (by decide +kernel), List.mem_of_getElem? (i := 371) (by decide +kernel), List.mem_of_getElem? (i := 372) (by decide +kernel)⟩
theorem lw_p8 : lw_okq (⟨"MicroMachine$WordReader", "readValue", "()Z"⟩, 4) := ⟨⟨by decide +kernel, by decide +kernel⟩, List.mem_of_getElem? (i := 27) (by decide +kernel), List.mem_of_getElem? (i := 375) (by decide +kernel), List.mem_of_getElem? (i := 376) (by decide +kernel)⟩
theorem lw_p9 : lw_okq (⟨"MicroMachine$WordReader", "does", "(I)Z"⟩, 4) := ⟨⟨by decide +kernel, by decide +kernel⟩, List.mem_of_getElem? (i := 27) (by decide +kernel), List.mem_of_getElem? (i := 379) (by decide +kernel), List.mem_of_getElem? (i := 380) (by decide +kernel)⟩
theorem lw_p10 : lw_okq (⟨"MicroMachine$WordReader", "takeSource", "()Z"⟩, 4) := ⟨⟨by decide +kernel, by decide +kernel⟩, List.mem_of_getElem? (i := 27) (by decide +kernel), List.mem_of_getElem? (i := 383) (by decide +kernel), List.mem_of_getElem? (i := 384) (by decide +kernel)⟩
theorem lw_p11 : lw_okq (⟨"MicroMachine$WordReader", "readBehindH", "()Z"⟩, 4) := ⟨⟨by decide +kernel, by decide +kernel⟩, List.mem_of_getElem? (i := 27) (by decide +kernel), List.mem_of_getElem? (i := 387) (by decide +kernel), List.mem_of_getElem? (i := 388) (by decide +kernel)⟩
theorem lw_p12 : lw_okq (⟨"MicroMachine$WordReader", "readBehindSource", "()Z"⟩, 4) := ⟨⟨by decide +kernel, by decide +kernel⟩, List.mem_of_getElem? (i := 27) (by decide +kernel), List.mem_of_getElem? (i := 391) (by decide +kernel), List.mem_of_getElem? (i := 392) (by decide +kernel)⟩
theorem lw_p13 : lw_okq (⟨"MicroMachine$WordReader", "readGoing", "()Z"⟩, 4) := ⟨⟨by decide +kernel, by decide +kernel⟩, List.mem_of_getElem? (i := 27) (by decide +kernel), List.mem_of_getElem? (i := 395) (by decide +kernel), List.mem_of_getElem? (i := 396) (by decide +kernel)⟩
theorem lw_p14 : lw_okq (⟨"MicroMachine$WordReader", "takeNumber", "()I"⟩, 4) := ⟨⟨by decide +kernel, by decide +kernel⟩, List.mem_of_getElem? (i := 27) (by decide +kernel), List.mem_of_getElem? (i := 400) (by decide +kernel), List.mem_of_getElem? (i := 401) (by decide +kernel)⟩
theorem lw_p15 : lw_okq (⟨"MicroMachine$WordReader", "takeDigit", "(I)I"⟩, 4) := ⟨⟨by decide +kernel, by decide +kernel⟩, List.mem_of_getElem? (i := 27) (by decide +kernel), List.mem_of_getElem? (i := 404) (by decide +kernel), List.mem_of_getElem? (i := 405) (by decide +kernel)⟩
def lw_privs_1 : List (MethodName × Nat) := [(⟨"java/lang/Throwable", "fillInStackTrace", "(I)Ljava/lang/Throwable;"⟩, 6), (⟨"MicroMachine$WordReader", "add", "(C)V"⟩, 4), (⟨"MicroMachine$WordReader", "read", "()LMicroMachine$Word;"⟩, 4), (⟨"MicroMachine$WordReader", "readIfThere", "(I)Z"⟩, 4), (⟨"MicroMachine$WordReader", "readSetting", "()Z"⟩, 4), (⟨"MicroMachine$WordReader", "isAtTarget", "()Z"⟩, 4), (⟨"MicroMachine$Word", "sets", "(I)Z"⟩, 10), (⟨"MicroMachine$WordReader", "take", "(C)Z"⟩, 4), (⟨"MicroMachine$WordReader", "readValue", "()Z"⟩, 4), (⟨"MicroMachine$WordReader", "does", "(I)Z"⟩, 4), (⟨"MicroMachine$WordReader", "takeSource", "()Z"⟩, 4), (⟨"MicroMachine$WordReader", "readBehindH", "()Z"⟩, 4), (⟨"MicroMachine$WordReader", "readBehindSource", "()Z"⟩, 4), (⟨"MicroMachine$WordReader", "readGoing", "()Z"⟩, 4), (⟨"MicroMachine$WordReader", "takeNumber", "()I"⟩, 4), (⟨"MicroMachine$WordReader", "takeDigit", "(I)I"⟩, 4)]
theorem lw_r1 : ∀ q ∈ lw_privs_1, lw_okq q := List.forall_mem_cons.mpr ⟨lw_p0, List.forall_mem_cons.mpr ⟨lw_p1, List.forall_mem_cons.mpr ⟨lw_p2, List.forall_mem_cons.mpr ⟨lw_p3, List.forall_mem_cons.mpr ⟨lw_p4, List.forall_mem_cons.mpr ⟨lw_p5, List.forall_mem_cons.mpr ⟨lw_p6, List.forall_mem_cons.mpr ⟨lw_p7, List.forall_mem_cons.mpr ⟨lw_p8, List.forall_mem_cons.mpr ⟨lw_p9, List.forall_mem_cons.mpr ⟨lw_p10, List.forall_mem_cons.mpr ⟨lw_p11, List.forall_mem_cons.mpr ⟨lw_p12, List.forall_mem_cons.mpr ⟨lw_p13, List.forall_mem_cons.mpr ⟨lw_p14, List.forall_mem_cons.mpr ⟨lw_p15, fun _ h => absurd h List.not_mem_nil⟩⟩⟩⟩⟩⟩⟩⟩⟩⟩⟩⟩⟩⟩⟩⟩
theorem lw_p16 : lw_okq (⟨"MicroMachine", "doCycle", "(LMicroMachine$Word;)V"⟩, 16) := ⟨⟨by decide +kernel, by decide +kernel⟩, List.mem_of_getElem? (i := 19) (by decide +kernel), List.mem_of_getElem? (i := 447) (by decide +kernel), List.mem_of_getElem? (i := 448) (by decide +kernel)⟩
theorem lw_p17 : lw_okq (⟨"MicroMachine", "valueOf", "(LMicroMachine$Word;)I"⟩, 16) := ⟨⟨by decide +kernel, by decide +kernel⟩, List.mem_of_getElem? (i := 19) (by decide +kernel), List.mem_of_getElem? (i := 451) (by decide +kernel), List.mem_of_getElem? (i := 452) (by decide +kernel)⟩
theorem lw_p18 : lw_okq (⟨"MicroMachine", "busOf", "(I)I"⟩, 16) := ⟨⟨by decide +kernel, by decide +kernel⟩, List.mem_of_getElem? (i := 19) (by decide +kernel), List.mem_of_getElem? (i := 455) (by decide +kernel), List.mem_of_getElem? (i := 456) (by decide +kernel)⟩
theorem lw_p19 : lw_okq (⟨"MicroMachine", "askForWord", "(II)V"⟩, 16) := ⟨⟨by decide +kernel, by decide +kernel⟩, List.mem_of_getElem? (i := 19) (by decide +kernel), List.mem_of_getElem? (i := 478) (by decide +kernel), List.mem_of_getElem? (i := 479) (by decide +kernel)⟩
theorem lw_p20 : lw_okq (⟨"MicroMachine", "askForByte", "(ZI)V"⟩, 16) := ⟨⟨by decide +kernel, by decide +kernel⟩, List.mem_of_getElem? (i := 19) (by decide +kernel), List.mem_of_getElem? (i := 482) (by decide +kernel), List.mem_of_getElem? (i := 483) (by decide +kernel)⟩
theorem lw_p21 : lw_okq (⟨"MicroMachine", "wordBehind", "(LMicroMachine$Word;I)I"⟩, 16) := ⟨⟨by decide +kernel, by decide +kernel⟩, List.mem_of_getElem? (i := 19) (by decide +kernel), List.mem_of_getElem? (i := 486) (by decide +kernel), List.mem_of_getElem? (i := 487) (by decide +kernel)⟩
theorem lw_p22 : lw_okq (⟨"MicroMachineModel", "reads", "()Z"⟩, 28) := ⟨⟨by decide +kernel, by decide +kernel⟩, List.mem_of_getElem? (i := 533) (by decide +kernel), List.mem_of_getElem? (i := 637) (by decide +kernel), List.mem_of_getElem? (i := 638) (by decide +kernel)⟩
theorem lw_p23 : lw_okq (⟨"MicroMachineModel", "look", "()I"⟩, 28) := ⟨⟨by decide +kernel, by decide +kernel⟩, List.mem_of_getElem? (i := 533) (by decide +kernel), List.mem_of_getElem? (i := 641) (by decide +kernel), List.mem_of_getElem? (i := 642) (by decide +kernel)⟩
theorem lw_p24 : lw_okq (⟨"MicroMachineModel", "settable", "(I)I"⟩, 28) := ⟨⟨by decide +kernel, by decide +kernel⟩, List.mem_of_getElem? (i := 533) (by decide +kernel), List.mem_of_getElem? (i := 645) (by decide +kernel), List.mem_of_getElem? (i := 646) (by decide +kernel)⟩
theorem lw_p25 : lw_okq (⟨"MicroMachineModel", "setting", "()Z"⟩, 28) := ⟨⟨by decide +kernel, by decide +kernel⟩, List.mem_of_getElem? (i := 533) (by decide +kernel), List.mem_of_getElem? (i := 649) (by decide +kernel), List.mem_of_getElem? (i := 650) (by decide +kernel)⟩
theorem lw_p26 : lw_okq (⟨"MicroMachineModel", "has", "(I)Z"⟩, 28) := ⟨⟨by decide +kernel, by decide +kernel⟩, List.mem_of_getElem? (i := 533) (by decide +kernel), List.mem_of_getElem? (i := 653) (by decide +kernel), List.mem_of_getElem? (i := 654) (by decide +kernel)⟩
theorem lw_p27 : lw_okq (⟨"MicroMachineModel", "value", "()Z"⟩, 28) := ⟨⟨by decide +kernel, by decide +kernel⟩, List.mem_of_getElem? (i := 533) (by decide +kernel), List.mem_of_getElem? (i := 657) (by decide +kernel), List.mem_of_getElem? (i := 658) (by decide +kernel)⟩
theorem lw_p28 : lw_okq (⟨"MicroMachineModel", "plain", "(I)Z"⟩, 28) := ⟨⟨by decide +kernel, by decide +kernel⟩, List.mem_of_getElem? (i := 533) (by decide +kernel), List.mem_of_getElem? (i := 661) (by decide +kernel), List.mem_of_getElem? (i := 662) (by decide +kernel)⟩
theorem lw_p29 : lw_okq (⟨"MicroMachineModel", "bus", "(I)Z"⟩, 28) := ⟨⟨by decide +kernel, by decide +kernel⟩, List.mem_of_getElem? (i := 533) (by decide +kernel), List.mem_of_getElem? (i := 665) (by decide +kernel), List.mem_of_getElem? (i := 666) (by decide +kernel)⟩
theorem lw_p30 : lw_okq (⟨"MicroMachineModel", "onBus", "(I)I"⟩, 28) := ⟨⟨by decide +kernel, by decide +kernel⟩, List.mem_of_getElem? (i := 533) (by decide +kernel), List.mem_of_getElem? (i := 669) (by decide +kernel), List.mem_of_getElem? (i := 670) (by decide +kernel)⟩
theorem lw_p31 : lw_okq (⟨"MicroMachineModel", "asking", "(I)Z"⟩, 28) := ⟨⟨by decide +kernel, by decide +kernel⟩, List.mem_of_getElem? (i := 533) (by decide +kernel), List.mem_of_getElem? (i := 673) (by decide +kernel), List.mem_of_getElem? (i := 674) (by decide +kernel)⟩
def lw_privs_2 : List (MethodName × Nat) := [(⟨"MicroMachine", "doCycle", "(LMicroMachine$Word;)V"⟩, 16), (⟨"MicroMachine", "valueOf", "(LMicroMachine$Word;)I"⟩, 16), (⟨"MicroMachine", "busOf", "(I)I"⟩, 16), (⟨"MicroMachine", "askForWord", "(II)V"⟩, 16), (⟨"MicroMachine", "askForByte", "(ZI)V"⟩, 16), (⟨"MicroMachine", "wordBehind", "(LMicroMachine$Word;I)I"⟩, 16), (⟨"MicroMachineModel", "reads", "()Z"⟩, 28), (⟨"MicroMachineModel", "look", "()I"⟩, 28), (⟨"MicroMachineModel", "settable", "(I)I"⟩, 28), (⟨"MicroMachineModel", "setting", "()Z"⟩, 28), (⟨"MicroMachineModel", "has", "(I)Z"⟩, 28), (⟨"MicroMachineModel", "value", "()Z"⟩, 28), (⟨"MicroMachineModel", "plain", "(I)Z"⟩, 28), (⟨"MicroMachineModel", "bus", "(I)Z"⟩, 28), (⟨"MicroMachineModel", "onBus", "(I)I"⟩, 28), (⟨"MicroMachineModel", "asking", "(I)Z"⟩, 28)]
theorem lw_r2 : ∀ q ∈ lw_privs_2, lw_okq q := List.forall_mem_cons.mpr ⟨lw_p16, List.forall_mem_cons.mpr ⟨lw_p17, List.forall_mem_cons.mpr ⟨lw_p18, List.forall_mem_cons.mpr ⟨lw_p19, List.forall_mem_cons.mpr ⟨lw_p20, List.forall_mem_cons.mpr ⟨lw_p21, List.forall_mem_cons.mpr ⟨lw_p22, List.forall_mem_cons.mpr ⟨lw_p23, List.forall_mem_cons.mpr ⟨lw_p24, List.forall_mem_cons.mpr ⟨lw_p25, List.forall_mem_cons.mpr ⟨lw_p26, List.forall_mem_cons.mpr ⟨lw_p27, List.forall_mem_cons.mpr ⟨lw_p28, List.forall_mem_cons.mpr ⟨lw_p29, List.forall_mem_cons.mpr ⟨lw_p30, List.forall_mem_cons.mpr ⟨lw_p31, fun _ h => absurd h List.not_mem_nil⟩⟩⟩⟩⟩⟩⟩⟩⟩⟩⟩⟩⟩⟩⟩⟩
theorem lw_p32 : lw_okq (⟨"MicroMachineModel", "going", "(I)Z"⟩, 28) := ⟨⟨by decide +kernel, by decide +kernel⟩, List.mem_of_getElem? (i := 533) (by decide +kernel), List.mem_of_getElem? (i := 677) (by decide +kernel), List.mem_of_getElem? (i := 678) (by decide +kernel)⟩
theorem lw_p33 : lw_okq (⟨"MicroMachineModel", "number", "()I"⟩, 28) := ⟨⟨by decide +kernel, by decide +kernel⟩, List.mem_of_getElem? (i := 533) (by decide +kernel), List.mem_of_getElem? (i := 681) (by decide +kernel), List.mem_of_getElem? (i := 682) (by decide +kernel)⟩
theorem lw_p34 : lw_okq (⟨"MicroMachineModel", "cycle", "(I)V"⟩, 28) := ⟨⟨by decide +kernel, by decide +kernel⟩, List.mem_of_getElem? (i := 533) (by decide +kernel), List.mem_of_getElem? (i := 697) (by decide +kernel), List.mem_of_getElem? (i := 698) (by decide +kernel)⟩
theorem lw_p35 : lw_okq (⟨"MicroMachineModel", "result", "(I)I"⟩, 28) := ⟨⟨by decide +kernel, by decide +kernel⟩, List.mem_of_getElem? (i := 533) (by decide +kernel), List.mem_of_getElem? (i := 701) (by decide +kernel), List.mem_of_getElem? (i := 702) (by decide +kernel)⟩
theorem lw_p36 : lw_okq (⟨"MicroMachineModel", "then", "(III)I"⟩, 28) := ⟨⟨by decide +kernel, by decide +kernel⟩, List.mem_of_getElem? (i := 533) (by decide +kernel), List.mem_of_getElem? (i := 705) (by decide +kernel), List.mem_of_getElem? (i := 706) (by decide +kernel)⟩
def lw_privs_3 : List (MethodName × Nat) := [(⟨"MicroMachineModel", "going", "(I)Z"⟩, 28), (⟨"MicroMachineModel", "number", "()I"⟩, 28), (⟨"MicroMachineModel", "cycle", "(I)V"⟩, 28), (⟨"MicroMachineModel", "result", "(I)I"⟩, 28), (⟨"MicroMachineModel", "then", "(III)I"⟩, 28)]
theorem lw_r3 : ∀ q ∈ lw_privs_3, lw_okq q := List.forall_mem_cons.mpr ⟨lw_p32, List.forall_mem_cons.mpr ⟨lw_p33, List.forall_mem_cons.mpr ⟨lw_p34, List.forall_mem_cons.mpr ⟨lw_p35, List.forall_mem_cons.mpr ⟨lw_p36, fun _ h => absurd h List.not_mem_nil⟩⟩⟩⟩⟩
def lw_privs : List (MethodName × Nat) := lw_privs_1 ++ (lw_privs_2 ++ (lw_privs_3))
def lw_tbl : List Cond := k2_sels lw_privs ++ tables_1
theorem lw_privs_ok : ∀ q ∈ lw_privs, lw_okq q := by
  show ∀ q ∈ lw_privs_1 ++ (lw_privs_2 ++ (lw_privs_3)), lw_okq q
  exact List.forall_mem_append.mpr ⟨lw_r1, List.forall_mem_append.mpr ⟨lw_r2, lw_r3⟩⟩
-- ===== end of PART A; then your names; then what follows =====
end
section
/-! ===== BEGIN words of one list among another's, by their places ===== -/
theorem goodIn_r {big : List Cond} (ws : List Cond) (ps : List Nat) (hp : ws = ps.filterMap (fun i => big[i]?)) (h : ws.all goodWord = true) : GoodIn big ws := by
  intro w hw
  have h1 := List.all_eq_true.mp h w hw
  rw [hp] at hw
  obtain ⟨i, -, hi⟩ := List.mem_filterMap.mp hw
  have hm : w ∈ big := by first | exact List.mem_of_getElem? hi | exact List.getElem?_mem hi
  exact ⟨hm, good_of_word h1⟩
theorem goodIn_app {big a b : List Cond} (ha : GoodIn big a) (hb : GoodIn big b) : GoodIn big (a ++ b) := fun w h => (List.mem_append.mp h).elim (ha w) (hb w)
theorem goodIn_ca {big a b : List Cond} {c : Cond} (ha : GoodIn big (c :: a)) (hb : GoodIn big b) : GoodIn big (c :: (a ++ b)) := fun w h => (List.mem_cons.mp h).elim (fun e => ha w (List.mem_cons.mpr (Or.inl e))) (fun h => (List.mem_append.mp h).elim (fun h => ha w (List.mem_cons.mpr (Or.inr h))) (hb w))
theorem goodIn_sub {big ws : List Cond} (hm : ∀ w ∈ ws, w ∈ big) (h : ws.all goodWord = true) : GoodIn big ws := fun w hw => ⟨hm w hw, good_of_word (List.all_eq_true.mp h w hw)⟩
/-! ===== END ===== -/

/-! ===== BEGIN exceptions that leave a method, and their catching by the caller (launches without stack traces) ===== -/
section VXA
/-! The laws vx_back, vx_callV, vx_callS, vx_callSW, vx_throw0, vx_throwS follow proofs of the library, with one case more: JvmDerived/Free/Laws.lean (Back.of_free), Shelf42/LK1.lean (callV, callS), Shelf/KitTraced.lean (throwNew0V, throwNewS). -/
/-- where a method has thrown q: the class by its name, the cell, what was written, the world -/
def vx_T (XC : String → State → State → Prop) (st : State) (q : Addr) (t : State) (mc ms : Nat) (free : Addr → Prop) : Prop :=
  ∃ (E : String) (ce : Cell) (L : List Loc), XC E st t ∧ t.heap[q]? = some ce ∧ ce.vm = .none ∧ st.vm.findClass E = some ce.cls ∧ st.WarmedH t.vm ∧ st.sameButNew ({ t with vm := st.vm } : State) L mc ms ∧ ∀ z ∈ L, free z.base
def vx_Q (Qc : Array Value → State → Outcome → State → Prop) (XC : String → State → State → Prop) (mc ms : Nat) (free : Addr → Prop) : Array Value → State → Outcome → State → Prop := fun a st o t =>
  (Qc a st o t ∧ ∃ L, FrameEnd st o t L mc ms ∧ ∀ q ∈ L, free q.base) ∨ ∃ q, o = .threw q ∧ vx_T XC st q t mc ms free
/-- a callee that returns or throws -/
def vx_Met (l : Launch) (y : MethodName) (ws : List Cond) (rm : Room) (Pc : Array Value → State → Prop) (Qc : Array Value → State → Outcome → State → Prop) (XC : String → State → State → Prop) (mc ms : Nat) (free : Addr → Prop) : Prop :=
  MetFree l y (headSpec ws rm) Pc (fun _ _ _ _ _ => True) (vx_Q Qc XC mc ms free)
def vx_Post (XC : String → State → State → Prop) (mc ms : Nat) (free : Addr → Prop) : Pt → Array Value → Addr → Pt → Prop := fun A a q B =>
  ∃ (g : JFrame) (mk : MethodId) (t : State) (L : List Loc) (E : String) (ce : Cell), B.U.heap = t.heap ∧ B.U.vm = t.vm ∧ XC E (A.U.calling g mk a) t ∧ t.heap[q]? = some ce ∧ ce.vm = .none ∧ A.U.vm.findClass E = some ce.cls ∧ B.locs = A.locs ++ L ∧ (∀ z ∈ L, free z.base) ∧ B.cells = A.cells + mc ∧ B.slots = A.slots + ms
def vx_Back (l : Launch) (R : Room) (p : Program) (e : Env) (below : List Frame) (s : State) (sargs : Array Value) (y : MethodName) (len W9 : Nat)
    (Pre : Pt → Array Value → Prop) (Post : Pt → Array Value → Option Value → Pt → Prop) (PostX : Pt → Array Value → Addr → Pt → Prop) : Prop :=
  ∀ (m : MethodId) (meth : Method) (c : Code) (A : Pt) (g : JFrame) (ig : Instr) (mk : MethodId) (a : Array Value),
    Stand p l e R s m sargs below meth c A.U A.locs A.cells A.slots → g.method = m → g.locals.size = c.maxLocals → decode c.code g.pc = .ok (ig, len) →
    2 * g.monitorRoom + (g.stack.map fun v => v.category).sum ≤ W9 → A.U.methodNamed? y = some mk → Pre A a →
    (∃ (v : Option Value) (B : Pt), Stand p l e R s m sargs below meth c B.U B.locs B.cells B.slots ∧ Post A a v B ∧
      Steps p.tables e below (doInvoke e (A.U.setTop g) [] mk a).1 (B.U.setTop { g with pc := g.pc + len, stack := v.toList ++ g.stack })) ∨
    (∃ (q : Addr) (B : Pt), Stand p l e R s m sargs below meth c B.U B.locs B.cells B.slots ∧ PostX A a q B ∧
      Steps p.tables e below (doInvoke e (A.U.setTop g) [] mk a).1 ((B.U.setTop g).pushFrame (.throwing q)))
section Payer
variable {l : Launch} {R : Room} {p : Program} {e : Env} {below : List Frame} {s : State} {sargs : Array Value} {y : MethodName} {len W9 : Nat}
theorem vx_back {ws : List Cond} {rm : Room} {Pc : Array Value → State → Prop} {Qc : Array Value → State → Outcome → State → Prop} {XC : String → State → State → Prop} {mc ms : Nat} {free : Addr → Prop} {bytes : ByteArray} {maxL : Nat} {ret : Option FieldType}
    (hM : vx_Met l y ws rm Pc Qc XC mc ms free) (hblind : FrameBlind Pc) (hrc : rm.cells = mc) (hrs : rm.slots = ms)
    (hframes : rm.frames + 1 ≤ R.frames) (hlocals : W9 + (maxL + 11) + rm.locals ≤ R.locals)
    (hws : ∀ w ∈ ws, ∀ a' U, s.WarmedH U.vm → w.before a' U = true) (hcode : Cond.code y bytes maxL ret ∈ ws) (hinit : ∀ a' U, s.WarmedH U.vm → (Cond.initialized y.cls).before a' U = true) :
    vx_Back l R p e below s sargs y len W9 (PreOf R mc ms Pc) (PostOf Qc mc ms free) (vx_Post XC mc ms free) := by
  intro m meth c A g ig mk a X hg hsize hdg hW hn hp
  have h1 : (headSpec ws rm).pre.before a A.U = true := atoms_intro fun w hw => hws w hw _ _ X.warmed
  have h2 : (Cond.code y bytes maxL ret).before a A.U = true := hws _ hcode _ _ X.warmed
  have h3 : (Cond.initialized y.cls).before a A.U = true := hinit _ _ X.warmed
  have h4 : A.cells + (headSpec ws rm).room.cells ≤ R.cells := by rw [show (headSpec ws rm).room.cells = mc from hrc]; exact hp.1
  have h5 : A.slots + (headSpec ws rm).room.slots ≤ R.slots := by rw [show (headSpec ws rm).room.slots = ms from hrs]; exact hp.2.1
  have hPc : Pc a (A.U.calling g mk a) := hblind _ _ _ _ hp.2.2
  obtain ⟨U, Ls, c0, s0⟩ := A
  dsimp only [Pt.U, Pt.locs, Pt.cells, Pt.slots] at h1 h2 h3 h4 h5 X hn hPc ⊢
  obtain ⟨methY, cY, hmY, hcY, -, hlY, -, -, -, -⟩ := Cond.code_spec hn h2
  obtain ⟨kY, hkY, -⟩ := className_of_methodNamed hn
  have hinitY : kY.init = .initialized := Cond.initialized_spec (findClass_of_methodNamed hn) hkY h3
  have h : At U g.method c below := by rw [hg]; exact X.here
  have hlocals9 : W9 + (maxL + 11) + (headSpec ws rm).room.locals ≤ R.locals := hlocals
  have happ : (headSpec ws rm).appliesLoose y e.platform (U.calling g mk a) = true :=
    Spec.appliesLoose_calling (g := g) h hdg hn hkY hinitY
      (X.room_calling (g := g) (R' := (headSpec ws rm).room) hsize hmY hcY hframes (by rw [hlY]; omega) h4 h5) h1
  obtain ⟨mid, hmid⟩ := h.above
  have hfr : (U.setTop g).frames = (.java g :: mid) ++ below := by rw [State.frames_setTop' g h.top, hmid]; rfl
  obtain ⟨o, s₂, hsteps, -, hend, hq⟩ := Steps.callFree hM p X.admits X.cas X.clock (acts := []) hfr happ hPc trivial
  have hq' : vx_Q Qc XC mc ms free a (U.calling g mk a) o s₂ := hq
  rw [State.frames_setTop' g h.top] at hend
  obtain ⟨g₀, hg0⟩ := Option.isSome_iff_exists.mp h.top
  obtain ⟨r, hr⟩ := State.topJava?_eq_some.mp hg0
  have hr' : (({ U with heap := s₂.heap, slotsUsed := s₂.slotsUsed } : State).setVm s₂.vm).frames = .java g₀ :: r := hr
  rcases hq' with ⟨hqc, L, hfe, hL⟩ | ⟨q, rfl, E, ce, L, hx, hce, hcv, hcl, hW₂, hsm, hL⟩
  · obtain ⟨⟨v, rfl⟩, hW₂, e2, q2, q3, q4, q5, q6⟩ := id hfe
    have e3 : s₂ = ({ (U.calling g mk a).setFrames s₂.frames with heap := s₂.heap, slotsUsed := s₂.slotsUsed } : State).setVm s₂.vm := by
      have : s₂ = ({ s₂ with vm := (U.calling g mk a).vm } : State).setVm s₂.vm := rfl
      rw [e2] at this
      exact this
    obtain ⟨c₂, i₂, len₂, hc₂, hd₂, hf₂⟩ := hend
    have hW' : U.WarmedH s₂.vm := hW₂
    have hcc : c₂ = c := by
      have h1 : s₂.code? g.method = U.code? g.method := by
        rw [State.code?_eq, State.code?_eq, hW'.alike.method?]
      exact Option.some.inj (hc₂.symm.trans (h1.trans h.code))
    subst hcc
    have hlen : len₂ = len := by rw [hdg] at hd₂; cases hd₂; rfl
    subst hlen
    have hs₂ : s₂ = (({ U with heap := s₂.heap, slotsUsed := s₂.slotsUsed } : State).setVm s₂.vm).setTop { g with pc := g.pc + len₂, stack := v.toList ++ g.stack } := by
      refine e3.trans ?_
      rw [hf₂, State.calling_eq h.top, State.setFrames_setFrames, State.setTop_of_frames _ hr', hr]
      rfl
    have hsame : U.sameButNew ({ U with heap := s₂.heap, slotsUsed := s₂.slotsUsed } : State) L mc ms := by
      refine ⟨?_, q2, q3, q4, q5, q6⟩
      obtain ⟨t, ht, -⟩ := State.frames_cons hr
      show ({ U with heap := s₂.heap, slotsUsed := s₂.slotsUsed } : State) = { U.setFrames U.frames with heap := s₂.heap, slotsUsed := s₂.slotsUsed }
      rw [State.setFrames_self ht]
    subst hg
    refine Or.inl ⟨v, ⟨(({ U with heap := s₂.heap, slotsUsed := s₂.slotsUsed } : State).setVm s₂.vm), Ls ++ L, c0 + mc, s0 + ms⟩,
      ⟨X.admits, X.cas, X.clock, X.frames, X.room, X.hears, X.method, X.code, (X.here.setHeapUsed s₂.heap s₂.slotsUsed).setVm hW'.alike, X.tail, State.WarmedH.trans X.warmed hW', X.limits, X.bytes, X.same.trans (hsame.setVm s.vm)⟩,
      ⟨g, mk, s₂, L, rfl, rfl, hqc, rfl, hL, rfl, rfl⟩, ?_⟩
    show Steps p.tables e below _ ((({ U with heap := s₂.heap, slotsUsed := s₂.slotsUsed } : State).setVm s₂.vm).setTop { g with pc := g.pc + len₂, stack := v.toList ++ g.stack })
    rw [← hs₂]
    exact hsteps
  · obtain ⟨e2, q2, q3, q4, q5, q6⟩ := id hsm
    have e3 : s₂ = ({ (U.calling g mk a).setFrames s₂.frames with heap := s₂.heap, slotsUsed := s₂.slotsUsed } : State).setVm s₂.vm := by
      have : s₂ = ({ s₂ with vm := (U.calling g mk a).vm } : State).setVm s₂.vm := rfl
      rw [e2] at this
      exact this
    have hf₂ : s₂.frames = .throwing q :: .java g :: U.frames.tail := hend
    have hW' : U.WarmedH s₂.vm := hW₂
    have hs₂ : s₂ = ((({ U with heap := s₂.heap, slotsUsed := s₂.slotsUsed } : State).setVm s₂.vm).setTop g).pushFrame (.throwing q) := by
      refine e3.trans ?_
      rw [hf₂, State.calling_eq h.top, State.setFrames_setFrames, State.pushFrame, State.frames_setTop _ hr', State.setTop_of_frames _ hr', State.setFrames_setFrames, hr]
      rfl
    have hsame : U.sameButNew ({ U with heap := s₂.heap, slotsUsed := s₂.slotsUsed } : State) L mc ms := by
      refine ⟨?_, q2, q3, q4, q5, q6⟩
      obtain ⟨t, ht, -⟩ := State.frames_cons hr
      show ({ U with heap := s₂.heap, slotsUsed := s₂.slotsUsed } : State) = { U.setFrames U.frames with heap := s₂.heap, slotsUsed := s₂.slotsUsed }
      rw [State.setFrames_self ht]
    subst hg
    refine Or.inr ⟨q, ⟨(({ U with heap := s₂.heap, slotsUsed := s₂.slotsUsed } : State).setVm s₂.vm), Ls ++ L, c0 + mc, s0 + ms⟩,
      ⟨X.admits, X.cas, X.clock, X.frames, X.room, X.hears, X.method, X.code, (X.here.setHeapUsed s₂.heap s₂.slotsUsed).setVm hW'.alike, X.tail, State.WarmedH.trans X.warmed hW', X.limits, X.bytes, X.same.trans (hsame.setVm s.vm)⟩,
      ⟨g, mk, s₂, L, E, ce, rfl, rfl, hx, hce, hcv, hcl, rfl, hL, rfl, rfl⟩, ?_⟩
    show Steps p.tables e below _ (((({ U with heap := s₂.heap, slotsUsed := s₂.slotsUsed } : State).setVm s₂.vm).setTop g).pushFrame (.throwing q))
    rw [← hs₂]
    exact hsteps
end Payer
section Calls
variable {p : Program} {l : Launch} {e : Env} {R : Room} {s : State} {m : MethodId} {args : Array Value} {below : List Frame} {meth : Method} {c : Code} {T : State} {locs : List Loc} {cells slots : Nat}
theorem vx_callV (X : Stand p l e R s m args below meth c T locs cells slots) (hexec : p.tables.exec = Jvm.exec) {own C : String} {index : Nat} {y : MethodName} {bytes : ByteArray} {maxL : Nat} {ret : Option FieldType}
    (hown : s.vm.findClass own = some m.cls) (hlink : (Cond.methodLink own index y).before args s = true) (hinst : (Cond.instanceMethod y).before args s = true) (hsel : (Cond.selects C y y).before args s = true)
    (hcode : (Cond.code y bytes maxL ret).before args s = true) (hy : y.cls ≠ "java/lang/invoke/MethodHandle" ∧ y.cls ≠ "java/lang/invoke/VarHandle")
    {W9 : Nat} {Pre : Pt → Array Value → Prop} {Post : Pt → Array Value → Option Value → Pt → Prop} {PostX : Pt → Array Value → Addr → Pt → Prop} (hK : vx_Back l R p e below s args y 3 W9 Pre Post PostX)
    {b : Addr} {cellB : Cell} (hcell : T.heap[b]? = some cellB) (hobj : cellB.vm.isStatics = false) (hcls : s.vm.findClass C = some cellB.cls)
    {g : JFrame} (hg : g.method = m) (hsize : g.locals.size = c.maxLocals) {argsL rest : List Value} (hlen : ∀ sig, parseMethodDescriptor y.desc = some sig → argsL.length = sig.parameters.length)
    (hstack : g.stack = argsL.reverse ++ .ref b :: rest) (hW : 2 * g.monitorRoom + (rest.map fun v => v.category).sum ≤ W9) (hdg : decode c.code g.pc = .ok (.invokevirtual index, 3))
    (hpre : ∀ vm₁, s.WarmedH vm₁ → Pre ⟨T.setVm vm₁, locs, cells, slots⟩ (Value.ref b :: argsL).toArray) :
    (∃ (v : Option Value) (vm₁ : Vm) (B : Pt), s.WarmedH vm₁ ∧ Stand p l e R s m args below meth c B.U B.locs B.cells B.slots ∧ Post ⟨T.setVm vm₁, locs, cells, slots⟩ (Value.ref b :: argsL).toArray v B ∧
      ∀ target, Steps p.tables e below (B.U.setTop { g with pc := g.pc + 3, stack := v.toList ++ rest }) target → Steps p.tables e below (T.setTop g) target) ∨
    (∃ (q : Addr) (vm₁ : Vm) (B : Pt), s.WarmedH vm₁ ∧ Stand p l e R s m args below meth c B.U B.locs B.cells B.slots ∧ PostX ⟨T.setVm vm₁, locs, cells, slots⟩ (Value.ref b :: argsL).toArray q B ∧
      Steps p.tables e below (T.setTop g) ((B.U.setTop { g with stack := rest }).pushFrame (.throwing q))) := by
  obtain ⟨mk, methM, hnamed, hmethM, hstM, habM⟩ := Cond.instanceMethod_spec hinst
  obtain ⟨methM', cM, hmethM', -, -, -, -, -, -, hsigM⟩ := Cond.code_spec hnamed hcode
  cases hmethM.symm.trans hmethM'
  obtain ⟨c2, r2, m2, q1, q2, q3, q4, kP, hkP, hkPi⟩ := Cond.selects_spec hsel
  cases hcls.symm.trans q1
  cases (State.methodFound?_of_named hnamed hy).symm.trans q2
  cases hnamed.symm.trans q3
  have hselP : selectMethod e.platform s.vm cellB.cls mk = .method mk := by rw [Launch.admits_selectMethod X.admits]; exact q4
  obtain ⟨vm₁, X₁, hstep₁⟩ := X.invokevirtual hexec hown hlink hnamed hmethM hstM hkP hkPi hy (a := b) (cell := cellB) hcell
    (fun z h => by rw [h] at hobj; cases hobj) hselP hmethM habM hkP hkPi (g := g) hg (argsL := argsL) (rest := rest) (hlen _ hsigM) hstack hdg
  rcases hK m meth c ⟨T.setVm vm₁, locs, cells, slots⟩ { g with stack := rest } (.invokevirtual index) mk (Value.ref b :: argsL).toArray X₁ hg hsize hdg hW (X₁.named hnamed) (hpre vm₁ X₁.warmed) with ⟨v, B, X', hpost, hsteps⟩ | ⟨q, B, X', hpost, hsteps⟩
  · exact Or.inl ⟨v, vm₁, B, X₁.warmed, X', hpost, fun target h => hstep₁ _ fun acts => by rw [doInvoke_state]; exact hsteps.trans h⟩
  · exact Or.inr ⟨q, vm₁, B, X₁.warmed, X', hpost, hstep₁ _ fun acts => by rw [doInvoke_state]; exact hsteps⟩
theorem vx_callS (X : Stand p l e R s m args below meth c T locs cells slots) (hexec : p.tables.exec = Jvm.exec) {own : String} {index : Nat} {y : MethodName} {bytes : ByteArray} {maxL : Nat} {ret : Option FieldType}
    (hown : s.vm.findClass own = some m.cls) (hlink : (Cond.methodLink own index y).before args s = true) (hstat : (Cond.static y).before args s = true) (hinit : (Cond.initialized y.cls).before args s = true)
    (hcode : (Cond.code y bytes maxL ret).before args s = true) (hy : y.cls ≠ "java/lang/invoke/MethodHandle" ∧ y.cls ≠ "java/lang/invoke/VarHandle")
    {W9 : Nat} {Pre : Pt → Array Value → Prop} {Post : Pt → Array Value → Option Value → Pt → Prop} {PostX : Pt → Array Value → Addr → Pt → Prop} (hK : vx_Back l R p e below s args y 3 W9 Pre Post PostX)
    {g : JFrame} (hg : g.method = m) (hsize : g.locals.size = c.maxLocals) {argsL rest : List Value} (hlen : ∀ sig, parseMethodDescriptor y.desc = some sig → argsL.length = sig.parameters.length)
    (hstack : g.stack = argsL.reverse ++ rest) (hW : 2 * g.monitorRoom + (rest.map fun v => v.category).sum ≤ W9) (hdg : decode c.code g.pc = .ok (.invokestatic index, 3))
    (hpre : ∀ vm₁, s.WarmedH vm₁ → Pre ⟨T.setVm vm₁, locs, cells, slots⟩ argsL.toArray) :
    (∃ (v : Option Value) (vm₁ : Vm) (B : Pt), s.WarmedH vm₁ ∧ Stand p l e R s m args below meth c B.U B.locs B.cells B.slots ∧ Post ⟨T.setVm vm₁, locs, cells, slots⟩ argsL.toArray v B ∧
      ∀ target, Steps p.tables e below (B.U.setTop { g with pc := g.pc + 3, stack := v.toList ++ rest }) target → Steps p.tables e below (T.setTop g) target) ∨
    (∃ (q : Addr) (vm₁ : Vm) (B : Pt), s.WarmedH vm₁ ∧ Stand p l e R s m args below meth c B.U B.locs B.cells B.slots ∧ PostX ⟨T.setVm vm₁, locs, cells, slots⟩ argsL.toArray q B ∧
      Steps p.tables e below (T.setTop g) ((B.U.setTop { g with stack := rest }).pushFrame (.throwing q))) := by
  obtain ⟨mk, hnamed⟩ := Cond.code_named hcode
  obtain ⟨methM, cM, hmethM, -, -, -, -, -, -, hsigM⟩ := Cond.code_spec hnamed hcode
  have hstatic : methM.isStatic = true := Cond.static_spec hnamed hmethM hstat
  obtain ⟨kP, hkP, -⟩ := className_of_methodNamed hnamed
  have hinitP : kP.init = .initialized := Cond.initialized_spec (findClass_of_methodNamed hnamed) hkP hinit
  obtain ⟨vm₁, X₁, hstep₁⟩ := X.invokestatic hexec hown hlink hnamed hmethM hstatic hkP hinitP hy (g := g) hg (argsL := argsL) (rest := rest) (hlen _ hsigM) hstack hdg
  rcases hK m meth c ⟨T.setVm vm₁, locs, cells, slots⟩ { g with stack := rest } (.invokestatic index) mk argsL.toArray X₁ hg hsize hdg hW (X₁.named hnamed) (hpre vm₁ X₁.warmed) with ⟨v, B, X', hpost, hsteps⟩ | ⟨q, B, X', hpost, hsteps⟩
  · exact Or.inl ⟨v, vm₁, B, X₁.warmed, X', hpost, fun target h => hstep₁ _ fun acts => by rw [doInvoke_state]; exact hsteps.trans h⟩
  · exact Or.inr ⟨q, vm₁, B, X₁.warmed, X', hpost, hstep₁ _ fun acts => by rw [doInvoke_state]; exact hsteps⟩
end Calls
theorem vx_cls {s : State} {T : State} {vm₁ : Vm} {E : String} {k : ClassId} (hW : s.WarmedH vm₁) (h : (T.setVm vm₁).vm.findClass E = some k) : s.vm.findClass E = some k := by
  have h1 : vm₁.findClass E = some k := h
  rw [hW.alike.findClass] at h1
  exact h1
/-- the method's frame g, with q thrown over it -/
def vx_W (p : Program) (l : Launch) (e : Env) (R : Room) (s : State) (m : MethodId) (args : Array Value) (below : List Frame) (meth : Method) (c : Code) (H : Heap) (locs : List Loc) (cells slots : Nat) (Q : State → Prop) (g : JFrame) (q : Addr) : Prop :=
  ∀ T : State, T.heap = H → Stand p l e R s m args below meth c T locs cells slots → ∃ t, Steps p.tables e below ((T.setTop g).pushFrame (.throwing q)) t ∧ Q t
def vx_Run (p : Program) (l : Launch) (e : Env) (R : Room) (s : State) (m : MethodId) (args : Array Value) (below : List Frame) (meth : Method) (c : Code) (H : Heap) (locs : List Loc) (cells slots mc ms : Nat) (g : JFrame) (rest : List Value) (Qa : State → Outcome → State → Prop) (XC : String → State → State → Prop) (free : Addr → Prop) : Prop :=
  ∀ T : State, T.heap = H → Stand p l e R s m args below meth c T locs cells slots →
    (∃ (v : Option Value) (st₀ t T' : State) (L : List Loc), st₀.heap = H ∧ Stand p l e R s m args below meth c T' (locs ++ L) (cells + mc) (slots + ms) ∧ (∀ q ∈ L, free q.base) ∧ T'.heap = t.heap ∧ T'.vm = t.vm ∧ Qa st₀ (.returned v) t ∧
      Goes p e below T g T' { g with pc := g.pc + 3, stack := v.toList ++ rest }) ∨
    (∃ (q : Addr) (st₀ t T' : State) (L : List Loc) (E : String) (ce : Cell), st₀.heap = H ∧ Stand p l e R s m args below meth c T' (locs ++ L) (cells + mc) (slots + ms) ∧ (∀ z ∈ L, free z.base) ∧ T'.heap = t.heap ∧ T'.vm = t.vm ∧ XC E st₀ t ∧ t.heap[q]? = some ce ∧ ce.vm = .none ∧ s.vm.findClass E = some ce.cls ∧
      Steps p.tables e below (T.setTop g) ((T'.setTop { g with stack := rest }).pushFrame (.throwing q)))
def vx_X {S : Type} (px : S → Prop) (B : String → S → State → Prop) (A : Nat → Prop) : String → State → State → Prop := fun E st t => ∃ u : S, px u ∧ B E u t ∧ va_F A st t
section Runs
variable {p : Program} {l : Launch} {e : Env} {R : Room} {s : State} {m : MethodId} {args : Array Value} {below : List Frame} {meth : Method} {c : Code} {H : Heap} {locs : List Loc} {cells slots : Nat}
variable {y : MethodName} {bytes cc : ByteArray} {maxL nL mc ms n index : Nat} {ret : Option FieldType} {ws : List Cond} {rm : Room} {Pc : Array Value → State → Prop} {Qc : Array Value → State → Outcome → State → Prop} {XC : String → State → State → Prop} {free : Addr → Prop} {Ts : List Cond} {own C : String} {b : Addr} {As rest : List Value} {g : JFrame}
theorem vx_callBack (cb : CallB R s args own index y bytes maxL ret ws rm mc ms n) (hM : vx_Met l y ws rm Pc Qc XC mc ms free) (hbl : FrameBlind Pc) : vx_Back l R p e below s args y 3 8 (PreOf R mc ms Pc) (PostOf Qc mc ms free) (vx_Post XC mc ms free) := by
  obtain ⟨hrc, hrs, hfr, hlo, hws, hcw, -, hini, -⟩ := cb
  exact vx_back (bytes := bytes) (maxL := maxL) (ret := ret) hM hbl hrc hrs hfr hlo hws hcw (fun a' U hW => word_at hW (Or.inl (by first | rfl | simp [Cond.onTables, Cond.keeps, Cond.steady])) hini)
theorem vx_runV (S : CallFix p m c cc nL s args Ts own) (hM : vx_Met l y ws rm Pc Qc XC mc ms free) (cw : CallW R s args own C index y bytes maxL ret ws rm mc ms n) (hp : PreV s H C b Pc As)
    (hg : g.method = m) (hn : As.length = n) (hsize : g.locals.size = nL) (hstack : g.stack = As.reverse ++ .ref b :: rest) (hW : 2 * g.monitorRoom + (rest.map fun v => v.category).sum ≤ 8) (hdg : decode cc g.pc = .ok (.invokevirtual index, 3)) (hf : cells + mc ≤ R.cells ∧ slots + ms ≤ R.slots) :
    vx_Run p l e R s m args below meth c H locs cells slots mc ms g rest (Qc (Value.ref b :: As).toArray) XC free := by
  have hK : vx_Back l R p e below s args y 3 8 (PreOf R mc ms Pc) (PostOf Qc mc ms free) (vx_Post XC mc ms free) := vx_callBack cw.1 hM hp.1
  obtain ⟨⟨-, -, -, -, -, -, hcode, -, hy, hlen, hl⟩, hin, hse⟩ := cw
  obtain ⟨hx, hb, hml, ho, -⟩ := S
  obtain ⟨-, ⟨cellB, hcB, hoB, hclB⟩, hPc⟩ := hp
  intro T hT X
  rcases vx_callV X hx (C := C) (bytes := bytes) (maxL := maxL) (ret := ret) ho hl hin hse hcode hy hK (by rw [hT]; exact hcB) hoB hclB hg (hsize.trans hml.symm) (argsL := As) (rest := rest) (fun sig h => hn.trans (hlen sig h)) hstack hW (by rw [hb]; exact hdg)
    (fun vm₁ hW₁ => ⟨hf.1, hf.2, hPc (T.setVm vm₁) hT hW₁⟩) with ⟨v, vm₁, ⟨U', l2, c2, s2⟩, hW₁, X', ⟨g', mk, t, L, e1, e2, hq, h1, hL, h2, h3⟩, st⟩ | ⟨q, vm₁, ⟨U', l2, c2, s2⟩, hW₁, X', ⟨g', mk, t, L, E, ce, e1, e2, hq, hce, hcv, hcl, h1, hL, h2, h3⟩, st⟩
  · dsimp only [Pt.U, Pt.locs, Pt.cells, Pt.slots] at X' e1 e2 h1 h2 h3 st
    subst h1; subst h2; subst h3
    exact Or.inl ⟨v, (T.setVm vm₁).calling g' mk (Value.ref b :: As).toArray, t, U', L, hT, X', hL, e1, e2, hq, st⟩
  · dsimp only [Pt.U, Pt.locs, Pt.cells, Pt.slots] at X' e1 e2 h1 h2 h3 st hcl
    subst h1; subst h2; subst h3
    exact Or.inr ⟨q, (T.setVm vm₁).calling g' mk (Value.ref b :: As).toArray, t, U', L, E, ce, hT, X', hL, e1, e2, hq, hce, hcv, vx_cls hW₁ hcl, st⟩
theorem vx_runS (S : CallFix p m c cc nL s args Ts own) (hM : vx_Met l y ws rm Pc Qc XC mc ms free) (cw : CallB R s args own index y bytes maxL ret ws rm mc ms n ∧ (Cond.static y).before args s = true) (hp : PreS s H Pc As)
    (hg : g.method = m) (hn : As.length = n) (hsize : g.locals.size = nL) (hstack : g.stack = As.reverse ++ rest) (hW : 2 * g.monitorRoom + (rest.map fun v => v.category).sum ≤ 8) (hdg : decode cc g.pc = .ok (.invokestatic index, 3)) (hf : cells + mc ≤ R.cells ∧ slots + ms ≤ R.slots) :
    vx_Run p l e R s m args below meth c H locs cells slots mc ms g rest (Qc As.toArray) XC free := by
  have hK : vx_Back l R p e below s args y 3 8 (PreOf R mc ms Pc) (PostOf Qc mc ms free) (vx_Post XC mc ms free) := vx_callBack cw.1 hM hp.1
  obtain ⟨⟨-, -, -, -, -, -, hcode, hini, hy, hlen, hl⟩, hstt⟩ := cw
  obtain ⟨hx, hb, hml, ho, -⟩ := S
  intro T hT X
  rcases vx_callS X hx (bytes := bytes) (maxL := maxL) (ret := ret) ho hl hstt hini hcode hy hK hg (hsize.trans hml.symm) (argsL := As) (rest := rest) (fun sig h => hn.trans (hlen sig h)) hstack hW (by rw [hb]; exact hdg)
    (fun vm₁ hW₁ => ⟨hf.1, hf.2, hp.2 (T.setVm vm₁) hT hW₁⟩) with ⟨v, vm₁, ⟨U', l2, c2, s2⟩, hW₁, X', ⟨g', mk, t, L, e1, e2, hq, h1, hL, h2, h3⟩, st⟩ | ⟨q, vm₁, ⟨U', l2, c2, s2⟩, hW₁, X', ⟨g', mk, t, L, E, ce, e1, e2, hq, hce, hcv, hcl, h1, hL, h2, h3⟩, st⟩
  · dsimp only [Pt.U, Pt.locs, Pt.cells, Pt.slots] at X' e1 e2 h1 h2 h3 st
    subst h1; subst h2; subst h3
    exact Or.inl ⟨v, (T.setVm vm₁).calling g' mk As.toArray, t, U', L, hT, X', hL, e1, e2, hq, st⟩
  · dsimp only [Pt.U, Pt.locs, Pt.cells, Pt.slots] at X' e1 e2 h1 h2 h3 st hcl
    subst h1; subst h2; subst h3
    exact Or.inr ⟨q, (T.setVm vm₁).calling g' mk As.toArray, t, U', L, E, ce, hT, X', hL, e1, e2, hq, hce, hcv, vx_cls hW₁ hcl, st⟩
end Runs
section Rows
variable {p : Program} {l : Launch} {e : Env} {R : Room} {s : State} {m : MethodId} {args : Array Value} {below : List Frame} {meth : Method} {c : Code} {H : Heap} {locs : List Loc} {cells slots : Nat} {Q : State → Prop}
variable {mc ms : Nat} {free : Addr → Prop} {A0 A1 : Nat → Prop} {H0 : Heap} {a : Array Value} {pc : Nat} {ls : Array Slot} {st0 rest : List Value}
theorem vx_keep {st₀ t T' : State} {L : List Loc} (h0 : st₀.heap = H) (e1 : T'.heap = t.heap) (hS : va_S A0 H0 H locs) (hA : ∀ q, q < H.size → A1 q → A0 q) (hf : ∀ q, free q → A0 q) (hL : ∀ q ∈ L, free q.base) (hF : va_F A1 st₀ t) :
    H.size ≤ T'.heap.size ∧ (∀ q : Nat, q < H.size → ¬ A1 q → T'.heap[q]? = H[q]?) ∧ va_S A0 H0 T'.heap (locs ++ L) := by
  obtain ⟨hz, hk⟩ := hF
  rw [h0] at hz hk
  exact ⟨by rw [e1]; exact hz, fun q h1 h2 => by rw [e1]; exact hk q h1 h2,
    ⟨Nat.le_trans hS.1 (by rw [e1]; exact hz), fun q h1 h2 => by rw [e1, hk q (Nat.lt_of_lt_of_le h1 hS.1) (fun z => h2 (hA q (Nat.lt_of_lt_of_le h1 hS.1) z))]; exact hS.2.1 q h1 h2, fun q hq => by
      rcases List.mem_append.mp hq with h | h
      · exact hS.2.2 q h
      · exact hf _ (hL q h)⟩⟩
theorem vx_calli {S SX : Type} {post : Int32 → S → Prop} {px : SX → Prop} {B : S → State → Prop} {BX : String → SX → State → Prop} {AX : Nat → Prop} (hr : vx_Run p l e R s m args below meth c H locs cells slots mc ms (F0 m pc ls st0) rest (va_Qi post B A1 a) (vx_X px BX AX) free) (hS : va_S A0 H0 H locs) (hA : ∀ q, q < H.size → A1 q → A0 q) (hf : ∀ q, free q → A0 q) (hAX : ∀ q, q < H.size → AX q → A0 q)
    (kx : ∀ (E : String) (ce : Cell) (q9 : Addr) (u : SX) (t : State) (H1 : Heap) (locs1 : List Loc), t.heap = H1 → s.vm.Alike t.vm → px u → BX E u t → H.size ≤ H1.size → (∀ q : Nat, q < H.size → ¬ AX q → H1[q]? = H[q]?) → va_S A0 H0 H1 locs1 → H1[q9]? = some ce → ce.vm = .none → s.vm.findClass E = some ce.cls → vx_W p l e R s m args below meth c H1 locs1 (cells + mc) (slots + ms) Q (F0 m pc ls rest) q9)
    (kk : ∀ (r : Int32) (u : S) (t : State) (H1 : Heap) (locs1 : List Loc), t.heap = H1 → s.vm.Alike t.vm → post r u → B u t → H.size ≤ H1.size → (∀ q : Nat, q < H.size → ¬ A1 q → H1[q]? = H[q]?) → va_S A0 H0 H1 locs1 → W p l e R s m args below meth c H1 locs1 (cells + mc) (slots + ms) Q (F0 m (pc + 3) ls (.int r :: rest))) : W p l e R s m args below meth c H locs cells slots Q (F0 m pc ls st0) := by
  intro T hT X
  rcases hr T hT X with ⟨v, st₀, t, T', L, h0, X', hL, e1, e2, ⟨⟨r, u, hv, hp, hb⟩, hF⟩, st⟩ | ⟨q, st₀, t, T', L, E, ce, h0, X', hL, e1, e2, ⟨u, hp, hb, hF⟩, hce, hcv, hcl, st⟩
  · cases hv
    obtain ⟨k1, k2, k3⟩ := vx_keep h0 e1 hS hA hf hL hF
    obtain ⟨t2, a1, b1⟩ := kk r u t T'.heap (locs ++ L) e1.symm (by rw [← e2]; exact X'.warmed.alike) hp hb k1 k2 k3 T' rfl X'
    exact ⟨t2, st t2 a1, b1⟩
  · obtain ⟨k1, k2, k3⟩ := vx_keep h0 e1 hS hAX hf hL hF
    obtain ⟨t2, a1, b1⟩ := kx E ce q u t T'.heap (locs ++ L) e1.symm (by rw [← e2]; exact X'.warmed.alike) hp hb k1 k2 k3 (by rw [e1]; exact hce) hcv hcl T' rfl X'
    exact ⟨t2, st.trans a1, b1⟩
theorem vx_calll {S SX : Type} {post : Int64 → S → Prop} {px : SX → Prop} {B : S → State → Prop} {BX : String → SX → State → Prop} {AX : Nat → Prop} (hr : vx_Run p l e R s m args below meth c H locs cells slots mc ms (F0 m pc ls st0) rest (va_Ql post B A1 a) (vx_X px BX AX) free) (hS : va_S A0 H0 H locs) (hA : ∀ q, q < H.size → A1 q → A0 q) (hf : ∀ q, free q → A0 q) (hAX : ∀ q, q < H.size → AX q → A0 q)
    (kx : ∀ (E : String) (ce : Cell) (q9 : Addr) (u : SX) (t : State) (H1 : Heap) (locs1 : List Loc), t.heap = H1 → s.vm.Alike t.vm → px u → BX E u t → H.size ≤ H1.size → (∀ q : Nat, q < H.size → ¬ AX q → H1[q]? = H[q]?) → va_S A0 H0 H1 locs1 → H1[q9]? = some ce → ce.vm = .none → s.vm.findClass E = some ce.cls → vx_W p l e R s m args below meth c H1 locs1 (cells + mc) (slots + ms) Q (F0 m pc ls rest) q9)
    (kk : ∀ (r : Int64) (u : S) (t : State) (H1 : Heap) (locs1 : List Loc), t.heap = H1 → s.vm.Alike t.vm → post r u → B u t → H.size ≤ H1.size → (∀ q : Nat, q < H.size → ¬ A1 q → H1[q]? = H[q]?) → va_S A0 H0 H1 locs1 → W p l e R s m args below meth c H1 locs1 (cells + mc) (slots + ms) Q (F0 m (pc + 3) ls (.long r :: rest))) : W p l e R s m args below meth c H locs cells slots Q (F0 m pc ls st0) := by
  intro T hT X
  rcases hr T hT X with ⟨v, st₀, t, T', L, h0, X', hL, e1, e2, ⟨⟨r, u, hv, hp, hb⟩, hF⟩, st⟩ | ⟨q, st₀, t, T', L, E, ce, h0, X', hL, e1, e2, ⟨u, hp, hb, hF⟩, hce, hcv, hcl, st⟩
  · cases hv
    obtain ⟨k1, k2, k3⟩ := vx_keep h0 e1 hS hA hf hL hF
    obtain ⟨t2, a1, b1⟩ := kk r u t T'.heap (locs ++ L) e1.symm (by rw [← e2]; exact X'.warmed.alike) hp hb k1 k2 k3 T' rfl X'
    exact ⟨t2, st t2 a1, b1⟩
  · obtain ⟨k1, k2, k3⟩ := vx_keep h0 e1 hS hAX hf hL hF
    obtain ⟨t2, a1, b1⟩ := kx E ce q u t T'.heap (locs ++ L) e1.symm (by rw [← e2]; exact X'.warmed.alike) hp hb k1 k2 k3 (by rw [e1]; exact hce) hcv hcl T' rfl X'
    exact ⟨t2, st.trans a1, b1⟩
theorem vx_callf {S SX : Type} {post : UInt32 → S → Prop} {px : SX → Prop} {B : S → State → Prop} {BX : String → SX → State → Prop} {AX : Nat → Prop} (hr : vx_Run p l e R s m args below meth c H locs cells slots mc ms (F0 m pc ls st0) rest (va_Qf post B A1 a) (vx_X px BX AX) free) (hS : va_S A0 H0 H locs) (hA : ∀ q, q < H.size → A1 q → A0 q) (hf : ∀ q, free q → A0 q) (hAX : ∀ q, q < H.size → AX q → A0 q)
    (kx : ∀ (E : String) (ce : Cell) (q9 : Addr) (u : SX) (t : State) (H1 : Heap) (locs1 : List Loc), t.heap = H1 → s.vm.Alike t.vm → px u → BX E u t → H.size ≤ H1.size → (∀ q : Nat, q < H.size → ¬ AX q → H1[q]? = H[q]?) → va_S A0 H0 H1 locs1 → H1[q9]? = some ce → ce.vm = .none → s.vm.findClass E = some ce.cls → vx_W p l e R s m args below meth c H1 locs1 (cells + mc) (slots + ms) Q (F0 m pc ls rest) q9)
    (kk : ∀ (r : UInt32) (u : S) (t : State) (H1 : Heap) (locs1 : List Loc), t.heap = H1 → s.vm.Alike t.vm → post r u → B u t → H.size ≤ H1.size → (∀ q : Nat, q < H.size → ¬ A1 q → H1[q]? = H[q]?) → va_S A0 H0 H1 locs1 → W p l e R s m args below meth c H1 locs1 (cells + mc) (slots + ms) Q (F0 m (pc + 3) ls (.float r :: rest))) : W p l e R s m args below meth c H locs cells slots Q (F0 m pc ls st0) := by
  intro T hT X
  rcases hr T hT X with ⟨v, st₀, t, T', L, h0, X', hL, e1, e2, ⟨⟨r, u, hv, hp, hb⟩, hF⟩, st⟩ | ⟨q, st₀, t, T', L, E, ce, h0, X', hL, e1, e2, ⟨u, hp, hb, hF⟩, hce, hcv, hcl, st⟩
  · cases hv
    obtain ⟨k1, k2, k3⟩ := vx_keep h0 e1 hS hA hf hL hF
    obtain ⟨t2, a1, b1⟩ := kk r u t T'.heap (locs ++ L) e1.symm (by rw [← e2]; exact X'.warmed.alike) hp hb k1 k2 k3 T' rfl X'
    exact ⟨t2, st t2 a1, b1⟩
  · obtain ⟨k1, k2, k3⟩ := vx_keep h0 e1 hS hAX hf hL hF
    obtain ⟨t2, a1, b1⟩ := kx E ce q u t T'.heap (locs ++ L) e1.symm (by rw [← e2]; exact X'.warmed.alike) hp hb k1 k2 k3 (by rw [e1]; exact hce) hcv hcl T' rfl X'
    exact ⟨t2, st.trans a1, b1⟩
theorem vx_calld {S SX : Type} {post : UInt64 → S → Prop} {px : SX → Prop} {B : S → State → Prop} {BX : String → SX → State → Prop} {AX : Nat → Prop} (hr : vx_Run p l e R s m args below meth c H locs cells slots mc ms (F0 m pc ls st0) rest (va_Qd post B A1 a) (vx_X px BX AX) free) (hS : va_S A0 H0 H locs) (hA : ∀ q, q < H.size → A1 q → A0 q) (hf : ∀ q, free q → A0 q) (hAX : ∀ q, q < H.size → AX q → A0 q)
    (kx : ∀ (E : String) (ce : Cell) (q9 : Addr) (u : SX) (t : State) (H1 : Heap) (locs1 : List Loc), t.heap = H1 → s.vm.Alike t.vm → px u → BX E u t → H.size ≤ H1.size → (∀ q : Nat, q < H.size → ¬ AX q → H1[q]? = H[q]?) → va_S A0 H0 H1 locs1 → H1[q9]? = some ce → ce.vm = .none → s.vm.findClass E = some ce.cls → vx_W p l e R s m args below meth c H1 locs1 (cells + mc) (slots + ms) Q (F0 m pc ls rest) q9)
    (kk : ∀ (r : UInt64) (u : S) (t : State) (H1 : Heap) (locs1 : List Loc), t.heap = H1 → s.vm.Alike t.vm → post r u → B u t → H.size ≤ H1.size → (∀ q : Nat, q < H.size → ¬ A1 q → H1[q]? = H[q]?) → va_S A0 H0 H1 locs1 → W p l e R s m args below meth c H1 locs1 (cells + mc) (slots + ms) Q (F0 m (pc + 3) ls (.double r :: rest))) : W p l e R s m args below meth c H locs cells slots Q (F0 m pc ls st0) := by
  intro T hT X
  rcases hr T hT X with ⟨v, st₀, t, T', L, h0, X', hL, e1, e2, ⟨⟨r, u, hv, hp, hb⟩, hF⟩, st⟩ | ⟨q, st₀, t, T', L, E, ce, h0, X', hL, e1, e2, ⟨u, hp, hb, hF⟩, hce, hcv, hcl, st⟩
  · cases hv
    obtain ⟨k1, k2, k3⟩ := vx_keep h0 e1 hS hA hf hL hF
    obtain ⟨t2, a1, b1⟩ := kk r u t T'.heap (locs ++ L) e1.symm (by rw [← e2]; exact X'.warmed.alike) hp hb k1 k2 k3 T' rfl X'
    exact ⟨t2, st t2 a1, b1⟩
  · obtain ⟨k1, k2, k3⟩ := vx_keep h0 e1 hS hAX hf hL hF
    obtain ⟨t2, a1, b1⟩ := kx E ce q u t T'.heap (locs ++ L) e1.symm (by rw [← e2]; exact X'.warmed.alike) hp hb k1 k2 k3 (by rw [e1]; exact hce) hcv hcl T' rfl X'
    exact ⟨t2, st.trans a1, b1⟩
theorem vx_callv {S SX : Type} {post : S → Prop} {px : SX → Prop} {B : S → State → Prop} {BX : String → SX → State → Prop} {AX : Nat → Prop} (hr : vx_Run p l e R s m args below meth c H locs cells slots mc ms (F0 m pc ls st0) rest (va_Qv post B A1 a) (vx_X px BX AX) free) (hS : va_S A0 H0 H locs) (hA : ∀ q, q < H.size → A1 q → A0 q) (hf : ∀ q, free q → A0 q) (hAX : ∀ q, q < H.size → AX q → A0 q)
    (kx : ∀ (E : String) (ce : Cell) (q9 : Addr) (u : SX) (t : State) (H1 : Heap) (locs1 : List Loc), t.heap = H1 → s.vm.Alike t.vm → px u → BX E u t → H.size ≤ H1.size → (∀ q : Nat, q < H.size → ¬ AX q → H1[q]? = H[q]?) → va_S A0 H0 H1 locs1 → H1[q9]? = some ce → ce.vm = .none → s.vm.findClass E = some ce.cls → vx_W p l e R s m args below meth c H1 locs1 (cells + mc) (slots + ms) Q (F0 m pc ls rest) q9)
    (kk : ∀ (u : S) (t : State) (H1 : Heap) (locs1 : List Loc), t.heap = H1 → s.vm.Alike t.vm → post u → B u t → H.size ≤ H1.size → (∀ q : Nat, q < H.size → ¬ A1 q → H1[q]? = H[q]?) → va_S A0 H0 H1 locs1 → W p l e R s m args below meth c H1 locs1 (cells + mc) (slots + ms) Q (F0 m (pc + 3) ls (rest))) : W p l e R s m args below meth c H locs cells slots Q (F0 m pc ls st0) := by
  intro T hT X
  rcases hr T hT X with ⟨v, st₀, t, T', L, h0, X', hL, e1, e2, ⟨⟨u, hv, hp, hb⟩, hF⟩, st⟩ | ⟨q, st₀, t, T', L, E, ce, h0, X', hL, e1, e2, ⟨u, hp, hb, hF⟩, hce, hcv, hcl, st⟩
  · cases hv
    obtain ⟨k1, k2, k3⟩ := vx_keep h0 e1 hS hA hf hL hF
    obtain ⟨t2, a1, b1⟩ := kk u t T'.heap (locs ++ L) e1.symm (by rw [← e2]; exact X'.warmed.alike) hp hb k1 k2 k3 T' rfl X'
    exact ⟨t2, st t2 a1, b1⟩
  · obtain ⟨k1, k2, k3⟩ := vx_keep h0 e1 hS hAX hf hL hF
    obtain ⟨t2, a1, b1⟩ := kx E ce q u t T'.heap (locs ++ L) e1.symm (by rw [← e2]; exact X'.warmed.alike) hp hb k1 k2 k3 (by rw [e1]; exact hce) hcv hcl T' rfl X'
    exact ⟨t2, st.trans a1, b1⟩
/-- caught by the row x of this method's table; the rows ahead don't take it -/
theorem vx_catch {own name : String} {E : String} {ce : Cell} {q : Addr} (hown : s.vm.findClass own = some m.cls) (pre : List ExceptionTableEntry) (x : ExceptionTableEntry) (suf : List ExceptionTableEntry) (hsplit : c.exceptionTable.toList = pre ++ x :: suf)
    (hpass : ∀ z ∈ pre, covers z pc = false ∨ (z.catchType ≠ 0 ∧ ∃ nm : String, (Cond.classLink own z.catchType nm).before args s = true ∧ va_Nc E nm s)) (hx : covers x pc = true) (h0 : x.catchType ≠ 0)
    (hlink : (Cond.classLink own x.catchType name).before args s = true) (hcast : (Cond.castable E name).before args s = true) (hcell : H[q]? = some ce) (hv : ce.vm = .none) (hcl : s.vm.findClass E = some ce.cls)
    (kk : W p l e R s m args below meth c H locs cells slots Q (F0 m x.handlerPc ls [.ref q])) : vx_W p l e R s m args below meth c H locs cells slots Q (F0 m pc ls rest) q := by
  intro T hT X
  have hpl : e.platform.magicAccessors = ({} : Platform).magicAccessors := by rw [X.admits.platform]
  obtain ⟨c3, c4, hc3, hc4, hasg⟩ := Cond.castable_spec hcast
  cases Option.some.inj (hc3.symm.trans hcl)
  obtain ⟨c5, hc5, hcl5⟩ := Cond.classLink_spec hown hlink e.platform hpl
  cases Option.some.inj (hc4.symm.trans hc5)
  obtain ⟨vm', X', st⟩ := X.thenCaughtThrough q (g := F0 m pc ls rest) rfl (Steps.refl _) (by rw [hT]; exact hcell) (by rw [hv]; rfl) (by obtain ⟨k9, h9, -⟩ := Vm.findClass_spec hcl; exact ⟨k9, h9⟩) pre x suf hsplit
    (fun z hz => by
      rcases hpass z hz with h | ⟨hz0, nm, hl1, hn1⟩
      · exact Or.inl h
      · obtain ⟨c6, hc6, hcl6⟩ := Cond.classLink_spec hown hl1 e.platform hpl
        obtain ⟨a8, b8, h1, h2, h3⟩ := hn1
        cases Option.some.inj (h1.symm.trans hcl)
        cases Option.some.inj (h2.symm.trans hc6)
        exact Or.inr ⟨hz0, _, hcl6, h3⟩) hx (Or.inr ⟨h0, c4, hcl5, hasg⟩)
  obtain ⟨t, a1, b1⟩ := kk (T.setVm vm') hT X'
  exact ⟨t, st.trans a1, b1⟩
end Rows
section Ends
variable {p : Program} {l : Launch} {e : Env} {R : Room} {s : State} {m : MethodId} {args : Array Value} {below : List Frame} {meth : Method} {c : Code} {H : Heap} {locs : List Loc} {cells slots : Nat} {Q : State → Prop}
variable {mc ms : Nat} {free : Addr → Prop} {A0 A1 : Nat → Prop} {H0 : Heap} {a : Array Value} {ls : Array Slot} {st0 rest : List Value}
variable {Qc : Array Value → State → Outcome → State → Prop} {XC : String → State → State → Prop}
/-- what a body that may throw owes at its end -/
def vx_MQ (below : List Frame) (Qc : Array Value → State → Outcome → State → Prop) (XC : String → State → State → Prop) (a : Array Value) (s : State) (mc ms : Nat) (free : Addr → Prop) : State → Prop := fun t =>
  ∃ o, t.status = .running ∧ Ended t below o ∧ vx_Q Qc XC mc ms free a s o t
theorem vx_ret {g : JFrame} {mc ms : Nat} (k : W p l e R s m args below meth c H locs cells slots (MQ below Qc args s mc ms free) g) : W p l e R s m args below meth c H locs cells slots (vx_MQ below Qc XC args s mc ms free) g := by
  intro T hT X
  obtain ⟨t, a1, o, b1, b2, b3, b4⟩ := k T hT X
  exact ⟨t, a1, o, b1, b2, Or.inl ⟨b3, b4⟩⟩
/-- not caught here: it goes on to the caller -/
theorem vx_widen {g : JFrame} {q : Addr} {k n : Nat} (h1 : cells ≤ k) (h2 : slots ≤ n) (kk : vx_W p l e R s m args below meth c H locs k n Q g q) : vx_W p l e R s m args below meth c H locs cells slots Q g q := fun T hT X => kk T hT (stand_widen X h1 h2)
theorem vx_out {pc : Nat} {E : String} {ce : Cell} {q : Addr} {mc ms : Nat} (hout : ∀ x ∈ c.exceptionTable.toList, covers x pc = false) (hlocks : meth.locks = false) (hcell : H[q]? = some ce) (hv : ce.vm = .none) (hcl : s.vm.findClass E = some ce.cls)
    (hx : ∀ t : State, t.heap = H → s.vm.Alike t.vm → XC E s t) (hf : ∀ z ∈ locs, free z.base) (hc : cells ≤ mc) (hs : slots ≤ ms) :
    vx_W p l e R s m args below meth c H locs cells slots (vx_MQ below Qc XC args s mc ms free) (F0 m pc ls rest) q := by
  intro T hT X
  obtain ⟨st1, hrun, hend, hW, hsm⟩ := X.leaveThrown q (g := F0 m pc ls rest) rfl rfl rfl hout hlocks
  have hcell9 : (T.setFrames (.throwing q :: below)).heap[q]? = some ce := by
    show T.heap[q]? = some ce
    rw [hT]; exact hcell
  exact ⟨_, st1, .threw q, hrun, hend, Or.inr ⟨q, rfl, E, ce, locs, hx _ hT hW.alike, hcell9, hv, hcl, hW, hsm.mono hc hs, hf⟩⟩
theorem vx_frame {U : State} {k n : Nat} (h : s.sameButNew ({ U with vm := s.vm } : State) locs k n) : s.heap.size ≤ U.heap.size ∧ ∀ q : Nat, q < s.heap.size → (∀ z ∈ locs, z.base ≠ q) → U.heap[q]? = s.heap[q]? := by
  obtain ⟨-, h2, -, -, -, h6⟩ := h
  refine ⟨h2, fun q hq hz => ?_⟩
  obtain ⟨c9, e1, e2, e3, e4⟩ := h6 q _ (Array.getElem?_eq_getElem hq)
  have hs : c9.slots = (s.heap[q]).slots := Array.ext_getElem? fun i => e4 i fun hm => hz _ hm rfl
  have h9 : c9 = s.heap[q] := by
    rw [hs] at e2
    exact e2
  have e5 : U.heap[q]? = some c9 := e1
  rw [e5, h9, Array.getElem?_eq_getElem hq]
/-- the words of a throw but the four that speak of the heap -/
def vx_no (w : Cond) : Bool := decide (w ≠ .isRef (.static Bundle.tN "UNASSIGNED_STACK" Bundle.steD)) && decide (w ≠ .isRef (.static Bundle.tN "SUPPRESSED_SENTINEL" Bundle.listD)) && decide (w ≠ .laysStatic Bundle.tN "UNASSIGNED_STACK" Bundle.steD) && decide (w ≠ .laysStatic Bundle.tN "SUPPRESSED_SENTINEL" Bundle.listD)
def vx_at0 (own : String) (ic : Nat) (X : String) (names : List String) : List Cond := (Bundle.ownAtoms0 own ic X names).filter vx_no
def vx_atS (own : String) (ic : Nat) (X : String) (names : List String) : List Cond := (Bundle.ownAtoms own ic X names).filter vx_no
/-- a word that the tables alone decide, or a good one -/
def vx_ot (w : Cond) : Bool := w.onTables || goodWord w
theorem vx_ot_at {args a' : Array Value} {s U : State} {w : Cond} (hW : s.WarmedH U.vm) (hvm : s.vm = U.vm) (hg : vx_ot w = true) (h : w.before args s = true) : w.before a' U = true := by
  simp only [vx_ot, Bool.or_eq_true] at hg
  rcases hg with hg | hg
  · exact va_tabs hg hvm h
  · exact word_at hW (good_of_word hg) h
/-- a list's words: the good ones out of the method's own list, the others by premises of their own -/
theorem vx_hat {args : Array Value} {s : State} {L B : List Cond} (h1 : ∀ w ∈ L.filter goodWord, w.before args s = true) (h2 : ∀ w ∈ L.filter (fun w => !goodWord w), w ∈ B) (h3 : ∀ w ∈ B, w.before args s = true) : ∀ w ∈ L, w.before args s = true := by
  intro w hw
  by_cases g : goodWord w = true
  · exact h1 w (List.mem_filter.mpr ⟨hw, g⟩)
  · refine h3 w (h2 w (List.mem_filter.mpr ⟨hw, ?_⟩))
    show (!goodWord w) = true
    cases hgw : goodWord w
    · rfl
    · exact absurd hgw g
theorem vx_c {args : Array Value} {s : State} {w : Cond} {B : List Cond} (h : w.before args s = true) (t : ∀ w ∈ B, w.before args s = true) : ∀ w' ∈ w :: B, w'.before args s = true := fun w' h' => (List.mem_cons.mp h').elim (fun e => by rw [e]; exact h) (t w')
theorem vx_n {args : Array Value} {s : State} : ∀ w ∈ ([] : List Cond), w.before args s = true := fun _ h => nomatch h
theorem vx_own {args : Array Value} {s : State} {L : List Cond} (h1 : ∀ w ∈ L.filter vx_no, w.before args s = true)
    (hU : (Cond.isRef (.static Bundle.tN "UNASSIGNED_STACK" Bundle.steD)).before args s = true) (hN : (Cond.isRef (.static Bundle.tN "SUPPRESSED_SENTINEL" Bundle.listD)).before args s = true)
    (lU : (Cond.laysStatic Bundle.tN "UNASSIGNED_STACK" Bundle.steD).before args s = true) (lN : (Cond.laysStatic Bundle.tN "SUPPRESSED_SENTINEL" Bundle.listD).before args s = true) : ∀ w ∈ L, w.before args s = true := by
  intro w hw
  by_cases e1 : w = .isRef (.static Bundle.tN "UNASSIGNED_STACK" Bundle.steD)
  · rw [e1]; exact hU
  · by_cases e2 : w = .isRef (.static Bundle.tN "SUPPRESSED_SENTINEL" Bundle.listD)
    · rw [e2]; exact hN
    · by_cases e3 : w = .laysStatic Bundle.tN "UNASSIGNED_STACK" Bundle.steD
      · rw [e3]; exact lU
      · by_cases e4 : w = .laysStatic Bundle.tN "SUPPRESSED_SENTINEL" Bundle.listD
        · rw [e4]; exact lN
        · exact h1 w (List.mem_filter.mpr ⟨hw, by unfold vx_no; rw [decide_eq_true e1, decide_eq_true e2, decide_eq_true e3, decide_eq_true e4]; rfl⟩)
/-- where a static field lies, its class's statics cell in H -/
def vx_L (C n d : String) (A : Nat → Prop) (U : State) (H : Heap) : Prop := ∃ (c : ClassId) (k : Class) (i : Nat) (f : Field) (a : Nat) (cell : Cell), U.vm.findClass C = some c ∧ U.fieldFound? C n d = some (c, k, i, f) ∧ f.isStatic = true ∧ k.statics = some a ∧ H[a]? = some cell ∧ cell.vm.isStatics = true ∧ cell.cls = c ∧ f.slot < cell.slots.size ∧ k.staticTypes[f.slot]? = some f.type ∧ ¬ A a
theorem vx_L.moved {C n d : String} {A : Nat → Prop} {u U : State} {H : Heap} (hvm : u.vm.Alike U.vm) (h : vx_L C n d A u H) : vx_L C n d A U H := by
  obtain ⟨c, k, i, f, a, cell, h1, h2, h3, h4, h5, h6, h7, h8, h9, h10⟩ := h
  obtain ⟨k', hi', he⟩ := State.fieldFound?_setVm hvm h2
  exact ⟨c, k', i, f, a, cell, by rw [hvm.findClass]; exact h1, hi', h3, by rw [he]; exact h4, h5, h6, h7, h8, by rw [he]; exact h9, h10⟩
theorem vx_L.kept {C n d : String} {A : Nat → Prop} {U : State} {H H1 : Heap} (h : vx_L C n d A U H) (hq : ∀ a : Nat, a < H.size → ¬ A a → H1[a]? = H[a]?) : vx_L C n d A U H1 := by
  obtain ⟨c, k, i, f, a, cell, h1, h2, h3, h4, h5, h6, h7, h8, h9, h10⟩ := h
  exact ⟨c, k, i, f, a, cell, h1, h2, h3, h4, by rw [hq a (Array.getElem?_eq_some_iff.mp h5).1 h10]; exact h5, h6, h7, h8, h9, h10⟩
theorem vx_L.narrow {C n d : String} {A B : Nat → Prop} {U : State} {H : Heap} (h : vx_L C n d A U H) (hAB : ∀ q, B q → A q) : vx_L C n d B U H := by
  obtain ⟨c, k, i, f, a, cell, h1, h2, h3, h4, h5, h6, h7, h8, h9, h10⟩ := h
  exact ⟨c, k, i, f, a, cell, h1, h2, h3, h4, h5, h6, h7, h8, h9, fun z => h10 (hAB _ z)⟩
theorem vx_L.word {C n d : String} {A : Nat → Prop} {s : State} {args : Array Value} (h : vx_L C n d A s s.heap) : (Cond.laysStatic C n d).before args s = true := by
  obtain ⟨c, k, i, f, a, cell, h1, h2, h3, h4, h5, h6, h7, h8, h9, -⟩ := h
  show (Cond.laysStatic C n d).holds args s none s [] = true
  exact Cond.laysStatic_of h1 h2 h3 h4 h5 h6 h7 h8 h9
/-- .. and what it holds: null or some reference -/
def vx_Zq (C n d : String) (A : Nat → Prop) (U : State) (H : Heap) : Prop := va_Zq C n d A U H ∧ vx_L C n d A U H
theorem vx_Zq.moved {C n d : String} {A : Nat → Prop} {u U : State} {H : Heap} (hvm : u.vm.Alike U.vm) (h : vx_Zq C n d A u H) : vx_Zq C n d A U H := ⟨va_Zq.moved hvm h.1, vx_L.moved hvm h.2⟩
theorem vx_Zq.kept {C n d : String} {A : Nat → Prop} {U : State} {H H1 : Heap} (h : vx_Zq C n d A U H) (hq : ∀ a : Nat, a < H.size → ¬ A a → H1[a]? = H[a]?) : vx_Zq C n d A U H1 := ⟨va_Zq.kept h.1 hq, vx_L.kept h.2 hq⟩
theorem vx_Zq.narrow {C n d : String} {A B : Nat → Prop} {U : State} {H : Heap} (h : vx_Zq C n d A U H) (hAB : ∀ q, B q → A q) : vx_Zq C n d B U H := ⟨va_Zq.narrow h.1 hAB, vx_L.narrow h.2 hAB⟩
theorem vx_Zqof {args : Array Value} {s : State} {C n d : String} {A : Nat → Prop} (hl : (Cond.laysStatic C n d).before args s = true) (hini : (Cond.initialized C).before args s = true) (h : (Cond.isRef (.static C n d)).before args s = true) (hA : ∀ a : Nat, a < s.heap.size → ¬ A a) : vx_Zq C n d A s s.heap := by
  refine ⟨va_Zqof hl hini h hA, ?_⟩
  obtain ⟨c, k, i, f, a, cell, h1, h2, h3, h4, h5, h6, h7, h8, h9⟩ := Cond.laysStatic_spec hl
  exact ⟨c, k, i, f, a, cell, h1, h2, h3, h4, h5, h6, h7, h8, h9, hA a (Array.getElem?_eq_some_iff.mp h5).1⟩
theorem vx_isRef {C n d : String} {v : Value} {A : Nat → Prop} {s : State} {args : Array Value} (h : va_Z C n d v A s s.heap) (hv : v.isRef = true) : (Cond.isRef (.static C n d)).before args s = true := by
  obtain ⟨cf, kf, fi, f, a, cell, h1, h2, h3, h4, h5, h6, h7, -⟩ := h
  have he : (Term.static C n d).eval args s none [] s = some v := by
    simp [Term.eval, State.fieldNamed?, h1, h2, h4, h5, h6, h7]
  simp only [Cond.before, Cond.holds, Cond.value, he]
  cases v <;> simp_all [Value.isRef]
theorem vx_isRefq {C n d : String} {A : Nat → Prop} {s : State} {args : Array Value} (h : va_Zq C n d A s s.heap) : (Cond.isRef (.static C n d)).before args s = true := by
  rcases h with h | ⟨t, h⟩
  · exact vx_isRef h rfl
  · exact vx_isRef h rfl
/-- the same frame, seen from here: as if the method were called anew in this heap -/
theorem vx_rebase {T : State} (X : Stand p l e R s m args below meth c T locs cells slots) {R' : Room} (hf : R'.frames ≤ R.frames) (hl : R'.locals ≤ R.locals) (hc : cells + R'.cells ≤ R.cells) (hs : slots + R'.slots ≤ R.slots) :
    Stand p l e R' ((T.setVm s.vm).setFrames (.invoking m args :: below)) m args below meth c T [] 0 0 := by
  have htop : (T.setVm s.vm).topJava?.isSome := X.here.top
  have hF : ((T.setVm s.vm).setFrames (.invoking m args :: below)).frames = .invoking m args :: below := State.frames_setFrames _ (State.cur_lt_of_top htop)
  obtain ⟨g₀, hg0⟩ := Option.isSome_iff_exists.mp htop
  obtain ⟨r, hr⟩ := State.topJava?_eq_some.mp hg0
  have hl9 : e.platform.stackLimits (T.setVm s.vm).me = e.platform.stackLimits s.me := X.limits
  have hb9 : (T.setVm s.vm).me.stackBytes = s.me.stackBytes := X.bytes
  refine ⟨X.admits, X.cas, X.clock, hF, ?_, X.hears, X.method, X.code, X.here, X.tail, X.warmed, ?_, ?_, ?_⟩
  · have h := X.room
    have hU : ((T.setVm s.vm).setFrames (.invoking m args :: below)).localsInUse = s.localsInUse := by
      rw [State.localsInUse_invoking hF (meth := meth) (c := c) X.method X.code, State.localsInUse_invoking X.frames X.method X.code]
    simp only [State.hasRoom, Bool.and_eq_true, decide_eq_true_eq] at h ⊢
    obtain ⟨⟨⟨⟨h1, h2, h3, h4, h5, h6⟩, h7⟩, h8⟩, h9⟩ := h
    rw [X.frames, List.length_cons] at h2 h3
    have q1 := X.heapSize
    have q2 := X.used
    simp only [hF, hU, List.length_cons, State.stackLimits_setFrames, State.stackBytes_setFrames, hl9, hb9]
    refine ⟨⟨⟨⟨by omega, by omega, by omega, by omega, by omega, h6⟩, ?_⟩, ?_⟩, X.book⟩
    · show T.heap.size + R'.cells ≤ e.platform.maxCells
      omega
    · show T.slotsUsed + R'.slots ≤ e.platform.maxSlots
      omega
  · rw [State.stackLimits_setFrames]; rfl
  · rw [State.stackBytes_setFrames]; rfl
  · refine ⟨?_, Nat.le_refl _, Nat.le_refl _, ?_, ?_, fun a c9 h9 => ⟨c9, h9, rfl, rfl, fun _ _ => rfl⟩⟩
    · obtain ⟨t, ht, -⟩ := State.frames_cons hr
      show T.setVm s.vm = { ((T.setVm s.vm).setFrames (.invoking m args :: below)).setFrames (T.setVm s.vm).frames with heap := T.heap, slotsUsed := T.slotsUsed }
      rw [State.setFrames_setFrames, State.setFrames_self ht]
      rfl
    · show T.slotsUsed = T.slotsUsed + ((T.heap.toList.drop T.heap.size).map (·.slots.size)).sum
      rw [List.drop_eq_nil_of_le (Nat.le_of_eq Array.length_toList)]
      rfl
    · show ((T.heap.toList.drop T.heap.size).map (·.slots.size)).sum ≤ 0
      rw [List.drop_eq_nil_of_le (Nat.le_of_eq Array.length_toList)]
      exact Nat.le_refl _
/-- 'throw new E()': new; dup; invokespecial; athrow -/
theorem vx_throw0 {cc : ByteArray} {pc : Nat} (hexec : p.tables.exec = Jvm.exec) (hb : c.code = cc) (hl : l.stackTraces = false) {own cls : String} {names : List String} {ik ic mc ms : Nat} {A : Nat → Prop}
    (hown : s.vm.findClass own = some m.cls) (hcls : Bundle.fit cls = true) (hnames : ∀ n ∈ names, Bundle.fit n = true)
    (hk : (Cond.classLink own ik cls).before args s = true) (hini : (Cond.initialized cls).before args s = true) (hat : ∀ w ∈ vx_at0 own ic cls names, w.before args s = true)
    (hgood : ∀ w ∈ Cond.classLink own ik cls :: Cond.initialized cls :: vx_at0 own ic cls names, vx_ot w = true)
    (hU : vx_Zq Bundle.tN "UNASSIGNED_STACK" Bundle.steD A s s.heap) (hN : vx_Zq Bundle.tN "SUPPRESSED_SENTINEL" Bundle.listD A s s.heap) (hS : va_S A s.heap H locs) (hsize : ls.size = c.maxLocals)
    (d0 : decode cc pc = .ok (.new ik, 3)) (d3 : decode cc (pc + 3) = .ok (.dup, 1)) (d4 : decode cc (pc + 4) = .ok (.invokespecial ic, 3)) (d7 : decode cc (pc + 7) = .ok (.athrow, 1))
    (hout : ∀ x ∈ c.exceptionTable.toList, covers x (pc + 7) = false)
    (hRframes : names.length + 3 < R.frames) (hRlocals : (rest.map fun v => v.category).sum + (13 * (names.length + 1) + 42) ≤ R.locals) (hRcells : cells + 1 ≤ R.cells) (hRslots : slots + 6 ≤ R.slots) (hlocks : meth.locks = false)
    (hx : ∀ t : State, s.vm.Alike t.vm → H.size ≤ t.heap.size → (∀ q : Nat, q < H.size → t.heap[q]? = H[q]?) → XC cls s t)
    (hf : ∀ z ∈ locs, free z.base) (hc : cells + 1 ≤ mc) (hs : slots + 6 ≤ ms) :
    W p l e R s m args below meth c H locs cells slots (vx_MQ below Qc XC args s mc ms free) (F0 m pc ls rest) := by
  intro T hT X
  have htr : e.platform.stackTraces = false := (show e.platform.stackTraces = l.stackTraces by rw [X.admits.platform]).trans hl
  have Y := vx_rebase X (R' := { frames := R.frames, locals := R.locals, cells := 1, slots := 6 }) (Nat.le_refl _) (Nat.le_refl _) hRcells hRslots
  obtain ⟨s', hA⟩ : ∃ z, z = (T.setVm s.vm).setFrames (.invoking m args :: below) := ⟨_, rfl⟩
  rw [← hA] at Y
  have hvm : s'.vm = s.vm := by rw [hA]; rfl
  have hhp : s'.heap = H := by rw [hA]; exact hT
  have hW0 : s.WarmedH s'.vm := by rw [hvm]; exact State.WarmedH.refl s
  have hat' : ∀ w ∈ vx_at0 own ic cls names, w.before args s' = true := fun w hw => vx_ot_at hW0 hvm.symm (hgood w (List.mem_cons_of_mem _ (List.mem_cons_of_mem _ hw))) (hat w hw)
  have hk' : (Cond.classLink own ik cls).before args s' = true := vx_ot_at hW0 hvm.symm (hgood _ List.mem_cons_self) hk
  have hini' : (Cond.initialized cls).before args s' = true := vx_ot_at hW0 hvm.symm (hgood _ (List.mem_cons_of_mem _ List.mem_cons_self)) hini
  have hU' : vx_Zq Bundle.tN "UNASSIGNED_STACK" Bundle.steD A s' s'.heap := by rw [hhp]; exact vx_Zq.moved hW0.alike (hU.kept hS.2.1)
  have hN' : vx_Zq Bundle.tN "SUPPRESSED_SENTINEL" Bundle.listD A s' s'.heap := by rw [hhp]; exact vx_Zq.moved hW0.alike (hN.kept hS.2.1)
  have h : ∀ w ∈ Bundle.ownAtoms0 own ic cls names, w.before args s' = true := vx_own hat' (vx_isRefq hU'.1) (vx_isRefq hN'.1) hU'.2.word hN'.2.word
  have hown' : s'.vm.findClass own = some m.cls := by rw [hvm]; exact hown
  have hins : (Cond.instantiable cls 6).before args s' = true := h _ (by simp [Bundle.ownAtoms0])
  obtain ⟨vm₁, cX, kX, hfX, hkX, -, -, X₁, st1⟩ := Y.newCold hexec (own := own) (C := cls) (index := ik) (n := 6) hown' hk' hins hini'
    (g := F0 m pc ls rest) rfl (by rw [hb]; exact d0) (Nat.le_refl _) (Nat.le_refl _)
  generalize hT1 : (T.setVm vm₁).pushCell { cls := cX, slots := kX.instanceTypes.map defaultValue, vm := .none } = T1 at X₁ st1
  have hcat : (Value.ref T.heap.size).category = 1 := rfl
  have hcellA : T1.heap[T.heap.size]? = some (freshCell cX kX) := by rw [← hT1]; exact State.heap_pushCell_size _ _
  have d3' : decode c.code (pc + 3) = .ok (.dup, 1) := by rw [hb]; exact d3
  obtain ⟨U, hsteps, hrun, hend, hW, hsame, ce, hce, hO⟩ := X₁.ctorThrow0 hexec htr (own := own) (cls := cls) (names := names) (ic := ic) hown' hcls hnames h (fun x hx => nomatch hx) hfX hkX hcellA (by rw [hhp, hT]; exact Nat.le_refl _)
    (g := { method := m, pc := pc + 4, locals := ls, stack := .ref T.heap.size :: .ref T.heap.size :: rest, locked := none }) rfl hsize rfl rfl (rest := rest) rfl
    (by rw [hb]; exact d4) (by rw [hb]; exact d7) hout hRframes (by simp only [List.map_cons, List.sum_cons, hcat]; omega) hlocks
  obtain ⟨f1, f2⟩ := vx_frame hsame
  rw [hhp] at f1 f2
  have hWs : s.WarmedH U.vm := State.WarmedH.trans hW0 hW
  have hcl : s.vm.findClass cls = some ce.cls := by
    have h9 := hO.cls
    rw [hvm] at h9
    exact h9
  have hall : s.sameButNew ({ U with vm := s.vm } : State) locs mc ms := by
    subst hA
    obtain ⟨e1, e2⟩ := hsame
    rw [State.setFrames_setFrames] at e1
    have h2 : (T.setVm s.vm).sameButNew ({ U with vm := s.vm } : State) [] (0 + 1) (0 + 6) := ⟨e1, e2⟩
    have h3 := X.same.trans h2
    rw [List.append_nil] at h3
    exact h3.mono hc hs
  refine ⟨U, ?_, .threw T.heap.size, hrun, hend, Or.inr ⟨T.heap.size, rfl, cls, ce, locs, hx U hWs.alike f1 (fun q hq => f2 q hq (fun z hz => nomatch hz)), hce, hO.vm, hcl, hWs, hall, hf⟩⟩
  refine st1 _ ?_
  show Steps p.tables e below (T1.setTop { method := m, pc := pc + 3, locals := ls, stack := .ref T.heap.size :: rest, locked := none }) _
  jvm_step X₁.here [X₁.here.top, hexec, d3', Value.category]
  exact hsteps
/-- 'throw new E("text")': new; dup; ldc; invokespecial; athrow -/
theorem vx_throwS {cc : ByteArray} {pc : Nat} (hexec : p.tables.exec = Jvm.exec) (hb : c.code = cc) (hl : l.stackTraces = false) {own cls text : String} {names : List String} {ik is ic mc ms sa : Nat} {A : Nat → Prop}
    (hown : s.vm.findClass own = some m.cls) (hcls : Bundle.fit cls = true) (hnames : ∀ n ∈ names, Bundle.fit n = true)
    (hk : (Cond.classLink own ik cls).before args s = true) (hini : (Cond.initialized cls).before args s = true) (hstr : vk_R own is text sa s) (hat : ∀ w ∈ vx_atS own ic cls names, w.before args s = true)
    (hgood : ∀ w ∈ Cond.classLink own ik cls :: Cond.initialized cls :: vx_atS own ic cls names, vx_ot w = true)
    (hU : vx_Zq Bundle.tN "UNASSIGNED_STACK" Bundle.steD A s s.heap) (hN : vx_Zq Bundle.tN "SUPPRESSED_SENTINEL" Bundle.listD A s s.heap) (hS : va_S A s.heap H locs) (hsize : ls.size = c.maxLocals)
    (d0 : decode cc pc = .ok (.new ik, 3)) (d3 : decode cc (pc + 3) = .ok (.dup, 1)) (d4 : decode cc (pc + 4) = .ok (.ldc is, 2)) (d6 : decode cc (pc + 6) = .ok (.invokespecial ic, 3)) (d9 : decode cc (pc + 9) = .ok (.athrow, 1))
    (hout : ∀ x ∈ c.exceptionTable.toList, covers x (pc + 9) = false)
    (hRframes : names.length + 3 < R.frames) (hRlocals : (rest.map fun v => v.category).sum + (13 * (names.length + 1) + 43) ≤ R.locals) (hRcells : cells + 1 ≤ R.cells) (hRslots : slots + 6 ≤ R.slots) (hlocks : meth.locks = false)
    (hx : ∀ t : State, s.vm.Alike t.vm → H.size ≤ t.heap.size → (∀ q : Nat, q < H.size → t.heap[q]? = H[q]?) → XC cls s t)
    (hf : ∀ z ∈ locs, free z.base) (hc : cells + 1 ≤ mc) (hs : slots + 6 ≤ ms) :
    W p l e R s m args below meth c H locs cells slots (vx_MQ below Qc XC args s mc ms free) (F0 m pc ls rest) := by
  intro T hT X
  have htr : e.platform.stackTraces = false := (show e.platform.stackTraces = l.stackTraces by rw [X.admits.platform]).trans hl
  have Y := vx_rebase X (R' := { frames := R.frames, locals := R.locals, cells := 1, slots := 6 }) (Nat.le_refl _) (Nat.le_refl _) hRcells hRslots
  obtain ⟨s', hA⟩ : ∃ z, z = (T.setVm s.vm).setFrames (.invoking m args :: below) := ⟨_, rfl⟩
  rw [← hA] at Y
  have hvm : s'.vm = s.vm := by rw [hA]; rfl
  have hhp : s'.heap = H := by rw [hA]; exact hT
  have hW0 : s.WarmedH s'.vm := by rw [hvm]; exact State.WarmedH.refl s
  have hat' : ∀ w ∈ vx_atS own ic cls names, w.before args s' = true := fun w hw => vx_ot_at hW0 hvm.symm (hgood w (List.mem_cons_of_mem _ (List.mem_cons_of_mem _ hw))) (hat w hw)
  have hk' : (Cond.classLink own ik cls).before args s' = true := vx_ot_at hW0 hvm.symm (hgood _ List.mem_cons_self) hk
  have hini' : (Cond.initialized cls).before args s' = true := vx_ot_at hW0 hvm.symm (hgood _ (List.mem_cons_of_mem _ List.mem_cons_self)) hini
  have hU' : vx_Zq Bundle.tN "UNASSIGNED_STACK" Bundle.steD A s' s'.heap := by rw [hhp]; exact vx_Zq.moved hW0.alike (hU.kept hS.2.1)
  have hN' : vx_Zq Bundle.tN "SUPPRESSED_SENTINEL" Bundle.listD A s' s'.heap := by rw [hhp]; exact vx_Zq.moved hW0.alike (hN.kept hS.2.1)
  have h : ∀ w ∈ Bundle.ownAtoms own ic cls names, w.before args s' = true := vx_own hat' (vx_isRefq hU'.1) (vx_isRefq hN'.1) hU'.2.word hN'.2.word
  have hown' : s'.vm.findClass own = some m.cls := by rw [hvm]; exact hown
  have hins : (Cond.instantiable cls 6).before args s' = true := h _ (by simp [Bundle.ownAtoms])
  obtain ⟨vm₁, cX, kX, hfX, hkX, -, -, X₁, st1⟩ := Y.newCold hexec (own := own) (C := cls) (index := ik) (n := 6) hown' hk' hins hini'
    (g := F0 m pc ls rest) rfl (by rw [hb]; exact d0) (Nat.le_refl _) (Nat.le_refl _)
  generalize hT1 : (T.setVm vm₁).pushCell { cls := cX, slots := kX.instanceTypes.map defaultValue, vm := .none } = T1 at X₁ st1
  have hcat : (Value.ref T.heap.size).category = 1 := rfl
  have hcellA : T1.heap[T.heap.size]? = some (freshCell cX kX) := by rw [← hT1]; exact State.heap_pushCell_size _ _
  have d3' : decode c.code (pc + 3) = .ok (.dup, 1) := by rw [hb]; exact d3
  have d4' : decode c.code (pc + 4) = .ok (.ldc is, 2) := by rw [hb]; exact d4
  have hstr' : vk_R own is text sa s' := vk_R.warm hW0 hstr
  obtain ⟨U, hsteps, hrun, hend, hW, hsame, ce, hce, hO⟩ := X₁.ctorThrowS hexec htr (own := own) (cls := cls) (names := names) (ic := ic) hown' hcls hnames h (fun x hx => nomatch hx) hfX hkX hcellA (by rw [hhp, hT]; exact Nat.le_refl _) (msg := .ref sa) rfl
    (g := { method := m, pc := pc + 6, locals := ls, stack := .ref sa :: .ref T.heap.size :: .ref T.heap.size :: rest, locked := none }) rfl hsize rfl rfl (rest := rest) rfl
    (by rw [hb]; exact d6) (by rw [hb]; exact d9) hout hRframes (by simp only [List.map_cons, List.sum_cons, hcat]; omega) hlocks
  obtain ⟨f1, f2⟩ := vx_frame hsame
  rw [hhp] at f1 f2
  have hWs : s.WarmedH U.vm := State.WarmedH.trans hW0 hW
  have hcl : s.vm.findClass cls = some ce.cls := by
    have h9 := hO.cls
    rw [hvm] at h9
    exact h9
  have hall : s.sameButNew ({ U with vm := s.vm } : State) locs mc ms := by
    subst hA
    obtain ⟨e1, e2⟩ := hsame
    rw [State.setFrames_setFrames] at e1
    have h2 : (T.setVm s.vm).sameButNew ({ U with vm := s.vm } : State) [] (0 + 1) (0 + 6) := ⟨e1, e2⟩
    have h3 := X.same.trans h2
    rw [List.append_nil] at h3
    exact h3.mono hc hs
  refine ⟨U, ?_, .threw T.heap.size, hrun, hend, Or.inr ⟨T.heap.size, rfl, cls, ce, locs, hx U hWs.alike f1 (fun q hq => f2 q hq (fun z hz => nomatch hz)), hce, hO.vm, hcl, hWs, hall, hf⟩⟩
  refine st1 _ ?_
  show Steps p.tables e below (T1.setTop { method := m, pc := pc + 3, locals := ls, stack := .ref T.heap.size :: rest, locked := none }) _
  jvm_step X₁.here [X₁.here.top, hexec, d3', Value.category]
  exact X₁.ldcString hexec (own := own) (text := text) (index := is) (a := sa) hown' hstr'.1 hstr'.2
    (g := { method := m, pc := pc + 4, locals := ls, stack := .ref T.heap.size :: .ref T.heap.size :: rest, locked := none }) rfl d4' _ hsteps
/-- 'throw new E("text")', the text by a wide index -/
theorem vx_throwSW {cc : ByteArray} {pc : Nat} (hexec : p.tables.exec = Jvm.exec) (hb : c.code = cc) (hl : l.stackTraces = false) {own cls text : String} {names : List String} {ik is ic mc ms sa : Nat} {A : Nat → Prop}
    (hown : s.vm.findClass own = some m.cls) (hcls : Bundle.fit cls = true) (hnames : ∀ n ∈ names, Bundle.fit n = true)
    (hk : (Cond.classLink own ik cls).before args s = true) (hini : (Cond.initialized cls).before args s = true) (hstr : vk_R own is text sa s) (hat : ∀ w ∈ vx_atS own ic cls names, w.before args s = true)
    (hgood : ∀ w ∈ Cond.classLink own ik cls :: Cond.initialized cls :: vx_atS own ic cls names, vx_ot w = true)
    (hU : vx_Zq Bundle.tN "UNASSIGNED_STACK" Bundle.steD A s s.heap) (hN : vx_Zq Bundle.tN "SUPPRESSED_SENTINEL" Bundle.listD A s s.heap) (hS : va_S A s.heap H locs) (hsize : ls.size = c.maxLocals)
    (d0 : decode cc pc = .ok (.new ik, 3)) (d3 : decode cc (pc + 3) = .ok (.dup, 1)) (d4 : decode cc (pc + 4) = .ok (.ldc_w is, 3)) (d7 : decode cc (pc + 7) = .ok (.invokespecial ic, 3)) (d10 : decode cc (pc + 10) = .ok (.athrow, 1))
    (hout : ∀ x ∈ c.exceptionTable.toList, covers x (pc + 10) = false)
    (hRframes : names.length + 3 < R.frames) (hRlocals : (rest.map fun v => v.category).sum + (13 * (names.length + 1) + 43) ≤ R.locals) (hRcells : cells + 1 ≤ R.cells) (hRslots : slots + 6 ≤ R.slots) (hlocks : meth.locks = false)
    (hx : ∀ t : State, s.vm.Alike t.vm → H.size ≤ t.heap.size → (∀ q : Nat, q < H.size → t.heap[q]? = H[q]?) → XC cls s t)
    (hf : ∀ z ∈ locs, free z.base) (hc : cells + 1 ≤ mc) (hs : slots + 6 ≤ ms) :
    W p l e R s m args below meth c H locs cells slots (vx_MQ below Qc XC args s mc ms free) (F0 m pc ls rest) := by
  intro T hT X
  have htr : e.platform.stackTraces = false := (show e.platform.stackTraces = l.stackTraces by rw [X.admits.platform]).trans hl
  have Y := vx_rebase X (R' := { frames := R.frames, locals := R.locals, cells := 1, slots := 6 }) (Nat.le_refl _) (Nat.le_refl _) hRcells hRslots
  obtain ⟨s', hA⟩ : ∃ z, z = (T.setVm s.vm).setFrames (.invoking m args :: below) := ⟨_, rfl⟩
  rw [← hA] at Y
  have hvm : s'.vm = s.vm := by rw [hA]; rfl
  have hhp : s'.heap = H := by rw [hA]; exact hT
  have hW0 : s.WarmedH s'.vm := by rw [hvm]; exact State.WarmedH.refl s
  have hat' : ∀ w ∈ vx_atS own ic cls names, w.before args s' = true := fun w hw => vx_ot_at hW0 hvm.symm (hgood w (List.mem_cons_of_mem _ (List.mem_cons_of_mem _ hw))) (hat w hw)
  have hk' : (Cond.classLink own ik cls).before args s' = true := vx_ot_at hW0 hvm.symm (hgood _ List.mem_cons_self) hk
  have hini' : (Cond.initialized cls).before args s' = true := vx_ot_at hW0 hvm.symm (hgood _ (List.mem_cons_of_mem _ List.mem_cons_self)) hini
  have hU' : vx_Zq Bundle.tN "UNASSIGNED_STACK" Bundle.steD A s' s'.heap := by rw [hhp]; exact vx_Zq.moved hW0.alike (hU.kept hS.2.1)
  have hN' : vx_Zq Bundle.tN "SUPPRESSED_SENTINEL" Bundle.listD A s' s'.heap := by rw [hhp]; exact vx_Zq.moved hW0.alike (hN.kept hS.2.1)
  have h : ∀ w ∈ Bundle.ownAtoms own ic cls names, w.before args s' = true := vx_own hat' (vx_isRefq hU'.1) (vx_isRefq hN'.1) hU'.2.word hN'.2.word
  have hown' : s'.vm.findClass own = some m.cls := by rw [hvm]; exact hown
  have hins : (Cond.instantiable cls 6).before args s' = true := h _ (by simp [Bundle.ownAtoms])
  obtain ⟨vm₁, cX, kX, hfX, hkX, -, -, X₁, st1⟩ := Y.newCold hexec (own := own) (C := cls) (index := ik) (n := 6) hown' hk' hins hini'
    (g := F0 m pc ls rest) rfl (by rw [hb]; exact d0) (Nat.le_refl _) (Nat.le_refl _)
  generalize hT1 : (T.setVm vm₁).pushCell { cls := cX, slots := kX.instanceTypes.map defaultValue, vm := .none } = T1 at X₁ st1
  have hcat : (Value.ref T.heap.size).category = 1 := rfl
  have hcellA : T1.heap[T.heap.size]? = some (freshCell cX kX) := by rw [← hT1]; exact State.heap_pushCell_size _ _
  have d3' : decode c.code (pc + 3) = .ok (.dup, 1) := by rw [hb]; exact d3
  have d4' : decode c.code (pc + 4) = .ok (.ldc_w is, 3) := by rw [hb]; exact d4
  have hstr' : vk_R own is text sa s' := vk_R.warm hW0 hstr
  obtain ⟨U, hsteps, hrun, hend, hW, hsame, ce, hce, hO⟩ := X₁.ctorThrowS hexec htr (own := own) (cls := cls) (names := names) (ic := ic) hown' hcls hnames h (fun x hx => nomatch hx) hfX hkX hcellA (by rw [hhp, hT]; exact Nat.le_refl _) (msg := .ref sa) rfl
    (g := { method := m, pc := pc + 7, locals := ls, stack := .ref sa :: .ref T.heap.size :: .ref T.heap.size :: rest, locked := none }) rfl hsize rfl rfl (rest := rest) rfl
    (by rw [hb]; exact d7) (by rw [hb]; exact d10) hout hRframes (by simp only [List.map_cons, List.sum_cons, hcat]; omega) hlocks
  obtain ⟨f1, f2⟩ := vx_frame hsame
  rw [hhp] at f1 f2
  have hWs : s.WarmedH U.vm := State.WarmedH.trans hW0 hW
  have hcl : s.vm.findClass cls = some ce.cls := by
    have h9 := hO.cls
    rw [hvm] at h9
    exact h9
  have hall : s.sameButNew ({ U with vm := s.vm } : State) locs mc ms := by
    subst hA
    obtain ⟨e1, e2⟩ := hsame
    rw [State.setFrames_setFrames] at e1
    have h2 : (T.setVm s.vm).sameButNew ({ U with vm := s.vm } : State) [] (0 + 1) (0 + 6) := ⟨e1, e2⟩
    have h3 := X.same.trans h2
    rw [List.append_nil] at h3
    exact h3.mono hc hs
  refine ⟨U, ?_, .threw T.heap.size, hrun, hend, Or.inr ⟨T.heap.size, rfl, cls, ce, locs, hx U hWs.alike f1 (fun q hq => f2 q hq (fun z hz => nomatch hz)), hce, hO.vm, hcl, hWs, hall, hf⟩⟩
  refine st1 _ ?_
  show Steps p.tables e below (T1.setTop { method := m, pc := pc + 3, locals := ls, stack := .ref T.heap.size :: rest, locked := none }) _
  jvm_step X₁.here [X₁.here.top, hexec, d3', Value.category]
  exact X₁.ldcStringW hexec (own := own) (text := text) (index := is) (a := sa) hown' hstr'.1 hstr'.2
    (g := { method := m, pc := pc + 4, locals := ls, stack := .ref T.heap.size :: .ref T.heap.size :: rest, locked := none }) rfl d4' _ hsteps
end Ends
section Bodies
variable {l : Launch}
theorem vx_ofW {y : MethodName} {ws ws' : List Cond} {rm : Room} {Pc : Array Value → State → Prop} {Qc : Array Value → State → Outcome → State → Prop} {XC : String → State → State → Prop} {mc ms : Nat} {free : Addr → Prop} {cc : ByteArray} {maxL : Nat} {ret : Option FieldType}
    (hy : plainName y.cls = true) (hw : ws = Cond.code y cc maxL ret :: ws')
    (body : ∀ p e s m args below meth c s₁, BodyLoose p l y (headSpec ws rm) cc maxL ret e s m args below meth c s₁ → c.maxLocals = maxL → (∀ x ∈ c.exceptionTable.toList, False) → Pc args s →
      W p l e (headSpec ws rm).room s m args below meth c s.heap [] 0 0 (vx_MQ below Qc XC args s mc ms free) (entryFrame m args maxL)) : vx_Met l y ws rm Pc Qc XC mc ms free := by
  refine MetFree.of_bodyS (code := cc) (maxLocals := maxL) (ret := ret) hy ?_ ?_
  · intro args s m h hn
    obtain ⟨meth, c, h1, h2, h3, h4, h5, h6, -, -⟩ := Cond.code_spec hn (atoms_spec (ws := ws) h _ (by rw [hw]; exact List.mem_cons_self))
    exact ⟨meth, c, h1, h2, h3, h4, h5, h6⟩
  · intro p e s m args below meth c s₁ B hml hP _
    have hh0 : s₁.heap = s.heap := by rw [B.state]; rfl
    have ht : ∀ x ∈ c.exceptionTable.toList, False := by
      obtain ⟨meth9, c9, h1, h2, -, -, -, -, h7, -⟩ := Cond.code_spec B.named (atoms_spec (ws := ws) B.pre _ (by rw [hw]; exact List.mem_cons_self))
      cases Option.some.inj (h1.symm.trans B.method)
      cases Option.some.inj (h2.symm.trans (Stand.of_body B).code)
      intro x hx
      rw [Array.isEmpty_iff.mp h7] at hx
      cases hx
    obtain ⟨t, a1, o, b1, b2, b3⟩ := body p e s m args below meth c s₁ B hml ht hP s₁ hh0 (Stand.of_body B)
    exact ⟨t, o, a1, b1, b2, b3⟩
/-- the table of a body with handlers -/
theorem vx_table {p : Program} {x y : MethodName} {S : Spec} {cc bytes : ByteArray} {maxL maxL' : Nat} {ret ret' : Option FieldType} {e : Env} {s s₁ : State} {m : MethodId} {args : Array Value} {below : List Frame} {meth : Method} {c : Code} {hh : List (Nat × Nat × Nat × Nat)}
    (B : BodyLoose p l y S cc maxL ret e s m args below meth c s₁) (h : (Cond.codeWith y bytes maxL' ret' hh).before args s = true) : c.exceptionTable.toList = tableOf hh := by
  obtain ⟨m9, meth9, c9, hn9, h1, h2, -, -, h6, -⟩ := Cond.codeWith_spec h
  cases Option.some.inj (hn9.symm.trans B.named)
  cases Option.some.inj (h1.symm.trans B.method)
  cases Option.some.inj (h2.symm.trans (Stand.of_body B).code)
  rw [← h6, table_eq]
end Bodies
end VXA
/-! ===== END ===== -/
/-! ===== BEGIN a static call of a method with an exception table ===== -/
section VXS
variable {p : Program} {l : Launch} {e : Env} {R : Room} {s : State} {m : MethodId} {args : Array Value} {below : List Frame} {meth : Method} {c : Code} {T : State} {H : Heap} {locs : List Loc} {cells slots : Nat}
abbrev vx_CSW (R : Room) (s : State) (args : Array Value) (own : String) (index : Nat) (y : MethodName) (bytes : ByteArray) (maxL : Nat) (ret : Option FieldType) (hh : List (Nat × Nat × Nat × Nat)) (ws : List Cond) (rm : Room) (mc ms n : Nat) : Prop :=
  (rm.cells = mc ∧ rm.slots = ms ∧ rm.frames + 1 ≤ R.frames ∧ 8 + (maxL + 11) + rm.locals ≤ R.locals ∧ (∀ w ∈ ws, ∀ (a' : Array Value) (U : State), s.WarmedH U.vm → w.before a' U = true) ∧ Cond.codeWith y bytes maxL ret hh ∈ ws) ∧
  (Cond.codeWith y bytes maxL ret hh).before args s = true ∧ (Cond.initialized y.cls).before args s = true ∧ (y.cls ≠ "java/lang/invoke/MethodHandle" ∧ y.cls ≠ "java/lang/invoke/VarHandle") ∧
  (∀ sig, parseMethodDescriptor y.desc = some sig → n = sig.parameters.length) ∧ (Cond.methodLink own index y).before args s = true ∧ (Cond.static y).before args s = true
theorem vx_cwSW {own : String} {index maxL mc ms : Nat} {y : MethodName} {bytes : ByteArray} {ret : Option FieldType} {hh : List (Nat × Nat × Nat × Nat)} {Ts ws ws' : List Cond} {rm : Room} (n : Nat) (ht : ∀ w ∈ Ts, w.before args s = true) (hT : GoodIn Ts (va_wsS own index y ws)) (hw : ws = Cond.codeWith y bytes maxL ret hh :: ws') (hrc : rm.cells = mc) (hrs : rm.slots = ms)
    (hd : y.cls ≠ "java/lang/invoke/MethodHandle" ∧ y.cls ≠ "java/lang/invoke/VarHandle" ∧ (parseMethodDescriptor y.desc).map (fun d => d.parameters.length) = some n) (hR : rm.frames + 1 ≤ R.frames ∧ 8 + (maxL + 11) + rm.locals ≤ R.locals) :
    vx_CSW R s args own index y bytes maxL ret hh ws rm mc ms n := by
  have ok : ∀ w ∈ va_wsS own index y ws, w.before args s = true := fun w h => ht w (hT w h).1
  have hG : GoodIn Ts ws := fun w h => hT w (by unfold va_wsS; exact List.mem_append_right _ h)
  have hc : Cond.codeWith y bytes maxL ret hh ∈ ws := by rw [hw]; exact List.mem_cons_self
  refine ⟨⟨hrc, hrs, hR.1, hR.2, pay_in ht hG, hc⟩, ht _ (hG _ hc).1, ok _ (by simp [va_wsS]), ⟨hd.1, hd.2.1⟩, fun sig h => ?_, ok _ (by simp [va_wsS]), ok _ (by simp [va_wsS])⟩
  have h2 := hd.2.2
  rw [h] at h2
  exact (Option.some.inj h2).symm
theorem vx_callSW (X : Stand p l e R s m args below meth c T locs cells slots) (hexec : p.tables.exec = Jvm.exec) {own : String} {index : Nat} {y : MethodName} {bytes : ByteArray} {maxL : Nat} {ret : Option FieldType} {hh : List (Nat × Nat × Nat × Nat)}
    (hown : s.vm.findClass own = some m.cls) (hlink : (Cond.methodLink own index y).before args s = true) (hstat : (Cond.static y).before args s = true) (hinit : (Cond.initialized y.cls).before args s = true)
    (hcode : (Cond.codeWith y bytes maxL ret hh).before args s = true) (hy : y.cls ≠ "java/lang/invoke/MethodHandle" ∧ y.cls ≠ "java/lang/invoke/VarHandle")
    {W9 : Nat} {Pre : Pt → Array Value → Prop} {Post : Pt → Array Value → Option Value → Pt → Prop} (hK : Back l R p e below s args y 3 W9 Pre Post)
    {g : JFrame} (hg : g.method = m) (hsize : g.locals.size = c.maxLocals) {argsL rest : List Value} (hlen : ∀ sig, parseMethodDescriptor y.desc = some sig → argsL.length = sig.parameters.length)
    (hstack : g.stack = argsL.reverse ++ rest) (hW : 2 * g.monitorRoom + (rest.map fun v => v.category).sum ≤ W9) (hdg : decode c.code g.pc = .ok (.invokestatic index, 3))
    (hpre : ∀ vm₁, s.WarmedH vm₁ → Pre ⟨T.setVm vm₁, locs, cells, slots⟩ argsL.toArray) :
    ∃ (v : Option Value) (vm₁ : Vm) (B : Pt), s.WarmedH vm₁ ∧ Stand p l e R s m args below meth c B.U B.locs B.cells B.slots ∧ Post ⟨T.setVm vm₁, locs, cells, slots⟩ argsL.toArray v B ∧
      ∀ target, Steps p.tables e below (B.U.setTop { g with pc := g.pc + 3, stack := v.toList ++ rest }) target → Steps p.tables e below (T.setTop g) target := by
  obtain ⟨mk, methM, cM, hnamed, hmethM, -, -, -, -, -, -, hsigM⟩ := Cond.codeWith_spec hcode
  have hstatic : methM.isStatic = true := Cond.static_spec hnamed hmethM hstat
  obtain ⟨kP, hkP, -⟩ := className_of_methodNamed hnamed
  have hinitP : kP.init = .initialized := Cond.initialized_spec (findClass_of_methodNamed hnamed) hkP hinit
  obtain ⟨vm₁, X₁, hstep₁⟩ := X.invokestatic hexec hown hlink hnamed hmethM hstatic hkP hinitP hy (g := g) hg (argsL := argsL) (rest := rest) (hlen _ hsigM) hstack hdg
  obtain ⟨v, B, X', hpost, hsteps⟩ := hK m meth c ⟨T.setVm vm₁, locs, cells, slots⟩ { g with stack := rest } (.invokestatic index) mk argsL.toArray X₁ hg hsize hdg hW (X₁.named hnamed) (hpre vm₁ X₁.warmed)
  exact ⟨v, vm₁, B, X₁.warmed, X', hpost, fun target h => hstep₁ _ fun acts => by rw [doInvoke_state]; exact hsteps.trans h⟩
theorem vx_runSW {y : MethodName} {bytes cc : ByteArray} {maxL nL mc ms n index : Nat} {ret : Option FieldType} {hh : List (Nat × Nat × Nat × Nat)} {ws : List Cond} {rm : Room} {Pc : Array Value → State → Prop} {Qc : Array Value → State → Outcome → State → Prop} {free : Addr → Prop} {Ts : List Cond} {own : String} {As rest : List Value} {g : JFrame}
    (S : CallFix p m c cc nL s args Ts own) (hM : Met l y ws rm Pc Qc mc ms free) (cw : vx_CSW R s args own index y bytes maxL ret hh ws rm mc ms n) (hp : PreS s H Pc As)
    (hg : g.method = m) (hn : As.length = n) (hsize : g.locals.size = nL) (hstack : g.stack = As.reverse ++ rest) (hW : 2 * g.monitorRoom + (rest.map fun v => v.category).sum ≤ 8) (hdg : decode cc g.pc = .ok (.invokestatic index, 3)) (hf : cells + mc ≤ R.cells ∧ slots + ms ≤ R.slots) :
    va_Run p l e R s m args below meth c H locs cells slots mc ms g rest (Qc As.toArray) (free) := by
  obtain ⟨⟨hrc, hrs, hfr, hlo, hws, hcw⟩, hcode, hini, hy, hlen, hl, hstt⟩ := cw
  have hK : Back l R p e below s args y 3 8 (PreOf R mc ms Pc) (PostOf Qc mc ms free) := va_backW (hh := hh) (bytes := bytes) (maxL := maxL) (ret := ret) hM hp.1 hrc hrs hfr hlo hws hcw (fun a' U hW => word_at hW (Or.inl (by first | rfl | simp [Cond.onTables, Cond.keeps, Cond.steady])) hini)
  obtain ⟨hx, hb, hml, ho, -⟩ := S
  intro T hT X
  obtain ⟨v, vm₁, ⟨U', l2, c2, s2⟩, hW₁, X', ⟨g', mk, t, L, e1, e2, hq, h1, hL, h2, h3⟩, st⟩ := vx_callSW X hx (hh := hh) (bytes := bytes) (maxL := maxL) (ret := ret) ho hl hstt hini hcode hy hK hg (hsize.trans hml.symm) (argsL := As) (rest := rest) (fun sig h => hn.trans (hlen sig h)) hstack hW (by rw [hb]; exact hdg)
    (fun vm₁ hW₁ => ⟨hf.1, hf.2, hp.2 (T.setVm vm₁) hT hW₁⟩)
  dsimp only [Pt.U, Pt.locs, Pt.cells, Pt.slots] at X' e1 e2 h1 h2 h3 st
  subst h1; subst h2; subst h3
  exact ⟨v, (T.setVm vm₁).calling g' mk As.toArray, t, U', L, hT, X', hL, e1, e2, hq, st⟩
/-- not caught here, past rows that name other classes: it goes on to the caller -/
theorem vx_outP {p : Program} {l : Launch} {e : Env} {R : Room} {s : State} {m : MethodId} {args : Array Value} {below : List Frame} {meth : Method} {c : Code} {H : Heap} {locs : List Loc} {cells slots : Nat} {free : Addr → Prop} {ls : Array Slot} {rest : List Value} {Qc : Array Value → State → Outcome → State → Prop} {XC : String → State → State → Prop}
    {pc : Nat} {own E : String} {ce : Cell} {q : Addr} {mc ms : Nat} (hown : s.vm.findClass own = some m.cls) (hlocks : meth.locks = false)
    (hpass : ∀ z ∈ c.exceptionTable.toList, covers z pc = false ∨ (z.catchType ≠ 0 ∧ ∃ nm : String, (Cond.classLink own z.catchType nm).before args s = true ∧ va_Nc E nm s)) (hcell : H[q]? = some ce) (hv : ce.vm = .none) (hcl : s.vm.findClass E = some ce.cls)
    (hx : ∀ t : State, t.heap = H → s.vm.Alike t.vm → XC E s t) (hf : ∀ z ∈ locs, free z.base) (hc : cells ≤ mc) (hs : slots ≤ ms) :
    vx_W p l e R s m args below meth c H locs cells slots (vx_MQ below Qc XC args s mc ms free) (F0 m pc ls rest) q := by
  intro T hT X
  have hpl : e.platform.magicAccessors = ({} : Platform).magicAccessors := by rw [X.admits.platform]
  obtain ⟨vm', hW', X', st⟩ := X.outThrough hlocks q (g := F0 m pc ls rest) rfl rfl rfl (cell := ce) (by rw [hT]; exact hcell) (by rw [hv]; rfl)
    (by obtain ⟨k9, h9, -⟩ := Vm.findClass_spec hcl; exact ⟨k9, h9⟩) (fun z hz => by
      rcases hpass z hz with h | ⟨hz0, nm, hl1, hn1⟩
      · exact Or.inl h
      · obtain ⟨c6, hc6, hcl6⟩ := Cond.classLink_spec hown hl1 e.platform hpl
        obtain ⟨a8, b8, h1, h2, h3⟩ := hn1
        cases Option.some.inj (h1.symm.trans hcl)
        cases Option.some.inj (h2.symm.trans hc6)
        exact Or.inr ⟨hz0, _, hcl6, h3⟩)
  obtain ⟨g₀, hfr⟩ := X'.frames_eq
  have hcell9 : ((T.setVm vm').setFrames (.throwing q :: below)).heap[q]? = some ce := by
    show T.heap[q]? = some ce
    rw [hT]; exact hcell
  have hend : Ended ((T.setVm vm').setFrames (.throwing q :: below)) below (.threw q) := State.frames_setFrames _ (State.cur_lt_of_frames hfr)
  refine ⟨(T.setVm vm').setFrames (.throwing q :: below), ?_, .threw q, X'.here.running, hend, Or.inr ⟨q, rfl, E, ce, locs, hx _ hT (X'.ends _).1.alike, hcell9, hv, hcl, (X'.ends _).1, (X'.ends _).2.mono hc hs, hf⟩⟩
  rw [X.pushThrowing_eq]
  exact st
/-- a thing of a world lies in the heap -/
theorem vx_lt {D : va_G} {cl : List vw_C} {ws : va_W} {H1 : Heap} (h : va_P D cl ws H1) {k : Nat} {q : Nat × va_E} (hk : ws[k]? = some q) : q.1 < H1.size := (h k q hk).lt
end VXS
/-! ===== END ===== -/
/-! ===== BEGIN methods with a table of their own: called by a name, returning or throwing ===== -/
section VXH
/-! vx_backW, vx_callVX, vx_callSX, vx_callVW, vx_runVW, vx_runVX, vx_runSX, vx_ofWH follow the same proofs as their sisters above (Free/Laws.lean, Shelf42/LK1.lean); vx_outP calls Shelf42/NT130.lean (outThrough). -/
section
variable {l : Launch} {R : Room} {p : Program} {e : Env} {below : List Frame} {s : State} {sargs : Array Value} {y : MethodName} {len W9 : Nat}
theorem vx_backW {ws : List Cond} {rm : Room} {Pc : Array Value → State → Prop} {Qc : Array Value → State → Outcome → State → Prop} {XC : String → State → State → Prop} {mc ms : Nat} {free : Addr → Prop} {bytes : ByteArray} {maxL : Nat} {ret : Option FieldType} {hh : List (Nat × Nat × Nat × Nat)}
    (hM : vx_Met l y ws rm Pc Qc XC mc ms free) (hblind : FrameBlind Pc) (hrc : rm.cells = mc) (hrs : rm.slots = ms)
    (hframes : rm.frames + 1 ≤ R.frames) (hlocals : W9 + (maxL + 11) + rm.locals ≤ R.locals)
    (hws : ∀ w ∈ ws, ∀ a' U, s.WarmedH U.vm → w.before a' U = true) (hcode : Cond.codeWith y bytes maxL ret hh ∈ ws) (hinit : ∀ a' U, s.WarmedH U.vm → (Cond.initialized y.cls).before a' U = true) :
    vx_Back l R p e below s sargs y len W9 (PreOf R mc ms Pc) (PostOf Qc mc ms free) (vx_Post XC mc ms free) := by
  intro m meth c A g ig mk a X hg hsize hdg hW hn hp
  have h1 : (headSpec ws rm).pre.before a A.U = true := atoms_intro fun w hw => hws w hw _ _ X.warmed
  have h2 : (Cond.codeWith y bytes maxL ret hh).before a A.U = true := hws _ hcode _ _ X.warmed
  have h3 : (Cond.initialized y.cls).before a A.U = true := hinit _ _ X.warmed
  have h4 : A.cells + (headSpec ws rm).room.cells ≤ R.cells := by rw [show (headSpec ws rm).room.cells = mc from hrc]; exact hp.1
  have h5 : A.slots + (headSpec ws rm).room.slots ≤ R.slots := by rw [show (headSpec ws rm).room.slots = ms from hrs]; exact hp.2.1
  have hPc : Pc a (A.U.calling g mk a) := hblind _ _ _ _ hp.2.2
  obtain ⟨U, Ls, c0, s0⟩ := A
  dsimp only [Pt.U, Pt.locs, Pt.cells, Pt.slots] at h1 h2 h3 h4 h5 X hn hPc ⊢
  obtain ⟨m9, methY, cY, hn9, hmY, hcY, -, hlY, -⟩ := Cond.codeWith_spec h2
  cases Option.some.inj (hn9.symm.trans hn)
  obtain ⟨kY, hkY, -⟩ := className_of_methodNamed hn
  have hinitY : kY.init = .initialized := Cond.initialized_spec (findClass_of_methodNamed hn) hkY h3
  have h : At U g.method c below := by rw [hg]; exact X.here
  have hlocals9 : W9 + (maxL + 11) + (headSpec ws rm).room.locals ≤ R.locals := hlocals
  have happ : (headSpec ws rm).appliesLoose y e.platform (U.calling g mk a) = true :=
    Spec.appliesLoose_calling (g := g) h hdg hn hkY hinitY
      (X.room_calling (g := g) (R' := (headSpec ws rm).room) hsize hmY hcY hframes (by rw [hlY]; omega) h4 h5) h1
  obtain ⟨mid, hmid⟩ := h.above
  have hfr : (U.setTop g).frames = (.java g :: mid) ++ below := by rw [State.frames_setTop' g h.top, hmid]; rfl
  obtain ⟨o, s₂, hsteps, -, hend, hq⟩ := Steps.callFree hM p X.admits X.cas X.clock (acts := []) hfr happ hPc trivial
  have hq' : vx_Q Qc XC mc ms free a (U.calling g mk a) o s₂ := hq
  rw [State.frames_setTop' g h.top] at hend
  obtain ⟨g₀, hg0⟩ := Option.isSome_iff_exists.mp h.top
  obtain ⟨r, hr⟩ := State.topJava?_eq_some.mp hg0
  have hr' : (({ U with heap := s₂.heap, slotsUsed := s₂.slotsUsed } : State).setVm s₂.vm).frames = .java g₀ :: r := hr
  rcases hq' with ⟨hqc, L, hfe, hL⟩ | ⟨q, rfl, E, ce, L, hx, hce, hcv, hcl, hW₂, hsm, hL⟩
  · obtain ⟨⟨v, rfl⟩, hW₂, e2, q2, q3, q4, q5, q6⟩ := id hfe
    have e3 : s₂ = ({ (U.calling g mk a).setFrames s₂.frames with heap := s₂.heap, slotsUsed := s₂.slotsUsed } : State).setVm s₂.vm := by
      have : s₂ = ({ s₂ with vm := (U.calling g mk a).vm } : State).setVm s₂.vm := rfl
      rw [e2] at this
      exact this
    obtain ⟨c₂, i₂, len₂, hc₂, hd₂, hf₂⟩ := hend
    have hW' : U.WarmedH s₂.vm := hW₂
    have hcc : c₂ = c := by
      have h1 : s₂.code? g.method = U.code? g.method := by
        rw [State.code?_eq, State.code?_eq, hW'.alike.method?]
      exact Option.some.inj (hc₂.symm.trans (h1.trans h.code))
    subst hcc
    have hlen : len₂ = len := by rw [hdg] at hd₂; cases hd₂; rfl
    subst hlen
    have hs₂ : s₂ = (({ U with heap := s₂.heap, slotsUsed := s₂.slotsUsed } : State).setVm s₂.vm).setTop { g with pc := g.pc + len₂, stack := v.toList ++ g.stack } := by
      refine e3.trans ?_
      rw [hf₂, State.calling_eq h.top, State.setFrames_setFrames, State.setTop_of_frames _ hr', hr]
      rfl
    have hsame : U.sameButNew ({ U with heap := s₂.heap, slotsUsed := s₂.slotsUsed } : State) L mc ms := by
      refine ⟨?_, q2, q3, q4, q5, q6⟩
      obtain ⟨t, ht, -⟩ := State.frames_cons hr
      show ({ U with heap := s₂.heap, slotsUsed := s₂.slotsUsed } : State) = { U.setFrames U.frames with heap := s₂.heap, slotsUsed := s₂.slotsUsed }
      rw [State.setFrames_self ht]
    subst hg
    refine Or.inl ⟨v, ⟨(({ U with heap := s₂.heap, slotsUsed := s₂.slotsUsed } : State).setVm s₂.vm), Ls ++ L, c0 + mc, s0 + ms⟩,
      ⟨X.admits, X.cas, X.clock, X.frames, X.room, X.hears, X.method, X.code, (X.here.setHeapUsed s₂.heap s₂.slotsUsed).setVm hW'.alike, X.tail, State.WarmedH.trans X.warmed hW', X.limits, X.bytes, X.same.trans (hsame.setVm s.vm)⟩,
      ⟨g, mk, s₂, L, rfl, rfl, hqc, rfl, hL, rfl, rfl⟩, ?_⟩
    show Steps p.tables e below _ ((({ U with heap := s₂.heap, slotsUsed := s₂.slotsUsed } : State).setVm s₂.vm).setTop { g with pc := g.pc + len₂, stack := v.toList ++ g.stack })
    rw [← hs₂]
    exact hsteps
  · obtain ⟨e2, q2, q3, q4, q5, q6⟩ := id hsm
    have e3 : s₂ = ({ (U.calling g mk a).setFrames s₂.frames with heap := s₂.heap, slotsUsed := s₂.slotsUsed } : State).setVm s₂.vm := by
      have : s₂ = ({ s₂ with vm := (U.calling g mk a).vm } : State).setVm s₂.vm := rfl
      rw [e2] at this
      exact this
    have hf₂ : s₂.frames = .throwing q :: .java g :: U.frames.tail := hend
    have hW' : U.WarmedH s₂.vm := hW₂
    have hs₂ : s₂ = ((({ U with heap := s₂.heap, slotsUsed := s₂.slotsUsed } : State).setVm s₂.vm).setTop g).pushFrame (.throwing q) := by
      refine e3.trans ?_
      rw [hf₂, State.calling_eq h.top, State.setFrames_setFrames, State.pushFrame, State.frames_setTop _ hr', State.setTop_of_frames _ hr', State.setFrames_setFrames, hr]
      rfl
    have hsame : U.sameButNew ({ U with heap := s₂.heap, slotsUsed := s₂.slotsUsed } : State) L mc ms := by
      refine ⟨?_, q2, q3, q4, q5, q6⟩
      obtain ⟨t, ht, -⟩ := State.frames_cons hr
      show ({ U with heap := s₂.heap, slotsUsed := s₂.slotsUsed } : State) = { U.setFrames U.frames with heap := s₂.heap, slotsUsed := s₂.slotsUsed }
      rw [State.setFrames_self ht]
    subst hg
    refine Or.inr ⟨q, ⟨(({ U with heap := s₂.heap, slotsUsed := s₂.slotsUsed } : State).setVm s₂.vm), Ls ++ L, c0 + mc, s0 + ms⟩,
      ⟨X.admits, X.cas, X.clock, X.frames, X.room, X.hears, X.method, X.code, (X.here.setHeapUsed s₂.heap s₂.slotsUsed).setVm hW'.alike, X.tail, State.WarmedH.trans X.warmed hW', X.limits, X.bytes, X.same.trans (hsame.setVm s.vm)⟩,
      ⟨g, mk, s₂, L, E, ce, rfl, rfl, hx, hce, hcv, hcl, rfl, hL, rfl, rfl⟩, ?_⟩
    show Steps p.tables e below _ (((({ U with heap := s₂.heap, slotsUsed := s₂.slotsUsed } : State).setVm s₂.vm).setTop g).pushFrame (.throwing q))
    rw [← hs₂]
    exact hsteps
end
variable {p : Program} {l : Launch} {e : Env} {R : Room} {s : State} {m : MethodId} {args : Array Value} {below : List Frame} {meth : Method} {c : Code} {T : State} {H : Heap} {locs : List Loc} {cells slots : Nat}
theorem vx_callVX (X : Stand p l e R s m args below meth c T locs cells slots) (hexec : p.tables.exec = Jvm.exec) {own C : String} {index : Nat} {y : MethodName} {bytes : ByteArray} {maxL : Nat} {ret : Option FieldType} {hh : List (Nat × Nat × Nat × Nat)}
    (hown : s.vm.findClass own = some m.cls) (hlink : (Cond.methodLink own index y).before args s = true) (hinst : (Cond.instanceMethod y).before args s = true) (hsel : (Cond.selects C y y).before args s = true)
    (hcode : (Cond.codeWith y bytes maxL ret hh).before args s = true) (hy : y.cls ≠ "java/lang/invoke/MethodHandle" ∧ y.cls ≠ "java/lang/invoke/VarHandle")
    {W9 : Nat} {Pre : Pt → Array Value → Prop} {Post : Pt → Array Value → Option Value → Pt → Prop} {PostX : Pt → Array Value → Addr → Pt → Prop} (hK : vx_Back l R p e below s args y 3 W9 Pre Post PostX)
    {b : Addr} {cellB : Cell} (hcell : T.heap[b]? = some cellB) (hobj : cellB.vm.isStatics = false) (hcls : s.vm.findClass C = some cellB.cls)
    {g : JFrame} (hg : g.method = m) (hsize : g.locals.size = c.maxLocals) {argsL rest : List Value} (hlen : ∀ sig, parseMethodDescriptor y.desc = some sig → argsL.length = sig.parameters.length)
    (hstack : g.stack = argsL.reverse ++ .ref b :: rest) (hW : 2 * g.monitorRoom + (rest.map fun v => v.category).sum ≤ W9) (hdg : decode c.code g.pc = .ok (.invokevirtual index, 3))
    (hpre : ∀ vm₁, s.WarmedH vm₁ → Pre ⟨T.setVm vm₁, locs, cells, slots⟩ (Value.ref b :: argsL).toArray) :
    (∃ (v : Option Value) (vm₁ : Vm) (B : Pt), s.WarmedH vm₁ ∧ Stand p l e R s m args below meth c B.U B.locs B.cells B.slots ∧ Post ⟨T.setVm vm₁, locs, cells, slots⟩ (Value.ref b :: argsL).toArray v B ∧
      ∀ target, Steps p.tables e below (B.U.setTop { g with pc := g.pc + 3, stack := v.toList ++ rest }) target → Steps p.tables e below (T.setTop g) target) ∨
    (∃ (q : Addr) (vm₁ : Vm) (B : Pt), s.WarmedH vm₁ ∧ Stand p l e R s m args below meth c B.U B.locs B.cells B.slots ∧ PostX ⟨T.setVm vm₁, locs, cells, slots⟩ (Value.ref b :: argsL).toArray q B ∧
      Steps p.tables e below (T.setTop g) ((B.U.setTop { g with stack := rest }).pushFrame (.throwing q))) := by
  obtain ⟨mk, methM, hnamed, hmethM, hstM, habM⟩ := Cond.instanceMethod_spec hinst
  obtain ⟨m8, methM', cM, hn8, hmethM', -, -, -, -, -, -, hsigM⟩ := Cond.codeWith_spec hcode
  cases Option.some.inj (hn8.symm.trans hnamed)
  cases hmethM.symm.trans hmethM'
  obtain ⟨c2, r2, m2, q1, q2, q3, q4, kP, hkP, hkPi⟩ := Cond.selects_spec hsel
  cases hcls.symm.trans q1
  cases (State.methodFound?_of_named hnamed hy).symm.trans q2
  cases hnamed.symm.trans q3
  have hselP : selectMethod e.platform s.vm cellB.cls mk = .method mk := by rw [Launch.admits_selectMethod X.admits]; exact q4
  obtain ⟨vm₁, X₁, hstep₁⟩ := X.invokevirtual hexec hown hlink hnamed hmethM hstM hkP hkPi hy (a := b) (cell := cellB) hcell
    (fun z h => by rw [h] at hobj; cases hobj) hselP hmethM habM hkP hkPi (g := g) hg (argsL := argsL) (rest := rest) (hlen _ hsigM) hstack hdg
  rcases hK m meth c ⟨T.setVm vm₁, locs, cells, slots⟩ { g with stack := rest } (.invokevirtual index) mk (Value.ref b :: argsL).toArray X₁ hg hsize hdg hW (X₁.named hnamed) (hpre vm₁ X₁.warmed) with ⟨v, B, X', hpost, hsteps⟩ | ⟨q, B, X', hpost, hsteps⟩
  · exact Or.inl ⟨v, vm₁, B, X₁.warmed, X', hpost, fun target h => hstep₁ _ fun acts => by rw [doInvoke_state]; exact hsteps.trans h⟩
  · exact Or.inr ⟨q, vm₁, B, X₁.warmed, X', hpost, hstep₁ _ fun acts => by rw [doInvoke_state]; exact hsteps⟩
theorem vx_callSX (X : Stand p l e R s m args below meth c T locs cells slots) (hexec : p.tables.exec = Jvm.exec) {own : String} {index : Nat} {y : MethodName} {bytes : ByteArray} {maxL : Nat} {ret : Option FieldType} {hh : List (Nat × Nat × Nat × Nat)}
    (hown : s.vm.findClass own = some m.cls) (hlink : (Cond.methodLink own index y).before args s = true) (hstat : (Cond.static y).before args s = true) (hinit : (Cond.initialized y.cls).before args s = true)
    (hcode : (Cond.codeWith y bytes maxL ret hh).before args s = true) (hy : y.cls ≠ "java/lang/invoke/MethodHandle" ∧ y.cls ≠ "java/lang/invoke/VarHandle")
    {W9 : Nat} {Pre : Pt → Array Value → Prop} {Post : Pt → Array Value → Option Value → Pt → Prop} {PostX : Pt → Array Value → Addr → Pt → Prop} (hK : vx_Back l R p e below s args y 3 W9 Pre Post PostX)
    {g : JFrame} (hg : g.method = m) (hsize : g.locals.size = c.maxLocals) {argsL rest : List Value} (hlen : ∀ sig, parseMethodDescriptor y.desc = some sig → argsL.length = sig.parameters.length)
    (hstack : g.stack = argsL.reverse ++ rest) (hW : 2 * g.monitorRoom + (rest.map fun v => v.category).sum ≤ W9) (hdg : decode c.code g.pc = .ok (.invokestatic index, 3))
    (hpre : ∀ vm₁, s.WarmedH vm₁ → Pre ⟨T.setVm vm₁, locs, cells, slots⟩ argsL.toArray) :
    (∃ (v : Option Value) (vm₁ : Vm) (B : Pt), s.WarmedH vm₁ ∧ Stand p l e R s m args below meth c B.U B.locs B.cells B.slots ∧ Post ⟨T.setVm vm₁, locs, cells, slots⟩ argsL.toArray v B ∧
      ∀ target, Steps p.tables e below (B.U.setTop { g with pc := g.pc + 3, stack := v.toList ++ rest }) target → Steps p.tables e below (T.setTop g) target) ∨
    (∃ (q : Addr) (vm₁ : Vm) (B : Pt), s.WarmedH vm₁ ∧ Stand p l e R s m args below meth c B.U B.locs B.cells B.slots ∧ PostX ⟨T.setVm vm₁, locs, cells, slots⟩ argsL.toArray q B ∧
      Steps p.tables e below (T.setTop g) ((B.U.setTop { g with stack := rest }).pushFrame (.throwing q))) := by
  obtain ⟨mk, methM, cM, hnamed, hmethM, -, -, -, -, -, -, hsigM⟩ := Cond.codeWith_spec hcode
  have hstatic : methM.isStatic = true := Cond.static_spec hnamed hmethM hstat
  obtain ⟨kP, hkP, -⟩ := className_of_methodNamed hnamed
  have hinitP : kP.init = .initialized := Cond.initialized_spec (findClass_of_methodNamed hnamed) hkP hinit
  obtain ⟨vm₁, X₁, hstep₁⟩ := X.invokestatic hexec hown hlink hnamed hmethM hstatic hkP hinitP hy (g := g) hg (argsL := argsL) (rest := rest) (hlen _ hsigM) hstack hdg
  rcases hK m meth c ⟨T.setVm vm₁, locs, cells, slots⟩ { g with stack := rest } (.invokestatic index) mk argsL.toArray X₁ hg hsize hdg hW (X₁.named hnamed) (hpre vm₁ X₁.warmed) with ⟨v, B, X', hpost, hsteps⟩ | ⟨q, B, X', hpost, hsteps⟩
  · exact Or.inl ⟨v, vm₁, B, X₁.warmed, X', hpost, fun target h => hstep₁ _ fun acts => by rw [doInvoke_state]; exact hsteps.trans h⟩
  · exact Or.inr ⟨q, vm₁, B, X₁.warmed, X', hpost, hstep₁ _ fun acts => by rw [doInvoke_state]; exact hsteps⟩
theorem vx_callVW (X : Stand p l e R s m args below meth c T locs cells slots) (hexec : p.tables.exec = Jvm.exec) {own C : String} {index : Nat} {y : MethodName} {bytes : ByteArray} {maxL : Nat} {ret : Option FieldType} {hh : List (Nat × Nat × Nat × Nat)}
    (hown : s.vm.findClass own = some m.cls) (hlink : (Cond.methodLink own index y).before args s = true) (hinst : (Cond.instanceMethod y).before args s = true) (hsel : (Cond.selects C y y).before args s = true)
    (hcode : (Cond.codeWith y bytes maxL ret hh).before args s = true) (hy : y.cls ≠ "java/lang/invoke/MethodHandle" ∧ y.cls ≠ "java/lang/invoke/VarHandle")
    {W9 : Nat} {Pre : Pt → Array Value → Prop} {Post : Pt → Array Value → Option Value → Pt → Prop} (hK : Back l R p e below s args y 3 W9 Pre Post)
    {b : Addr} {cellB : Cell} (hcell : T.heap[b]? = some cellB) (hobj : cellB.vm.isStatics = false) (hcls : s.vm.findClass C = some cellB.cls)
    {g : JFrame} (hg : g.method = m) (hsize : g.locals.size = c.maxLocals) {argsL rest : List Value} (hlen : ∀ sig, parseMethodDescriptor y.desc = some sig → argsL.length = sig.parameters.length)
    (hstack : g.stack = argsL.reverse ++ .ref b :: rest) (hW : 2 * g.monitorRoom + (rest.map fun v => v.category).sum ≤ W9) (hdg : decode c.code g.pc = .ok (.invokevirtual index, 3))
    (hpre : ∀ vm₁, s.WarmedH vm₁ → Pre ⟨T.setVm vm₁, locs, cells, slots⟩ (Value.ref b :: argsL).toArray) :
    ∃ (v : Option Value) (vm₁ : Vm) (B : Pt), s.WarmedH vm₁ ∧ Stand p l e R s m args below meth c B.U B.locs B.cells B.slots ∧ Post ⟨T.setVm vm₁, locs, cells, slots⟩ (Value.ref b :: argsL).toArray v B ∧
      ∀ target, Steps p.tables e below (B.U.setTop { g with pc := g.pc + 3, stack := v.toList ++ rest }) target → Steps p.tables e below (T.setTop g) target := by
  obtain ⟨mk, methM, hnamed, hmethM, hstM, habM⟩ := Cond.instanceMethod_spec hinst
  obtain ⟨m8, methM', cM, hn8, hmethM', -, -, -, -, -, -, hsigM⟩ := Cond.codeWith_spec hcode
  cases Option.some.inj (hn8.symm.trans hnamed)
  cases hmethM.symm.trans hmethM'
  obtain ⟨c2, r2, m2, q1, q2, q3, q4, kP, hkP, hkPi⟩ := Cond.selects_spec hsel
  cases hcls.symm.trans q1
  cases (State.methodFound?_of_named hnamed hy).symm.trans q2
  cases hnamed.symm.trans q3
  have hselP : selectMethod e.platform s.vm cellB.cls mk = .method mk := by rw [Launch.admits_selectMethod X.admits]; exact q4
  obtain ⟨vm₁, X₁, hstep₁⟩ := X.invokevirtual hexec hown hlink hnamed hmethM hstM hkP hkPi hy (a := b) (cell := cellB) hcell
    (fun z h => by rw [h] at hobj; cases hobj) hselP hmethM habM hkP hkPi (g := g) hg (argsL := argsL) (rest := rest) (hlen _ hsigM) hstack hdg
  obtain ⟨v, B, X', hpost, hsteps⟩ := hK m meth c ⟨T.setVm vm₁, locs, cells, slots⟩ { g with stack := rest } (.invokevirtual index) mk (Value.ref b :: argsL).toArray X₁ hg hsize hdg hW (X₁.named hnamed) (hpre vm₁ X₁.warmed)
  exact ⟨v, vm₁, B, X₁.warmed, X', hpost, fun target h => hstep₁ _ fun acts => by rw [doInvoke_state]; exact hsteps.trans h⟩
abbrev vx_CVW (R : Room) (s : State) (args : Array Value) (own C : String) (index : Nat) (y : MethodName) (bytes : ByteArray) (maxL : Nat) (ret : Option FieldType) (hh : List (Nat × Nat × Nat × Nat)) (ws : List Cond) (rm : Room) (mc ms n : Nat) : Prop :=
  (rm.cells = mc ∧ rm.slots = ms ∧ rm.frames + 1 ≤ R.frames ∧ 8 + (maxL + 11) + rm.locals ≤ R.locals ∧ (∀ w ∈ ws, ∀ (a' : Array Value) (U : State), s.WarmedH U.vm → w.before a' U = true) ∧ Cond.codeWith y bytes maxL ret hh ∈ ws) ∧
  (Cond.codeWith y bytes maxL ret hh).before args s = true ∧ (Cond.initialized y.cls).before args s = true ∧ (y.cls ≠ "java/lang/invoke/MethodHandle" ∧ y.cls ≠ "java/lang/invoke/VarHandle") ∧
  (∀ sig, parseMethodDescriptor y.desc = some sig → n = sig.parameters.length) ∧ (Cond.methodLink own index y).before args s = true ∧ (Cond.instanceMethod y).before args s = true ∧ (Cond.selects C y y).before args s = true
theorem vx_cwVW {own C : String} {index maxL mc ms : Nat} {y : MethodName} {bytes : ByteArray} {ret : Option FieldType} {hh : List (Nat × Nat × Nat × Nat)} {Ts ws ws' : List Cond} {rm : Room} (n : Nat) (ht : ∀ w ∈ Ts, w.before args s = true) (hT : GoodIn Ts (wsV own index C y ws)) (hw : ws = Cond.codeWith y bytes maxL ret hh :: ws') (hrc : rm.cells = mc) (hrs : rm.slots = ms)
    (hd : y.cls = C ∧ y.cls ≠ "java/lang/invoke/MethodHandle" ∧ y.cls ≠ "java/lang/invoke/VarHandle" ∧ (parseMethodDescriptor y.desc).map (fun d => d.parameters.length) = some n) (hR : rm.frames + 1 ≤ R.frames ∧ 8 + (maxL + 11) + rm.locals ≤ R.locals) :
    vx_CVW R s args own C index y bytes maxL ret hh ws rm mc ms n := by
  obtain ⟨hC, hd⟩ := hd
  subst hC
  have ok : ∀ w ∈ wsV own index y.cls y ws, w.before args s = true := fun w h => ht w (hT w h).1
  have hG : GoodIn Ts ws := fun w h => hT w (by unfold wsV; exact List.mem_append_right _ h)
  have hc : Cond.codeWith y bytes maxL ret hh ∈ ws := by rw [hw]; exact List.mem_cons_self
  refine ⟨⟨hrc, hrs, hR.1, hR.2, pay_in ht hG, hc⟩, ht _ (hG _ hc).1, ok _ (by simp [wsV]), ⟨hd.1, hd.2.1⟩, fun sig h => ?_, ok _ (by simp [wsV]), ok _ (by simp [wsV]), ok _ (by simp [wsV])⟩
  have h2 := hd.2.2
  rw [h] at h2
  exact (Option.some.inj h2).symm
theorem vx_runVW {y : MethodName} {bytes cc : ByteArray} {maxL nL mc ms n index : Nat} {ret : Option FieldType} {hh : List (Nat × Nat × Nat × Nat)} {ws : List Cond} {rm : Room} {Pc : Array Value → State → Prop} {Qc : Array Value → State → Outcome → State → Prop} {free : Addr → Prop} {Ts : List Cond} {own C : String} {b : Addr} {As rest : List Value} {g : JFrame}
    (S : CallFix p m c cc nL s args Ts own) (hM : Met l y ws rm Pc Qc mc ms free) (cw : vx_CVW R s args own C index y bytes maxL ret hh ws rm mc ms n) (hp : PreV s H C b Pc As)
    (hg : g.method = m) (hn : As.length = n) (hsize : g.locals.size = nL) (hstack : g.stack = As.reverse ++ .ref b :: rest) (hW : 2 * g.monitorRoom + (rest.map fun v => v.category).sum ≤ 8) (hdg : decode cc g.pc = .ok (.invokevirtual index, 3)) (hf : cells + mc ≤ R.cells ∧ slots + ms ≤ R.slots) :
    va_Run p l e R s m args below meth c H locs cells slots mc ms g rest (Qc (Value.ref b :: As).toArray) free := by
  obtain ⟨⟨hrc, hrs, hfr, hlo, hws, hcw⟩, hcode, hini, hy, hlen, hl, hin, hse⟩ := cw
  have hK : Back l R p e below s args y 3 8 (PreOf R mc ms Pc) (PostOf Qc mc ms free) := va_backW (hh := hh) (bytes := bytes) (maxL := maxL) (ret := ret) hM hp.1 hrc hrs hfr hlo hws hcw (fun a' U hW => word_at hW (Or.inl (by first | rfl | simp [Cond.onTables, Cond.keeps, Cond.steady])) hini)
  obtain ⟨hx, hb, hml, ho, -⟩ := S
  obtain ⟨-, ⟨cellB, hcB, hoB, hclB⟩, hPc⟩ := hp
  intro T hT X
  obtain ⟨v, vm₁, ⟨U', l2, c2, s2⟩, hW₁, X', ⟨g', mk, t, L, e1, e2, hq, h1, hL, h2, h3⟩, st⟩ := vx_callVW X hx (C := C) (hh := hh) (bytes := bytes) (maxL := maxL) (ret := ret) ho hl hin hse hcode hy hK (by rw [hT]; exact hcB) hoB hclB hg (hsize.trans hml.symm) (argsL := As) (rest := rest) (fun sig h => hn.trans (hlen sig h)) hstack hW (by rw [hb]; exact hdg)
    (fun vm₁ hW₁ => ⟨hf.1, hf.2, hPc (T.setVm vm₁) hT hW₁⟩)
  dsimp only [Pt.U, Pt.locs, Pt.cells, Pt.slots] at X' e1 e2 h1 h2 h3 st
  subst h1; subst h2; subst h3
  exact ⟨v, (T.setVm vm₁).calling g' mk (Value.ref b :: As).toArray, t, U', L, hT, X', hL, e1, e2, hq, st⟩
section
variable {y : MethodName} {bytes cc : ByteArray} {maxL nL mc ms n index : Nat} {ret : Option FieldType} {ws : List Cond} {rm : Room} {Pc : Array Value → State → Prop} {Qc : Array Value → State → Outcome → State → Prop} {XC : String → State → State → Prop} {free : Addr → Prop} {Ts : List Cond} {own C : String} {b : Addr} {As rest : List Value} {g : JFrame}
theorem vx_runVX {hh : List (Nat × Nat × Nat × Nat)} (S : CallFix p m c cc nL s args Ts own) (hM : vx_Met l y ws rm Pc Qc XC mc ms free) (cw : vx_CVW R s args own C index y bytes maxL ret hh ws rm mc ms n) (hp : PreV s H C b Pc As)
    (hg : g.method = m) (hn : As.length = n) (hsize : g.locals.size = nL) (hstack : g.stack = As.reverse ++ .ref b :: rest) (hW : 2 * g.monitorRoom + (rest.map fun v => v.category).sum ≤ 8) (hdg : decode cc g.pc = .ok (.invokevirtual index, 3)) (hf : cells + mc ≤ R.cells ∧ slots + ms ≤ R.slots) :
    vx_Run p l e R s m args below meth c H locs cells slots mc ms g rest (Qc (Value.ref b :: As).toArray) XC free := by
  obtain ⟨⟨hrc, hrs, hfr, hlo, hws, hcw⟩, hcode, hini, hy, hlen, hl, hin, hse⟩ := cw
  have hK : vx_Back l R p e below s args y 3 8 (PreOf R mc ms Pc) (PostOf Qc mc ms free) (vx_Post XC mc ms free) := vx_backW (hh := hh) (bytes := bytes) (maxL := maxL) (ret := ret) hM hp.1 hrc hrs hfr hlo hws hcw (fun a' U hW => word_at hW (Or.inl (by first | rfl | simp [Cond.onTables, Cond.keeps, Cond.steady])) hini)
  obtain ⟨hx, hb, hml, ho, -⟩ := S
  obtain ⟨-, ⟨cellB, hcB, hoB, hclB⟩, hPc⟩ := hp
  intro T hT X
  rcases vx_callVX X hx (C := C) (hh := hh) (bytes := bytes) (maxL := maxL) (ret := ret) ho hl hin hse hcode hy hK (by rw [hT]; exact hcB) hoB hclB hg (hsize.trans hml.symm) (argsL := As) (rest := rest) (fun sig h => hn.trans (hlen sig h)) hstack hW (by rw [hb]; exact hdg)
    (fun vm₁ hW₁ => ⟨hf.1, hf.2, hPc (T.setVm vm₁) hT hW₁⟩) with ⟨v, vm₁, ⟨U', l2, c2, s2⟩, hW₁, X', ⟨g', mk, t, L, e1, e2, hq, h1, hL, h2, h3⟩, st⟩ | ⟨q, vm₁, ⟨U', l2, c2, s2⟩, hW₁, X', ⟨g', mk, t, L, E, ce, e1, e2, hq, hce, hcv, hcl, h1, hL, h2, h3⟩, st⟩
  · dsimp only [Pt.U, Pt.locs, Pt.cells, Pt.slots] at X' e1 e2 h1 h2 h3 st
    subst h1; subst h2; subst h3
    exact Or.inl ⟨v, (T.setVm vm₁).calling g' mk (Value.ref b :: As).toArray, t, U', L, hT, X', hL, e1, e2, hq, st⟩
  · dsimp only [Pt.U, Pt.locs, Pt.cells, Pt.slots] at X' e1 e2 h1 h2 h3 st hcl
    subst h1; subst h2; subst h3
    exact Or.inr ⟨q, (T.setVm vm₁).calling g' mk (Value.ref b :: As).toArray, t, U', L, E, ce, hT, X', hL, e1, e2, hq, hce, hcv, vx_cls hW₁ hcl, st⟩
theorem vx_runSX {hh : List (Nat × Nat × Nat × Nat)} (S : CallFix p m c cc nL s args Ts own) (hM : vx_Met l y ws rm Pc Qc XC mc ms free) (cw : vx_CSW R s args own index y bytes maxL ret hh ws rm mc ms n) (hp : PreS s H Pc As)
    (hg : g.method = m) (hn : As.length = n) (hsize : g.locals.size = nL) (hstack : g.stack = As.reverse ++ rest) (hW : 2 * g.monitorRoom + (rest.map fun v => v.category).sum ≤ 8) (hdg : decode cc g.pc = .ok (.invokestatic index, 3)) (hf : cells + mc ≤ R.cells ∧ slots + ms ≤ R.slots) :
    vx_Run p l e R s m args below meth c H locs cells slots mc ms g rest (Qc As.toArray) XC free := by
  obtain ⟨⟨hrc, hrs, hfr, hlo, hws, hcw⟩, hcode, hini, hy, hlen, hl, hstt⟩ := cw
  have hK : vx_Back l R p e below s args y 3 8 (PreOf R mc ms Pc) (PostOf Qc mc ms free) (vx_Post XC mc ms free) := vx_backW (hh := hh) (bytes := bytes) (maxL := maxL) (ret := ret) hM hp.1 hrc hrs hfr hlo hws hcw (fun a' U hW => word_at hW (Or.inl (by first | rfl | simp [Cond.onTables, Cond.keeps, Cond.steady])) hini)
  obtain ⟨hx, hb, hml, ho, -⟩ := S
  intro T hT X
  rcases vx_callSX X hx (hh := hh) (bytes := bytes) (maxL := maxL) (ret := ret) ho hl hstt hini hcode hy hK hg (hsize.trans hml.symm) (argsL := As) (rest := rest) (fun sig h => hn.trans (hlen sig h)) hstack hW (by rw [hb]; exact hdg)
    (fun vm₁ hW₁ => ⟨hf.1, hf.2, hp.2 (T.setVm vm₁) hT hW₁⟩) with ⟨v, vm₁, ⟨U', l2, c2, s2⟩, hW₁, X', ⟨g', mk, t, L, e1, e2, hq, h1, hL, h2, h3⟩, st⟩ | ⟨q, vm₁, ⟨U', l2, c2, s2⟩, hW₁, X', ⟨g', mk, t, L, E, ce, e1, e2, hq, hce, hcv, hcl, h1, hL, h2, h3⟩, st⟩
  · dsimp only [Pt.U, Pt.locs, Pt.cells, Pt.slots] at X' e1 e2 h1 h2 h3 st
    subst h1; subst h2; subst h3
    exact Or.inl ⟨v, (T.setVm vm₁).calling g' mk As.toArray, t, U', L, hT, X', hL, e1, e2, hq, st⟩
  · dsimp only [Pt.U, Pt.locs, Pt.cells, Pt.slots] at X' e1 e2 h1 h2 h3 st hcl
    subst h1; subst h2; subst h3
    exact Or.inr ⟨q, (T.setVm vm₁).calling g' mk As.toArray, t, U', L, E, ce, hT, X', hL, e1, e2, hq, hce, hcv, vx_cls hW₁ hcl, st⟩
end
end VXH
theorem vx_ofWH {l : Launch} {y : MethodName} {ws ws' : List Cond} {rm : Room} {Pc : Array Value → State → Prop} {Qc : Array Value → State → Outcome → State → Prop} {XC : String → State → State → Prop} {mc ms : Nat} {free : Addr → Prop} {cc : ByteArray} {maxL : Nat} {ret : Option FieldType} {hh : List (Nat × Nat × Nat × Nat)}
    (hy : plainName y.cls = true) (hw : ws = Cond.codeWith y cc maxL ret hh :: ws')
    (body : ∀ p e s m args below meth c s₁, BodyLoose p l y (headSpec ws rm) cc maxL ret e s m args below meth c s₁ → c.maxLocals = maxL → Pc args s →
      W p l e (headSpec ws rm).room s m args below meth c s.heap [] 0 0 (vx_MQ below Qc XC args s mc ms free) (entryFrame m args maxL)) : vx_Met l y ws rm Pc Qc XC mc ms free := by
  refine MetFree.of_bodyS (code := cc) (maxLocals := maxL) (ret := ret) hy ?_ ?_
  · intro args s m h hn
    obtain ⟨m9, meth, c, hn9, h1, h2, h3, h4, -, h5, h6, -⟩ := Cond.codeWith_spec (atoms_spec (ws := ws) h _ (by rw [hw]; exact List.mem_cons_self))
    cases hn.symm.trans hn9
    exact ⟨meth, c, h1, h2, h3, h4, h5, h6⟩
  · intro p e s m args below meth c s₁ B hml hP _
    have hh0 : s₁.heap = s.heap := by rw [B.state]; rfl
    obtain ⟨t, a1, o, b1, b2, b3⟩ := body p e s m args below meth c s₁ B hml hP s₁ hh0 (Stand.of_body B)
    exact ⟨t, o, a1, b1, b2, b3⟩
/-! ===== END ===== -/
end
section
/-- the words of the tables that stay, whatever is resolved -/
def tg : List Cond := lw_tbl.filter goodWord
theorem tg_of (i : Nat) {w : Cond} (h : lw_tbl[i]? = some w) (g : goodWord w = true) : w ∈ tg := List.mem_filter.mpr ⟨List.mem_of_getElem? h, g⟩
theorem tg_in {w : Cond} (h : w ∈ tg) : w ∈ lw_tbl := (List.mem_filter.mp h).1
theorem tg_good {w : Cond} (h : w ∈ tg) : (w.onTables && w.keeps) = true ∨ ∃ ty, w = .arrayClass ty := good_of_word (List.mem_filter.mp h).2
theorem tg_GoodIn {ws : List Cond} (h : ∀ w ∈ ws, w ∈ tg) : GoodIn tg ws := fun w hw => ⟨h w hw, tg_good (h w hw)⟩
def RX0 : String := "MicroMachine$Word"
def TX0 : u_T := fun k => match k with
  | 0 => ("MicroMachine$Word", "parts", "I", false)
  | 1 => ("MicroMachine$Word", "targets", "I", false)
  | 2 => ("MicroMachine$Word", "operation", "I", false)
  | 3 => ("MicroMachine$Word", "source", "I", false)
  | 4 => ("MicroMachine$Word", "shift", "I", false)
  | 5 => ("MicroMachine$Word", "asksWord", "I", false)
  | 6 => ("MicroMachine$Word", "asksByte", "Z", false)
  | 7 => ("MicroMachine$Word", "going", "I", false)
  | 8 => ("MicroMachine$Word", "first", "I", false)
  | _ => ("MicroMachine$Word", "second", "I", false)
def tyX0 : Nat → FieldType := fun k => match k with
  | 0 => .int
  | 1 => .int
  | 2 => .int
  | 3 => .int
  | 4 => .int
  | 5 => .int
  | 6 => .boolean
  | 7 => .int
  | 8 => .int
  | _ => .int
theorem nmX0 : ∀ a, a < 10 → ∀ b, b < 10 → a ≠ b → (TX0 a).2.1 ≠ (TX0 b).2.1 := by decide +kernel
theorem tyX0_ok : ∀ k, k < 10 → parseFieldDescriptor (TX0 k).2.2.1 = some (tyX0 k) := by decide +kernel
theorem inX0 : ∀ w ∈ u_ws RX0 TX0 10, w ∈ tg := by decide +kernel
def RX1 : String := "MicroMachine$WordReader"
def TX1 : u_T := fun k => match k with
  | 0 => ("MicroMachine$WordReader", "text", "[C", true)
  | 1 => ("MicroMachine$WordReader", "length", "I", false)
  | 2 => ("MicroMachine$WordReader", "at", "I", false)
  | _ => ("MicroMachine$WordReader", "draft", "LMicroMachine$Word;", false)
def tyX1 : Nat → FieldType := fun k => match k with
  | 0 => .array .char
  | 1 => .int
  | 2 => .int
  | _ => .object "MicroMachine$Word"
theorem nmX1 : ∀ a, a < 4 → ∀ b, b < 4 → a ≠ b → (TX1 a).2.1 ≠ (TX1 b).2.1 := by decide +kernel
theorem tyX1_ok : ∀ k, k < 4 → parseFieldDescriptor (TX1 k).2.2.1 = some (tyX1 k) := by decide +kernel
theorem inX1 : ∀ w ∈ u_ws RX1 TX1 4, w ∈ tg := by decide +kernel
def RX2 : String := "MicroMachine"
def TX2 : u_T := fun k => match k with
  | 0 => ("MicroMachine", "reader", "LMicroMachine$WordReader;", true)
  | 1 => ("MicroMachine", "wrongPlace", "I", false)
  | 2 => ("MicroMachine", "store", "[LMicroMachine$Word;", true)
  | 3 => ("MicroMachine", "wordsThere", "I", false)
  | 4 => ("MicroMachine", "atHand", "I", false)
  | 5 => ("MicroMachine", "registers", "[I", true)
  | 6 => ("MicroMachine", "cells", "[I", true)
  | 7 => ("MicroMachine", "bytes", "[I", true)
  | 8 => ("MicroMachine", "wordComes", "Z", false)
  | 9 => ("MicroMachine", "comingWord", "I", false)
  | 10 => ("MicroMachine", "byteComes", "Z", false)
  | 11 => ("MicroMachine", "comingByte", "I", false)
  | 12 => ("MicroMachine", "cyclesDone", "I", false)
  | 13 => ("MicroMachine", "wordsRead", "I", false)
  | 14 => ("MicroMachine", "wordsWritten", "I", false)
  | _ => ("MicroMachine", "bytesRead", "I", false)
def tyX2 : Nat → FieldType := fun k => match k with
  | 0 => .object "MicroMachine$WordReader"
  | 1 => .int
  | 2 => .array (.object "MicroMachine$Word")
  | 3 => .int
  | 4 => .int
  | 5 => .array .int
  | 6 => .array .int
  | 7 => .array .int
  | 8 => .boolean
  | 9 => .int
  | 10 => .boolean
  | 11 => .int
  | 12 => .int
  | 13 => .int
  | 14 => .int
  | _ => .int
theorem nmX2 : ∀ a, a < 16 → ∀ b, b < 16 → a ≠ b → (TX2 a).2.1 ≠ (TX2 b).2.1 := by decide +kernel
theorem tyX2_ok : ∀ k, k < 16 → parseFieldDescriptor (TX2 k).2.2.1 = some (tyX2 k) := by decide +kernel
theorem inX2 : ∀ w ∈ u_ws RX2 TX2 16, w ∈ tg := by decide +kernel
def RX3 : String := "MicroMachineModel"
def TX3 : u_T := fun k => match k with
  | 0 => ("MicroMachineModel", "text", "[I", true)
  | 1 => ("MicroMachineModel", "registers", "[I", true)
  | 2 => ("MicroMachineModel", "memory", "[I", true)
  | 3 => ("MicroMachineModel", "bytes", "[I", true)
  | 4 => ("MicroMachineModel", "into", "[I", true)
  | 5 => ("MicroMachineModel", "sort", "[I", true)
  | 6 => ("MicroMachineModel", "from", "[I", true)
  | 7 => ("MicroMachineModel", "shift", "[I", true)
  | 8 => ("MicroMachineModel", "words", "[I", true)
  | 9 => ("MicroMachineModel", "fetch", "[I", true)
  | 10 => ("MicroMachineModel", "going", "[I", true)
  | 11 => ("MicroMachineModel", "first", "[I", true)
  | 12 => ("MicroMachineModel", "second", "[I", true)
  | 13 => ("MicroMachineModel", "there", "[Z", true)
  | 14 => ("MicroMachineModel", "length", "I", false)
  | 15 => ("MicroMachineModel", "place", "I", false)
  | 16 => ("MicroMachineModel", "i", "I", false)
  | 17 => ("MicroMachineModel", "parts", "I", false)
  | 18 => ("MicroMachineModel", "hand", "I", false)
  | 19 => ("MicroMachineModel", "cycles", "I", false)
  | 20 => ("MicroMachineModel", "reads", "I", false)
  | 21 => ("MicroMachineModel", "writes", "I", false)
  | 22 => ("MicroMachineModel", "fetches", "I", false)
  | 23 => ("MicroMachineModel", "thrown", "I", false)
  | 24 => ("MicroMachineModel", "wordComes", "Z", false)
  | 25 => ("MicroMachineModel", "byteComes", "Z", false)
  | 26 => ("MicroMachineModel", "word", "I", false)
  | _ => ("MicroMachineModel", "aByte", "I", false)
def tyX3 : Nat → FieldType := fun k => match k with
  | 0 => .array .int
  | 1 => .array .int
  | 2 => .array .int
  | 3 => .array .int
  | 4 => .array .int
  | 5 => .array .int
  | 6 => .array .int
  | 7 => .array .int
  | 8 => .array .int
  | 9 => .array .int
  | 10 => .array .int
  | 11 => .array .int
  | 12 => .array .int
  | 13 => .array .boolean
  | 14 => .int
  | 15 => .int
  | 16 => .int
  | 17 => .int
  | 18 => .int
  | 19 => .int
  | 20 => .int
  | 21 => .int
  | 22 => .int
  | 23 => .int
  | 24 => .boolean
  | 25 => .boolean
  | 26 => .int
  | _ => .int
theorem nmX3 : ∀ a, a < 28 → ∀ b, b < 28 → a ≠ b → (TX3 a).2.1 ≠ (TX3 b).2.1 := by decide +kernel
theorem tyX3_ok : ∀ k, k < 28 → parseFieldDescriptor (TX3 k).2.2.1 = some (tyX3 k) := by decide +kernel
theorem inX3 : ∀ w ∈ u_ws RX3 TX3 28, w ∈ tg := by decide +kernel
def RL : String := "MicroMachineLaw"
abbrev vwCl : List vw_C := [(RX0, TX0, 10), (RX1, TX1, 4), (RX2, TX2, 16), (RX3, TX3, 28)]
abbrev cX2_init : ByteArray := prog_1_method_1_code
def yX2_init : MethodName := ⟨RX2, "<init>", "()V"⟩
abbrev wX2_init : List Cond := .code yX2_init cX2_init 1 none :: tg
theorem kX2_init : Cond.code yX2_init cX2_init 1 none ∈ tg := tg_of 59 (by decide +kernel) rfl
theorem gX2_init : GoodIn tg wX2_init := tg_GoodIn (fun w h => (List.mem_cons.mp h).elim (fun e => e ▸ kX2_init) (fun h => h))
abbrev cX1_init : ByteArray := prog_3_method_1_code
def yX1_init : MethodName := ⟨RX1, "<init>", "()V"⟩
abbrev wX1_init : List Cond := .code yX1_init cX1_init 1 none :: tg
theorem kX1_init : Cond.code yX1_init cX1_init 1 none ∈ tg := tg_of 67 (by decide +kernel) rfl
theorem gX1_init : GoodIn tg wX1_init := tg_GoodIn (fun w h => (List.mem_cons.mp h).elim (fun e => e ▸ kX1_init) (fun h => h))
abbrev cX0_init : ByteArray := prog_2_method_1_code
def yX0_init : MethodName := ⟨RX0, "<init>", "()V"⟩
abbrev wX0_init : List Cond := .code yX0_init cX0_init 1 none :: tg
theorem kX0_init : Cond.code yX0_init cX0_init 1 none ∈ tg := tg_of 73 (by decide +kernel) rfl
theorem gX0_init : GoodIn tg wX0_init := tg_GoodIn (fun w h => (List.mem_cons.mp h).elim (fun e => e ▸ kX0_init) (fun h => h))
abbrev cX2_count : ByteArray := prog_1_method_13_code
def yX2_count : MethodName := ⟨RX2, "count", "(I)I"⟩
abbrev wX2_count : List Cond := .code yX2_count cX2_count 2 (some .int) :: tg
theorem kX2_count : Cond.code yX2_count cX2_count 2 (some .int) ∈ tg := tg_of 191 (by decide +kernel) rfl
theorem gX2_count : GoodIn tg wX2_count := tg_GoodIn (fun w h => (List.mem_cons.mp h).elim (fun e => e ▸ kX2_count) (fun h => h))
abbrev cL_type : ByteArray := method_3_code
def yL_type : MethodName := ⟨RL, "type", "(LMicroMachine;J[J)I"⟩
abbrev wL_type : List Cond := .codeWith yL_type cL_type 5 (some .int) [(0, 9, 12, 13), (0, 9, 16, 15)] :: tg
theorem kL_type : Cond.codeWith yL_type cL_type 5 (some .int) [(0, 9, 12, 13), (0, 9, 16, 15)] ∈ tg := tg_of 194 (by decide +kernel) rfl
theorem gL_type : GoodIn tg wL_type := tg_GoodIn (fun w h => (List.mem_cons.mp h).elim (fun e => e ▸ kL_type) (fun h => h))
abbrev cX2_type : ByteArray := prog_1_method_2_code
def yX2_type : MethodName := ⟨RX2, "type", "(J)I"⟩
abbrev wX2_type : List Cond := .code yX2_type cX2_type 6 (some .int) :: tg
theorem kX2_type : Cond.code yX2_type cX2_type 6 (some .int) ∈ tg := tg_of 200 (by decide +kernel) rfl
theorem gX2_type : GoodIn tg wX2_type := tg_GoodIn (fun w h => (List.mem_cons.mp h).elim (fun e => e ▸ kX2_type) (fun h => h))
abbrev cX2_byteOf : ByteArray := prog_1_method_14_code
def yX2_byteOf : MethodName := ⟨RX2, "byteOf", "(JI)I"⟩
abbrev wX2_byteOf : List Cond := .code yX2_byteOf cX2_byteOf 3 (some .int) :: tg
theorem kX2_byteOf : Cond.code yX2_byteOf cX2_byteOf 3 (some .int) ∈ tg := tg_of 203 (by decide +kernel) rfl
theorem gX2_byteOf : GoodIn tg wX2_byteOf := tg_GoodIn (fun w h => (List.mem_cons.mp h).elim (fun e => e ▸ kX2_byteOf) (fun h => h))
abbrev cX1_add : ByteArray := prog_3_method_2_code
def yX1_add : MethodName := ⟨RX1, "add", "(C)V"⟩
abbrev wX1_add : List Cond := .code yX1_add cX1_add 2 none :: tg
theorem kX1_add : Cond.code yX1_add cX1_add 2 none ∈ tg := tg_of 286 (by decide +kernel) rfl
theorem gX1_add : GoodIn tg wX1_add := tg_GoodIn (fun w h => (List.mem_cons.mp h).elim (fun e => e ▸ kX1_add) (fun h => h))
abbrev cL_word : ByteArray := method_4_code
def yL_word : MethodName := ⟨RL, "word", "(LMicroMachine;I[J)I"⟩
abbrev wL_word : List Cond := .codeWith yL_word cL_word 4 (some .int) [(0, 9, 12, 13)] :: tg
theorem kL_word : Cond.codeWith yL_word cL_word 4 (some .int) [(0, 9, 12, 13)] ∈ tg := tg_of 289 (by decide +kernel) rfl
theorem gL_word : GoodIn tg wL_word := tg_GoodIn (fun w h => (List.mem_cons.mp h).elim (fun e => e ▸ kL_word) (fun h => h))
abbrev cX2_word : ByteArray := prog_1_method_3_code
def yX2_word : MethodName := ⟨RX2, "word", "(I)I"⟩
abbrev wX2_word : List Cond := .code yX2_word cX2_word 3 (some .int) :: tg
theorem kX2_word : Cond.code yX2_word cX2_word 3 (some .int) ∈ tg := tg_of 293 (by decide +kernel) rfl
theorem gX2_word : GoodIn tg wX2_word := tg_GoodIn (fun w h => (List.mem_cons.mp h).elim (fun e => e ▸ kX2_word) (fun h => h))
abbrev cX2_refuseOutside : ByteArray := prog_1_method_16_code
def yX2_refuseOutside : MethodName := ⟨RX2, "refuseOutside", "(II)V"⟩
abbrev wX2_refuseOutside : List Cond := .code yX2_refuseOutside cX2_refuseOutside 2 none :: tg
theorem kX2_refuseOutside : Cond.code yX2_refuseOutside cX2_refuseOutside 2 none ∈ tg := tg_of 296 (by decide +kernel) rfl
theorem gX2_refuseOutside : GoodIn tg wX2_refuseOutside := tg_GoodIn (fun w h => (List.mem_cons.mp h).elim (fun e => e ▸ kX2_refuseOutside) (fun h => h))
abbrev cX2_isOutside : ByteArray := prog_1_method_15_code
def yX2_isOutside : MethodName := ⟨RX2, "isOutside", "(II)Z"⟩
abbrev wX2_isOutside : List Cond := .code yX2_isOutside cX2_isOutside 2 (some .boolean) :: tg
theorem kX2_isOutside : Cond.code yX2_isOutside cX2_isOutside 2 (some .boolean) ∈ tg := tg_of 299 (by decide +kernel) rfl
theorem gX2_isOutside : GoodIn tg wX2_isOutside := tg_GoodIn (fun w h => (List.mem_cons.mp h).elim (fun e => e ▸ kX2_isOutside) (fun h => h))
abbrev cX1_read : ByteArray := prog_3_method_3_code
def yX1_read : MethodName := ⟨RX1, "read", "()LMicroMachine$Word;"⟩
abbrev wX1_read : List Cond := .code yX1_read cX1_read 3 (some (.object "MicroMachine$Word")) :: tg
theorem kX1_read : Cond.code yX1_read cX1_read 3 (some (.object "MicroMachine$Word")) ∈ tg := tg_of 303 (by decide +kernel) rfl
theorem gX1_read : GoodIn tg wX1_read := tg_GoodIn (fun w h => (List.mem_cons.mp h).elim (fun e => e ▸ kX1_read) (fun h => h))
abbrev cX1_readIfThere : ByteArray := prog_3_method_4_code
def yX1_readIfThere : MethodName := ⟨RX1, "readIfThere", "(I)Z"⟩
abbrev wX1_readIfThere : List Cond := .code yX1_readIfThere cX1_readIfThere 2 (some .boolean) :: tg
theorem kX1_readIfThere : Cond.code yX1_readIfThere cX1_readIfThere 2 (some .boolean) ∈ tg := tg_of 307 (by decide +kernel) rfl
theorem gX1_readIfThere : GoodIn tg wX1_readIfThere := tg_GoodIn (fun w h => (List.mem_cons.mp h).elim (fun e => e ▸ kX1_readIfThere) (fun h => h))
abbrev cX1_readSetting : ByteArray := prog_3_method_5_code
def yX1_readSetting : MethodName := ⟨RX1, "readSetting", "()Z"⟩
abbrev wX1_readSetting : List Cond := .code yX1_readSetting cX1_readSetting 2 (some .boolean) :: tg
theorem kX1_readSetting : Cond.code yX1_readSetting cX1_readSetting 2 (some .boolean) ∈ tg := tg_of 311 (by decide +kernel) rfl
theorem gX1_readSetting : GoodIn tg wX1_readSetting := tg_GoodIn (fun w h => (List.mem_cons.mp h).elim (fun e => e ▸ kX1_readSetting) (fun h => h))
abbrev cX1_isAtTarget : ByteArray := prog_3_method_6_code
def yX1_isAtTarget : MethodName := ⟨RX1, "isAtTarget", "()Z"⟩
abbrev wX1_isAtTarget : List Cond := .code yX1_isAtTarget cX1_isAtTarget 3 (some .boolean) :: tg
theorem kX1_isAtTarget : Cond.code yX1_isAtTarget cX1_isAtTarget 3 (some .boolean) ∈ tg := tg_of 315 (by decide +kernel) rfl
theorem gX1_isAtTarget : GoodIn tg wX1_isAtTarget := tg_GoodIn (fun w h => (List.mem_cons.mp h).elim (fun e => e ▸ kX1_isAtTarget) (fun h => h))
abbrev cX0_sets : ByteArray := prog_2_method_2_code
def yX0_sets : MethodName := ⟨RX0, "sets", "(I)Z"⟩
abbrev wX0_sets : List Cond := .code yX0_sets cX0_sets 2 (some .boolean) :: tg
theorem kX0_sets : Cond.code yX0_sets cX0_sets 2 (some .boolean) ∈ tg := tg_of 406 (by decide +kernel) rfl
theorem gX0_sets : GoodIn tg wX0_sets := tg_GoodIn (fun w h => (List.mem_cons.mp h).elim (fun e => e ▸ kX0_sets) (fun h => h))
abbrev cX1_take : ByteArray := prog_3_method_15_code
def yX1_take : MethodName := ⟨RX1, "take", "(C)Z"⟩
abbrev wX1_take : List Cond := .code yX1_take cX1_take 2 (some .boolean) :: tg
theorem kX1_take : Cond.code yX1_take cX1_take 2 (some .boolean) ∈ tg := tg_of 410 (by decide +kernel) rfl
theorem gX1_take : GoodIn tg wX1_take := tg_GoodIn (fun w h => (List.mem_cons.mp h).elim (fun e => e ▸ kX1_take) (fun h => h))
abbrev cX1_readValue : ByteArray := prog_3_method_7_code
def yX1_readValue : MethodName := ⟨RX1, "readValue", "()Z"⟩
abbrev wX1_readValue : List Cond := .code yX1_readValue cX1_readValue 1 (some .boolean) :: tg
theorem kX1_readValue : Cond.code yX1_readValue cX1_readValue 1 (some .boolean) ∈ tg := tg_of 414 (by decide +kernel) rfl
theorem gX1_readValue : GoodIn tg wX1_readValue := tg_GoodIn (fun w h => (List.mem_cons.mp h).elim (fun e => e ▸ kX1_readValue) (fun h => h))
abbrev cX1_does : ByteArray := prog_3_method_10_code
def yX1_does : MethodName := ⟨RX1, "does", "(I)Z"⟩
abbrev wX1_does : List Cond := .code yX1_does cX1_does 2 (some .boolean) :: tg
theorem kX1_does : Cond.code yX1_does cX1_does 2 (some .boolean) ∈ tg := tg_of 418 (by decide +kernel) rfl
theorem gX1_does : GoodIn tg wX1_does := tg_GoodIn (fun w h => (List.mem_cons.mp h).elim (fun e => e ▸ kX1_does) (fun h => h))
abbrev cX1_takeSource : ByteArray := prog_3_method_14_code
def yX1_takeSource : MethodName := ⟨RX1, "takeSource", "()Z"⟩
abbrev wX1_takeSource : List Cond := .code yX1_takeSource cX1_takeSource 2 (some .boolean) :: tg
theorem kX1_takeSource : Cond.code yX1_takeSource cX1_takeSource 2 (some .boolean) ∈ tg := tg_of 422 (by decide +kernel) rfl
theorem gX1_takeSource : GoodIn tg wX1_takeSource := tg_GoodIn (fun w h => (List.mem_cons.mp h).elim (fun e => e ▸ kX1_takeSource) (fun h => h))
abbrev cX1_readBehindH : ByteArray := prog_3_method_8_code
def yX1_readBehindH : MethodName := ⟨RX1, "readBehindH", "()Z"⟩
abbrev wX1_readBehindH : List Cond := .code yX1_readBehindH cX1_readBehindH 1 (some .boolean) :: tg
theorem kX1_readBehindH : Cond.code yX1_readBehindH cX1_readBehindH 1 (some .boolean) ∈ tg := tg_of 426 (by decide +kernel) rfl
theorem gX1_readBehindH : GoodIn tg wX1_readBehindH := tg_GoodIn (fun w h => (List.mem_cons.mp h).elim (fun e => e ▸ kX1_readBehindH) (fun h => h))
abbrev cX1_readBehindSource : ByteArray := prog_3_method_9_code
def yX1_readBehindSource : MethodName := ⟨RX1, "readBehindSource", "()Z"⟩
abbrev wX1_readBehindSource : List Cond := .code yX1_readBehindSource cX1_readBehindSource 1 (some .boolean) :: tg
theorem kX1_readBehindSource : Cond.code yX1_readBehindSource cX1_readBehindSource 1 (some .boolean) ∈ tg := tg_of 430 (by decide +kernel) rfl
theorem gX1_readBehindSource : GoodIn tg wX1_readBehindSource := tg_GoodIn (fun w h => (List.mem_cons.mp h).elim (fun e => e ▸ kX1_readBehindSource) (fun h => h))
abbrev cX1_readGoing : ByteArray := prog_3_method_11_code
def yX1_readGoing : MethodName := ⟨RX1, "readGoing", "()Z"⟩
abbrev wX1_readGoing : List Cond := .code yX1_readGoing cX1_readGoing 1 (some .boolean) :: tg
theorem kX1_readGoing : Cond.code yX1_readGoing cX1_readGoing 1 (some .boolean) ∈ tg := tg_of 434 (by decide +kernel) rfl
theorem gX1_readGoing : GoodIn tg wX1_readGoing := tg_GoodIn (fun w h => (List.mem_cons.mp h).elim (fun e => e ▸ kX1_readGoing) (fun h => h))
abbrev cX1_takeNumber : ByteArray := prog_3_method_12_code
def yX1_takeNumber : MethodName := ⟨RX1, "takeNumber", "()I"⟩
abbrev wX1_takeNumber : List Cond := .code yX1_takeNumber cX1_takeNumber 3 (some .int) :: tg
theorem kX1_takeNumber : Cond.code yX1_takeNumber cX1_takeNumber 3 (some .int) ∈ tg := tg_of 439 (by decide +kernel) rfl
theorem gX1_takeNumber : GoodIn tg wX1_takeNumber := tg_GoodIn (fun w h => (List.mem_cons.mp h).elim (fun e => e ▸ kX1_takeNumber) (fun h => h))
abbrev cX1_takeDigit : ByteArray := prog_3_method_13_code
def yX1_takeDigit : MethodName := ⟨RX1, "takeDigit", "(I)I"⟩
abbrev wX1_takeDigit : List Cond := .code yX1_takeDigit cX1_takeDigit 3 (some .int) :: tg
theorem kX1_takeDigit : Cond.code yX1_takeDigit cX1_takeDigit 3 (some .int) ∈ tg := tg_of 443 (by decide +kernel) rfl
theorem gX1_takeDigit : GoodIn tg wX1_takeDigit := tg_GoodIn (fun w h => (List.mem_cons.mp h).elim (fun e => e ▸ kX1_takeDigit) (fun h => h))
abbrev cL_erase : ByteArray := method_5_code
def yL_erase : MethodName := ⟨RL, "erase", "(LMicroMachine;I)I"⟩
abbrev wL_erase : List Cond := .codeWith yL_erase cL_erase 3 (some .int) [(0, 5, 8, 13), (0, 5, 11, 25)] :: tg
theorem kL_erase : Cond.codeWith yL_erase cL_erase 3 (some .int) [(0, 5, 8, 13), (0, 5, 11, 25)] ∈ tg := tg_of 447 (by decide +kernel) rfl
theorem gL_erase : GoodIn tg wL_erase := tg_GoodIn (fun w h => (List.mem_cons.mp h).elim (fun e => e ▸ kL_erase) (fun h => h))
abbrev cX2_erase : ByteArray := prog_1_method_4_code
def yX2_erase : MethodName := ⟨RX2, "erase", "(I)V"⟩
abbrev wX2_erase : List Cond := .code yX2_erase cX2_erase 2 none :: tg
theorem kX2_erase : Cond.code yX2_erase cX2_erase 2 none ∈ tg := tg_of 452 (by decide +kernel) rfl
theorem gX2_erase : GoodIn tg wX2_erase := tg_GoodIn (fun w h => (List.mem_cons.mp h).elim (fun e => e ▸ kX2_erase) (fun h => h))
abbrev cL_begin : ByteArray := method_6_code
def yL_begin : MethodName := ⟨RL, "begin", "(LMicroMachine;I)I"⟩
abbrev wL_begin : List Cond := .codeWith yL_begin cL_begin 3 (some .int) [(0, 5, 8, 13)] :: tg
theorem kL_begin : Cond.codeWith yL_begin cL_begin 3 (some .int) [(0, 5, 8, 13)] ∈ tg := tg_of 470 (by decide +kernel) rfl
theorem gL_begin : GoodIn tg wL_begin := tg_GoodIn (fun w h => (List.mem_cons.mp h).elim (fun e => e ▸ kL_begin) (fun h => h))
abbrev cX2_begin : ByteArray := prog_1_method_5_code
def yX2_begin : MethodName := ⟨RX2, "begin", "(I)V"⟩
abbrev wX2_begin : List Cond := .code yX2_begin cX2_begin 2 none :: tg
theorem kX2_begin : Cond.code yX2_begin cX2_begin 2 none ∈ tg := tg_of 474 (by decide +kernel) rfl
theorem gX2_begin : GoodIn tg wX2_begin := tg_GoodIn (fun w h => (List.mem_cons.mp h).elim (fun e => e ▸ kX2_begin) (fun h => h))
abbrev cL_run : ByteArray := method_7_code
def yL_run : MethodName := ⟨RL, "run", "(LMicroMachine;I[J)I"⟩
abbrev wL_run : List Cond := .codeWith yL_run cL_run 4 (some .int) [(0, 9, 12, 13), (0, 9, 15, 25), (0, 9, 18, 33)] :: tg
theorem kL_run : Cond.codeWith yL_run cL_run 4 (some .int) [(0, 9, 12, 13), (0, 9, 15, 25), (0, 9, 18, 33)] ∈ tg := tg_of 477 (by decide +kernel) rfl
theorem gL_run : GoodIn tg wL_run := tg_GoodIn (fun w h => (List.mem_cons.mp h).elim (fun e => e ▸ kL_run) (fun h => h))
abbrev cX2_run : ByteArray := prog_1_method_6_code
def yX2_run : MethodName := ⟨RX2, "run", "(I)I"⟩
abbrev wX2_run : List Cond := .code yX2_run cX2_run 4 (some .int) :: tg
theorem kX2_run : Cond.code yX2_run cX2_run 4 (some .int) ∈ tg := tg_of 482 (by decide +kernel) rfl
theorem gX2_run : GoodIn tg wX2_run := tg_GoodIn (fun w h => (List.mem_cons.mp h).elim (fun e => e ▸ kX2_run) (fun h => h))
abbrev cX2_doCycle : ByteArray := prog_1_method_17_code
def yX2_doCycle : MethodName := ⟨RX2, "doCycle", "(LMicroMachine$Word;)V"⟩
abbrev wX2_doCycle : List Cond := .code yX2_doCycle cX2_doCycle 7 none :: tg
theorem kX2_doCycle : Cond.code yX2_doCycle cX2_doCycle 7 none ∈ tg := tg_of 486 (by decide +kernel) rfl
theorem gX2_doCycle : GoodIn tg wX2_doCycle := tg_GoodIn (fun w h => (List.mem_cons.mp h).elim (fun e => e ▸ kX2_doCycle) (fun h => h))
abbrev cX2_valueOf : ByteArray := prog_1_method_18_code
def yX2_valueOf : MethodName := ⟨RX2, "valueOf", "(LMicroMachine$Word;)I"⟩
abbrev wX2_valueOf : List Cond := .code yX2_valueOf cX2_valueOf 4 (some .int) :: tg
theorem kX2_valueOf : Cond.code yX2_valueOf cX2_valueOf 4 (some .int) ∈ tg := tg_of 490 (by decide +kernel) rfl
theorem gX2_valueOf : GoodIn tg wX2_valueOf := tg_GoodIn (fun w h => (List.mem_cons.mp h).elim (fun e => e ▸ kX2_valueOf) (fun h => h))
abbrev cX2_busOf : ByteArray := prog_1_method_19_code
def yX2_busOf : MethodName := ⟨RX2, "busOf", "(I)I"⟩
abbrev wX2_busOf : List Cond := .code yX2_busOf cX2_busOf 2 (some .int) :: tg
theorem kX2_busOf : Cond.code yX2_busOf cX2_busOf 2 (some .int) ∈ tg := tg_of 494 (by decide +kernel) rfl
theorem gX2_busOf : GoodIn tg wX2_busOf := tg_GoodIn (fun w h => (List.mem_cons.mp h).elim (fun e => e ▸ kX2_busOf) (fun h => h))
abbrev cX2_shiftedBy : ByteArray := prog_1_method_20_code
def yX2_shiftedBy : MethodName := ⟨RX2, "shiftedBy", "(II)I"⟩
abbrev wX2_shiftedBy : List Cond := .code yX2_shiftedBy cX2_shiftedBy 2 (some .int) :: tg
theorem kX2_shiftedBy : Cond.code yX2_shiftedBy cX2_shiftedBy 2 (some .int) ∈ tg := tg_of 497 (by decide +kernel) rfl
theorem gX2_shiftedBy : GoodIn tg wX2_shiftedBy := tg_GoodIn (fun w h => (List.mem_cons.mp h).elim (fun e => e ▸ kX2_shiftedBy) (fun h => h))
abbrev cX2_askForWord : ByteArray := prog_1_method_21_code
def yX2_askForWord : MethodName := ⟨RX2, "askForWord", "(II)V"⟩
abbrev wX2_askForWord : List Cond := .code yX2_askForWord cX2_askForWord 5 none :: tg
theorem kX2_askForWord : Cond.code yX2_askForWord cX2_askForWord 5 none ∈ tg := tg_of 517 (by decide +kernel) rfl
theorem gX2_askForWord : GoodIn tg wX2_askForWord := tg_GoodIn (fun w h => (List.mem_cons.mp h).elim (fun e => e ▸ kX2_askForWord) (fun h => h))
abbrev cX2_askForByte : ByteArray := prog_1_method_22_code
def yX2_askForByte : MethodName := ⟨RX2, "askForByte", "(ZI)V"⟩
abbrev wX2_askForByte : List Cond := .code yX2_askForByte cX2_askForByte 5 none :: tg
theorem kX2_askForByte : Cond.code yX2_askForByte cX2_askForByte 5 none ∈ tg := tg_of 521 (by decide +kernel) rfl
theorem gX2_askForByte : GoodIn tg wX2_askForByte := tg_GoodIn (fun w h => (List.mem_cons.mp h).elim (fun e => e ▸ kX2_askForByte) (fun h => h))
abbrev cX2_wordBehind : ByteArray := prog_1_method_23_code
def yX2_wordBehind : MethodName := ⟨RX2, "wordBehind", "(LMicroMachine$Word;I)I"⟩
abbrev wX2_wordBehind : List Cond := .code yX2_wordBehind cX2_wordBehind 3 (some .int) :: tg
theorem kX2_wordBehind : Cond.code yX2_wordBehind cX2_wordBehind 3 (some .int) ∈ tg := tg_of 525 (by decide +kernel) rfl
theorem gX2_wordBehind : GoodIn tg wX2_wordBehind := tg_GoodIn (fun w h => (List.mem_cons.mp h).elim (fun e => e ▸ kX2_wordBehind) (fun h => h))
abbrev cL_set : ByteArray := method_8_code
def yL_set : MethodName := ⟨RL, "set", "(LMicroMachine;II)I"⟩
abbrev wL_set : List Cond := .codeWith yL_set cL_set 4 (some .int) [(0, 6, 9, 13)] :: tg
theorem kL_set : Cond.codeWith yL_set cL_set 4 (some .int) [(0, 6, 9, 13)] ∈ tg := tg_of 529 (by decide +kernel) rfl
theorem gL_set : GoodIn tg wL_set := tg_GoodIn (fun w h => (List.mem_cons.mp h).elim (fun e => e ▸ kL_set) (fun h => h))
abbrev cX2_set : ByteArray := prog_1_method_7_code
def yX2_set : MethodName := ⟨RX2, "set", "(II)V"⟩
abbrev wX2_set : List Cond := .code yX2_set cX2_set 3 none :: tg
theorem kX2_set : Cond.code yX2_set cX2_set 3 none ∈ tg := tg_of 533 (by decide +kernel) rfl
theorem gX2_set : GoodIn tg wX2_set := tg_GoodIn (fun w h => (List.mem_cons.mp h).elim (fun e => e ▸ kX2_set) (fun h => h))
abbrev cL_register : ByteArray := method_9_code
def yL_register : MethodName := ⟨RL, "register", "(LMicroMachine;I[J)I"⟩
abbrev wL_register : List Cond := .codeWith yL_register cL_register 4 (some .int) [(0, 9, 12, 13)] :: tg
theorem kL_register : Cond.codeWith yL_register cL_register 4 (some .int) [(0, 9, 12, 13)] ∈ tg := tg_of 536 (by decide +kernel) rfl
theorem gL_register : GoodIn tg wL_register := tg_GoodIn (fun w h => (List.mem_cons.mp h).elim (fun e => e ▸ kL_register) (fun h => h))
abbrev cX2_register : ByteArray := prog_1_method_8_code
def yX2_register : MethodName := ⟨RX2, "register", "(I)I"⟩
abbrev wX2_register : List Cond := .code yX2_register cX2_register 2 (some .int) :: tg
theorem kX2_register : Cond.code yX2_register cX2_register 2 (some .int) ∈ tg := tg_of 540 (by decide +kernel) rfl
theorem gX2_register : GoodIn tg wX2_register := tg_GoodIn (fun w h => (List.mem_cons.mp h).elim (fun e => e ▸ kX2_register) (fun h => h))
abbrev cL_poke : ByteArray := method_10_code
def yL_poke : MethodName := ⟨RL, "poke", "(LMicroMachine;II)I"⟩
abbrev wL_poke : List Cond := .codeWith yL_poke cL_poke 4 (some .int) [(0, 6, 9, 13)] :: tg
theorem kL_poke : Cond.codeWith yL_poke cL_poke 4 (some .int) [(0, 6, 9, 13)] ∈ tg := tg_of 543 (by decide +kernel) rfl
theorem gL_poke : GoodIn tg wL_poke := tg_GoodIn (fun w h => (List.mem_cons.mp h).elim (fun e => e ▸ kL_poke) (fun h => h))
abbrev cX2_poke : ByteArray := prog_1_method_9_code
def yX2_poke : MethodName := ⟨RX2, "poke", "(II)V"⟩
abbrev wX2_poke : List Cond := .code yX2_poke cX2_poke 3 none :: tg
theorem kX2_poke : Cond.code yX2_poke cX2_poke 3 none ∈ tg := tg_of 547 (by decide +kernel) rfl
theorem gX2_poke : GoodIn tg wX2_poke := tg_GoodIn (fun w h => (List.mem_cons.mp h).elim (fun e => e ▸ kX2_poke) (fun h => h))
abbrev cL_memory : ByteArray := method_11_code
def yL_memory : MethodName := ⟨RL, "memory", "(LMicroMachine;I[J)I"⟩
abbrev wL_memory : List Cond := .codeWith yL_memory cL_memory 4 (some .int) [(0, 9, 12, 13)] :: tg
theorem kL_memory : Cond.codeWith yL_memory cL_memory 4 (some .int) [(0, 9, 12, 13)] ∈ tg := tg_of 550 (by decide +kernel) rfl
theorem gL_memory : GoodIn tg wL_memory := tg_GoodIn (fun w h => (List.mem_cons.mp h).elim (fun e => e ▸ kL_memory) (fun h => h))
abbrev cX2_memory : ByteArray := prog_1_method_10_code
def yX2_memory : MethodName := ⟨RX2, "memory", "(I)I"⟩
abbrev wX2_memory : List Cond := .code yX2_memory cX2_memory 2 (some .int) :: tg
theorem kX2_memory : Cond.code yX2_memory cX2_memory 2 (some .int) ∈ tg := tg_of 554 (by decide +kernel) rfl
theorem gX2_memory : GoodIn tg wX2_memory := tg_GoodIn (fun w h => (List.mem_cons.mp h).elim (fun e => e ▸ kX2_memory) (fun h => h))
abbrev cL_code : ByteArray := method_12_code
def yL_code : MethodName := ⟨RL, "code", "(LMicroMachine;II)I"⟩
abbrev wL_code : List Cond := .codeWith yL_code cL_code 4 (some .int) [(0, 6, 9, 13)] :: tg
theorem kL_code : Cond.codeWith yL_code cL_code 4 (some .int) [(0, 6, 9, 13)] ∈ tg := tg_of 557 (by decide +kernel) rfl
theorem gL_code : GoodIn tg wL_code := tg_GoodIn (fun w h => (List.mem_cons.mp h).elim (fun e => e ▸ kL_code) (fun h => h))
abbrev cX2_code : ByteArray := prog_1_method_11_code
def yX2_code : MethodName := ⟨RX2, "code", "(II)V"⟩
abbrev wX2_code : List Cond := .code yX2_code cX2_code 3 none :: tg
theorem kX2_code : Cond.code yX2_code cX2_code 3 none ∈ tg := tg_of 561 (by decide +kernel) rfl
theorem gX2_code : GoodIn tg wX2_code := tg_GoodIn (fun w h => (List.mem_cons.mp h).elim (fun e => e ▸ kX2_code) (fun h => h))
abbrev cL_told : ByteArray := method_13_code
def yL_told : MethodName := ⟨RL, "told", "(LMicroMachine;II[J)I"⟩
abbrev wL_told : List Cond := .codeWith yL_told cL_told 5 (some .int) [(0, 10, 13, 13), (0, 10, 17, 25)] :: tg
theorem kL_told : Cond.codeWith yL_told cL_told 5 (some .int) [(0, 10, 13, 13), (0, 10, 17, 25)] ∈ tg := tg_of 564 (by decide +kernel) rfl
theorem gL_told : GoodIn tg wL_told := tg_GoodIn (fun w h => (List.mem_cons.mp h).elim (fun e => e ▸ kL_told) (fun h => h))
abbrev cX2_told : ByteArray := prog_1_method_12_code
def yX2_told : MethodName := ⟨RX2, "told", "(II)I"⟩
abbrev wX2_told : List Cond := .code yX2_told cX2_told 4 (some .int) :: tg
theorem kX2_told : Cond.code yX2_told cX2_told 4 (some .int) ∈ tg := tg_of 568 (by decide +kernel) rfl
theorem gX2_told : GoodIn tg wX2_told := tg_GoodIn (fun w h => (List.mem_cons.mp h).elim (fun e => e ▸ kX2_told) (fun h => h))
abbrev cX3_init : ByteArray := prog_5_method_1_code
def yX3_init : MethodName := ⟨RX3, "<init>", "()V"⟩
abbrev wX3_init : List Cond := .code yX3_init cX3_init 1 none :: tg
theorem kX3_init : Cond.code yX3_init cX3_init 1 none ∈ tg := tg_of 573 (by decide +kernel) rfl
theorem gX3_init : GoodIn tg wX3_init := tg_GoodIn (fun w h => (List.mem_cons.mp h).elim (fun e => e ▸ kX3_init) (fun h => h))
abbrev cX3_thrown : ByteArray := prog_5_method_2_code
def yX3_thrown : MethodName := ⟨RX3, "thrown", "()I"⟩
abbrev wX3_thrown : List Cond := .code yX3_thrown cX3_thrown 1 (some .int) :: tg
theorem kX3_thrown : Cond.code yX3_thrown cX3_thrown 1 (some .int) ∈ tg := tg_of 664 (by decide +kernel) rfl
theorem gX3_thrown : GoodIn tg wX3_thrown := tg_GoodIn (fun w h => (List.mem_cons.mp h).elim (fun e => e ▸ kX3_thrown) (fun h => h))
abbrev cX3_type : ByteArray := prog_5_method_3_code
def yX3_type : MethodName := ⟨RX3, "type", "(J)I"⟩
abbrev wX3_type : List Cond := .code yX3_type cX3_type 6 (some .int) :: tg
theorem kX3_type : Cond.code yX3_type cX3_type 6 (some .int) ∈ tg := tg_of 668 (by decide +kernel) rfl
theorem gX3_type : GoodIn tg wX3_type := tg_GoodIn (fun w h => (List.mem_cons.mp h).elim (fun e => e ▸ kX3_type) (fun h => h))
abbrev cX3_word : ByteArray := prog_5_method_16_code
def yX3_word : MethodName := ⟨RX3, "word", "(I)I"⟩
abbrev wX3_word : List Cond := .code yX3_word cX3_word 3 (some .int) :: tg
theorem kX3_word : Cond.code yX3_word cX3_word 3 (some .int) ∈ tg := tg_of 672 (by decide +kernel) rfl
theorem gX3_word : GoodIn tg wX3_word := tg_GoodIn (fun w h => (List.mem_cons.mp h).elim (fun e => e ▸ kX3_word) (fun h => h))
abbrev cX3_reads : ByteArray := prog_5_method_15_code
def yX3_reads : MethodName := ⟨RX3, "reads", "()Z"⟩
abbrev wX3_reads : List Cond := .code yX3_reads cX3_reads 5 (some .boolean) :: tg
theorem kX3_reads : Cond.code yX3_reads cX3_reads 5 (some .boolean) ∈ tg := tg_of 676 (by decide +kernel) rfl
theorem gX3_reads : GoodIn tg wX3_reads := tg_GoodIn (fun w h => (List.mem_cons.mp h).elim (fun e => e ▸ kX3_reads) (fun h => h))
abbrev cX3_look : ByteArray := prog_5_method_4_code
def yX3_look : MethodName := ⟨RX3, "look", "()I"⟩
abbrev wX3_look : List Cond := .code yX3_look cX3_look 1 (some .int) :: tg
theorem kX3_look : Cond.code yX3_look cX3_look 1 (some .int) ∈ tg := tg_of 680 (by decide +kernel) rfl
theorem gX3_look : GoodIn tg wX3_look := tg_GoodIn (fun w h => (List.mem_cons.mp h).elim (fun e => e ▸ kX3_look) (fun h => h))
abbrev cX3_settable : ByteArray := prog_5_method_6_code
def yX3_settable : MethodName := ⟨RX3, "settable", "(I)I"⟩
abbrev wX3_settable : List Cond := .code yX3_settable cX3_settable 2 (some .int) :: tg
theorem kX3_settable : Cond.code yX3_settable cX3_settable 2 (some .int) ∈ tg := tg_of 684 (by decide +kernel) rfl
theorem gX3_settable : GoodIn tg wX3_settable := tg_GoodIn (fun w h => (List.mem_cons.mp h).elim (fun e => e ▸ kX3_settable) (fun h => h))
abbrev cX3_setting : ByteArray := prog_5_method_11_code
def yX3_setting : MethodName := ⟨RX3, "setting", "()Z"⟩
abbrev wX3_setting : List Cond := .code yX3_setting cX3_setting 7 (some .boolean) :: tg
theorem kX3_setting : Cond.code yX3_setting cX3_setting 7 (some .boolean) ∈ tg := tg_of 688 (by decide +kernel) rfl
theorem gX3_setting : GoodIn tg wX3_setting := tg_GoodIn (fun w h => (List.mem_cons.mp h).elim (fun e => e ▸ kX3_setting) (fun h => h))
abbrev cX3_has : ByteArray := prog_5_method_5_code
def yX3_has : MethodName := ⟨RX3, "has", "(I)Z"⟩
abbrev wX3_has : List Cond := .code yX3_has cX3_has 2 (some .boolean) :: tg
theorem kX3_has : Cond.code yX3_has cX3_has 2 (some .boolean) ∈ tg := tg_of 692 (by decide +kernel) rfl
theorem gX3_has : GoodIn tg wX3_has := tg_GoodIn (fun w h => (List.mem_cons.mp h).elim (fun e => e ▸ kX3_has) (fun h => h))
abbrev cX3_value : ByteArray := prog_5_method_10_code
def yX3_value : MethodName := ⟨RX3, "value", "()Z"⟩
abbrev wX3_value : List Cond := .code yX3_value cX3_value 1 (some .boolean) :: tg
theorem kX3_value : Cond.code yX3_value cX3_value 1 (some .boolean) ∈ tg := tg_of 696 (by decide +kernel) rfl
theorem gX3_value : GoodIn tg wX3_value := tg_GoodIn (fun w h => (List.mem_cons.mp h).elim (fun e => e ▸ kX3_value) (fun h => h))
abbrev cX3_plain : ByteArray := prog_5_method_9_code
def yX3_plain : MethodName := ⟨RX3, "plain", "(I)Z"⟩
abbrev wX3_plain : List Cond := .code yX3_plain cX3_plain 2 (some .boolean) :: tg
theorem kX3_plain : Cond.code yX3_plain cX3_plain 2 (some .boolean) ∈ tg := tg_of 700 (by decide +kernel) rfl
theorem gX3_plain : GoodIn tg wX3_plain := tg_GoodIn (fun w h => (List.mem_cons.mp h).elim (fun e => e ▸ kX3_plain) (fun h => h))
abbrev cX3_bus : ByteArray := prog_5_method_8_code
def yX3_bus : MethodName := ⟨RX3, "bus", "(I)Z"⟩
abbrev wX3_bus : List Cond := .code yX3_bus cX3_bus 2 (some .boolean) :: tg
theorem kX3_bus : Cond.code yX3_bus cX3_bus 2 (some .boolean) ∈ tg := tg_of 704 (by decide +kernel) rfl
theorem gX3_bus : GoodIn tg wX3_bus := tg_GoodIn (fun w h => (List.mem_cons.mp h).elim (fun e => e ▸ kX3_bus) (fun h => h))
abbrev cX3_onBus : ByteArray := prog_5_method_7_code
def yX3_onBus : MethodName := ⟨RX3, "onBus", "(I)I"⟩
abbrev wX3_onBus : List Cond := .code yX3_onBus cX3_onBus 2 (some .int) :: tg
theorem kX3_onBus : Cond.code yX3_onBus cX3_onBus 2 (some .int) ∈ tg := tg_of 708 (by decide +kernel) rfl
theorem gX3_onBus : GoodIn tg wX3_onBus := tg_GoodIn (fun w h => (List.mem_cons.mp h).elim (fun e => e ▸ kX3_onBus) (fun h => h))
abbrev cX3_asking : ByteArray := prog_5_method_14_code
def yX3_asking : MethodName := ⟨RX3, "asking", "(I)Z"⟩
abbrev wX3_asking : List Cond := .code yX3_asking cX3_asking 2 (some .boolean) :: tg
theorem kX3_asking : Cond.code yX3_asking cX3_asking 2 (some .boolean) ∈ tg := tg_of 712 (by decide +kernel) rfl
theorem gX3_asking : GoodIn tg wX3_asking := tg_GoodIn (fun w h => (List.mem_cons.mp h).elim (fun e => e ▸ kX3_asking) (fun h => h))
abbrev cX3_going : ByteArray := prog_5_method_13_code
def yX3_going : MethodName := ⟨RX3, "going", "(I)Z"⟩
abbrev wX3_going : List Cond := .code yX3_going cX3_going 2 (some .boolean) :: tg
theorem kX3_going : Cond.code yX3_going cX3_going 2 (some .boolean) ∈ tg := tg_of 716 (by decide +kernel) rfl
theorem gX3_going : GoodIn tg wX3_going := tg_GoodIn (fun w h => (List.mem_cons.mp h).elim (fun e => e ▸ kX3_going) (fun h => h))
abbrev cX3_number : ByteArray := prog_5_method_12_code
def yX3_number : MethodName := ⟨RX3, "number", "()I"⟩
abbrev wX3_number : List Cond := .code yX3_number cX3_number 3 (some .int) :: tg
theorem kX3_number : Cond.code yX3_number cX3_number 3 (some .int) ∈ tg := tg_of 720 (by decide +kernel) rfl
theorem gX3_number : GoodIn tg wX3_number := tg_GoodIn (fun w h => (List.mem_cons.mp h).elim (fun e => e ▸ kX3_number) (fun h => h))
abbrev cX3_erase : ByteArray := prog_5_method_17_code
def yX3_erase : MethodName := ⟨RX3, "erase", "(I)V"⟩
abbrev wX3_erase : List Cond := .code yX3_erase cX3_erase 2 none :: tg
theorem kX3_erase : Cond.code yX3_erase cX3_erase 2 none ∈ tg := tg_of 724 (by decide +kernel) rfl
theorem gX3_erase : GoodIn tg wX3_erase := tg_GoodIn (fun w h => (List.mem_cons.mp h).elim (fun e => e ▸ kX3_erase) (fun h => h))
abbrev cX3_begin : ByteArray := prog_5_method_18_code
def yX3_begin : MethodName := ⟨RX3, "begin", "(I)V"⟩
abbrev wX3_begin : List Cond := .code yX3_begin cX3_begin 2 none :: tg
theorem kX3_begin : Cond.code yX3_begin cX3_begin 2 none ∈ tg := tg_of 728 (by decide +kernel) rfl
theorem gX3_begin : GoodIn tg wX3_begin := tg_GoodIn (fun w h => (List.mem_cons.mp h).elim (fun e => e ▸ kX3_begin) (fun h => h))
abbrev cX3_run : ByteArray := prog_5_method_22_code
def yX3_run : MethodName := ⟨RX3, "run", "(I)I"⟩
abbrev wX3_run : List Cond := .code yX3_run cX3_run 3 (some .int) :: tg
theorem kX3_run : Cond.code yX3_run cX3_run 3 (some .int) ∈ tg := tg_of 732 (by decide +kernel) rfl
theorem gX3_run : GoodIn tg wX3_run := tg_GoodIn (fun w h => (List.mem_cons.mp h).elim (fun e => e ▸ kX3_run) (fun h => h))
abbrev cX3_cycle : ByteArray := prog_5_method_21_code
def yX3_cycle : MethodName := ⟨RX3, "cycle", "(I)V"⟩
abbrev wX3_cycle : List Cond := .code yX3_cycle cX3_cycle 9 none :: tg
theorem kX3_cycle : Cond.code yX3_cycle cX3_cycle 9 none ∈ tg := tg_of 736 (by decide +kernel) rfl
theorem gX3_cycle : GoodIn tg wX3_cycle := tg_GoodIn (fun w h => (List.mem_cons.mp h).elim (fun e => e ▸ kX3_cycle) (fun h => h))
abbrev cX3_result : ByteArray := prog_5_method_19_code
def yX3_result : MethodName := ⟨RX3, "result", "(I)I"⟩
abbrev wX3_result : List Cond := .code yX3_result cX3_result 5 (some .int) :: tg
theorem kX3_result : Cond.code yX3_result cX3_result 5 (some .int) ∈ tg := tg_of 740 (by decide +kernel) rfl
theorem gX3_result : GoodIn tg wX3_result := tg_GoodIn (fun w h => (List.mem_cons.mp h).elim (fun e => e ▸ kX3_result) (fun h => h))
abbrev cX3_then : ByteArray := prog_5_method_20_code
def yX3_then : MethodName := ⟨RX3, "then", "(III)I"⟩
abbrev wX3_then : List Cond := .code yX3_then cX3_then 4 (some .int) :: tg
theorem kX3_then : Cond.code yX3_then cX3_then 4 (some .int) ∈ tg := tg_of 744 (by decide +kernel) rfl
theorem gX3_then : GoodIn tg wX3_then := tg_GoodIn (fun w h => (List.mem_cons.mp h).elim (fun e => e ▸ kX3_then) (fun h => h))
abbrev cX3_set : ByteArray := prog_5_method_23_code
def yX3_set : MethodName := ⟨RX3, "set", "(II)V"⟩
abbrev wX3_set : List Cond := .code yX3_set cX3_set 3 none :: tg
theorem kX3_set : Cond.code yX3_set cX3_set 3 none ∈ tg := tg_of 748 (by decide +kernel) rfl
theorem gX3_set : GoodIn tg wX3_set := tg_GoodIn (fun w h => (List.mem_cons.mp h).elim (fun e => e ▸ kX3_set) (fun h => h))
abbrev cX3_register : ByteArray := prog_5_method_24_code
def yX3_register : MethodName := ⟨RX3, "register", "(I)I"⟩
abbrev wX3_register : List Cond := .code yX3_register cX3_register 2 (some .int) :: tg
theorem kX3_register : Cond.code yX3_register cX3_register 2 (some .int) ∈ tg := tg_of 752 (by decide +kernel) rfl
theorem gX3_register : GoodIn tg wX3_register := tg_GoodIn (fun w h => (List.mem_cons.mp h).elim (fun e => e ▸ kX3_register) (fun h => h))
abbrev cX3_poke : ByteArray := prog_5_method_25_code
def yX3_poke : MethodName := ⟨RX3, "poke", "(II)V"⟩
abbrev wX3_poke : List Cond := .code yX3_poke cX3_poke 3 none :: tg
theorem kX3_poke : Cond.code yX3_poke cX3_poke 3 none ∈ tg := tg_of 756 (by decide +kernel) rfl
theorem gX3_poke : GoodIn tg wX3_poke := tg_GoodIn (fun w h => (List.mem_cons.mp h).elim (fun e => e ▸ kX3_poke) (fun h => h))
abbrev cX3_memory : ByteArray := prog_5_method_26_code
def yX3_memory : MethodName := ⟨RX3, "memory", "(I)I"⟩
abbrev wX3_memory : List Cond := .code yX3_memory cX3_memory 2 (some .int) :: tg
theorem kX3_memory : Cond.code yX3_memory cX3_memory 2 (some .int) ∈ tg := tg_of 760 (by decide +kernel) rfl
theorem gX3_memory : GoodIn tg wX3_memory := tg_GoodIn (fun w h => (List.mem_cons.mp h).elim (fun e => e ▸ kX3_memory) (fun h => h))
abbrev cX3_code : ByteArray := prog_5_method_27_code
def yX3_code : MethodName := ⟨RX3, "code", "(II)V"⟩
abbrev wX3_code : List Cond := .code yX3_code cX3_code 3 none :: tg
theorem kX3_code : Cond.code yX3_code cX3_code 3 none ∈ tg := tg_of 764 (by decide +kernel) rfl
theorem gX3_code : GoodIn tg wX3_code := tg_GoodIn (fun w h => (List.mem_cons.mp h).elim (fun e => e ▸ kX3_code) (fun h => h))
abbrev cX3_told : ByteArray := prog_5_method_28_code
def yX3_told : MethodName := ⟨RX3, "told", "(II)I"⟩
abbrev wX3_told : List Cond := .code yX3_told cX3_told 3 (some .int) :: tg
theorem kX3_told : Cond.code yX3_told cX3_told 3 (some .int) ∈ tg := tg_of 768 (by decide +kernel) rfl
theorem gX3_told : GoodIn tg wX3_told := tg_GoodIn (fun w h => (List.mem_cons.mp h).elim (fun e => e ▸ kX3_told) (fun h => h))
abbrev cX3_count : ByteArray := prog_5_method_29_code
def yX3_count : MethodName := ⟨RX3, "count", "(I)I"⟩
abbrev wX3_count : List Cond := .code yX3_count cX3_count 4 (some .int) :: tg
theorem kX3_count : Cond.code yX3_count cX3_count 4 (some .int) ∈ tg := tg_of 772 (by decide +kernel) rfl
theorem gX3_count : GoodIn tg wX3_count := tg_GoodIn (fun w h => (List.mem_cons.mp h).elim (fun e => e ▸ kX3_count) (fun h => h))
abbrev cJ0_indexOf : ByteArray := prog_13_method_79_code
def yJ0_indexOf : MethodName := ⟨"java/lang/String", "indexOf", "(I)I"⟩
abbrev wJ0_indexOf : List Cond := .code yJ0_indexOf cJ0_indexOf 2 (some .int) :: tg
theorem kJ0_indexOf : Cond.code yJ0_indexOf cJ0_indexOf 2 (some .int) ∈ tg := tg_of 320 (by decide +kernel) rfl
theorem gJ0_indexOf : GoodIn tg wJ0_indexOf := tg_GoodIn (fun w h => (List.mem_cons.mp h).elim (fun e => e ▸ kJ0_indexOf) (fun h => h))
abbrev cJ0_indexOf2 : ByteArray := prog_13_method_80_code
def yJ0_indexOf2 : MethodName := ⟨"java/lang/String", "indexOf", "(II)I"⟩
abbrev wJ0_indexOf2 : List Cond := .code yJ0_indexOf2 cJ0_indexOf2 3 (some .int) :: tg
theorem kJ0_indexOf2 : Cond.code yJ0_indexOf2 cJ0_indexOf2 3 (some .int) ∈ tg := tg_of 324 (by decide +kernel) rfl
theorem gJ0_indexOf2 : GoodIn tg wJ0_indexOf2 := tg_GoodIn (fun w h => (List.mem_cons.mp h).elim (fun e => e ▸ kJ0_indexOf2) (fun h => h))
abbrev cJ0_isLatin1 : ByteArray := prog_13_method_154_code
def yJ0_isLatin1 : MethodName := ⟨"java/lang/String", "isLatin1", "()Z"⟩
abbrev wJ0_isLatin1 : List Cond := .code yJ0_isLatin1 cJ0_isLatin1 1 (some .boolean) :: tg
theorem kJ0_isLatin1 : Cond.code yJ0_isLatin1 cJ0_isLatin1 1 (some .boolean) ∈ tg := tg_of 328 (by decide +kernel) rfl
theorem gJ0_isLatin1 : GoodIn tg wJ0_isLatin1 := tg_GoodIn (fun w h => (List.mem_cons.mp h).elim (fun e => e ▸ kJ0_isLatin1) (fun h => h))
abbrev cJ1_indexOf : ByteArray := prog_14_method_22_code
def yJ1_indexOf : MethodName := ⟨"java/lang/StringLatin1", "indexOf", "([BIII)I"⟩
abbrev wJ1_indexOf : List Cond := .code yJ1_indexOf cJ1_indexOf 4 (some .int) :: tg
theorem kJ1_indexOf : Cond.code yJ1_indexOf cJ1_indexOf 4 (some .int) ∈ tg := tg_of 341 (by decide +kernel) rfl
theorem gJ1_indexOf : GoodIn tg wJ1_indexOf := tg_GoodIn (fun w h => (List.mem_cons.mp h).elim (fun e => e ▸ kJ1_indexOf) (fun h => h))
abbrev cJ1_canEncode : ByteArray := prog_14_method_4_code
def yJ1_canEncode : MethodName := ⟨"java/lang/StringLatin1", "canEncode", "(I)Z"⟩
abbrev wJ1_canEncode : List Cond := .code yJ1_canEncode cJ1_canEncode 1 (some .boolean) :: tg
theorem kJ1_canEncode : Cond.code yJ1_canEncode cJ1_canEncode 1 (some .boolean) ∈ tg := tg_of 344 (by decide +kernel) rfl
theorem gJ1_canEncode : GoodIn tg wJ1_canEncode := tg_GoodIn (fun w h => (List.mem_cons.mp h).elim (fun e => e ▸ kJ1_canEncode) (fun h => h))
abbrev cJ1_indexOfChar : ByteArray := prog_14_method_23_code
def yJ1_indexOfChar : MethodName := ⟨"java/lang/StringLatin1", "indexOfChar", "([BIII)I"⟩
abbrev wJ1_indexOfChar : List Cond := .code yJ1_indexOfChar cJ1_indexOfChar 6 (some .int) :: tg
theorem kJ1_indexOfChar : Cond.code yJ1_indexOfChar cJ1_indexOfChar 6 (some .int) ∈ tg := tg_of 353 (by decide +kernel) rfl
theorem gJ1_indexOfChar : GoodIn tg wJ1_indexOfChar := tg_GoodIn (fun w h => (List.mem_cons.mp h).elim (fun e => e ▸ kJ1_indexOfChar) (fun h => h))
abbrev cL_law : ByteArray := code
def yL_law : MethodName := ⟨RL, "law", "([I)Z"⟩
end
section
theorem tw_0 : Cond.initialized "MicroMachineLaw" ∈ tg := tg_of 37 (by decide +kernel) rfl
theorem tw_1 : Cond.initialized "MicroMachine" ∈ tg := tg_of 38 (by decide +kernel) rfl
theorem tw_2 : Cond.initialized "MicroMachine$WordReader" ∈ tg := tg_of 39 (by decide +kernel) rfl
theorem tw_3 : Cond.initialized "MicroMachine$Word" ∈ tg := tg_of 40 (by decide +kernel) rfl
theorem tw_4 : Cond.initialized "MicroMachineModel" ∈ tg := tg_of 41 (by decide +kernel) rfl
theorem tw_5 : Cond.initialized "java/lang/Throwable" ∈ tg := tg_of 42 (by decide +kernel) rfl
theorem tw_6 : Cond.initialized "java/lang/Exception" ∈ tg := tg_of 43 (by decide +kernel) rfl
theorem tw_7 : Cond.initialized "java/lang/RuntimeException" ∈ tg := tg_of 44 (by decide +kernel) rfl
theorem tw_8 : Cond.initialized "java/lang/IllegalArgumentException" ∈ tg := tg_of 45 (by decide +kernel) rfl
theorem tw_9 : Cond.initialized "java/lang/IllegalStateException" ∈ tg := tg_of 46 (by decide +kernel) rfl
theorem tw_10 : Cond.initialized "java/lang/String" ∈ tg := tg_of 47 (by decide +kernel) rfl
theorem tw_11 : Cond.initialized "java/lang/StringLatin1" ∈ tg := tg_of 48 (by decide +kernel) rfl
theorem tw_12 : Cond.initialized "java/lang/Math" ∈ tg := tg_of 49 (by decide +kernel) rfl
theorem tw_13 : Cond.initialized "java/lang/StringUTF16" ∈ tg := tg_of 50 (by decide +kernel) rfl
theorem tw_14 : Cond.initialized "jdk/internal/util/Preconditions" ∈ tg := tg_of 51 (by decide +kernel) rfl
theorem tw_15 : Cond.initialized "java/lang/Character" ∈ tg := tg_of 52 (by decide +kernel) rfl
theorem tw_16 : Cond.initialized "java/util/NoSuchElementException" ∈ tg := tg_of 53 (by decide +kernel) rfl
theorem tw_17 : Cond.initialized "java/lang/IndexOutOfBoundsException" ∈ tg := tg_of 54 (by decide +kernel) rfl
theorem tw_18 : Cond.classLink "MicroMachineLaw" 8 "MicroMachine" ∈ tg := tg_of 55 (by decide +kernel) rfl
theorem tw_19 : Cond.instantiable "MicroMachine" 16 ∈ tg := tg_of 56 (by decide +kernel) rfl
theorem tw_20 : Cond.methodLink "MicroMachineLaw" 55 ({ cls := "MicroMachine", name := "<init>", desc := "()V" } : Jvm.MethodName) ∈ tg := tg_of 57 (by decide +kernel) rfl
theorem tw_21 : Cond.instanceMethod ({ cls := "MicroMachine", name := "<init>", desc := "()V" } : Jvm.MethodName) ∈ tg := tg_of 58 (by decide +kernel) rfl
theorem tw_23 : Cond.methodLink "MicroMachine" 1 ({ cls := "java/lang/Object", name := "<init>", desc := "()V" } : Jvm.MethodName) ∈ tg := tg_of 60 (by decide +kernel) rfl
theorem tw_24 : Cond.instanceMethod ({ cls := "java/lang/Object", name := "<init>", desc := "()V" } : Jvm.MethodName) ∈ tg := tg_of 61 (by decide +kernel) rfl
theorem tw_26 : Cond.classLink "MicroMachine" 7 "MicroMachine$WordReader" ∈ tg := tg_of 63 (by decide +kernel) rfl
theorem tw_27 : Cond.instantiable "MicroMachine$WordReader" 4 ∈ tg := tg_of 64 (by decide +kernel) rfl
theorem tw_29 : Cond.instanceMethod ({ cls := "MicroMachine$WordReader", name := "<init>", desc := "()V" } : Jvm.MethodName) ∈ tg := tg_of 66 (by decide +kernel) rfl
theorem tw_31 : Cond.methodLink "MicroMachine$WordReader" 3 ({ cls := "java/lang/Object", name := "<init>", desc := "()V" } : Jvm.MethodName) ∈ tg := tg_of 68 (by decide +kernel) rfl
theorem tw_32 : Cond.classLink "MicroMachine$WordReader" 15 "MicroMachine$Word" ∈ tg := tg_of 69 (by decide +kernel) rfl
theorem tw_33 : Cond.instantiable "MicroMachine$Word" 10 ∈ tg := tg_of 70 (by decide +kernel) rfl
theorem tw_35 : Cond.instanceMethod ({ cls := "MicroMachine$Word", name := "<init>", desc := "()V" } : Jvm.MethodName) ∈ tg := tg_of 72 (by decide +kernel) rfl
theorem tw_37 : Cond.methodLink "MicroMachine$Word" 3 ({ cls := "java/lang/Object", name := "<init>", desc := "()V" } : Jvm.MethodName) ∈ tg := tg_of 74 (by decide +kernel) rfl
theorem tw_40 : Cond.fieldLink "MicroMachine$Word" 21 "MicroMachine$Word" "targets" "I" ∈ tg := tg_of 77 (by decide +kernel) rfl
theorem tw_43 : Cond.fieldLink "MicroMachine$Word" 9 "MicroMachine$Word" "operation" "I" ∈ tg := tg_of 80 (by decide +kernel) rfl
theorem tw_56 : Cond.fieldLink "MicroMachine$Word" 15 "MicroMachine$Word" "first" "I" ∈ tg := tg_of 93 (by decide +kernel) rfl
theorem tw_59 : Cond.fieldLink "MicroMachine$Word" 18 "MicroMachine$Word" "second" "I" ∈ tg := tg_of 96 (by decide +kernel) rfl
theorem tw_62 : Cond.lays "MicroMachine$Word" "MicroMachine$Word" "parts" "I" ∈ tg := tg_of 99 (by decide +kernel) rfl
theorem tw_63 : Cond.soleField "MicroMachine$Word" "parts" ∈ tg := tg_of 100 (by decide +kernel) rfl
theorem tw_64 : Cond.lays "MicroMachine$Word" "MicroMachine$Word" "targets" "I" ∈ tg := tg_of 101 (by decide +kernel) rfl
theorem tw_65 : Cond.soleField "MicroMachine$Word" "targets" ∈ tg := tg_of 102 (by decide +kernel) rfl
theorem tw_66 : Cond.lays "MicroMachine$Word" "MicroMachine$Word" "operation" "I" ∈ tg := tg_of 103 (by decide +kernel) rfl
theorem tw_67 : Cond.soleField "MicroMachine$Word" "operation" ∈ tg := tg_of 104 (by decide +kernel) rfl
theorem tw_68 : Cond.lays "MicroMachine$Word" "MicroMachine$Word" "source" "I" ∈ tg := tg_of 105 (by decide +kernel) rfl
theorem tw_69 : Cond.soleField "MicroMachine$Word" "source" ∈ tg := tg_of 106 (by decide +kernel) rfl
theorem tw_70 : Cond.lays "MicroMachine$Word" "MicroMachine$Word" "shift" "I" ∈ tg := tg_of 107 (by decide +kernel) rfl
theorem tw_71 : Cond.soleField "MicroMachine$Word" "shift" ∈ tg := tg_of 108 (by decide +kernel) rfl
theorem tw_72 : Cond.lays "MicroMachine$Word" "MicroMachine$Word" "asksWord" "I" ∈ tg := tg_of 109 (by decide +kernel) rfl
theorem tw_73 : Cond.soleField "MicroMachine$Word" "asksWord" ∈ tg := tg_of 110 (by decide +kernel) rfl
theorem tw_74 : Cond.lays "MicroMachine$Word" "MicroMachine$Word" "asksByte" "Z" ∈ tg := tg_of 111 (by decide +kernel) rfl
theorem tw_75 : Cond.soleField "MicroMachine$Word" "asksByte" ∈ tg := tg_of 112 (by decide +kernel) rfl
theorem tw_76 : Cond.lays "MicroMachine$Word" "MicroMachine$Word" "going" "I" ∈ tg := tg_of 113 (by decide +kernel) rfl
theorem tw_77 : Cond.soleField "MicroMachine$Word" "going" ∈ tg := tg_of 114 (by decide +kernel) rfl
theorem tw_78 : Cond.lays "MicroMachine$Word" "MicroMachine$Word" "first" "I" ∈ tg := tg_of 115 (by decide +kernel) rfl
theorem tw_79 : Cond.soleField "MicroMachine$Word" "first" ∈ tg := tg_of 116 (by decide +kernel) rfl
theorem tw_80 : Cond.lays "MicroMachine$Word" "MicroMachine$Word" "second" "I" ∈ tg := tg_of 117 (by decide +kernel) rfl
theorem tw_81 : Cond.soleField "MicroMachine$Word" "second" ∈ tg := tg_of 118 (by decide +kernel) rfl
theorem tw_82 : Cond.superclass "MicroMachine$Word" "java/lang/Object" ∈ tg := tg_of 119 (by decide +kernel) rfl
theorem tw_83 : Cond.arrayClass FieldType.char ∈ tg := tg_of 120 (by decide +kernel) rfl
theorem tw_84 : Cond.fieldLink "MicroMachine$WordReader" 9 "MicroMachine$WordReader" "text" "[C" ∈ tg := tg_of 121 (by decide +kernel) rfl
theorem tw_85 : Cond.fieldLink "MicroMachine$WordReader" 22 "MicroMachine$WordReader" "length" "I" ∈ tg := tg_of 122 (by decide +kernel) rfl
theorem tw_87 : Cond.fieldLink "MicroMachine$WordReader" 26 "MicroMachine$WordReader" "at" "I" ∈ tg := tg_of 124 (by decide +kernel) rfl
theorem tw_89 : Cond.fieldLink "MicroMachine$WordReader" 18 "MicroMachine$WordReader" "draft" "LMicroMachine$Word;" ∈ tg := tg_of 126 (by decide +kernel) rfl
theorem tw_90 : Cond.laysFinal "MicroMachine$WordReader" "MicroMachine$WordReader" "text" "[C" ∈ tg := tg_of 127 (by decide +kernel) rfl
theorem tw_91 : Cond.soleField "MicroMachine$WordReader" "text" ∈ tg := tg_of 128 (by decide +kernel) rfl
theorem tw_92 : Cond.lays "MicroMachine$WordReader" "MicroMachine$WordReader" "length" "I" ∈ tg := tg_of 129 (by decide +kernel) rfl
theorem tw_93 : Cond.soleField "MicroMachine$WordReader" "length" ∈ tg := tg_of 130 (by decide +kernel) rfl
theorem tw_94 : Cond.lays "MicroMachine$WordReader" "MicroMachine$WordReader" "at" "I" ∈ tg := tg_of 131 (by decide +kernel) rfl
theorem tw_95 : Cond.soleField "MicroMachine$WordReader" "at" ∈ tg := tg_of 132 (by decide +kernel) rfl
theorem tw_96 : Cond.lays "MicroMachine$WordReader" "MicroMachine$WordReader" "draft" "LMicroMachine$Word;" ∈ tg := tg_of 133 (by decide +kernel) rfl
theorem tw_97 : Cond.soleField "MicroMachine$WordReader" "draft" ∈ tg := tg_of 134 (by decide +kernel) rfl
theorem tw_98 : Cond.superclass "MicroMachine$WordReader" "java/lang/Object" ∈ tg := tg_of 135 (by decide +kernel) rfl
theorem tw_99 : Cond.classLink "MicroMachine" 20 "MicroMachine$Word" ∈ tg := tg_of 136 (by decide +kernel) rfl
theorem tw_101 : Cond.fieldLink "MicroMachine" 10 "MicroMachine" "reader" "LMicroMachine$WordReader;" ∈ tg := tg_of 138 (by decide +kernel) rfl
theorem tw_102 : Cond.fieldLink "MicroMachine" 16 "MicroMachine" "wrongPlace" "I" ∈ tg := tg_of 139 (by decide +kernel) rfl
theorem tw_103 : Cond.fieldLink "MicroMachine" 22 "MicroMachine" "store" "[LMicroMachine$Word;" ∈ tg := tg_of 140 (by decide +kernel) rfl
theorem tw_104 : Cond.fieldLink "MicroMachine" 64 "MicroMachine" "wordsThere" "I" ∈ tg := tg_of 141 (by decide +kernel) rfl
theorem tw_105 : Cond.fieldLink "MicroMachine" 73 "MicroMachine" "atHand" "I" ∈ tg := tg_of 142 (by decide +kernel) rfl
theorem tw_106 : Cond.fieldLink "MicroMachine" 26 "MicroMachine" "registers" "[I" ∈ tg := tg_of 143 (by decide +kernel) rfl
theorem tw_107 : Cond.fieldLink "MicroMachine" 30 "MicroMachine" "cells" "[I" ∈ tg := tg_of 144 (by decide +kernel) rfl
theorem tw_108 : Cond.fieldLink "MicroMachine" 33 "MicroMachine" "bytes" "[I" ∈ tg := tg_of 145 (by decide +kernel) rfl
theorem tw_109 : Cond.fieldLink "MicroMachine" 76 "MicroMachine" "wordComes" "Z" ∈ tg := tg_of 146 (by decide +kernel) rfl
theorem tw_110 : Cond.fieldLink "MicroMachine" 160 "MicroMachine" "comingWord" "I" ∈ tg := tg_of 147 (by decide +kernel) rfl
theorem tw_111 : Cond.fieldLink "MicroMachine" 80 "MicroMachine" "byteComes" "Z" ∈ tg := tg_of 148 (by decide +kernel) rfl
theorem tw_112 : Cond.fieldLink "MicroMachine" 163 "MicroMachine" "comingByte" "I" ∈ tg := tg_of 149 (by decide +kernel) rfl
theorem tw_113 : Cond.fieldLink "MicroMachine" 108 "MicroMachine" "cyclesDone" "I" ∈ tg := tg_of 150 (by decide +kernel) rfl
theorem tw_114 : Cond.fieldLink "MicroMachine" 111 "MicroMachine" "wordsRead" "I" ∈ tg := tg_of 151 (by decide +kernel) rfl
theorem tw_115 : Cond.fieldLink "MicroMachine" 114 "MicroMachine" "wordsWritten" "I" ∈ tg := tg_of 152 (by decide +kernel) rfl
theorem tw_116 : Cond.fieldLink "MicroMachine" 117 "MicroMachine" "bytesRead" "I" ∈ tg := tg_of 153 (by decide +kernel) rfl
theorem tw_117 : Cond.laysFinal "MicroMachine" "MicroMachine" "reader" "LMicroMachine$WordReader;" ∈ tg := tg_of 154 (by decide +kernel) rfl
theorem tw_118 : Cond.soleField "MicroMachine" "reader" ∈ tg := tg_of 155 (by decide +kernel) rfl
theorem tw_119 : Cond.lays "MicroMachine" "MicroMachine" "wrongPlace" "I" ∈ tg := tg_of 156 (by decide +kernel) rfl
theorem tw_120 : Cond.soleField "MicroMachine" "wrongPlace" ∈ tg := tg_of 157 (by decide +kernel) rfl
theorem tw_121 : Cond.laysFinal "MicroMachine" "MicroMachine" "store" "[LMicroMachine$Word;" ∈ tg := tg_of 158 (by decide +kernel) rfl
theorem tw_122 : Cond.soleField "MicroMachine" "store" ∈ tg := tg_of 159 (by decide +kernel) rfl
theorem tw_123 : Cond.lays "MicroMachine" "MicroMachine" "wordsThere" "I" ∈ tg := tg_of 160 (by decide +kernel) rfl
theorem tw_124 : Cond.soleField "MicroMachine" "wordsThere" ∈ tg := tg_of 161 (by decide +kernel) rfl
theorem tw_125 : Cond.lays "MicroMachine" "MicroMachine" "atHand" "I" ∈ tg := tg_of 162 (by decide +kernel) rfl
theorem tw_126 : Cond.soleField "MicroMachine" "atHand" ∈ tg := tg_of 163 (by decide +kernel) rfl
theorem tw_127 : Cond.laysFinal "MicroMachine" "MicroMachine" "registers" "[I" ∈ tg := tg_of 164 (by decide +kernel) rfl
theorem tw_128 : Cond.soleField "MicroMachine" "registers" ∈ tg := tg_of 165 (by decide +kernel) rfl
theorem tw_129 : Cond.laysFinal "MicroMachine" "MicroMachine" "cells" "[I" ∈ tg := tg_of 166 (by decide +kernel) rfl
theorem tw_130 : Cond.soleField "MicroMachine" "cells" ∈ tg := tg_of 167 (by decide +kernel) rfl
theorem tw_131 : Cond.laysFinal "MicroMachine" "MicroMachine" "bytes" "[I" ∈ tg := tg_of 168 (by decide +kernel) rfl
theorem tw_132 : Cond.soleField "MicroMachine" "bytes" ∈ tg := tg_of 169 (by decide +kernel) rfl
theorem tw_133 : Cond.lays "MicroMachine" "MicroMachine" "wordComes" "Z" ∈ tg := tg_of 170 (by decide +kernel) rfl
theorem tw_134 : Cond.soleField "MicroMachine" "wordComes" ∈ tg := tg_of 171 (by decide +kernel) rfl
theorem tw_135 : Cond.lays "MicroMachine" "MicroMachine" "comingWord" "I" ∈ tg := tg_of 172 (by decide +kernel) rfl
theorem tw_136 : Cond.soleField "MicroMachine" "comingWord" ∈ tg := tg_of 173 (by decide +kernel) rfl
theorem tw_137 : Cond.lays "MicroMachine" "MicroMachine" "byteComes" "Z" ∈ tg := tg_of 174 (by decide +kernel) rfl
theorem tw_138 : Cond.soleField "MicroMachine" "byteComes" ∈ tg := tg_of 175 (by decide +kernel) rfl
theorem tw_139 : Cond.lays "MicroMachine" "MicroMachine" "comingByte" "I" ∈ tg := tg_of 176 (by decide +kernel) rfl
theorem tw_140 : Cond.soleField "MicroMachine" "comingByte" ∈ tg := tg_of 177 (by decide +kernel) rfl
theorem tw_141 : Cond.lays "MicroMachine" "MicroMachine" "cyclesDone" "I" ∈ tg := tg_of 178 (by decide +kernel) rfl
theorem tw_142 : Cond.soleField "MicroMachine" "cyclesDone" ∈ tg := tg_of 179 (by decide +kernel) rfl
theorem tw_143 : Cond.lays "MicroMachine" "MicroMachine" "wordsRead" "I" ∈ tg := tg_of 180 (by decide +kernel) rfl
theorem tw_144 : Cond.soleField "MicroMachine" "wordsRead" ∈ tg := tg_of 181 (by decide +kernel) rfl
theorem tw_145 : Cond.lays "MicroMachine" "MicroMachine" "wordsWritten" "I" ∈ tg := tg_of 182 (by decide +kernel) rfl
theorem tw_146 : Cond.soleField "MicroMachine" "wordsWritten" ∈ tg := tg_of 183 (by decide +kernel) rfl
theorem tw_147 : Cond.lays "MicroMachine" "MicroMachine" "bytesRead" "I" ∈ tg := tg_of 184 (by decide +kernel) rfl
theorem tw_148 : Cond.soleField "MicroMachine" "bytesRead" ∈ tg := tg_of 185 (by decide +kernel) rfl
theorem tw_149 : Cond.superclass "MicroMachine" "java/lang/Object" ∈ tg := tg_of 186 (by decide +kernel) rfl
theorem tw_150 : Cond.arrayClass FieldType.int ∈ tg := tg_of 187 (by decide +kernel) rfl
theorem tw_151 : Cond.methodLink "MicroMachineLaw" 105 ({ cls := "MicroMachine", name := "count", desc := "(I)I" } : Jvm.MethodName) ∈ tg := tg_of 188 (by decide +kernel) rfl
theorem tw_152 : Cond.instanceMethod ({ cls := "MicroMachine", name := "count", desc := "(I)I" } : Jvm.MethodName) ∈ tg := tg_of 189 (by decide +kernel) rfl
theorem tw_153 : Cond.selects "MicroMachine" ({ cls := "MicroMachine", name := "count", desc := "(I)I" } : Jvm.MethodName) ({ cls := "MicroMachine", name := "count", desc := "(I)I" } : Jvm.MethodName) ∈ tg := tg_of 190 (by decide +kernel) rfl
theorem tw_155 : Cond.methodLink "MicroMachineLaw" 61 ({ cls := "MicroMachineLaw", name := "type", desc := "(LMicroMachine;J[J)I" } : Jvm.MethodName) ∈ tg := tg_of 192 (by decide +kernel) rfl
theorem tw_156 : Cond.static ({ cls := "MicroMachineLaw", name := "type", desc := "(LMicroMachine;J[J)I" } : Jvm.MethodName) ∈ tg := tg_of 193 (by decide +kernel) rfl
theorem tw_158 : Cond.classLink "MicroMachineLaw" 13 "java/lang/IllegalArgumentException" ∈ tg := tg_of 195 (by decide +kernel) rfl
theorem tw_159 : Cond.classLink "MicroMachineLaw" 15 "java/lang/IllegalStateException" ∈ tg := tg_of 196 (by decide +kernel) rfl
theorem tw_160 : Cond.methodLink "MicroMachineLaw" 7 ({ cls := "MicroMachine", name := "type", desc := "(J)I" } : Jvm.MethodName) ∈ tg := tg_of 197 (by decide +kernel) rfl
theorem tw_161 : Cond.instanceMethod ({ cls := "MicroMachine", name := "type", desc := "(J)I" } : Jvm.MethodName) ∈ tg := tg_of 198 (by decide +kernel) rfl
theorem tw_162 : Cond.selects "MicroMachine" ({ cls := "MicroMachine", name := "type", desc := "(J)I" } : Jvm.MethodName) ({ cls := "MicroMachine", name := "type", desc := "(J)I" } : Jvm.MethodName) ∈ tg := tg_of 199 (by decide +kernel) rfl
theorem tw_164 : Cond.methodLink "MicroMachine" 36 ({ cls := "MicroMachine", name := "byteOf", desc := "(JI)I" } : Jvm.MethodName) ∈ tg := tg_of 201 (by decide +kernel) rfl
theorem tw_165 : Cond.static ({ cls := "MicroMachine", name := "byteOf", desc := "(JI)I" } : Jvm.MethodName) ∈ tg := tg_of 202 (by decide +kernel) rfl
theorem tw_167 : Cond.classLink "MicroMachine" 40 "java/lang/IllegalArgumentException" ∈ tg := tg_of 204 (by decide +kernel) rfl
theorem tw_168 : Cond.instantiable "java/lang/IllegalArgumentException" 6 ∈ tg := tg_of 205 (by decide +kernel) rfl
theorem tw_176 : Cond.selects "java/lang/IllegalArgumentException" ({ cls := "java/lang/Throwable", name := "fillInStackTrace", desc := "(I)Ljava/lang/Throwable;" } : Jvm.MethodName) ({ cls := "java/lang/Throwable", name := "fillInStackTrace", desc := "(I)Ljava/lang/Throwable;" } : Jvm.MethodName) ∈ tg := tg_of 213 (by decide +kernel) rfl
theorem tw_177 : Cond.selects "java/lang/IllegalArgumentException" ({ cls := "java/lang/Throwable", name := "fillInStackTrace", desc := "()Ljava/lang/Throwable;" } : Jvm.MethodName) ({ cls := "java/lang/Throwable", name := "fillInStackTrace", desc := "()Ljava/lang/Throwable;" } : Jvm.MethodName) ∈ tg := tg_of 214 (by decide +kernel) rfl
theorem tw_178 : Cond.lays "java/lang/IllegalArgumentException" "java/lang/Throwable" "cause" "Ljava/lang/Throwable;" ∈ tg := tg_of 215 (by decide +kernel) rfl
theorem tw_179 : Cond.lays "java/lang/Throwable" "java/lang/Throwable" "cause" "Ljava/lang/Throwable;" ∈ tg := tg_of 216 (by decide +kernel) rfl
theorem tw_180 : Cond.lays "java/lang/IllegalArgumentException" "java/lang/Throwable" "stackTrace" "[Ljava/lang/StackTraceElement;" ∈ tg := tg_of 217 (by decide +kernel) rfl
theorem tw_181 : Cond.lays "java/lang/Throwable" "java/lang/Throwable" "stackTrace" "[Ljava/lang/StackTraceElement;" ∈ tg := tg_of 218 (by decide +kernel) rfl
theorem tw_182 : Cond.lays "java/lang/IllegalArgumentException" "java/lang/Throwable" "suppressedExceptions" "Ljava/util/List;" ∈ tg := tg_of 219 (by decide +kernel) rfl
theorem tw_183 : Cond.lays "java/lang/Throwable" "java/lang/Throwable" "suppressedExceptions" "Ljava/util/List;" ∈ tg := tg_of 220 (by decide +kernel) rfl
theorem tw_184 : Cond.lays "java/lang/IllegalArgumentException" "java/lang/Throwable" "detailMessage" "Ljava/lang/String;" ∈ tg := tg_of 221 (by decide +kernel) rfl
theorem tw_185 : Cond.lays "java/lang/Throwable" "java/lang/Throwable" "detailMessage" "Ljava/lang/String;" ∈ tg := tg_of 222 (by decide +kernel) rfl
theorem tw_186 : Cond.lays "java/lang/IllegalArgumentException" "java/lang/Throwable" "backtrace" "Ljava/lang/Object;" ∈ tg := tg_of 223 (by decide +kernel) rfl
theorem tw_187 : Cond.lays "java/lang/Throwable" "java/lang/Throwable" "backtrace" "Ljava/lang/Object;" ∈ tg := tg_of 224 (by decide +kernel) rfl
theorem tw_188 : Cond.fieldLink "java/lang/Throwable" 198 "java/lang/Throwable" "backtrace" "Ljava/lang/Object;" ∈ tg := tg_of 225 (by decide +kernel) rfl
theorem tw_189 : Cond.superclass "java/lang/Throwable" "java/lang/Object" ∈ tg := tg_of 226 (by decide +kernel) rfl
theorem tw_190 : Cond.instanceMethod ({ cls := "java/lang/Throwable", name := "<init>", desc := "()V" } : Jvm.MethodName) ∈ tg := tg_of 227 (by decide +kernel) rfl
theorem tw_192 : Cond.methodLink "java/lang/Throwable" 1 ({ cls := "java/lang/Object", name := "<init>", desc := "()V" } : Jvm.MethodName) ∈ tg := tg_of 229 (by decide +kernel) rfl
theorem tw_193 : Cond.fieldLink "java/lang/Throwable" 13 "java/lang/Throwable" "UNASSIGNED_STACK" "[Ljava/lang/StackTraceElement;" ∈ tg := tg_of 230 (by decide +kernel) rfl
theorem tw_195 : Cond.fieldLink "java/lang/Throwable" 20 "java/lang/Throwable" "SUPPRESSED_SENTINEL" "Ljava/util/List;" ∈ tg := tg_of 232 (by decide +kernel) rfl
theorem tw_197 : Cond.methodLink "java/lang/Throwable" 27 ({ cls := "java/lang/Throwable", name := "fillInStackTrace", desc := "()Ljava/lang/Throwable;" } : Jvm.MethodName) ∈ tg := tg_of 234 (by decide +kernel) rfl
theorem tw_198 : Cond.instanceMethod ({ cls := "java/lang/Throwable", name := "fillInStackTrace", desc := "()Ljava/lang/Throwable;" } : Jvm.MethodName) ∈ tg := tg_of 235 (by decide +kernel) rfl
theorem tw_199 : Cond.sameMethod "java/lang/Throwable" "java/lang/Throwable" "fillInStackTrace" "()Ljava/lang/Throwable;" ∈ tg := tg_of 236 (by decide +kernel) rfl
theorem tw_200 : Cond.selects "java/lang/IllegalStateException" ({ cls := "java/lang/Throwable", name := "fillInStackTrace", desc := "()Ljava/lang/Throwable;" } : Jvm.MethodName) ({ cls := "java/lang/Throwable", name := "fillInStackTrace", desc := "()Ljava/lang/Throwable;" } : Jvm.MethodName) ∈ tg := tg_of 237 (by decide +kernel) rfl
theorem tw_201 : Cond.selects "java/lang/IndexOutOfBoundsException" ({ cls := "java/lang/Throwable", name := "fillInStackTrace", desc := "()Ljava/lang/Throwable;" } : Jvm.MethodName) ({ cls := "java/lang/Throwable", name := "fillInStackTrace", desc := "()Ljava/lang/Throwable;" } : Jvm.MethodName) ∈ tg := tg_of 238 (by decide +kernel) rfl
theorem tw_202 : Cond.selects "java/util/NoSuchElementException" ({ cls := "java/lang/Throwable", name := "fillInStackTrace", desc := "()Ljava/lang/Throwable;" } : Jvm.MethodName) ({ cls := "java/lang/Throwable", name := "fillInStackTrace", desc := "()Ljava/lang/Throwable;" } : Jvm.MethodName) ∈ tg := tg_of 239 (by decide +kernel) rfl
theorem tw_204 : Cond.methodLink "java/lang/Throwable" 202 ({ cls := "java/lang/Throwable", name := "fillInStackTrace", desc := "(I)Ljava/lang/Throwable;" } : Jvm.MethodName) ∈ tg := tg_of 241 (by decide +kernel) rfl
theorem tw_206 : Cond.instanceMethod ({ cls := "java/lang/Throwable", name := "fillInStackTrace", desc := "(I)Ljava/lang/Throwable;" } : Jvm.MethodName) ∈ tg := tg_of 243 (by decide +kernel) rfl
theorem tw_207 : Cond.instantiable "java/lang/Throwable" 6 ∈ tg := tg_of 244 (by decide +kernel) rfl
theorem tw_208 : Cond.native ({ cls := "java/lang/Throwable", name := "fillInStackTrace", desc := "(I)Ljava/lang/Throwable;" } : Jvm.MethodName) ∈ tg := tg_of 245 (by decide +kernel) rfl
theorem tw_209 : Cond.methodLink "MicroMachine" 42 ({ cls := "java/lang/IllegalArgumentException", name := "<init>", desc := "()V" } : Jvm.MethodName) ∈ tg := tg_of 246 (by decide +kernel) rfl
theorem tw_210 : Cond.instanceMethod ({ cls := "java/lang/IllegalArgumentException", name := "<init>", desc := "()V" } : Jvm.MethodName) ∈ tg := tg_of 247 (by decide +kernel) rfl
theorem tw_212 : Cond.methodLink "java/lang/IllegalArgumentException" 1 ({ cls := "java/lang/RuntimeException", name := "<init>", desc := "()V" } : Jvm.MethodName) ∈ tg := tg_of 249 (by decide +kernel) rfl
theorem tw_213 : Cond.instanceMethod ({ cls := "java/lang/RuntimeException", name := "<init>", desc := "()V" } : Jvm.MethodName) ∈ tg := tg_of 250 (by decide +kernel) rfl
theorem tw_215 : Cond.methodLink "java/lang/RuntimeException" 1 ({ cls := "java/lang/Exception", name := "<init>", desc := "()V" } : Jvm.MethodName) ∈ tg := tg_of 252 (by decide +kernel) rfl
theorem tw_216 : Cond.instanceMethod ({ cls := "java/lang/Exception", name := "<init>", desc := "()V" } : Jvm.MethodName) ∈ tg := tg_of 253 (by decide +kernel) rfl
theorem tw_218 : Cond.methodLink "java/lang/Exception" 1 ({ cls := "java/lang/Throwable", name := "<init>", desc := "()V" } : Jvm.MethodName) ∈ tg := tg_of 255 (by decide +kernel) rfl
theorem tw_219 : Cond.fieldLink "java/lang/Throwable" 198 "java/lang/Throwable" "backtrace" "Ljava/lang/Object;" ∈ tg := tg_of 256 (by decide +kernel) rfl
theorem tw_220 : Cond.fieldLink "java/lang/Throwable" 7 "java/lang/Throwable" "cause" "Ljava/lang/Throwable;" ∈ tg := tg_of 257 (by decide +kernel) rfl
theorem tw_221 : Cond.fieldLink "java/lang/Throwable" 17 "java/lang/Throwable" "stackTrace" "[Ljava/lang/StackTraceElement;" ∈ tg := tg_of 258 (by decide +kernel) rfl
theorem tw_222 : Cond.fieldLink "java/lang/Throwable" 24 "java/lang/Throwable" "suppressedExceptions" "Ljava/util/List;" ∈ tg := tg_of 259 (by decide +kernel) rfl
theorem tw_223 : Cond.soleField "java/lang/Throwable" "backtrace" ∈ tg := tg_of 260 (by decide +kernel) rfl
theorem tw_224 : Cond.soleField "java/lang/Throwable" "detailMessage" ∈ tg := tg_of 261 (by decide +kernel) rfl
theorem tw_225 : Cond.soleField "java/lang/Throwable" "cause" ∈ tg := tg_of 262 (by decide +kernel) rfl
theorem tw_226 : Cond.soleField "java/lang/Throwable" "stackTrace" ∈ tg := tg_of 263 (by decide +kernel) rfl
theorem tw_227 : Cond.lays "java/lang/IllegalArgumentException" "java/lang/Throwable" "depth" "I" ∈ tg := tg_of 264 (by decide +kernel) rfl
theorem tw_228 : Cond.soleField "java/lang/Throwable" "depth" ∈ tg := tg_of 265 (by decide +kernel) rfl
theorem tw_229 : Cond.soleField "java/lang/Throwable" "suppressedExceptions" ∈ tg := tg_of 266 (by decide +kernel) rfl
theorem tw_230 : Cond.superclass "java/lang/IllegalArgumentException" "java/lang/RuntimeException" ∈ tg := tg_of 267 (by decide +kernel) rfl
theorem tw_231 : Cond.classLink "MicroMachine" 46 "java/lang/IllegalStateException" ∈ tg := tg_of 268 (by decide +kernel) rfl
theorem tw_232 : Cond.instantiable "java/lang/IllegalStateException" 6 ∈ tg := tg_of 269 (by decide +kernel) rfl
theorem tw_234 : Cond.selects "java/lang/IllegalStateException" ({ cls := "java/lang/Throwable", name := "fillInStackTrace", desc := "(I)Ljava/lang/Throwable;" } : Jvm.MethodName) ({ cls := "java/lang/Throwable", name := "fillInStackTrace", desc := "(I)Ljava/lang/Throwable;" } : Jvm.MethodName) ∈ tg := tg_of 271 (by decide +kernel) rfl
theorem tw_235 : Cond.lays "java/lang/IllegalStateException" "java/lang/Throwable" "cause" "Ljava/lang/Throwable;" ∈ tg := tg_of 272 (by decide +kernel) rfl
theorem tw_236 : Cond.lays "java/lang/IllegalStateException" "java/lang/Throwable" "stackTrace" "[Ljava/lang/StackTraceElement;" ∈ tg := tg_of 273 (by decide +kernel) rfl
theorem tw_237 : Cond.lays "java/lang/IllegalStateException" "java/lang/Throwable" "suppressedExceptions" "Ljava/util/List;" ∈ tg := tg_of 274 (by decide +kernel) rfl
theorem tw_238 : Cond.lays "java/lang/IllegalStateException" "java/lang/Throwable" "detailMessage" "Ljava/lang/String;" ∈ tg := tg_of 275 (by decide +kernel) rfl
theorem tw_239 : Cond.lays "java/lang/IllegalStateException" "java/lang/Throwable" "backtrace" "Ljava/lang/Object;" ∈ tg := tg_of 276 (by decide +kernel) rfl
theorem tw_240 : Cond.methodLink "MicroMachine" 48 ({ cls := "java/lang/IllegalStateException", name := "<init>", desc := "()V" } : Jvm.MethodName) ∈ tg := tg_of 277 (by decide +kernel) rfl
theorem tw_241 : Cond.instanceMethod ({ cls := "java/lang/IllegalStateException", name := "<init>", desc := "()V" } : Jvm.MethodName) ∈ tg := tg_of 278 (by decide +kernel) rfl
theorem tw_243 : Cond.methodLink "java/lang/IllegalStateException" 1 ({ cls := "java/lang/RuntimeException", name := "<init>", desc := "()V" } : Jvm.MethodName) ∈ tg := tg_of 280 (by decide +kernel) rfl
theorem tw_244 : Cond.lays "java/lang/IllegalStateException" "java/lang/Throwable" "depth" "I" ∈ tg := tg_of 281 (by decide +kernel) rfl
theorem tw_245 : Cond.superclass "java/lang/IllegalStateException" "java/lang/RuntimeException" ∈ tg := tg_of 282 (by decide +kernel) rfl
theorem tw_248 : Cond.instanceMethod ({ cls := "MicroMachine$WordReader", name := "add", desc := "(C)V" } : Jvm.MethodName) ∈ tg := tg_of 285 (by decide +kernel) rfl
theorem tw_250 : Cond.methodLink "MicroMachineLaw" 71 ({ cls := "MicroMachineLaw", name := "word", desc := "(LMicroMachine;I[J)I" } : Jvm.MethodName) ∈ tg := tg_of 287 (by decide +kernel) rfl
theorem tw_251 : Cond.static ({ cls := "MicroMachineLaw", name := "word", desc := "(LMicroMachine;I[J)I" } : Jvm.MethodName) ∈ tg := tg_of 288 (by decide +kernel) rfl
theorem tw_253 : Cond.methodLink "MicroMachineLaw" 17 ({ cls := "MicroMachine", name := "word", desc := "(I)I" } : Jvm.MethodName) ∈ tg := tg_of 290 (by decide +kernel) rfl
theorem tw_254 : Cond.instanceMethod ({ cls := "MicroMachine", name := "word", desc := "(I)I" } : Jvm.MethodName) ∈ tg := tg_of 291 (by decide +kernel) rfl
theorem tw_255 : Cond.selects "MicroMachine" ({ cls := "MicroMachine", name := "word", desc := "(I)I" } : Jvm.MethodName) ({ cls := "MicroMachine", name := "word", desc := "(I)I" } : Jvm.MethodName) ∈ tg := tg_of 292 (by decide +kernel) rfl
theorem tw_257 : Cond.methodLink "MicroMachine" 53 ({ cls := "MicroMachine", name := "refuseOutside", desc := "(II)V" } : Jvm.MethodName) ∈ tg := tg_of 294 (by decide +kernel) rfl
theorem tw_258 : Cond.static ({ cls := "MicroMachine", name := "refuseOutside", desc := "(II)V" } : Jvm.MethodName) ∈ tg := tg_of 295 (by decide +kernel) rfl
theorem tw_260 : Cond.methodLink "MicroMachine" 120 ({ cls := "MicroMachine", name := "isOutside", desc := "(II)Z" } : Jvm.MethodName) ∈ tg := tg_of 297 (by decide +kernel) rfl
theorem tw_261 : Cond.static ({ cls := "MicroMachine", name := "isOutside", desc := "(II)Z" } : Jvm.MethodName) ∈ tg := tg_of 298 (by decide +kernel) rfl
theorem tw_265 : Cond.instanceMethod ({ cls := "MicroMachine$WordReader", name := "read", desc := "()LMicroMachine$Word;" } : Jvm.MethodName) ∈ tg := tg_of 302 (by decide +kernel) rfl
theorem tw_267 : Cond.methodLink "MicroMachine$WordReader" 29 ({ cls := "MicroMachine$WordReader", name := "readIfThere", desc := "(I)Z" } : Jvm.MethodName) ∈ tg := tg_of 304 (by decide +kernel) rfl
theorem tw_269 : Cond.instanceMethod ({ cls := "MicroMachine$WordReader", name := "readIfThere", desc := "(I)Z" } : Jvm.MethodName) ∈ tg := tg_of 306 (by decide +kernel) rfl
theorem tw_271 : Cond.methodLink "MicroMachine$WordReader" 40 ({ cls := "MicroMachine$WordReader", name := "readSetting", desc := "()Z" } : Jvm.MethodName) ∈ tg := tg_of 308 (by decide +kernel) rfl
theorem tw_273 : Cond.instanceMethod ({ cls := "MicroMachine$WordReader", name := "readSetting", desc := "()Z" } : Jvm.MethodName) ∈ tg := tg_of 310 (by decide +kernel) rfl
theorem tw_275 : Cond.methodLink "MicroMachine$WordReader" 54 ({ cls := "MicroMachine$WordReader", name := "isAtTarget", desc := "()Z" } : Jvm.MethodName) ∈ tg := tg_of 312 (by decide +kernel) rfl
theorem tw_277 : Cond.instanceMethod ({ cls := "MicroMachine$WordReader", name := "isAtTarget", desc := "()Z" } : Jvm.MethodName) ∈ tg := tg_of 314 (by decide +kernel) rfl
theorem tw_280 : Cond.methodLink "MicroMachine$WordReader" 62 ({ cls := "java/lang/String", name := "indexOf", desc := "(I)I" } : Jvm.MethodName) ∈ tg := tg_of 317 (by decide +kernel) rfl
theorem tw_281 : Cond.instanceMethod ({ cls := "java/lang/String", name := "indexOf", desc := "(I)I" } : Jvm.MethodName) ∈ tg := tg_of 318 (by decide +kernel) rfl
theorem tw_282 : Cond.selects "java/lang/String" ({ cls := "java/lang/String", name := "indexOf", desc := "(I)I" } : Jvm.MethodName) ({ cls := "java/lang/String", name := "indexOf", desc := "(I)I" } : Jvm.MethodName) ∈ tg := tg_of 319 (by decide +kernel) rfl
theorem tw_284 : Cond.methodLink "java/lang/String" 633 ({ cls := "java/lang/String", name := "indexOf", desc := "(II)I" } : Jvm.MethodName) ∈ tg := tg_of 321 (by decide +kernel) rfl
theorem tw_285 : Cond.instanceMethod ({ cls := "java/lang/String", name := "indexOf", desc := "(II)I" } : Jvm.MethodName) ∈ tg := tg_of 322 (by decide +kernel) rfl
theorem tw_286 : Cond.selects "java/lang/String" ({ cls := "java/lang/String", name := "indexOf", desc := "(II)I" } : Jvm.MethodName) ({ cls := "java/lang/String", name := "indexOf", desc := "(II)I" } : Jvm.MethodName) ∈ tg := tg_of 323 (by decide +kernel) rfl
theorem tw_288 : Cond.methodLink "java/lang/String" 492 ({ cls := "java/lang/String", name := "isLatin1", desc := "()Z" } : Jvm.MethodName) ∈ tg := tg_of 325 (by decide +kernel) rfl
theorem tw_289 : Cond.instanceMethod ({ cls := "java/lang/String", name := "isLatin1", desc := "()Z" } : Jvm.MethodName) ∈ tg := tg_of 326 (by decide +kernel) rfl
theorem tw_290 : Cond.selects "java/lang/String" ({ cls := "java/lang/String", name := "isLatin1", desc := "()Z" } : Jvm.MethodName) ({ cls := "java/lang/String", name := "isLatin1", desc := "()Z" } : Jvm.MethodName) ∈ tg := tg_of 327 (by decide +kernel) rfl
theorem tw_292 : Cond.fieldLink "java/lang/String" 38 "java/lang/String" "COMPACT_STRINGS" "Z" ∈ tg := tg_of 329 (by decide +kernel) rfl
theorem tw_294 : Cond.methodLink "java/lang/String" 505 ({ cls := "java/lang/String", name := "length", desc := "()I" } : Jvm.MethodName) ∈ tg := tg_of 331 (by decide +kernel) rfl
theorem tw_295 : Cond.instanceMethod ({ cls := "java/lang/String", name := "length", desc := "()I" } : Jvm.MethodName) ∈ tg := tg_of 332 (by decide +kernel) rfl
theorem tw_296 : Cond.selects "java/lang/String" ({ cls := "java/lang/String", name := "length", desc := "()I" } : Jvm.MethodName) ({ cls := "java/lang/String", name := "length", desc := "()I" } : Jvm.MethodName) ∈ tg := tg_of 333 (by decide +kernel) rfl
theorem tw_298 : Cond.methodLink "java/lang/String" 335 ({ cls := "java/lang/String", name := "coder", desc := "()B" } : Jvm.MethodName) ∈ tg := tg_of 335 (by decide +kernel) rfl
theorem tw_299 : Cond.instanceMethod ({ cls := "java/lang/String", name := "coder", desc := "()B" } : Jvm.MethodName) ∈ tg := tg_of 336 (by decide +kernel) rfl
theorem tw_300 : Cond.selects "java/lang/String" ({ cls := "java/lang/String", name := "coder", desc := "()B" } : Jvm.MethodName) ({ cls := "java/lang/String", name := "coder", desc := "()B" } : Jvm.MethodName) ∈ tg := tg_of 337 (by decide +kernel) rfl
theorem tw_302 : Cond.methodLink "java/lang/String" 637 ({ cls := "java/lang/StringLatin1", name := "indexOf", desc := "([BIII)I" } : Jvm.MethodName) ∈ tg := tg_of 339 (by decide +kernel) rfl
theorem tw_303 : Cond.static ({ cls := "java/lang/StringLatin1", name := "indexOf", desc := "([BIII)I" } : Jvm.MethodName) ∈ tg := tg_of 340 (by decide +kernel) rfl
theorem tw_305 : Cond.methodLink "java/lang/StringLatin1" 88 ({ cls := "java/lang/StringLatin1", name := "canEncode", desc := "(I)Z" } : Jvm.MethodName) ∈ tg := tg_of 342 (by decide +kernel) rfl
theorem tw_306 : Cond.static ({ cls := "java/lang/StringLatin1", name := "canEncode", desc := "(I)Z" } : Jvm.MethodName) ∈ tg := tg_of 343 (by decide +kernel) rfl
theorem tw_308 : Cond.methodLink "java/lang/StringLatin1" 92 ({ cls := "java/lang/Math", name := "max", desc := "(II)I" } : Jvm.MethodName) ∈ tg := tg_of 345 (by decide +kernel) rfl
theorem tw_309 : Cond.static ({ cls := "java/lang/Math", name := "max", desc := "(II)I" } : Jvm.MethodName) ∈ tg := tg_of 346 (by decide +kernel) rfl
theorem tw_311 : Cond.methodLink "java/lang/StringLatin1" 38 ({ cls := "java/lang/Math", name := "min", desc := "(II)I" } : Jvm.MethodName) ∈ tg := tg_of 348 (by decide +kernel) rfl
theorem tw_312 : Cond.static ({ cls := "java/lang/Math", name := "min", desc := "(II)I" } : Jvm.MethodName) ∈ tg := tg_of 349 (by decide +kernel) rfl
theorem tw_314 : Cond.methodLink "java/lang/StringLatin1" 95 ({ cls := "java/lang/StringLatin1", name := "indexOfChar", desc := "([BIII)I" } : Jvm.MethodName) ∈ tg := tg_of 351 (by decide +kernel) rfl
theorem tw_315 : Cond.static ({ cls := "java/lang/StringLatin1", name := "indexOfChar", desc := "([BIII)I" } : Jvm.MethodName) ∈ tg := tg_of 352 (by decide +kernel) rfl
theorem tw_317 : Cond.methodLink "java/lang/String" 640 ({ cls := "java/lang/StringUTF16", name := "indexOf", desc := "([BIII)I" } : Jvm.MethodName) ∈ tg := tg_of 354 (by decide +kernel) rfl
theorem tw_318 : Cond.static ({ cls := "java/lang/StringUTF16", name := "indexOf", desc := "([BIII)I" } : Jvm.MethodName) ∈ tg := tg_of 355 (by decide +kernel) rfl
theorem tw_320 : Cond.methodLink "java/lang/StringUTF16" 224 ({ cls := "java/lang/Math", name := "max", desc := "(II)I" } : Jvm.MethodName) ∈ tg := tg_of 357 (by decide +kernel) rfl
theorem tw_321 : Cond.methodLink "java/lang/StringUTF16" 183 ({ cls := "java/lang/Math", name := "min", desc := "(II)I" } : Jvm.MethodName) ∈ tg := tg_of 358 (by decide +kernel) rfl
theorem tw_322 : Cond.constant "java/lang/StringUTF16" 227 (65536 : Int32) ∈ tg := tg_of 359 (by decide +kernel) rfl
theorem tw_323 : Cond.methodLink "java/lang/StringUTF16" 228 ({ cls := "java/lang/StringUTF16", name := "indexOfChar", desc := "([BIII)I" } : Jvm.MethodName) ∈ tg := tg_of 360 (by decide +kernel) rfl
theorem tw_324 : Cond.static ({ cls := "java/lang/StringUTF16", name := "indexOfChar", desc := "([BIII)I" } : Jvm.MethodName) ∈ tg := tg_of 361 (by decide +kernel) rfl
theorem tw_326 : Cond.methodLink "java/lang/StringUTF16" 96 ({ cls := "java/lang/StringUTF16", name := "checkBoundsBeginEnd", desc := "(II[B)V" } : Jvm.MethodName) ∈ tg := tg_of 363 (by decide +kernel) rfl
theorem tw_327 : Cond.static ({ cls := "java/lang/StringUTF16", name := "checkBoundsBeginEnd", desc := "(II[B)V" } : Jvm.MethodName) ∈ tg := tg_of 364 (by decide +kernel) rfl
theorem tw_329 : Cond.methodLink "java/lang/StringUTF16" 48 ({ cls := "java/lang/StringUTF16", name := "length", desc := "([B)I" } : Jvm.MethodName) ∈ tg := tg_of 366 (by decide +kernel) rfl
theorem tw_330 : Cond.static ({ cls := "java/lang/StringUTF16", name := "length", desc := "([B)I" } : Jvm.MethodName) ∈ tg := tg_of 367 (by decide +kernel) rfl
theorem tw_332 : Cond.methodLink "java/lang/StringUTF16" 241 ({ cls := "java/lang/String", name := "checkBoundsBeginEnd", desc := "(III)V" } : Jvm.MethodName) ∈ tg := tg_of 369 (by decide +kernel) rfl
theorem tw_333 : Cond.static ({ cls := "java/lang/String", name := "checkBoundsBeginEnd", desc := "(III)V" } : Jvm.MethodName) ∈ tg := tg_of 370 (by decide +kernel) rfl
theorem tw_335 : Cond.fieldLink "java/lang/String" 1053 "jdk/internal/util/Preconditions" "SIOOBE_FORMATTER" "Ljava/util/function/BiFunction;" ∈ tg := tg_of 372 (by decide +kernel) rfl
theorem tw_337 : Cond.methodLink "java/lang/String" 1062 ({ cls := "jdk/internal/util/Preconditions", name := "checkFromToIndex", desc := "(IIILjava/util/function/BiFunction;)I" } : Jvm.MethodName) ∈ tg := tg_of 374 (by decide +kernel) rfl
theorem tw_338 : Cond.static ({ cls := "jdk/internal/util/Preconditions", name := "checkFromToIndex", desc := "(IIILjava/util/function/BiFunction;)I" } : Jvm.MethodName) ∈ tg := tg_of 375 (by decide +kernel) rfl
theorem tw_340 : Cond.methodLink "java/lang/StringUTF16" 244 ({ cls := "java/lang/StringUTF16", name := "indexOfCharUnsafe", desc := "([BIII)I" } : Jvm.MethodName) ∈ tg := tg_of 377 (by decide +kernel) rfl
theorem tw_341 : Cond.static ({ cls := "java/lang/StringUTF16", name := "indexOfCharUnsafe", desc := "([BIII)I" } : Jvm.MethodName) ∈ tg := tg_of 378 (by decide +kernel) rfl
theorem tw_343 : Cond.methodLink "java/lang/StringUTF16" 71 ({ cls := "java/lang/StringUTF16", name := "getChar", desc := "([BI)C" } : Jvm.MethodName) ∈ tg := tg_of 380 (by decide +kernel) rfl
theorem tw_344 : Cond.static ({ cls := "java/lang/StringUTF16", name := "getChar", desc := "([BI)C" } : Jvm.MethodName) ∈ tg := tg_of 381 (by decide +kernel) rfl
theorem tw_346 : Cond.fieldLink "java/lang/StringUTF16" 44 "java/lang/StringUTF16" "$assertionsDisabled" "Z" ∈ tg := tg_of 383 (by decide +kernel) rfl
theorem tw_348 : Cond.fieldLink "java/lang/StringUTF16" 59 "java/lang/StringUTF16" "HI_BYTE_SHIFT" "I" ∈ tg := tg_of 385 (by decide +kernel) rfl
theorem tw_350 : Cond.fieldLink "java/lang/StringUTF16" 63 "java/lang/StringUTF16" "LO_BYTE_SHIFT" "I" ∈ tg := tg_of 387 (by decide +kernel) rfl
theorem tw_352 : Cond.methodLink "java/lang/StringUTF16" 232 ({ cls := "java/lang/StringUTF16", name := "indexOfSupplementary", desc := "([BIII)I" } : Jvm.MethodName) ∈ tg := tg_of 389 (by decide +kernel) rfl
theorem tw_353 : Cond.static ({ cls := "java/lang/StringUTF16", name := "indexOfSupplementary", desc := "([BIII)I" } : Jvm.MethodName) ∈ tg := tg_of 390 (by decide +kernel) rfl
theorem tw_355 : Cond.methodLink "java/lang/StringUTF16" 164 ({ cls := "java/lang/Character", name := "isValidCodePoint", desc := "(I)Z" } : Jvm.MethodName) ∈ tg := tg_of 392 (by decide +kernel) rfl
theorem tw_356 : Cond.static ({ cls := "java/lang/Character", name := "isValidCodePoint", desc := "(I)Z" } : Jvm.MethodName) ∈ tg := tg_of 393 (by decide +kernel) rfl
theorem tw_358 : Cond.methodLink "java/lang/StringUTF16" 157 ({ cls := "java/lang/Character", name := "highSurrogate", desc := "(I)C" } : Jvm.MethodName) ∈ tg := tg_of 395 (by decide +kernel) rfl
theorem tw_359 : Cond.static ({ cls := "java/lang/Character", name := "highSurrogate", desc := "(I)C" } : Jvm.MethodName) ∈ tg := tg_of 396 (by decide +kernel) rfl
theorem tw_361 : Cond.constant "java/lang/Character" 110 (55232 : Int32) ∈ tg := tg_of 398 (by decide +kernel) rfl
theorem tw_362 : Cond.methodLink "java/lang/StringUTF16" 161 ({ cls := "java/lang/Character", name := "lowSurrogate", desc := "(I)C" } : Jvm.MethodName) ∈ tg := tg_of 399 (by decide +kernel) rfl
theorem tw_363 : Cond.static ({ cls := "java/lang/Character", name := "lowSurrogate", desc := "(I)C" } : Jvm.MethodName) ∈ tg := tg_of 400 (by decide +kernel) rfl
theorem tw_365 : Cond.constant "java/lang/Character" 76 (56320 : Int32) ∈ tg := tg_of 402 (by decide +kernel) rfl
theorem tw_368 : Cond.instanceMethod ({ cls := "MicroMachine$Word", name := "sets", desc := "(I)Z" } : Jvm.MethodName) ∈ tg := tg_of 405 (by decide +kernel) rfl
theorem tw_370 : Cond.methodLink "MicroMachine$WordReader" 36 ({ cls := "MicroMachine$WordReader", name := "take", desc := "(C)Z" } : Jvm.MethodName) ∈ tg := tg_of 407 (by decide +kernel) rfl
theorem tw_372 : Cond.instanceMethod ({ cls := "MicroMachine$WordReader", name := "take", desc := "(C)Z" } : Jvm.MethodName) ∈ tg := tg_of 409 (by decide +kernel) rfl
theorem tw_374 : Cond.methodLink "MicroMachine$WordReader" 68 ({ cls := "MicroMachine$WordReader", name := "readValue", desc := "()Z" } : Jvm.MethodName) ∈ tg := tg_of 411 (by decide +kernel) rfl
theorem tw_376 : Cond.instanceMethod ({ cls := "MicroMachine$WordReader", name := "readValue", desc := "()Z" } : Jvm.MethodName) ∈ tg := tg_of 413 (by decide +kernel) rfl
theorem tw_378 : Cond.methodLink "MicroMachine$WordReader" 77 ({ cls := "MicroMachine$WordReader", name := "does", desc := "(I)Z" } : Jvm.MethodName) ∈ tg := tg_of 415 (by decide +kernel) rfl
theorem tw_380 : Cond.instanceMethod ({ cls := "MicroMachine$WordReader", name := "does", desc := "(I)Z" } : Jvm.MethodName) ∈ tg := tg_of 417 (by decide +kernel) rfl
theorem tw_382 : Cond.methodLink "MicroMachine$WordReader" 80 ({ cls := "MicroMachine$WordReader", name := "takeSource", desc := "()Z" } : Jvm.MethodName) ∈ tg := tg_of 419 (by decide +kernel) rfl
theorem tw_384 : Cond.instanceMethod ({ cls := "MicroMachine$WordReader", name := "takeSource", desc := "()Z" } : Jvm.MethodName) ∈ tg := tg_of 421 (by decide +kernel) rfl
theorem tw_386 : Cond.methodLink "MicroMachine$WordReader" 83 ({ cls := "MicroMachine$WordReader", name := "readBehindH", desc := "()Z" } : Jvm.MethodName) ∈ tg := tg_of 423 (by decide +kernel) rfl
theorem tw_388 : Cond.instanceMethod ({ cls := "MicroMachine$WordReader", name := "readBehindH", desc := "()Z" } : Jvm.MethodName) ∈ tg := tg_of 425 (by decide +kernel) rfl
theorem tw_390 : Cond.methodLink "MicroMachine$WordReader" 86 ({ cls := "MicroMachine$WordReader", name := "readBehindSource", desc := "()Z" } : Jvm.MethodName) ∈ tg := tg_of 427 (by decide +kernel) rfl
theorem tw_392 : Cond.instanceMethod ({ cls := "MicroMachine$WordReader", name := "readBehindSource", desc := "()Z" } : Jvm.MethodName) ∈ tg := tg_of 429 (by decide +kernel) rfl
theorem tw_394 : Cond.methodLink "MicroMachine$WordReader" 51 ({ cls := "MicroMachine$WordReader", name := "readGoing", desc := "()Z" } : Jvm.MethodName) ∈ tg := tg_of 431 (by decide +kernel) rfl
theorem tw_396 : Cond.instanceMethod ({ cls := "MicroMachine$WordReader", name := "readGoing", desc := "()Z" } : Jvm.MethodName) ∈ tg := tg_of 433 (by decide +kernel) rfl
theorem tw_399 : Cond.methodLink "MicroMachine$WordReader" 97 ({ cls := "MicroMachine$WordReader", name := "takeNumber", desc := "()I" } : Jvm.MethodName) ∈ tg := tg_of 436 (by decide +kernel) rfl
theorem tw_401 : Cond.instanceMethod ({ cls := "MicroMachine$WordReader", name := "takeNumber", desc := "()I" } : Jvm.MethodName) ∈ tg := tg_of 438 (by decide +kernel) rfl
theorem tw_403 : Cond.methodLink "MicroMachine$WordReader" 107 ({ cls := "MicroMachine$WordReader", name := "takeDigit", desc := "(I)I" } : Jvm.MethodName) ∈ tg := tg_of 440 (by decide +kernel) rfl
theorem tw_405 : Cond.instanceMethod ({ cls := "MicroMachine$WordReader", name := "takeDigit", desc := "(I)I" } : Jvm.MethodName) ∈ tg := tg_of 442 (by decide +kernel) rfl
theorem tw_407 : Cond.arrayClass FieldType.byte ∈ tg := tg_of 444 (by decide +kernel) rfl
theorem tw_408 : Cond.methodLink "MicroMachineLaw" 75 ({ cls := "MicroMachineLaw", name := "erase", desc := "(LMicroMachine;I)I" } : Jvm.MethodName) ∈ tg := tg_of 445 (by decide +kernel) rfl
theorem tw_409 : Cond.static ({ cls := "MicroMachineLaw", name := "erase", desc := "(LMicroMachine;I)I" } : Jvm.MethodName) ∈ tg := tg_of 446 (by decide +kernel) rfl
theorem tw_411 : Cond.classLink "MicroMachineLaw" 25 "java/util/NoSuchElementException" ∈ tg := tg_of 448 (by decide +kernel) rfl
theorem tw_412 : Cond.methodLink "MicroMachineLaw" 21 ({ cls := "MicroMachine", name := "erase", desc := "(I)V" } : Jvm.MethodName) ∈ tg := tg_of 449 (by decide +kernel) rfl
theorem tw_413 : Cond.instanceMethod ({ cls := "MicroMachine", name := "erase", desc := "(I)V" } : Jvm.MethodName) ∈ tg := tg_of 450 (by decide +kernel) rfl
theorem tw_414 : Cond.selects "MicroMachine" ({ cls := "MicroMachine", name := "erase", desc := "(I)V" } : Jvm.MethodName) ({ cls := "MicroMachine", name := "erase", desc := "(I)V" } : Jvm.MethodName) ∈ tg := tg_of 451 (by decide +kernel) rfl
theorem tw_416 : Cond.classLink "MicroMachine" 70 "java/util/NoSuchElementException" ∈ tg := tg_of 453 (by decide +kernel) rfl
theorem tw_417 : Cond.instantiable "java/util/NoSuchElementException" 6 ∈ tg := tg_of 454 (by decide +kernel) rfl
theorem tw_419 : Cond.selects "java/util/NoSuchElementException" ({ cls := "java/lang/Throwable", name := "fillInStackTrace", desc := "(I)Ljava/lang/Throwable;" } : Jvm.MethodName) ({ cls := "java/lang/Throwable", name := "fillInStackTrace", desc := "(I)Ljava/lang/Throwable;" } : Jvm.MethodName) ∈ tg := tg_of 456 (by decide +kernel) rfl
theorem tw_420 : Cond.lays "java/util/NoSuchElementException" "java/lang/Throwable" "cause" "Ljava/lang/Throwable;" ∈ tg := tg_of 457 (by decide +kernel) rfl
theorem tw_421 : Cond.lays "java/util/NoSuchElementException" "java/lang/Throwable" "stackTrace" "[Ljava/lang/StackTraceElement;" ∈ tg := tg_of 458 (by decide +kernel) rfl
theorem tw_422 : Cond.lays "java/util/NoSuchElementException" "java/lang/Throwable" "suppressedExceptions" "Ljava/util/List;" ∈ tg := tg_of 459 (by decide +kernel) rfl
theorem tw_423 : Cond.lays "java/util/NoSuchElementException" "java/lang/Throwable" "detailMessage" "Ljava/lang/String;" ∈ tg := tg_of 460 (by decide +kernel) rfl
theorem tw_424 : Cond.lays "java/util/NoSuchElementException" "java/lang/Throwable" "backtrace" "Ljava/lang/Object;" ∈ tg := tg_of 461 (by decide +kernel) rfl
theorem tw_425 : Cond.methodLink "MicroMachine" 72 ({ cls := "java/util/NoSuchElementException", name := "<init>", desc := "()V" } : Jvm.MethodName) ∈ tg := tg_of 462 (by decide +kernel) rfl
theorem tw_426 : Cond.instanceMethod ({ cls := "java/util/NoSuchElementException", name := "<init>", desc := "()V" } : Jvm.MethodName) ∈ tg := tg_of 463 (by decide +kernel) rfl
theorem tw_428 : Cond.methodLink "java/util/NoSuchElementException" 1 ({ cls := "java/lang/RuntimeException", name := "<init>", desc := "()V" } : Jvm.MethodName) ∈ tg := tg_of 465 (by decide +kernel) rfl
theorem tw_429 : Cond.lays "java/util/NoSuchElementException" "java/lang/Throwable" "depth" "I" ∈ tg := tg_of 466 (by decide +kernel) rfl
theorem tw_430 : Cond.superclass "java/util/NoSuchElementException" "java/lang/RuntimeException" ∈ tg := tg_of 467 (by decide +kernel) rfl
theorem tw_431 : Cond.methodLink "MicroMachineLaw" 79 ({ cls := "MicroMachineLaw", name := "begin", desc := "(LMicroMachine;I)I" } : Jvm.MethodName) ∈ tg := tg_of 468 (by decide +kernel) rfl
theorem tw_432 : Cond.static ({ cls := "MicroMachineLaw", name := "begin", desc := "(LMicroMachine;I)I" } : Jvm.MethodName) ∈ tg := tg_of 469 (by decide +kernel) rfl
theorem tw_434 : Cond.methodLink "MicroMachineLaw" 27 ({ cls := "MicroMachine", name := "begin", desc := "(I)V" } : Jvm.MethodName) ∈ tg := tg_of 471 (by decide +kernel) rfl
theorem tw_435 : Cond.instanceMethod ({ cls := "MicroMachine", name := "begin", desc := "(I)V" } : Jvm.MethodName) ∈ tg := tg_of 472 (by decide +kernel) rfl
theorem tw_436 : Cond.selects "MicroMachine" ({ cls := "MicroMachine", name := "begin", desc := "(I)V" } : Jvm.MethodName) ({ cls := "MicroMachine", name := "begin", desc := "(I)V" } : Jvm.MethodName) ∈ tg := tg_of 473 (by decide +kernel) rfl
theorem tw_438 : Cond.methodLink "MicroMachineLaw" 82 ({ cls := "MicroMachineLaw", name := "run", desc := "(LMicroMachine;I[J)I" } : Jvm.MethodName) ∈ tg := tg_of 475 (by decide +kernel) rfl
theorem tw_439 : Cond.static ({ cls := "MicroMachineLaw", name := "run", desc := "(LMicroMachine;I[J)I" } : Jvm.MethodName) ∈ tg := tg_of 476 (by decide +kernel) rfl
theorem tw_441 : Cond.classLink "MicroMachineLaw" 33 "java/lang/IndexOutOfBoundsException" ∈ tg := tg_of 478 (by decide +kernel) rfl
theorem tw_442 : Cond.methodLink "MicroMachineLaw" 30 ({ cls := "MicroMachine", name := "run", desc := "(I)I" } : Jvm.MethodName) ∈ tg := tg_of 479 (by decide +kernel) rfl
theorem tw_443 : Cond.instanceMethod ({ cls := "MicroMachine", name := "run", desc := "(I)I" } : Jvm.MethodName) ∈ tg := tg_of 480 (by decide +kernel) rfl
theorem tw_444 : Cond.selects "MicroMachine" ({ cls := "MicroMachine", name := "run", desc := "(I)I" } : Jvm.MethodName) ({ cls := "MicroMachine", name := "run", desc := "(I)I" } : Jvm.MethodName) ∈ tg := tg_of 481 (by decide +kernel) rfl
theorem tw_446 : Cond.methodLink "MicroMachine" 83 ({ cls := "MicroMachine", name := "doCycle", desc := "(LMicroMachine$Word;)V" } : Jvm.MethodName) ∈ tg := tg_of 483 (by decide +kernel) rfl
theorem tw_448 : Cond.instanceMethod ({ cls := "MicroMachine", name := "doCycle", desc := "(LMicroMachine$Word;)V" } : Jvm.MethodName) ∈ tg := tg_of 485 (by decide +kernel) rfl
theorem tw_450 : Cond.methodLink "MicroMachine" 124 ({ cls := "MicroMachine", name := "valueOf", desc := "(LMicroMachine$Word;)I" } : Jvm.MethodName) ∈ tg := tg_of 487 (by decide +kernel) rfl
theorem tw_452 : Cond.instanceMethod ({ cls := "MicroMachine", name := "valueOf", desc := "(LMicroMachine$Word;)I" } : Jvm.MethodName) ∈ tg := tg_of 489 (by decide +kernel) rfl
theorem tw_454 : Cond.methodLink "MicroMachine" 153 ({ cls := "MicroMachine", name := "busOf", desc := "(I)I" } : Jvm.MethodName) ∈ tg := tg_of 491 (by decide +kernel) rfl
theorem tw_456 : Cond.instanceMethod ({ cls := "MicroMachine", name := "busOf", desc := "(I)I" } : Jvm.MethodName) ∈ tg := tg_of 493 (by decide +kernel) rfl
theorem tw_458 : Cond.methodLink "MicroMachine" 128 ({ cls := "MicroMachine", name := "shiftedBy", desc := "(II)I" } : Jvm.MethodName) ∈ tg := tg_of 495 (by decide +kernel) rfl
theorem tw_459 : Cond.static ({ cls := "MicroMachine", name := "shiftedBy", desc := "(II)I" } : Jvm.MethodName) ∈ tg := tg_of 496 (by decide +kernel) rfl
theorem tw_462 : Cond.classLink "MicroMachine" 136 "java/lang/IndexOutOfBoundsException" ∈ tg := tg_of 499 (by decide +kernel) rfl
theorem tw_463 : Cond.instantiable "java/lang/IndexOutOfBoundsException" 6 ∈ tg := tg_of 500 (by decide +kernel) rfl
theorem tw_465 : Cond.selects "java/lang/IndexOutOfBoundsException" ({ cls := "java/lang/Throwable", name := "fillInStackTrace", desc := "(I)Ljava/lang/Throwable;" } : Jvm.MethodName) ({ cls := "java/lang/Throwable", name := "fillInStackTrace", desc := "(I)Ljava/lang/Throwable;" } : Jvm.MethodName) ∈ tg := tg_of 502 (by decide +kernel) rfl
theorem tw_466 : Cond.lays "java/lang/IndexOutOfBoundsException" "java/lang/Throwable" "cause" "Ljava/lang/Throwable;" ∈ tg := tg_of 503 (by decide +kernel) rfl
theorem tw_467 : Cond.lays "java/lang/IndexOutOfBoundsException" "java/lang/Throwable" "stackTrace" "[Ljava/lang/StackTraceElement;" ∈ tg := tg_of 504 (by decide +kernel) rfl
theorem tw_468 : Cond.lays "java/lang/IndexOutOfBoundsException" "java/lang/Throwable" "suppressedExceptions" "Ljava/util/List;" ∈ tg := tg_of 505 (by decide +kernel) rfl
theorem tw_469 : Cond.lays "java/lang/IndexOutOfBoundsException" "java/lang/Throwable" "detailMessage" "Ljava/lang/String;" ∈ tg := tg_of 506 (by decide +kernel) rfl
theorem tw_470 : Cond.lays "java/lang/IndexOutOfBoundsException" "java/lang/Throwable" "backtrace" "Ljava/lang/Object;" ∈ tg := tg_of 507 (by decide +kernel) rfl
theorem tw_471 : Cond.methodLink "MicroMachine" 138 ({ cls := "java/lang/IndexOutOfBoundsException", name := "<init>", desc := "()V" } : Jvm.MethodName) ∈ tg := tg_of 508 (by decide +kernel) rfl
theorem tw_472 : Cond.instanceMethod ({ cls := "java/lang/IndexOutOfBoundsException", name := "<init>", desc := "()V" } : Jvm.MethodName) ∈ tg := tg_of 509 (by decide +kernel) rfl
theorem tw_474 : Cond.methodLink "java/lang/IndexOutOfBoundsException" 1 ({ cls := "java/lang/RuntimeException", name := "<init>", desc := "()V" } : Jvm.MethodName) ∈ tg := tg_of 511 (by decide +kernel) rfl
theorem tw_475 : Cond.lays "java/lang/IndexOutOfBoundsException" "java/lang/Throwable" "depth" "I" ∈ tg := tg_of 512 (by decide +kernel) rfl
theorem tw_476 : Cond.superclass "java/lang/IndexOutOfBoundsException" "java/lang/RuntimeException" ∈ tg := tg_of 513 (by decide +kernel) rfl
theorem tw_477 : Cond.methodLink "MicroMachine" 139 ({ cls := "MicroMachine", name := "askForWord", desc := "(II)V" } : Jvm.MethodName) ∈ tg := tg_of 514 (by decide +kernel) rfl
theorem tw_479 : Cond.instanceMethod ({ cls := "MicroMachine", name := "askForWord", desc := "(II)V" } : Jvm.MethodName) ∈ tg := tg_of 516 (by decide +kernel) rfl
theorem tw_481 : Cond.methodLink "MicroMachine" 142 ({ cls := "MicroMachine", name := "askForByte", desc := "(ZI)V" } : Jvm.MethodName) ∈ tg := tg_of 518 (by decide +kernel) rfl
theorem tw_483 : Cond.instanceMethod ({ cls := "MicroMachine", name := "askForByte", desc := "(ZI)V" } : Jvm.MethodName) ∈ tg := tg_of 520 (by decide +kernel) rfl
theorem tw_485 : Cond.methodLink "MicroMachine" 146 ({ cls := "MicroMachine", name := "wordBehind", desc := "(LMicroMachine$Word;I)I" } : Jvm.MethodName) ∈ tg := tg_of 522 (by decide +kernel) rfl
theorem tw_487 : Cond.instanceMethod ({ cls := "MicroMachine", name := "wordBehind", desc := "(LMicroMachine$Word;I)I" } : Jvm.MethodName) ∈ tg := tg_of 524 (by decide +kernel) rfl
theorem tw_489 : Cond.methodLink "MicroMachine" 166 ({ cls := "java/lang/Math", name := "max", desc := "(II)I" } : Jvm.MethodName) ∈ tg := tg_of 526 (by decide +kernel) rfl
theorem tw_490 : Cond.methodLink "MicroMachineLaw" 85 ({ cls := "MicroMachineLaw", name := "set", desc := "(LMicroMachine;II)I" } : Jvm.MethodName) ∈ tg := tg_of 527 (by decide +kernel) rfl
theorem tw_491 : Cond.static ({ cls := "MicroMachineLaw", name := "set", desc := "(LMicroMachine;II)I" } : Jvm.MethodName) ∈ tg := tg_of 528 (by decide +kernel) rfl
theorem tw_493 : Cond.methodLink "MicroMachineLaw" 35 ({ cls := "MicroMachine", name := "set", desc := "(II)V" } : Jvm.MethodName) ∈ tg := tg_of 530 (by decide +kernel) rfl
theorem tw_494 : Cond.instanceMethod ({ cls := "MicroMachine", name := "set", desc := "(II)V" } : Jvm.MethodName) ∈ tg := tg_of 531 (by decide +kernel) rfl
theorem tw_495 : Cond.selects "MicroMachine" ({ cls := "MicroMachine", name := "set", desc := "(II)V" } : Jvm.MethodName) ({ cls := "MicroMachine", name := "set", desc := "(II)V" } : Jvm.MethodName) ∈ tg := tg_of 532 (by decide +kernel) rfl
theorem tw_497 : Cond.methodLink "MicroMachineLaw" 89 ({ cls := "MicroMachineLaw", name := "register", desc := "(LMicroMachine;I[J)I" } : Jvm.MethodName) ∈ tg := tg_of 534 (by decide +kernel) rfl
theorem tw_498 : Cond.static ({ cls := "MicroMachineLaw", name := "register", desc := "(LMicroMachine;I[J)I" } : Jvm.MethodName) ∈ tg := tg_of 535 (by decide +kernel) rfl
theorem tw_500 : Cond.methodLink "MicroMachineLaw" 39 ({ cls := "MicroMachine", name := "register", desc := "(I)I" } : Jvm.MethodName) ∈ tg := tg_of 537 (by decide +kernel) rfl
theorem tw_501 : Cond.instanceMethod ({ cls := "MicroMachine", name := "register", desc := "(I)I" } : Jvm.MethodName) ∈ tg := tg_of 538 (by decide +kernel) rfl
theorem tw_502 : Cond.selects "MicroMachine" ({ cls := "MicroMachine", name := "register", desc := "(I)I" } : Jvm.MethodName) ({ cls := "MicroMachine", name := "register", desc := "(I)I" } : Jvm.MethodName) ∈ tg := tg_of 539 (by decide +kernel) rfl
theorem tw_504 : Cond.methodLink "MicroMachineLaw" 92 ({ cls := "MicroMachineLaw", name := "poke", desc := "(LMicroMachine;II)I" } : Jvm.MethodName) ∈ tg := tg_of 541 (by decide +kernel) rfl
theorem tw_505 : Cond.static ({ cls := "MicroMachineLaw", name := "poke", desc := "(LMicroMachine;II)I" } : Jvm.MethodName) ∈ tg := tg_of 542 (by decide +kernel) rfl
theorem tw_507 : Cond.methodLink "MicroMachineLaw" 42 ({ cls := "MicroMachine", name := "poke", desc := "(II)V" } : Jvm.MethodName) ∈ tg := tg_of 544 (by decide +kernel) rfl
theorem tw_508 : Cond.instanceMethod ({ cls := "MicroMachine", name := "poke", desc := "(II)V" } : Jvm.MethodName) ∈ tg := tg_of 545 (by decide +kernel) rfl
theorem tw_509 : Cond.selects "MicroMachine" ({ cls := "MicroMachine", name := "poke", desc := "(II)V" } : Jvm.MethodName) ({ cls := "MicroMachine", name := "poke", desc := "(II)V" } : Jvm.MethodName) ∈ tg := tg_of 546 (by decide +kernel) rfl
theorem tw_511 : Cond.methodLink "MicroMachineLaw" 95 ({ cls := "MicroMachineLaw", name := "memory", desc := "(LMicroMachine;I[J)I" } : Jvm.MethodName) ∈ tg := tg_of 548 (by decide +kernel) rfl
theorem tw_512 : Cond.static ({ cls := "MicroMachineLaw", name := "memory", desc := "(LMicroMachine;I[J)I" } : Jvm.MethodName) ∈ tg := tg_of 549 (by decide +kernel) rfl
theorem tw_514 : Cond.methodLink "MicroMachineLaw" 45 ({ cls := "MicroMachine", name := "memory", desc := "(I)I" } : Jvm.MethodName) ∈ tg := tg_of 551 (by decide +kernel) rfl
theorem tw_515 : Cond.instanceMethod ({ cls := "MicroMachine", name := "memory", desc := "(I)I" } : Jvm.MethodName) ∈ tg := tg_of 552 (by decide +kernel) rfl
theorem tw_516 : Cond.selects "MicroMachine" ({ cls := "MicroMachine", name := "memory", desc := "(I)I" } : Jvm.MethodName) ({ cls := "MicroMachine", name := "memory", desc := "(I)I" } : Jvm.MethodName) ∈ tg := tg_of 553 (by decide +kernel) rfl
theorem tw_518 : Cond.methodLink "MicroMachineLaw" 98 ({ cls := "MicroMachineLaw", name := "code", desc := "(LMicroMachine;II)I" } : Jvm.MethodName) ∈ tg := tg_of 555 (by decide +kernel) rfl
theorem tw_519 : Cond.static ({ cls := "MicroMachineLaw", name := "code", desc := "(LMicroMachine;II)I" } : Jvm.MethodName) ∈ tg := tg_of 556 (by decide +kernel) rfl
theorem tw_521 : Cond.methodLink "MicroMachineLaw" 48 ({ cls := "MicroMachine", name := "code", desc := "(II)V" } : Jvm.MethodName) ∈ tg := tg_of 558 (by decide +kernel) rfl
theorem tw_522 : Cond.instanceMethod ({ cls := "MicroMachine", name := "code", desc := "(II)V" } : Jvm.MethodName) ∈ tg := tg_of 559 (by decide +kernel) rfl
theorem tw_523 : Cond.selects "MicroMachine" ({ cls := "MicroMachine", name := "code", desc := "(II)V" } : Jvm.MethodName) ({ cls := "MicroMachine", name := "code", desc := "(II)V" } : Jvm.MethodName) ∈ tg := tg_of 560 (by decide +kernel) rfl
theorem tw_525 : Cond.methodLink "MicroMachineLaw" 101 ({ cls := "MicroMachineLaw", name := "told", desc := "(LMicroMachine;II[J)I" } : Jvm.MethodName) ∈ tg := tg_of 562 (by decide +kernel) rfl
theorem tw_526 : Cond.static ({ cls := "MicroMachineLaw", name := "told", desc := "(LMicroMachine;II[J)I" } : Jvm.MethodName) ∈ tg := tg_of 563 (by decide +kernel) rfl
theorem tw_528 : Cond.methodLink "MicroMachineLaw" 51 ({ cls := "MicroMachine", name := "told", desc := "(II)I" } : Jvm.MethodName) ∈ tg := tg_of 565 (by decide +kernel) rfl
theorem tw_529 : Cond.instanceMethod ({ cls := "MicroMachine", name := "told", desc := "(II)I" } : Jvm.MethodName) ∈ tg := tg_of 566 (by decide +kernel) rfl
theorem tw_530 : Cond.selects "MicroMachine" ({ cls := "MicroMachine", name := "told", desc := "(II)I" } : Jvm.MethodName) ({ cls := "MicroMachine", name := "told", desc := "(II)I" } : Jvm.MethodName) ∈ tg := tg_of 567 (by decide +kernel) rfl
theorem tw_532 : Cond.classLink "MicroMachineLaw" 56 "MicroMachineModel" ∈ tg := tg_of 569 (by decide +kernel) rfl
theorem tw_533 : Cond.instantiable "MicroMachineModel" 28 ∈ tg := tg_of 570 (by decide +kernel) rfl
theorem tw_534 : Cond.methodLink "MicroMachineLaw" 58 ({ cls := "MicroMachineModel", name := "<init>", desc := "()V" } : Jvm.MethodName) ∈ tg := tg_of 571 (by decide +kernel) rfl
theorem tw_535 : Cond.instanceMethod ({ cls := "MicroMachineModel", name := "<init>", desc := "()V" } : Jvm.MethodName) ∈ tg := tg_of 572 (by decide +kernel) rfl
theorem tw_537 : Cond.methodLink "MicroMachineModel" 1 ({ cls := "java/lang/Object", name := "<init>", desc := "()V" } : Jvm.MethodName) ∈ tg := tg_of 574 (by decide +kernel) rfl
theorem tw_538 : Cond.fieldLink "MicroMachineModel" 7 "MicroMachineModel" "text" "[I" ∈ tg := tg_of 575 (by decide +kernel) rfl
theorem tw_539 : Cond.fieldLink "MicroMachineModel" 13 "MicroMachineModel" "registers" "[I" ∈ tg := tg_of 576 (by decide +kernel) rfl
theorem tw_540 : Cond.fieldLink "MicroMachineModel" 16 "MicroMachineModel" "memory" "[I" ∈ tg := tg_of 577 (by decide +kernel) rfl
theorem tw_541 : Cond.fieldLink "MicroMachineModel" 19 "MicroMachineModel" "bytes" "[I" ∈ tg := tg_of 578 (by decide +kernel) rfl
theorem tw_542 : Cond.fieldLink "MicroMachineModel" 22 "MicroMachineModel" "into" "[I" ∈ tg := tg_of 579 (by decide +kernel) rfl
theorem tw_543 : Cond.fieldLink "MicroMachineModel" 25 "MicroMachineModel" "sort" "[I" ∈ tg := tg_of 580 (by decide +kernel) rfl
theorem tw_544 : Cond.fieldLink "MicroMachineModel" 28 "MicroMachineModel" "from" "[I" ∈ tg := tg_of 581 (by decide +kernel) rfl
theorem tw_545 : Cond.fieldLink "MicroMachineModel" 31 "MicroMachineModel" "shift" "[I" ∈ tg := tg_of 582 (by decide +kernel) rfl
theorem tw_546 : Cond.fieldLink "MicroMachineModel" 34 "MicroMachineModel" "words" "[I" ∈ tg := tg_of 583 (by decide +kernel) rfl
theorem tw_547 : Cond.fieldLink "MicroMachineModel" 37 "MicroMachineModel" "fetch" "[I" ∈ tg := tg_of 584 (by decide +kernel) rfl
theorem tw_548 : Cond.fieldLink "MicroMachineModel" 40 "MicroMachineModel" "going" "[I" ∈ tg := tg_of 585 (by decide +kernel) rfl
theorem tw_549 : Cond.fieldLink "MicroMachineModel" 43 "MicroMachineModel" "first" "[I" ∈ tg := tg_of 586 (by decide +kernel) rfl
theorem tw_550 : Cond.fieldLink "MicroMachineModel" 46 "MicroMachineModel" "second" "[I" ∈ tg := tg_of 587 (by decide +kernel) rfl
theorem tw_551 : Cond.fieldLink "MicroMachineModel" 49 "MicroMachineModel" "there" "[Z" ∈ tg := tg_of 588 (by decide +kernel) rfl
theorem tw_552 : Cond.fieldLink "MicroMachineModel" 60 "MicroMachineModel" "length" "I" ∈ tg := tg_of 589 (by decide +kernel) rfl
theorem tw_553 : Cond.fieldLink "MicroMachineModel" 53 "MicroMachineModel" "place" "I" ∈ tg := tg_of 590 (by decide +kernel) rfl
theorem tw_554 : Cond.fieldLink "MicroMachineModel" 63 "MicroMachineModel" "i" "I" ∈ tg := tg_of 591 (by decide +kernel) rfl
theorem tw_555 : Cond.fieldLink "MicroMachineModel" 91 "MicroMachineModel" "parts" "I" ∈ tg := tg_of 592 (by decide +kernel) rfl
theorem tw_556 : Cond.fieldLink "MicroMachineModel" 108 "MicroMachineModel" "hand" "I" ∈ tg := tg_of 593 (by decide +kernel) rfl
theorem tw_557 : Cond.fieldLink "MicroMachineModel" 139 "MicroMachineModel" "cycles" "I" ∈ tg := tg_of 594 (by decide +kernel) rfl
theorem tw_558 : Cond.fieldLink "MicroMachineModel" 125 "MicroMachineModel" "reads" "I" ∈ tg := tg_of 595 (by decide +kernel) rfl
theorem tw_559 : Cond.fieldLink "MicroMachineModel" 127 "MicroMachineModel" "writes" "I" ∈ tg := tg_of 596 (by decide +kernel) rfl
theorem tw_560 : Cond.fieldLink "MicroMachineModel" 136 "MicroMachineModel" "fetches" "I" ∈ tg := tg_of 597 (by decide +kernel) rfl
theorem tw_561 : Cond.fieldLink "MicroMachineModel" 57 "MicroMachineModel" "thrown" "I" ∈ tg := tg_of 598 (by decide +kernel) rfl
theorem tw_562 : Cond.fieldLink "MicroMachineModel" 111 "MicroMachineModel" "wordComes" "Z" ∈ tg := tg_of 599 (by decide +kernel) rfl
theorem tw_563 : Cond.fieldLink "MicroMachineModel" 115 "MicroMachineModel" "byteComes" "Z" ∈ tg := tg_of 600 (by decide +kernel) rfl
theorem tw_564 : Cond.fieldLink "MicroMachineModel" 130 "MicroMachineModel" "word" "I" ∈ tg := tg_of 601 (by decide +kernel) rfl
theorem tw_565 : Cond.fieldLink "MicroMachineModel" 133 "MicroMachineModel" "aByte" "I" ∈ tg := tg_of 602 (by decide +kernel) rfl
theorem tw_566 : Cond.laysFinal "MicroMachineModel" "MicroMachineModel" "text" "[I" ∈ tg := tg_of 603 (by decide +kernel) rfl
theorem tw_567 : Cond.soleField "MicroMachineModel" "text" ∈ tg := tg_of 604 (by decide +kernel) rfl
theorem tw_568 : Cond.laysFinal "MicroMachineModel" "MicroMachineModel" "registers" "[I" ∈ tg := tg_of 605 (by decide +kernel) rfl
theorem tw_569 : Cond.soleField "MicroMachineModel" "registers" ∈ tg := tg_of 606 (by decide +kernel) rfl
theorem tw_570 : Cond.laysFinal "MicroMachineModel" "MicroMachineModel" "memory" "[I" ∈ tg := tg_of 607 (by decide +kernel) rfl
theorem tw_571 : Cond.soleField "MicroMachineModel" "memory" ∈ tg := tg_of 608 (by decide +kernel) rfl
theorem tw_572 : Cond.laysFinal "MicroMachineModel" "MicroMachineModel" "bytes" "[I" ∈ tg := tg_of 609 (by decide +kernel) rfl
theorem tw_573 : Cond.soleField "MicroMachineModel" "bytes" ∈ tg := tg_of 610 (by decide +kernel) rfl
theorem tw_574 : Cond.laysFinal "MicroMachineModel" "MicroMachineModel" "into" "[I" ∈ tg := tg_of 611 (by decide +kernel) rfl
theorem tw_575 : Cond.soleField "MicroMachineModel" "into" ∈ tg := tg_of 612 (by decide +kernel) rfl
theorem tw_576 : Cond.laysFinal "MicroMachineModel" "MicroMachineModel" "sort" "[I" ∈ tg := tg_of 613 (by decide +kernel) rfl
theorem tw_577 : Cond.soleField "MicroMachineModel" "sort" ∈ tg := tg_of 614 (by decide +kernel) rfl
theorem tw_578 : Cond.laysFinal "MicroMachineModel" "MicroMachineModel" "from" "[I" ∈ tg := tg_of 615 (by decide +kernel) rfl
theorem tw_579 : Cond.soleField "MicroMachineModel" "from" ∈ tg := tg_of 616 (by decide +kernel) rfl
theorem tw_580 : Cond.laysFinal "MicroMachineModel" "MicroMachineModel" "shift" "[I" ∈ tg := tg_of 617 (by decide +kernel) rfl
theorem tw_581 : Cond.soleField "MicroMachineModel" "shift" ∈ tg := tg_of 618 (by decide +kernel) rfl
theorem tw_582 : Cond.laysFinal "MicroMachineModel" "MicroMachineModel" "words" "[I" ∈ tg := tg_of 619 (by decide +kernel) rfl
theorem tw_583 : Cond.soleField "MicroMachineModel" "words" ∈ tg := tg_of 620 (by decide +kernel) rfl
theorem tw_584 : Cond.laysFinal "MicroMachineModel" "MicroMachineModel" "fetch" "[I" ∈ tg := tg_of 621 (by decide +kernel) rfl
theorem tw_585 : Cond.soleField "MicroMachineModel" "fetch" ∈ tg := tg_of 622 (by decide +kernel) rfl
theorem tw_586 : Cond.laysFinal "MicroMachineModel" "MicroMachineModel" "going" "[I" ∈ tg := tg_of 623 (by decide +kernel) rfl
theorem tw_587 : Cond.soleField "MicroMachineModel" "going" ∈ tg := tg_of 624 (by decide +kernel) rfl
theorem tw_588 : Cond.laysFinal "MicroMachineModel" "MicroMachineModel" "first" "[I" ∈ tg := tg_of 625 (by decide +kernel) rfl
theorem tw_589 : Cond.soleField "MicroMachineModel" "first" ∈ tg := tg_of 626 (by decide +kernel) rfl
theorem tw_590 : Cond.laysFinal "MicroMachineModel" "MicroMachineModel" "second" "[I" ∈ tg := tg_of 627 (by decide +kernel) rfl
theorem tw_591 : Cond.soleField "MicroMachineModel" "second" ∈ tg := tg_of 628 (by decide +kernel) rfl
theorem tw_592 : Cond.laysFinal "MicroMachineModel" "MicroMachineModel" "there" "[Z" ∈ tg := tg_of 629 (by decide +kernel) rfl
theorem tw_593 : Cond.soleField "MicroMachineModel" "there" ∈ tg := tg_of 630 (by decide +kernel) rfl
theorem tw_594 : Cond.lays "MicroMachineModel" "MicroMachineModel" "length" "I" ∈ tg := tg_of 631 (by decide +kernel) rfl
theorem tw_595 : Cond.soleField "MicroMachineModel" "length" ∈ tg := tg_of 632 (by decide +kernel) rfl
theorem tw_596 : Cond.lays "MicroMachineModel" "MicroMachineModel" "place" "I" ∈ tg := tg_of 633 (by decide +kernel) rfl
theorem tw_597 : Cond.soleField "MicroMachineModel" "place" ∈ tg := tg_of 634 (by decide +kernel) rfl
theorem tw_598 : Cond.lays "MicroMachineModel" "MicroMachineModel" "i" "I" ∈ tg := tg_of 635 (by decide +kernel) rfl
theorem tw_599 : Cond.soleField "MicroMachineModel" "i" ∈ tg := tg_of 636 (by decide +kernel) rfl
theorem tw_600 : Cond.lays "MicroMachineModel" "MicroMachineModel" "parts" "I" ∈ tg := tg_of 637 (by decide +kernel) rfl
theorem tw_601 : Cond.soleField "MicroMachineModel" "parts" ∈ tg := tg_of 638 (by decide +kernel) rfl
theorem tw_602 : Cond.lays "MicroMachineModel" "MicroMachineModel" "hand" "I" ∈ tg := tg_of 639 (by decide +kernel) rfl
theorem tw_603 : Cond.soleField "MicroMachineModel" "hand" ∈ tg := tg_of 640 (by decide +kernel) rfl
theorem tw_604 : Cond.lays "MicroMachineModel" "MicroMachineModel" "cycles" "I" ∈ tg := tg_of 641 (by decide +kernel) rfl
theorem tw_605 : Cond.soleField "MicroMachineModel" "cycles" ∈ tg := tg_of 642 (by decide +kernel) rfl
theorem tw_606 : Cond.lays "MicroMachineModel" "MicroMachineModel" "reads" "I" ∈ tg := tg_of 643 (by decide +kernel) rfl
theorem tw_607 : Cond.soleField "MicroMachineModel" "reads" ∈ tg := tg_of 644 (by decide +kernel) rfl
theorem tw_608 : Cond.lays "MicroMachineModel" "MicroMachineModel" "writes" "I" ∈ tg := tg_of 645 (by decide +kernel) rfl
theorem tw_609 : Cond.soleField "MicroMachineModel" "writes" ∈ tg := tg_of 646 (by decide +kernel) rfl
theorem tw_610 : Cond.lays "MicroMachineModel" "MicroMachineModel" "fetches" "I" ∈ tg := tg_of 647 (by decide +kernel) rfl
theorem tw_611 : Cond.soleField "MicroMachineModel" "fetches" ∈ tg := tg_of 648 (by decide +kernel) rfl
theorem tw_612 : Cond.lays "MicroMachineModel" "MicroMachineModel" "thrown" "I" ∈ tg := tg_of 649 (by decide +kernel) rfl
theorem tw_613 : Cond.soleField "MicroMachineModel" "thrown" ∈ tg := tg_of 650 (by decide +kernel) rfl
theorem tw_614 : Cond.lays "MicroMachineModel" "MicroMachineModel" "wordComes" "Z" ∈ tg := tg_of 651 (by decide +kernel) rfl
theorem tw_615 : Cond.soleField "MicroMachineModel" "wordComes" ∈ tg := tg_of 652 (by decide +kernel) rfl
theorem tw_616 : Cond.lays "MicroMachineModel" "MicroMachineModel" "byteComes" "Z" ∈ tg := tg_of 653 (by decide +kernel) rfl
theorem tw_617 : Cond.soleField "MicroMachineModel" "byteComes" ∈ tg := tg_of 654 (by decide +kernel) rfl
theorem tw_618 : Cond.lays "MicroMachineModel" "MicroMachineModel" "word" "I" ∈ tg := tg_of 655 (by decide +kernel) rfl
theorem tw_619 : Cond.soleField "MicroMachineModel" "word" ∈ tg := tg_of 656 (by decide +kernel) rfl
theorem tw_620 : Cond.lays "MicroMachineModel" "MicroMachineModel" "aByte" "I" ∈ tg := tg_of 657 (by decide +kernel) rfl
theorem tw_621 : Cond.soleField "MicroMachineModel" "aByte" ∈ tg := tg_of 658 (by decide +kernel) rfl
theorem tw_622 : Cond.superclass "MicroMachineModel" "java/lang/Object" ∈ tg := tg_of 659 (by decide +kernel) rfl
theorem tw_623 : Cond.arrayClass FieldType.boolean ∈ tg := tg_of 660 (by decide +kernel) rfl
theorem tw_624 : Cond.methodLink "MicroMachineLaw" 67 ({ cls := "MicroMachineModel", name := "thrown", desc := "()I" } : Jvm.MethodName) ∈ tg := tg_of 661 (by decide +kernel) rfl
theorem tw_625 : Cond.instanceMethod ({ cls := "MicroMachineModel", name := "thrown", desc := "()I" } : Jvm.MethodName) ∈ tg := tg_of 662 (by decide +kernel) rfl
theorem tw_626 : Cond.selects "MicroMachineModel" ({ cls := "MicroMachineModel", name := "thrown", desc := "()I" } : Jvm.MethodName) ({ cls := "MicroMachineModel", name := "thrown", desc := "()I" } : Jvm.MethodName) ∈ tg := tg_of 663 (by decide +kernel) rfl
theorem tw_628 : Cond.methodLink "MicroMachineLaw" 66 ({ cls := "MicroMachineModel", name := "type", desc := "(J)I" } : Jvm.MethodName) ∈ tg := tg_of 665 (by decide +kernel) rfl
theorem tw_629 : Cond.instanceMethod ({ cls := "MicroMachineModel", name := "type", desc := "(J)I" } : Jvm.MethodName) ∈ tg := tg_of 666 (by decide +kernel) rfl
theorem tw_630 : Cond.selects "MicroMachineModel" ({ cls := "MicroMachineModel", name := "type", desc := "(J)I" } : Jvm.MethodName) ({ cls := "MicroMachineModel", name := "type", desc := "(J)I" } : Jvm.MethodName) ∈ tg := tg_of 667 (by decide +kernel) rfl
theorem tw_632 : Cond.methodLink "MicroMachineLaw" 74 ({ cls := "MicroMachineModel", name := "word", desc := "(I)I" } : Jvm.MethodName) ∈ tg := tg_of 669 (by decide +kernel) rfl
theorem tw_633 : Cond.instanceMethod ({ cls := "MicroMachineModel", name := "word", desc := "(I)I" } : Jvm.MethodName) ∈ tg := tg_of 670 (by decide +kernel) rfl
theorem tw_634 : Cond.selects "MicroMachineModel" ({ cls := "MicroMachineModel", name := "word", desc := "(I)I" } : Jvm.MethodName) ({ cls := "MicroMachineModel", name := "word", desc := "(I)I" } : Jvm.MethodName) ∈ tg := tg_of 671 (by decide +kernel) rfl
theorem tw_636 : Cond.methodLink "MicroMachineModel" 105 ({ cls := "MicroMachineModel", name := "reads", desc := "()Z" } : Jvm.MethodName) ∈ tg := tg_of 673 (by decide +kernel) rfl
theorem tw_638 : Cond.instanceMethod ({ cls := "MicroMachineModel", name := "reads", desc := "()Z" } : Jvm.MethodName) ∈ tg := tg_of 675 (by decide +kernel) rfl
theorem tw_640 : Cond.methodLink "MicroMachineModel" 66 ({ cls := "MicroMachineModel", name := "look", desc := "()I" } : Jvm.MethodName) ∈ tg := tg_of 677 (by decide +kernel) rfl
theorem tw_642 : Cond.instanceMethod ({ cls := "MicroMachineModel", name := "look", desc := "()I" } : Jvm.MethodName) ∈ tg := tg_of 679 (by decide +kernel) rfl
theorem tw_644 : Cond.methodLink "MicroMachineModel" 70 ({ cls := "MicroMachineModel", name := "settable", desc := "(I)I" } : Jvm.MethodName) ∈ tg := tg_of 681 (by decide +kernel) rfl
theorem tw_646 : Cond.instanceMethod ({ cls := "MicroMachineModel", name := "settable", desc := "(I)I" } : Jvm.MethodName) ∈ tg := tg_of 683 (by decide +kernel) rfl
theorem tw_648 : Cond.methodLink "MicroMachineModel" 97 ({ cls := "MicroMachineModel", name := "setting", desc := "()Z" } : Jvm.MethodName) ∈ tg := tg_of 685 (by decide +kernel) rfl
theorem tw_650 : Cond.instanceMethod ({ cls := "MicroMachineModel", name := "setting", desc := "()Z" } : Jvm.MethodName) ∈ tg := tg_of 687 (by decide +kernel) rfl
theorem tw_652 : Cond.methodLink "MicroMachineModel" 77 ({ cls := "MicroMachineModel", name := "has", desc := "(I)Z" } : Jvm.MethodName) ∈ tg := tg_of 689 (by decide +kernel) rfl
theorem tw_654 : Cond.instanceMethod ({ cls := "MicroMachineModel", name := "has", desc := "(I)Z" } : Jvm.MethodName) ∈ tg := tg_of 691 (by decide +kernel) rfl
theorem tw_656 : Cond.methodLink "MicroMachineModel" 87 ({ cls := "MicroMachineModel", name := "value", desc := "()Z" } : Jvm.MethodName) ∈ tg := tg_of 693 (by decide +kernel) rfl
theorem tw_658 : Cond.instanceMethod ({ cls := "MicroMachineModel", name := "value", desc := "()Z" } : Jvm.MethodName) ∈ tg := tg_of 695 (by decide +kernel) rfl
theorem tw_660 : Cond.methodLink "MicroMachineModel" 81 ({ cls := "MicroMachineModel", name := "plain", desc := "(I)Z" } : Jvm.MethodName) ∈ tg := tg_of 697 (by decide +kernel) rfl
theorem tw_662 : Cond.instanceMethod ({ cls := "MicroMachineModel", name := "plain", desc := "(I)Z" } : Jvm.MethodName) ∈ tg := tg_of 699 (by decide +kernel) rfl
theorem tw_664 : Cond.methodLink "MicroMachineModel" 84 ({ cls := "MicroMachineModel", name := "bus", desc := "(I)Z" } : Jvm.MethodName) ∈ tg := tg_of 701 (by decide +kernel) rfl
theorem tw_666 : Cond.instanceMethod ({ cls := "MicroMachineModel", name := "bus", desc := "(I)Z" } : Jvm.MethodName) ∈ tg := tg_of 703 (by decide +kernel) rfl
theorem tw_668 : Cond.methodLink "MicroMachineModel" 74 ({ cls := "MicroMachineModel", name := "onBus", desc := "(I)I" } : Jvm.MethodName) ∈ tg := tg_of 705 (by decide +kernel) rfl
theorem tw_670 : Cond.instanceMethod ({ cls := "MicroMachineModel", name := "onBus", desc := "(I)I" } : Jvm.MethodName) ∈ tg := tg_of 707 (by decide +kernel) rfl
theorem tw_672 : Cond.methodLink "MicroMachineModel" 100 ({ cls := "MicroMachineModel", name := "asking", desc := "(I)Z" } : Jvm.MethodName) ∈ tg := tg_of 709 (by decide +kernel) rfl
theorem tw_674 : Cond.instanceMethod ({ cls := "MicroMachineModel", name := "asking", desc := "(I)Z" } : Jvm.MethodName) ∈ tg := tg_of 711 (by decide +kernel) rfl
theorem tw_676 : Cond.methodLink "MicroMachineModel" 103 ({ cls := "MicroMachineModel", name := "going", desc := "(I)Z" } : Jvm.MethodName) ∈ tg := tg_of 713 (by decide +kernel) rfl
theorem tw_678 : Cond.instanceMethod ({ cls := "MicroMachineModel", name := "going", desc := "(I)Z" } : Jvm.MethodName) ∈ tg := tg_of 715 (by decide +kernel) rfl
theorem tw_680 : Cond.methodLink "MicroMachineModel" 94 ({ cls := "MicroMachineModel", name := "number", desc := "()I" } : Jvm.MethodName) ∈ tg := tg_of 717 (by decide +kernel) rfl
theorem tw_682 : Cond.instanceMethod ({ cls := "MicroMachineModel", name := "number", desc := "()I" } : Jvm.MethodName) ∈ tg := tg_of 719 (by decide +kernel) rfl
theorem tw_684 : Cond.methodLink "MicroMachineLaw" 78 ({ cls := "MicroMachineModel", name := "erase", desc := "(I)V" } : Jvm.MethodName) ∈ tg := tg_of 721 (by decide +kernel) rfl
theorem tw_685 : Cond.instanceMethod ({ cls := "MicroMachineModel", name := "erase", desc := "(I)V" } : Jvm.MethodName) ∈ tg := tg_of 722 (by decide +kernel) rfl
theorem tw_686 : Cond.selects "MicroMachineModel" ({ cls := "MicroMachineModel", name := "erase", desc := "(I)V" } : Jvm.MethodName) ({ cls := "MicroMachineModel", name := "erase", desc := "(I)V" } : Jvm.MethodName) ∈ tg := tg_of 723 (by decide +kernel) rfl
theorem tw_688 : Cond.methodLink "MicroMachineLaw" 81 ({ cls := "MicroMachineModel", name := "begin", desc := "(I)V" } : Jvm.MethodName) ∈ tg := tg_of 725 (by decide +kernel) rfl
theorem tw_689 : Cond.instanceMethod ({ cls := "MicroMachineModel", name := "begin", desc := "(I)V" } : Jvm.MethodName) ∈ tg := tg_of 726 (by decide +kernel) rfl
theorem tw_690 : Cond.selects "MicroMachineModel" ({ cls := "MicroMachineModel", name := "begin", desc := "(I)V" } : Jvm.MethodName) ({ cls := "MicroMachineModel", name := "begin", desc := "(I)V" } : Jvm.MethodName) ∈ tg := tg_of 727 (by decide +kernel) rfl
theorem tw_692 : Cond.methodLink "MicroMachineLaw" 84 ({ cls := "MicroMachineModel", name := "run", desc := "(I)I" } : Jvm.MethodName) ∈ tg := tg_of 729 (by decide +kernel) rfl
theorem tw_693 : Cond.instanceMethod ({ cls := "MicroMachineModel", name := "run", desc := "(I)I" } : Jvm.MethodName) ∈ tg := tg_of 730 (by decide +kernel) rfl
theorem tw_694 : Cond.selects "MicroMachineModel" ({ cls := "MicroMachineModel", name := "run", desc := "(I)I" } : Jvm.MethodName) ({ cls := "MicroMachineModel", name := "run", desc := "(I)I" } : Jvm.MethodName) ∈ tg := tg_of 731 (by decide +kernel) rfl
theorem tw_696 : Cond.methodLink "MicroMachineModel" 142 ({ cls := "MicroMachineModel", name := "cycle", desc := "(I)V" } : Jvm.MethodName) ∈ tg := tg_of 733 (by decide +kernel) rfl
theorem tw_698 : Cond.instanceMethod ({ cls := "MicroMachineModel", name := "cycle", desc := "(I)V" } : Jvm.MethodName) ∈ tg := tg_of 735 (by decide +kernel) rfl
theorem tw_700 : Cond.methodLink "MicroMachineModel" 118 ({ cls := "MicroMachineModel", name := "result", desc := "(I)I" } : Jvm.MethodName) ∈ tg := tg_of 737 (by decide +kernel) rfl
theorem tw_702 : Cond.instanceMethod ({ cls := "MicroMachineModel", name := "result", desc := "(I)I" } : Jvm.MethodName) ∈ tg := tg_of 739 (by decide +kernel) rfl
theorem tw_704 : Cond.methodLink "MicroMachineModel" 121 ({ cls := "MicroMachineModel", name := "then", desc := "(III)I" } : Jvm.MethodName) ∈ tg := tg_of 741 (by decide +kernel) rfl
theorem tw_706 : Cond.instanceMethod ({ cls := "MicroMachineModel", name := "then", desc := "(III)I" } : Jvm.MethodName) ∈ tg := tg_of 743 (by decide +kernel) rfl
theorem tw_708 : Cond.methodLink "MicroMachineLaw" 88 ({ cls := "MicroMachineModel", name := "set", desc := "(II)V" } : Jvm.MethodName) ∈ tg := tg_of 745 (by decide +kernel) rfl
theorem tw_709 : Cond.instanceMethod ({ cls := "MicroMachineModel", name := "set", desc := "(II)V" } : Jvm.MethodName) ∈ tg := tg_of 746 (by decide +kernel) rfl
theorem tw_710 : Cond.selects "MicroMachineModel" ({ cls := "MicroMachineModel", name := "set", desc := "(II)V" } : Jvm.MethodName) ({ cls := "MicroMachineModel", name := "set", desc := "(II)V" } : Jvm.MethodName) ∈ tg := tg_of 747 (by decide +kernel) rfl
theorem tw_712 : Cond.methodLink "MicroMachineLaw" 91 ({ cls := "MicroMachineModel", name := "register", desc := "(I)I" } : Jvm.MethodName) ∈ tg := tg_of 749 (by decide +kernel) rfl
theorem tw_713 : Cond.instanceMethod ({ cls := "MicroMachineModel", name := "register", desc := "(I)I" } : Jvm.MethodName) ∈ tg := tg_of 750 (by decide +kernel) rfl
theorem tw_714 : Cond.selects "MicroMachineModel" ({ cls := "MicroMachineModel", name := "register", desc := "(I)I" } : Jvm.MethodName) ({ cls := "MicroMachineModel", name := "register", desc := "(I)I" } : Jvm.MethodName) ∈ tg := tg_of 751 (by decide +kernel) rfl
theorem tw_716 : Cond.methodLink "MicroMachineLaw" 94 ({ cls := "MicroMachineModel", name := "poke", desc := "(II)V" } : Jvm.MethodName) ∈ tg := tg_of 753 (by decide +kernel) rfl
theorem tw_717 : Cond.instanceMethod ({ cls := "MicroMachineModel", name := "poke", desc := "(II)V" } : Jvm.MethodName) ∈ tg := tg_of 754 (by decide +kernel) rfl
theorem tw_718 : Cond.selects "MicroMachineModel" ({ cls := "MicroMachineModel", name := "poke", desc := "(II)V" } : Jvm.MethodName) ({ cls := "MicroMachineModel", name := "poke", desc := "(II)V" } : Jvm.MethodName) ∈ tg := tg_of 755 (by decide +kernel) rfl
theorem tw_720 : Cond.methodLink "MicroMachineLaw" 97 ({ cls := "MicroMachineModel", name := "memory", desc := "(I)I" } : Jvm.MethodName) ∈ tg := tg_of 757 (by decide +kernel) rfl
theorem tw_721 : Cond.instanceMethod ({ cls := "MicroMachineModel", name := "memory", desc := "(I)I" } : Jvm.MethodName) ∈ tg := tg_of 758 (by decide +kernel) rfl
theorem tw_722 : Cond.selects "MicroMachineModel" ({ cls := "MicroMachineModel", name := "memory", desc := "(I)I" } : Jvm.MethodName) ({ cls := "MicroMachineModel", name := "memory", desc := "(I)I" } : Jvm.MethodName) ∈ tg := tg_of 759 (by decide +kernel) rfl
theorem tw_724 : Cond.methodLink "MicroMachineLaw" 100 ({ cls := "MicroMachineModel", name := "code", desc := "(II)V" } : Jvm.MethodName) ∈ tg := tg_of 761 (by decide +kernel) rfl
theorem tw_725 : Cond.instanceMethod ({ cls := "MicroMachineModel", name := "code", desc := "(II)V" } : Jvm.MethodName) ∈ tg := tg_of 762 (by decide +kernel) rfl
theorem tw_726 : Cond.selects "MicroMachineModel" ({ cls := "MicroMachineModel", name := "code", desc := "(II)V" } : Jvm.MethodName) ({ cls := "MicroMachineModel", name := "code", desc := "(II)V" } : Jvm.MethodName) ∈ tg := tg_of 763 (by decide +kernel) rfl
theorem tw_728 : Cond.methodLink "MicroMachineLaw" 104 ({ cls := "MicroMachineModel", name := "told", desc := "(II)I" } : Jvm.MethodName) ∈ tg := tg_of 765 (by decide +kernel) rfl
theorem tw_729 : Cond.instanceMethod ({ cls := "MicroMachineModel", name := "told", desc := "(II)I" } : Jvm.MethodName) ∈ tg := tg_of 766 (by decide +kernel) rfl
theorem tw_730 : Cond.selects "MicroMachineModel" ({ cls := "MicroMachineModel", name := "told", desc := "(II)I" } : Jvm.MethodName) ({ cls := "MicroMachineModel", name := "told", desc := "(II)I" } : Jvm.MethodName) ∈ tg := tg_of 767 (by decide +kernel) rfl
theorem tw_732 : Cond.methodLink "MicroMachineLaw" 108 ({ cls := "MicroMachineModel", name := "count", desc := "(I)I" } : Jvm.MethodName) ∈ tg := tg_of 769 (by decide +kernel) rfl
theorem tw_733 : Cond.instanceMethod ({ cls := "MicroMachineModel", name := "count", desc := "(I)I" } : Jvm.MethodName) ∈ tg := tg_of 770 (by decide +kernel) rfl
theorem tw_734 : Cond.selects "MicroMachineModel" ({ cls := "MicroMachineModel", name := "count", desc := "(I)I" } : Jvm.MethodName) ({ cls := "MicroMachineModel", name := "count", desc := "(I)I" } : Jvm.MethodName) ∈ tg := tg_of 771 (by decide +kernel) rfl
theorem tw_736 : Cond.constantLong "MicroMachineLaw" 59 (4294967295 : Int64) ∈ tg := tg_of 773 (by decide +kernel) rfl
theorem tw_737 : Cond.arrayClass FieldType.long ∈ tg := tg_of 774 (by decide +kernel) rfl
theorem tw_738 : Cond.sameMethod "java/lang/Throwable" "java/lang/Throwable" "fillInStackTrace" "(I)Ljava/lang/Throwable;" ∈ tg := tg_of 775 (by decide +kernel) rfl
theorem tw_739 : Cond.fieldLink "java/lang/String" 15 "java/lang/String" "coder" "B" ∈ tg := tg_of 776 (by decide +kernel) rfl
theorem tw_740 : Cond.fieldLink "java/lang/String" 9 "java/lang/String" "value" "[B" ∈ tg := tg_of 777 (by decide +kernel) rfl
theorem ts_0 : Cond.selects "java/lang/Throwable" ⟨"java/lang/Throwable", "fillInStackTrace", "(I)Ljava/lang/Throwable;"⟩ ⟨"java/lang/Throwable", "fillInStackTrace", "(I)Ljava/lang/Throwable;"⟩ ∈ tg := tg_of 0 (by decide +kernel) rfl
theorem ts_1 : Cond.selects "MicroMachine$WordReader" ⟨"MicroMachine$WordReader", "add", "(C)V"⟩ ⟨"MicroMachine$WordReader", "add", "(C)V"⟩ ∈ tg := tg_of 1 (by decide +kernel) rfl
theorem ts_2 : Cond.selects "MicroMachine$WordReader" ⟨"MicroMachine$WordReader", "read", "()LMicroMachine$Word;"⟩ ⟨"MicroMachine$WordReader", "read", "()LMicroMachine$Word;"⟩ ∈ tg := tg_of 2 (by decide +kernel) rfl
theorem ts_3 : Cond.selects "MicroMachine$WordReader" ⟨"MicroMachine$WordReader", "readIfThere", "(I)Z"⟩ ⟨"MicroMachine$WordReader", "readIfThere", "(I)Z"⟩ ∈ tg := tg_of 3 (by decide +kernel) rfl
theorem ts_4 : Cond.selects "MicroMachine$WordReader" ⟨"MicroMachine$WordReader", "readSetting", "()Z"⟩ ⟨"MicroMachine$WordReader", "readSetting", "()Z"⟩ ∈ tg := tg_of 4 (by decide +kernel) rfl
theorem ts_5 : Cond.selects "MicroMachine$WordReader" ⟨"MicroMachine$WordReader", "isAtTarget", "()Z"⟩ ⟨"MicroMachine$WordReader", "isAtTarget", "()Z"⟩ ∈ tg := tg_of 5 (by decide +kernel) rfl
theorem ts_6 : Cond.selects "MicroMachine$Word" ⟨"MicroMachine$Word", "sets", "(I)Z"⟩ ⟨"MicroMachine$Word", "sets", "(I)Z"⟩ ∈ tg := tg_of 6 (by decide +kernel) rfl
theorem ts_7 : Cond.selects "MicroMachine$WordReader" ⟨"MicroMachine$WordReader", "take", "(C)Z"⟩ ⟨"MicroMachine$WordReader", "take", "(C)Z"⟩ ∈ tg := tg_of 7 (by decide +kernel) rfl
theorem ts_8 : Cond.selects "MicroMachine$WordReader" ⟨"MicroMachine$WordReader", "readValue", "()Z"⟩ ⟨"MicroMachine$WordReader", "readValue", "()Z"⟩ ∈ tg := tg_of 8 (by decide +kernel) rfl
theorem ts_9 : Cond.selects "MicroMachine$WordReader" ⟨"MicroMachine$WordReader", "does", "(I)Z"⟩ ⟨"MicroMachine$WordReader", "does", "(I)Z"⟩ ∈ tg := tg_of 9 (by decide +kernel) rfl
theorem ts_10 : Cond.selects "MicroMachine$WordReader" ⟨"MicroMachine$WordReader", "takeSource", "()Z"⟩ ⟨"MicroMachine$WordReader", "takeSource", "()Z"⟩ ∈ tg := tg_of 10 (by decide +kernel) rfl
theorem ts_11 : Cond.selects "MicroMachine$WordReader" ⟨"MicroMachine$WordReader", "readBehindH", "()Z"⟩ ⟨"MicroMachine$WordReader", "readBehindH", "()Z"⟩ ∈ tg := tg_of 11 (by decide +kernel) rfl
theorem ts_12 : Cond.selects "MicroMachine$WordReader" ⟨"MicroMachine$WordReader", "readBehindSource", "()Z"⟩ ⟨"MicroMachine$WordReader", "readBehindSource", "()Z"⟩ ∈ tg := tg_of 12 (by decide +kernel) rfl
theorem ts_13 : Cond.selects "MicroMachine$WordReader" ⟨"MicroMachine$WordReader", "readGoing", "()Z"⟩ ⟨"MicroMachine$WordReader", "readGoing", "()Z"⟩ ∈ tg := tg_of 13 (by decide +kernel) rfl
theorem ts_14 : Cond.selects "MicroMachine$WordReader" ⟨"MicroMachine$WordReader", "takeNumber", "()I"⟩ ⟨"MicroMachine$WordReader", "takeNumber", "()I"⟩ ∈ tg := tg_of 14 (by decide +kernel) rfl
theorem ts_15 : Cond.selects "MicroMachine$WordReader" ⟨"MicroMachine$WordReader", "takeDigit", "(I)I"⟩ ⟨"MicroMachine$WordReader", "takeDigit", "(I)I"⟩ ∈ tg := tg_of 15 (by decide +kernel) rfl
theorem ts_16 : Cond.selects "MicroMachine" ⟨"MicroMachine", "doCycle", "(LMicroMachine$Word;)V"⟩ ⟨"MicroMachine", "doCycle", "(LMicroMachine$Word;)V"⟩ ∈ tg := tg_of 16 (by decide +kernel) rfl
theorem ts_17 : Cond.selects "MicroMachine" ⟨"MicroMachine", "valueOf", "(LMicroMachine$Word;)I"⟩ ⟨"MicroMachine", "valueOf", "(LMicroMachine$Word;)I"⟩ ∈ tg := tg_of 17 (by decide +kernel) rfl
theorem ts_18 : Cond.selects "MicroMachine" ⟨"MicroMachine", "busOf", "(I)I"⟩ ⟨"MicroMachine", "busOf", "(I)I"⟩ ∈ tg := tg_of 18 (by decide +kernel) rfl
theorem ts_19 : Cond.selects "MicroMachine" ⟨"MicroMachine", "askForWord", "(II)V"⟩ ⟨"MicroMachine", "askForWord", "(II)V"⟩ ∈ tg := tg_of 19 (by decide +kernel) rfl
theorem ts_20 : Cond.selects "MicroMachine" ⟨"MicroMachine", "askForByte", "(ZI)V"⟩ ⟨"MicroMachine", "askForByte", "(ZI)V"⟩ ∈ tg := tg_of 20 (by decide +kernel) rfl
theorem ts_21 : Cond.selects "MicroMachine" ⟨"MicroMachine", "wordBehind", "(LMicroMachine$Word;I)I"⟩ ⟨"MicroMachine", "wordBehind", "(LMicroMachine$Word;I)I"⟩ ∈ tg := tg_of 21 (by decide +kernel) rfl
theorem ts_22 : Cond.selects "MicroMachineModel" ⟨"MicroMachineModel", "reads", "()Z"⟩ ⟨"MicroMachineModel", "reads", "()Z"⟩ ∈ tg := tg_of 22 (by decide +kernel) rfl
theorem ts_23 : Cond.selects "MicroMachineModel" ⟨"MicroMachineModel", "look", "()I"⟩ ⟨"MicroMachineModel", "look", "()I"⟩ ∈ tg := tg_of 23 (by decide +kernel) rfl
theorem ts_24 : Cond.selects "MicroMachineModel" ⟨"MicroMachineModel", "settable", "(I)I"⟩ ⟨"MicroMachineModel", "settable", "(I)I"⟩ ∈ tg := tg_of 24 (by decide +kernel) rfl
theorem ts_25 : Cond.selects "MicroMachineModel" ⟨"MicroMachineModel", "setting", "()Z"⟩ ⟨"MicroMachineModel", "setting", "()Z"⟩ ∈ tg := tg_of 25 (by decide +kernel) rfl
theorem ts_26 : Cond.selects "MicroMachineModel" ⟨"MicroMachineModel", "has", "(I)Z"⟩ ⟨"MicroMachineModel", "has", "(I)Z"⟩ ∈ tg := tg_of 26 (by decide +kernel) rfl
theorem ts_27 : Cond.selects "MicroMachineModel" ⟨"MicroMachineModel", "value", "()Z"⟩ ⟨"MicroMachineModel", "value", "()Z"⟩ ∈ tg := tg_of 27 (by decide +kernel) rfl
theorem ts_28 : Cond.selects "MicroMachineModel" ⟨"MicroMachineModel", "plain", "(I)Z"⟩ ⟨"MicroMachineModel", "plain", "(I)Z"⟩ ∈ tg := tg_of 28 (by decide +kernel) rfl
theorem ts_29 : Cond.selects "MicroMachineModel" ⟨"MicroMachineModel", "bus", "(I)Z"⟩ ⟨"MicroMachineModel", "bus", "(I)Z"⟩ ∈ tg := tg_of 29 (by decide +kernel) rfl
theorem ts_30 : Cond.selects "MicroMachineModel" ⟨"MicroMachineModel", "onBus", "(I)I"⟩ ⟨"MicroMachineModel", "onBus", "(I)I"⟩ ∈ tg := tg_of 30 (by decide +kernel) rfl
theorem ts_31 : Cond.selects "MicroMachineModel" ⟨"MicroMachineModel", "asking", "(I)Z"⟩ ⟨"MicroMachineModel", "asking", "(I)Z"⟩ ∈ tg := tg_of 31 (by decide +kernel) rfl
theorem ts_32 : Cond.selects "MicroMachineModel" ⟨"MicroMachineModel", "going", "(I)Z"⟩ ⟨"MicroMachineModel", "going", "(I)Z"⟩ ∈ tg := tg_of 32 (by decide +kernel) rfl
theorem ts_33 : Cond.selects "MicroMachineModel" ⟨"MicroMachineModel", "number", "()I"⟩ ⟨"MicroMachineModel", "number", "()I"⟩ ∈ tg := tg_of 33 (by decide +kernel) rfl
theorem ts_34 : Cond.selects "MicroMachineModel" ⟨"MicroMachineModel", "cycle", "(I)V"⟩ ⟨"MicroMachineModel", "cycle", "(I)V"⟩ ∈ tg := tg_of 34 (by decide +kernel) rfl
theorem ts_35 : Cond.selects "MicroMachineModel" ⟨"MicroMachineModel", "result", "(I)I"⟩ ⟨"MicroMachineModel", "result", "(I)I"⟩ ∈ tg := tg_of 35 (by decide +kernel) rfl
theorem ts_36 : Cond.selects "MicroMachineModel" ⟨"MicroMachineModel", "then", "(III)I"⟩ ⟨"MicroMachineModel", "then", "(III)I"⟩ ∈ tg := tg_of 36 (by decide +kernel) rfl
theorem tn_28 : Cond.methodLinkNest "MicroMachine" 9 ({ cls := "MicroMachine$WordReader", name := "<init>", desc := "()V" } : Jvm.MethodName) "MicroMachine" ∈ lw_tbl := List.mem_of_getElem? (i := 65) (by decide +kernel)
theorem tn_34 : Cond.methodLinkNest "MicroMachine$WordReader" 17 ({ cls := "MicroMachine$Word", name := "<init>", desc := "()V" } : Jvm.MethodName) "MicroMachine" ∈ lw_tbl := List.mem_of_getElem? (i := 71) (by decide +kernel)
theorem tn_38 : Cond.fieldLinkNest "MicroMachine$WordReader" 33 "MicroMachine$Word" "parts" "I" "MicroMachine" ∈ lw_tbl := List.mem_of_getElem? (i := 75) (by decide +kernel)
theorem tn_39 : Cond.fieldLinkNest "MicroMachine" 67 "MicroMachine$Word" "parts" "I" "MicroMachine" ∈ lw_tbl := List.mem_of_getElem? (i := 76) (by decide +kernel)
theorem tn_41 : Cond.fieldLinkNest "MicroMachine$WordReader" 57 "MicroMachine$Word" "targets" "I" "MicroMachine" ∈ lw_tbl := List.mem_of_getElem? (i := 78) (by decide +kernel)
theorem tn_42 : Cond.fieldLinkNest "MicroMachine" 87 "MicroMachine$Word" "targets" "I" "MicroMachine" ∈ lw_tbl := List.mem_of_getElem? (i := 79) (by decide +kernel)
theorem tn_44 : Cond.fieldLinkNest "MicroMachine$WordReader" 89 "MicroMachine$Word" "operation" "I" "MicroMachine" ∈ lw_tbl := List.mem_of_getElem? (i := 81) (by decide +kernel)
theorem tn_45 : Cond.fieldLinkNest "MicroMachine" 157 "MicroMachine$Word" "operation" "I" "MicroMachine" ∈ lw_tbl := List.mem_of_getElem? (i := 82) (by decide +kernel)
theorem tn_46 : Cond.fieldLinkNest "MicroMachine$WordReader" 110 "MicroMachine$Word" "source" "I" "MicroMachine" ∈ lw_tbl := List.mem_of_getElem? (i := 83) (by decide +kernel)
theorem tn_47 : Cond.fieldLinkNest "MicroMachine" 150 "MicroMachine$Word" "source" "I" "MicroMachine" ∈ lw_tbl := List.mem_of_getElem? (i := 84) (by decide +kernel)
theorem tn_48 : Cond.fieldLinkNest "MicroMachine$WordReader" 71 "MicroMachine$Word" "shift" "I" "MicroMachine" ∈ lw_tbl := List.mem_of_getElem? (i := 85) (by decide +kernel)
theorem tn_49 : Cond.fieldLinkNest "MicroMachine" 105 "MicroMachine$Word" "shift" "I" "MicroMachine" ∈ lw_tbl := List.mem_of_getElem? (i := 86) (by decide +kernel)
theorem tn_50 : Cond.fieldLinkNest "MicroMachine$WordReader" 48 "MicroMachine$Word" "asksWord" "I" "MicroMachine" ∈ lw_tbl := List.mem_of_getElem? (i := 87) (by decide +kernel)
theorem tn_51 : Cond.fieldLinkNest "MicroMachine" 90 "MicroMachine$Word" "asksWord" "I" "MicroMachine" ∈ lw_tbl := List.mem_of_getElem? (i := 88) (by decide +kernel)
theorem tn_52 : Cond.fieldLinkNest "MicroMachine$WordReader" 44 "MicroMachine$Word" "asksByte" "Z" "MicroMachine" ∈ lw_tbl := List.mem_of_getElem? (i := 89) (by decide +kernel)
theorem tn_53 : Cond.fieldLinkNest "MicroMachine" 93 "MicroMachine$Word" "asksByte" "Z" "MicroMachine" ∈ lw_tbl := List.mem_of_getElem? (i := 90) (by decide +kernel)
theorem tn_54 : Cond.fieldLinkNest "MicroMachine$WordReader" 94 "MicroMachine$Word" "going" "I" "MicroMachine" ∈ lw_tbl := List.mem_of_getElem? (i := 91) (by decide +kernel)
theorem tn_55 : Cond.fieldLinkNest "MicroMachine" 96 "MicroMachine$Word" "going" "I" "MicroMachine" ∈ lw_tbl := List.mem_of_getElem? (i := 92) (by decide +kernel)
theorem tn_57 : Cond.fieldLinkNest "MicroMachine$WordReader" 101 "MicroMachine$Word" "first" "I" "MicroMachine" ∈ lw_tbl := List.mem_of_getElem? (i := 94) (by decide +kernel)
theorem tn_58 : Cond.fieldLinkNest "MicroMachine" 99 "MicroMachine$Word" "first" "I" "MicroMachine" ∈ lw_tbl := List.mem_of_getElem? (i := 95) (by decide +kernel)
theorem tn_60 : Cond.fieldLinkNest "MicroMachine$WordReader" 104 "MicroMachine$Word" "second" "I" "MicroMachine" ∈ lw_tbl := List.mem_of_getElem? (i := 97) (by decide +kernel)
theorem tn_61 : Cond.fieldLinkNest "MicroMachine" 102 "MicroMachine$Word" "second" "I" "MicroMachine" ∈ lw_tbl := List.mem_of_getElem? (i := 98) (by decide +kernel)
theorem tn_86 : Cond.fieldLinkNest "MicroMachine" 43 "MicroMachine$WordReader" "length" "I" "MicroMachine" ∈ lw_tbl := List.mem_of_getElem? (i := 123) (by decide +kernel)
theorem tn_88 : Cond.fieldLinkNest "MicroMachine" 61 "MicroMachine$WordReader" "at" "I" "MicroMachine" ∈ lw_tbl := List.mem_of_getElem? (i := 125) (by decide +kernel)
theorem tn_246 : Cond.methodLinkNest "MicroMachine" 49 ({ cls := "MicroMachine$WordReader", name := "add", desc := "(C)V" } : Jvm.MethodName) "MicroMachine" ∈ lw_tbl := List.mem_of_getElem? (i := 283) (by decide +kernel)
theorem tn_263 : Cond.methodLinkNest "MicroMachine" 57 ({ cls := "MicroMachine$WordReader", name := "read", desc := "()LMicroMachine$Word;" } : Jvm.MethodName) "MicroMachine" ∈ lw_tbl := List.mem_of_getElem? (i := 300) (by decide +kernel)
theorem tn_366 : Cond.methodLinkNest "MicroMachine$WordReader" 74 ({ cls := "MicroMachine$Word", name := "sets", desc := "(I)Z" } : Jvm.MethodName) "MicroMachine" ∈ lw_tbl := List.mem_of_getElem? (i := 403) (by decide +kernel)
theorem tn_461 : Cond.methodLinkNest "MicroMachine" 132 ({ cls := "MicroMachine$Word", name := "sets", desc := "(I)Z" } : Jvm.MethodName) "MicroMachine" ∈ lw_tbl := List.mem_of_getElem? (i := 498) (by decide +kernel)
end
section
theorem dX1_init_0 : decode cX1_init 0 = .ok (.aload_n 0, 1) := by decide +kernel
theorem dX1_init_1 : decode cX1_init 1 = .ok (.invokespecial 3, 3) := by decide +kernel
theorem dX1_init_4 : decode cX1_init 4 = .ok (.aload_n 0, 1) := by decide +kernel
theorem dX1_init_5 : decode cX1_init 5 = .ok (.bipush 40, 2) := by decide +kernel
theorem dX1_init_7 : decode cX1_init 7 = .ok (.newarray .char, 2) := by decide +kernel
theorem dX1_init_9 : decode cX1_init 9 = .ok (.putfield 9, 3) := by decide +kernel
theorem dX1_init_12 : decode cX1_init 12 = .ok (.aload_n 0, 1) := by decide +kernel
theorem dX1_init_13 : decode cX1_init 13 = .ok (.new 15, 3) := by decide +kernel
theorem dX1_init_16 : decode cX1_init 16 = .ok (.dup, 1) := by decide +kernel
theorem dX1_init_17 : decode cX1_init 17 = .ok (.invokespecial 17, 3) := by decide +kernel
theorem dX1_init_20 : decode cX1_init 20 = .ok (.putfield 18, 3) := by decide +kernel
theorem dX1_init_23 : decode cX1_init 23 = .ok (.return_, 1) := by decide +kernel
theorem dX0_init_0 : decode cX0_init 0 = .ok (.aload_n 0, 1) := by decide +kernel
theorem dX0_init_1 : decode cX0_init 1 = .ok (.invokespecial 3, 3) := by decide +kernel
theorem dX0_init_4 : decode cX0_init 4 = .ok (.aload_n 0, 1) := by decide +kernel
theorem dX0_init_5 : decode cX0_init 5 = .ok (.iconst 0, 1) := by decide +kernel
theorem dX0_init_6 : decode cX0_init 6 = .ok (.putfield 9, 3) := by decide +kernel
theorem dX0_init_9 : decode cX0_init 9 = .ok (.aload_n 0, 1) := by decide +kernel
theorem dX0_init_10 : decode cX0_init 10 = .ok (.iconst (-1), 1) := by decide +kernel
theorem dX0_init_11 : decode cX0_init 11 = .ok (.putfield 15, 3) := by decide +kernel
theorem dX0_init_14 : decode cX0_init 14 = .ok (.aload_n 0, 1) := by decide +kernel
theorem dX0_init_15 : decode cX0_init 15 = .ok (.iconst (-1), 1) := by decide +kernel
theorem dX0_init_16 : decode cX0_init 16 = .ok (.putfield 18, 3) := by decide +kernel
theorem dX0_init_19 : decode cX0_init 19 = .ok (.return_, 1) := by decide +kernel
theorem dX1_add_0 : decode cX1_add 0 = .ok (.aload_n 0, 1) := by decide +kernel
theorem dX1_add_1 : decode cX1_add 1 = .ok (.getfield 22, 3) := by decide +kernel
theorem dX1_add_4 : decode cX1_add 4 = .ok (.bipush 40, 2) := by decide +kernel
theorem dX1_add_6 : decode cX1_add 6 = .ok (.if_icmp .ge 23, 3) := by decide +kernel
theorem dX1_add_9 : decode cX1_add 9 = .ok (.aload_n 0, 1) := by decide +kernel
theorem dX1_add_10 : decode cX1_add 10 = .ok (.getfield 9, 3) := by decide +kernel
theorem dX1_add_13 : decode cX1_add 13 = .ok (.aload_n 0, 1) := by decide +kernel
theorem dX1_add_14 : decode cX1_add 14 = .ok (.getfield 22, 3) := by decide +kernel
theorem dX1_add_17 : decode cX1_add 17 = .ok (.iload_n 1, 1) := by decide +kernel
theorem dX1_add_18 : decode cX1_add 18 = .ok (.castore, 1) := by decide +kernel
theorem dX1_add_19 : decode cX1_add 19 = .ok (.aload_n 0, 1) := by decide +kernel
theorem dX1_add_20 : decode cX1_add 20 = .ok (.dup, 1) := by decide +kernel
theorem dX1_add_21 : decode cX1_add 21 = .ok (.getfield 22, 3) := by decide +kernel
theorem dX1_add_24 : decode cX1_add 24 = .ok (.iconst 1, 1) := by decide +kernel
theorem dX1_add_25 : decode cX1_add 25 = .ok (.iadd, 1) := by decide +kernel
theorem dX1_add_26 : decode cX1_add 26 = .ok (.putfield 22, 3) := by decide +kernel
theorem dX1_add_29 : decode cX1_add 29 = .ok (.return_, 1) := by decide +kernel
theorem dX1_read_0 : decode cX1_read 0 = .ok (.aload_n 0, 1) := by decide +kernel
theorem dX1_read_1 : decode cX1_read 1 = .ok (.iconst 0, 1) := by decide +kernel
theorem dX1_read_2 : decode cX1_read 2 = .ok (.putfield 26, 3) := by decide +kernel
theorem dX1_read_5 : decode cX1_read 5 = .ok (.aload_n 0, 1) := by decide +kernel
theorem dX1_read_6 : decode cX1_read 6 = .ok (.new 15, 3) := by decide +kernel
theorem dX1_read_9 : decode cX1_read 9 = .ok (.dup, 1) := by decide +kernel
theorem dX1_read_10 : decode cX1_read 10 = .ok (.invokespecial 17, 3) := by decide +kernel
theorem dX1_read_13 : decode cX1_read 13 = .ok (.putfield 18, 3) := by decide +kernel
theorem dX1_read_16 : decode cX1_read 16 = .ok (.iconst 0, 1) := by decide +kernel
theorem dX1_read_17 : decode cX1_read 17 = .ok (.istore_n 1, 1) := by decide +kernel
theorem dX1_read_18 : decode cX1_read 18 = .ok (.iload_n 1, 1) := by decide +kernel
theorem dX1_read_19 : decode cX1_read 19 = .ok (.iconst 3, 1) := by decide +kernel
theorem dX1_read_20 : decode cX1_read 20 = .ok (.if_icmp .gt 77, 3) := by decide +kernel
theorem dX1_read_23 : decode cX1_read 23 = .ok (.aload_n 0, 1) := by decide +kernel
theorem dX1_read_24 : decode cX1_read 24 = .ok (.getfield 26, 3) := by decide +kernel
theorem dX1_read_27 : decode cX1_read 27 = .ok (.istore_n 2, 1) := by decide +kernel
theorem dX1_read_28 : decode cX1_read 28 = .ok (.aload_n 0, 1) := by decide +kernel
theorem dX1_read_29 : decode cX1_read 29 = .ok (.iload_n 1, 1) := by decide +kernel
theorem dX1_read_30 : decode cX1_read 30 = .ok (.invokevirtual 29, 3) := by decide +kernel
theorem dX1_read_33 : decode cX1_read 33 = .ok (.ifCond .ne 5, 3) := by decide +kernel
theorem dX1_read_36 : decode cX1_read 36 = .ok (.aconst_null, 1) := by decide +kernel
theorem dX1_read_37 : decode cX1_read 37 = .ok (.areturn, 1) := by decide +kernel
theorem dX1_read_38 : decode cX1_read 38 = .ok (.aload_n 0, 1) := by decide +kernel
theorem dX1_read_39 : decode cX1_read 39 = .ok (.getfield 26, 3) := by decide +kernel
theorem dX1_read_42 : decode cX1_read 42 = .ok (.iload_n 2, 1) := by decide +kernel
theorem dX1_read_43 : decode cX1_read 43 = .ok (.if_icmp .le 48, 3) := by decide +kernel
theorem dX1_read_46 : decode cX1_read 46 = .ok (.aload_n 0, 1) := by decide +kernel
theorem dX1_read_47 : decode cX1_read 47 = .ok (.getfield 18, 3) := by decide +kernel
theorem dX1_read_50 : decode cX1_read 50 = .ok (.dup, 1) := by decide +kernel
theorem dX1_read_51 : decode cX1_read 51 = .ok (.getfield 33, 3) := by decide +kernel
theorem dX1_read_54 : decode cX1_read 54 = .ok (.iconst 1, 1) := by decide +kernel
theorem dX1_read_55 : decode cX1_read 55 = .ok (.iadd, 1) := by decide +kernel
theorem dX1_read_56 : decode cX1_read 56 = .ok (.putfield 33, 3) := by decide +kernel
theorem dX1_read_59 : decode cX1_read 59 = .ok (.aload_n 0, 1) := by decide +kernel
theorem dX1_read_60 : decode cX1_read 60 = .ok (.getfield 26, 3) := by decide +kernel
theorem dX1_read_63 : decode cX1_read 63 = .ok (.aload_n 0, 1) := by decide +kernel
theorem dX1_read_64 : decode cX1_read 64 = .ok (.getfield 22, 3) := by decide +kernel
theorem dX1_read_67 : decode cX1_read 67 = .ok (.if_icmp .ne 8, 3) := by decide +kernel
theorem dX1_read_70 : decode cX1_read 70 = .ok (.aload_n 0, 1) := by decide +kernel
theorem dX1_read_71 : decode cX1_read 71 = .ok (.getfield 18, 3) := by decide +kernel
theorem dX1_read_74 : decode cX1_read 74 = .ok (.areturn, 1) := by decide +kernel
theorem dX1_read_75 : decode cX1_read 75 = .ok (.iload_n 1, 1) := by decide +kernel
theorem dX1_read_76 : decode cX1_read 76 = .ok (.iconst 3, 1) := by decide +kernel
theorem dX1_read_77 : decode cX1_read 77 = .ok (.if_icmp .eq 12, 3) := by decide +kernel
theorem dX1_read_80 : decode cX1_read 80 = .ok (.aload_n 0, 1) := by decide +kernel
theorem dX1_read_81 : decode cX1_read 81 = .ok (.bipush 59, 2) := by decide +kernel
theorem dX1_read_83 : decode cX1_read 83 = .ok (.invokevirtual 36, 3) := by decide +kernel
theorem dX1_read_86 : decode cX1_read 86 = .ok (.ifCond .ne 5, 3) := by decide +kernel
theorem dX1_read_89 : decode cX1_read 89 = .ok (.aconst_null, 1) := by decide +kernel
theorem dX1_read_90 : decode cX1_read 90 = .ok (.areturn, 1) := by decide +kernel
theorem dX1_read_91 : decode cX1_read 91 = .ok (.iinc 1 1, 3) := by decide +kernel
theorem dX1_read_94 : decode cX1_read 94 = .ok (.goto (-76), 3) := by decide +kernel
theorem dX1_read_97 : decode cX1_read 97 = .ok (.aconst_null, 1) := by decide +kernel
theorem dX1_read_98 : decode cX1_read 98 = .ok (.areturn, 1) := by decide +kernel
theorem dX1_readIfThere_0 : decode cX1_readIfThere 0 = .ok (.iload_n 1, 1) := by decide +kernel
theorem dX1_readIfThere_1 : decode cX1_readIfThere 1 = .ok (.tableswitch 83 0 2 #[27, 32, 47], 27) := by decide +kernel
theorem dX1_readIfThere_28 : decode cX1_readIfThere 28 = .ok (.aload_n 0, 1) := by decide +kernel
theorem dX1_readIfThere_29 : decode cX1_readIfThere 29 = .ok (.invokevirtual 40, 3) := by decide +kernel
theorem dX1_readIfThere_32 : decode cX1_readIfThere 32 = .ok (.ireturn, 1) := by decide +kernel
theorem dX1_readIfThere_33 : decode cX1_readIfThere 33 = .ok (.aload_n 0, 1) := by decide +kernel
theorem dX1_readIfThere_34 : decode cX1_readIfThere 34 = .ok (.getfield 18, 3) := by decide +kernel
theorem dX1_readIfThere_37 : decode cX1_readIfThere 37 = .ok (.aload_n 0, 1) := by decide +kernel
theorem dX1_readIfThere_38 : decode cX1_readIfThere 38 = .ok (.bipush 102, 2) := by decide +kernel
theorem dX1_readIfThere_40 : decode cX1_readIfThere 40 = .ok (.invokevirtual 36, 3) := by decide +kernel
theorem dX1_readIfThere_43 : decode cX1_readIfThere 43 = .ok (.putfield 44, 3) := by decide +kernel
theorem dX1_readIfThere_46 : decode cX1_readIfThere 46 = .ok (.iconst 1, 1) := by decide +kernel
theorem dX1_readIfThere_47 : decode cX1_readIfThere 47 = .ok (.ireturn, 1) := by decide +kernel
theorem dX1_readIfThere_48 : decode cX1_readIfThere 48 = .ok (.aload_n 0, 1) := by decide +kernel
theorem dX1_readIfThere_49 : decode cX1_readIfThere 49 = .ok (.getfield 18, 3) := by decide +kernel
theorem dX1_readIfThere_52 : decode cX1_readIfThere 52 = .ok (.aload_n 0, 1) := by decide +kernel
theorem dX1_readIfThere_53 : decode cX1_readIfThere 53 = .ok (.bipush 114, 2) := by decide +kernel
theorem dX1_readIfThere_55 : decode cX1_readIfThere 55 = .ok (.invokevirtual 36, 3) := by decide +kernel
theorem dX1_readIfThere_58 : decode cX1_readIfThere 58 = .ok (.ifCond .eq 7, 3) := by decide +kernel
theorem dX1_readIfThere_61 : decode cX1_readIfThere 61 = .ok (.iconst 1, 1) := by decide +kernel
theorem dX1_readIfThere_62 : decode cX1_readIfThere 62 = .ok (.goto 17, 3) := by decide +kernel
theorem dX1_readIfThere_65 : decode cX1_readIfThere 65 = .ok (.aload_n 0, 1) := by decide +kernel
theorem dX1_readIfThere_66 : decode cX1_readIfThere 66 = .ok (.bipush 119, 2) := by decide +kernel
theorem dX1_readIfThere_68 : decode cX1_readIfThere 68 = .ok (.invokevirtual 36, 3) := by decide +kernel
theorem dX1_readIfThere_71 : decode cX1_readIfThere 71 = .ok (.ifCond .eq 7, 3) := by decide +kernel
theorem dX1_readIfThere_74 : decode cX1_readIfThere 74 = .ok (.iconst 2, 1) := by decide +kernel
theorem dX1_readIfThere_75 : decode cX1_readIfThere 75 = .ok (.goto 4, 3) := by decide +kernel
theorem dX1_readIfThere_78 : decode cX1_readIfThere 78 = .ok (.iconst 0, 1) := by decide +kernel
theorem dX1_readIfThere_79 : decode cX1_readIfThere 79 = .ok (.putfield 48, 3) := by decide +kernel
theorem dX1_readIfThere_82 : decode cX1_readIfThere 82 = .ok (.iconst 1, 1) := by decide +kernel
theorem dX1_readIfThere_83 : decode cX1_readIfThere 83 = .ok (.ireturn, 1) := by decide +kernel
theorem dX1_readIfThere_84 : decode cX1_readIfThere 84 = .ok (.aload_n 0, 1) := by decide +kernel
theorem dX1_readIfThere_85 : decode cX1_readIfThere 85 = .ok (.invokevirtual 51, 3) := by decide +kernel
theorem dX1_readIfThere_88 : decode cX1_readIfThere 88 = .ok (.ireturn, 1) := by decide +kernel
theorem dX1_readSetting_0 : decode cX1_readSetting 0 = .ok (.iconst 0, 1) := by decide +kernel
theorem dX1_readSetting_1 : decode cX1_readSetting 1 = .ok (.istore_n 1, 1) := by decide +kernel
theorem dX1_readSetting_2 : decode cX1_readSetting 2 = .ok (.iload_n 1, 1) := by decide +kernel
theorem dX1_readSetting_3 : decode cX1_readSetting 3 = .ok (.iconst 4, 1) := by decide +kernel
theorem dX1_readSetting_4 : decode cX1_readSetting 4 = .ok (.if_icmp .ge 65, 3) := by decide +kernel
theorem dX1_readSetting_7 : decode cX1_readSetting 7 = .ok (.aload_n 0, 1) := by decide +kernel
theorem dX1_readSetting_8 : decode cX1_readSetting 8 = .ok (.invokevirtual 54, 3) := by decide +kernel
theorem dX1_readSetting_11 : decode cX1_readSetting 11 = .ok (.ifCond .eq 58, 3) := by decide +kernel
theorem dX1_readSetting_14 : decode cX1_readSetting 14 = .ok (.aload_n 0, 1) := by decide +kernel
theorem dX1_readSetting_15 : decode cX1_readSetting 15 = .ok (.getfield 18, 3) := by decide +kernel
theorem dX1_readSetting_18 : decode cX1_readSetting 18 = .ok (.dup, 1) := by decide +kernel
theorem dX1_readSetting_19 : decode cX1_readSetting 19 = .ok (.getfield 57, 3) := by decide +kernel
theorem dX1_readSetting_22 : decode cX1_readSetting 22 = .ok (.iconst 1, 1) := by decide +kernel
theorem dX1_readSetting_23 : decode cX1_readSetting 23 = .ok (.ldc 60, 2) := by decide +kernel
theorem dX1_readSetting_25 : decode cX1_readSetting 25 = .ok (.aload_n 0, 1) := by decide +kernel
theorem dX1_readSetting_26 : decode cX1_readSetting 26 = .ok (.getfield 9, 3) := by decide +kernel
theorem dX1_readSetting_29 : decode cX1_readSetting 29 = .ok (.aload_n 0, 1) := by decide +kernel
theorem dX1_readSetting_30 : decode cX1_readSetting 30 = .ok (.getfield 26, 3) := by decide +kernel
theorem dX1_readSetting_33 : decode cX1_readSetting 33 = .ok (.caload, 1) := by decide +kernel
theorem dX1_readSetting_34 : decode cX1_readSetting 34 = .ok (.invokevirtual 62, 3) := by decide +kernel
theorem dX1_readSetting_37 : decode cX1_readSetting 37 = .ok (.ishl, 1) := by decide +kernel
theorem dX1_readSetting_38 : decode cX1_readSetting 38 = .ok (.ior, 1) := by decide +kernel
theorem dX1_readSetting_39 : decode cX1_readSetting 39 = .ok (.putfield 57, 3) := by decide +kernel
theorem dX1_readSetting_42 : decode cX1_readSetting 42 = .ok (.aload_n 0, 1) := by decide +kernel
theorem dX1_readSetting_43 : decode cX1_readSetting 43 = .ok (.dup, 1) := by decide +kernel
theorem dX1_readSetting_44 : decode cX1_readSetting 44 = .ok (.getfield 26, 3) := by decide +kernel
theorem dX1_readSetting_47 : decode cX1_readSetting 47 = .ok (.iconst 1, 1) := by decide +kernel
theorem dX1_readSetting_48 : decode cX1_readSetting 48 = .ok (.iadd, 1) := by decide +kernel
theorem dX1_readSetting_49 : decode cX1_readSetting 49 = .ok (.putfield 26, 3) := by decide +kernel
theorem dX1_readSetting_52 : decode cX1_readSetting 52 = .ok (.aload_n 0, 1) := by decide +kernel
theorem dX1_readSetting_53 : decode cX1_readSetting 53 = .ok (.bipush 61, 2) := by decide +kernel
theorem dX1_readSetting_55 : decode cX1_readSetting 55 = .ok (.invokevirtual 36, 3) := by decide +kernel
theorem dX1_readSetting_58 : decode cX1_readSetting 58 = .ok (.ifCond .ne 5, 3) := by decide +kernel
theorem dX1_readSetting_61 : decode cX1_readSetting 61 = .ok (.iconst 0, 1) := by decide +kernel
theorem dX1_readSetting_62 : decode cX1_readSetting 62 = .ok (.ireturn, 1) := by decide +kernel
theorem dX1_readSetting_63 : decode cX1_readSetting 63 = .ok (.iinc 1 1, 3) := by decide +kernel
theorem dX1_readSetting_66 : decode cX1_readSetting 66 = .ok (.goto (-64), 3) := by decide +kernel
theorem dX1_readSetting_69 : decode cX1_readSetting 69 = .ok (.aload_n 0, 1) := by decide +kernel
theorem dX1_readSetting_70 : decode cX1_readSetting 70 = .ok (.getfield 18, 3) := by decide +kernel
theorem dX1_readSetting_73 : decode cX1_readSetting 73 = .ok (.getfield 57, 3) := by decide +kernel
theorem dX1_readSetting_76 : decode cX1_readSetting 76 = .ok (.ifCond .ne 5, 3) := by decide +kernel
theorem dX1_readSetting_79 : decode cX1_readSetting 79 = .ok (.iconst 1, 1) := by decide +kernel
theorem dX1_readSetting_80 : decode cX1_readSetting 80 = .ok (.ireturn, 1) := by decide +kernel
theorem dX1_readSetting_81 : decode cX1_readSetting 81 = .ok (.aload_n 0, 1) := by decide +kernel
theorem dX1_readSetting_82 : decode cX1_readSetting 82 = .ok (.invokevirtual 68, 3) := by decide +kernel
theorem dX1_readSetting_85 : decode cX1_readSetting 85 = .ok (.ifCond .ne 5, 3) := by decide +kernel
theorem dX1_readSetting_88 : decode cX1_readSetting 88 = .ok (.iconst 0, 1) := by decide +kernel
theorem dX1_readSetting_89 : decode cX1_readSetting 89 = .ok (.ireturn, 1) := by decide +kernel
theorem dX1_readSetting_90 : decode cX1_readSetting 90 = .ok (.aload_n 0, 1) := by decide +kernel
theorem dX1_readSetting_91 : decode cX1_readSetting 91 = .ok (.getfield 18, 3) := by decide +kernel
theorem dX1_readSetting_94 : decode cX1_readSetting 94 = .ok (.aload_n 0, 1) := by decide +kernel
theorem dX1_readSetting_95 : decode cX1_readSetting 95 = .ok (.bipush 60, 2) := by decide +kernel
theorem dX1_readSetting_97 : decode cX1_readSetting 97 = .ok (.invokevirtual 36, 3) := by decide +kernel
theorem dX1_readSetting_100 : decode cX1_readSetting 100 = .ok (.ifCond .eq 7, 3) := by decide +kernel
theorem dX1_readSetting_103 : decode cX1_readSetting 103 = .ok (.iconst 1, 1) := by decide +kernel
theorem dX1_readSetting_104 : decode cX1_readSetting 104 = .ok (.goto 17, 3) := by decide +kernel
theorem dX1_readSetting_107 : decode cX1_readSetting 107 = .ok (.aload_n 0, 1) := by decide +kernel
theorem dX1_readSetting_108 : decode cX1_readSetting 108 = .ok (.bipush 62, 2) := by decide +kernel
theorem dX1_readSetting_110 : decode cX1_readSetting 110 = .ok (.invokevirtual 36, 3) := by decide +kernel
theorem dX1_readSetting_113 : decode cX1_readSetting 113 = .ok (.ifCond .eq 7, 3) := by decide +kernel
theorem dX1_readSetting_116 : decode cX1_readSetting 116 = .ok (.iconst 2, 1) := by decide +kernel
theorem dX1_readSetting_117 : decode cX1_readSetting 117 = .ok (.goto 4, 3) := by decide +kernel
theorem dX1_readSetting_120 : decode cX1_readSetting 120 = .ok (.iconst 0, 1) := by decide +kernel
theorem dX1_readSetting_121 : decode cX1_readSetting 121 = .ok (.putfield 71, 3) := by decide +kernel
theorem dX1_readSetting_124 : decode cX1_readSetting 124 = .ok (.iconst 1, 1) := by decide +kernel
theorem dX1_readSetting_125 : decode cX1_readSetting 125 = .ok (.ireturn, 1) := by decide +kernel
theorem dX1_isAtTarget_0 : decode cX1_isAtTarget 0 = .ok (.aload_n 0, 1) := by decide +kernel
theorem dX1_isAtTarget_1 : decode cX1_isAtTarget 1 = .ok (.getfield 26, 3) := by decide +kernel
theorem dX1_isAtTarget_4 : decode cX1_isAtTarget 4 = .ok (.aload_n 0, 1) := by decide +kernel
theorem dX1_isAtTarget_5 : decode cX1_isAtTarget 5 = .ok (.getfield 22, 3) := by decide +kernel
theorem dX1_isAtTarget_8 : decode cX1_isAtTarget 8 = .ok (.if_icmp .ge 20, 3) := by decide +kernel
theorem dX1_isAtTarget_11 : decode cX1_isAtTarget 11 = .ok (.ldc 60, 2) := by decide +kernel
theorem dX1_isAtTarget_13 : decode cX1_isAtTarget 13 = .ok (.aload_n 0, 1) := by decide +kernel
theorem dX1_isAtTarget_14 : decode cX1_isAtTarget 14 = .ok (.getfield 9, 3) := by decide +kernel
theorem dX1_isAtTarget_17 : decode cX1_isAtTarget 17 = .ok (.aload_n 0, 1) := by decide +kernel
theorem dX1_isAtTarget_18 : decode cX1_isAtTarget 18 = .ok (.getfield 26, 3) := by decide +kernel
theorem dX1_isAtTarget_21 : decode cX1_isAtTarget 21 = .ok (.caload, 1) := by decide +kernel
theorem dX1_isAtTarget_22 : decode cX1_isAtTarget 22 = .ok (.invokevirtual 62, 3) := by decide +kernel
theorem dX1_isAtTarget_25 : decode cX1_isAtTarget 25 = .ok (.goto 4, 3) := by decide +kernel
theorem dX1_isAtTarget_28 : decode cX1_isAtTarget 28 = .ok (.iconst (-1), 1) := by decide +kernel
theorem dX1_isAtTarget_29 : decode cX1_isAtTarget 29 = .ok (.istore_n 1, 1) := by decide +kernel
theorem dX1_isAtTarget_30 : decode cX1_isAtTarget 30 = .ok (.iload_n 1, 1) := by decide +kernel
theorem dX1_isAtTarget_31 : decode cX1_isAtTarget 31 = .ok (.ifCond .lt 20, 3) := by decide +kernel
theorem dX1_isAtTarget_34 : decode cX1_isAtTarget 34 = .ok (.iload_n 1, 1) := by decide +kernel
theorem dX1_isAtTarget_35 : decode cX1_isAtTarget 35 = .ok (.bipush 8, 2) := by decide +kernel
theorem dX1_isAtTarget_37 : decode cX1_isAtTarget 37 = .ok (.if_icmp .gt 14, 3) := by decide +kernel
theorem dX1_isAtTarget_40 : decode cX1_isAtTarget 40 = .ok (.aload_n 0, 1) := by decide +kernel
theorem dX1_isAtTarget_41 : decode cX1_isAtTarget 41 = .ok (.getfield 18, 3) := by decide +kernel
theorem dX1_isAtTarget_44 : decode cX1_isAtTarget 44 = .ok (.iload_n 1, 1) := by decide +kernel
theorem dX1_isAtTarget_45 : decode cX1_isAtTarget 45 = .ok (.invokevirtual 74, 3) := by decide +kernel
theorem dX1_isAtTarget_48 : decode cX1_isAtTarget 48 = .ok (.ifCond .eq 5, 3) := by decide +kernel
theorem dX1_isAtTarget_51 : decode cX1_isAtTarget 51 = .ok (.iconst 0, 1) := by decide +kernel
theorem dX1_isAtTarget_52 : decode cX1_isAtTarget 52 = .ok (.ireturn, 1) := by decide +kernel
theorem dX1_isAtTarget_53 : decode cX1_isAtTarget 53 = .ok (.aload_n 0, 1) := by decide +kernel
theorem dX1_isAtTarget_54 : decode cX1_isAtTarget 54 = .ok (.getfield 18, 3) := by decide +kernel
theorem dX1_isAtTarget_57 : decode cX1_isAtTarget 57 = .ok (.getfield 57, 3) := by decide +kernel
theorem dX1_isAtTarget_60 : decode cX1_isAtTarget 60 = .ok (.ifCond .eq 7, 3) := by decide +kernel
theorem dX1_isAtTarget_63 : decode cX1_isAtTarget 63 = .ok (.iload_n 1, 1) := by decide +kernel
theorem dX1_isAtTarget_64 : decode cX1_isAtTarget 64 = .ok (.ifCond .ne 7, 3) := by decide +kernel
theorem dX1_isAtTarget_67 : decode cX1_isAtTarget 67 = .ok (.iconst 1, 1) := by decide +kernel
theorem dX1_isAtTarget_68 : decode cX1_isAtTarget 68 = .ok (.goto 4, 3) := by decide +kernel
theorem dX1_isAtTarget_71 : decode cX1_isAtTarget 71 = .ok (.iconst 0, 1) := by decide +kernel
theorem dX1_isAtTarget_72 : decode cX1_isAtTarget 72 = .ok (.istore_n 2, 1) := by decide +kernel
theorem dX1_isAtTarget_73 : decode cX1_isAtTarget 73 = .ok (.iload_n 2, 1) := by decide +kernel
theorem dX1_isAtTarget_74 : decode cX1_isAtTarget 74 = .ok (.ifCond .ne 32, 3) := by decide +kernel
theorem dX1_isAtTarget_77 : decode cX1_isAtTarget 77 = .ok (.aload_n 0, 1) := by decide +kernel
theorem dX1_isAtTarget_78 : decode cX1_isAtTarget 78 = .ok (.getfield 26, 3) := by decide +kernel
theorem dX1_isAtTarget_81 : decode cX1_isAtTarget 81 = .ok (.iconst 1, 1) := by decide +kernel
theorem dX1_isAtTarget_82 : decode cX1_isAtTarget 82 = .ok (.iadd, 1) := by decide +kernel
theorem dX1_isAtTarget_83 : decode cX1_isAtTarget 83 = .ok (.aload_n 0, 1) := by decide +kernel
theorem dX1_isAtTarget_84 : decode cX1_isAtTarget 84 = .ok (.getfield 22, 3) := by decide +kernel
theorem dX1_isAtTarget_87 : decode cX1_isAtTarget 87 = .ok (.if_icmp .ge 23, 3) := by decide +kernel
theorem dX1_isAtTarget_90 : decode cX1_isAtTarget 90 = .ok (.aload_n 0, 1) := by decide +kernel
theorem dX1_isAtTarget_91 : decode cX1_isAtTarget 91 = .ok (.getfield 9, 3) := by decide +kernel
theorem dX1_isAtTarget_94 : decode cX1_isAtTarget 94 = .ok (.aload_n 0, 1) := by decide +kernel
theorem dX1_isAtTarget_95 : decode cX1_isAtTarget 95 = .ok (.getfield 26, 3) := by decide +kernel
theorem dX1_isAtTarget_98 : decode cX1_isAtTarget 98 = .ok (.iconst 1, 1) := by decide +kernel
theorem dX1_isAtTarget_99 : decode cX1_isAtTarget 99 = .ok (.iadd, 1) := by decide +kernel
theorem dX1_isAtTarget_100 : decode cX1_isAtTarget 100 = .ok (.caload, 1) := by decide +kernel
theorem dX1_isAtTarget_101 : decode cX1_isAtTarget 101 = .ok (.bipush 61, 2) := by decide +kernel
theorem dX1_isAtTarget_103 : decode cX1_isAtTarget 103 = .ok (.if_icmp .ne 7, 3) := by decide +kernel
theorem dX1_isAtTarget_106 : decode cX1_isAtTarget 106 = .ok (.iconst 1, 1) := by decide +kernel
theorem dX1_isAtTarget_107 : decode cX1_isAtTarget 107 = .ok (.goto 4, 3) := by decide +kernel
theorem dX1_isAtTarget_110 : decode cX1_isAtTarget 110 = .ok (.iconst 0, 1) := by decide +kernel
theorem dX1_isAtTarget_111 : decode cX1_isAtTarget 111 = .ok (.ireturn, 1) := by decide +kernel
theorem dX0_sets_0 : decode cX0_sets 0 = .ok (.aload_n 0, 1) := by decide +kernel
theorem dX0_sets_1 : decode cX0_sets 1 = .ok (.getfield 21, 3) := by decide +kernel
theorem dX0_sets_4 : decode cX0_sets 4 = .ok (.iload_n 1, 1) := by decide +kernel
theorem dX0_sets_5 : decode cX0_sets 5 = .ok (.ishr, 1) := by decide +kernel
theorem dX0_sets_6 : decode cX0_sets 6 = .ok (.iconst 1, 1) := by decide +kernel
theorem dX0_sets_7 : decode cX0_sets 7 = .ok (.iand, 1) := by decide +kernel
theorem dX0_sets_8 : decode cX0_sets 8 = .ok (.ifCond .eq 7, 3) := by decide +kernel
theorem dX0_sets_11 : decode cX0_sets 11 = .ok (.iconst 1, 1) := by decide +kernel
theorem dX0_sets_12 : decode cX0_sets 12 = .ok (.goto 4, 3) := by decide +kernel
theorem dX0_sets_15 : decode cX0_sets 15 = .ok (.iconst 0, 1) := by decide +kernel
theorem dX0_sets_16 : decode cX0_sets 16 = .ok (.ireturn, 1) := by decide +kernel
theorem dX1_take_0 : decode cX1_take 0 = .ok (.aload_n 0, 1) := by decide +kernel
theorem dX1_take_1 : decode cX1_take 1 = .ok (.getfield 26, 3) := by decide +kernel
theorem dX1_take_4 : decode cX1_take 4 = .ok (.aload_n 0, 1) := by decide +kernel
theorem dX1_take_5 : decode cX1_take 5 = .ok (.getfield 22, 3) := by decide +kernel
theorem dX1_take_8 : decode cX1_take 8 = .ok (.if_icmp .ge 16, 3) := by decide +kernel
theorem dX1_take_11 : decode cX1_take 11 = .ok (.aload_n 0, 1) := by decide +kernel
theorem dX1_take_12 : decode cX1_take 12 = .ok (.getfield 9, 3) := by decide +kernel
theorem dX1_take_15 : decode cX1_take 15 = .ok (.aload_n 0, 1) := by decide +kernel
theorem dX1_take_16 : decode cX1_take 16 = .ok (.getfield 26, 3) := by decide +kernel
theorem dX1_take_19 : decode cX1_take 19 = .ok (.caload, 1) := by decide +kernel
theorem dX1_take_20 : decode cX1_take 20 = .ok (.iload_n 1, 1) := by decide +kernel
theorem dX1_take_21 : decode cX1_take 21 = .ok (.if_icmp .eq 5, 3) := by decide +kernel
theorem dX1_take_24 : decode cX1_take 24 = .ok (.iconst 0, 1) := by decide +kernel
theorem dX1_take_25 : decode cX1_take 25 = .ok (.ireturn, 1) := by decide +kernel
theorem dX1_take_26 : decode cX1_take 26 = .ok (.aload_n 0, 1) := by decide +kernel
theorem dX1_take_27 : decode cX1_take 27 = .ok (.dup, 1) := by decide +kernel
theorem dX1_take_28 : decode cX1_take 28 = .ok (.getfield 26, 3) := by decide +kernel
theorem dX1_take_31 : decode cX1_take 31 = .ok (.iconst 1, 1) := by decide +kernel
theorem dX1_take_32 : decode cX1_take 32 = .ok (.iadd, 1) := by decide +kernel
theorem dX1_take_33 : decode cX1_take 33 = .ok (.putfield 26, 3) := by decide +kernel
theorem dX1_take_36 : decode cX1_take 36 = .ok (.iconst 1, 1) := by decide +kernel
theorem dX1_take_37 : decode cX1_take 37 = .ok (.ireturn, 1) := by decide +kernel
theorem dX1_readValue_0 : decode cX1_readValue 0 = .ok (.aload_n 0, 1) := by decide +kernel
theorem dX1_readValue_1 : decode cX1_readValue 1 = .ok (.bipush 48, 2) := by decide +kernel
theorem dX1_readValue_3 : decode cX1_readValue 3 = .ok (.invokevirtual 36, 3) := by decide +kernel
theorem dX1_readValue_6 : decode cX1_readValue 6 = .ok (.ifCond .eq 9, 3) := by decide +kernel
theorem dX1_readValue_9 : decode cX1_readValue 9 = .ok (.aload_n 0, 1) := by decide +kernel
theorem dX1_readValue_10 : decode cX1_readValue 10 = .ok (.iconst 0, 1) := by decide +kernel
theorem dX1_readValue_11 : decode cX1_readValue 11 = .ok (.invokevirtual 77, 3) := by decide +kernel
theorem dX1_readValue_14 : decode cX1_readValue 14 = .ok (.ireturn, 1) := by decide +kernel
theorem dX1_readValue_15 : decode cX1_readValue 15 = .ok (.aload_n 0, 1) := by decide +kernel
theorem dX1_readValue_16 : decode cX1_readValue 16 = .ok (.bipush 49, 2) := by decide +kernel
theorem dX1_readValue_18 : decode cX1_readValue 18 = .ok (.invokevirtual 36, 3) := by decide +kernel
theorem dX1_readValue_21 : decode cX1_readValue 21 = .ok (.ifCond .eq 9, 3) := by decide +kernel
theorem dX1_readValue_24 : decode cX1_readValue 24 = .ok (.aload_n 0, 1) := by decide +kernel
theorem dX1_readValue_25 : decode cX1_readValue 25 = .ok (.iconst 1, 1) := by decide +kernel
theorem dX1_readValue_26 : decode cX1_readValue 26 = .ok (.invokevirtual 77, 3) := by decide +kernel
theorem dX1_readValue_29 : decode cX1_readValue 29 = .ok (.ireturn, 1) := by decide +kernel
theorem dX1_readValue_30 : decode cX1_readValue 30 = .ok (.aload_n 0, 1) := by decide +kernel
theorem dX1_readValue_31 : decode cX1_readValue 31 = .ok (.bipush 45, 2) := by decide +kernel
theorem dX1_readValue_33 : decode cX1_readValue 33 = .ok (.invokevirtual 36, 3) := by decide +kernel
theorem dX1_readValue_36 : decode cX1_readValue 36 = .ok (.ifCond .eq 44, 3) := by decide +kernel
theorem dX1_readValue_39 : decode cX1_readValue 39 = .ok (.aload_n 0, 1) := by decide +kernel
theorem dX1_readValue_40 : decode cX1_readValue 40 = .ok (.bipush 49, 2) := by decide +kernel
theorem dX1_readValue_42 : decode cX1_readValue 42 = .ok (.invokevirtual 36, 3) := by decide +kernel
theorem dX1_readValue_45 : decode cX1_readValue 45 = .ok (.ifCond .eq 11, 3) := by decide +kernel
theorem dX1_readValue_48 : decode cX1_readValue 48 = .ok (.aload_n 0, 1) := by decide +kernel
theorem dX1_readValue_49 : decode cX1_readValue 49 = .ok (.iconst 2, 1) := by decide +kernel
theorem dX1_readValue_50 : decode cX1_readValue 50 = .ok (.invokevirtual 77, 3) := by decide +kernel
theorem dX1_readValue_53 : decode cX1_readValue 53 = .ok (.goto 26, 3) := by decide +kernel
theorem dX1_readValue_56 : decode cX1_readValue 56 = .ok (.aload_n 0, 1) := by decide +kernel
theorem dX1_readValue_57 : decode cX1_readValue 57 = .ok (.bipush 72, 2) := by decide +kernel
theorem dX1_readValue_59 : decode cX1_readValue 59 = .ok (.invokevirtual 36, 3) := by decide +kernel
theorem dX1_readValue_62 : decode cX1_readValue 62 = .ok (.ifCond .eq 16, 3) := by decide +kernel
theorem dX1_readValue_65 : decode cX1_readValue 65 = .ok (.aload_n 0, 1) := by decide +kernel
theorem dX1_readValue_66 : decode cX1_readValue 66 = .ok (.bipush 15, 2) := by decide +kernel
theorem dX1_readValue_68 : decode cX1_readValue 68 = .ok (.invokevirtual 77, 3) := by decide +kernel
theorem dX1_readValue_71 : decode cX1_readValue 71 = .ok (.ifCond .eq 7, 3) := by decide +kernel
theorem dX1_readValue_74 : decode cX1_readValue 74 = .ok (.iconst 1, 1) := by decide +kernel
theorem dX1_readValue_75 : decode cX1_readValue 75 = .ok (.goto 4, 3) := by decide +kernel
theorem dX1_readValue_78 : decode cX1_readValue 78 = .ok (.iconst 0, 1) := by decide +kernel
theorem dX1_readValue_79 : decode cX1_readValue 79 = .ok (.ireturn, 1) := by decide +kernel
theorem dX1_readValue_80 : decode cX1_readValue 80 = .ok (.aload_n 0, 1) := by decide +kernel
theorem dX1_readValue_81 : decode cX1_readValue 81 = .ok (.bipush 33, 2) := by decide +kernel
theorem dX1_readValue_83 : decode cX1_readValue 83 = .ok (.invokevirtual 36, 3) := by decide +kernel
theorem dX1_readValue_86 : decode cX1_readValue 86 = .ok (.ifCond .eq 43, 3) := by decide +kernel
theorem dX1_readValue_89 : decode cX1_readValue 89 = .ok (.aload_n 0, 1) := by decide +kernel
theorem dX1_readValue_90 : decode cX1_readValue 90 = .ok (.bipush 72, 2) := by decide +kernel
theorem dX1_readValue_92 : decode cX1_readValue 92 = .ok (.invokevirtual 36, 3) := by decide +kernel
theorem dX1_readValue_95 : decode cX1_readValue 95 = .ok (.ifCond .eq 12, 3) := by decide +kernel
theorem dX1_readValue_98 : decode cX1_readValue 98 = .ok (.aload_n 0, 1) := by decide +kernel
theorem dX1_readValue_99 : decode cX1_readValue 99 = .ok (.bipush 14, 2) := by decide +kernel
theorem dX1_readValue_101 : decode cX1_readValue 101 = .ok (.invokevirtual 77, 3) := by decide +kernel
theorem dX1_readValue_104 : decode cX1_readValue 104 = .ok (.goto 24, 3) := by decide +kernel
theorem dX1_readValue_107 : decode cX1_readValue 107 = .ok (.aload_n 0, 1) := by decide +kernel
theorem dX1_readValue_108 : decode cX1_readValue 108 = .ok (.invokevirtual 80, 3) := by decide +kernel
theorem dX1_readValue_111 : decode cX1_readValue 111 = .ok (.ifCond .eq 16, 3) := by decide +kernel
theorem dX1_readValue_114 : decode cX1_readValue 114 = .ok (.aload_n 0, 1) := by decide +kernel
theorem dX1_readValue_115 : decode cX1_readValue 115 = .ok (.bipush 7, 2) := by decide +kernel
theorem dX1_readValue_117 : decode cX1_readValue 117 = .ok (.invokevirtual 77, 3) := by decide +kernel
theorem dX1_readValue_120 : decode cX1_readValue 120 = .ok (.ifCond .eq 7, 3) := by decide +kernel
theorem dX1_readValue_123 : decode cX1_readValue 123 = .ok (.iconst 1, 1) := by decide +kernel
theorem dX1_readValue_124 : decode cX1_readValue 124 = .ok (.goto 4, 3) := by decide +kernel
theorem dX1_readValue_127 : decode cX1_readValue 127 = .ok (.iconst 0, 1) := by decide +kernel
theorem dX1_readValue_128 : decode cX1_readValue 128 = .ok (.ireturn, 1) := by decide +kernel
theorem dX1_readValue_129 : decode cX1_readValue 129 = .ok (.aload_n 0, 1) := by decide +kernel
theorem dX1_readValue_130 : decode cX1_readValue 130 = .ok (.bipush 72, 2) := by decide +kernel
theorem dX1_readValue_132 : decode cX1_readValue 132 = .ok (.invokevirtual 36, 3) := by decide +kernel
theorem dX1_readValue_135 : decode cX1_readValue 135 = .ok (.ifCond .eq 8, 3) := by decide +kernel
theorem dX1_readValue_138 : decode cX1_readValue 138 = .ok (.aload_n 0, 1) := by decide +kernel
theorem dX1_readValue_139 : decode cX1_readValue 139 = .ok (.invokevirtual 83, 3) := by decide +kernel
theorem dX1_readValue_142 : decode cX1_readValue 142 = .ok (.ireturn, 1) := by decide +kernel
theorem dX1_readValue_143 : decode cX1_readValue 143 = .ok (.aload_n 0, 1) := by decide +kernel
theorem dX1_readValue_144 : decode cX1_readValue 144 = .ok (.invokevirtual 80, 3) := by decide +kernel
theorem dX1_readValue_147 : decode cX1_readValue 147 = .ok (.ifCond .eq 14, 3) := by decide +kernel
theorem dX1_readValue_150 : decode cX1_readValue 150 = .ok (.aload_n 0, 1) := by decide +kernel
theorem dX1_readValue_151 : decode cX1_readValue 151 = .ok (.invokevirtual 86, 3) := by decide +kernel
theorem dX1_readValue_154 : decode cX1_readValue 154 = .ok (.ifCond .eq 7, 3) := by decide +kernel
theorem dX1_readValue_157 : decode cX1_readValue 157 = .ok (.iconst 1, 1) := by decide +kernel
theorem dX1_readValue_158 : decode cX1_readValue 158 = .ok (.goto 4, 3) := by decide +kernel
theorem dX1_readValue_161 : decode cX1_readValue 161 = .ok (.iconst 0, 1) := by decide +kernel
theorem dX1_readValue_162 : decode cX1_readValue 162 = .ok (.ireturn, 1) := by decide +kernel
theorem dX1_does_0 : decode cX1_does 0 = .ok (.aload_n 0, 1) := by decide +kernel
theorem dX1_does_1 : decode cX1_does 1 = .ok (.getfield 18, 3) := by decide +kernel
theorem dX1_does_4 : decode cX1_does 4 = .ok (.iload_n 1, 1) := by decide +kernel
theorem dX1_does_5 : decode cX1_does 5 = .ok (.putfield 89, 3) := by decide +kernel
theorem dX1_does_8 : decode cX1_does 8 = .ok (.iconst 1, 1) := by decide +kernel
theorem dX1_does_9 : decode cX1_does 9 = .ok (.ireturn, 1) := by decide +kernel
theorem dX1_takeSource_0 : decode cX1_takeSource 0 = .ok (.aload_n 0, 1) := by decide +kernel
theorem dX1_takeSource_1 : decode cX1_takeSource 1 = .ok (.getfield 26, 3) := by decide +kernel
theorem dX1_takeSource_4 : decode cX1_takeSource 4 = .ok (.aload_n 0, 1) := by decide +kernel
theorem dX1_takeSource_5 : decode cX1_takeSource 5 = .ok (.getfield 22, 3) := by decide +kernel
theorem dX1_takeSource_8 : decode cX1_takeSource 8 = .ok (.if_icmp .ge 20, 3) := by decide +kernel
theorem dX1_takeSource_11 : decode cX1_takeSource 11 = .ok (.ldc 60, 2) := by decide +kernel
theorem dX1_takeSource_13 : decode cX1_takeSource 13 = .ok (.aload_n 0, 1) := by decide +kernel
theorem dX1_takeSource_14 : decode cX1_takeSource 14 = .ok (.getfield 9, 3) := by decide +kernel
theorem dX1_takeSource_17 : decode cX1_takeSource 17 = .ok (.aload_n 0, 1) := by decide +kernel
theorem dX1_takeSource_18 : decode cX1_takeSource 18 = .ok (.getfield 26, 3) := by decide +kernel
theorem dX1_takeSource_21 : decode cX1_takeSource 21 = .ok (.caload, 1) := by decide +kernel
theorem dX1_takeSource_22 : decode cX1_takeSource 22 = .ok (.invokevirtual 62, 3) := by decide +kernel
theorem dX1_takeSource_25 : decode cX1_takeSource 25 = .ok (.goto 4, 3) := by decide +kernel
theorem dX1_takeSource_28 : decode cX1_takeSource 28 = .ok (.iconst (-1), 1) := by decide +kernel
theorem dX1_takeSource_29 : decode cX1_takeSource 29 = .ok (.istore_n 1, 1) := by decide +kernel
theorem dX1_takeSource_30 : decode cX1_takeSource 30 = .ok (.iload_n 1, 1) := by decide +kernel
theorem dX1_takeSource_31 : decode cX1_takeSource 31 = .ok (.ifCond .le 9, 3) := by decide +kernel
theorem dX1_takeSource_34 : decode cX1_takeSource 34 = .ok (.iload_n 1, 1) := by decide +kernel
theorem dX1_takeSource_35 : decode cX1_takeSource 35 = .ok (.bipush 8, 2) := by decide +kernel
theorem dX1_takeSource_37 : decode cX1_takeSource 37 = .ok (.if_icmp .ne 5, 3) := by decide +kernel
theorem dX1_takeSource_40 : decode cX1_takeSource 40 = .ok (.iconst 0, 1) := by decide +kernel
theorem dX1_takeSource_41 : decode cX1_takeSource 41 = .ok (.ireturn, 1) := by decide +kernel
theorem dX1_takeSource_42 : decode cX1_takeSource 42 = .ok (.aload_n 0, 1) := by decide +kernel
theorem dX1_takeSource_43 : decode cX1_takeSource 43 = .ok (.getfield 18, 3) := by decide +kernel
theorem dX1_takeSource_46 : decode cX1_takeSource 46 = .ok (.iload_n 1, 1) := by decide +kernel
theorem dX1_takeSource_47 : decode cX1_takeSource 47 = .ok (.putfield 110, 3) := by decide +kernel
theorem dX1_takeSource_50 : decode cX1_takeSource 50 = .ok (.aload_n 0, 1) := by decide +kernel
theorem dX1_takeSource_51 : decode cX1_takeSource 51 = .ok (.dup, 1) := by decide +kernel
theorem dX1_takeSource_52 : decode cX1_takeSource 52 = .ok (.getfield 26, 3) := by decide +kernel
theorem dX1_takeSource_55 : decode cX1_takeSource 55 = .ok (.iconst 1, 1) := by decide +kernel
theorem dX1_takeSource_56 : decode cX1_takeSource 56 = .ok (.iadd, 1) := by decide +kernel
theorem dX1_takeSource_57 : decode cX1_takeSource 57 = .ok (.putfield 26, 3) := by decide +kernel
theorem dX1_takeSource_60 : decode cX1_takeSource 60 = .ok (.iconst 1, 1) := by decide +kernel
theorem dX1_takeSource_61 : decode cX1_takeSource 61 = .ok (.ireturn, 1) := by decide +kernel
theorem dX1_readBehindH_0 : decode cX1_readBehindH 0 = .ok (.aload_n 0, 1) := by decide +kernel
theorem dX1_readBehindH_1 : decode cX1_readBehindH 1 = .ok (.bipush 38, 2) := by decide +kernel
theorem dX1_readBehindH_3 : decode cX1_readBehindH 3 = .ok (.invokevirtual 36, 3) := by decide +kernel
theorem dX1_readBehindH_6 : decode cX1_readBehindH 6 = .ok (.ifCond .eq 25, 3) := by decide +kernel
theorem dX1_readBehindH_9 : decode cX1_readBehindH 9 = .ok (.aload_n 0, 1) := by decide +kernel
theorem dX1_readBehindH_10 : decode cX1_readBehindH 10 = .ok (.invokevirtual 80, 3) := by decide +kernel
theorem dX1_readBehindH_13 : decode cX1_readBehindH 13 = .ok (.ifCond .eq 16, 3) := by decide +kernel
theorem dX1_readBehindH_16 : decode cX1_readBehindH 16 = .ok (.aload_n 0, 1) := by decide +kernel
theorem dX1_readBehindH_17 : decode cX1_readBehindH 17 = .ok (.bipush 12, 2) := by decide +kernel
theorem dX1_readBehindH_19 : decode cX1_readBehindH 19 = .ok (.invokevirtual 77, 3) := by decide +kernel
theorem dX1_readBehindH_22 : decode cX1_readBehindH 22 = .ok (.ifCond .eq 7, 3) := by decide +kernel
theorem dX1_readBehindH_25 : decode cX1_readBehindH 25 = .ok (.iconst 1, 1) := by decide +kernel
theorem dX1_readBehindH_26 : decode cX1_readBehindH 26 = .ok (.goto 4, 3) := by decide +kernel
theorem dX1_readBehindH_29 : decode cX1_readBehindH 29 = .ok (.iconst 0, 1) := by decide +kernel
theorem dX1_readBehindH_30 : decode cX1_readBehindH 30 = .ok (.ireturn, 1) := by decide +kernel
theorem dX1_readBehindH_31 : decode cX1_readBehindH 31 = .ok (.aload_n 0, 1) := by decide +kernel
theorem dX1_readBehindH_32 : decode cX1_readBehindH 32 = .ok (.bipush 124, 2) := by decide +kernel
theorem dX1_readBehindH_34 : decode cX1_readBehindH 34 = .ok (.invokevirtual 36, 3) := by decide +kernel
theorem dX1_readBehindH_37 : decode cX1_readBehindH 37 = .ok (.ifCond .eq 25, 3) := by decide +kernel
theorem dX1_readBehindH_40 : decode cX1_readBehindH 40 = .ok (.aload_n 0, 1) := by decide +kernel
theorem dX1_readBehindH_41 : decode cX1_readBehindH 41 = .ok (.invokevirtual 80, 3) := by decide +kernel
theorem dX1_readBehindH_44 : decode cX1_readBehindH 44 = .ok (.ifCond .eq 16, 3) := by decide +kernel
theorem dX1_readBehindH_47 : decode cX1_readBehindH 47 = .ok (.aload_n 0, 1) := by decide +kernel
theorem dX1_readBehindH_48 : decode cX1_readBehindH 48 = .ok (.bipush 13, 2) := by decide +kernel
theorem dX1_readBehindH_50 : decode cX1_readBehindH 50 = .ok (.invokevirtual 77, 3) := by decide +kernel
theorem dX1_readBehindH_53 : decode cX1_readBehindH 53 = .ok (.ifCond .eq 7, 3) := by decide +kernel
theorem dX1_readBehindH_56 : decode cX1_readBehindH 56 = .ok (.iconst 1, 1) := by decide +kernel
theorem dX1_readBehindH_57 : decode cX1_readBehindH 57 = .ok (.goto 4, 3) := by decide +kernel
theorem dX1_readBehindH_60 : decode cX1_readBehindH 60 = .ok (.iconst 0, 1) := by decide +kernel
theorem dX1_readBehindH_61 : decode cX1_readBehindH 61 = .ok (.ireturn, 1) := by decide +kernel
theorem dX1_readBehindH_62 : decode cX1_readBehindH 62 = .ok (.aload_n 0, 1) := by decide +kernel
theorem dX1_readBehindH_63 : decode cX1_readBehindH 63 = .ok (.bipush 43, 2) := by decide +kernel
theorem dX1_readBehindH_65 : decode cX1_readBehindH 65 = .ok (.invokevirtual 36, 3) := by decide +kernel
theorem dX1_readBehindH_68 : decode cX1_readBehindH 68 = .ok (.ifCond .ne 10, 3) := by decide +kernel
theorem dX1_readBehindH_71 : decode cX1_readBehindH 71 = .ok (.aload_n 0, 1) := by decide +kernel
theorem dX1_readBehindH_72 : decode cX1_readBehindH 72 = .ok (.bipush 8, 2) := by decide +kernel
theorem dX1_readBehindH_74 : decode cX1_readBehindH 74 = .ok (.invokevirtual 77, 3) := by decide +kernel
theorem dX1_readBehindH_77 : decode cX1_readBehindH 77 = .ok (.ireturn, 1) := by decide +kernel
theorem dX1_readBehindH_78 : decode cX1_readBehindH 78 = .ok (.aload_n 0, 1) := by decide +kernel
theorem dX1_readBehindH_79 : decode cX1_readBehindH 79 = .ok (.bipush 49, 2) := by decide +kernel
theorem dX1_readBehindH_81 : decode cX1_readBehindH 81 = .ok (.invokevirtual 36, 3) := by decide +kernel
theorem dX1_readBehindH_84 : decode cX1_readBehindH 84 = .ok (.ifCond .eq 10, 3) := by decide +kernel
theorem dX1_readBehindH_87 : decode cX1_readBehindH 87 = .ok (.aload_n 0, 1) := by decide +kernel
theorem dX1_readBehindH_88 : decode cX1_readBehindH 88 = .ok (.bipush 9, 2) := by decide +kernel
theorem dX1_readBehindH_90 : decode cX1_readBehindH 90 = .ok (.invokevirtual 77, 3) := by decide +kernel
theorem dX1_readBehindH_93 : decode cX1_readBehindH 93 = .ok (.ireturn, 1) := by decide +kernel
theorem dX1_readBehindH_94 : decode cX1_readBehindH 94 = .ok (.aload_n 0, 1) := by decide +kernel
theorem dX1_readBehindH_95 : decode cX1_readBehindH 95 = .ok (.invokevirtual 80, 3) := by decide +kernel
theorem dX1_readBehindH_98 : decode cX1_readBehindH 98 = .ok (.ifCond .ne 5, 3) := by decide +kernel
theorem dX1_readBehindH_101 : decode cX1_readBehindH 101 = .ok (.iconst 0, 1) := by decide +kernel
theorem dX1_readBehindH_102 : decode cX1_readBehindH 102 = .ok (.ireturn, 1) := by decide +kernel
theorem dX1_readBehindH_103 : decode cX1_readBehindH 103 = .ok (.aload_n 0, 1) := by decide +kernel
theorem dX1_readBehindH_104 : decode cX1_readBehindH 104 = .ok (.bipush 43, 2) := by decide +kernel
theorem dX1_readBehindH_106 : decode cX1_readBehindH 106 = .ok (.invokevirtual 36, 3) := by decide +kernel
theorem dX1_readBehindH_109 : decode cX1_readBehindH 109 = .ok (.ifCond .eq 29, 3) := by decide +kernel
theorem dX1_readBehindH_112 : decode cX1_readBehindH 112 = .ok (.aload_n 0, 1) := by decide +kernel
theorem dX1_readBehindH_113 : decode cX1_readBehindH 113 = .ok (.bipush 49, 2) := by decide +kernel
theorem dX1_readBehindH_115 : decode cX1_readBehindH 115 = .ok (.invokevirtual 36, 3) := by decide +kernel
theorem dX1_readBehindH_118 : decode cX1_readBehindH 118 = .ok (.ifCond .eq 16, 3) := by decide +kernel
theorem dX1_readBehindH_121 : decode cX1_readBehindH 121 = .ok (.aload_n 0, 1) := by decide +kernel
theorem dX1_readBehindH_122 : decode cX1_readBehindH 122 = .ok (.bipush 11, 2) := by decide +kernel
theorem dX1_readBehindH_124 : decode cX1_readBehindH 124 = .ok (.invokevirtual 77, 3) := by decide +kernel
theorem dX1_readBehindH_127 : decode cX1_readBehindH 127 = .ok (.ifCond .eq 7, 3) := by decide +kernel
theorem dX1_readBehindH_130 : decode cX1_readBehindH 130 = .ok (.iconst 1, 1) := by decide +kernel
theorem dX1_readBehindH_131 : decode cX1_readBehindH 131 = .ok (.goto 13, 3) := by decide +kernel
theorem dX1_readBehindH_134 : decode cX1_readBehindH 134 = .ok (.iconst 0, 1) := by decide +kernel
theorem dX1_readBehindH_135 : decode cX1_readBehindH 135 = .ok (.goto 9, 3) := by decide +kernel
theorem dX1_readBehindH_138 : decode cX1_readBehindH 138 = .ok (.aload_n 0, 1) := by decide +kernel
theorem dX1_readBehindH_139 : decode cX1_readBehindH 139 = .ok (.bipush 10, 2) := by decide +kernel
theorem dX1_readBehindH_141 : decode cX1_readBehindH 141 = .ok (.invokevirtual 77, 3) := by decide +kernel
theorem dX1_readBehindH_144 : decode cX1_readBehindH 144 = .ok (.ireturn, 1) := by decide +kernel
theorem dX1_readBehindSource_0 : decode cX1_readBehindSource 0 = .ok (.aload_n 0, 1) := by decide +kernel
theorem dX1_readBehindSource_1 : decode cX1_readBehindSource 1 = .ok (.bipush 43, 2) := by decide +kernel
theorem dX1_readBehindSource_3 : decode cX1_readBehindSource 3 = .ok (.invokevirtual 36, 3) := by decide +kernel
theorem dX1_readBehindSource_6 : decode cX1_readBehindSource 6 = .ok (.ifCond .eq 26, 3) := by decide +kernel
theorem dX1_readBehindSource_9 : decode cX1_readBehindSource 9 = .ok (.aload_n 0, 1) := by decide +kernel
theorem dX1_readBehindSource_10 : decode cX1_readBehindSource 10 = .ok (.bipush 49, 2) := by decide +kernel
theorem dX1_readBehindSource_12 : decode cX1_readBehindSource 12 = .ok (.invokevirtual 36, 3) := by decide +kernel
theorem dX1_readBehindSource_15 : decode cX1_readBehindSource 15 = .ok (.ifCond .eq 15, 3) := by decide +kernel
theorem dX1_readBehindSource_18 : decode cX1_readBehindSource 18 = .ok (.aload_n 0, 1) := by decide +kernel
theorem dX1_readBehindSource_19 : decode cX1_readBehindSource 19 = .ok (.iconst 4, 1) := by decide +kernel
theorem dX1_readBehindSource_20 : decode cX1_readBehindSource 20 = .ok (.invokevirtual 77, 3) := by decide +kernel
theorem dX1_readBehindSource_23 : decode cX1_readBehindSource 23 = .ok (.ifCond .eq 7, 3) := by decide +kernel
theorem dX1_readBehindSource_26 : decode cX1_readBehindSource 26 = .ok (.iconst 1, 1) := by decide +kernel
theorem dX1_readBehindSource_27 : decode cX1_readBehindSource 27 = .ok (.goto 4, 3) := by decide +kernel
theorem dX1_readBehindSource_30 : decode cX1_readBehindSource 30 = .ok (.iconst 0, 1) := by decide +kernel
theorem dX1_readBehindSource_31 : decode cX1_readBehindSource 31 = .ok (.ireturn, 1) := by decide +kernel
theorem dX1_readBehindSource_32 : decode cX1_readBehindSource 32 = .ok (.aload_n 0, 1) := by decide +kernel
theorem dX1_readBehindSource_33 : decode cX1_readBehindSource 33 = .ok (.bipush 45, 2) := by decide +kernel
theorem dX1_readBehindSource_35 : decode cX1_readBehindSource 35 = .ok (.invokevirtual 36, 3) := by decide +kernel
theorem dX1_readBehindSource_38 : decode cX1_readBehindSource 38 = .ok (.ifCond .eq 44, 3) := by decide +kernel
theorem dX1_readBehindSource_41 : decode cX1_readBehindSource 41 = .ok (.aload_n 0, 1) := by decide +kernel
theorem dX1_readBehindSource_42 : decode cX1_readBehindSource 42 = .ok (.bipush 49, 2) := by decide +kernel
theorem dX1_readBehindSource_44 : decode cX1_readBehindSource 44 = .ok (.invokevirtual 36, 3) := by decide +kernel
theorem dX1_readBehindSource_47 : decode cX1_readBehindSource 47 = .ok (.ifCond .eq 11, 3) := by decide +kernel
theorem dX1_readBehindSource_50 : decode cX1_readBehindSource 50 = .ok (.aload_n 0, 1) := by decide +kernel
theorem dX1_readBehindSource_51 : decode cX1_readBehindSource 51 = .ok (.iconst 5, 1) := by decide +kernel
theorem dX1_readBehindSource_52 : decode cX1_readBehindSource 52 = .ok (.invokevirtual 77, 3) := by decide +kernel
theorem dX1_readBehindSource_55 : decode cX1_readBehindSource 55 = .ok (.goto 26, 3) := by decide +kernel
theorem dX1_readBehindSource_58 : decode cX1_readBehindSource 58 = .ok (.aload_n 0, 1) := by decide +kernel
theorem dX1_readBehindSource_59 : decode cX1_readBehindSource 59 = .ok (.bipush 72, 2) := by decide +kernel
theorem dX1_readBehindSource_61 : decode cX1_readBehindSource 61 = .ok (.invokevirtual 36, 3) := by decide +kernel
theorem dX1_readBehindSource_64 : decode cX1_readBehindSource 64 = .ok (.ifCond .eq 16, 3) := by decide +kernel
theorem dX1_readBehindSource_67 : decode cX1_readBehindSource 67 = .ok (.aload_n 0, 1) := by decide +kernel
theorem dX1_readBehindSource_68 : decode cX1_readBehindSource 68 = .ok (.bipush 6, 2) := by decide +kernel
theorem dX1_readBehindSource_70 : decode cX1_readBehindSource 70 = .ok (.invokevirtual 77, 3) := by decide +kernel
theorem dX1_readBehindSource_73 : decode cX1_readBehindSource 73 = .ok (.ifCond .eq 7, 3) := by decide +kernel
theorem dX1_readBehindSource_76 : decode cX1_readBehindSource 76 = .ok (.iconst 1, 1) := by decide +kernel
theorem dX1_readBehindSource_77 : decode cX1_readBehindSource 77 = .ok (.goto 4, 3) := by decide +kernel
theorem dX1_readBehindSource_80 : decode cX1_readBehindSource 80 = .ok (.iconst 0, 1) := by decide +kernel
theorem dX1_readBehindSource_81 : decode cX1_readBehindSource 81 = .ok (.ireturn, 1) := by decide +kernel
theorem dX1_readBehindSource_82 : decode cX1_readBehindSource 82 = .ok (.aload_n 0, 1) := by decide +kernel
theorem dX1_readBehindSource_83 : decode cX1_readBehindSource 83 = .ok (.iconst 3, 1) := by decide +kernel
theorem dX1_readBehindSource_84 : decode cX1_readBehindSource 84 = .ok (.invokevirtual 77, 3) := by decide +kernel
theorem dX1_readBehindSource_87 : decode cX1_readBehindSource 87 = .ok (.ireturn, 1) := by decide +kernel
theorem dX1_readGoing_0 : decode cX1_readGoing 0 = .ok (.aload_n 0, 1) := by decide +kernel
theorem dX1_readGoing_1 : decode cX1_readGoing 1 = .ok (.getfield 18, 3) := by decide +kernel
theorem dX1_readGoing_4 : decode cX1_readGoing 4 = .ok (.aload_n 0, 1) := by decide +kernel
theorem dX1_readGoing_5 : decode cX1_readGoing 5 = .ok (.getfield 26, 3) := by decide +kernel
theorem dX1_readGoing_8 : decode cX1_readGoing 8 = .ok (.aload_n 0, 1) := by decide +kernel
theorem dX1_readGoing_9 : decode cX1_readGoing 9 = .ok (.getfield 22, 3) := by decide +kernel
theorem dX1_readGoing_12 : decode cX1_readGoing 12 = .ok (.if_icmp .ge 22, 3) := by decide +kernel
theorem dX1_readGoing_15 : decode cX1_readGoing 15 = .ok (.ldc 92, 2) := by decide +kernel
theorem dX1_readGoing_17 : decode cX1_readGoing 17 = .ok (.aload_n 0, 1) := by decide +kernel
theorem dX1_readGoing_18 : decode cX1_readGoing 18 = .ok (.getfield 9, 3) := by decide +kernel
theorem dX1_readGoing_21 : decode cX1_readGoing 21 = .ok (.aload_n 0, 1) := by decide +kernel
theorem dX1_readGoing_22 : decode cX1_readGoing 22 = .ok (.getfield 26, 3) := by decide +kernel
theorem dX1_readGoing_25 : decode cX1_readGoing 25 = .ok (.caload, 1) := by decide +kernel
theorem dX1_readGoing_26 : decode cX1_readGoing 26 = .ok (.invokevirtual 62, 3) := by decide +kernel
theorem dX1_readGoing_29 : decode cX1_readGoing 29 = .ok (.iconst 1, 1) := by decide +kernel
theorem dX1_readGoing_30 : decode cX1_readGoing 30 = .ok (.iadd, 1) := by decide +kernel
theorem dX1_readGoing_31 : decode cX1_readGoing 31 = .ok (.goto 4, 3) := by decide +kernel
theorem dX1_readGoing_34 : decode cX1_readGoing 34 = .ok (.iconst 0, 1) := by decide +kernel
theorem dX1_readGoing_35 : decode cX1_readGoing 35 = .ok (.putfield 94, 3) := by decide +kernel
theorem dX1_readGoing_38 : decode cX1_readGoing 38 = .ok (.aload_n 0, 1) := by decide +kernel
theorem dX1_readGoing_39 : decode cX1_readGoing 39 = .ok (.getfield 18, 3) := by decide +kernel
theorem dX1_readGoing_42 : decode cX1_readGoing 42 = .ok (.getfield 94, 3) := by decide +kernel
theorem dX1_readGoing_45 : decode cX1_readGoing 45 = .ok (.ifCond .ne 5, 3) := by decide +kernel
theorem dX1_readGoing_48 : decode cX1_readGoing 48 = .ok (.iconst 1, 1) := by decide +kernel
theorem dX1_readGoing_49 : decode cX1_readGoing 49 = .ok (.ireturn, 1) := by decide +kernel
theorem dX1_readGoing_50 : decode cX1_readGoing 50 = .ok (.aload_n 0, 1) := by decide +kernel
theorem dX1_readGoing_51 : decode cX1_readGoing 51 = .ok (.dup, 1) := by decide +kernel
theorem dX1_readGoing_52 : decode cX1_readGoing 52 = .ok (.getfield 26, 3) := by decide +kernel
theorem dX1_readGoing_55 : decode cX1_readGoing 55 = .ok (.iconst 1, 1) := by decide +kernel
theorem dX1_readGoing_56 : decode cX1_readGoing 56 = .ok (.iadd, 1) := by decide +kernel
theorem dX1_readGoing_57 : decode cX1_readGoing 57 = .ok (.putfield 26, 3) := by decide +kernel
theorem dX1_readGoing_60 : decode cX1_readGoing 60 = .ok (.aload_n 0, 1) := by decide +kernel
theorem dX1_readGoing_61 : decode cX1_readGoing 61 = .ok (.getfield 18, 3) := by decide +kernel
theorem dX1_readGoing_64 : decode cX1_readGoing 64 = .ok (.getfield 94, 3) := by decide +kernel
theorem dX1_readGoing_67 : decode cX1_readGoing 67 = .ok (.iconst 4, 1) := by decide +kernel
theorem dX1_readGoing_68 : decode cX1_readGoing 68 = .ok (.if_icmp .ne 16, 3) := by decide +kernel
theorem dX1_readGoing_71 : decode cX1_readGoing 71 = .ok (.aload_n 0, 1) := by decide +kernel
theorem dX1_readGoing_72 : decode cX1_readGoing 72 = .ok (.getfield 26, 3) := by decide +kernel
theorem dX1_readGoing_75 : decode cX1_readGoing 75 = .ok (.aload_n 0, 1) := by decide +kernel
theorem dX1_readGoing_76 : decode cX1_readGoing 76 = .ok (.getfield 22, 3) := by decide +kernel
theorem dX1_readGoing_79 : decode cX1_readGoing 79 = .ok (.if_icmp .ne 5, 3) := by decide +kernel
theorem dX1_readGoing_82 : decode cX1_readGoing 82 = .ok (.iconst 1, 1) := by decide +kernel
theorem dX1_readGoing_83 : decode cX1_readGoing 83 = .ok (.ireturn, 1) := by decide +kernel
theorem dX1_readGoing_84 : decode cX1_readGoing 84 = .ok (.aload_n 0, 1) := by decide +kernel
theorem dX1_readGoing_85 : decode cX1_readGoing 85 = .ok (.getfield 18, 3) := by decide +kernel
theorem dX1_readGoing_88 : decode cX1_readGoing 88 = .ok (.aload_n 0, 1) := by decide +kernel
theorem dX1_readGoing_89 : decode cX1_readGoing 89 = .ok (.invokevirtual 97, 3) := by decide +kernel
theorem dX1_readGoing_92 : decode cX1_readGoing 92 = .ok (.putfield 101, 3) := by decide +kernel
theorem dX1_readGoing_95 : decode cX1_readGoing 95 = .ok (.aload_n 0, 1) := by decide +kernel
theorem dX1_readGoing_96 : decode cX1_readGoing 96 = .ok (.getfield 18, 3) := by decide +kernel
theorem dX1_readGoing_99 : decode cX1_readGoing 99 = .ok (.getfield 94, 3) := by decide +kernel
theorem dX1_readGoing_102 : decode cX1_readGoing 102 = .ok (.iconst 1, 1) := by decide +kernel
theorem dX1_readGoing_103 : decode cX1_readGoing 103 = .ok (.if_icmp .eq 14, 3) := by decide +kernel
theorem dX1_readGoing_106 : decode cX1_readGoing 106 = .ok (.aload_n 0, 1) := by decide +kernel
theorem dX1_readGoing_107 : decode cX1_readGoing 107 = .ok (.getfield 18, 3) := by decide +kernel
theorem dX1_readGoing_110 : decode cX1_readGoing 110 = .ok (.getfield 94, 3) := by decide +kernel
theorem dX1_readGoing_113 : decode cX1_readGoing 113 = .ok (.iconst 4, 1) := by decide +kernel
theorem dX1_readGoing_114 : decode cX1_readGoing 114 = .ok (.if_icmp .ne 19, 3) := by decide +kernel
theorem dX1_readGoing_117 : decode cX1_readGoing 117 = .ok (.aload_n 0, 1) := by decide +kernel
theorem dX1_readGoing_118 : decode cX1_readGoing 118 = .ok (.getfield 18, 3) := by decide +kernel
theorem dX1_readGoing_121 : decode cX1_readGoing 121 = .ok (.getfield 101, 3) := by decide +kernel
theorem dX1_readGoing_124 : decode cX1_readGoing 124 = .ok (.ifCond .lt 7, 3) := by decide +kernel
theorem dX1_readGoing_127 : decode cX1_readGoing 127 = .ok (.iconst 1, 1) := by decide +kernel
theorem dX1_readGoing_128 : decode cX1_readGoing 128 = .ok (.goto 4, 3) := by decide +kernel
theorem dX1_readGoing_131 : decode cX1_readGoing 131 = .ok (.iconst 0, 1) := by decide +kernel
theorem dX1_readGoing_132 : decode cX1_readGoing 132 = .ok (.ireturn, 1) := by decide +kernel
theorem dX1_readGoing_133 : decode cX1_readGoing 133 = .ok (.aload_n 0, 1) := by decide +kernel
theorem dX1_readGoing_134 : decode cX1_readGoing 134 = .ok (.getfield 18, 3) := by decide +kernel
theorem dX1_readGoing_137 : decode cX1_readGoing 137 = .ok (.getfield 101, 3) := by decide +kernel
theorem dX1_readGoing_140 : decode cX1_readGoing 140 = .ok (.ifCond .lt 12, 3) := by decide +kernel
theorem dX1_readGoing_143 : decode cX1_readGoing 143 = .ok (.aload_n 0, 1) := by decide +kernel
theorem dX1_readGoing_144 : decode cX1_readGoing 144 = .ok (.bipush 44, 2) := by decide +kernel
theorem dX1_readGoing_146 : decode cX1_readGoing 146 = .ok (.invokevirtual 36, 3) := by decide +kernel
theorem dX1_readGoing_149 : decode cX1_readGoing 149 = .ok (.ifCond .ne 5, 3) := by decide +kernel
theorem dX1_readGoing_152 : decode cX1_readGoing 152 = .ok (.iconst 0, 1) := by decide +kernel
theorem dX1_readGoing_153 : decode cX1_readGoing 153 = .ok (.ireturn, 1) := by decide +kernel
theorem dX1_readGoing_154 : decode cX1_readGoing 154 = .ok (.aload_n 0, 1) := by decide +kernel
theorem dX1_readGoing_155 : decode cX1_readGoing 155 = .ok (.getfield 18, 3) := by decide +kernel
theorem dX1_readGoing_158 : decode cX1_readGoing 158 = .ok (.aload_n 0, 1) := by decide +kernel
theorem dX1_readGoing_159 : decode cX1_readGoing 159 = .ok (.invokevirtual 97, 3) := by decide +kernel
theorem dX1_readGoing_162 : decode cX1_readGoing 162 = .ok (.putfield 104, 3) := by decide +kernel
theorem dX1_readGoing_165 : decode cX1_readGoing 165 = .ok (.aload_n 0, 1) := by decide +kernel
theorem dX1_readGoing_166 : decode cX1_readGoing 166 = .ok (.getfield 18, 3) := by decide +kernel
theorem dX1_readGoing_169 : decode cX1_readGoing 169 = .ok (.getfield 104, 3) := by decide +kernel
theorem dX1_readGoing_172 : decode cX1_readGoing 172 = .ok (.ifCond .lt 7, 3) := by decide +kernel
theorem dX1_readGoing_175 : decode cX1_readGoing 175 = .ok (.iconst 1, 1) := by decide +kernel
theorem dX1_readGoing_176 : decode cX1_readGoing 176 = .ok (.goto 4, 3) := by decide +kernel
theorem dX1_readGoing_179 : decode cX1_readGoing 179 = .ok (.iconst 0, 1) := by decide +kernel
theorem dX1_readGoing_180 : decode cX1_readGoing 180 = .ok (.ireturn, 1) := by decide +kernel
theorem dX1_takeNumber_0 : decode cX1_takeNumber 0 = .ok (.aload_n 0, 1) := by decide +kernel
theorem dX1_takeNumber_1 : decode cX1_takeNumber 1 = .ok (.bipush 9, 2) := by decide +kernel
theorem dX1_takeNumber_3 : decode cX1_takeNumber 3 = .ok (.invokevirtual 107, 3) := by decide +kernel
theorem dX1_takeNumber_6 : decode cX1_takeNumber 6 = .ok (.istore_n 1, 1) := by decide +kernel
theorem dX1_takeNumber_7 : decode cX1_takeNumber 7 = .ok (.iload_n 1, 1) := by decide +kernel
theorem dX1_takeNumber_8 : decode cX1_takeNumber 8 = .ok (.ifCond .ge 5, 3) := by decide +kernel
theorem dX1_takeNumber_11 : decode cX1_takeNumber 11 = .ok (.iconst (-1), 1) := by decide +kernel
theorem dX1_takeNumber_12 : decode cX1_takeNumber 12 = .ok (.ireturn, 1) := by decide +kernel
theorem dX1_takeNumber_13 : decode cX1_takeNumber 13 = .ok (.aload_n 0, 1) := by decide +kernel
theorem dX1_takeNumber_14 : decode cX1_takeNumber 14 = .ok (.bipush 63, 2) := by decide +kernel
theorem dX1_takeNumber_16 : decode cX1_takeNumber 16 = .ok (.bipush 10, 2) := by decide +kernel
theorem dX1_takeNumber_18 : decode cX1_takeNumber 18 = .ok (.iload_n 1, 1) := by decide +kernel
theorem dX1_takeNumber_19 : decode cX1_takeNumber 19 = .ok (.imul, 1) := by decide +kernel
theorem dX1_takeNumber_20 : decode cX1_takeNumber 20 = .ok (.isub, 1) := by decide +kernel
theorem dX1_takeNumber_21 : decode cX1_takeNumber 21 = .ok (.invokevirtual 107, 3) := by decide +kernel
theorem dX1_takeNumber_24 : decode cX1_takeNumber 24 = .ok (.istore_n 2, 1) := by decide +kernel
theorem dX1_takeNumber_25 : decode cX1_takeNumber 25 = .ok (.iload_n 2, 1) := by decide +kernel
theorem dX1_takeNumber_26 : decode cX1_takeNumber 26 = .ok (.ifCond .ge 7, 3) := by decide +kernel
theorem dX1_takeNumber_29 : decode cX1_takeNumber 29 = .ok (.iload_n 1, 1) := by decide +kernel
theorem dX1_takeNumber_30 : decode cX1_takeNumber 30 = .ok (.goto 9, 3) := by decide +kernel
theorem dX1_takeNumber_33 : decode cX1_takeNumber 33 = .ok (.bipush 10, 2) := by decide +kernel
theorem dX1_takeNumber_35 : decode cX1_takeNumber 35 = .ok (.iload_n 1, 1) := by decide +kernel
theorem dX1_takeNumber_36 : decode cX1_takeNumber 36 = .ok (.imul, 1) := by decide +kernel
theorem dX1_takeNumber_37 : decode cX1_takeNumber 37 = .ok (.iload_n 2, 1) := by decide +kernel
theorem dX1_takeNumber_38 : decode cX1_takeNumber 38 = .ok (.iadd, 1) := by decide +kernel
theorem dX1_takeNumber_39 : decode cX1_takeNumber 39 = .ok (.ireturn, 1) := by decide +kernel
theorem dX1_takeDigit_0 : decode cX1_takeDigit 0 = .ok (.aload_n 0, 1) := by decide +kernel
theorem dX1_takeDigit_1 : decode cX1_takeDigit 1 = .ok (.getfield 26, 3) := by decide +kernel
theorem dX1_takeDigit_4 : decode cX1_takeDigit 4 = .ok (.aload_n 0, 1) := by decide +kernel
theorem dX1_takeDigit_5 : decode cX1_takeDigit 5 = .ok (.getfield 22, 3) := by decide +kernel
theorem dX1_takeDigit_8 : decode cX1_takeDigit 8 = .ok (.if_icmp .ge 18, 3) := by decide +kernel
theorem dX1_takeDigit_11 : decode cX1_takeDigit 11 = .ok (.aload_n 0, 1) := by decide +kernel
theorem dX1_takeDigit_12 : decode cX1_takeDigit 12 = .ok (.getfield 9, 3) := by decide +kernel
theorem dX1_takeDigit_15 : decode cX1_takeDigit 15 = .ok (.aload_n 0, 1) := by decide +kernel
theorem dX1_takeDigit_16 : decode cX1_takeDigit 16 = .ok (.getfield 26, 3) := by decide +kernel
theorem dX1_takeDigit_19 : decode cX1_takeDigit 19 = .ok (.caload, 1) := by decide +kernel
theorem dX1_takeDigit_20 : decode cX1_takeDigit 20 = .ok (.bipush 48, 2) := by decide +kernel
theorem dX1_takeDigit_22 : decode cX1_takeDigit 22 = .ok (.isub, 1) := by decide +kernel
theorem dX1_takeDigit_23 : decode cX1_takeDigit 23 = .ok (.goto 4, 3) := by decide +kernel
theorem dX1_takeDigit_26 : decode cX1_takeDigit 26 = .ok (.iconst (-1), 1) := by decide +kernel
theorem dX1_takeDigit_27 : decode cX1_takeDigit 27 = .ok (.istore_n 2, 1) := by decide +kernel
theorem dX1_takeDigit_28 : decode cX1_takeDigit 28 = .ok (.iload_n 2, 1) := by decide +kernel
theorem dX1_takeDigit_29 : decode cX1_takeDigit 29 = .ok (.ifCond .lt 14, 3) := by decide +kernel
theorem dX1_takeDigit_32 : decode cX1_takeDigit 32 = .ok (.iload_n 2, 1) := by decide +kernel
theorem dX1_takeDigit_33 : decode cX1_takeDigit 33 = .ok (.bipush 9, 2) := by decide +kernel
theorem dX1_takeDigit_35 : decode cX1_takeDigit 35 = .ok (.if_icmp .gt 8, 3) := by decide +kernel
theorem dX1_takeDigit_38 : decode cX1_takeDigit 38 = .ok (.iload_n 2, 1) := by decide +kernel
theorem dX1_takeDigit_39 : decode cX1_takeDigit 39 = .ok (.iload_n 1, 1) := by decide +kernel
theorem dX1_takeDigit_40 : decode cX1_takeDigit 40 = .ok (.if_icmp .le 5, 3) := by decide +kernel
theorem dX1_takeDigit_43 : decode cX1_takeDigit 43 = .ok (.iconst (-1), 1) := by decide +kernel
theorem dX1_takeDigit_44 : decode cX1_takeDigit 44 = .ok (.ireturn, 1) := by decide +kernel
theorem dX1_takeDigit_45 : decode cX1_takeDigit 45 = .ok (.aload_n 0, 1) := by decide +kernel
theorem dX1_takeDigit_46 : decode cX1_takeDigit 46 = .ok (.dup, 1) := by decide +kernel
theorem dX1_takeDigit_47 : decode cX1_takeDigit 47 = .ok (.getfield 26, 3) := by decide +kernel
theorem dX1_takeDigit_50 : decode cX1_takeDigit 50 = .ok (.iconst 1, 1) := by decide +kernel
theorem dX1_takeDigit_51 : decode cX1_takeDigit 51 = .ok (.iadd, 1) := by decide +kernel
theorem dX1_takeDigit_52 : decode cX1_takeDigit 52 = .ok (.putfield 26, 3) := by decide +kernel
theorem dX1_takeDigit_55 : decode cX1_takeDigit 55 = .ok (.iload_n 2, 1) := by decide +kernel
theorem dX1_takeDigit_56 : decode cX1_takeDigit 56 = .ok (.ireturn, 1) := by decide +kernel
theorem dJ0_indexOf_0 : decode cJ0_indexOf 0 = .ok (.aload_n 0, 1) := by decide +kernel
theorem dJ0_indexOf_1 : decode cJ0_indexOf 1 = .ok (.iload_n 1, 1) := by decide +kernel
theorem dJ0_indexOf_2 : decode cJ0_indexOf 2 = .ok (.iconst 0, 1) := by decide +kernel
theorem dJ0_indexOf_3 : decode cJ0_indexOf 3 = .ok (.invokevirtual 633, 3) := by decide +kernel
theorem dJ0_indexOf_6 : decode cJ0_indexOf 6 = .ok (.ireturn, 1) := by decide +kernel
theorem dJ0_indexOf2_0 : decode cJ0_indexOf2 0 = .ok (.aload_n 0, 1) := by decide +kernel
theorem dJ0_indexOf2_1 : decode cJ0_indexOf2 1 = .ok (.invokevirtual 492, 3) := by decide +kernel
theorem dJ0_indexOf2_4 : decode cJ0_indexOf2 4 = .ok (.ifCond .eq 19, 3) := by decide +kernel
theorem dJ0_indexOf2_7 : decode cJ0_indexOf2 7 = .ok (.aload_n 0, 1) := by decide +kernel
theorem dJ0_indexOf2_8 : decode cJ0_indexOf2 8 = .ok (.getfield 9, 3) := by decide +kernel
theorem dJ0_indexOf2_11 : decode cJ0_indexOf2 11 = .ok (.iload_n 1, 1) := by decide +kernel
theorem dJ0_indexOf2_12 : decode cJ0_indexOf2 12 = .ok (.iload_n 2, 1) := by decide +kernel
theorem dJ0_indexOf2_13 : decode cJ0_indexOf2 13 = .ok (.aload_n 0, 1) := by decide +kernel
theorem dJ0_indexOf2_14 : decode cJ0_indexOf2 14 = .ok (.invokevirtual 505, 3) := by decide +kernel
theorem dJ0_indexOf2_17 : decode cJ0_indexOf2 17 = .ok (.invokestatic 637, 3) := by decide +kernel
theorem dJ0_indexOf2_20 : decode cJ0_indexOf2 20 = .ok (.goto 16, 3) := by decide +kernel
theorem dJ0_indexOf2_23 : decode cJ0_indexOf2 23 = .ok (.aload_n 0, 1) := by decide +kernel
theorem dJ0_indexOf2_24 : decode cJ0_indexOf2 24 = .ok (.getfield 9, 3) := by decide +kernel
theorem dJ0_indexOf2_27 : decode cJ0_indexOf2 27 = .ok (.iload_n 1, 1) := by decide +kernel
theorem dJ0_indexOf2_28 : decode cJ0_indexOf2 28 = .ok (.iload_n 2, 1) := by decide +kernel
theorem dJ0_indexOf2_29 : decode cJ0_indexOf2 29 = .ok (.aload_n 0, 1) := by decide +kernel
theorem dJ0_indexOf2_30 : decode cJ0_indexOf2 30 = .ok (.invokevirtual 505, 3) := by decide +kernel
theorem dJ0_indexOf2_33 : decode cJ0_indexOf2 33 = .ok (.invokestatic 640, 3) := by decide +kernel
theorem dJ0_indexOf2_36 : decode cJ0_indexOf2 36 = .ok (.ireturn, 1) := by decide +kernel
theorem dJ0_isLatin1_0 : decode cJ0_isLatin1 0 = .ok (.getstatic 38, 3) := by decide +kernel
theorem dJ0_isLatin1_3 : decode cJ0_isLatin1 3 = .ok (.ifCond .eq 14, 3) := by decide +kernel
theorem dJ0_isLatin1_6 : decode cJ0_isLatin1 6 = .ok (.aload_n 0, 1) := by decide +kernel
theorem dJ0_isLatin1_7 : decode cJ0_isLatin1 7 = .ok (.getfield 15, 3) := by decide +kernel
theorem dJ0_isLatin1_10 : decode cJ0_isLatin1 10 = .ok (.ifCond .ne 7, 3) := by decide +kernel
theorem dJ0_isLatin1_13 : decode cJ0_isLatin1 13 = .ok (.iconst 1, 1) := by decide +kernel
theorem dJ0_isLatin1_14 : decode cJ0_isLatin1 14 = .ok (.goto 4, 3) := by decide +kernel
theorem dJ0_isLatin1_17 : decode cJ0_isLatin1 17 = .ok (.iconst 0, 1) := by decide +kernel
theorem dJ0_isLatin1_18 : decode cJ0_isLatin1 18 = .ok (.ireturn, 1) := by decide +kernel
theorem dJ1_indexOf_0 : decode cJ1_indexOf 0 = .ok (.iload_n 1, 1) := by decide +kernel
theorem dJ1_indexOf_1 : decode cJ1_indexOf 1 = .ok (.invokestatic 88, 3) := by decide +kernel
theorem dJ1_indexOf_4 : decode cJ1_indexOf 4 = .ok (.ifCond .ne 5, 3) := by decide +kernel
theorem dJ1_indexOf_7 : decode cJ1_indexOf 7 = .ok (.iconst (-1), 1) := by decide +kernel
theorem dJ1_indexOf_8 : decode cJ1_indexOf 8 = .ok (.ireturn, 1) := by decide +kernel
theorem dJ1_indexOf_9 : decode cJ1_indexOf 9 = .ok (.iload_n 2, 1) := by decide +kernel
theorem dJ1_indexOf_10 : decode cJ1_indexOf 10 = .ok (.iconst 0, 1) := by decide +kernel
theorem dJ1_indexOf_11 : decode cJ1_indexOf 11 = .ok (.invokestatic 92, 3) := by decide +kernel
theorem dJ1_indexOf_14 : decode cJ1_indexOf 14 = .ok (.istore_n 2, 1) := by decide +kernel
theorem dJ1_indexOf_15 : decode cJ1_indexOf 15 = .ok (.iload_n 3, 1) := by decide +kernel
theorem dJ1_indexOf_16 : decode cJ1_indexOf 16 = .ok (.aload_n 0, 1) := by decide +kernel
theorem dJ1_indexOf_17 : decode cJ1_indexOf 17 = .ok (.arraylength, 1) := by decide +kernel
theorem dJ1_indexOf_18 : decode cJ1_indexOf 18 = .ok (.invokestatic 38, 3) := by decide +kernel
theorem dJ1_indexOf_21 : decode cJ1_indexOf 21 = .ok (.istore_n 3, 1) := by decide +kernel
theorem dJ1_indexOf_22 : decode cJ1_indexOf 22 = .ok (.iload_n 2, 1) := by decide +kernel
theorem dJ1_indexOf_23 : decode cJ1_indexOf 23 = .ok (.iload_n 3, 1) := by decide +kernel
theorem dJ1_indexOf_24 : decode cJ1_indexOf 24 = .ok (.if_icmp .lt 5, 3) := by decide +kernel
theorem dJ1_indexOf_27 : decode cJ1_indexOf 27 = .ok (.iconst (-1), 1) := by decide +kernel
theorem dJ1_indexOf_28 : decode cJ1_indexOf 28 = .ok (.ireturn, 1) := by decide +kernel
theorem dJ1_indexOf_29 : decode cJ1_indexOf 29 = .ok (.aload_n 0, 1) := by decide +kernel
theorem dJ1_indexOf_30 : decode cJ1_indexOf 30 = .ok (.iload_n 1, 1) := by decide +kernel
theorem dJ1_indexOf_31 : decode cJ1_indexOf 31 = .ok (.iload_n 2, 1) := by decide +kernel
theorem dJ1_indexOf_32 : decode cJ1_indexOf 32 = .ok (.iload_n 3, 1) := by decide +kernel
theorem dJ1_indexOf_33 : decode cJ1_indexOf 33 = .ok (.invokestatic 95, 3) := by decide +kernel
theorem dJ1_indexOf_36 : decode cJ1_indexOf 36 = .ok (.ireturn, 1) := by decide +kernel
theorem dJ1_canEncode_0 : decode cJ1_canEncode 0 = .ok (.iload_n 0, 1) := by decide +kernel
theorem dJ1_canEncode_1 : decode cJ1_canEncode 1 = .ok (.ifCond .lt 14, 3) := by decide +kernel
theorem dJ1_canEncode_4 : decode cJ1_canEncode 4 = .ok (.iload_n 0, 1) := by decide +kernel
theorem dJ1_canEncode_5 : decode cJ1_canEncode 5 = .ok (.sipush 255, 3) := by decide +kernel
theorem dJ1_canEncode_8 : decode cJ1_canEncode 8 = .ok (.if_icmp .gt 7, 3) := by decide +kernel
theorem dJ1_canEncode_11 : decode cJ1_canEncode 11 = .ok (.iconst 1, 1) := by decide +kernel
theorem dJ1_canEncode_12 : decode cJ1_canEncode 12 = .ok (.goto 4, 3) := by decide +kernel
theorem dJ1_canEncode_15 : decode cJ1_canEncode 15 = .ok (.iconst 0, 1) := by decide +kernel
theorem dJ1_canEncode_16 : decode cJ1_canEncode 16 = .ok (.ireturn, 1) := by decide +kernel
theorem dJ1_indexOfChar_0 : decode cJ1_indexOfChar 0 = .ok (.iload_n 1, 1) := by decide +kernel
theorem dJ1_indexOfChar_1 : decode cJ1_indexOfChar 1 = .ok (.i2b, 1) := by decide +kernel
theorem dJ1_indexOfChar_2 : decode cJ1_indexOfChar 2 = .ok (.istore 4, 2) := by decide +kernel
theorem dJ1_indexOfChar_4 : decode cJ1_indexOfChar 4 = .ok (.iload_n 2, 1) := by decide +kernel
theorem dJ1_indexOfChar_5 : decode cJ1_indexOfChar 5 = .ok (.istore 5, 2) := by decide +kernel
theorem dJ1_indexOfChar_7 : decode cJ1_indexOfChar 7 = .ok (.iload 5, 2) := by decide +kernel
theorem dJ1_indexOfChar_9 : decode cJ1_indexOfChar 9 = .ok (.iload_n 3, 1) := by decide +kernel
theorem dJ1_indexOfChar_10 : decode cJ1_indexOfChar 10 = .ok (.if_icmp .ge 21, 3) := by decide +kernel
theorem dJ1_indexOfChar_13 : decode cJ1_indexOfChar 13 = .ok (.aload_n 0, 1) := by decide +kernel
theorem dJ1_indexOfChar_14 : decode cJ1_indexOfChar 14 = .ok (.iload 5, 2) := by decide +kernel
theorem dJ1_indexOfChar_16 : decode cJ1_indexOfChar 16 = .ok (.baload, 1) := by decide +kernel
theorem dJ1_indexOfChar_17 : decode cJ1_indexOfChar 17 = .ok (.iload 4, 2) := by decide +kernel
theorem dJ1_indexOfChar_19 : decode cJ1_indexOfChar 19 = .ok (.if_icmp .ne 6, 3) := by decide +kernel
theorem dJ1_indexOfChar_22 : decode cJ1_indexOfChar 22 = .ok (.iload 5, 2) := by decide +kernel
theorem dJ1_indexOfChar_24 : decode cJ1_indexOfChar 24 = .ok (.ireturn, 1) := by decide +kernel
theorem dJ1_indexOfChar_25 : decode cJ1_indexOfChar 25 = .ok (.iinc 5 1, 3) := by decide +kernel
theorem dJ1_indexOfChar_28 : decode cJ1_indexOfChar 28 = .ok (.goto (-21), 3) := by decide +kernel
theorem dJ1_indexOfChar_31 : decode cJ1_indexOfChar 31 = .ok (.iconst (-1), 1) := by decide +kernel
theorem dJ1_indexOfChar_32 : decode cJ1_indexOfChar 32 = .ok (.ireturn, 1) := by decide +kernel
end
section
theorem dX2_init_0 : decode cX2_init 0 = .ok (.aload_n 0, 1) := by decide +kernel
theorem dX2_init_1 : decode cX2_init 1 = .ok (.invokespecial 1, 3) := by decide +kernel
theorem dX2_init_4 : decode cX2_init 4 = .ok (.aload_n 0, 1) := by decide +kernel
theorem dX2_init_5 : decode cX2_init 5 = .ok (.new 7, 3) := by decide +kernel
theorem dX2_init_8 : decode cX2_init 8 = .ok (.dup, 1) := by decide +kernel
theorem dX2_init_9 : decode cX2_init 9 = .ok (.invokespecial 9, 3) := by decide +kernel
theorem dX2_init_12 : decode cX2_init 12 = .ok (.putfield 10, 3) := by decide +kernel
theorem dX2_init_15 : decode cX2_init 15 = .ok (.aload_n 0, 1) := by decide +kernel
theorem dX2_init_16 : decode cX2_init 16 = .ok (.iconst (-1), 1) := by decide +kernel
theorem dX2_init_17 : decode cX2_init 17 = .ok (.putfield 16, 3) := by decide +kernel
theorem dX2_init_20 : decode cX2_init 20 = .ok (.aload_n 0, 1) := by decide +kernel
theorem dX2_init_21 : decode cX2_init 21 = .ok (.bipush 64, 2) := by decide +kernel
theorem dX2_init_23 : decode cX2_init 23 = .ok (.anewarray 20, 3) := by decide +kernel
theorem dX2_init_26 : decode cX2_init 26 = .ok (.putfield 22, 3) := by decide +kernel
theorem dX2_init_29 : decode cX2_init 29 = .ok (.aload_n 0, 1) := by decide +kernel
theorem dX2_init_30 : decode cX2_init 30 = .ok (.bipush 10, 2) := by decide +kernel
theorem dX2_init_32 : decode cX2_init 32 = .ok (.newarray .int, 2) := by decide +kernel
theorem dX2_init_34 : decode cX2_init 34 = .ok (.putfield 26, 3) := by decide +kernel
theorem dX2_init_37 : decode cX2_init 37 = .ok (.aload_n 0, 1) := by decide +kernel
theorem dX2_init_38 : decode cX2_init 38 = .ok (.bipush 64, 2) := by decide +kernel
theorem dX2_init_40 : decode cX2_init 40 = .ok (.newarray .int, 2) := by decide +kernel
theorem dX2_init_42 : decode cX2_init 42 = .ok (.putfield 30, 3) := by decide +kernel
theorem dX2_init_45 : decode cX2_init 45 = .ok (.aload_n 0, 1) := by decide +kernel
theorem dX2_init_46 : decode cX2_init 46 = .ok (.bipush 64, 2) := by decide +kernel
theorem dX2_init_48 : decode cX2_init 48 = .ok (.newarray .int, 2) := by decide +kernel
theorem dX2_init_50 : decode cX2_init 50 = .ok (.putfield 33, 3) := by decide +kernel
theorem dX2_init_53 : decode cX2_init 53 = .ok (.return_, 1) := by decide +kernel
theorem dX2_count_0 : decode cX2_count 0 = .ok (.iload_n 1, 1) := by decide +kernel
theorem dX2_count_1 : decode cX2_count 1 = .ok (.tableswitch 124 0 9 #[55, 60, 68, 73, 78, 83, 96, 109, 114, 119], 55) := by decide +kernel
theorem dX2_count_56 : decode cX2_count 56 = .ok (.aload_n 0, 1) := by decide +kernel
theorem dX2_count_57 : decode cX2_count 57 = .ok (.getfield 16, 3) := by decide +kernel
theorem dX2_count_60 : decode cX2_count 60 = .ok (.ireturn, 1) := by decide +kernel
theorem dX2_count_61 : decode cX2_count 61 = .ok (.aload_n 0, 1) := by decide +kernel
theorem dX2_count_62 : decode cX2_count 62 = .ok (.getfield 10, 3) := by decide +kernel
theorem dX2_count_65 : decode cX2_count 65 = .ok (.getfield 43, 3) := by decide +kernel
theorem dX2_count_68 : decode cX2_count 68 = .ok (.ireturn, 1) := by decide +kernel
theorem dX2_count_69 : decode cX2_count 69 = .ok (.aload_n 0, 1) := by decide +kernel
theorem dX2_count_70 : decode cX2_count 70 = .ok (.getfield 64, 3) := by decide +kernel
theorem dX2_count_73 : decode cX2_count 73 = .ok (.ireturn, 1) := by decide +kernel
theorem dX2_count_74 : decode cX2_count 74 = .ok (.aload_n 0, 1) := by decide +kernel
theorem dX2_count_75 : decode cX2_count 75 = .ok (.getfield 73, 3) := by decide +kernel
theorem dX2_count_78 : decode cX2_count 78 = .ok (.ireturn, 1) := by decide +kernel
theorem dX2_count_79 : decode cX2_count 79 = .ok (.aload_n 0, 1) := by decide +kernel
theorem dX2_count_80 : decode cX2_count 80 = .ok (.getfield 108, 3) := by decide +kernel
theorem dX2_count_83 : decode cX2_count 83 = .ok (.ireturn, 1) := by decide +kernel
theorem dX2_count_84 : decode cX2_count 84 = .ok (.aload_n 0, 1) := by decide +kernel
theorem dX2_count_85 : decode cX2_count 85 = .ok (.getfield 76, 3) := by decide +kernel
theorem dX2_count_88 : decode cX2_count 88 = .ok (.ifCond .eq 7, 3) := by decide +kernel
theorem dX2_count_91 : decode cX2_count 91 = .ok (.iconst 1, 1) := by decide +kernel
theorem dX2_count_92 : decode cX2_count 92 = .ok (.goto 4, 3) := by decide +kernel
theorem dX2_count_95 : decode cX2_count 95 = .ok (.iconst 0, 1) := by decide +kernel
theorem dX2_count_96 : decode cX2_count 96 = .ok (.ireturn, 1) := by decide +kernel
theorem dX2_count_97 : decode cX2_count 97 = .ok (.aload_n 0, 1) := by decide +kernel
theorem dX2_count_98 : decode cX2_count 98 = .ok (.getfield 80, 3) := by decide +kernel
theorem dX2_count_101 : decode cX2_count 101 = .ok (.ifCond .eq 7, 3) := by decide +kernel
theorem dX2_count_104 : decode cX2_count 104 = .ok (.iconst 1, 1) := by decide +kernel
theorem dX2_count_105 : decode cX2_count 105 = .ok (.goto 4, 3) := by decide +kernel
theorem dX2_count_108 : decode cX2_count 108 = .ok (.iconst 0, 1) := by decide +kernel
theorem dX2_count_109 : decode cX2_count 109 = .ok (.ireturn, 1) := by decide +kernel
theorem dX2_count_110 : decode cX2_count 110 = .ok (.aload_n 0, 1) := by decide +kernel
theorem dX2_count_111 : decode cX2_count 111 = .ok (.getfield 111, 3) := by decide +kernel
theorem dX2_count_114 : decode cX2_count 114 = .ok (.ireturn, 1) := by decide +kernel
theorem dX2_count_115 : decode cX2_count 115 = .ok (.aload_n 0, 1) := by decide +kernel
theorem dX2_count_116 : decode cX2_count 116 = .ok (.getfield 114, 3) := by decide +kernel
theorem dX2_count_119 : decode cX2_count 119 = .ok (.ireturn, 1) := by decide +kernel
theorem dX2_count_120 : decode cX2_count 120 = .ok (.aload_n 0, 1) := by decide +kernel
theorem dX2_count_121 : decode cX2_count 121 = .ok (.getfield 117, 3) := by decide +kernel
theorem dX2_count_124 : decode cX2_count 124 = .ok (.ireturn, 1) := by decide +kernel
theorem dX2_count_125 : decode cX2_count 125 = .ok (.iconst (-1), 1) := by decide +kernel
theorem dX2_count_126 : decode cX2_count 126 = .ok (.ireturn, 1) := by decide +kernel
theorem dX2_type_0 : decode cX2_type 0 = .ok (.iconst 0, 1) := by decide +kernel
theorem dX2_type_1 : decode cX2_type 1 = .ok (.istore_n 3, 1) := by decide +kernel
theorem dX2_type_2 : decode cX2_type 2 = .ok (.bipush 56, 2) := by decide +kernel
theorem dX2_type_4 : decode cX2_type 4 = .ok (.istore 4, 2) := by decide +kernel
theorem dX2_type_6 : decode cX2_type 6 = .ok (.iload 4, 2) := by decide +kernel
theorem dX2_type_8 : decode cX2_type 8 = .ok (.ifCond .lt 57, 3) := by decide +kernel
theorem dX2_type_11 : decode cX2_type 11 = .ok (.lload_n 1, 1) := by decide +kernel
theorem dX2_type_12 : decode cX2_type 12 = .ok (.iload 4, 2) := by decide +kernel
theorem dX2_type_14 : decode cX2_type 14 = .ok (.invokestatic 36, 3) := by decide +kernel
theorem dX2_type_17 : decode cX2_type 17 = .ok (.istore 5, 2) := by decide +kernel
theorem dX2_type_19 : decode cX2_type 19 = .ok (.iload 5, 2) := by decide +kernel
theorem dX2_type_21 : decode cX2_type 21 = .ok (.ifCond .eq 25, 3) := by decide +kernel
theorem dX2_type_24 : decode cX2_type 24 = .ok (.iload 5, 2) := by decide +kernel
theorem dX2_type_26 : decode cX2_type 26 = .ok (.bipush 33, 2) := by decide +kernel
theorem dX2_type_28 : decode cX2_type 28 = .ok (.if_icmp .lt 10, 3) := by decide +kernel
theorem dX2_type_31 : decode cX2_type 31 = .ok (.iload 5, 2) := by decide +kernel
theorem dX2_type_33 : decode cX2_type 33 = .ok (.bipush 126, 2) := by decide +kernel
theorem dX2_type_35 : decode cX2_type 35 = .ok (.if_icmp .le 11, 3) := by decide +kernel
theorem dX2_type_38 : decode cX2_type 38 = .ok (.new 40, 3) := by decide +kernel
theorem dX2_type_41 : decode cX2_type 41 = .ok (.dup, 1) := by decide +kernel
theorem dX2_type_42 : decode cX2_type 42 = .ok (.invokespecial 42, 3) := by decide +kernel
theorem dX2_type_45 : decode cX2_type 45 = .ok (.athrow, 1) := by decide +kernel
theorem dX2_type_46 : decode cX2_type 46 = .ok (.iload_n 3, 1) := by decide +kernel
theorem dX2_type_47 : decode cX2_type 47 = .ok (.iload 5, 2) := by decide +kernel
theorem dX2_type_49 : decode cX2_type 49 = .ok (.ifCond .eq 7, 3) := by decide +kernel
theorem dX2_type_52 : decode cX2_type 52 = .ok (.iconst 1, 1) := by decide +kernel
theorem dX2_type_53 : decode cX2_type 53 = .ok (.goto 4, 3) := by decide +kernel
theorem dX2_type_56 : decode cX2_type 56 = .ok (.iconst 0, 1) := by decide +kernel
theorem dX2_type_57 : decode cX2_type 57 = .ok (.iadd, 1) := by decide +kernel
theorem dX2_type_58 : decode cX2_type 58 = .ok (.istore_n 3, 1) := by decide +kernel
theorem dX2_type_59 : decode cX2_type 59 = .ok (.iinc 4 (-8), 3) := by decide +kernel
theorem dX2_type_62 : decode cX2_type 62 = .ok (.goto (-56), 3) := by decide +kernel
theorem dX2_type_65 : decode cX2_type 65 = .ok (.aload_n 0, 1) := by decide +kernel
theorem dX2_type_66 : decode cX2_type 66 = .ok (.getfield 10, 3) := by decide +kernel
theorem dX2_type_69 : decode cX2_type 69 = .ok (.getfield 43, 3) := by decide +kernel
theorem dX2_type_72 : decode cX2_type 72 = .ok (.iload_n 3, 1) := by decide +kernel
theorem dX2_type_73 : decode cX2_type 73 = .ok (.iadd, 1) := by decide +kernel
theorem dX2_type_74 : decode cX2_type 74 = .ok (.bipush 40, 2) := by decide +kernel
theorem dX2_type_76 : decode cX2_type 76 = .ok (.if_icmp .le 11, 3) := by decide +kernel
theorem dX2_type_79 : decode cX2_type 79 = .ok (.new 46, 3) := by decide +kernel
theorem dX2_type_82 : decode cX2_type 82 = .ok (.dup, 1) := by decide +kernel
theorem dX2_type_83 : decode cX2_type 83 = .ok (.invokespecial 48, 3) := by decide +kernel
theorem dX2_type_86 : decode cX2_type 86 = .ok (.athrow, 1) := by decide +kernel
theorem dX2_type_87 : decode cX2_type 87 = .ok (.bipush 56, 2) := by decide +kernel
theorem dX2_type_89 : decode cX2_type 89 = .ok (.istore 4, 2) := by decide +kernel
theorem dX2_type_91 : decode cX2_type 91 = .ok (.iload 4, 2) := by decide +kernel
theorem dX2_type_93 : decode cX2_type 93 = .ok (.ifCond .lt 32, 3) := by decide +kernel
theorem dX2_type_96 : decode cX2_type 96 = .ok (.lload_n 1, 1) := by decide +kernel
theorem dX2_type_97 : decode cX2_type 97 = .ok (.iload 4, 2) := by decide +kernel
theorem dX2_type_99 : decode cX2_type 99 = .ok (.invokestatic 36, 3) := by decide +kernel
theorem dX2_type_102 : decode cX2_type 102 = .ok (.istore 5, 2) := by decide +kernel
theorem dX2_type_104 : decode cX2_type 104 = .ok (.iload 5, 2) := by decide +kernel
theorem dX2_type_106 : decode cX2_type 106 = .ok (.ifCond .eq 13, 3) := by decide +kernel
theorem dX2_type_109 : decode cX2_type 109 = .ok (.aload_n 0, 1) := by decide +kernel
theorem dX2_type_110 : decode cX2_type 110 = .ok (.getfield 10, 3) := by decide +kernel
theorem dX2_type_113 : decode cX2_type 113 = .ok (.iload 5, 2) := by decide +kernel
theorem dX2_type_115 : decode cX2_type 115 = .ok (.i2c, 1) := by decide +kernel
theorem dX2_type_116 : decode cX2_type 116 = .ok (.invokevirtual 49, 3) := by decide +kernel
theorem dX2_type_119 : decode cX2_type 119 = .ok (.iinc 4 (-8), 3) := by decide +kernel
theorem dX2_type_122 : decode cX2_type 122 = .ok (.goto (-31), 3) := by decide +kernel
theorem dX2_type_125 : decode cX2_type 125 = .ok (.aload_n 0, 1) := by decide +kernel
theorem dX2_type_126 : decode cX2_type 126 = .ok (.getfield 10, 3) := by decide +kernel
theorem dX2_type_129 : decode cX2_type 129 = .ok (.getfield 43, 3) := by decide +kernel
theorem dX2_type_132 : decode cX2_type 132 = .ok (.ireturn, 1) := by decide +kernel
theorem dX2_byteOf_0 : decode cX2_byteOf 0 = .ok (.lload_n 0, 1) := by decide +kernel
theorem dX2_byteOf_1 : decode cX2_byteOf 1 = .ok (.iload_n 2, 1) := by decide +kernel
theorem dX2_byteOf_2 : decode cX2_byteOf 2 = .ok (.lushr, 1) := by decide +kernel
theorem dX2_byteOf_3 : decode cX2_byteOf 3 = .ok (.l2i, 1) := by decide +kernel
theorem dX2_byteOf_4 : decode cX2_byteOf 4 = .ok (.sipush 255, 3) := by decide +kernel
theorem dX2_byteOf_7 : decode cX2_byteOf 7 = .ok (.iand, 1) := by decide +kernel
theorem dX2_byteOf_8 : decode cX2_byteOf 8 = .ok (.ireturn, 1) := by decide +kernel
theorem dX2_word_0 : decode cX2_word 0 = .ok (.iload_n 1, 1) := by decide +kernel
theorem dX2_word_1 : decode cX2_word 1 = .ok (.bipush 64, 2) := by decide +kernel
theorem dX2_word_3 : decode cX2_word 3 = .ok (.invokestatic 53, 3) := by decide +kernel
theorem dX2_word_6 : decode cX2_word 6 = .ok (.aload_n 0, 1) := by decide +kernel
theorem dX2_word_7 : decode cX2_word 7 = .ok (.getfield 10, 3) := by decide +kernel
theorem dX2_word_10 : decode cX2_word 10 = .ok (.invokevirtual 57, 3) := by decide +kernel
theorem dX2_word_13 : decode cX2_word 13 = .ok (.astore_n 2, 1) := by decide +kernel
theorem dX2_word_14 : decode cX2_word 14 = .ok (.aload_n 0, 1) := by decide +kernel
theorem dX2_word_15 : decode cX2_word 15 = .ok (.getfield 10, 3) := by decide +kernel
theorem dX2_word_18 : decode cX2_word 18 = .ok (.iconst 0, 1) := by decide +kernel
theorem dX2_word_19 : decode cX2_word 19 = .ok (.putfield 43, 3) := by decide +kernel
theorem dX2_word_22 : decode cX2_word 22 = .ok (.aload_n 2, 1) := by decide +kernel
theorem dX2_word_23 : decode cX2_word 23 = .ok (.ifnonnull 22, 3) := by decide +kernel
theorem dX2_word_26 : decode cX2_word 26 = .ok (.aload_n 0, 1) := by decide +kernel
theorem dX2_word_27 : decode cX2_word 27 = .ok (.aload_n 0, 1) := by decide +kernel
theorem dX2_word_28 : decode cX2_word 28 = .ok (.getfield 10, 3) := by decide +kernel
theorem dX2_word_31 : decode cX2_word 31 = .ok (.getfield 61, 3) := by decide +kernel
theorem dX2_word_34 : decode cX2_word 34 = .ok (.putfield 16, 3) := by decide +kernel
theorem dX2_word_37 : decode cX2_word 37 = .ok (.new 40, 3) := by decide +kernel
theorem dX2_word_40 : decode cX2_word 40 = .ok (.dup, 1) := by decide +kernel
theorem dX2_word_41 : decode cX2_word 41 = .ok (.invokespecial 42, 3) := by decide +kernel
theorem dX2_word_44 : decode cX2_word 44 = .ok (.athrow, 1) := by decide +kernel
theorem dX2_word_45 : decode cX2_word 45 = .ok (.aload_n 0, 1) := by decide +kernel
theorem dX2_word_46 : decode cX2_word 46 = .ok (.getfield 22, 3) := by decide +kernel
theorem dX2_word_49 : decode cX2_word 49 = .ok (.iload_n 1, 1) := by decide +kernel
theorem dX2_word_50 : decode cX2_word 50 = .ok (.aaload, 1) := by decide +kernel
theorem dX2_word_51 : decode cX2_word 51 = .ok (.ifnonnull 13, 3) := by decide +kernel
theorem dX2_word_54 : decode cX2_word 54 = .ok (.aload_n 0, 1) := by decide +kernel
theorem dX2_word_55 : decode cX2_word 55 = .ok (.dup, 1) := by decide +kernel
theorem dX2_word_56 : decode cX2_word 56 = .ok (.getfield 64, 3) := by decide +kernel
theorem dX2_word_59 : decode cX2_word 59 = .ok (.iconst 1, 1) := by decide +kernel
theorem dX2_word_60 : decode cX2_word 60 = .ok (.iadd, 1) := by decide +kernel
theorem dX2_word_61 : decode cX2_word 61 = .ok (.putfield 64, 3) := by decide +kernel
theorem dX2_word_64 : decode cX2_word 64 = .ok (.aload_n 0, 1) := by decide +kernel
theorem dX2_word_65 : decode cX2_word 65 = .ok (.getfield 22, 3) := by decide +kernel
theorem dX2_word_68 : decode cX2_word 68 = .ok (.iload_n 1, 1) := by decide +kernel
theorem dX2_word_69 : decode cX2_word 69 = .ok (.aload_n 2, 1) := by decide +kernel
theorem dX2_word_70 : decode cX2_word 70 = .ok (.aastore, 1) := by decide +kernel
theorem dX2_word_71 : decode cX2_word 71 = .ok (.aload_n 2, 1) := by decide +kernel
theorem dX2_word_72 : decode cX2_word 72 = .ok (.getfield 67, 3) := by decide +kernel
theorem dX2_word_75 : decode cX2_word 75 = .ok (.ireturn, 1) := by decide +kernel
theorem dX2_refuseOutside_0 : decode cX2_refuseOutside 0 = .ok (.iload_n 0, 1) := by decide +kernel
theorem dX2_refuseOutside_1 : decode cX2_refuseOutside 1 = .ok (.iload_n 1, 1) := by decide +kernel
theorem dX2_refuseOutside_2 : decode cX2_refuseOutside 2 = .ok (.invokestatic 120, 3) := by decide +kernel
theorem dX2_refuseOutside_5 : decode cX2_refuseOutside 5 = .ok (.ifCond .eq 11, 3) := by decide +kernel
theorem dX2_refuseOutside_8 : decode cX2_refuseOutside 8 = .ok (.new 40, 3) := by decide +kernel
theorem dX2_refuseOutside_11 : decode cX2_refuseOutside 11 = .ok (.dup, 1) := by decide +kernel
theorem dX2_refuseOutside_12 : decode cX2_refuseOutside 12 = .ok (.invokespecial 42, 3) := by decide +kernel
theorem dX2_refuseOutside_15 : decode cX2_refuseOutside 15 = .ok (.athrow, 1) := by decide +kernel
theorem dX2_refuseOutside_16 : decode cX2_refuseOutside 16 = .ok (.return_, 1) := by decide +kernel
theorem dX2_isOutside_0 : decode cX2_isOutside 0 = .ok (.iload_n 0, 1) := by decide +kernel
theorem dX2_isOutside_1 : decode cX2_isOutside 1 = .ok (.ifCond .lt 8, 3) := by decide +kernel
theorem dX2_isOutside_4 : decode cX2_isOutside 4 = .ok (.iload_n 0, 1) := by decide +kernel
theorem dX2_isOutside_5 : decode cX2_isOutside 5 = .ok (.iload_n 1, 1) := by decide +kernel
theorem dX2_isOutside_6 : decode cX2_isOutside 6 = .ok (.if_icmp .lt 7, 3) := by decide +kernel
theorem dX2_isOutside_9 : decode cX2_isOutside 9 = .ok (.iconst 1, 1) := by decide +kernel
theorem dX2_isOutside_10 : decode cX2_isOutside 10 = .ok (.goto 4, 3) := by decide +kernel
theorem dX2_isOutside_13 : decode cX2_isOutside 13 = .ok (.iconst 0, 1) := by decide +kernel
theorem dX2_isOutside_14 : decode cX2_isOutside 14 = .ok (.ireturn, 1) := by decide +kernel
theorem dX2_erase_0 : decode cX2_erase 0 = .ok (.iload_n 1, 1) := by decide +kernel
theorem dX2_erase_1 : decode cX2_erase 1 = .ok (.bipush 64, 2) := by decide +kernel
theorem dX2_erase_3 : decode cX2_erase 3 = .ok (.invokestatic 53, 3) := by decide +kernel
theorem dX2_erase_6 : decode cX2_erase 6 = .ok (.aload_n 0, 1) := by decide +kernel
theorem dX2_erase_7 : decode cX2_erase 7 = .ok (.getfield 22, 3) := by decide +kernel
theorem dX2_erase_10 : decode cX2_erase 10 = .ok (.iload_n 1, 1) := by decide +kernel
theorem dX2_erase_11 : decode cX2_erase 11 = .ok (.aaload, 1) := by decide +kernel
theorem dX2_erase_12 : decode cX2_erase 12 = .ok (.ifnonnull 11, 3) := by decide +kernel
theorem dX2_erase_15 : decode cX2_erase 15 = .ok (.new 70, 3) := by decide +kernel
theorem dX2_erase_18 : decode cX2_erase 18 = .ok (.dup, 1) := by decide +kernel
theorem dX2_erase_19 : decode cX2_erase 19 = .ok (.invokespecial 72, 3) := by decide +kernel
theorem dX2_erase_22 : decode cX2_erase 22 = .ok (.athrow, 1) := by decide +kernel
theorem dX2_erase_23 : decode cX2_erase 23 = .ok (.aload_n 0, 1) := by decide +kernel
theorem dX2_erase_24 : decode cX2_erase 24 = .ok (.getfield 22, 3) := by decide +kernel
theorem dX2_erase_27 : decode cX2_erase 27 = .ok (.iload_n 1, 1) := by decide +kernel
theorem dX2_erase_28 : decode cX2_erase 28 = .ok (.aconst_null, 1) := by decide +kernel
theorem dX2_erase_29 : decode cX2_erase 29 = .ok (.aastore, 1) := by decide +kernel
theorem dX2_erase_30 : decode cX2_erase 30 = .ok (.aload_n 0, 1) := by decide +kernel
theorem dX2_erase_31 : decode cX2_erase 31 = .ok (.dup, 1) := by decide +kernel
theorem dX2_erase_32 : decode cX2_erase 32 = .ok (.getfield 64, 3) := by decide +kernel
theorem dX2_erase_35 : decode cX2_erase 35 = .ok (.iconst 1, 1) := by decide +kernel
theorem dX2_erase_36 : decode cX2_erase 36 = .ok (.isub, 1) := by decide +kernel
theorem dX2_erase_37 : decode cX2_erase 37 = .ok (.putfield 64, 3) := by decide +kernel
theorem dX2_erase_40 : decode cX2_erase 40 = .ok (.return_, 1) := by decide +kernel
theorem dX2_begin_0 : decode cX2_begin 0 = .ok (.iload_n 1, 1) := by decide +kernel
theorem dX2_begin_1 : decode cX2_begin 1 = .ok (.bipush 64, 2) := by decide +kernel
theorem dX2_begin_3 : decode cX2_begin 3 = .ok (.invokestatic 53, 3) := by decide +kernel
theorem dX2_begin_6 : decode cX2_begin 6 = .ok (.aload_n 0, 1) := by decide +kernel
theorem dX2_begin_7 : decode cX2_begin 7 = .ok (.iload_n 1, 1) := by decide +kernel
theorem dX2_begin_8 : decode cX2_begin 8 = .ok (.putfield 73, 3) := by decide +kernel
theorem dX2_begin_11 : decode cX2_begin 11 = .ok (.aload_n 0, 1) := by decide +kernel
theorem dX2_begin_12 : decode cX2_begin 12 = .ok (.iconst 0, 1) := by decide +kernel
theorem dX2_begin_13 : decode cX2_begin 13 = .ok (.putfield 76, 3) := by decide +kernel
theorem dX2_begin_16 : decode cX2_begin 16 = .ok (.aload_n 0, 1) := by decide +kernel
theorem dX2_begin_17 : decode cX2_begin 17 = .ok (.iconst 0, 1) := by decide +kernel
theorem dX2_begin_18 : decode cX2_begin 18 = .ok (.putfield 80, 3) := by decide +kernel
theorem dX2_begin_21 : decode cX2_begin 21 = .ok (.return_, 1) := by decide +kernel
theorem dX2_run_0 : decode cX2_run 0 = .ok (.iload_n 1, 1) := by decide +kernel
theorem dX2_run_1 : decode cX2_run 1 = .ok (.iconst 1, 1) := by decide +kernel
theorem dX2_run_2 : decode cX2_run 2 = .ok (.if_icmp .lt 10, 3) := by decide +kernel
theorem dX2_run_5 : decode cX2_run 5 = .ok (.iload_n 1, 1) := by decide +kernel
theorem dX2_run_6 : decode cX2_run 6 = .ok (.sipush 500, 3) := by decide +kernel
theorem dX2_run_9 : decode cX2_run 9 = .ok (.if_icmp .le 11, 3) := by decide +kernel
theorem dX2_run_12 : decode cX2_run 12 = .ok (.new 40, 3) := by decide +kernel
theorem dX2_run_15 : decode cX2_run 15 = .ok (.dup, 1) := by decide +kernel
theorem dX2_run_16 : decode cX2_run 16 = .ok (.invokespecial 42, 3) := by decide +kernel
theorem dX2_run_19 : decode cX2_run 19 = .ok (.athrow, 1) := by decide +kernel
theorem dX2_run_20 : decode cX2_run 20 = .ok (.iconst 0, 1) := by decide +kernel
theorem dX2_run_21 : decode cX2_run 21 = .ok (.istore_n 2, 1) := by decide +kernel
theorem dX2_run_22 : decode cX2_run 22 = .ok (.iload_n 2, 1) := by decide +kernel
theorem dX2_run_23 : decode cX2_run 23 = .ok (.iload_n 1, 1) := by decide +kernel
theorem dX2_run_24 : decode cX2_run 24 = .ok (.if_icmp .ge 36, 3) := by decide +kernel
theorem dX2_run_27 : decode cX2_run 27 = .ok (.aload_n 0, 1) := by decide +kernel
theorem dX2_run_28 : decode cX2_run 28 = .ok (.getfield 22, 3) := by decide +kernel
theorem dX2_run_31 : decode cX2_run 31 = .ok (.aload_n 0, 1) := by decide +kernel
theorem dX2_run_32 : decode cX2_run 32 = .ok (.getfield 73, 3) := by decide +kernel
theorem dX2_run_35 : decode cX2_run 35 = .ok (.aaload, 1) := by decide +kernel
theorem dX2_run_36 : decode cX2_run 36 = .ok (.astore_n 3, 1) := by decide +kernel
theorem dX2_run_37 : decode cX2_run 37 = .ok (.aload_n 3, 1) := by decide +kernel
theorem dX2_run_38 : decode cX2_run 38 = .ok (.ifnonnull 11, 3) := by decide +kernel
theorem dX2_run_41 : decode cX2_run 41 = .ok (.new 70, 3) := by decide +kernel
theorem dX2_run_44 : decode cX2_run 44 = .ok (.dup, 1) := by decide +kernel
theorem dX2_run_45 : decode cX2_run 45 = .ok (.invokespecial 72, 3) := by decide +kernel
theorem dX2_run_48 : decode cX2_run 48 = .ok (.athrow, 1) := by decide +kernel
theorem dX2_run_49 : decode cX2_run 49 = .ok (.aload_n 0, 1) := by decide +kernel
theorem dX2_run_50 : decode cX2_run 50 = .ok (.aload_n 3, 1) := by decide +kernel
theorem dX2_run_51 : decode cX2_run 51 = .ok (.invokevirtual 83, 3) := by decide +kernel
theorem dX2_run_54 : decode cX2_run 54 = .ok (.iinc 2 1, 3) := by decide +kernel
theorem dX2_run_57 : decode cX2_run 57 = .ok (.goto (-35), 3) := by decide +kernel
theorem dX2_run_60 : decode cX2_run 60 = .ok (.aload_n 0, 1) := by decide +kernel
theorem dX2_run_61 : decode cX2_run 61 = .ok (.getfield 73, 3) := by decide +kernel
theorem dX2_run_64 : decode cX2_run 64 = .ok (.ireturn, 1) := by decide +kernel
theorem dX2_doCycle_0 : decode cX2_doCycle 0 = .ok (.aload_n 0, 1) := by decide +kernel
theorem dX2_doCycle_1 : decode cX2_doCycle 1 = .ok (.aload_n 1, 1) := by decide +kernel
theorem dX2_doCycle_2 : decode cX2_doCycle 2 = .ok (.invokevirtual 124, 3) := by decide +kernel
theorem dX2_doCycle_5 : decode cX2_doCycle 5 = .ok (.istore_n 2, 1) := by decide +kernel
theorem dX2_doCycle_6 : decode cX2_doCycle 6 = .ok (.aload_n 1, 1) := by decide +kernel
theorem dX2_doCycle_7 : decode cX2_doCycle 7 = .ok (.getfield 105, 3) := by decide +kernel
theorem dX2_doCycle_10 : decode cX2_doCycle 10 = .ok (.iload_n 2, 1) := by decide +kernel
theorem dX2_doCycle_11 : decode cX2_doCycle 11 = .ok (.invokestatic 128, 3) := by decide +kernel
theorem dX2_doCycle_14 : decode cX2_doCycle 14 = .ok (.istore_n 3, 1) := by decide +kernel
theorem dX2_doCycle_15 : decode cX2_doCycle 15 = .ok (.aload_n 1, 1) := by decide +kernel
theorem dX2_doCycle_16 : decode cX2_doCycle 16 = .ok (.iconst 0, 1) := by decide +kernel
theorem dX2_doCycle_17 : decode cX2_doCycle 17 = .ok (.invokevirtual 132, 3) := by decide +kernel
theorem dX2_doCycle_20 : decode cX2_doCycle 20 = .ok (.ifCond .eq 7, 3) := by decide +kernel
theorem dX2_doCycle_23 : decode cX2_doCycle 23 = .ok (.iload_n 3, 1) := by decide +kernel
theorem dX2_doCycle_24 : decode cX2_doCycle 24 = .ok (.goto 9, 3) := by decide +kernel
theorem dX2_doCycle_27 : decode cX2_doCycle 27 = .ok (.aload_n 0, 1) := by decide +kernel
theorem dX2_doCycle_28 : decode cX2_doCycle 28 = .ok (.getfield 26, 3) := by decide +kernel
theorem dX2_doCycle_31 : decode cX2_doCycle 31 = .ok (.iconst 0, 1) := by decide +kernel
theorem dX2_doCycle_32 : decode cX2_doCycle 32 = .ok (.iaload, 1) := by decide +kernel
theorem dX2_doCycle_33 : decode cX2_doCycle 33 = .ok (.istore 4, 2) := by decide +kernel
theorem dX2_doCycle_35 : decode cX2_doCycle 35 = .ok (.aload_n 1, 1) := by decide +kernel
theorem dX2_doCycle_36 : decode cX2_doCycle 36 = .ok (.iconst 2, 1) := by decide +kernel
theorem dX2_doCycle_37 : decode cX2_doCycle 37 = .ok (.invokevirtual 132, 3) := by decide +kernel
theorem dX2_doCycle_40 : decode cX2_doCycle 40 = .ok (.ifCond .eq 7, 3) := by decide +kernel
theorem dX2_doCycle_43 : decode cX2_doCycle 43 = .ok (.iload_n 3, 1) := by decide +kernel
theorem dX2_doCycle_44 : decode cX2_doCycle 44 = .ok (.goto 9, 3) := by decide +kernel
theorem dX2_doCycle_47 : decode cX2_doCycle 47 = .ok (.aload_n 0, 1) := by decide +kernel
theorem dX2_doCycle_48 : decode cX2_doCycle 48 = .ok (.getfield 26, 3) := by decide +kernel
theorem dX2_doCycle_51 : decode cX2_doCycle 51 = .ok (.iconst 2, 1) := by decide +kernel
theorem dX2_doCycle_52 : decode cX2_doCycle 52 = .ok (.iaload, 1) := by decide +kernel
theorem dX2_doCycle_53 : decode cX2_doCycle 53 = .ok (.istore 5, 2) := by decide +kernel
theorem dX2_doCycle_55 : decode cX2_doCycle 55 = .ok (.aload_n 1, 1) := by decide +kernel
theorem dX2_doCycle_56 : decode cX2_doCycle 56 = .ok (.getfield 90, 3) := by decide +kernel
theorem dX2_doCycle_59 : decode cX2_doCycle 59 = .ok (.ifCond .eq 13, 3) := by decide +kernel
theorem dX2_doCycle_62 : decode cX2_doCycle 62 = .ok (.iload 4, 2) := by decide +kernel
theorem dX2_doCycle_64 : decode cX2_doCycle 64 = .ok (.bipush 64, 2) := by decide +kernel
theorem dX2_doCycle_66 : decode cX2_doCycle 66 = .ok (.invokestatic 120, 3) := by decide +kernel
theorem dX2_doCycle_69 : decode cX2_doCycle 69 = .ok (.ifCond .ne 20, 3) := by decide +kernel
theorem dX2_doCycle_72 : decode cX2_doCycle 72 = .ok (.aload_n 1, 1) := by decide +kernel
theorem dX2_doCycle_73 : decode cX2_doCycle 73 = .ok (.getfield 93, 3) := by decide +kernel
theorem dX2_doCycle_76 : decode cX2_doCycle 76 = .ok (.ifCond .eq 21, 3) := by decide +kernel
theorem dX2_doCycle_79 : decode cX2_doCycle 79 = .ok (.iload 5, 2) := by decide +kernel
theorem dX2_doCycle_81 : decode cX2_doCycle 81 = .ok (.bipush 64, 2) := by decide +kernel
theorem dX2_doCycle_83 : decode cX2_doCycle 83 = .ok (.invokestatic 120, 3) := by decide +kernel
theorem dX2_doCycle_86 : decode cX2_doCycle 86 = .ok (.ifCond .eq 11, 3) := by decide +kernel
theorem dX2_doCycle_89 : decode cX2_doCycle 89 = .ok (.new 136, 3) := by decide +kernel
theorem dX2_doCycle_92 : decode cX2_doCycle 92 = .ok (.dup, 1) := by decide +kernel
theorem dX2_doCycle_93 : decode cX2_doCycle 93 = .ok (.invokespecial 138, 3) := by decide +kernel
theorem dX2_doCycle_96 : decode cX2_doCycle 96 = .ok (.athrow, 1) := by decide +kernel
theorem dX2_doCycle_97 : decode cX2_doCycle 97 = .ok (.iconst 0, 1) := by decide +kernel
theorem dX2_doCycle_98 : decode cX2_doCycle 98 = .ok (.istore 6, 2) := by decide +kernel
theorem dX2_doCycle_100 : decode cX2_doCycle 100 = .ok (.iload 6, 2) := by decide +kernel
theorem dX2_doCycle_102 : decode cX2_doCycle 102 = .ok (.bipush 8, 2) := by decide +kernel
theorem dX2_doCycle_104 : decode cX2_doCycle 104 = .ok (.if_icmp .gt 26, 3) := by decide +kernel
theorem dX2_doCycle_107 : decode cX2_doCycle 107 = .ok (.aload_n 1, 1) := by decide +kernel
theorem dX2_doCycle_108 : decode cX2_doCycle 108 = .ok (.iload 6, 2) := by decide +kernel
theorem dX2_doCycle_110 : decode cX2_doCycle 110 = .ok (.invokevirtual 132, 3) := by decide +kernel
theorem dX2_doCycle_113 : decode cX2_doCycle 113 = .ok (.ifCond .eq 11, 3) := by decide +kernel
theorem dX2_doCycle_116 : decode cX2_doCycle 116 = .ok (.aload_n 0, 1) := by decide +kernel
theorem dX2_doCycle_117 : decode cX2_doCycle 117 = .ok (.getfield 26, 3) := by decide +kernel
theorem dX2_doCycle_120 : decode cX2_doCycle 120 = .ok (.iload 6, 2) := by decide +kernel
theorem dX2_doCycle_122 : decode cX2_doCycle 122 = .ok (.iload_n 3, 1) := by decide +kernel
theorem dX2_doCycle_123 : decode cX2_doCycle 123 = .ok (.iastore, 1) := by decide +kernel
theorem dX2_doCycle_124 : decode cX2_doCycle 124 = .ok (.iinc 6 1, 3) := by decide +kernel
theorem dX2_doCycle_127 : decode cX2_doCycle 127 = .ok (.goto (-27), 3) := by decide +kernel
theorem dX2_doCycle_130 : decode cX2_doCycle 130 = .ok (.aload_n 0, 1) := by decide +kernel
theorem dX2_doCycle_131 : decode cX2_doCycle 131 = .ok (.aload_n 1, 1) := by decide +kernel
theorem dX2_doCycle_132 : decode cX2_doCycle 132 = .ok (.getfield 90, 3) := by decide +kernel
theorem dX2_doCycle_135 : decode cX2_doCycle 135 = .ok (.iload 4, 2) := by decide +kernel
theorem dX2_doCycle_137 : decode cX2_doCycle 137 = .ok (.invokevirtual 139, 3) := by decide +kernel
theorem dX2_doCycle_140 : decode cX2_doCycle 140 = .ok (.aload_n 0, 1) := by decide +kernel
theorem dX2_doCycle_141 : decode cX2_doCycle 141 = .ok (.aload_n 1, 1) := by decide +kernel
theorem dX2_doCycle_142 : decode cX2_doCycle 142 = .ok (.getfield 93, 3) := by decide +kernel
theorem dX2_doCycle_145 : decode cX2_doCycle 145 = .ok (.iload 5, 2) := by decide +kernel
theorem dX2_doCycle_147 : decode cX2_doCycle 147 = .ok (.invokevirtual 142, 3) := by decide +kernel
theorem dX2_doCycle_150 : decode cX2_doCycle 150 = .ok (.aload_n 0, 1) := by decide +kernel
theorem dX2_doCycle_151 : decode cX2_doCycle 151 = .ok (.aload_n 0, 1) := by decide +kernel
theorem dX2_doCycle_152 : decode cX2_doCycle 152 = .ok (.aload_n 1, 1) := by decide +kernel
theorem dX2_doCycle_153 : decode cX2_doCycle 153 = .ok (.iload_n 2, 1) := by decide +kernel
theorem dX2_doCycle_154 : decode cX2_doCycle 154 = .ok (.invokevirtual 146, 3) := by decide +kernel
theorem dX2_doCycle_157 : decode cX2_doCycle 157 = .ok (.putfield 73, 3) := by decide +kernel
theorem dX2_doCycle_160 : decode cX2_doCycle 160 = .ok (.aload_n 0, 1) := by decide +kernel
theorem dX2_doCycle_161 : decode cX2_doCycle 161 = .ok (.dup, 1) := by decide +kernel
theorem dX2_doCycle_162 : decode cX2_doCycle 162 = .ok (.getfield 108, 3) := by decide +kernel
theorem dX2_doCycle_165 : decode cX2_doCycle 165 = .ok (.iconst 1, 1) := by decide +kernel
theorem dX2_doCycle_166 : decode cX2_doCycle 166 = .ok (.iadd, 1) := by decide +kernel
theorem dX2_doCycle_167 : decode cX2_doCycle 167 = .ok (.putfield 108, 3) := by decide +kernel
theorem dX2_doCycle_170 : decode cX2_doCycle 170 = .ok (.return_, 1) := by decide +kernel
theorem dX2_valueOf_0 : decode cX2_valueOf 0 = .ok (.aload_n 0, 1) := by decide +kernel
theorem dX2_valueOf_1 : decode cX2_valueOf 1 = .ok (.aload_n 1, 1) := by decide +kernel
theorem dX2_valueOf_2 : decode cX2_valueOf 2 = .ok (.getfield 150, 3) := by decide +kernel
theorem dX2_valueOf_5 : decode cX2_valueOf 5 = .ok (.invokevirtual 153, 3) := by decide +kernel
theorem dX2_valueOf_8 : decode cX2_valueOf 8 = .ok (.istore_n 2, 1) := by decide +kernel
theorem dX2_valueOf_9 : decode cX2_valueOf 9 = .ok (.aload_n 0, 1) := by decide +kernel
theorem dX2_valueOf_10 : decode cX2_valueOf 10 = .ok (.getfield 26, 3) := by decide +kernel
theorem dX2_valueOf_13 : decode cX2_valueOf 13 = .ok (.bipush 8, 2) := by decide +kernel
theorem dX2_valueOf_15 : decode cX2_valueOf 15 = .ok (.iaload, 1) := by decide +kernel
theorem dX2_valueOf_16 : decode cX2_valueOf 16 = .ok (.istore_n 3, 1) := by decide +kernel
theorem dX2_valueOf_17 : decode cX2_valueOf 17 = .ok (.aload_n 1, 1) := by decide +kernel
theorem dX2_valueOf_18 : decode cX2_valueOf 18 = .ok (.getfield 157, 3) := by decide +kernel
theorem dX2_valueOf_21 : decode cX2_valueOf 21 = .ok (.tableswitch 128 1 15 #[75, 77, 79, 81, 85, 89, 93, 97, 99, 103, 107, 113, 117, 121, 125], 75) := by decide +kernel
theorem dX2_valueOf_96 : decode cX2_valueOf 96 = .ok (.iconst 1, 1) := by decide +kernel
theorem dX2_valueOf_97 : decode cX2_valueOf 97 = .ok (.ireturn, 1) := by decide +kernel
theorem dX2_valueOf_98 : decode cX2_valueOf 98 = .ok (.iconst (-1), 1) := by decide +kernel
theorem dX2_valueOf_99 : decode cX2_valueOf 99 = .ok (.ireturn, 1) := by decide +kernel
theorem dX2_valueOf_100 : decode cX2_valueOf 100 = .ok (.iload_n 2, 1) := by decide +kernel
theorem dX2_valueOf_101 : decode cX2_valueOf 101 = .ok (.ireturn, 1) := by decide +kernel
theorem dX2_valueOf_102 : decode cX2_valueOf 102 = .ok (.iload_n 2, 1) := by decide +kernel
theorem dX2_valueOf_103 : decode cX2_valueOf 103 = .ok (.iconst 1, 1) := by decide +kernel
theorem dX2_valueOf_104 : decode cX2_valueOf 104 = .ok (.iadd, 1) := by decide +kernel
theorem dX2_valueOf_105 : decode cX2_valueOf 105 = .ok (.ireturn, 1) := by decide +kernel
theorem dX2_valueOf_106 : decode cX2_valueOf 106 = .ok (.iload_n 2, 1) := by decide +kernel
theorem dX2_valueOf_107 : decode cX2_valueOf 107 = .ok (.iconst 1, 1) := by decide +kernel
theorem dX2_valueOf_108 : decode cX2_valueOf 108 = .ok (.isub, 1) := by decide +kernel
theorem dX2_valueOf_109 : decode cX2_valueOf 109 = .ok (.ireturn, 1) := by decide +kernel
theorem dX2_valueOf_110 : decode cX2_valueOf 110 = .ok (.iload_n 2, 1) := by decide +kernel
theorem dX2_valueOf_111 : decode cX2_valueOf 111 = .ok (.iload_n 3, 1) := by decide +kernel
theorem dX2_valueOf_112 : decode cX2_valueOf 112 = .ok (.isub, 1) := by decide +kernel
theorem dX2_valueOf_113 : decode cX2_valueOf 113 = .ok (.ireturn, 1) := by decide +kernel
theorem dX2_valueOf_114 : decode cX2_valueOf 114 = .ok (.iload_n 2, 1) := by decide +kernel
theorem dX2_valueOf_115 : decode cX2_valueOf 115 = .ok (.iconst (-1), 1) := by decide +kernel
theorem dX2_valueOf_116 : decode cX2_valueOf 116 = .ok (.ixor, 1) := by decide +kernel
theorem dX2_valueOf_117 : decode cX2_valueOf 117 = .ok (.ireturn, 1) := by decide +kernel
theorem dX2_valueOf_118 : decode cX2_valueOf 118 = .ok (.iload_n 3, 1) := by decide +kernel
theorem dX2_valueOf_119 : decode cX2_valueOf 119 = .ok (.ireturn, 1) := by decide +kernel
theorem dX2_valueOf_120 : decode cX2_valueOf 120 = .ok (.iload_n 3, 1) := by decide +kernel
theorem dX2_valueOf_121 : decode cX2_valueOf 121 = .ok (.iconst 1, 1) := by decide +kernel
theorem dX2_valueOf_122 : decode cX2_valueOf 122 = .ok (.iadd, 1) := by decide +kernel
theorem dX2_valueOf_123 : decode cX2_valueOf 123 = .ok (.ireturn, 1) := by decide +kernel
theorem dX2_valueOf_124 : decode cX2_valueOf 124 = .ok (.iload_n 3, 1) := by decide +kernel
theorem dX2_valueOf_125 : decode cX2_valueOf 125 = .ok (.iload_n 2, 1) := by decide +kernel
theorem dX2_valueOf_126 : decode cX2_valueOf 126 = .ok (.iadd, 1) := by decide +kernel
theorem dX2_valueOf_127 : decode cX2_valueOf 127 = .ok (.ireturn, 1) := by decide +kernel
theorem dX2_valueOf_128 : decode cX2_valueOf 128 = .ok (.iload_n 3, 1) := by decide +kernel
theorem dX2_valueOf_129 : decode cX2_valueOf 129 = .ok (.iload_n 2, 1) := by decide +kernel
theorem dX2_valueOf_130 : decode cX2_valueOf 130 = .ok (.iadd, 1) := by decide +kernel
theorem dX2_valueOf_131 : decode cX2_valueOf 131 = .ok (.iconst 1, 1) := by decide +kernel
theorem dX2_valueOf_132 : decode cX2_valueOf 132 = .ok (.iadd, 1) := by decide +kernel
theorem dX2_valueOf_133 : decode cX2_valueOf 133 = .ok (.ireturn, 1) := by decide +kernel
theorem dX2_valueOf_134 : decode cX2_valueOf 134 = .ok (.iload_n 3, 1) := by decide +kernel
theorem dX2_valueOf_135 : decode cX2_valueOf 135 = .ok (.iload_n 2, 1) := by decide +kernel
theorem dX2_valueOf_136 : decode cX2_valueOf 136 = .ok (.iand, 1) := by decide +kernel
theorem dX2_valueOf_137 : decode cX2_valueOf 137 = .ok (.ireturn, 1) := by decide +kernel
theorem dX2_valueOf_138 : decode cX2_valueOf 138 = .ok (.iload_n 3, 1) := by decide +kernel
theorem dX2_valueOf_139 : decode cX2_valueOf 139 = .ok (.iload_n 2, 1) := by decide +kernel
theorem dX2_valueOf_140 : decode cX2_valueOf 140 = .ok (.ior, 1) := by decide +kernel
theorem dX2_valueOf_141 : decode cX2_valueOf 141 = .ok (.ireturn, 1) := by decide +kernel
theorem dX2_valueOf_142 : decode cX2_valueOf 142 = .ok (.iload_n 3, 1) := by decide +kernel
theorem dX2_valueOf_143 : decode cX2_valueOf 143 = .ok (.iconst (-1), 1) := by decide +kernel
theorem dX2_valueOf_144 : decode cX2_valueOf 144 = .ok (.ixor, 1) := by decide +kernel
theorem dX2_valueOf_145 : decode cX2_valueOf 145 = .ok (.ireturn, 1) := by decide +kernel
theorem dX2_valueOf_146 : decode cX2_valueOf 146 = .ok (.iload_n 3, 1) := by decide +kernel
theorem dX2_valueOf_147 : decode cX2_valueOf 147 = .ok (.ineg, 1) := by decide +kernel
theorem dX2_valueOf_148 : decode cX2_valueOf 148 = .ok (.ireturn, 1) := by decide +kernel
theorem dX2_valueOf_149 : decode cX2_valueOf 149 = .ok (.iconst 0, 1) := by decide +kernel
theorem dX2_valueOf_150 : decode cX2_valueOf 150 = .ok (.ireturn, 1) := by decide +kernel
theorem dX2_busOf_0 : decode cX2_busOf 0 = .ok (.iload_n 1, 1) := by decide +kernel
theorem dX2_busOf_1 : decode cX2_busOf 1 = .ok (.bipush 9, 2) := by decide +kernel
theorem dX2_busOf_3 : decode cX2_busOf 3 = .ok (.if_icmp .ne 12, 3) := by decide +kernel
theorem dX2_busOf_6 : decode cX2_busOf 6 = .ok (.aload_n 0, 1) := by decide +kernel
theorem dX2_busOf_7 : decode cX2_busOf 7 = .ok (.getfield 26, 3) := by decide +kernel
theorem dX2_busOf_10 : decode cX2_busOf 10 = .ok (.bipush 9, 2) := by decide +kernel
theorem dX2_busOf_12 : decode cX2_busOf 12 = .ok (.iaload, 1) := by decide +kernel
theorem dX2_busOf_13 : decode cX2_busOf 13 = .ok (.i2b, 1) := by decide +kernel
theorem dX2_busOf_14 : decode cX2_busOf 14 = .ok (.ireturn, 1) := by decide +kernel
theorem dX2_busOf_15 : decode cX2_busOf 15 = .ok (.iload_n 1, 1) := by decide +kernel
theorem dX2_busOf_16 : decode cX2_busOf 16 = .ok (.bipush 9, 2) := by decide +kernel
theorem dX2_busOf_18 : decode cX2_busOf 18 = .ok (.if_icmp .le 13, 3) := by decide +kernel
theorem dX2_busOf_21 : decode cX2_busOf 21 = .ok (.aload_n 0, 1) := by decide +kernel
theorem dX2_busOf_22 : decode cX2_busOf 22 = .ok (.getfield 26, 3) := by decide +kernel
theorem dX2_busOf_25 : decode cX2_busOf 25 = .ok (.bipush 9, 2) := by decide +kernel
theorem dX2_busOf_27 : decode cX2_busOf 27 = .ok (.iaload, 1) := by decide +kernel
theorem dX2_busOf_28 : decode cX2_busOf 28 = .ok (.goto 9, 3) := by decide +kernel
theorem dX2_busOf_31 : decode cX2_busOf 31 = .ok (.aload_n 0, 1) := by decide +kernel
theorem dX2_busOf_32 : decode cX2_busOf 32 = .ok (.getfield 26, 3) := by decide +kernel
theorem dX2_busOf_35 : decode cX2_busOf 35 = .ok (.iload_n 1, 1) := by decide +kernel
theorem dX2_busOf_36 : decode cX2_busOf 36 = .ok (.iaload, 1) := by decide +kernel
theorem dX2_busOf_37 : decode cX2_busOf 37 = .ok (.ireturn, 1) := by decide +kernel
theorem dX2_shiftedBy_0 : decode cX2_shiftedBy 0 = .ok (.iload_n 0, 1) := by decide +kernel
theorem dX2_shiftedBy_1 : decode cX2_shiftedBy 1 = .ok (.iconst 1, 1) := by decide +kernel
theorem dX2_shiftedBy_2 : decode cX2_shiftedBy 2 = .ok (.if_icmp .ne 8, 3) := by decide +kernel
theorem dX2_shiftedBy_5 : decode cX2_shiftedBy 5 = .ok (.iload_n 1, 1) := by decide +kernel
theorem dX2_shiftedBy_6 : decode cX2_shiftedBy 6 = .ok (.bipush 8, 2) := by decide +kernel
theorem dX2_shiftedBy_8 : decode cX2_shiftedBy 8 = .ok (.ishl, 1) := by decide +kernel
theorem dX2_shiftedBy_9 : decode cX2_shiftedBy 9 = .ok (.ireturn, 1) := by decide +kernel
theorem dX2_shiftedBy_10 : decode cX2_shiftedBy 10 = .ok (.iload_n 0, 1) := by decide +kernel
theorem dX2_shiftedBy_11 : decode cX2_shiftedBy 11 = .ok (.iconst 2, 1) := by decide +kernel
theorem dX2_shiftedBy_12 : decode cX2_shiftedBy 12 = .ok (.if_icmp .ne 9, 3) := by decide +kernel
theorem dX2_shiftedBy_15 : decode cX2_shiftedBy 15 = .ok (.iload_n 1, 1) := by decide +kernel
theorem dX2_shiftedBy_16 : decode cX2_shiftedBy 16 = .ok (.iconst 1, 1) := by decide +kernel
theorem dX2_shiftedBy_17 : decode cX2_shiftedBy 17 = .ok (.ishr, 1) := by decide +kernel
theorem dX2_shiftedBy_18 : decode cX2_shiftedBy 18 = .ok (.goto 4, 3) := by decide +kernel
theorem dX2_shiftedBy_21 : decode cX2_shiftedBy 21 = .ok (.iload_n 1, 1) := by decide +kernel
theorem dX2_shiftedBy_22 : decode cX2_shiftedBy 22 = .ok (.ireturn, 1) := by decide +kernel
theorem dX2_askForWord_0 : decode cX2_askForWord 0 = .ok (.aload_n 0, 1) := by decide +kernel
theorem dX2_askForWord_1 : decode cX2_askForWord 1 = .ok (.getfield 76, 3) := by decide +kernel
theorem dX2_askForWord_4 : decode cX2_askForWord 4 = .ok (.istore_n 3, 1) := by decide +kernel
theorem dX2_askForWord_5 : decode cX2_askForWord 5 = .ok (.aload_n 0, 1) := by decide +kernel
theorem dX2_askForWord_6 : decode cX2_askForWord 6 = .ok (.getfield 160, 3) := by decide +kernel
theorem dX2_askForWord_9 : decode cX2_askForWord 9 = .ok (.istore 4, 2) := by decide +kernel
theorem dX2_askForWord_11 : decode cX2_askForWord 11 = .ok (.aload_n 0, 1) := by decide +kernel
theorem dX2_askForWord_12 : decode cX2_askForWord 12 = .ok (.iload_n 1, 1) := by decide +kernel
theorem dX2_askForWord_13 : decode cX2_askForWord 13 = .ok (.iconst 1, 1) := by decide +kernel
theorem dX2_askForWord_14 : decode cX2_askForWord 14 = .ok (.if_icmp .ne 7, 3) := by decide +kernel
theorem dX2_askForWord_17 : decode cX2_askForWord 17 = .ok (.iconst 1, 1) := by decide +kernel
theorem dX2_askForWord_18 : decode cX2_askForWord 18 = .ok (.goto 4, 3) := by decide +kernel
theorem dX2_askForWord_21 : decode cX2_askForWord 21 = .ok (.iconst 0, 1) := by decide +kernel
theorem dX2_askForWord_22 : decode cX2_askForWord 22 = .ok (.putfield 76, 3) := by decide +kernel
theorem dX2_askForWord_25 : decode cX2_askForWord 25 = .ok (.iload_n 1, 1) := by decide +kernel
theorem dX2_askForWord_26 : decode cX2_askForWord 26 = .ok (.iconst 1, 1) := by decide +kernel
theorem dX2_askForWord_27 : decode cX2_askForWord 27 = .ok (.if_icmp .ne 26, 3) := by decide +kernel
theorem dX2_askForWord_30 : decode cX2_askForWord 30 = .ok (.aload_n 0, 1) := by decide +kernel
theorem dX2_askForWord_31 : decode cX2_askForWord 31 = .ok (.aload_n 0, 1) := by decide +kernel
theorem dX2_askForWord_32 : decode cX2_askForWord 32 = .ok (.getfield 30, 3) := by decide +kernel
theorem dX2_askForWord_35 : decode cX2_askForWord 35 = .ok (.iload_n 2, 1) := by decide +kernel
theorem dX2_askForWord_36 : decode cX2_askForWord 36 = .ok (.iaload, 1) := by decide +kernel
theorem dX2_askForWord_37 : decode cX2_askForWord 37 = .ok (.putfield 160, 3) := by decide +kernel
theorem dX2_askForWord_40 : decode cX2_askForWord 40 = .ok (.aload_n 0, 1) := by decide +kernel
theorem dX2_askForWord_41 : decode cX2_askForWord 41 = .ok (.dup, 1) := by decide +kernel
theorem dX2_askForWord_42 : decode cX2_askForWord 42 = .ok (.getfield 111, 3) := by decide +kernel
theorem dX2_askForWord_45 : decode cX2_askForWord 45 = .ok (.iconst 1, 1) := by decide +kernel
theorem dX2_askForWord_46 : decode cX2_askForWord 46 = .ok (.iadd, 1) := by decide +kernel
theorem dX2_askForWord_47 : decode cX2_askForWord 47 = .ok (.putfield 111, 3) := by decide +kernel
theorem dX2_askForWord_50 : decode cX2_askForWord 50 = .ok (.goto 30, 3) := by decide +kernel
theorem dX2_askForWord_53 : decode cX2_askForWord 53 = .ok (.iload_n 1, 1) := by decide +kernel
theorem dX2_askForWord_54 : decode cX2_askForWord 54 = .ok (.iconst 2, 1) := by decide +kernel
theorem dX2_askForWord_55 : decode cX2_askForWord 55 = .ok (.if_icmp .ne 25, 3) := by decide +kernel
theorem dX2_askForWord_58 : decode cX2_askForWord 58 = .ok (.aload_n 0, 1) := by decide +kernel
theorem dX2_askForWord_59 : decode cX2_askForWord 59 = .ok (.getfield 30, 3) := by decide +kernel
theorem dX2_askForWord_62 : decode cX2_askForWord 62 = .ok (.iload_n 2, 1) := by decide +kernel
theorem dX2_askForWord_63 : decode cX2_askForWord 63 = .ok (.aload_n 0, 1) := by decide +kernel
theorem dX2_askForWord_64 : decode cX2_askForWord 64 = .ok (.getfield 26, 3) := by decide +kernel
theorem dX2_askForWord_67 : decode cX2_askForWord 67 = .ok (.iconst 1, 1) := by decide +kernel
theorem dX2_askForWord_68 : decode cX2_askForWord 68 = .ok (.iaload, 1) := by decide +kernel
theorem dX2_askForWord_69 : decode cX2_askForWord 69 = .ok (.iastore, 1) := by decide +kernel
theorem dX2_askForWord_70 : decode cX2_askForWord 70 = .ok (.aload_n 0, 1) := by decide +kernel
theorem dX2_askForWord_71 : decode cX2_askForWord 71 = .ok (.dup, 1) := by decide +kernel
theorem dX2_askForWord_72 : decode cX2_askForWord 72 = .ok (.getfield 114, 3) := by decide +kernel
theorem dX2_askForWord_75 : decode cX2_askForWord 75 = .ok (.iconst 1, 1) := by decide +kernel
theorem dX2_askForWord_76 : decode cX2_askForWord 76 = .ok (.iadd, 1) := by decide +kernel
theorem dX2_askForWord_77 : decode cX2_askForWord 77 = .ok (.putfield 114, 3) := by decide +kernel
theorem dX2_askForWord_80 : decode cX2_askForWord 80 = .ok (.iload_n 3, 1) := by decide +kernel
theorem dX2_askForWord_81 : decode cX2_askForWord 81 = .ok (.ifCond .eq 11, 3) := by decide +kernel
theorem dX2_askForWord_84 : decode cX2_askForWord 84 = .ok (.aload_n 0, 1) := by decide +kernel
theorem dX2_askForWord_85 : decode cX2_askForWord 85 = .ok (.getfield 26, 3) := by decide +kernel
theorem dX2_askForWord_88 : decode cX2_askForWord 88 = .ok (.iconst 1, 1) := by decide +kernel
theorem dX2_askForWord_89 : decode cX2_askForWord 89 = .ok (.iload 4, 2) := by decide +kernel
theorem dX2_askForWord_91 : decode cX2_askForWord 91 = .ok (.iastore, 1) := by decide +kernel
theorem dX2_askForWord_92 : decode cX2_askForWord 92 = .ok (.return_, 1) := by decide +kernel
theorem dX2_askForByte_0 : decode cX2_askForByte 0 = .ok (.aload_n 0, 1) := by decide +kernel
theorem dX2_askForByte_1 : decode cX2_askForByte 1 = .ok (.getfield 80, 3) := by decide +kernel
theorem dX2_askForByte_4 : decode cX2_askForByte 4 = .ok (.istore_n 3, 1) := by decide +kernel
theorem dX2_askForByte_5 : decode cX2_askForByte 5 = .ok (.aload_n 0, 1) := by decide +kernel
theorem dX2_askForByte_6 : decode cX2_askForByte 6 = .ok (.getfield 163, 3) := by decide +kernel
theorem dX2_askForByte_9 : decode cX2_askForByte 9 = .ok (.istore 4, 2) := by decide +kernel
theorem dX2_askForByte_11 : decode cX2_askForByte 11 = .ok (.aload_n 0, 1) := by decide +kernel
theorem dX2_askForByte_12 : decode cX2_askForByte 12 = .ok (.iload_n 1, 1) := by decide +kernel
theorem dX2_askForByte_13 : decode cX2_askForByte 13 = .ok (.putfield 80, 3) := by decide +kernel
theorem dX2_askForByte_16 : decode cX2_askForByte 16 = .ok (.iload_n 1, 1) := by decide +kernel
theorem dX2_askForByte_17 : decode cX2_askForByte 17 = .ok (.ifCond .eq 23, 3) := by decide +kernel
theorem dX2_askForByte_20 : decode cX2_askForByte 20 = .ok (.aload_n 0, 1) := by decide +kernel
theorem dX2_askForByte_21 : decode cX2_askForByte 21 = .ok (.aload_n 0, 1) := by decide +kernel
theorem dX2_askForByte_22 : decode cX2_askForByte 22 = .ok (.getfield 33, 3) := by decide +kernel
theorem dX2_askForByte_25 : decode cX2_askForByte 25 = .ok (.iload_n 2, 1) := by decide +kernel
theorem dX2_askForByte_26 : decode cX2_askForByte 26 = .ok (.iaload, 1) := by decide +kernel
theorem dX2_askForByte_27 : decode cX2_askForByte 27 = .ok (.putfield 163, 3) := by decide +kernel
theorem dX2_askForByte_30 : decode cX2_askForByte 30 = .ok (.aload_n 0, 1) := by decide +kernel
theorem dX2_askForByte_31 : decode cX2_askForByte 31 = .ok (.dup, 1) := by decide +kernel
theorem dX2_askForByte_32 : decode cX2_askForByte 32 = .ok (.getfield 117, 3) := by decide +kernel
theorem dX2_askForByte_35 : decode cX2_askForByte 35 = .ok (.iconst 1, 1) := by decide +kernel
theorem dX2_askForByte_36 : decode cX2_askForByte 36 = .ok (.iadd, 1) := by decide +kernel
theorem dX2_askForByte_37 : decode cX2_askForByte 37 = .ok (.putfield 117, 3) := by decide +kernel
theorem dX2_askForByte_40 : decode cX2_askForByte 40 = .ok (.iload_n 3, 1) := by decide +kernel
theorem dX2_askForByte_41 : decode cX2_askForByte 41 = .ok (.ifCond .eq 12, 3) := by decide +kernel
theorem dX2_askForByte_44 : decode cX2_askForByte 44 = .ok (.aload_n 0, 1) := by decide +kernel
theorem dX2_askForByte_45 : decode cX2_askForByte 45 = .ok (.getfield 26, 3) := by decide +kernel
theorem dX2_askForByte_48 : decode cX2_askForByte 48 = .ok (.bipush 9, 2) := by decide +kernel
theorem dX2_askForByte_50 : decode cX2_askForByte 50 = .ok (.iload 4, 2) := by decide +kernel
theorem dX2_askForByte_52 : decode cX2_askForByte 52 = .ok (.iastore, 1) := by decide +kernel
theorem dX2_askForByte_53 : decode cX2_askForByte 53 = .ok (.return_, 1) := by decide +kernel
theorem dX2_wordBehind_0 : decode cX2_wordBehind 0 = .ok (.aload_n 1, 1) := by decide +kernel
theorem dX2_wordBehind_1 : decode cX2_wordBehind 1 = .ok (.getfield 96, 3) := by decide +kernel
theorem dX2_wordBehind_4 : decode cX2_wordBehind 4 = .ok (.tableswitch 89 1 4 #[32, 37, 53, 69], 32) := by decide +kernel
theorem dX2_wordBehind_36 : decode cX2_wordBehind 36 = .ok (.aload_n 1, 1) := by decide +kernel
theorem dX2_wordBehind_37 : decode cX2_wordBehind 37 = .ok (.getfield 99, 3) := by decide +kernel
theorem dX2_wordBehind_40 : decode cX2_wordBehind 40 = .ok (.ireturn, 1) := by decide +kernel
theorem dX2_wordBehind_41 : decode cX2_wordBehind 41 = .ok (.iload_n 2, 1) := by decide +kernel
theorem dX2_wordBehind_42 : decode cX2_wordBehind 42 = .ok (.ifCond .ne 10, 3) := by decide +kernel
theorem dX2_wordBehind_45 : decode cX2_wordBehind 45 = .ok (.aload_n 1, 1) := by decide +kernel
theorem dX2_wordBehind_46 : decode cX2_wordBehind 46 = .ok (.getfield 99, 3) := by decide +kernel
theorem dX2_wordBehind_49 : decode cX2_wordBehind 49 = .ok (.goto 7, 3) := by decide +kernel
theorem dX2_wordBehind_52 : decode cX2_wordBehind 52 = .ok (.aload_n 1, 1) := by decide +kernel
theorem dX2_wordBehind_53 : decode cX2_wordBehind 53 = .ok (.getfield 102, 3) := by decide +kernel
theorem dX2_wordBehind_56 : decode cX2_wordBehind 56 = .ok (.ireturn, 1) := by decide +kernel
theorem dX2_wordBehind_57 : decode cX2_wordBehind 57 = .ok (.iload_n 2, 1) := by decide +kernel
theorem dX2_wordBehind_58 : decode cX2_wordBehind 58 = .ok (.ifCond .ge 10, 3) := by decide +kernel
theorem dX2_wordBehind_61 : decode cX2_wordBehind 61 = .ok (.aload_n 1, 1) := by decide +kernel
theorem dX2_wordBehind_62 : decode cX2_wordBehind 62 = .ok (.getfield 99, 3) := by decide +kernel
theorem dX2_wordBehind_65 : decode cX2_wordBehind 65 = .ok (.goto 7, 3) := by decide +kernel
theorem dX2_wordBehind_68 : decode cX2_wordBehind 68 = .ok (.aload_n 1, 1) := by decide +kernel
theorem dX2_wordBehind_69 : decode cX2_wordBehind 69 = .ok (.getfield 102, 3) := by decide +kernel
theorem dX2_wordBehind_72 : decode cX2_wordBehind 72 = .ok (.ireturn, 1) := by decide +kernel
theorem dX2_wordBehind_73 : decode cX2_wordBehind 73 = .ok (.aload_n 1, 1) := by decide +kernel
theorem dX2_wordBehind_74 : decode cX2_wordBehind 74 = .ok (.getfield 99, 3) := by decide +kernel
theorem dX2_wordBehind_77 : decode cX2_wordBehind 77 = .ok (.iconst 0, 1) := by decide +kernel
theorem dX2_wordBehind_78 : decode cX2_wordBehind 78 = .ok (.invokestatic 166, 3) := by decide +kernel
theorem dX2_wordBehind_81 : decode cX2_wordBehind 81 = .ok (.aload_n 0, 1) := by decide +kernel
theorem dX2_wordBehind_82 : decode cX2_wordBehind 82 = .ok (.getfield 26, 3) := by decide +kernel
theorem dX2_wordBehind_85 : decode cX2_wordBehind 85 = .ok (.bipush 9, 2) := by decide +kernel
theorem dX2_wordBehind_87 : decode cX2_wordBehind 87 = .ok (.iaload, 1) := by decide +kernel
theorem dX2_wordBehind_88 : decode cX2_wordBehind 88 = .ok (.ior, 1) := by decide +kernel
theorem dX2_wordBehind_89 : decode cX2_wordBehind 89 = .ok (.bipush 63, 2) := by decide +kernel
theorem dX2_wordBehind_91 : decode cX2_wordBehind 91 = .ok (.iand, 1) := by decide +kernel
theorem dX2_wordBehind_92 : decode cX2_wordBehind 92 = .ok (.ireturn, 1) := by decide +kernel
theorem dX2_wordBehind_93 : decode cX2_wordBehind 93 = .ok (.aload_n 0, 1) := by decide +kernel
theorem dX2_wordBehind_94 : decode cX2_wordBehind 94 = .ok (.getfield 73, 3) := by decide +kernel
theorem dX2_wordBehind_97 : decode cX2_wordBehind 97 = .ok (.iconst 1, 1) := by decide +kernel
theorem dX2_wordBehind_98 : decode cX2_wordBehind 98 = .ok (.iadd, 1) := by decide +kernel
theorem dX2_wordBehind_99 : decode cX2_wordBehind 99 = .ok (.bipush 63, 2) := by decide +kernel
theorem dX2_wordBehind_101 : decode cX2_wordBehind 101 = .ok (.iand, 1) := by decide +kernel
theorem dX2_wordBehind_102 : decode cX2_wordBehind 102 = .ok (.ireturn, 1) := by decide +kernel
theorem dX2_set_0 : decode cX2_set 0 = .ok (.iload_n 1, 1) := by decide +kernel
theorem dX2_set_1 : decode cX2_set 1 = .ok (.bipush 10, 2) := by decide +kernel
theorem dX2_set_3 : decode cX2_set 3 = .ok (.invokestatic 53, 3) := by decide +kernel
theorem dX2_set_6 : decode cX2_set 6 = .ok (.iload_n 1, 1) := by decide +kernel
theorem dX2_set_7 : decode cX2_set 7 = .ok (.bipush 9, 2) := by decide +kernel
theorem dX2_set_9 : decode cX2_set 9 = .ok (.if_icmp .ne 10, 3) := by decide +kernel
theorem dX2_set_12 : decode cX2_set 12 = .ok (.iload_n 2, 1) := by decide +kernel
theorem dX2_set_13 : decode cX2_set 13 = .ok (.sipush 256, 3) := by decide +kernel
theorem dX2_set_16 : decode cX2_set 16 = .ok (.invokestatic 53, 3) := by decide +kernel
theorem dX2_set_19 : decode cX2_set 19 = .ok (.aload_n 0, 1) := by decide +kernel
theorem dX2_set_20 : decode cX2_set 20 = .ok (.getfield 26, 3) := by decide +kernel
theorem dX2_set_23 : decode cX2_set 23 = .ok (.iload_n 1, 1) := by decide +kernel
theorem dX2_set_24 : decode cX2_set 24 = .ok (.iload_n 2, 1) := by decide +kernel
theorem dX2_set_25 : decode cX2_set 25 = .ok (.iastore, 1) := by decide +kernel
theorem dX2_set_26 : decode cX2_set 26 = .ok (.return_, 1) := by decide +kernel
theorem dX2_register_0 : decode cX2_register 0 = .ok (.iload_n 1, 1) := by decide +kernel
theorem dX2_register_1 : decode cX2_register 1 = .ok (.bipush 10, 2) := by decide +kernel
theorem dX2_register_3 : decode cX2_register 3 = .ok (.invokestatic 53, 3) := by decide +kernel
theorem dX2_register_6 : decode cX2_register 6 = .ok (.aload_n 0, 1) := by decide +kernel
theorem dX2_register_7 : decode cX2_register 7 = .ok (.getfield 26, 3) := by decide +kernel
theorem dX2_register_10 : decode cX2_register 10 = .ok (.iload_n 1, 1) := by decide +kernel
theorem dX2_register_11 : decode cX2_register 11 = .ok (.iaload, 1) := by decide +kernel
theorem dX2_register_12 : decode cX2_register 12 = .ok (.ireturn, 1) := by decide +kernel
theorem dX2_poke_0 : decode cX2_poke 0 = .ok (.iload_n 1, 1) := by decide +kernel
theorem dX2_poke_1 : decode cX2_poke 1 = .ok (.bipush 64, 2) := by decide +kernel
theorem dX2_poke_3 : decode cX2_poke 3 = .ok (.invokestatic 53, 3) := by decide +kernel
theorem dX2_poke_6 : decode cX2_poke 6 = .ok (.aload_n 0, 1) := by decide +kernel
theorem dX2_poke_7 : decode cX2_poke 7 = .ok (.getfield 30, 3) := by decide +kernel
theorem dX2_poke_10 : decode cX2_poke 10 = .ok (.iload_n 1, 1) := by decide +kernel
theorem dX2_poke_11 : decode cX2_poke 11 = .ok (.iload_n 2, 1) := by decide +kernel
theorem dX2_poke_12 : decode cX2_poke 12 = .ok (.iastore, 1) := by decide +kernel
theorem dX2_poke_13 : decode cX2_poke 13 = .ok (.return_, 1) := by decide +kernel
theorem dX2_memory_0 : decode cX2_memory 0 = .ok (.iload_n 1, 1) := by decide +kernel
theorem dX2_memory_1 : decode cX2_memory 1 = .ok (.bipush 64, 2) := by decide +kernel
theorem dX2_memory_3 : decode cX2_memory 3 = .ok (.invokestatic 53, 3) := by decide +kernel
theorem dX2_memory_6 : decode cX2_memory 6 = .ok (.aload_n 0, 1) := by decide +kernel
theorem dX2_memory_7 : decode cX2_memory 7 = .ok (.getfield 30, 3) := by decide +kernel
theorem dX2_memory_10 : decode cX2_memory 10 = .ok (.iload_n 1, 1) := by decide +kernel
theorem dX2_memory_11 : decode cX2_memory 11 = .ok (.iaload, 1) := by decide +kernel
theorem dX2_memory_12 : decode cX2_memory 12 = .ok (.ireturn, 1) := by decide +kernel
theorem dX2_code_0 : decode cX2_code 0 = .ok (.iload_n 1, 1) := by decide +kernel
theorem dX2_code_1 : decode cX2_code 1 = .ok (.bipush 64, 2) := by decide +kernel
theorem dX2_code_3 : decode cX2_code 3 = .ok (.invokestatic 53, 3) := by decide +kernel
theorem dX2_code_6 : decode cX2_code 6 = .ok (.iload_n 2, 1) := by decide +kernel
theorem dX2_code_7 : decode cX2_code 7 = .ok (.sipush 256, 3) := by decide +kernel
theorem dX2_code_10 : decode cX2_code 10 = .ok (.invokestatic 53, 3) := by decide +kernel
theorem dX2_code_13 : decode cX2_code 13 = .ok (.aload_n 0, 1) := by decide +kernel
theorem dX2_code_14 : decode cX2_code 14 = .ok (.getfield 33, 3) := by decide +kernel
theorem dX2_code_17 : decode cX2_code 17 = .ok (.iload_n 1, 1) := by decide +kernel
theorem dX2_code_18 : decode cX2_code 18 = .ok (.iload_n 2, 1) := by decide +kernel
theorem dX2_code_19 : decode cX2_code 19 = .ok (.iastore, 1) := by decide +kernel
theorem dX2_code_20 : decode cX2_code 20 = .ok (.return_, 1) := by decide +kernel
theorem dX2_told_0 : decode cX2_told 0 = .ok (.iload_n 1, 1) := by decide +kernel
theorem dX2_told_1 : decode cX2_told 1 = .ok (.bipush 64, 2) := by decide +kernel
theorem dX2_told_3 : decode cX2_told 3 = .ok (.invokestatic 53, 3) := by decide +kernel
theorem dX2_told_6 : decode cX2_told 6 = .ok (.iload_n 2, 1) := by decide +kernel
theorem dX2_told_7 : decode cX2_told 7 = .ok (.bipush 7, 2) := by decide +kernel
theorem dX2_told_9 : decode cX2_told 9 = .ok (.invokestatic 53, 3) := by decide +kernel
theorem dX2_told_12 : decode cX2_told 12 = .ok (.aload_n 0, 1) := by decide +kernel
theorem dX2_told_13 : decode cX2_told 13 = .ok (.getfield 22, 3) := by decide +kernel
theorem dX2_told_16 : decode cX2_told 16 = .ok (.iload_n 1, 1) := by decide +kernel
theorem dX2_told_17 : decode cX2_told 17 = .ok (.aaload, 1) := by decide +kernel
theorem dX2_told_18 : decode cX2_told 18 = .ok (.astore_n 3, 1) := by decide +kernel
theorem dX2_told_19 : decode cX2_told 19 = .ok (.aload_n 3, 1) := by decide +kernel
theorem dX2_told_20 : decode cX2_told 20 = .ok (.ifnonnull 11, 3) := by decide +kernel
theorem dX2_told_23 : decode cX2_told 23 = .ok (.new 70, 3) := by decide +kernel
theorem dX2_told_26 : decode cX2_told 26 = .ok (.dup, 1) := by decide +kernel
theorem dX2_told_27 : decode cX2_told 27 = .ok (.invokespecial 72, 3) := by decide +kernel
theorem dX2_told_30 : decode cX2_told 30 = .ok (.athrow, 1) := by decide +kernel
theorem dX2_told_31 : decode cX2_told 31 = .ok (.iload_n 2, 1) := by decide +kernel
theorem dX2_told_32 : decode cX2_told 32 = .ok (.tableswitch 78 0 5 #[40, 45, 50, 63, 68, 73], 40) := by decide +kernel
theorem dX2_told_72 : decode cX2_told 72 = .ok (.aload_n 3, 1) := by decide +kernel
theorem dX2_told_73 : decode cX2_told 73 = .ok (.getfield 87, 3) := by decide +kernel
theorem dX2_told_76 : decode cX2_told 76 = .ok (.ireturn, 1) := by decide +kernel
theorem dX2_told_77 : decode cX2_told 77 = .ok (.aload_n 3, 1) := by decide +kernel
theorem dX2_told_78 : decode cX2_told 78 = .ok (.getfield 90, 3) := by decide +kernel
theorem dX2_told_81 : decode cX2_told 81 = .ok (.ireturn, 1) := by decide +kernel
theorem dX2_told_82 : decode cX2_told 82 = .ok (.aload_n 3, 1) := by decide +kernel
theorem dX2_told_83 : decode cX2_told 83 = .ok (.getfield 93, 3) := by decide +kernel
theorem dX2_told_86 : decode cX2_told 86 = .ok (.ifCond .eq 7, 3) := by decide +kernel
theorem dX2_told_89 : decode cX2_told 89 = .ok (.iconst 1, 1) := by decide +kernel
theorem dX2_told_90 : decode cX2_told 90 = .ok (.goto 4, 3) := by decide +kernel
theorem dX2_told_93 : decode cX2_told 93 = .ok (.iconst 0, 1) := by decide +kernel
theorem dX2_told_94 : decode cX2_told 94 = .ok (.ireturn, 1) := by decide +kernel
theorem dX2_told_95 : decode cX2_told 95 = .ok (.aload_n 3, 1) := by decide +kernel
theorem dX2_told_96 : decode cX2_told 96 = .ok (.getfield 96, 3) := by decide +kernel
theorem dX2_told_99 : decode cX2_told 99 = .ok (.ireturn, 1) := by decide +kernel
theorem dX2_told_100 : decode cX2_told 100 = .ok (.aload_n 3, 1) := by decide +kernel
theorem dX2_told_101 : decode cX2_told 101 = .ok (.getfield 99, 3) := by decide +kernel
theorem dX2_told_104 : decode cX2_told 104 = .ok (.ireturn, 1) := by decide +kernel
theorem dX2_told_105 : decode cX2_told 105 = .ok (.aload_n 3, 1) := by decide +kernel
theorem dX2_told_106 : decode cX2_told 106 = .ok (.getfield 102, 3) := by decide +kernel
theorem dX2_told_109 : decode cX2_told 109 = .ok (.ireturn, 1) := by decide +kernel
theorem dX2_told_110 : decode cX2_told 110 = .ok (.aload_n 3, 1) := by decide +kernel
theorem dX2_told_111 : decode cX2_told 111 = .ok (.getfield 105, 3) := by decide +kernel
theorem dX2_told_114 : decode cX2_told 114 = .ok (.ireturn, 1) := by decide +kernel
end
section
theorem dX3_init_0 : decode cX3_init 0 = .ok (.aload_n 0, 1) := by decide +kernel
theorem dX3_init_1 : decode cX3_init 1 = .ok (.invokespecial 1, 3) := by decide +kernel
theorem dX3_init_4 : decode cX3_init 4 = .ok (.aload_n 0, 1) := by decide +kernel
theorem dX3_init_5 : decode cX3_init 5 = .ok (.bipush 40, 2) := by decide +kernel
theorem dX3_init_7 : decode cX3_init 7 = .ok (.newarray .int, 2) := by decide +kernel
theorem dX3_init_9 : decode cX3_init 9 = .ok (.putfield 7, 3) := by decide +kernel
theorem dX3_init_12 : decode cX3_init 12 = .ok (.aload_n 0, 1) := by decide +kernel
theorem dX3_init_13 : decode cX3_init 13 = .ok (.bipush 10, 2) := by decide +kernel
theorem dX3_init_15 : decode cX3_init 15 = .ok (.newarray .int, 2) := by decide +kernel
theorem dX3_init_17 : decode cX3_init 17 = .ok (.putfield 13, 3) := by decide +kernel
theorem dX3_init_20 : decode cX3_init 20 = .ok (.aload_n 0, 1) := by decide +kernel
theorem dX3_init_21 : decode cX3_init 21 = .ok (.bipush 64, 2) := by decide +kernel
theorem dX3_init_23 : decode cX3_init 23 = .ok (.newarray .int, 2) := by decide +kernel
theorem dX3_init_25 : decode cX3_init 25 = .ok (.putfield 16, 3) := by decide +kernel
theorem dX3_init_28 : decode cX3_init 28 = .ok (.aload_n 0, 1) := by decide +kernel
theorem dX3_init_29 : decode cX3_init 29 = .ok (.bipush 64, 2) := by decide +kernel
theorem dX3_init_31 : decode cX3_init 31 = .ok (.newarray .int, 2) := by decide +kernel
theorem dX3_init_33 : decode cX3_init 33 = .ok (.putfield 19, 3) := by decide +kernel
theorem dX3_init_36 : decode cX3_init 36 = .ok (.aload_n 0, 1) := by decide +kernel
theorem dX3_init_37 : decode cX3_init 37 = .ok (.bipush 65, 2) := by decide +kernel
theorem dX3_init_39 : decode cX3_init 39 = .ok (.newarray .int, 2) := by decide +kernel
theorem dX3_init_41 : decode cX3_init 41 = .ok (.putfield 22, 3) := by decide +kernel
theorem dX3_init_44 : decode cX3_init 44 = .ok (.aload_n 0, 1) := by decide +kernel
theorem dX3_init_45 : decode cX3_init 45 = .ok (.bipush 65, 2) := by decide +kernel
theorem dX3_init_47 : decode cX3_init 47 = .ok (.newarray .int, 2) := by decide +kernel
theorem dX3_init_49 : decode cX3_init 49 = .ok (.putfield 25, 3) := by decide +kernel
theorem dX3_init_52 : decode cX3_init 52 = .ok (.aload_n 0, 1) := by decide +kernel
theorem dX3_init_53 : decode cX3_init 53 = .ok (.bipush 65, 2) := by decide +kernel
theorem dX3_init_55 : decode cX3_init 55 = .ok (.newarray .int, 2) := by decide +kernel
theorem dX3_init_57 : decode cX3_init 57 = .ok (.putfield 28, 3) := by decide +kernel
theorem dX3_init_60 : decode cX3_init 60 = .ok (.aload_n 0, 1) := by decide +kernel
theorem dX3_init_61 : decode cX3_init 61 = .ok (.bipush 65, 2) := by decide +kernel
theorem dX3_init_63 : decode cX3_init 63 = .ok (.newarray .int, 2) := by decide +kernel
theorem dX3_init_65 : decode cX3_init 65 = .ok (.putfield 31, 3) := by decide +kernel
theorem dX3_init_68 : decode cX3_init 68 = .ok (.aload_n 0, 1) := by decide +kernel
theorem dX3_init_69 : decode cX3_init 69 = .ok (.bipush 65, 2) := by decide +kernel
theorem dX3_init_71 : decode cX3_init 71 = .ok (.newarray .int, 2) := by decide +kernel
theorem dX3_init_73 : decode cX3_init 73 = .ok (.putfield 34, 3) := by decide +kernel
theorem dX3_init_76 : decode cX3_init 76 = .ok (.aload_n 0, 1) := by decide +kernel
theorem dX3_init_77 : decode cX3_init 77 = .ok (.bipush 65, 2) := by decide +kernel
theorem dX3_init_79 : decode cX3_init 79 = .ok (.newarray .int, 2) := by decide +kernel
theorem dX3_init_81 : decode cX3_init 81 = .ok (.putfield 37, 3) := by decide +kernel
theorem dX3_init_84 : decode cX3_init 84 = .ok (.aload_n 0, 1) := by decide +kernel
theorem dX3_init_85 : decode cX3_init 85 = .ok (.bipush 65, 2) := by decide +kernel
theorem dX3_init_87 : decode cX3_init 87 = .ok (.newarray .int, 2) := by decide +kernel
theorem dX3_init_89 : decode cX3_init 89 = .ok (.putfield 40, 3) := by decide +kernel
theorem dX3_init_92 : decode cX3_init 92 = .ok (.aload_n 0, 1) := by decide +kernel
theorem dX3_init_93 : decode cX3_init 93 = .ok (.bipush 65, 2) := by decide +kernel
theorem dX3_init_95 : decode cX3_init 95 = .ok (.newarray .int, 2) := by decide +kernel
theorem dX3_init_97 : decode cX3_init 97 = .ok (.putfield 43, 3) := by decide +kernel
theorem dX3_init_100 : decode cX3_init 100 = .ok (.aload_n 0, 1) := by decide +kernel
theorem dX3_init_101 : decode cX3_init 101 = .ok (.bipush 65, 2) := by decide +kernel
theorem dX3_init_103 : decode cX3_init 103 = .ok (.newarray .int, 2) := by decide +kernel
theorem dX3_init_105 : decode cX3_init 105 = .ok (.putfield 46, 3) := by decide +kernel
theorem dX3_init_108 : decode cX3_init 108 = .ok (.aload_n 0, 1) := by decide +kernel
theorem dX3_init_109 : decode cX3_init 109 = .ok (.bipush 64, 2) := by decide +kernel
theorem dX3_init_111 : decode cX3_init 111 = .ok (.newarray .boolean, 2) := by decide +kernel
theorem dX3_init_113 : decode cX3_init 113 = .ok (.putfield 49, 3) := by decide +kernel
theorem dX3_init_116 : decode cX3_init 116 = .ok (.aload_n 0, 1) := by decide +kernel
theorem dX3_init_117 : decode cX3_init 117 = .ok (.iconst (-1), 1) := by decide +kernel
theorem dX3_init_118 : decode cX3_init 118 = .ok (.putfield 53, 3) := by decide +kernel
theorem dX3_init_121 : decode cX3_init 121 = .ok (.return_, 1) := by decide +kernel
theorem dX3_thrown_0 : decode cX3_thrown 0 = .ok (.aload_n 0, 1) := by decide +kernel
theorem dX3_thrown_1 : decode cX3_thrown 1 = .ok (.getfield 57, 3) := by decide +kernel
theorem dX3_thrown_4 : decode cX3_thrown 4 = .ok (.ireturn, 1) := by decide +kernel
theorem dX3_type_0 : decode cX3_type 0 = .ok (.aload_n 0, 1) := by decide +kernel
theorem dX3_type_1 : decode cX3_type 1 = .ok (.iconst 0, 1) := by decide +kernel
theorem dX3_type_2 : decode cX3_type 2 = .ok (.putfield 57, 3) := by decide +kernel
theorem dX3_type_5 : decode cX3_type 5 = .ok (.iconst 0, 1) := by decide +kernel
theorem dX3_type_6 : decode cX3_type 6 = .ok (.istore_n 3, 1) := by decide +kernel
theorem dX3_type_7 : decode cX3_type 7 = .ok (.bipush 56, 2) := by decide +kernel
theorem dX3_type_9 : decode cX3_type 9 = .ok (.istore 4, 2) := by decide +kernel
theorem dX3_type_11 : decode cX3_type 11 = .ok (.iload 4, 2) := by decide +kernel
theorem dX3_type_13 : decode cX3_type 13 = .ok (.ifCond .lt 52, 3) := by decide +kernel
theorem dX3_type_16 : decode cX3_type 16 = .ok (.lload_n 1, 1) := by decide +kernel
theorem dX3_type_17 : decode cX3_type 17 = .ok (.iload 4, 2) := by decide +kernel
theorem dX3_type_19 : decode cX3_type 19 = .ok (.lushr, 1) := by decide +kernel
theorem dX3_type_20 : decode cX3_type 20 = .ok (.l2i, 1) := by decide +kernel
theorem dX3_type_21 : decode cX3_type 21 = .ok (.sipush 255, 3) := by decide +kernel
theorem dX3_type_24 : decode cX3_type 24 = .ok (.iand, 1) := by decide +kernel
theorem dX3_type_25 : decode cX3_type 25 = .ok (.istore 5, 2) := by decide +kernel
theorem dX3_type_27 : decode cX3_type 27 = .ok (.iload 5, 2) := by decide +kernel
theorem dX3_type_29 : decode cX3_type 29 = .ok (.ifCond .eq 6, 3) := by decide +kernel
theorem dX3_type_32 : decode cX3_type 32 = .ok (.iinc 3 1, 3) := by decide +kernel
theorem dX3_type_35 : decode cX3_type 35 = .ok (.iload 5, 2) := by decide +kernel
theorem dX3_type_37 : decode cX3_type 37 = .ok (.ifCond .eq 22, 3) := by decide +kernel
theorem dX3_type_40 : decode cX3_type 40 = .ok (.iload 5, 2) := by decide +kernel
theorem dX3_type_42 : decode cX3_type 42 = .ok (.bipush 33, 2) := by decide +kernel
theorem dX3_type_44 : decode cX3_type 44 = .ok (.if_icmp .lt 10, 3) := by decide +kernel
theorem dX3_type_47 : decode cX3_type 47 = .ok (.iload 5, 2) := by decide +kernel
theorem dX3_type_49 : decode cX3_type 49 = .ok (.bipush 126, 2) := by decide +kernel
theorem dX3_type_51 : decode cX3_type 51 = .ok (.if_icmp .le 8, 3) := by decide +kernel
theorem dX3_type_54 : decode cX3_type 54 = .ok (.aload_n 0, 1) := by decide +kernel
theorem dX3_type_55 : decode cX3_type 55 = .ok (.iconst 1, 1) := by decide +kernel
theorem dX3_type_56 : decode cX3_type 56 = .ok (.putfield 57, 3) := by decide +kernel
theorem dX3_type_59 : decode cX3_type 59 = .ok (.iinc 4 (-8), 3) := by decide +kernel
theorem dX3_type_62 : decode cX3_type 62 = .ok (.goto (-51), 3) := by decide +kernel
theorem dX3_type_65 : decode cX3_type 65 = .ok (.aload_n 0, 1) := by decide +kernel
theorem dX3_type_66 : decode cX3_type 66 = .ok (.getfield 57, 3) := by decide +kernel
theorem dX3_type_69 : decode cX3_type 69 = .ok (.ifCond .ne 19, 3) := by decide +kernel
theorem dX3_type_72 : decode cX3_type 72 = .ok (.aload_n 0, 1) := by decide +kernel
theorem dX3_type_73 : decode cX3_type 73 = .ok (.getfield 60, 3) := by decide +kernel
theorem dX3_type_76 : decode cX3_type 76 = .ok (.iload_n 3, 1) := by decide +kernel
theorem dX3_type_77 : decode cX3_type 77 = .ok (.iadd, 1) := by decide +kernel
theorem dX3_type_78 : decode cX3_type 78 = .ok (.bipush 40, 2) := by decide +kernel
theorem dX3_type_80 : decode cX3_type 80 = .ok (.if_icmp .le 8, 3) := by decide +kernel
theorem dX3_type_83 : decode cX3_type 83 = .ok (.aload_n 0, 1) := by decide +kernel
theorem dX3_type_84 : decode cX3_type 84 = .ok (.iconst 2, 1) := by decide +kernel
theorem dX3_type_85 : decode cX3_type 85 = .ok (.putfield 57, 3) := by decide +kernel
theorem dX3_type_88 : decode cX3_type 88 = .ok (.bipush 56, 2) := by decide +kernel
theorem dX3_type_90 : decode cX3_type 90 = .ok (.istore 4, 2) := by decide +kernel
theorem dX3_type_92 : decode cX3_type 92 = .ok (.iload 4, 2) := by decide +kernel
theorem dX3_type_94 : decode cX3_type 94 = .ok (.ifCond .lt 50, 3) := by decide +kernel
theorem dX3_type_97 : decode cX3_type 97 = .ok (.aload_n 0, 1) := by decide +kernel
theorem dX3_type_98 : decode cX3_type 98 = .ok (.getfield 57, 3) := by decide +kernel
theorem dX3_type_101 : decode cX3_type 101 = .ok (.ifCond .ne 43, 3) := by decide +kernel
theorem dX3_type_104 : decode cX3_type 104 = .ok (.lload_n 1, 1) := by decide +kernel
theorem dX3_type_105 : decode cX3_type 105 = .ok (.iload 4, 2) := by decide +kernel
theorem dX3_type_107 : decode cX3_type 107 = .ok (.lushr, 1) := by decide +kernel
theorem dX3_type_108 : decode cX3_type 108 = .ok (.l2i, 1) := by decide +kernel
theorem dX3_type_109 : decode cX3_type 109 = .ok (.sipush 255, 3) := by decide +kernel
theorem dX3_type_112 : decode cX3_type 112 = .ok (.iand, 1) := by decide +kernel
theorem dX3_type_113 : decode cX3_type 113 = .ok (.istore 5, 2) := by decide +kernel
theorem dX3_type_115 : decode cX3_type 115 = .ok (.iload 5, 2) := by decide +kernel
theorem dX3_type_117 : decode cX3_type 117 = .ok (.ifCond .eq 21, 3) := by decide +kernel
theorem dX3_type_120 : decode cX3_type 120 = .ok (.aload_n 0, 1) := by decide +kernel
theorem dX3_type_121 : decode cX3_type 121 = .ok (.getfield 7, 3) := by decide +kernel
theorem dX3_type_124 : decode cX3_type 124 = .ok (.aload_n 0, 1) := by decide +kernel
theorem dX3_type_125 : decode cX3_type 125 = .ok (.dup, 1) := by decide +kernel
theorem dX3_type_126 : decode cX3_type 126 = .ok (.getfield 60, 3) := by decide +kernel
theorem dX3_type_129 : decode cX3_type 129 = .ok (.dup_x1, 1) := by decide +kernel
theorem dX3_type_130 : decode cX3_type 130 = .ok (.iconst 1, 1) := by decide +kernel
theorem dX3_type_131 : decode cX3_type 131 = .ok (.iadd, 1) := by decide +kernel
theorem dX3_type_132 : decode cX3_type 132 = .ok (.putfield 60, 3) := by decide +kernel
theorem dX3_type_135 : decode cX3_type 135 = .ok (.iload 5, 2) := by decide +kernel
theorem dX3_type_137 : decode cX3_type 137 = .ok (.iastore, 1) := by decide +kernel
theorem dX3_type_138 : decode cX3_type 138 = .ok (.iinc 4 (-8), 3) := by decide +kernel
theorem dX3_type_141 : decode cX3_type 141 = .ok (.goto (-49), 3) := by decide +kernel
theorem dX3_type_144 : decode cX3_type 144 = .ok (.aload_n 0, 1) := by decide +kernel
theorem dX3_type_145 : decode cX3_type 145 = .ok (.getfield 57, 3) := by decide +kernel
theorem dX3_type_148 : decode cX3_type 148 = .ok (.ifCond .ne 10, 3) := by decide +kernel
theorem dX3_type_151 : decode cX3_type 151 = .ok (.aload_n 0, 1) := by decide +kernel
theorem dX3_type_152 : decode cX3_type 152 = .ok (.getfield 60, 3) := by decide +kernel
theorem dX3_type_155 : decode cX3_type 155 = .ok (.goto 4, 3) := by decide +kernel
theorem dX3_type_158 : decode cX3_type 158 = .ok (.iconst 0, 1) := by decide +kernel
theorem dX3_type_159 : decode cX3_type 159 = .ok (.ireturn, 1) := by decide +kernel
theorem dX3_word_0 : decode cX3_word 0 = .ok (.aload_n 0, 1) := by decide +kernel
theorem dX3_word_1 : decode cX3_word 1 = .ok (.iload_n 1, 1) := by decide +kernel
theorem dX3_word_2 : decode cX3_word 2 = .ok (.ifCond .lt 9, 3) := by decide +kernel
theorem dX3_word_5 : decode cX3_word 5 = .ok (.iload_n 1, 1) := by decide +kernel
theorem dX3_word_6 : decode cX3_word 6 = .ok (.bipush 63, 2) := by decide +kernel
theorem dX3_word_8 : decode cX3_word 8 = .ok (.if_icmp .le 7, 3) := by decide +kernel
theorem dX3_word_11 : decode cX3_word 11 = .ok (.iconst 1, 1) := by decide +kernel
theorem dX3_word_12 : decode cX3_word 12 = .ok (.goto 4, 3) := by decide +kernel
theorem dX3_word_15 : decode cX3_word 15 = .ok (.iconst 0, 1) := by decide +kernel
theorem dX3_word_16 : decode cX3_word 16 = .ok (.putfield 57, 3) := by decide +kernel
theorem dX3_word_19 : decode cX3_word 19 = .ok (.aload_n 0, 1) := by decide +kernel
theorem dX3_word_20 : decode cX3_word 20 = .ok (.getfield 57, 3) := by decide +kernel
theorem dX3_word_23 : decode cX3_word 23 = .ok (.ifCond .eq 5, 3) := by decide +kernel
theorem dX3_word_26 : decode cX3_word 26 = .ok (.iconst 0, 1) := by decide +kernel
theorem dX3_word_27 : decode cX3_word 27 = .ok (.ireturn, 1) := by decide +kernel
theorem dX3_word_28 : decode cX3_word 28 = .ok (.aload_n 0, 1) := by decide +kernel
theorem dX3_word_29 : decode cX3_word 29 = .ok (.getfield 22, 3) := by decide +kernel
theorem dX3_word_32 : decode cX3_word 32 = .ok (.bipush 64, 2) := by decide +kernel
theorem dX3_word_34 : decode cX3_word 34 = .ok (.iconst 0, 1) := by decide +kernel
theorem dX3_word_35 : decode cX3_word 35 = .ok (.iastore, 1) := by decide +kernel
theorem dX3_word_36 : decode cX3_word 36 = .ok (.aload_n 0, 1) := by decide +kernel
theorem dX3_word_37 : decode cX3_word 37 = .ok (.getfield 25, 3) := by decide +kernel
theorem dX3_word_40 : decode cX3_word 40 = .ok (.bipush 64, 2) := by decide +kernel
theorem dX3_word_42 : decode cX3_word 42 = .ok (.bipush 13, 2) := by decide +kernel
theorem dX3_word_44 : decode cX3_word 44 = .ok (.iastore, 1) := by decide +kernel
theorem dX3_word_45 : decode cX3_word 45 = .ok (.aload_n 0, 1) := by decide +kernel
theorem dX3_word_46 : decode cX3_word 46 = .ok (.getfield 28, 3) := by decide +kernel
theorem dX3_word_49 : decode cX3_word 49 = .ok (.bipush 64, 2) := by decide +kernel
theorem dX3_word_51 : decode cX3_word 51 = .ok (.iconst 0, 1) := by decide +kernel
theorem dX3_word_52 : decode cX3_word 52 = .ok (.iastore, 1) := by decide +kernel
theorem dX3_word_53 : decode cX3_word 53 = .ok (.aload_n 0, 1) := by decide +kernel
theorem dX3_word_54 : decode cX3_word 54 = .ok (.getfield 31, 3) := by decide +kernel
theorem dX3_word_57 : decode cX3_word 57 = .ok (.bipush 64, 2) := by decide +kernel
theorem dX3_word_59 : decode cX3_word 59 = .ok (.iconst 0, 1) := by decide +kernel
theorem dX3_word_60 : decode cX3_word 60 = .ok (.iastore, 1) := by decide +kernel
theorem dX3_word_61 : decode cX3_word 61 = .ok (.aload_n 0, 1) := by decide +kernel
theorem dX3_word_62 : decode cX3_word 62 = .ok (.getfield 34, 3) := by decide +kernel
theorem dX3_word_65 : decode cX3_word 65 = .ok (.bipush 64, 2) := by decide +kernel
theorem dX3_word_67 : decode cX3_word 67 = .ok (.iconst 0, 1) := by decide +kernel
theorem dX3_word_68 : decode cX3_word 68 = .ok (.iastore, 1) := by decide +kernel
theorem dX3_word_69 : decode cX3_word 69 = .ok (.aload_n 0, 1) := by decide +kernel
theorem dX3_word_70 : decode cX3_word 70 = .ok (.getfield 37, 3) := by decide +kernel
theorem dX3_word_73 : decode cX3_word 73 = .ok (.bipush 64, 2) := by decide +kernel
theorem dX3_word_75 : decode cX3_word 75 = .ok (.iconst 0, 1) := by decide +kernel
theorem dX3_word_76 : decode cX3_word 76 = .ok (.iastore, 1) := by decide +kernel
theorem dX3_word_77 : decode cX3_word 77 = .ok (.aload_n 0, 1) := by decide +kernel
theorem dX3_word_78 : decode cX3_word 78 = .ok (.getfield 40, 3) := by decide +kernel
theorem dX3_word_81 : decode cX3_word 81 = .ok (.bipush 64, 2) := by decide +kernel
theorem dX3_word_83 : decode cX3_word 83 = .ok (.iconst 0, 1) := by decide +kernel
theorem dX3_word_84 : decode cX3_word 84 = .ok (.iastore, 1) := by decide +kernel
theorem dX3_word_85 : decode cX3_word 85 = .ok (.aload_n 0, 1) := by decide +kernel
theorem dX3_word_86 : decode cX3_word 86 = .ok (.getfield 43, 3) := by decide +kernel
theorem dX3_word_89 : decode cX3_word 89 = .ok (.bipush 64, 2) := by decide +kernel
theorem dX3_word_91 : decode cX3_word 91 = .ok (.iconst (-1), 1) := by decide +kernel
theorem dX3_word_92 : decode cX3_word 92 = .ok (.iastore, 1) := by decide +kernel
theorem dX3_word_93 : decode cX3_word 93 = .ok (.aload_n 0, 1) := by decide +kernel
theorem dX3_word_94 : decode cX3_word 94 = .ok (.getfield 46, 3) := by decide +kernel
theorem dX3_word_97 : decode cX3_word 97 = .ok (.bipush 64, 2) := by decide +kernel
theorem dX3_word_99 : decode cX3_word 99 = .ok (.iconst (-1), 1) := by decide +kernel
theorem dX3_word_100 : decode cX3_word 100 = .ok (.iastore, 1) := by decide +kernel
theorem dX3_word_101 : decode cX3_word 101 = .ok (.aload_n 0, 1) := by decide +kernel
theorem dX3_word_102 : decode cX3_word 102 = .ok (.iconst 0, 1) := by decide +kernel
theorem dX3_word_103 : decode cX3_word 103 = .ok (.putfield 91, 3) := by decide +kernel
theorem dX3_word_106 : decode cX3_word 106 = .ok (.aload_n 0, 1) := by decide +kernel
theorem dX3_word_107 : decode cX3_word 107 = .ok (.iconst 0, 1) := by decide +kernel
theorem dX3_word_108 : decode cX3_word 108 = .ok (.putfield 63, 3) := by decide +kernel
theorem dX3_word_111 : decode cX3_word 111 = .ok (.aload_n 0, 1) := by decide +kernel
theorem dX3_word_112 : decode cX3_word 112 = .ok (.invokevirtual 105, 3) := by decide +kernel
theorem dX3_word_115 : decode cX3_word 115 = .ok (.istore_n 2, 1) := by decide +kernel
theorem dX3_word_116 : decode cX3_word 116 = .ok (.aload_n 0, 1) := by decide +kernel
theorem dX3_word_117 : decode cX3_word 117 = .ok (.iconst 0, 1) := by decide +kernel
theorem dX3_word_118 : decode cX3_word 118 = .ok (.putfield 60, 3) := by decide +kernel
theorem dX3_word_121 : decode cX3_word 121 = .ok (.iload_n 2, 1) := by decide +kernel
theorem dX3_word_122 : decode cX3_word 122 = .ok (.ifCond .ne 18, 3) := by decide +kernel
theorem dX3_word_125 : decode cX3_word 125 = .ok (.aload_n 0, 1) := by decide +kernel
theorem dX3_word_126 : decode cX3_word 126 = .ok (.aload_n 0, 1) := by decide +kernel
theorem dX3_word_127 : decode cX3_word 127 = .ok (.getfield 63, 3) := by decide +kernel
theorem dX3_word_130 : decode cX3_word 130 = .ok (.putfield 53, 3) := by decide +kernel
theorem dX3_word_133 : decode cX3_word 133 = .ok (.aload_n 0, 1) := by decide +kernel
theorem dX3_word_134 : decode cX3_word 134 = .ok (.iconst 1, 1) := by decide +kernel
theorem dX3_word_135 : decode cX3_word 135 = .ok (.putfield 57, 3) := by decide +kernel
theorem dX3_word_138 : decode cX3_word 138 = .ok (.iconst 0, 1) := by decide +kernel
theorem dX3_word_139 : decode cX3_word 139 = .ok (.ireturn, 1) := by decide +kernel
theorem dX3_word_140 : decode cX3_word 140 = .ok (.aload_n 0, 1) := by decide +kernel
theorem dX3_word_141 : decode cX3_word 141 = .ok (.getfield 22, 3) := by decide +kernel
theorem dX3_word_144 : decode cX3_word 144 = .ok (.iload_n 1, 1) := by decide +kernel
theorem dX3_word_145 : decode cX3_word 145 = .ok (.aload_n 0, 1) := by decide +kernel
theorem dX3_word_146 : decode cX3_word 146 = .ok (.getfield 22, 3) := by decide +kernel
theorem dX3_word_149 : decode cX3_word 149 = .ok (.bipush 64, 2) := by decide +kernel
theorem dX3_word_151 : decode cX3_word 151 = .ok (.iaload, 1) := by decide +kernel
theorem dX3_word_152 : decode cX3_word 152 = .ok (.iastore, 1) := by decide +kernel
theorem dX3_word_153 : decode cX3_word 153 = .ok (.aload_n 0, 1) := by decide +kernel
theorem dX3_word_154 : decode cX3_word 154 = .ok (.getfield 25, 3) := by decide +kernel
theorem dX3_word_157 : decode cX3_word 157 = .ok (.iload_n 1, 1) := by decide +kernel
theorem dX3_word_158 : decode cX3_word 158 = .ok (.aload_n 0, 1) := by decide +kernel
theorem dX3_word_159 : decode cX3_word 159 = .ok (.getfield 25, 3) := by decide +kernel
theorem dX3_word_162 : decode cX3_word 162 = .ok (.bipush 64, 2) := by decide +kernel
theorem dX3_word_164 : decode cX3_word 164 = .ok (.iaload, 1) := by decide +kernel
theorem dX3_word_165 : decode cX3_word 165 = .ok (.iastore, 1) := by decide +kernel
theorem dX3_word_166 : decode cX3_word 166 = .ok (.aload_n 0, 1) := by decide +kernel
theorem dX3_word_167 : decode cX3_word 167 = .ok (.getfield 28, 3) := by decide +kernel
theorem dX3_word_170 : decode cX3_word 170 = .ok (.iload_n 1, 1) := by decide +kernel
theorem dX3_word_171 : decode cX3_word 171 = .ok (.aload_n 0, 1) := by decide +kernel
theorem dX3_word_172 : decode cX3_word 172 = .ok (.getfield 28, 3) := by decide +kernel
theorem dX3_word_175 : decode cX3_word 175 = .ok (.bipush 64, 2) := by decide +kernel
theorem dX3_word_177 : decode cX3_word 177 = .ok (.iaload, 1) := by decide +kernel
theorem dX3_word_178 : decode cX3_word 178 = .ok (.iastore, 1) := by decide +kernel
theorem dX3_word_179 : decode cX3_word 179 = .ok (.aload_n 0, 1) := by decide +kernel
theorem dX3_word_180 : decode cX3_word 180 = .ok (.getfield 31, 3) := by decide +kernel
theorem dX3_word_183 : decode cX3_word 183 = .ok (.iload_n 1, 1) := by decide +kernel
theorem dX3_word_184 : decode cX3_word 184 = .ok (.aload_n 0, 1) := by decide +kernel
theorem dX3_word_185 : decode cX3_word 185 = .ok (.getfield 31, 3) := by decide +kernel
theorem dX3_word_188 : decode cX3_word 188 = .ok (.bipush 64, 2) := by decide +kernel
theorem dX3_word_190 : decode cX3_word 190 = .ok (.iaload, 1) := by decide +kernel
theorem dX3_word_191 : decode cX3_word 191 = .ok (.iastore, 1) := by decide +kernel
theorem dX3_word_192 : decode cX3_word 192 = .ok (.aload_n 0, 1) := by decide +kernel
theorem dX3_word_193 : decode cX3_word 193 = .ok (.getfield 34, 3) := by decide +kernel
theorem dX3_word_196 : decode cX3_word 196 = .ok (.iload_n 1, 1) := by decide +kernel
theorem dX3_word_197 : decode cX3_word 197 = .ok (.aload_n 0, 1) := by decide +kernel
theorem dX3_word_198 : decode cX3_word 198 = .ok (.getfield 34, 3) := by decide +kernel
theorem dX3_word_201 : decode cX3_word 201 = .ok (.bipush 64, 2) := by decide +kernel
theorem dX3_word_203 : decode cX3_word 203 = .ok (.iaload, 1) := by decide +kernel
theorem dX3_word_204 : decode cX3_word 204 = .ok (.iastore, 1) := by decide +kernel
theorem dX3_word_205 : decode cX3_word 205 = .ok (.aload_n 0, 1) := by decide +kernel
theorem dX3_word_206 : decode cX3_word 206 = .ok (.getfield 37, 3) := by decide +kernel
theorem dX3_word_209 : decode cX3_word 209 = .ok (.iload_n 1, 1) := by decide +kernel
theorem dX3_word_210 : decode cX3_word 210 = .ok (.aload_n 0, 1) := by decide +kernel
theorem dX3_word_211 : decode cX3_word 211 = .ok (.getfield 37, 3) := by decide +kernel
theorem dX3_word_214 : decode cX3_word 214 = .ok (.bipush 64, 2) := by decide +kernel
theorem dX3_word_216 : decode cX3_word 216 = .ok (.iaload, 1) := by decide +kernel
theorem dX3_word_217 : decode cX3_word 217 = .ok (.iastore, 1) := by decide +kernel
theorem dX3_word_218 : decode cX3_word 218 = .ok (.aload_n 0, 1) := by decide +kernel
theorem dX3_word_219 : decode cX3_word 219 = .ok (.getfield 40, 3) := by decide +kernel
theorem dX3_word_222 : decode cX3_word 222 = .ok (.iload_n 1, 1) := by decide +kernel
theorem dX3_word_223 : decode cX3_word 223 = .ok (.aload_n 0, 1) := by decide +kernel
theorem dX3_word_224 : decode cX3_word 224 = .ok (.getfield 40, 3) := by decide +kernel
theorem dX3_word_227 : decode cX3_word 227 = .ok (.bipush 64, 2) := by decide +kernel
theorem dX3_word_229 : decode cX3_word 229 = .ok (.iaload, 1) := by decide +kernel
theorem dX3_word_230 : decode cX3_word 230 = .ok (.iastore, 1) := by decide +kernel
theorem dX3_word_231 : decode cX3_word 231 = .ok (.aload_n 0, 1) := by decide +kernel
theorem dX3_word_232 : decode cX3_word 232 = .ok (.getfield 43, 3) := by decide +kernel
theorem dX3_word_235 : decode cX3_word 235 = .ok (.iload_n 1, 1) := by decide +kernel
theorem dX3_word_236 : decode cX3_word 236 = .ok (.aload_n 0, 1) := by decide +kernel
theorem dX3_word_237 : decode cX3_word 237 = .ok (.getfield 43, 3) := by decide +kernel
theorem dX3_word_240 : decode cX3_word 240 = .ok (.bipush 64, 2) := by decide +kernel
theorem dX3_word_242 : decode cX3_word 242 = .ok (.iaload, 1) := by decide +kernel
theorem dX3_word_243 : decode cX3_word 243 = .ok (.iastore, 1) := by decide +kernel
theorem dX3_word_244 : decode cX3_word 244 = .ok (.aload_n 0, 1) := by decide +kernel
theorem dX3_word_245 : decode cX3_word 245 = .ok (.getfield 46, 3) := by decide +kernel
theorem dX3_word_248 : decode cX3_word 248 = .ok (.iload_n 1, 1) := by decide +kernel
theorem dX3_word_249 : decode cX3_word 249 = .ok (.aload_n 0, 1) := by decide +kernel
theorem dX3_word_250 : decode cX3_word 250 = .ok (.getfield 46, 3) := by decide +kernel
theorem dX3_word_253 : decode cX3_word 253 = .ok (.bipush 64, 2) := by decide +kernel
theorem dX3_word_255 : decode cX3_word 255 = .ok (.iaload, 1) := by decide +kernel
theorem dX3_word_256 : decode cX3_word 256 = .ok (.iastore, 1) := by decide +kernel
theorem dX3_word_257 : decode cX3_word 257 = .ok (.aload_n 0, 1) := by decide +kernel
theorem dX3_word_258 : decode cX3_word 258 = .ok (.getfield 49, 3) := by decide +kernel
theorem dX3_word_261 : decode cX3_word 261 = .ok (.iload_n 1, 1) := by decide +kernel
theorem dX3_word_262 : decode cX3_word 262 = .ok (.iconst 1, 1) := by decide +kernel
theorem dX3_word_263 : decode cX3_word 263 = .ok (.bastore, 1) := by decide +kernel
theorem dX3_word_264 : decode cX3_word 264 = .ok (.aload_n 0, 1) := by decide +kernel
theorem dX3_word_265 : decode cX3_word 265 = .ok (.getfield 91, 3) := by decide +kernel
theorem dX3_word_268 : decode cX3_word 268 = .ok (.ireturn, 1) := by decide +kernel
theorem dX3_reads_0 : decode cX3_reads 0 = .ok (.iconst 0, 1) := by decide +kernel
theorem dX3_reads_1 : decode cX3_reads 1 = .ok (.istore_n 1, 1) := by decide +kernel
theorem dX3_reads_2 : decode cX3_reads 2 = .ok (.iconst 1, 1) := by decide +kernel
theorem dX3_reads_3 : decode cX3_reads 3 = .ok (.istore_n 2, 1) := by decide +kernel
theorem dX3_reads_4 : decode cX3_reads 4 = .ok (.iload_n 2, 1) := by decide +kernel
theorem dX3_reads_5 : decode cX3_reads 5 = .ok (.ifCond .eq 149, 3) := by decide +kernel
theorem dX3_reads_8 : decode cX3_reads 8 = .ok (.aload_n 0, 1) := by decide +kernel
theorem dX3_reads_9 : decode cX3_reads 9 = .ok (.invokevirtual 66, 3) := by decide +kernel
theorem dX3_reads_12 : decode cX3_reads 12 = .ok (.istore_n 3, 1) := by decide +kernel
theorem dX3_reads_13 : decode cX3_reads 13 = .ok (.iconst 0, 1) := by decide +kernel
theorem dX3_reads_14 : decode cX3_reads 14 = .ok (.istore 4, 2) := by decide +kernel
theorem dX3_reads_16 : decode cX3_reads 16 = .ok (.iload_n 1, 1) := by decide +kernel
theorem dX3_reads_17 : decode cX3_reads 17 = .ok (.ifCond .ne 22, 3) := by decide +kernel
theorem dX3_reads_20 : decode cX3_reads 20 = .ok (.aload_n 0, 1) := by decide +kernel
theorem dX3_reads_21 : decode cX3_reads 21 = .ok (.iload_n 3, 1) := by decide +kernel
theorem dX3_reads_22 : decode cX3_reads 22 = .ok (.invokevirtual 70, 3) := by decide +kernel
theorem dX3_reads_25 : decode cX3_reads 25 = .ok (.ifCond .lt 14, 3) := by decide +kernel
theorem dX3_reads_28 : decode cX3_reads 28 = .ok (.aload_n 0, 1) := by decide +kernel
theorem dX3_reads_29 : decode cX3_reads 29 = .ok (.invokevirtual 97, 3) := by decide +kernel
theorem dX3_reads_32 : decode cX3_reads 32 = .ok (.istore 4, 2) := by decide +kernel
theorem dX3_reads_34 : decode cX3_reads 34 = .ok (.iconst 1, 1) := by decide +kernel
theorem dX3_reads_35 : decode cX3_reads 35 = .ok (.istore_n 1, 1) := by decide +kernel
theorem dX3_reads_36 : decode cX3_reads 36 = .ok (.goto 88, 3) := by decide +kernel
theorem dX3_reads_39 : decode cX3_reads 39 = .ok (.iload_n 1, 1) := by decide +kernel
theorem dX3_reads_40 : decode cX3_reads 40 = .ok (.iconst 2, 1) := by decide +kernel
theorem dX3_reads_41 : decode cX3_reads 41 = .ok (.if_icmp .ge 21, 3) := by decide +kernel
theorem dX3_reads_44 : decode cX3_reads 44 = .ok (.iload_n 3, 1) := by decide +kernel
theorem dX3_reads_45 : decode cX3_reads 45 = .ok (.bipush 102, 2) := by decide +kernel
theorem dX3_reads_47 : decode cX3_reads 47 = .ok (.if_icmp .ne 15, 3) := by decide +kernel
theorem dX3_reads_50 : decode cX3_reads 50 = .ok (.aload_n 0, 1) := by decide +kernel
theorem dX3_reads_51 : decode cX3_reads 51 = .ok (.iload_n 3, 1) := by decide +kernel
theorem dX3_reads_52 : decode cX3_reads 52 = .ok (.invokevirtual 100, 3) := by decide +kernel
theorem dX3_reads_55 : decode cX3_reads 55 = .ok (.istore 4, 2) := by decide +kernel
theorem dX3_reads_57 : decode cX3_reads 57 = .ok (.iconst 2, 1) := by decide +kernel
theorem dX3_reads_58 : decode cX3_reads 58 = .ok (.istore_n 1, 1) := by decide +kernel
theorem dX3_reads_59 : decode cX3_reads 59 = .ok (.goto 65, 3) := by decide +kernel
theorem dX3_reads_62 : decode cX3_reads 62 = .ok (.iload_n 1, 1) := by decide +kernel
theorem dX3_reads_63 : decode cX3_reads 63 = .ok (.iconst 3, 1) := by decide +kernel
theorem dX3_reads_64 : decode cX3_reads 64 = .ok (.if_icmp .ge 27, 3) := by decide +kernel
theorem dX3_reads_67 : decode cX3_reads 67 = .ok (.iload_n 3, 1) := by decide +kernel
theorem dX3_reads_68 : decode cX3_reads 68 = .ok (.bipush 114, 2) := by decide +kernel
theorem dX3_reads_70 : decode cX3_reads 70 = .ok (.if_icmp .eq 9, 3) := by decide +kernel
theorem dX3_reads_73 : decode cX3_reads 73 = .ok (.iload_n 3, 1) := by decide +kernel
theorem dX3_reads_74 : decode cX3_reads 74 = .ok (.bipush 119, 2) := by decide +kernel
theorem dX3_reads_76 : decode cX3_reads 76 = .ok (.if_icmp .ne 15, 3) := by decide +kernel
theorem dX3_reads_79 : decode cX3_reads 79 = .ok (.aload_n 0, 1) := by decide +kernel
theorem dX3_reads_80 : decode cX3_reads 80 = .ok (.iload_n 3, 1) := by decide +kernel
theorem dX3_reads_81 : decode cX3_reads 81 = .ok (.invokevirtual 100, 3) := by decide +kernel
theorem dX3_reads_84 : decode cX3_reads 84 = .ok (.istore 4, 2) := by decide +kernel
theorem dX3_reads_86 : decode cX3_reads 86 = .ok (.iconst 3, 1) := by decide +kernel
theorem dX3_reads_87 : decode cX3_reads 87 = .ok (.istore_n 1, 1) := by decide +kernel
theorem dX3_reads_88 : decode cX3_reads 88 = .ok (.goto 36, 3) := by decide +kernel
theorem dX3_reads_91 : decode cX3_reads 91 = .ok (.iload_n 3, 1) := by decide +kernel
theorem dX3_reads_92 : decode cX3_reads 92 = .ok (.bipush 103, 2) := by decide +kernel
theorem dX3_reads_94 : decode cX3_reads 94 = .ok (.if_icmp .eq 21, 3) := by decide +kernel
theorem dX3_reads_97 : decode cX3_reads 97 = .ok (.iload_n 3, 1) := by decide +kernel
theorem dX3_reads_98 : decode cX3_reads 98 = .ok (.bipush 122, 2) := by decide +kernel
theorem dX3_reads_100 : decode cX3_reads 100 = .ok (.if_icmp .eq 15, 3) := by decide +kernel
theorem dX3_reads_103 : decode cX3_reads 103 = .ok (.iload_n 3, 1) := by decide +kernel
theorem dX3_reads_104 : decode cX3_reads 104 = .ok (.bipush 110, 2) := by decide +kernel
theorem dX3_reads_106 : decode cX3_reads 106 = .ok (.if_icmp .eq 9, 3) := by decide +kernel
theorem dX3_reads_109 : decode cX3_reads 109 = .ok (.iload_n 3, 1) := by decide +kernel
theorem dX3_reads_110 : decode cX3_reads 110 = .ok (.bipush 109, 2) := by decide +kernel
theorem dX3_reads_112 : decode cX3_reads 112 = .ok (.if_icmp .ne 12, 3) := by decide +kernel
theorem dX3_reads_115 : decode cX3_reads 115 = .ok (.aload_n 0, 1) := by decide +kernel
theorem dX3_reads_116 : decode cX3_reads 116 = .ok (.iload_n 3, 1) := by decide +kernel
theorem dX3_reads_117 : decode cX3_reads 117 = .ok (.invokevirtual 103, 3) := by decide +kernel
theorem dX3_reads_120 : decode cX3_reads 120 = .ok (.istore 4, 2) := by decide +kernel
theorem dX3_reads_122 : decode cX3_reads 122 = .ok (.iconst 4, 1) := by decide +kernel
theorem dX3_reads_123 : decode cX3_reads 123 = .ok (.istore_n 1, 1) := by decide +kernel
theorem dX3_reads_124 : decode cX3_reads 124 = .ok (.iload 4, 2) := by decide +kernel
theorem dX3_reads_126 : decode cX3_reads 126 = .ok (.ifCond .ne 5, 3) := by decide +kernel
theorem dX3_reads_129 : decode cX3_reads 129 = .ok (.iconst 0, 1) := by decide +kernel
theorem dX3_reads_130 : decode cX3_reads 130 = .ok (.ireturn, 1) := by decide +kernel
theorem dX3_reads_131 : decode cX3_reads 131 = .ok (.iload_n 1, 1) := by decide +kernel
theorem dX3_reads_132 : decode cX3_reads 132 = .ok (.iconst 4, 1) := by decide +kernel
theorem dX3_reads_133 : decode cX3_reads 133 = .ok (.if_icmp .ge 16, 3) := by decide +kernel
theorem dX3_reads_136 : decode cX3_reads 136 = .ok (.aload_n 0, 1) := by decide +kernel
theorem dX3_reads_137 : decode cX3_reads 137 = .ok (.bipush 59, 2) := by decide +kernel
theorem dX3_reads_139 : decode cX3_reads 139 = .ok (.invokevirtual 77, 3) := by decide +kernel
theorem dX3_reads_142 : decode cX3_reads 142 = .ok (.ifCond .eq 7, 3) := by decide +kernel
theorem dX3_reads_145 : decode cX3_reads 145 = .ok (.iconst 1, 1) := by decide +kernel
theorem dX3_reads_146 : decode cX3_reads 146 = .ok (.goto 4, 3) := by decide +kernel
theorem dX3_reads_149 : decode cX3_reads 149 = .ok (.iconst 0, 1) := by decide +kernel
theorem dX3_reads_150 : decode cX3_reads 150 = .ok (.istore_n 2, 1) := by decide +kernel
theorem dX3_reads_151 : decode cX3_reads 151 = .ok (.goto (-147), 3) := by decide +kernel
theorem dX3_reads_154 : decode cX3_reads 154 = .ok (.aload_n 0, 1) := by decide +kernel
theorem dX3_reads_155 : decode cX3_reads 155 = .ok (.getfield 63, 3) := by decide +kernel
theorem dX3_reads_158 : decode cX3_reads 158 = .ok (.aload_n 0, 1) := by decide +kernel
theorem dX3_reads_159 : decode cX3_reads 159 = .ok (.getfield 60, 3) := by decide +kernel
theorem dX3_reads_162 : decode cX3_reads 162 = .ok (.if_icmp .ne 7, 3) := by decide +kernel
theorem dX3_reads_165 : decode cX3_reads 165 = .ok (.iconst 1, 1) := by decide +kernel
theorem dX3_reads_166 : decode cX3_reads 166 = .ok (.goto 4, 3) := by decide +kernel
theorem dX3_reads_169 : decode cX3_reads 169 = .ok (.iconst 0, 1) := by decide +kernel
theorem dX3_reads_170 : decode cX3_reads 170 = .ok (.ireturn, 1) := by decide +kernel
theorem dX3_look_0 : decode cX3_look 0 = .ok (.aload_n 0, 1) := by decide +kernel
theorem dX3_look_1 : decode cX3_look 1 = .ok (.getfield 63, 3) := by decide +kernel
theorem dX3_look_4 : decode cX3_look 4 = .ok (.aload_n 0, 1) := by decide +kernel
theorem dX3_look_5 : decode cX3_look 5 = .ok (.getfield 60, 3) := by decide +kernel
theorem dX3_look_8 : decode cX3_look 8 = .ok (.if_icmp .ge 15, 3) := by decide +kernel
theorem dX3_look_11 : decode cX3_look 11 = .ok (.aload_n 0, 1) := by decide +kernel
theorem dX3_look_12 : decode cX3_look 12 = .ok (.getfield 7, 3) := by decide +kernel
theorem dX3_look_15 : decode cX3_look 15 = .ok (.aload_n 0, 1) := by decide +kernel
theorem dX3_look_16 : decode cX3_look 16 = .ok (.getfield 63, 3) := by decide +kernel
theorem dX3_look_19 : decode cX3_look 19 = .ok (.iaload, 1) := by decide +kernel
theorem dX3_look_20 : decode cX3_look 20 = .ok (.goto 4, 3) := by decide +kernel
theorem dX3_look_23 : decode cX3_look 23 = .ok (.iconst 0, 1) := by decide +kernel
theorem dX3_look_24 : decode cX3_look 24 = .ok (.ireturn, 1) := by decide +kernel
theorem dX3_settable_0 : decode cX3_settable 0 = .ok (.iload_n 1, 1) := by decide +kernel
theorem dX3_settable_1 : decode cX3_settable 1 = .ok (.tableswitch 116 65 84 #[95, 116, 105, 97, 116, 116, 116, 113, 116, 116, 116, 103, 116, 116, 110, 99, 116, 116, 101, 107], 95) := by decide +kernel
theorem dX3_settable_96 : decode cX3_settable 96 = .ok (.iconst 0, 1) := by decide +kernel
theorem dX3_settable_97 : decode cX3_settable 97 = .ok (.ireturn, 1) := by decide +kernel
theorem dX3_settable_98 : decode cX3_settable 98 = .ok (.iconst 1, 1) := by decide +kernel
theorem dX3_settable_99 : decode cX3_settable 99 = .ok (.ireturn, 1) := by decide +kernel
theorem dX3_settable_100 : decode cX3_settable 100 = .ok (.iconst 2, 1) := by decide +kernel
theorem dX3_settable_101 : decode cX3_settable 101 = .ok (.ireturn, 1) := by decide +kernel
theorem dX3_settable_102 : decode cX3_settable 102 = .ok (.iconst 3, 1) := by decide +kernel
theorem dX3_settable_103 : decode cX3_settable 103 = .ok (.ireturn, 1) := by decide +kernel
theorem dX3_settable_104 : decode cX3_settable 104 = .ok (.iconst 4, 1) := by decide +kernel
theorem dX3_settable_105 : decode cX3_settable 105 = .ok (.ireturn, 1) := by decide +kernel
theorem dX3_settable_106 : decode cX3_settable 106 = .ok (.iconst 5, 1) := by decide +kernel
theorem dX3_settable_107 : decode cX3_settable 107 = .ok (.ireturn, 1) := by decide +kernel
theorem dX3_settable_108 : decode cX3_settable 108 = .ok (.bipush 6, 2) := by decide +kernel
theorem dX3_settable_110 : decode cX3_settable 110 = .ok (.ireturn, 1) := by decide +kernel
theorem dX3_settable_111 : decode cX3_settable 111 = .ok (.bipush 7, 2) := by decide +kernel
theorem dX3_settable_113 : decode cX3_settable 113 = .ok (.ireturn, 1) := by decide +kernel
theorem dX3_settable_114 : decode cX3_settable 114 = .ok (.bipush 8, 2) := by decide +kernel
theorem dX3_settable_116 : decode cX3_settable 116 = .ok (.ireturn, 1) := by decide +kernel
theorem dX3_settable_117 : decode cX3_settable 117 = .ok (.iconst (-1), 1) := by decide +kernel
theorem dX3_settable_118 : decode cX3_settable 118 = .ok (.ireturn, 1) := by decide +kernel
theorem dX3_setting_0 : decode cX3_setting 0 = .ok (.iconst 0, 1) := by decide +kernel
theorem dX3_setting_1 : decode cX3_setting 1 = .ok (.istore_n 1, 1) := by decide +kernel
theorem dX3_setting_2 : decode cX3_setting 2 = .ok (.iconst 1, 1) := by decide +kernel
theorem dX3_setting_3 : decode cX3_setting 3 = .ok (.istore_n 2, 1) := by decide +kernel
theorem dX3_setting_4 : decode cX3_setting 4 = .ok (.iload_n 2, 1) := by decide +kernel
theorem dX3_setting_5 : decode cX3_setting 5 = .ok (.ifCond .eq 168, 3) := by decide +kernel
theorem dX3_setting_8 : decode cX3_setting 8 = .ok (.aload_n 0, 1) := by decide +kernel
theorem dX3_setting_9 : decode cX3_setting 9 = .ok (.aload_n 0, 1) := by decide +kernel
theorem dX3_setting_10 : decode cX3_setting 10 = .ok (.invokevirtual 66, 3) := by decide +kernel
theorem dX3_setting_13 : decode cX3_setting 13 = .ok (.invokevirtual 70, 3) := by decide +kernel
theorem dX3_setting_16 : decode cX3_setting 16 = .ok (.istore_n 3, 1) := by decide +kernel
theorem dX3_setting_17 : decode cX3_setting 17 = .ok (.iload_n 3, 1) := by decide +kernel
theorem dX3_setting_18 : decode cX3_setting 18 = .ok (.ifCond .lt 21, 3) := by decide +kernel
theorem dX3_setting_21 : decode cX3_setting 21 = .ok (.aload_n 0, 1) := by decide +kernel
theorem dX3_setting_22 : decode cX3_setting 22 = .ok (.getfield 22, 3) := by decide +kernel
theorem dX3_setting_25 : decode cX3_setting 25 = .ok (.bipush 64, 2) := by decide +kernel
theorem dX3_setting_27 : decode cX3_setting 27 = .ok (.iaload, 1) := by decide +kernel
theorem dX3_setting_28 : decode cX3_setting 28 = .ok (.iload_n 3, 1) := by decide +kernel
theorem dX3_setting_29 : decode cX3_setting 29 = .ok (.ishr, 1) := by decide +kernel
theorem dX3_setting_30 : decode cX3_setting 30 = .ok (.iconst 1, 1) := by decide +kernel
theorem dX3_setting_31 : decode cX3_setting 31 = .ok (.iand, 1) := by decide +kernel
theorem dX3_setting_32 : decode cX3_setting 32 = .ok (.ifCond .eq 7, 3) := by decide +kernel
theorem dX3_setting_35 : decode cX3_setting 35 = .ok (.iconst 1, 1) := by decide +kernel
theorem dX3_setting_36 : decode cX3_setting 36 = .ok (.goto 4, 3) := by decide +kernel
theorem dX3_setting_39 : decode cX3_setting 39 = .ok (.iconst 0, 1) := by decide +kernel
theorem dX3_setting_40 : decode cX3_setting 40 = .ok (.istore 4, 2) := by decide +kernel
theorem dX3_setting_42 : decode cX3_setting 42 = .ok (.aload_n 0, 1) := by decide +kernel
theorem dX3_setting_43 : decode cX3_setting 43 = .ok (.getfield 63, 3) := by decide +kernel
theorem dX3_setting_46 : decode cX3_setting 46 = .ok (.iconst 1, 1) := by decide +kernel
theorem dX3_setting_47 : decode cX3_setting 47 = .ok (.iadd, 1) := by decide +kernel
theorem dX3_setting_48 : decode cX3_setting 48 = .ok (.aload_n 0, 1) := by decide +kernel
theorem dX3_setting_49 : decode cX3_setting 49 = .ok (.getfield 60, 3) := by decide +kernel
theorem dX3_setting_52 : decode cX3_setting 52 = .ok (.if_icmp .ge 23, 3) := by decide +kernel
theorem dX3_setting_55 : decode cX3_setting 55 = .ok (.aload_n 0, 1) := by decide +kernel
theorem dX3_setting_56 : decode cX3_setting 56 = .ok (.getfield 7, 3) := by decide +kernel
theorem dX3_setting_59 : decode cX3_setting 59 = .ok (.aload_n 0, 1) := by decide +kernel
theorem dX3_setting_60 : decode cX3_setting 60 = .ok (.getfield 63, 3) := by decide +kernel
theorem dX3_setting_63 : decode cX3_setting 63 = .ok (.iconst 1, 1) := by decide +kernel
theorem dX3_setting_64 : decode cX3_setting 64 = .ok (.iadd, 1) := by decide +kernel
theorem dX3_setting_65 : decode cX3_setting 65 = .ok (.iaload, 1) := by decide +kernel
theorem dX3_setting_66 : decode cX3_setting 66 = .ok (.bipush 61, 2) := by decide +kernel
theorem dX3_setting_68 : decode cX3_setting 68 = .ok (.if_icmp .ne 7, 3) := by decide +kernel
theorem dX3_setting_71 : decode cX3_setting 71 = .ok (.iconst 1, 1) := by decide +kernel
theorem dX3_setting_72 : decode cX3_setting 72 = .ok (.goto 4, 3) := by decide +kernel
theorem dX3_setting_75 : decode cX3_setting 75 = .ok (.iconst 0, 1) := by decide +kernel
theorem dX3_setting_76 : decode cX3_setting 76 = .ok (.istore 5, 2) := by decide +kernel
theorem dX3_setting_78 : decode cX3_setting 78 = .ok (.iload_n 3, 1) := by decide +kernel
theorem dX3_setting_79 : decode cX3_setting 79 = .ok (.ifCond .lt 17, 3) := by decide +kernel
theorem dX3_setting_82 : decode cX3_setting 82 = .ok (.iload 4, 2) := by decide +kernel
theorem dX3_setting_84 : decode cX3_setting 84 = .ok (.ifCond .ne 12, 3) := by decide +kernel
theorem dX3_setting_87 : decode cX3_setting 87 = .ok (.iload_n 1, 1) := by decide +kernel
theorem dX3_setting_88 : decode cX3_setting 88 = .ok (.iconst 4, 1) := by decide +kernel
theorem dX3_setting_89 : decode cX3_setting 89 = .ok (.if_icmp .ge 7, 3) := by decide +kernel
theorem dX3_setting_92 : decode cX3_setting 92 = .ok (.iconst 1, 1) := by decide +kernel
theorem dX3_setting_93 : decode cX3_setting 93 = .ok (.goto 4, 3) := by decide +kernel
theorem dX3_setting_96 : decode cX3_setting 96 = .ok (.iconst 0, 1) := by decide +kernel
theorem dX3_setting_97 : decode cX3_setting 97 = .ok (.istore 6, 2) := by decide +kernel
theorem dX3_setting_99 : decode cX3_setting 99 = .ok (.iload_n 1, 1) := by decide +kernel
theorem dX3_setting_100 : decode cX3_setting 100 = .ok (.ifCond .ne 10, 3) := by decide +kernel
theorem dX3_setting_103 : decode cX3_setting 103 = .ok (.iload 6, 2) := by decide +kernel
theorem dX3_setting_105 : decode cX3_setting 105 = .ok (.ifCond .ne 5, 3) := by decide +kernel
theorem dX3_setting_108 : decode cX3_setting 108 = .ok (.iconst 0, 1) := by decide +kernel
theorem dX3_setting_109 : decode cX3_setting 109 = .ok (.ireturn, 1) := by decide +kernel
theorem dX3_setting_110 : decode cX3_setting 110 = .ok (.iload 6, 2) := by decide +kernel
theorem dX3_setting_112 : decode cX3_setting 112 = .ok (.ifCond .eq 56, 3) := by decide +kernel
theorem dX3_setting_115 : decode cX3_setting 115 = .ok (.iload 5, 2) := by decide +kernel
theorem dX3_setting_117 : decode cX3_setting 117 = .ok (.ifCond .ne 11, 3) := by decide +kernel
theorem dX3_setting_120 : decode cX3_setting 120 = .ok (.iload_n 1, 1) := by decide +kernel
theorem dX3_setting_121 : decode cX3_setting 121 = .ok (.ifCond .eq 7, 3) := by decide +kernel
theorem dX3_setting_124 : decode cX3_setting 124 = .ok (.iload_n 3, 1) := by decide +kernel
theorem dX3_setting_125 : decode cX3_setting 125 = .ok (.ifCond .ne 43, 3) := by decide +kernel
theorem dX3_setting_128 : decode cX3_setting 128 = .ok (.aload_n 0, 1) := by decide +kernel
theorem dX3_setting_129 : decode cX3_setting 129 = .ok (.dup, 1) := by decide +kernel
theorem dX3_setting_130 : decode cX3_setting 130 = .ok (.getfield 63, 3) := by decide +kernel
theorem dX3_setting_133 : decode cX3_setting 133 = .ok (.iconst 1, 1) := by decide +kernel
theorem dX3_setting_134 : decode cX3_setting 134 = .ok (.iadd, 1) := by decide +kernel
theorem dX3_setting_135 : decode cX3_setting 135 = .ok (.putfield 63, 3) := by decide +kernel
theorem dX3_setting_138 : decode cX3_setting 138 = .ok (.aload_n 0, 1) := by decide +kernel
theorem dX3_setting_139 : decode cX3_setting 139 = .ok (.bipush 61, 2) := by decide +kernel
theorem dX3_setting_141 : decode cX3_setting 141 = .ok (.invokevirtual 77, 3) := by decide +kernel
theorem dX3_setting_144 : decode cX3_setting 144 = .ok (.ifCond .ne 5, 3) := by decide +kernel
theorem dX3_setting_147 : decode cX3_setting 147 = .ok (.iconst 0, 1) := by decide +kernel
theorem dX3_setting_148 : decode cX3_setting 148 = .ok (.ireturn, 1) := by decide +kernel
theorem dX3_setting_149 : decode cX3_setting 149 = .ok (.aload_n 0, 1) := by decide +kernel
theorem dX3_setting_150 : decode cX3_setting 150 = .ok (.getfield 22, 3) := by decide +kernel
theorem dX3_setting_153 : decode cX3_setting 153 = .ok (.bipush 64, 2) := by decide +kernel
theorem dX3_setting_155 : decode cX3_setting 155 = .ok (.dup2, 1) := by decide +kernel
theorem dX3_setting_156 : decode cX3_setting 156 = .ok (.iaload, 1) := by decide +kernel
theorem dX3_setting_157 : decode cX3_setting 157 = .ok (.iconst 1, 1) := by decide +kernel
theorem dX3_setting_158 : decode cX3_setting 158 = .ok (.iload_n 3, 1) := by decide +kernel
theorem dX3_setting_159 : decode cX3_setting 159 = .ok (.ishl, 1) := by decide +kernel
theorem dX3_setting_160 : decode cX3_setting 160 = .ok (.ior, 1) := by decide +kernel
theorem dX3_setting_161 : decode cX3_setting 161 = .ok (.iastore, 1) := by decide +kernel
theorem dX3_setting_162 : decode cX3_setting 162 = .ok (.iinc 1 1, 3) := by decide +kernel
theorem dX3_setting_165 : decode cX3_setting 165 = .ok (.goto 5, 3) := by decide +kernel
theorem dX3_setting_168 : decode cX3_setting 168 = .ok (.iconst 0, 1) := by decide +kernel
theorem dX3_setting_169 : decode cX3_setting 169 = .ok (.istore_n 2, 1) := by decide +kernel
theorem dX3_setting_170 : decode cX3_setting 170 = .ok (.goto (-166), 3) := by decide +kernel
theorem dX3_setting_173 : decode cX3_setting 173 = .ok (.aload_n 0, 1) := by decide +kernel
theorem dX3_setting_174 : decode cX3_setting 174 = .ok (.invokevirtual 87, 3) := by decide +kernel
theorem dX3_setting_177 : decode cX3_setting 177 = .ok (.ifCond .ne 5, 3) := by decide +kernel
theorem dX3_setting_180 : decode cX3_setting 180 = .ok (.iconst 0, 1) := by decide +kernel
theorem dX3_setting_181 : decode cX3_setting 181 = .ok (.ireturn, 1) := by decide +kernel
theorem dX3_setting_182 : decode cX3_setting 182 = .ok (.aload_n 0, 1) := by decide +kernel
theorem dX3_setting_183 : decode cX3_setting 183 = .ok (.bipush 60, 2) := by decide +kernel
theorem dX3_setting_185 : decode cX3_setting 185 = .ok (.invokevirtual 77, 3) := by decide +kernel
theorem dX3_setting_188 : decode cX3_setting 188 = .ok (.ifCond .eq 14, 3) := by decide +kernel
theorem dX3_setting_191 : decode cX3_setting 191 = .ok (.aload_n 0, 1) := by decide +kernel
theorem dX3_setting_192 : decode cX3_setting 192 = .ok (.getfield 31, 3) := by decide +kernel
theorem dX3_setting_195 : decode cX3_setting 195 = .ok (.bipush 64, 2) := by decide +kernel
theorem dX3_setting_197 : decode cX3_setting 197 = .ok (.iconst 1, 1) := by decide +kernel
theorem dX3_setting_198 : decode cX3_setting 198 = .ok (.iastore, 1) := by decide +kernel
theorem dX3_setting_199 : decode cX3_setting 199 = .ok (.goto 20, 3) := by decide +kernel
theorem dX3_setting_202 : decode cX3_setting 202 = .ok (.aload_n 0, 1) := by decide +kernel
theorem dX3_setting_203 : decode cX3_setting 203 = .ok (.bipush 62, 2) := by decide +kernel
theorem dX3_setting_205 : decode cX3_setting 205 = .ok (.invokevirtual 77, 3) := by decide +kernel
theorem dX3_setting_208 : decode cX3_setting 208 = .ok (.ifCond .eq 11, 3) := by decide +kernel
theorem dX3_setting_211 : decode cX3_setting 211 = .ok (.aload_n 0, 1) := by decide +kernel
theorem dX3_setting_212 : decode cX3_setting 212 = .ok (.getfield 31, 3) := by decide +kernel
theorem dX3_setting_215 : decode cX3_setting 215 = .ok (.bipush 64, 2) := by decide +kernel
theorem dX3_setting_217 : decode cX3_setting 217 = .ok (.iconst 2, 1) := by decide +kernel
theorem dX3_setting_218 : decode cX3_setting 218 = .ok (.iastore, 1) := by decide +kernel
theorem dX3_setting_219 : decode cX3_setting 219 = .ok (.aload_n 0, 1) := by decide +kernel
theorem dX3_setting_220 : decode cX3_setting 220 = .ok (.dup, 1) := by decide +kernel
theorem dX3_setting_221 : decode cX3_setting 221 = .ok (.getfield 91, 3) := by decide +kernel
theorem dX3_setting_224 : decode cX3_setting 224 = .ok (.iconst 1, 1) := by decide +kernel
theorem dX3_setting_225 : decode cX3_setting 225 = .ok (.iadd, 1) := by decide +kernel
theorem dX3_setting_226 : decode cX3_setting 226 = .ok (.putfield 91, 3) := by decide +kernel
theorem dX3_setting_229 : decode cX3_setting 229 = .ok (.iconst 1, 1) := by decide +kernel
theorem dX3_setting_230 : decode cX3_setting 230 = .ok (.ireturn, 1) := by decide +kernel
theorem dX3_has_0 : decode cX3_has 0 = .ok (.aload_n 0, 1) := by decide +kernel
theorem dX3_has_1 : decode cX3_has 1 = .ok (.invokevirtual 66, 3) := by decide +kernel
theorem dX3_has_4 : decode cX3_has 4 = .ok (.iload_n 1, 1) := by decide +kernel
theorem dX3_has_5 : decode cX3_has 5 = .ok (.if_icmp .eq 5, 3) := by decide +kernel
theorem dX3_has_8 : decode cX3_has 8 = .ok (.iconst 0, 1) := by decide +kernel
theorem dX3_has_9 : decode cX3_has 9 = .ok (.ireturn, 1) := by decide +kernel
theorem dX3_has_10 : decode cX3_has 10 = .ok (.aload_n 0, 1) := by decide +kernel
theorem dX3_has_11 : decode cX3_has 11 = .ok (.dup, 1) := by decide +kernel
theorem dX3_has_12 : decode cX3_has 12 = .ok (.getfield 63, 3) := by decide +kernel
theorem dX3_has_15 : decode cX3_has 15 = .ok (.iconst 1, 1) := by decide +kernel
theorem dX3_has_16 : decode cX3_has 16 = .ok (.iadd, 1) := by decide +kernel
theorem dX3_has_17 : decode cX3_has 17 = .ok (.putfield 63, 3) := by decide +kernel
theorem dX3_has_20 : decode cX3_has 20 = .ok (.iconst 1, 1) := by decide +kernel
theorem dX3_has_21 : decode cX3_has 21 = .ok (.ireturn, 1) := by decide +kernel
theorem dX3_value_0 : decode cX3_value 0 = .ok (.aload_n 0, 1) := by decide +kernel
theorem dX3_value_1 : decode cX3_value 1 = .ok (.bipush 33, 2) := by decide +kernel
theorem dX3_value_3 : decode cX3_value 3 = .ok (.invokevirtual 77, 3) := by decide +kernel
theorem dX3_value_6 : decode cX3_value 6 = .ok (.ifCond .eq 28, 3) := by decide +kernel
theorem dX3_value_9 : decode cX3_value 9 = .ok (.aload_n 0, 1) := by decide +kernel
theorem dX3_value_10 : decode cX3_value 10 = .ok (.bipush 72, 2) := by decide +kernel
theorem dX3_value_12 : decode cX3_value 12 = .ok (.invokevirtual 77, 3) := by decide +kernel
theorem dX3_value_15 : decode cX3_value 15 = .ok (.ifCond .eq 12, 3) := by decide +kernel
theorem dX3_value_18 : decode cX3_value 18 = .ok (.aload_n 0, 1) := by decide +kernel
theorem dX3_value_19 : decode cX3_value 19 = .ok (.bipush 11, 2) := by decide +kernel
theorem dX3_value_21 : decode cX3_value 21 = .ok (.invokevirtual 81, 3) := by decide +kernel
theorem dX3_value_24 : decode cX3_value 24 = .ok (.goto 9, 3) := by decide +kernel
theorem dX3_value_27 : decode cX3_value 27 = .ok (.aload_n 0, 1) := by decide +kernel
theorem dX3_value_28 : decode cX3_value 28 = .ok (.bipush 10, 2) := by decide +kernel
theorem dX3_value_30 : decode cX3_value 30 = .ok (.invokevirtual 84, 3) := by decide +kernel
theorem dX3_value_33 : decode cX3_value 33 = .ok (.ireturn, 1) := by decide +kernel
theorem dX3_value_34 : decode cX3_value 34 = .ok (.aload_n 0, 1) := by decide +kernel
theorem dX3_value_35 : decode cX3_value 35 = .ok (.bipush 45, 2) := by decide +kernel
theorem dX3_value_37 : decode cX3_value 37 = .ok (.invokevirtual 77, 3) := by decide +kernel
theorem dX3_value_40 : decode cX3_value 40 = .ok (.ifCond .eq 45, 3) := by decide +kernel
theorem dX3_value_43 : decode cX3_value 43 = .ok (.aload_n 0, 1) := by decide +kernel
theorem dX3_value_44 : decode cX3_value 44 = .ok (.bipush 72, 2) := by decide +kernel
theorem dX3_value_46 : decode cX3_value 46 = .ok (.invokevirtual 77, 3) := by decide +kernel
theorem dX3_value_49 : decode cX3_value 49 = .ok (.ifCond .eq 12, 3) := by decide +kernel
theorem dX3_value_52 : decode cX3_value 52 = .ok (.aload_n 0, 1) := by decide +kernel
theorem dX3_value_53 : decode cX3_value 53 = .ok (.bipush 12, 2) := by decide +kernel
theorem dX3_value_55 : decode cX3_value 55 = .ok (.invokevirtual 81, 3) := by decide +kernel
theorem dX3_value_58 : decode cX3_value 58 = .ok (.goto 26, 3) := by decide +kernel
theorem dX3_value_61 : decode cX3_value 61 = .ok (.aload_n 0, 1) := by decide +kernel
theorem dX3_value_62 : decode cX3_value 62 = .ok (.bipush 49, 2) := by decide +kernel
theorem dX3_value_64 : decode cX3_value 64 = .ok (.invokevirtual 77, 3) := by decide +kernel
theorem dX3_value_67 : decode cX3_value 67 = .ok (.ifCond .eq 16, 3) := by decide +kernel
theorem dX3_value_70 : decode cX3_value 70 = .ok (.aload_n 0, 1) := by decide +kernel
theorem dX3_value_71 : decode cX3_value 71 = .ok (.bipush 15, 2) := by decide +kernel
theorem dX3_value_73 : decode cX3_value 73 = .ok (.invokevirtual 81, 3) := by decide +kernel
theorem dX3_value_76 : decode cX3_value 76 = .ok (.ifCond .eq 7, 3) := by decide +kernel
theorem dX3_value_79 : decode cX3_value 79 = .ok (.iconst 1, 1) := by decide +kernel
theorem dX3_value_80 : decode cX3_value 80 = .ok (.goto 4, 3) := by decide +kernel
theorem dX3_value_83 : decode cX3_value 83 = .ok (.iconst 0, 1) := by decide +kernel
theorem dX3_value_84 : decode cX3_value 84 = .ok (.ireturn, 1) := by decide +kernel
theorem dX3_value_85 : decode cX3_value 85 = .ok (.aload_n 0, 1) := by decide +kernel
theorem dX3_value_86 : decode cX3_value 86 = .ok (.bipush 48, 2) := by decide +kernel
theorem dX3_value_88 : decode cX3_value 88 = .ok (.invokevirtual 77, 3) := by decide +kernel
theorem dX3_value_91 : decode cX3_value 91 = .ok (.ifCond .eq 10, 3) := by decide +kernel
theorem dX3_value_94 : decode cX3_value 94 = .ok (.aload_n 0, 1) := by decide +kernel
theorem dX3_value_95 : decode cX3_value 95 = .ok (.bipush 13, 2) := by decide +kernel
theorem dX3_value_97 : decode cX3_value 97 = .ok (.invokevirtual 81, 3) := by decide +kernel
theorem dX3_value_100 : decode cX3_value 100 = .ok (.ireturn, 1) := by decide +kernel
theorem dX3_value_101 : decode cX3_value 101 = .ok (.aload_n 0, 1) := by decide +kernel
theorem dX3_value_102 : decode cX3_value 102 = .ok (.bipush 49, 2) := by decide +kernel
theorem dX3_value_104 : decode cX3_value 104 = .ok (.invokevirtual 77, 3) := by decide +kernel
theorem dX3_value_107 : decode cX3_value 107 = .ok (.ifCond .eq 10, 3) := by decide +kernel
theorem dX3_value_110 : decode cX3_value 110 = .ok (.aload_n 0, 1) := by decide +kernel
theorem dX3_value_111 : decode cX3_value 111 = .ok (.bipush 14, 2) := by decide +kernel
theorem dX3_value_113 : decode cX3_value 113 = .ok (.invokevirtual 81, 3) := by decide +kernel
theorem dX3_value_116 : decode cX3_value 116 = .ok (.ireturn, 1) := by decide +kernel
theorem dX3_value_117 : decode cX3_value 117 = .ok (.aload_n 0, 1) := by decide +kernel
theorem dX3_value_118 : decode cX3_value 118 = .ok (.bipush 72, 2) := by decide +kernel
theorem dX3_value_120 : decode cX3_value 120 = .ok (.invokevirtual 77, 3) := by decide +kernel
theorem dX3_value_123 : decode cX3_value 123 = .ok (.ifCond .eq 108, 3) := by decide +kernel
theorem dX3_value_126 : decode cX3_value 126 = .ok (.aload_n 0, 1) := by decide +kernel
theorem dX3_value_127 : decode cX3_value 127 = .ok (.bipush 38, 2) := by decide +kernel
theorem dX3_value_129 : decode cX3_value 129 = .ok (.invokevirtual 77, 3) := by decide +kernel
theorem dX3_value_132 : decode cX3_value 132 = .ok (.ifCond .eq 10, 3) := by decide +kernel
theorem dX3_value_135 : decode cX3_value 135 = .ok (.aload_n 0, 1) := by decide +kernel
theorem dX3_value_136 : decode cX3_value 136 = .ok (.bipush 8, 2) := by decide +kernel
theorem dX3_value_138 : decode cX3_value 138 = .ok (.invokevirtual 84, 3) := by decide +kernel
theorem dX3_value_141 : decode cX3_value 141 = .ok (.ireturn, 1) := by decide +kernel
theorem dX3_value_142 : decode cX3_value 142 = .ok (.aload_n 0, 1) := by decide +kernel
theorem dX3_value_143 : decode cX3_value 143 = .ok (.bipush 124, 2) := by decide +kernel
theorem dX3_value_145 : decode cX3_value 145 = .ok (.invokevirtual 77, 3) := by decide +kernel
theorem dX3_value_148 : decode cX3_value 148 = .ok (.ifCond .eq 10, 3) := by decide +kernel
theorem dX3_value_151 : decode cX3_value 151 = .ok (.aload_n 0, 1) := by decide +kernel
theorem dX3_value_152 : decode cX3_value 152 = .ok (.bipush 9, 2) := by decide +kernel
theorem dX3_value_154 : decode cX3_value 154 = .ok (.invokevirtual 84, 3) := by decide +kernel
theorem dX3_value_157 : decode cX3_value 157 = .ok (.ireturn, 1) := by decide +kernel
theorem dX3_value_158 : decode cX3_value 158 = .ok (.aload_n 0, 1) := by decide +kernel
theorem dX3_value_159 : decode cX3_value 159 = .ok (.bipush 43, 2) := by decide +kernel
theorem dX3_value_161 : decode cX3_value 161 = .ok (.invokevirtual 77, 3) := by decide +kernel
theorem dX3_value_164 : decode cX3_value 164 = .ok (.ifCond .ne 9, 3) := by decide +kernel
theorem dX3_value_167 : decode cX3_value 167 = .ok (.aload_n 0, 1) := by decide +kernel
theorem dX3_value_168 : decode cX3_value 168 = .ok (.iconst 1, 1) := by decide +kernel
theorem dX3_value_169 : decode cX3_value 169 = .ok (.invokevirtual 81, 3) := by decide +kernel
theorem dX3_value_172 : decode cX3_value 172 = .ok (.ireturn, 1) := by decide +kernel
theorem dX3_value_173 : decode cX3_value 173 = .ok (.aload_n 0, 1) := by decide +kernel
theorem dX3_value_174 : decode cX3_value 174 = .ok (.bipush 49, 2) := by decide +kernel
theorem dX3_value_176 : decode cX3_value 176 = .ok (.invokevirtual 77, 3) := by decide +kernel
theorem dX3_value_179 : decode cX3_value 179 = .ok (.ifCond .eq 9, 3) := by decide +kernel
theorem dX3_value_182 : decode cX3_value 182 = .ok (.aload_n 0, 1) := by decide +kernel
theorem dX3_value_183 : decode cX3_value 183 = .ok (.iconst 4, 1) := by decide +kernel
theorem dX3_value_184 : decode cX3_value 184 = .ok (.invokevirtual 81, 3) := by decide +kernel
theorem dX3_value_187 : decode cX3_value 187 = .ok (.ireturn, 1) := by decide +kernel
theorem dX3_value_188 : decode cX3_value 188 = .ok (.aload_n 0, 1) := by decide +kernel
theorem dX3_value_189 : decode cX3_value 189 = .ok (.iconst 5, 1) := by decide +kernel
theorem dX3_value_190 : decode cX3_value 190 = .ok (.invokevirtual 84, 3) := by decide +kernel
theorem dX3_value_193 : decode cX3_value 193 = .ok (.ifCond .ne 5, 3) := by decide +kernel
theorem dX3_value_196 : decode cX3_value 196 = .ok (.iconst 0, 1) := by decide +kernel
theorem dX3_value_197 : decode cX3_value 197 = .ok (.ireturn, 1) := by decide +kernel
theorem dX3_value_198 : decode cX3_value 198 = .ok (.aload_n 0, 1) := by decide +kernel
theorem dX3_value_199 : decode cX3_value 199 = .ok (.bipush 43, 2) := by decide +kernel
theorem dX3_value_201 : decode cX3_value 201 = .ok (.invokevirtual 77, 3) := by decide +kernel
theorem dX3_value_204 : decode cX3_value 204 = .ok (.ifCond .eq 21, 3) := by decide +kernel
theorem dX3_value_207 : decode cX3_value 207 = .ok (.aload_n 0, 1) := by decide +kernel
theorem dX3_value_208 : decode cX3_value 208 = .ok (.bipush 49, 2) := by decide +kernel
theorem dX3_value_210 : decode cX3_value 210 = .ok (.invokevirtual 77, 3) := by decide +kernel
theorem dX3_value_213 : decode cX3_value 213 = .ok (.ifCond .eq 16, 3) := by decide +kernel
theorem dX3_value_216 : decode cX3_value 216 = .ok (.aload_n 0, 1) := by decide +kernel
theorem dX3_value_217 : decode cX3_value 217 = .ok (.bipush 6, 2) := by decide +kernel
theorem dX3_value_219 : decode cX3_value 219 = .ok (.invokevirtual 81, 3) := by decide +kernel
theorem dX3_value_222 : decode cX3_value 222 = .ok (.ifCond .eq 7, 3) := by decide +kernel
theorem dX3_value_225 : decode cX3_value 225 = .ok (.iconst 1, 1) := by decide +kernel
theorem dX3_value_226 : decode cX3_value 226 = .ok (.goto 4, 3) := by decide +kernel
theorem dX3_value_229 : decode cX3_value 229 = .ok (.iconst 0, 1) := by decide +kernel
theorem dX3_value_230 : decode cX3_value 230 = .ok (.ireturn, 1) := by decide +kernel
theorem dX3_value_231 : decode cX3_value 231 = .ok (.aload_n 0, 1) := by decide +kernel
theorem dX3_value_232 : decode cX3_value 232 = .ok (.iconst 0, 1) := by decide +kernel
theorem dX3_value_233 : decode cX3_value 233 = .ok (.invokevirtual 84, 3) := by decide +kernel
theorem dX3_value_236 : decode cX3_value 236 = .ok (.ifCond .ne 5, 3) := by decide +kernel
theorem dX3_value_239 : decode cX3_value 239 = .ok (.iconst 0, 1) := by decide +kernel
theorem dX3_value_240 : decode cX3_value 240 = .ok (.ireturn, 1) := by decide +kernel
theorem dX3_value_241 : decode cX3_value 241 = .ok (.aload_n 0, 1) := by decide +kernel
theorem dX3_value_242 : decode cX3_value 242 = .ok (.bipush 43, 2) := by decide +kernel
theorem dX3_value_244 : decode cX3_value 244 = .ok (.invokevirtual 77, 3) := by decide +kernel
theorem dX3_value_247 : decode cX3_value 247 = .ok (.ifCond .eq 26, 3) := by decide +kernel
theorem dX3_value_250 : decode cX3_value 250 = .ok (.aload_n 0, 1) := by decide +kernel
theorem dX3_value_251 : decode cX3_value 251 = .ok (.bipush 49, 2) := by decide +kernel
theorem dX3_value_253 : decode cX3_value 253 = .ok (.invokevirtual 77, 3) := by decide +kernel
theorem dX3_value_256 : decode cX3_value 256 = .ok (.ifCond .eq 15, 3) := by decide +kernel
theorem dX3_value_259 : decode cX3_value 259 = .ok (.aload_n 0, 1) := by decide +kernel
theorem dX3_value_260 : decode cX3_value 260 = .ok (.iconst 2, 1) := by decide +kernel
theorem dX3_value_261 : decode cX3_value 261 = .ok (.invokevirtual 81, 3) := by decide +kernel
theorem dX3_value_264 : decode cX3_value 264 = .ok (.ifCond .eq 7, 3) := by decide +kernel
theorem dX3_value_267 : decode cX3_value 267 = .ok (.iconst 1, 1) := by decide +kernel
theorem dX3_value_268 : decode cX3_value 268 = .ok (.goto 4, 3) := by decide +kernel
theorem dX3_value_271 : decode cX3_value 271 = .ok (.iconst 0, 1) := by decide +kernel
theorem dX3_value_272 : decode cX3_value 272 = .ok (.ireturn, 1) := by decide +kernel
theorem dX3_value_273 : decode cX3_value 273 = .ok (.aload_n 0, 1) := by decide +kernel
theorem dX3_value_274 : decode cX3_value 274 = .ok (.bipush 45, 2) := by decide +kernel
theorem dX3_value_276 : decode cX3_value 276 = .ok (.invokevirtual 77, 3) := by decide +kernel
theorem dX3_value_279 : decode cX3_value 279 = .ok (.ifCond .ne 5, 3) := by decide +kernel
theorem dX3_value_282 : decode cX3_value 282 = .ok (.iconst 1, 1) := by decide +kernel
theorem dX3_value_283 : decode cX3_value 283 = .ok (.ireturn, 1) := by decide +kernel
theorem dX3_value_284 : decode cX3_value 284 = .ok (.aload_n 0, 1) := by decide +kernel
theorem dX3_value_285 : decode cX3_value 285 = .ok (.bipush 72, 2) := by decide +kernel
theorem dX3_value_287 : decode cX3_value 287 = .ok (.invokevirtual 77, 3) := by decide +kernel
theorem dX3_value_290 : decode cX3_value 290 = .ok (.ifCond .eq 12, 3) := by decide +kernel
theorem dX3_value_293 : decode cX3_value 293 = .ok (.aload_n 0, 1) := by decide +kernel
theorem dX3_value_294 : decode cX3_value 294 = .ok (.bipush 7, 2) := by decide +kernel
theorem dX3_value_296 : decode cX3_value 296 = .ok (.invokevirtual 81, 3) := by decide +kernel
theorem dX3_value_299 : decode cX3_value 299 = .ok (.goto 25, 3) := by decide +kernel
theorem dX3_value_302 : decode cX3_value 302 = .ok (.aload_n 0, 1) := by decide +kernel
theorem dX3_value_303 : decode cX3_value 303 = .ok (.bipush 49, 2) := by decide +kernel
theorem dX3_value_305 : decode cX3_value 305 = .ok (.invokevirtual 77, 3) := by decide +kernel
theorem dX3_value_308 : decode cX3_value 308 = .ok (.ifCond .eq 15, 3) := by decide +kernel
theorem dX3_value_311 : decode cX3_value 311 = .ok (.aload_n 0, 1) := by decide +kernel
theorem dX3_value_312 : decode cX3_value 312 = .ok (.iconst 3, 1) := by decide +kernel
theorem dX3_value_313 : decode cX3_value 313 = .ok (.invokevirtual 81, 3) := by decide +kernel
theorem dX3_value_316 : decode cX3_value 316 = .ok (.ifCond .eq 7, 3) := by decide +kernel
theorem dX3_value_319 : decode cX3_value 319 = .ok (.iconst 1, 1) := by decide +kernel
theorem dX3_value_320 : decode cX3_value 320 = .ok (.goto 4, 3) := by decide +kernel
theorem dX3_value_323 : decode cX3_value 323 = .ok (.iconst 0, 1) := by decide +kernel
theorem dX3_value_324 : decode cX3_value 324 = .ok (.ireturn, 1) := by decide +kernel
theorem dX3_plain_0 : decode cX3_plain 0 = .ok (.aload_n 0, 1) := by decide +kernel
theorem dX3_plain_1 : decode cX3_plain 1 = .ok (.getfield 25, 3) := by decide +kernel
theorem dX3_plain_4 : decode cX3_plain 4 = .ok (.bipush 64, 2) := by decide +kernel
theorem dX3_plain_6 : decode cX3_plain 6 = .ok (.iload_n 1, 1) := by decide +kernel
theorem dX3_plain_7 : decode cX3_plain 7 = .ok (.iastore, 1) := by decide +kernel
theorem dX3_plain_8 : decode cX3_plain 8 = .ok (.iconst 1, 1) := by decide +kernel
theorem dX3_plain_9 : decode cX3_plain 9 = .ok (.ireturn, 1) := by decide +kernel
theorem dX3_bus_0 : decode cX3_bus 0 = .ok (.aload_n 0, 1) := by decide +kernel
theorem dX3_bus_1 : decode cX3_bus 1 = .ok (.getfield 28, 3) := by decide +kernel
theorem dX3_bus_4 : decode cX3_bus 4 = .ok (.bipush 64, 2) := by decide +kernel
theorem dX3_bus_6 : decode cX3_bus 6 = .ok (.aload_n 0, 1) := by decide +kernel
theorem dX3_bus_7 : decode cX3_bus 7 = .ok (.aload_n 0, 1) := by decide +kernel
theorem dX3_bus_8 : decode cX3_bus 8 = .ok (.invokevirtual 66, 3) := by decide +kernel
theorem dX3_bus_11 : decode cX3_bus 11 = .ok (.invokevirtual 74, 3) := by decide +kernel
theorem dX3_bus_14 : decode cX3_bus 14 = .ok (.iastore, 1) := by decide +kernel
theorem dX3_bus_15 : decode cX3_bus 15 = .ok (.aload_n 0, 1) := by decide +kernel
theorem dX3_bus_16 : decode cX3_bus 16 = .ok (.getfield 28, 3) := by decide +kernel
theorem dX3_bus_19 : decode cX3_bus 19 = .ok (.bipush 64, 2) := by decide +kernel
theorem dX3_bus_21 : decode cX3_bus 21 = .ok (.iaload, 1) := by decide +kernel
theorem dX3_bus_22 : decode cX3_bus 22 = .ok (.ifCond .ge 5, 3) := by decide +kernel
theorem dX3_bus_25 : decode cX3_bus 25 = .ok (.iconst 0, 1) := by decide +kernel
theorem dX3_bus_26 : decode cX3_bus 26 = .ok (.ireturn, 1) := by decide +kernel
theorem dX3_bus_27 : decode cX3_bus 27 = .ok (.aload_n 0, 1) := by decide +kernel
theorem dX3_bus_28 : decode cX3_bus 28 = .ok (.dup, 1) := by decide +kernel
theorem dX3_bus_29 : decode cX3_bus 29 = .ok (.getfield 63, 3) := by decide +kernel
theorem dX3_bus_32 : decode cX3_bus 32 = .ok (.iconst 1, 1) := by decide +kernel
theorem dX3_bus_33 : decode cX3_bus 33 = .ok (.iadd, 1) := by decide +kernel
theorem dX3_bus_34 : decode cX3_bus 34 = .ok (.putfield 63, 3) := by decide +kernel
theorem dX3_bus_37 : decode cX3_bus 37 = .ok (.aload_n 0, 1) := by decide +kernel
theorem dX3_bus_38 : decode cX3_bus 38 = .ok (.getfield 25, 3) := by decide +kernel
theorem dX3_bus_41 : decode cX3_bus 41 = .ok (.bipush 64, 2) := by decide +kernel
theorem dX3_bus_43 : decode cX3_bus 43 = .ok (.iload_n 1, 1) := by decide +kernel
theorem dX3_bus_44 : decode cX3_bus 44 = .ok (.iastore, 1) := by decide +kernel
theorem dX3_bus_45 : decode cX3_bus 45 = .ok (.iconst 1, 1) := by decide +kernel
theorem dX3_bus_46 : decode cX3_bus 46 = .ok (.ireturn, 1) := by decide +kernel
theorem dX3_onBus_0 : decode cX3_onBus 0 = .ok (.iload_n 1, 1) := by decide +kernel
theorem dX3_onBus_1 : decode cX3_onBus 1 = .ok (.bipush 77, 2) := by decide +kernel
theorem dX3_onBus_3 : decode cX3_onBus 3 = .ok (.if_icmp .ne 6, 3) := by decide +kernel
theorem dX3_onBus_6 : decode cX3_onBus 6 = .ok (.bipush 9, 2) := by decide +kernel
theorem dX3_onBus_8 : decode cX3_onBus 8 = .ok (.ireturn, 1) := by decide +kernel
theorem dX3_onBus_9 : decode cX3_onBus 9 = .ok (.iload_n 1, 1) := by decide +kernel
theorem dX3_onBus_10 : decode cX3_onBus 10 = .ok (.bipush 85, 2) := by decide +kernel
theorem dX3_onBus_12 : decode cX3_onBus 12 = .ok (.if_icmp .ne 6, 3) := by decide +kernel
theorem dX3_onBus_15 : decode cX3_onBus 15 = .ok (.bipush 10, 2) := by decide +kernel
theorem dX3_onBus_17 : decode cX3_onBus 17 = .ok (.ireturn, 1) := by decide +kernel
theorem dX3_onBus_18 : decode cX3_onBus 18 = .ok (.iload_n 1, 1) := by decide +kernel
theorem dX3_onBus_19 : decode cX3_onBus 19 = .ok (.bipush 65, 2) := by decide +kernel
theorem dX3_onBus_21 : decode cX3_onBus 21 = .ok (.if_icmp .eq 9, 3) := by decide +kernel
theorem dX3_onBus_24 : decode cX3_onBus 24 = .ok (.iload_n 1, 1) := by decide +kernel
theorem dX3_onBus_25 : decode cX3_onBus 25 = .ok (.bipush 72, 2) := by decide +kernel
theorem dX3_onBus_27 : decode cX3_onBus 27 = .ok (.if_icmp .ne 7, 3) := by decide +kernel
theorem dX3_onBus_30 : decode cX3_onBus 30 = .ok (.iconst (-1), 1) := by decide +kernel
theorem dX3_onBus_31 : decode cX3_onBus 31 = .ok (.goto 8, 3) := by decide +kernel
theorem dX3_onBus_34 : decode cX3_onBus 34 = .ok (.aload_n 0, 1) := by decide +kernel
theorem dX3_onBus_35 : decode cX3_onBus 35 = .ok (.iload_n 1, 1) := by decide +kernel
theorem dX3_onBus_36 : decode cX3_onBus 36 = .ok (.invokevirtual 70, 3) := by decide +kernel
theorem dX3_onBus_39 : decode cX3_onBus 39 = .ok (.ireturn, 1) := by decide +kernel
theorem dX3_asking_0 : decode cX3_asking 0 = .ok (.aload_n 0, 1) := by decide +kernel
theorem dX3_asking_1 : decode cX3_asking 1 = .ok (.dup, 1) := by decide +kernel
theorem dX3_asking_2 : decode cX3_asking 2 = .ok (.getfield 63, 3) := by decide +kernel
theorem dX3_asking_5 : decode cX3_asking 5 = .ok (.iconst 1, 1) := by decide +kernel
theorem dX3_asking_6 : decode cX3_asking 6 = .ok (.iadd, 1) := by decide +kernel
theorem dX3_asking_7 : decode cX3_asking 7 = .ok (.putfield 63, 3) := by decide +kernel
theorem dX3_asking_10 : decode cX3_asking 10 = .ok (.aload_n 0, 1) := by decide +kernel
theorem dX3_asking_11 : decode cX3_asking 11 = .ok (.dup, 1) := by decide +kernel
theorem dX3_asking_12 : decode cX3_asking 12 = .ok (.getfield 91, 3) := by decide +kernel
theorem dX3_asking_15 : decode cX3_asking 15 = .ok (.iconst 1, 1) := by decide +kernel
theorem dX3_asking_16 : decode cX3_asking 16 = .ok (.iadd, 1) := by decide +kernel
theorem dX3_asking_17 : decode cX3_asking 17 = .ok (.putfield 91, 3) := by decide +kernel
theorem dX3_asking_20 : decode cX3_asking 20 = .ok (.iload_n 1, 1) := by decide +kernel
theorem dX3_asking_21 : decode cX3_asking 21 = .ok (.bipush 102, 2) := by decide +kernel
theorem dX3_asking_23 : decode cX3_asking 23 = .ok (.if_icmp .ne 14, 3) := by decide +kernel
theorem dX3_asking_26 : decode cX3_asking 26 = .ok (.aload_n 0, 1) := by decide +kernel
theorem dX3_asking_27 : decode cX3_asking 27 = .ok (.getfield 37, 3) := by decide +kernel
theorem dX3_asking_30 : decode cX3_asking 30 = .ok (.bipush 64, 2) := by decide +kernel
theorem dX3_asking_32 : decode cX3_asking 32 = .ok (.iconst 1, 1) := by decide +kernel
theorem dX3_asking_33 : decode cX3_asking 33 = .ok (.iastore, 1) := by decide +kernel
theorem dX3_asking_34 : decode cX3_asking 34 = .ok (.goto 21, 3) := by decide +kernel
theorem dX3_asking_37 : decode cX3_asking 37 = .ok (.aload_n 0, 1) := by decide +kernel
theorem dX3_asking_38 : decode cX3_asking 38 = .ok (.getfield 34, 3) := by decide +kernel
theorem dX3_asking_41 : decode cX3_asking 41 = .ok (.bipush 64, 2) := by decide +kernel
theorem dX3_asking_43 : decode cX3_asking 43 = .ok (.iload_n 1, 1) := by decide +kernel
theorem dX3_asking_44 : decode cX3_asking 44 = .ok (.bipush 114, 2) := by decide +kernel
theorem dX3_asking_46 : decode cX3_asking 46 = .ok (.if_icmp .ne 7, 3) := by decide +kernel
theorem dX3_asking_49 : decode cX3_asking 49 = .ok (.iconst 1, 1) := by decide +kernel
theorem dX3_asking_50 : decode cX3_asking 50 = .ok (.goto 4, 3) := by decide +kernel
theorem dX3_asking_53 : decode cX3_asking 53 = .ok (.iconst 2, 1) := by decide +kernel
theorem dX3_asking_54 : decode cX3_asking 54 = .ok (.iastore, 1) := by decide +kernel
theorem dX3_asking_55 : decode cX3_asking 55 = .ok (.iconst 1, 1) := by decide +kernel
theorem dX3_asking_56 : decode cX3_asking 56 = .ok (.ireturn, 1) := by decide +kernel
theorem dX3_going_0 : decode cX3_going 0 = .ok (.aload_n 0, 1) := by decide +kernel
theorem dX3_going_1 : decode cX3_going 1 = .ok (.dup, 1) := by decide +kernel
theorem dX3_going_2 : decode cX3_going 2 = .ok (.getfield 63, 3) := by decide +kernel
theorem dX3_going_5 : decode cX3_going 5 = .ok (.iconst 1, 1) := by decide +kernel
theorem dX3_going_6 : decode cX3_going 6 = .ok (.iadd, 1) := by decide +kernel
theorem dX3_going_7 : decode cX3_going 7 = .ok (.putfield 63, 3) := by decide +kernel
theorem dX3_going_10 : decode cX3_going 10 = .ok (.aload_n 0, 1) := by decide +kernel
theorem dX3_going_11 : decode cX3_going 11 = .ok (.dup, 1) := by decide +kernel
theorem dX3_going_12 : decode cX3_going 12 = .ok (.getfield 91, 3) := by decide +kernel
theorem dX3_going_15 : decode cX3_going 15 = .ok (.iconst 1, 1) := by decide +kernel
theorem dX3_going_16 : decode cX3_going 16 = .ok (.iadd, 1) := by decide +kernel
theorem dX3_going_17 : decode cX3_going 17 = .ok (.putfield 91, 3) := by decide +kernel
theorem dX3_going_20 : decode cX3_going 20 = .ok (.aload_n 0, 1) := by decide +kernel
theorem dX3_going_21 : decode cX3_going 21 = .ok (.getfield 40, 3) := by decide +kernel
theorem dX3_going_24 : decode cX3_going 24 = .ok (.bipush 64, 2) := by decide +kernel
theorem dX3_going_26 : decode cX3_going 26 = .ok (.iload_n 1, 1) := by decide +kernel
theorem dX3_going_27 : decode cX3_going 27 = .ok (.bipush 103, 2) := by decide +kernel
theorem dX3_going_29 : decode cX3_going 29 = .ok (.if_icmp .ne 7, 3) := by decide +kernel
theorem dX3_going_32 : decode cX3_going 32 = .ok (.iconst 1, 1) := by decide +kernel
theorem dX3_going_33 : decode cX3_going 33 = .ok (.goto 24, 3) := by decide +kernel
theorem dX3_going_36 : decode cX3_going 36 = .ok (.iload_n 1, 1) := by decide +kernel
theorem dX3_going_37 : decode cX3_going 37 = .ok (.bipush 122, 2) := by decide +kernel
theorem dX3_going_39 : decode cX3_going 39 = .ok (.if_icmp .ne 7, 3) := by decide +kernel
theorem dX3_going_42 : decode cX3_going 42 = .ok (.iconst 2, 1) := by decide +kernel
theorem dX3_going_43 : decode cX3_going 43 = .ok (.goto 14, 3) := by decide +kernel
theorem dX3_going_46 : decode cX3_going 46 = .ok (.iload_n 1, 1) := by decide +kernel
theorem dX3_going_47 : decode cX3_going 47 = .ok (.bipush 110, 2) := by decide +kernel
theorem dX3_going_49 : decode cX3_going 49 = .ok (.if_icmp .ne 7, 3) := by decide +kernel
theorem dX3_going_52 : decode cX3_going 52 = .ok (.iconst 3, 1) := by decide +kernel
theorem dX3_going_53 : decode cX3_going 53 = .ok (.goto 4, 3) := by decide +kernel
theorem dX3_going_56 : decode cX3_going 56 = .ok (.iconst 4, 1) := by decide +kernel
theorem dX3_going_57 : decode cX3_going 57 = .ok (.iastore, 1) := by decide +kernel
theorem dX3_going_58 : decode cX3_going 58 = .ok (.aload_n 0, 1) := by decide +kernel
theorem dX3_going_59 : decode cX3_going 59 = .ok (.getfield 43, 3) := by decide +kernel
theorem dX3_going_62 : decode cX3_going 62 = .ok (.bipush 64, 2) := by decide +kernel
theorem dX3_going_64 : decode cX3_going 64 = .ok (.aload_n 0, 1) := by decide +kernel
theorem dX3_going_65 : decode cX3_going 65 = .ok (.invokevirtual 94, 3) := by decide +kernel
theorem dX3_going_68 : decode cX3_going 68 = .ok (.iastore, 1) := by decide +kernel
theorem dX3_going_69 : decode cX3_going 69 = .ok (.iload_n 1, 1) := by decide +kernel
theorem dX3_going_70 : decode cX3_going 70 = .ok (.bipush 109, 2) := by decide +kernel
theorem dX3_going_72 : decode cX3_going 72 = .ok (.if_icmp .ne 5, 3) := by decide +kernel
theorem dX3_going_75 : decode cX3_going 75 = .ok (.iconst 1, 1) := by decide +kernel
theorem dX3_going_76 : decode cX3_going 76 = .ok (.ireturn, 1) := by decide +kernel
theorem dX3_going_77 : decode cX3_going 77 = .ok (.aload_n 0, 1) := by decide +kernel
theorem dX3_going_78 : decode cX3_going 78 = .ok (.getfield 43, 3) := by decide +kernel
theorem dX3_going_81 : decode cX3_going 81 = .ok (.bipush 64, 2) := by decide +kernel
theorem dX3_going_83 : decode cX3_going 83 = .ok (.iaload, 1) := by decide +kernel
theorem dX3_going_84 : decode cX3_going 84 = .ok (.ifCond .ge 5, 3) := by decide +kernel
theorem dX3_going_87 : decode cX3_going 87 = .ok (.iconst 0, 1) := by decide +kernel
theorem dX3_going_88 : decode cX3_going 88 = .ok (.ireturn, 1) := by decide +kernel
theorem dX3_going_89 : decode cX3_going 89 = .ok (.iload_n 1, 1) := by decide +kernel
theorem dX3_going_90 : decode cX3_going 90 = .ok (.bipush 103, 2) := by decide +kernel
theorem dX3_going_92 : decode cX3_going 92 = .ok (.if_icmp .ne 5, 3) := by decide +kernel
theorem dX3_going_95 : decode cX3_going 95 = .ok (.iconst 1, 1) := by decide +kernel
theorem dX3_going_96 : decode cX3_going 96 = .ok (.ireturn, 1) := by decide +kernel
theorem dX3_going_97 : decode cX3_going 97 = .ok (.aload_n 0, 1) := by decide +kernel
theorem dX3_going_98 : decode cX3_going 98 = .ok (.bipush 44, 2) := by decide +kernel
theorem dX3_going_100 : decode cX3_going 100 = .ok (.invokevirtual 77, 3) := by decide +kernel
theorem dX3_going_103 : decode cX3_going 103 = .ok (.ifCond .ne 5, 3) := by decide +kernel
theorem dX3_going_106 : decode cX3_going 106 = .ok (.iconst 0, 1) := by decide +kernel
theorem dX3_going_107 : decode cX3_going 107 = .ok (.ireturn, 1) := by decide +kernel
theorem dX3_going_108 : decode cX3_going 108 = .ok (.aload_n 0, 1) := by decide +kernel
theorem dX3_going_109 : decode cX3_going 109 = .ok (.getfield 46, 3) := by decide +kernel
theorem dX3_going_112 : decode cX3_going 112 = .ok (.bipush 64, 2) := by decide +kernel
theorem dX3_going_114 : decode cX3_going 114 = .ok (.aload_n 0, 1) := by decide +kernel
theorem dX3_going_115 : decode cX3_going 115 = .ok (.invokevirtual 94, 3) := by decide +kernel
theorem dX3_going_118 : decode cX3_going 118 = .ok (.iastore, 1) := by decide +kernel
theorem dX3_going_119 : decode cX3_going 119 = .ok (.aload_n 0, 1) := by decide +kernel
theorem dX3_going_120 : decode cX3_going 120 = .ok (.getfield 46, 3) := by decide +kernel
theorem dX3_going_123 : decode cX3_going 123 = .ok (.bipush 64, 2) := by decide +kernel
theorem dX3_going_125 : decode cX3_going 125 = .ok (.iaload, 1) := by decide +kernel
theorem dX3_going_126 : decode cX3_going 126 = .ok (.ifCond .lt 7, 3) := by decide +kernel
theorem dX3_going_129 : decode cX3_going 129 = .ok (.iconst 1, 1) := by decide +kernel
theorem dX3_going_130 : decode cX3_going 130 = .ok (.goto 4, 3) := by decide +kernel
theorem dX3_going_133 : decode cX3_going 133 = .ok (.iconst 0, 1) := by decide +kernel
theorem dX3_going_134 : decode cX3_going 134 = .ok (.ireturn, 1) := by decide +kernel
end
section
theorem dX3_number_0 : decode cX3_number 0 = .ok (.aload_n 0, 1) := by decide +kernel
theorem dX3_number_1 : decode cX3_number 1 = .ok (.invokevirtual 66, 3) := by decide +kernel
theorem dX3_number_4 : decode cX3_number 4 = .ok (.bipush 48, 2) := by decide +kernel
theorem dX3_number_6 : decode cX3_number 6 = .ok (.isub, 1) := by decide +kernel
theorem dX3_number_7 : decode cX3_number 7 = .ok (.istore_n 1, 1) := by decide +kernel
theorem dX3_number_8 : decode cX3_number 8 = .ok (.iload_n 1, 1) := by decide +kernel
theorem dX3_number_9 : decode cX3_number 9 = .ok (.ifCond .lt 9, 3) := by decide +kernel
theorem dX3_number_12 : decode cX3_number 12 = .ok (.iload_n 1, 1) := by decide +kernel
theorem dX3_number_13 : decode cX3_number 13 = .ok (.bipush 9, 2) := by decide +kernel
theorem dX3_number_15 : decode cX3_number 15 = .ok (.if_icmp .le 5, 3) := by decide +kernel
theorem dX3_number_18 : decode cX3_number 18 = .ok (.iconst (-1), 1) := by decide +kernel
theorem dX3_number_19 : decode cX3_number 19 = .ok (.ireturn, 1) := by decide +kernel
theorem dX3_number_20 : decode cX3_number 20 = .ok (.aload_n 0, 1) := by decide +kernel
theorem dX3_number_21 : decode cX3_number 21 = .ok (.dup, 1) := by decide +kernel
theorem dX3_number_22 : decode cX3_number 22 = .ok (.getfield 63, 3) := by decide +kernel
theorem dX3_number_25 : decode cX3_number 25 = .ok (.iconst 1, 1) := by decide +kernel
theorem dX3_number_26 : decode cX3_number 26 = .ok (.iadd, 1) := by decide +kernel
theorem dX3_number_27 : decode cX3_number 27 = .ok (.putfield 63, 3) := by decide +kernel
theorem dX3_number_30 : decode cX3_number 30 = .ok (.aload_n 0, 1) := by decide +kernel
theorem dX3_number_31 : decode cX3_number 31 = .ok (.invokevirtual 66, 3) := by decide +kernel
theorem dX3_number_34 : decode cX3_number 34 = .ok (.bipush 48, 2) := by decide +kernel
theorem dX3_number_36 : decode cX3_number 36 = .ok (.isub, 1) := by decide +kernel
theorem dX3_number_37 : decode cX3_number 37 = .ok (.istore_n 2, 1) := by decide +kernel
theorem dX3_number_38 : decode cX3_number 38 = .ok (.iload_n 2, 1) := by decide +kernel
theorem dX3_number_39 : decode cX3_number 39 = .ok (.ifCond .lt 37, 3) := by decide +kernel
theorem dX3_number_42 : decode cX3_number 42 = .ok (.iload_n 2, 1) := by decide +kernel
theorem dX3_number_43 : decode cX3_number 43 = .ok (.bipush 9, 2) := by decide +kernel
theorem dX3_number_45 : decode cX3_number 45 = .ok (.if_icmp .gt 31, 3) := by decide +kernel
theorem dX3_number_48 : decode cX3_number 48 = .ok (.iload_n 1, 1) := by decide +kernel
theorem dX3_number_49 : decode cX3_number 49 = .ok (.bipush 10, 2) := by decide +kernel
theorem dX3_number_51 : decode cX3_number 51 = .ok (.imul, 1) := by decide +kernel
theorem dX3_number_52 : decode cX3_number 52 = .ok (.iload_n 2, 1) := by decide +kernel
theorem dX3_number_53 : decode cX3_number 53 = .ok (.iadd, 1) := by decide +kernel
theorem dX3_number_54 : decode cX3_number 54 = .ok (.bipush 63, 2) := by decide +kernel
theorem dX3_number_56 : decode cX3_number 56 = .ok (.if_icmp .gt 20, 3) := by decide +kernel
theorem dX3_number_59 : decode cX3_number 59 = .ok (.aload_n 0, 1) := by decide +kernel
theorem dX3_number_60 : decode cX3_number 60 = .ok (.dup, 1) := by decide +kernel
theorem dX3_number_61 : decode cX3_number 61 = .ok (.getfield 63, 3) := by decide +kernel
theorem dX3_number_64 : decode cX3_number 64 = .ok (.iconst 1, 1) := by decide +kernel
theorem dX3_number_65 : decode cX3_number 65 = .ok (.iadd, 1) := by decide +kernel
theorem dX3_number_66 : decode cX3_number 66 = .ok (.putfield 63, 3) := by decide +kernel
theorem dX3_number_69 : decode cX3_number 69 = .ok (.iload_n 1, 1) := by decide +kernel
theorem dX3_number_70 : decode cX3_number 70 = .ok (.bipush 10, 2) := by decide +kernel
theorem dX3_number_72 : decode cX3_number 72 = .ok (.imul, 1) := by decide +kernel
theorem dX3_number_73 : decode cX3_number 73 = .ok (.iload_n 2, 1) := by decide +kernel
theorem dX3_number_74 : decode cX3_number 74 = .ok (.iadd, 1) := by decide +kernel
theorem dX3_number_75 : decode cX3_number 75 = .ok (.istore_n 1, 1) := by decide +kernel
theorem dX3_number_76 : decode cX3_number 76 = .ok (.iload_n 1, 1) := by decide +kernel
theorem dX3_number_77 : decode cX3_number 77 = .ok (.ireturn, 1) := by decide +kernel
theorem dX3_erase_0 : decode cX3_erase 0 = .ok (.aload_n 0, 1) := by decide +kernel
theorem dX3_erase_1 : decode cX3_erase 1 = .ok (.iload_n 1, 1) := by decide +kernel
theorem dX3_erase_2 : decode cX3_erase 2 = .ok (.ifCond .lt 9, 3) := by decide +kernel
theorem dX3_erase_5 : decode cX3_erase 5 = .ok (.iload_n 1, 1) := by decide +kernel
theorem dX3_erase_6 : decode cX3_erase 6 = .ok (.bipush 63, 2) := by decide +kernel
theorem dX3_erase_8 : decode cX3_erase 8 = .ok (.if_icmp .le 7, 3) := by decide +kernel
theorem dX3_erase_11 : decode cX3_erase 11 = .ok (.iconst 1, 1) := by decide +kernel
theorem dX3_erase_12 : decode cX3_erase 12 = .ok (.goto 17, 3) := by decide +kernel
theorem dX3_erase_15 : decode cX3_erase 15 = .ok (.aload_n 0, 1) := by decide +kernel
theorem dX3_erase_16 : decode cX3_erase 16 = .ok (.getfield 49, 3) := by decide +kernel
theorem dX3_erase_19 : decode cX3_erase 19 = .ok (.iload_n 1, 1) := by decide +kernel
theorem dX3_erase_20 : decode cX3_erase 20 = .ok (.baload, 1) := by decide +kernel
theorem dX3_erase_21 : decode cX3_erase 21 = .ok (.ifCond .ne 7, 3) := by decide +kernel
theorem dX3_erase_24 : decode cX3_erase 24 = .ok (.iconst 2, 1) := by decide +kernel
theorem dX3_erase_25 : decode cX3_erase 25 = .ok (.goto 4, 3) := by decide +kernel
theorem dX3_erase_28 : decode cX3_erase 28 = .ok (.iconst 0, 1) := by decide +kernel
theorem dX3_erase_29 : decode cX3_erase 29 = .ok (.putfield 57, 3) := by decide +kernel
theorem dX3_erase_32 : decode cX3_erase 32 = .ok (.aload_n 0, 1) := by decide +kernel
theorem dX3_erase_33 : decode cX3_erase 33 = .ok (.getfield 57, 3) := by decide +kernel
theorem dX3_erase_36 : decode cX3_erase 36 = .ok (.ifCond .ne 10, 3) := by decide +kernel
theorem dX3_erase_39 : decode cX3_erase 39 = .ok (.aload_n 0, 1) := by decide +kernel
theorem dX3_erase_40 : decode cX3_erase 40 = .ok (.getfield 49, 3) := by decide +kernel
theorem dX3_erase_43 : decode cX3_erase 43 = .ok (.iload_n 1, 1) := by decide +kernel
theorem dX3_erase_44 : decode cX3_erase 44 = .ok (.iconst 0, 1) := by decide +kernel
theorem dX3_erase_45 : decode cX3_erase 45 = .ok (.bastore, 1) := by decide +kernel
theorem dX3_erase_46 : decode cX3_erase 46 = .ok (.return_, 1) := by decide +kernel
theorem dX3_begin_0 : decode cX3_begin 0 = .ok (.aload_n 0, 1) := by decide +kernel
theorem dX3_begin_1 : decode cX3_begin 1 = .ok (.iload_n 1, 1) := by decide +kernel
theorem dX3_begin_2 : decode cX3_begin 2 = .ok (.ifCond .lt 9, 3) := by decide +kernel
theorem dX3_begin_5 : decode cX3_begin 5 = .ok (.iload_n 1, 1) := by decide +kernel
theorem dX3_begin_6 : decode cX3_begin 6 = .ok (.bipush 63, 2) := by decide +kernel
theorem dX3_begin_8 : decode cX3_begin 8 = .ok (.if_icmp .le 7, 3) := by decide +kernel
theorem dX3_begin_11 : decode cX3_begin 11 = .ok (.iconst 1, 1) := by decide +kernel
theorem dX3_begin_12 : decode cX3_begin 12 = .ok (.goto 4, 3) := by decide +kernel
theorem dX3_begin_15 : decode cX3_begin 15 = .ok (.iconst 0, 1) := by decide +kernel
theorem dX3_begin_16 : decode cX3_begin 16 = .ok (.putfield 57, 3) := by decide +kernel
theorem dX3_begin_19 : decode cX3_begin 19 = .ok (.aload_n 0, 1) := by decide +kernel
theorem dX3_begin_20 : decode cX3_begin 20 = .ok (.getfield 57, 3) := by decide +kernel
theorem dX3_begin_23 : decode cX3_begin 23 = .ok (.ifCond .eq 4, 3) := by decide +kernel
theorem dX3_begin_26 : decode cX3_begin 26 = .ok (.return_, 1) := by decide +kernel
theorem dX3_begin_27 : decode cX3_begin 27 = .ok (.aload_n 0, 1) := by decide +kernel
theorem dX3_begin_28 : decode cX3_begin 28 = .ok (.iload_n 1, 1) := by decide +kernel
theorem dX3_begin_29 : decode cX3_begin 29 = .ok (.putfield 108, 3) := by decide +kernel
theorem dX3_begin_32 : decode cX3_begin 32 = .ok (.aload_n 0, 1) := by decide +kernel
theorem dX3_begin_33 : decode cX3_begin 33 = .ok (.iconst 0, 1) := by decide +kernel
theorem dX3_begin_34 : decode cX3_begin 34 = .ok (.putfield 111, 3) := by decide +kernel
theorem dX3_begin_37 : decode cX3_begin 37 = .ok (.aload_n 0, 1) := by decide +kernel
theorem dX3_begin_38 : decode cX3_begin 38 = .ok (.iconst 0, 1) := by decide +kernel
theorem dX3_begin_39 : decode cX3_begin 39 = .ok (.putfield 115, 3) := by decide +kernel
theorem dX3_begin_42 : decode cX3_begin 42 = .ok (.return_, 1) := by decide +kernel
theorem dX3_run_0 : decode cX3_run 0 = .ok (.aload_n 0, 1) := by decide +kernel
theorem dX3_run_1 : decode cX3_run 1 = .ok (.iload_n 1, 1) := by decide +kernel
theorem dX3_run_2 : decode cX3_run 2 = .ok (.iconst 1, 1) := by decide +kernel
theorem dX3_run_3 : decode cX3_run 3 = .ok (.if_icmp .lt 10, 3) := by decide +kernel
theorem dX3_run_6 : decode cX3_run 6 = .ok (.iload_n 1, 1) := by decide +kernel
theorem dX3_run_7 : decode cX3_run 7 = .ok (.sipush 500, 3) := by decide +kernel
theorem dX3_run_10 : decode cX3_run 10 = .ok (.if_icmp .le 7, 3) := by decide +kernel
theorem dX3_run_13 : decode cX3_run 13 = .ok (.iconst 1, 1) := by decide +kernel
theorem dX3_run_14 : decode cX3_run 14 = .ok (.goto 4, 3) := by decide +kernel
theorem dX3_run_17 : decode cX3_run 17 = .ok (.iconst 0, 1) := by decide +kernel
theorem dX3_run_18 : decode cX3_run 18 = .ok (.putfield 57, 3) := by decide +kernel
theorem dX3_run_21 : decode cX3_run 21 = .ok (.iconst 0, 1) := by decide +kernel
theorem dX3_run_22 : decode cX3_run 22 = .ok (.istore_n 2, 1) := by decide +kernel
theorem dX3_run_23 : decode cX3_run 23 = .ok (.iload_n 2, 1) := by decide +kernel
theorem dX3_run_24 : decode cX3_run 24 = .ok (.iload_n 1, 1) := by decide +kernel
theorem dX3_run_25 : decode cX3_run 25 = .ok (.if_icmp .ge 44, 3) := by decide +kernel
theorem dX3_run_28 : decode cX3_run 28 = .ok (.aload_n 0, 1) := by decide +kernel
theorem dX3_run_29 : decode cX3_run 29 = .ok (.getfield 57, 3) := by decide +kernel
theorem dX3_run_32 : decode cX3_run 32 = .ok (.ifCond .ne 37, 3) := by decide +kernel
theorem dX3_run_35 : decode cX3_run 35 = .ok (.aload_n 0, 1) := by decide +kernel
theorem dX3_run_36 : decode cX3_run 36 = .ok (.getfield 49, 3) := by decide +kernel
theorem dX3_run_39 : decode cX3_run 39 = .ok (.aload_n 0, 1) := by decide +kernel
theorem dX3_run_40 : decode cX3_run 40 = .ok (.getfield 108, 3) := by decide +kernel
theorem dX3_run_43 : decode cX3_run 43 = .ok (.baload, 1) := by decide +kernel
theorem dX3_run_44 : decode cX3_run 44 = .ok (.ifCond .ne 11, 3) := by decide +kernel
theorem dX3_run_47 : decode cX3_run 47 = .ok (.aload_n 0, 1) := by decide +kernel
theorem dX3_run_48 : decode cX3_run 48 = .ok (.iconst 2, 1) := by decide +kernel
theorem dX3_run_49 : decode cX3_run 49 = .ok (.putfield 57, 3) := by decide +kernel
theorem dX3_run_52 : decode cX3_run 52 = .ok (.goto 11, 3) := by decide +kernel
theorem dX3_run_55 : decode cX3_run 55 = .ok (.aload_n 0, 1) := by decide +kernel
theorem dX3_run_56 : decode cX3_run 56 = .ok (.aload_n 0, 1) := by decide +kernel
theorem dX3_run_57 : decode cX3_run 57 = .ok (.getfield 108, 3) := by decide +kernel
theorem dX3_run_60 : decode cX3_run 60 = .ok (.invokevirtual 142, 3) := by decide +kernel
theorem dX3_run_63 : decode cX3_run 63 = .ok (.iinc 2 1, 3) := by decide +kernel
theorem dX3_run_66 : decode cX3_run 66 = .ok (.goto (-43), 3) := by decide +kernel
theorem dX3_run_69 : decode cX3_run 69 = .ok (.aload_n 0, 1) := by decide +kernel
theorem dX3_run_70 : decode cX3_run 70 = .ok (.getfield 57, 3) := by decide +kernel
theorem dX3_run_73 : decode cX3_run 73 = .ok (.ifCond .ne 10, 3) := by decide +kernel
theorem dX3_run_76 : decode cX3_run 76 = .ok (.aload_n 0, 1) := by decide +kernel
theorem dX3_run_77 : decode cX3_run 77 = .ok (.getfield 108, 3) := by decide +kernel
theorem dX3_run_80 : decode cX3_run 80 = .ok (.goto 4, 3) := by decide +kernel
theorem dX3_run_83 : decode cX3_run 83 = .ok (.iconst 0, 1) := by decide +kernel
theorem dX3_run_84 : decode cX3_run 84 = .ok (.ireturn, 1) := by decide +kernel
theorem dX3_cycle_0 : decode cX3_cycle 0 = .ok (.aload_n 0, 1) := by decide +kernel
theorem dX3_cycle_1 : decode cX3_cycle 1 = .ok (.iload_n 1, 1) := by decide +kernel
theorem dX3_cycle_2 : decode cX3_cycle 2 = .ok (.invokevirtual 118, 3) := by decide +kernel
theorem dX3_cycle_5 : decode cX3_cycle 5 = .ok (.istore_n 2, 1) := by decide +kernel
theorem dX3_cycle_6 : decode cX3_cycle 6 = .ok (.aload_n 0, 1) := by decide +kernel
theorem dX3_cycle_7 : decode cX3_cycle 7 = .ok (.getfield 31, 3) := by decide +kernel
theorem dX3_cycle_10 : decode cX3_cycle 10 = .ok (.iload_n 1, 1) := by decide +kernel
theorem dX3_cycle_11 : decode cX3_cycle 11 = .ok (.iaload, 1) := by decide +kernel
theorem dX3_cycle_12 : decode cX3_cycle 12 = .ok (.iconst 1, 1) := by decide +kernel
theorem dX3_cycle_13 : decode cX3_cycle 13 = .ok (.if_icmp .ne 10, 3) := by decide +kernel
theorem dX3_cycle_16 : decode cX3_cycle 16 = .ok (.iload_n 2, 1) := by decide +kernel
theorem dX3_cycle_17 : decode cX3_cycle 17 = .ok (.bipush 8, 2) := by decide +kernel
theorem dX3_cycle_19 : decode cX3_cycle 19 = .ok (.ishl, 1) := by decide +kernel
theorem dX3_cycle_20 : decode cX3_cycle 20 = .ok (.goto 20, 3) := by decide +kernel
theorem dX3_cycle_23 : decode cX3_cycle 23 = .ok (.aload_n 0, 1) := by decide +kernel
theorem dX3_cycle_24 : decode cX3_cycle 24 = .ok (.getfield 31, 3) := by decide +kernel
theorem dX3_cycle_27 : decode cX3_cycle 27 = .ok (.iload_n 1, 1) := by decide +kernel
theorem dX3_cycle_28 : decode cX3_cycle 28 = .ok (.iaload, 1) := by decide +kernel
theorem dX3_cycle_29 : decode cX3_cycle 29 = .ok (.iconst 2, 1) := by decide +kernel
theorem dX3_cycle_30 : decode cX3_cycle 30 = .ok (.if_icmp .ne 9, 3) := by decide +kernel
theorem dX3_cycle_33 : decode cX3_cycle 33 = .ok (.iload_n 2, 1) := by decide +kernel
theorem dX3_cycle_34 : decode cX3_cycle 34 = .ok (.iconst 1, 1) := by decide +kernel
theorem dX3_cycle_35 : decode cX3_cycle 35 = .ok (.ishr, 1) := by decide +kernel
theorem dX3_cycle_36 : decode cX3_cycle 36 = .ok (.goto 4, 3) := by decide +kernel
theorem dX3_cycle_39 : decode cX3_cycle 39 = .ok (.iload_n 2, 1) := by decide +kernel
theorem dX3_cycle_40 : decode cX3_cycle 40 = .ok (.istore_n 3, 1) := by decide +kernel
theorem dX3_cycle_41 : decode cX3_cycle 41 = .ok (.aload_n 0, 1) := by decide +kernel
theorem dX3_cycle_42 : decode cX3_cycle 42 = .ok (.iload_n 1, 1) := by decide +kernel
theorem dX3_cycle_43 : decode cX3_cycle 43 = .ok (.iconst 0, 1) := by decide +kernel
theorem dX3_cycle_44 : decode cX3_cycle 44 = .ok (.iload_n 3, 1) := by decide +kernel
theorem dX3_cycle_45 : decode cX3_cycle 45 = .ok (.invokevirtual 121, 3) := by decide +kernel
theorem dX3_cycle_48 : decode cX3_cycle 48 = .ok (.istore 4, 2) := by decide +kernel
theorem dX3_cycle_50 : decode cX3_cycle 50 = .ok (.aload_n 0, 1) := by decide +kernel
theorem dX3_cycle_51 : decode cX3_cycle 51 = .ok (.iload_n 1, 1) := by decide +kernel
theorem dX3_cycle_52 : decode cX3_cycle 52 = .ok (.iconst 2, 1) := by decide +kernel
theorem dX3_cycle_53 : decode cX3_cycle 53 = .ok (.iload_n 3, 1) := by decide +kernel
theorem dX3_cycle_54 : decode cX3_cycle 54 = .ok (.invokevirtual 121, 3) := by decide +kernel
theorem dX3_cycle_57 : decode cX3_cycle 57 = .ok (.istore 5, 2) := by decide +kernel
theorem dX3_cycle_59 : decode cX3_cycle 59 = .ok (.aload_n 0, 1) := by decide +kernel
theorem dX3_cycle_60 : decode cX3_cycle 60 = .ok (.getfield 34, 3) := by decide +kernel
theorem dX3_cycle_63 : decode cX3_cycle 63 = .ok (.iload_n 1, 1) := by decide +kernel
theorem dX3_cycle_64 : decode cX3_cycle 64 = .ok (.iaload, 1) := by decide +kernel
theorem dX3_cycle_65 : decode cX3_cycle 65 = .ok (.ifCond .eq 15, 3) := by decide +kernel
theorem dX3_cycle_68 : decode cX3_cycle 68 = .ok (.iload 4, 2) := by decide +kernel
theorem dX3_cycle_70 : decode cX3_cycle 70 = .ok (.ifCond .lt 31, 3) := by decide +kernel
theorem dX3_cycle_73 : decode cX3_cycle 73 = .ok (.iload 4, 2) := by decide +kernel
theorem dX3_cycle_75 : decode cX3_cycle 75 = .ok (.bipush 63, 2) := by decide +kernel
theorem dX3_cycle_77 : decode cX3_cycle 77 = .ok (.if_icmp .gt 24, 3) := by decide +kernel
theorem dX3_cycle_80 : decode cX3_cycle 80 = .ok (.aload_n 0, 1) := by decide +kernel
theorem dX3_cycle_81 : decode cX3_cycle 81 = .ok (.getfield 37, 3) := by decide +kernel
theorem dX3_cycle_84 : decode cX3_cycle 84 = .ok (.iload_n 1, 1) := by decide +kernel
theorem dX3_cycle_85 : decode cX3_cycle 85 = .ok (.iaload, 1) := by decide +kernel
theorem dX3_cycle_86 : decode cX3_cycle 86 = .ok (.ifCond .eq 21, 3) := by decide +kernel
theorem dX3_cycle_89 : decode cX3_cycle 89 = .ok (.iload 5, 2) := by decide +kernel
theorem dX3_cycle_91 : decode cX3_cycle 91 = .ok (.ifCond .lt 10, 3) := by decide +kernel
theorem dX3_cycle_94 : decode cX3_cycle 94 = .ok (.iload 5, 2) := by decide +kernel
theorem dX3_cycle_96 : decode cX3_cycle 96 = .ok (.bipush 63, 2) := by decide +kernel
theorem dX3_cycle_98 : decode cX3_cycle 98 = .ok (.if_icmp .le 9, 3) := by decide +kernel
theorem dX3_cycle_101 : decode cX3_cycle 101 = .ok (.aload_n 0, 1) := by decide +kernel
theorem dX3_cycle_102 : decode cX3_cycle 102 = .ok (.iconst 3, 1) := by decide +kernel
theorem dX3_cycle_103 : decode cX3_cycle 103 = .ok (.putfield 57, 3) := by decide +kernel
theorem dX3_cycle_106 : decode cX3_cycle 106 = .ok (.return_, 1) := by decide +kernel
theorem dX3_cycle_107 : decode cX3_cycle 107 = .ok (.iconst 0, 1) := by decide +kernel
theorem dX3_cycle_108 : decode cX3_cycle 108 = .ok (.istore 6, 2) := by decide +kernel
theorem dX3_cycle_110 : decode cX3_cycle 110 = .ok (.iload 6, 2) := by decide +kernel
theorem dX3_cycle_112 : decode cX3_cycle 112 = .ok (.bipush 9, 2) := by decide +kernel
theorem dX3_cycle_114 : decode cX3_cycle 114 = .ok (.if_icmp .ge 24, 3) := by decide +kernel
theorem dX3_cycle_117 : decode cX3_cycle 117 = .ok (.aload_n 0, 1) := by decide +kernel
theorem dX3_cycle_118 : decode cX3_cycle 118 = .ok (.getfield 13, 3) := by decide +kernel
theorem dX3_cycle_121 : decode cX3_cycle 121 = .ok (.iload 6, 2) := by decide +kernel
theorem dX3_cycle_123 : decode cX3_cycle 123 = .ok (.aload_n 0, 1) := by decide +kernel
theorem dX3_cycle_124 : decode cX3_cycle 124 = .ok (.iload_n 1, 1) := by decide +kernel
theorem dX3_cycle_125 : decode cX3_cycle 125 = .ok (.iload 6, 2) := by decide +kernel
theorem dX3_cycle_127 : decode cX3_cycle 127 = .ok (.iload_n 3, 1) := by decide +kernel
theorem dX3_cycle_128 : decode cX3_cycle 128 = .ok (.invokevirtual 121, 3) := by decide +kernel
theorem dX3_cycle_131 : decode cX3_cycle 131 = .ok (.iastore, 1) := by decide +kernel
theorem dX3_cycle_132 : decode cX3_cycle 132 = .ok (.iinc 6 1, 3) := by decide +kernel
theorem dX3_cycle_135 : decode cX3_cycle 135 = .ok (.goto (-25), 3) := by decide +kernel
theorem dX3_cycle_138 : decode cX3_cycle 138 = .ok (.aload_n 0, 1) := by decide +kernel
theorem dX3_cycle_139 : decode cX3_cycle 139 = .ok (.getfield 34, 3) := by decide +kernel
theorem dX3_cycle_142 : decode cX3_cycle 142 = .ok (.iload_n 1, 1) := by decide +kernel
theorem dX3_cycle_143 : decode cX3_cycle 143 = .ok (.iaload, 1) := by decide +kernel
theorem dX3_cycle_144 : decode cX3_cycle 144 = .ok (.iconst 1, 1) := by decide +kernel
theorem dX3_cycle_145 : decode cX3_cycle 145 = .ok (.if_icmp .ne 13, 3) := by decide +kernel
theorem dX3_cycle_148 : decode cX3_cycle 148 = .ok (.aload_n 0, 1) := by decide +kernel
theorem dX3_cycle_149 : decode cX3_cycle 149 = .ok (.getfield 16, 3) := by decide +kernel
theorem dX3_cycle_152 : decode cX3_cycle 152 = .ok (.iload 4, 2) := by decide +kernel
theorem dX3_cycle_154 : decode cX3_cycle 154 = .ok (.iaload, 1) := by decide +kernel
theorem dX3_cycle_155 : decode cX3_cycle 155 = .ok (.goto 4, 3) := by decide +kernel
theorem dX3_cycle_158 : decode cX3_cycle 158 = .ok (.iconst 0, 1) := by decide +kernel
theorem dX3_cycle_159 : decode cX3_cycle 159 = .ok (.istore 6, 2) := by decide +kernel
theorem dX3_cycle_161 : decode cX3_cycle 161 = .ok (.aload_n 0, 1) := by decide +kernel
theorem dX3_cycle_162 : decode cX3_cycle 162 = .ok (.getfield 34, 3) := by decide +kernel
theorem dX3_cycle_165 : decode cX3_cycle 165 = .ok (.iload_n 1, 1) := by decide +kernel
theorem dX3_cycle_166 : decode cX3_cycle 166 = .ok (.iaload, 1) := by decide +kernel
theorem dX3_cycle_167 : decode cX3_cycle 167 = .ok (.iconst 1, 1) := by decide +kernel
theorem dX3_cycle_168 : decode cX3_cycle 168 = .ok (.if_icmp .ne 13, 3) := by decide +kernel
theorem dX3_cycle_171 : decode cX3_cycle 171 = .ok (.aload_n 0, 1) := by decide +kernel
theorem dX3_cycle_172 : decode cX3_cycle 172 = .ok (.dup, 1) := by decide +kernel
theorem dX3_cycle_173 : decode cX3_cycle 173 = .ok (.getfield 125, 3) := by decide +kernel
theorem dX3_cycle_176 : decode cX3_cycle 176 = .ok (.iconst 1, 1) := by decide +kernel
theorem dX3_cycle_177 : decode cX3_cycle 177 = .ok (.iadd, 1) := by decide +kernel
theorem dX3_cycle_178 : decode cX3_cycle 178 = .ok (.putfield 125, 3) := by decide +kernel
theorem dX3_cycle_181 : decode cX3_cycle 181 = .ok (.aload_n 0, 1) := by decide +kernel
theorem dX3_cycle_182 : decode cX3_cycle 182 = .ok (.getfield 34, 3) := by decide +kernel
theorem dX3_cycle_185 : decode cX3_cycle 185 = .ok (.iload_n 1, 1) := by decide +kernel
theorem dX3_cycle_186 : decode cX3_cycle 186 = .ok (.iaload, 1) := by decide +kernel
theorem dX3_cycle_187 : decode cX3_cycle 187 = .ok (.iconst 2, 1) := by decide +kernel
theorem dX3_cycle_188 : decode cX3_cycle 188 = .ok (.if_icmp .ne 26, 3) := by decide +kernel
theorem dX3_cycle_191 : decode cX3_cycle 191 = .ok (.aload_n 0, 1) := by decide +kernel
theorem dX3_cycle_192 : decode cX3_cycle 192 = .ok (.getfield 16, 3) := by decide +kernel
theorem dX3_cycle_195 : decode cX3_cycle 195 = .ok (.iload 4, 2) := by decide +kernel
theorem dX3_cycle_197 : decode cX3_cycle 197 = .ok (.aload_n 0, 1) := by decide +kernel
theorem dX3_cycle_198 : decode cX3_cycle 198 = .ok (.getfield 13, 3) := by decide +kernel
theorem dX3_cycle_201 : decode cX3_cycle 201 = .ok (.iconst 1, 1) := by decide +kernel
theorem dX3_cycle_202 : decode cX3_cycle 202 = .ok (.iaload, 1) := by decide +kernel
theorem dX3_cycle_203 : decode cX3_cycle 203 = .ok (.iastore, 1) := by decide +kernel
theorem dX3_cycle_204 : decode cX3_cycle 204 = .ok (.aload_n 0, 1) := by decide +kernel
theorem dX3_cycle_205 : decode cX3_cycle 205 = .ok (.dup, 1) := by decide +kernel
theorem dX3_cycle_206 : decode cX3_cycle 206 = .ok (.getfield 127, 3) := by decide +kernel
theorem dX3_cycle_209 : decode cX3_cycle 209 = .ok (.iconst 1, 1) := by decide +kernel
theorem dX3_cycle_210 : decode cX3_cycle 210 = .ok (.iadd, 1) := by decide +kernel
theorem dX3_cycle_211 : decode cX3_cycle 211 = .ok (.putfield 127, 3) := by decide +kernel
theorem dX3_cycle_214 : decode cX3_cycle 214 = .ok (.aload_n 0, 1) := by decide +kernel
theorem dX3_cycle_215 : decode cX3_cycle 215 = .ok (.getfield 111, 3) := by decide +kernel
theorem dX3_cycle_218 : decode cX3_cycle 218 = .ok (.ifCond .eq 13, 3) := by decide +kernel
theorem dX3_cycle_221 : decode cX3_cycle 221 = .ok (.aload_n 0, 1) := by decide +kernel
theorem dX3_cycle_222 : decode cX3_cycle 222 = .ok (.getfield 13, 3) := by decide +kernel
theorem dX3_cycle_225 : decode cX3_cycle 225 = .ok (.iconst 1, 1) := by decide +kernel
theorem dX3_cycle_226 : decode cX3_cycle 226 = .ok (.aload_n 0, 1) := by decide +kernel
theorem dX3_cycle_227 : decode cX3_cycle 227 = .ok (.getfield 130, 3) := by decide +kernel
theorem dX3_cycle_230 : decode cX3_cycle 230 = .ok (.iastore, 1) := by decide +kernel
theorem dX3_cycle_231 : decode cX3_cycle 231 = .ok (.aload_n 0, 1) := by decide +kernel
theorem dX3_cycle_232 : decode cX3_cycle 232 = .ok (.getfield 115, 3) := by decide +kernel
theorem dX3_cycle_235 : decode cX3_cycle 235 = .ok (.ifCond .eq 14, 3) := by decide +kernel
theorem dX3_cycle_238 : decode cX3_cycle 238 = .ok (.aload_n 0, 1) := by decide +kernel
theorem dX3_cycle_239 : decode cX3_cycle 239 = .ok (.getfield 13, 3) := by decide +kernel
theorem dX3_cycle_242 : decode cX3_cycle 242 = .ok (.bipush 9, 2) := by decide +kernel
theorem dX3_cycle_244 : decode cX3_cycle 244 = .ok (.aload_n 0, 1) := by decide +kernel
theorem dX3_cycle_245 : decode cX3_cycle 245 = .ok (.getfield 133, 3) := by decide +kernel
theorem dX3_cycle_248 : decode cX3_cycle 248 = .ok (.iastore, 1) := by decide +kernel
theorem dX3_cycle_249 : decode cX3_cycle 249 = .ok (.aload_n 0, 1) := by decide +kernel
theorem dX3_cycle_250 : decode cX3_cycle 250 = .ok (.aload_n 0, 1) := by decide +kernel
theorem dX3_cycle_251 : decode cX3_cycle 251 = .ok (.getfield 34, 3) := by decide +kernel
theorem dX3_cycle_254 : decode cX3_cycle 254 = .ok (.iload_n 1, 1) := by decide +kernel
theorem dX3_cycle_255 : decode cX3_cycle 255 = .ok (.iaload, 1) := by decide +kernel
theorem dX3_cycle_256 : decode cX3_cycle 256 = .ok (.iconst 1, 1) := by decide +kernel
theorem dX3_cycle_257 : decode cX3_cycle 257 = .ok (.if_icmp .ne 7, 3) := by decide +kernel
theorem dX3_cycle_260 : decode cX3_cycle 260 = .ok (.iconst 1, 1) := by decide +kernel
theorem dX3_cycle_261 : decode cX3_cycle 261 = .ok (.goto 4, 3) := by decide +kernel
theorem dX3_cycle_264 : decode cX3_cycle 264 = .ok (.iconst 0, 1) := by decide +kernel
theorem dX3_cycle_265 : decode cX3_cycle 265 = .ok (.putfield 111, 3) := by decide +kernel
theorem dX3_cycle_268 : decode cX3_cycle 268 = .ok (.aload_n 0, 1) := by decide +kernel
theorem dX3_cycle_269 : decode cX3_cycle 269 = .ok (.iload 6, 2) := by decide +kernel
theorem dX3_cycle_271 : decode cX3_cycle 271 = .ok (.putfield 130, 3) := by decide +kernel
theorem dX3_cycle_274 : decode cX3_cycle 274 = .ok (.aload_n 0, 1) := by decide +kernel
theorem dX3_cycle_275 : decode cX3_cycle 275 = .ok (.aload_n 0, 1) := by decide +kernel
theorem dX3_cycle_276 : decode cX3_cycle 276 = .ok (.getfield 37, 3) := by decide +kernel
theorem dX3_cycle_279 : decode cX3_cycle 279 = .ok (.iload_n 1, 1) := by decide +kernel
theorem dX3_cycle_280 : decode cX3_cycle 280 = .ok (.iaload, 1) := by decide +kernel
theorem dX3_cycle_281 : decode cX3_cycle 281 = .ok (.iconst 1, 1) := by decide +kernel
theorem dX3_cycle_282 : decode cX3_cycle 282 = .ok (.if_icmp .ne 7, 3) := by decide +kernel
theorem dX3_cycle_285 : decode cX3_cycle 285 = .ok (.iconst 1, 1) := by decide +kernel
theorem dX3_cycle_286 : decode cX3_cycle 286 = .ok (.goto 4, 3) := by decide +kernel
theorem dX3_cycle_289 : decode cX3_cycle 289 = .ok (.iconst 0, 1) := by decide +kernel
theorem dX3_cycle_290 : decode cX3_cycle 290 = .ok (.putfield 115, 3) := by decide +kernel
theorem dX3_cycle_293 : decode cX3_cycle 293 = .ok (.aload_n 0, 1) := by decide +kernel
theorem dX3_cycle_294 : decode cX3_cycle 294 = .ok (.getfield 115, 3) := by decide +kernel
theorem dX3_cycle_297 : decode cX3_cycle 297 = .ok (.ifCond .eq 24, 3) := by decide +kernel
theorem dX3_cycle_300 : decode cX3_cycle 300 = .ok (.aload_n 0, 1) := by decide +kernel
theorem dX3_cycle_301 : decode cX3_cycle 301 = .ok (.aload_n 0, 1) := by decide +kernel
theorem dX3_cycle_302 : decode cX3_cycle 302 = .ok (.getfield 19, 3) := by decide +kernel
theorem dX3_cycle_305 : decode cX3_cycle 305 = .ok (.iload 5, 2) := by decide +kernel
theorem dX3_cycle_307 : decode cX3_cycle 307 = .ok (.iaload, 1) := by decide +kernel
theorem dX3_cycle_308 : decode cX3_cycle 308 = .ok (.putfield 133, 3) := by decide +kernel
theorem dX3_cycle_311 : decode cX3_cycle 311 = .ok (.aload_n 0, 1) := by decide +kernel
theorem dX3_cycle_312 : decode cX3_cycle 312 = .ok (.dup, 1) := by decide +kernel
theorem dX3_cycle_313 : decode cX3_cycle 313 = .ok (.getfield 136, 3) := by decide +kernel
theorem dX3_cycle_316 : decode cX3_cycle 316 = .ok (.iconst 1, 1) := by decide +kernel
theorem dX3_cycle_317 : decode cX3_cycle 317 = .ok (.iadd, 1) := by decide +kernel
theorem dX3_cycle_318 : decode cX3_cycle 318 = .ok (.putfield 136, 3) := by decide +kernel
theorem dX3_cycle_321 : decode cX3_cycle 321 = .ok (.aload_n 0, 1) := by decide +kernel
theorem dX3_cycle_322 : decode cX3_cycle 322 = .ok (.dup, 1) := by decide +kernel
theorem dX3_cycle_323 : decode cX3_cycle 323 = .ok (.getfield 139, 3) := by decide +kernel
theorem dX3_cycle_326 : decode cX3_cycle 326 = .ok (.iconst 1, 1) := by decide +kernel
theorem dX3_cycle_327 : decode cX3_cycle 327 = .ok (.iadd, 1) := by decide +kernel
theorem dX3_cycle_328 : decode cX3_cycle 328 = .ok (.putfield 139, 3) := by decide +kernel
theorem dX3_cycle_331 : decode cX3_cycle 331 = .ok (.aload_n 0, 1) := by decide +kernel
theorem dX3_cycle_332 : decode cX3_cycle 332 = .ok (.getfield 43, 3) := by decide +kernel
theorem dX3_cycle_335 : decode cX3_cycle 335 = .ok (.iload_n 1, 1) := by decide +kernel
theorem dX3_cycle_336 : decode cX3_cycle 336 = .ok (.iaload, 1) := by decide +kernel
theorem dX3_cycle_337 : decode cX3_cycle 337 = .ok (.ifCond .ge 7, 3) := by decide +kernel
theorem dX3_cycle_340 : decode cX3_cycle 340 = .ok (.iconst 0, 1) := by decide +kernel
theorem dX3_cycle_341 : decode cX3_cycle 341 = .ok (.goto 9, 3) := by decide +kernel
theorem dX3_cycle_344 : decode cX3_cycle 344 = .ok (.aload_n 0, 1) := by decide +kernel
theorem dX3_cycle_345 : decode cX3_cycle 345 = .ok (.getfield 43, 3) := by decide +kernel
theorem dX3_cycle_348 : decode cX3_cycle 348 = .ok (.iload_n 1, 1) := by decide +kernel
theorem dX3_cycle_349 : decode cX3_cycle 349 = .ok (.iaload, 1) := by decide +kernel
theorem dX3_cycle_350 : decode cX3_cycle 350 = .ok (.istore 7, 2) := by decide +kernel
theorem dX3_cycle_352 : decode cX3_cycle 352 = .ok (.aload_n 0, 1) := by decide +kernel
theorem dX3_cycle_353 : decode cX3_cycle 353 = .ok (.getfield 40, 3) := by decide +kernel
theorem dX3_cycle_356 : decode cX3_cycle 356 = .ok (.iload_n 1, 1) := by decide +kernel
theorem dX3_cycle_357 : decode cX3_cycle 357 = .ok (.iaload, 1) := by decide +kernel
theorem dX3_cycle_358 : decode cX3_cycle 358 = .ok (.istore 8, 2) := by decide +kernel
theorem dX3_cycle_360 : decode cX3_cycle 360 = .ok (.iload 8, 2) := by decide +kernel
theorem dX3_cycle_362 : decode cX3_cycle 362 = .ok (.ifCond .ne 16, 3) := by decide +kernel
theorem dX3_cycle_365 : decode cX3_cycle 365 = .ok (.aload_n 0, 1) := by decide +kernel
theorem dX3_cycle_366 : decode cX3_cycle 366 = .ok (.iload_n 1, 1) := by decide +kernel
theorem dX3_cycle_367 : decode cX3_cycle 367 = .ok (.iconst 1, 1) := by decide +kernel
theorem dX3_cycle_368 : decode cX3_cycle 368 = .ok (.iadd, 1) := by decide +kernel
theorem dX3_cycle_369 : decode cX3_cycle 369 = .ok (.bipush 63, 2) := by decide +kernel
theorem dX3_cycle_371 : decode cX3_cycle 371 = .ok (.iand, 1) := by decide +kernel
theorem dX3_cycle_372 : decode cX3_cycle 372 = .ok (.putfield 108, 3) := by decide +kernel
theorem dX3_cycle_375 : decode cX3_cycle 375 = .ok (.goto 76, 3) := by decide +kernel
theorem dX3_cycle_378 : decode cX3_cycle 378 = .ok (.iload 8, 2) := by decide +kernel
theorem dX3_cycle_380 : decode cX3_cycle 380 = .ok (.iconst 1, 1) := by decide +kernel
theorem dX3_cycle_381 : decode cX3_cycle 381 = .ok (.if_icmp .ne 12, 3) := by decide +kernel
theorem dX3_cycle_384 : decode cX3_cycle 384 = .ok (.aload_n 0, 1) := by decide +kernel
theorem dX3_cycle_385 : decode cX3_cycle 385 = .ok (.iload 7, 2) := by decide +kernel
theorem dX3_cycle_387 : decode cX3_cycle 387 = .ok (.putfield 108, 3) := by decide +kernel
theorem dX3_cycle_390 : decode cX3_cycle 390 = .ok (.goto 61, 3) := by decide +kernel
theorem dX3_cycle_393 : decode cX3_cycle 393 = .ok (.iload 8, 2) := by decide +kernel
theorem dX3_cycle_395 : decode cX3_cycle 395 = .ok (.iconst 4, 1) := by decide +kernel
theorem dX3_cycle_396 : decode cX3_cycle 396 = .ok (.if_icmp .ne 23, 3) := by decide +kernel
theorem dX3_cycle_399 : decode cX3_cycle 399 = .ok (.aload_n 0, 1) := by decide +kernel
theorem dX3_cycle_400 : decode cX3_cycle 400 = .ok (.iload 7, 2) := by decide +kernel
theorem dX3_cycle_402 : decode cX3_cycle 402 = .ok (.aload_n 0, 1) := by decide +kernel
theorem dX3_cycle_403 : decode cX3_cycle 403 = .ok (.getfield 13, 3) := by decide +kernel
theorem dX3_cycle_406 : decode cX3_cycle 406 = .ok (.bipush 9, 2) := by decide +kernel
theorem dX3_cycle_408 : decode cX3_cycle 408 = .ok (.iaload, 1) := by decide +kernel
theorem dX3_cycle_409 : decode cX3_cycle 409 = .ok (.ior, 1) := by decide +kernel
theorem dX3_cycle_410 : decode cX3_cycle 410 = .ok (.bipush 63, 2) := by decide +kernel
theorem dX3_cycle_412 : decode cX3_cycle 412 = .ok (.iand, 1) := by decide +kernel
theorem dX3_cycle_413 : decode cX3_cycle 413 = .ok (.putfield 108, 3) := by decide +kernel
theorem dX3_cycle_416 : decode cX3_cycle 416 = .ok (.goto 35, 3) := by decide +kernel
theorem dX3_cycle_419 : decode cX3_cycle 419 = .ok (.aload_n 0, 1) := by decide +kernel
theorem dX3_cycle_420 : decode cX3_cycle 420 = .ok (.iload 8, 2) := by decide +kernel
theorem dX3_cycle_422 : decode cX3_cycle 422 = .ok (.iconst 2, 1) := by decide +kernel
theorem dX3_cycle_423 : decode cX3_cycle 423 = .ok (.if_icmp .ne 10, 3) := by decide +kernel
theorem dX3_cycle_426 : decode cX3_cycle 426 = .ok (.iload_n 2, 1) := by decide +kernel
theorem dX3_cycle_427 : decode cX3_cycle 427 = .ok (.ifCond .ne 15, 3) := by decide +kernel
theorem dX3_cycle_430 : decode cX3_cycle 430 = .ok (.goto 7, 3) := by decide +kernel
theorem dX3_cycle_433 : decode cX3_cycle 433 = .ok (.iload_n 2, 1) := by decide +kernel
theorem dX3_cycle_434 : decode cX3_cycle 434 = .ok (.ifCond .ge 8, 3) := by decide +kernel
theorem dX3_cycle_437 : decode cX3_cycle 437 = .ok (.iload 7, 2) := by decide +kernel
theorem dX3_cycle_439 : decode cX3_cycle 439 = .ok (.goto 9, 3) := by decide +kernel
theorem dX3_cycle_442 : decode cX3_cycle 442 = .ok (.aload_n 0, 1) := by decide +kernel
theorem dX3_cycle_443 : decode cX3_cycle 443 = .ok (.getfield 46, 3) := by decide +kernel
theorem dX3_cycle_446 : decode cX3_cycle 446 = .ok (.iload_n 1, 1) := by decide +kernel
theorem dX3_cycle_447 : decode cX3_cycle 447 = .ok (.iaload, 1) := by decide +kernel
theorem dX3_cycle_448 : decode cX3_cycle 448 = .ok (.putfield 108, 3) := by decide +kernel
theorem dX3_cycle_451 : decode cX3_cycle 451 = .ok (.return_, 1) := by decide +kernel
theorem dX3_result_0 : decode cX3_result 0 = .ok (.aload_n 0, 1) := by decide +kernel
theorem dX3_result_1 : decode cX3_result 1 = .ok (.getfield 28, 3) := by decide +kernel
theorem dX3_result_4 : decode cX3_result 4 = .ok (.iload_n 1, 1) := by decide +kernel
theorem dX3_result_5 : decode cX3_result 5 = .ok (.iaload, 1) := by decide +kernel
theorem dX3_result_6 : decode cX3_result 6 = .ok (.istore_n 2, 1) := by decide +kernel
theorem dX3_result_7 : decode cX3_result 7 = .ok (.iload_n 2, 1) := by decide +kernel
theorem dX3_result_8 : decode cX3_result 8 = .ok (.bipush 10, 2) := by decide +kernel
theorem dX3_result_10 : decode cX3_result 10 = .ok (.if_icmp .ne 13, 3) := by decide +kernel
theorem dX3_result_13 : decode cX3_result 13 = .ok (.aload_n 0, 1) := by decide +kernel
theorem dX3_result_14 : decode cX3_result 14 = .ok (.getfield 13, 3) := by decide +kernel
theorem dX3_result_17 : decode cX3_result 17 = .ok (.bipush 9, 2) := by decide +kernel
theorem dX3_result_19 : decode cX3_result 19 = .ok (.iaload, 1) := by decide +kernel
theorem dX3_result_20 : decode cX3_result 20 = .ok (.goto 26, 3) := by decide +kernel
theorem dX3_result_23 : decode cX3_result 23 = .ok (.iload_n 2, 1) := by decide +kernel
theorem dX3_result_24 : decode cX3_result 24 = .ok (.bipush 9, 2) := by decide +kernel
theorem dX3_result_26 : decode cX3_result 26 = .ok (.if_icmp .ne 14, 3) := by decide +kernel
theorem dX3_result_29 : decode cX3_result 29 = .ok (.aload_n 0, 1) := by decide +kernel
theorem dX3_result_30 : decode cX3_result 30 = .ok (.getfield 13, 3) := by decide +kernel
theorem dX3_result_33 : decode cX3_result 33 = .ok (.bipush 9, 2) := by decide +kernel
theorem dX3_result_35 : decode cX3_result 35 = .ok (.iaload, 1) := by decide +kernel
theorem dX3_result_36 : decode cX3_result 36 = .ok (.i2b, 1) := by decide +kernel
theorem dX3_result_37 : decode cX3_result 37 = .ok (.goto 9, 3) := by decide +kernel
theorem dX3_result_40 : decode cX3_result 40 = .ok (.aload_n 0, 1) := by decide +kernel
theorem dX3_result_41 : decode cX3_result 41 = .ok (.getfield 13, 3) := by decide +kernel
theorem dX3_result_44 : decode cX3_result 44 = .ok (.iload_n 2, 1) := by decide +kernel
theorem dX3_result_45 : decode cX3_result 45 = .ok (.iaload, 1) := by decide +kernel
theorem dX3_result_46 : decode cX3_result 46 = .ok (.istore_n 3, 1) := by decide +kernel
theorem dX3_result_47 : decode cX3_result 47 = .ok (.aload_n 0, 1) := by decide +kernel
theorem dX3_result_48 : decode cX3_result 48 = .ok (.getfield 13, 3) := by decide +kernel
theorem dX3_result_51 : decode cX3_result 51 = .ok (.bipush 8, 2) := by decide +kernel
theorem dX3_result_53 : decode cX3_result 53 = .ok (.iaload, 1) := by decide +kernel
theorem dX3_result_54 : decode cX3_result 54 = .ok (.istore 4, 2) := by decide +kernel
theorem dX3_result_56 : decode cX3_result 56 = .ok (.aload_n 0, 1) := by decide +kernel
theorem dX3_result_57 : decode cX3_result 57 = .ok (.getfield 25, 3) := by decide +kernel
theorem dX3_result_60 : decode cX3_result 60 = .ok (.iload_n 1, 1) := by decide +kernel
theorem dX3_result_61 : decode cX3_result 61 = .ok (.iaload, 1) := by decide +kernel
theorem dX3_result_62 : decode cX3_result 62 = .ok (.tableswitch 136 0 14 #[74, 76, 79, 83, 87, 92, 97, 104, 109, 114, 119, 123, 128, 132, 134], 74) := by decide +kernel
theorem dX3_result_136 : decode cX3_result 136 = .ok (.iload_n 3, 1) := by decide +kernel
theorem dX3_result_137 : decode cX3_result 137 = .ok (.ireturn, 1) := by decide +kernel
theorem dX3_result_138 : decode cX3_result 138 = .ok (.iload 4, 2) := by decide +kernel
theorem dX3_result_140 : decode cX3_result 140 = .ok (.ireturn, 1) := by decide +kernel
theorem dX3_result_141 : decode cX3_result 141 = .ok (.iload_n 3, 1) := by decide +kernel
theorem dX3_result_142 : decode cX3_result 142 = .ok (.iconst 1, 1) := by decide +kernel
theorem dX3_result_143 : decode cX3_result 143 = .ok (.iadd, 1) := by decide +kernel
theorem dX3_result_144 : decode cX3_result 144 = .ok (.ireturn, 1) := by decide +kernel
theorem dX3_result_145 : decode cX3_result 145 = .ok (.iload_n 3, 1) := by decide +kernel
theorem dX3_result_146 : decode cX3_result 146 = .ok (.iconst 1, 1) := by decide +kernel
theorem dX3_result_147 : decode cX3_result 147 = .ok (.isub, 1) := by decide +kernel
theorem dX3_result_148 : decode cX3_result 148 = .ok (.ireturn, 1) := by decide +kernel
theorem dX3_result_149 : decode cX3_result 149 = .ok (.iload 4, 2) := by decide +kernel
theorem dX3_result_151 : decode cX3_result 151 = .ok (.iconst 1, 1) := by decide +kernel
theorem dX3_result_152 : decode cX3_result 152 = .ok (.iadd, 1) := by decide +kernel
theorem dX3_result_153 : decode cX3_result 153 = .ok (.ireturn, 1) := by decide +kernel
theorem dX3_result_154 : decode cX3_result 154 = .ok (.iload 4, 2) := by decide +kernel
theorem dX3_result_156 : decode cX3_result 156 = .ok (.iload_n 3, 1) := by decide +kernel
theorem dX3_result_157 : decode cX3_result 157 = .ok (.iadd, 1) := by decide +kernel
theorem dX3_result_158 : decode cX3_result 158 = .ok (.ireturn, 1) := by decide +kernel
theorem dX3_result_159 : decode cX3_result 159 = .ok (.iload 4, 2) := by decide +kernel
theorem dX3_result_161 : decode cX3_result 161 = .ok (.iload_n 3, 1) := by decide +kernel
theorem dX3_result_162 : decode cX3_result 162 = .ok (.iadd, 1) := by decide +kernel
theorem dX3_result_163 : decode cX3_result 163 = .ok (.iconst 1, 1) := by decide +kernel
theorem dX3_result_164 : decode cX3_result 164 = .ok (.iadd, 1) := by decide +kernel
theorem dX3_result_165 : decode cX3_result 165 = .ok (.ireturn, 1) := by decide +kernel
theorem dX3_result_166 : decode cX3_result 166 = .ok (.iload_n 3, 1) := by decide +kernel
theorem dX3_result_167 : decode cX3_result 167 = .ok (.iload 4, 2) := by decide +kernel
theorem dX3_result_169 : decode cX3_result 169 = .ok (.isub, 1) := by decide +kernel
theorem dX3_result_170 : decode cX3_result 170 = .ok (.ireturn, 1) := by decide +kernel
theorem dX3_result_171 : decode cX3_result 171 = .ok (.iload 4, 2) := by decide +kernel
theorem dX3_result_173 : decode cX3_result 173 = .ok (.iload_n 3, 1) := by decide +kernel
theorem dX3_result_174 : decode cX3_result 174 = .ok (.iand, 1) := by decide +kernel
theorem dX3_result_175 : decode cX3_result 175 = .ok (.ireturn, 1) := by decide +kernel
theorem dX3_result_176 : decode cX3_result 176 = .ok (.iload 4, 2) := by decide +kernel
theorem dX3_result_178 : decode cX3_result 178 = .ok (.iload_n 3, 1) := by decide +kernel
theorem dX3_result_179 : decode cX3_result 179 = .ok (.ior, 1) := by decide +kernel
theorem dX3_result_180 : decode cX3_result 180 = .ok (.ireturn, 1) := by decide +kernel
theorem dX3_result_181 : decode cX3_result 181 = .ok (.iload_n 3, 1) := by decide +kernel
theorem dX3_result_182 : decode cX3_result 182 = .ok (.iconst (-1), 1) := by decide +kernel
theorem dX3_result_183 : decode cX3_result 183 = .ok (.ixor, 1) := by decide +kernel
theorem dX3_result_184 : decode cX3_result 184 = .ok (.ireturn, 1) := by decide +kernel
theorem dX3_result_185 : decode cX3_result 185 = .ok (.iload 4, 2) := by decide +kernel
theorem dX3_result_187 : decode cX3_result 187 = .ok (.iconst (-1), 1) := by decide +kernel
theorem dX3_result_188 : decode cX3_result 188 = .ok (.ixor, 1) := by decide +kernel
theorem dX3_result_189 : decode cX3_result 189 = .ok (.ireturn, 1) := by decide +kernel
theorem dX3_result_190 : decode cX3_result 190 = .ok (.iload 4, 2) := by decide +kernel
theorem dX3_result_192 : decode cX3_result 192 = .ok (.ineg, 1) := by decide +kernel
theorem dX3_result_193 : decode cX3_result 193 = .ok (.ireturn, 1) := by decide +kernel
theorem dX3_result_194 : decode cX3_result 194 = .ok (.iconst 0, 1) := by decide +kernel
theorem dX3_result_195 : decode cX3_result 195 = .ok (.ireturn, 1) := by decide +kernel
theorem dX3_result_196 : decode cX3_result 196 = .ok (.iconst 1, 1) := by decide +kernel
theorem dX3_result_197 : decode cX3_result 197 = .ok (.ireturn, 1) := by decide +kernel
theorem dX3_result_198 : decode cX3_result 198 = .ok (.iconst (-1), 1) := by decide +kernel
theorem dX3_result_199 : decode cX3_result 199 = .ok (.ireturn, 1) := by decide +kernel
theorem dX3_then_0 : decode cX3_then 0 = .ok (.aload_n 0, 1) := by decide +kernel
theorem dX3_then_1 : decode cX3_then 1 = .ok (.getfield 22, 3) := by decide +kernel
theorem dX3_then_4 : decode cX3_then 4 = .ok (.iload_n 1, 1) := by decide +kernel
theorem dX3_then_5 : decode cX3_then 5 = .ok (.iaload, 1) := by decide +kernel
theorem dX3_then_6 : decode cX3_then 6 = .ok (.iload_n 2, 1) := by decide +kernel
theorem dX3_then_7 : decode cX3_then 7 = .ok (.ishr, 1) := by decide +kernel
theorem dX3_then_8 : decode cX3_then 8 = .ok (.iconst 1, 1) := by decide +kernel
theorem dX3_then_9 : decode cX3_then 9 = .ok (.iand, 1) := by decide +kernel
theorem dX3_then_10 : decode cX3_then 10 = .ok (.ifCond .eq 7, 3) := by decide +kernel
theorem dX3_then_13 : decode cX3_then 13 = .ok (.iload_n 3, 1) := by decide +kernel
theorem dX3_then_14 : decode cX3_then 14 = .ok (.goto 9, 3) := by decide +kernel
theorem dX3_then_17 : decode cX3_then 17 = .ok (.aload_n 0, 1) := by decide +kernel
theorem dX3_then_18 : decode cX3_then 18 = .ok (.getfield 13, 3) := by decide +kernel
theorem dX3_then_21 : decode cX3_then 21 = .ok (.iload_n 2, 1) := by decide +kernel
theorem dX3_then_22 : decode cX3_then 22 = .ok (.iaload, 1) := by decide +kernel
theorem dX3_then_23 : decode cX3_then 23 = .ok (.ireturn, 1) := by decide +kernel
theorem dX3_set_0 : decode cX3_set 0 = .ok (.aload_n 0, 1) := by decide +kernel
theorem dX3_set_1 : decode cX3_set 1 = .ok (.iload_n 1, 1) := by decide +kernel
theorem dX3_set_2 : decode cX3_set 2 = .ok (.ifCond .lt 26, 3) := by decide +kernel
theorem dX3_set_5 : decode cX3_set 5 = .ok (.iload_n 1, 1) := by decide +kernel
theorem dX3_set_6 : decode cX3_set 6 = .ok (.bipush 9, 2) := by decide +kernel
theorem dX3_set_8 : decode cX3_set 8 = .ok (.if_icmp .gt 20, 3) := by decide +kernel
theorem dX3_set_11 : decode cX3_set 11 = .ok (.iload_n 1, 1) := by decide +kernel
theorem dX3_set_12 : decode cX3_set 12 = .ok (.bipush 9, 2) := by decide +kernel
theorem dX3_set_14 : decode cX3_set 14 = .ok (.if_icmp .ne 18, 3) := by decide +kernel
theorem dX3_set_17 : decode cX3_set 17 = .ok (.iload_n 2, 1) := by decide +kernel
theorem dX3_set_18 : decode cX3_set 18 = .ok (.ifCond .lt 10, 3) := by decide +kernel
theorem dX3_set_21 : decode cX3_set 21 = .ok (.iload_n 2, 1) := by decide +kernel
theorem dX3_set_22 : decode cX3_set 22 = .ok (.sipush 255, 3) := by decide +kernel
theorem dX3_set_25 : decode cX3_set 25 = .ok (.if_icmp .le 7, 3) := by decide +kernel
theorem dX3_set_28 : decode cX3_set 28 = .ok (.iconst 1, 1) := by decide +kernel
theorem dX3_set_29 : decode cX3_set 29 = .ok (.goto 4, 3) := by decide +kernel
theorem dX3_set_32 : decode cX3_set 32 = .ok (.iconst 0, 1) := by decide +kernel
theorem dX3_set_33 : decode cX3_set 33 = .ok (.putfield 57, 3) := by decide +kernel
theorem dX3_set_36 : decode cX3_set 36 = .ok (.aload_n 0, 1) := by decide +kernel
theorem dX3_set_37 : decode cX3_set 37 = .ok (.getfield 57, 3) := by decide +kernel
theorem dX3_set_40 : decode cX3_set 40 = .ok (.ifCond .ne 10, 3) := by decide +kernel
theorem dX3_set_43 : decode cX3_set 43 = .ok (.aload_n 0, 1) := by decide +kernel
theorem dX3_set_44 : decode cX3_set 44 = .ok (.getfield 13, 3) := by decide +kernel
theorem dX3_set_47 : decode cX3_set 47 = .ok (.iload_n 1, 1) := by decide +kernel
theorem dX3_set_48 : decode cX3_set 48 = .ok (.iload_n 2, 1) := by decide +kernel
theorem dX3_set_49 : decode cX3_set 49 = .ok (.iastore, 1) := by decide +kernel
theorem dX3_set_50 : decode cX3_set 50 = .ok (.return_, 1) := by decide +kernel
theorem dX3_register_0 : decode cX3_register 0 = .ok (.aload_n 0, 1) := by decide +kernel
theorem dX3_register_1 : decode cX3_register 1 = .ok (.iload_n 1, 1) := by decide +kernel
theorem dX3_register_2 : decode cX3_register 2 = .ok (.ifCond .lt 9, 3) := by decide +kernel
theorem dX3_register_5 : decode cX3_register 5 = .ok (.iload_n 1, 1) := by decide +kernel
theorem dX3_register_6 : decode cX3_register 6 = .ok (.bipush 9, 2) := by decide +kernel
theorem dX3_register_8 : decode cX3_register 8 = .ok (.if_icmp .le 7, 3) := by decide +kernel
theorem dX3_register_11 : decode cX3_register 11 = .ok (.iconst 1, 1) := by decide +kernel
theorem dX3_register_12 : decode cX3_register 12 = .ok (.goto 4, 3) := by decide +kernel
theorem dX3_register_15 : decode cX3_register 15 = .ok (.iconst 0, 1) := by decide +kernel
theorem dX3_register_16 : decode cX3_register 16 = .ok (.putfield 57, 3) := by decide +kernel
theorem dX3_register_19 : decode cX3_register 19 = .ok (.aload_n 0, 1) := by decide +kernel
theorem dX3_register_20 : decode cX3_register 20 = .ok (.getfield 57, 3) := by decide +kernel
theorem dX3_register_23 : decode cX3_register 23 = .ok (.ifCond .ne 12, 3) := by decide +kernel
theorem dX3_register_26 : decode cX3_register 26 = .ok (.aload_n 0, 1) := by decide +kernel
theorem dX3_register_27 : decode cX3_register 27 = .ok (.getfield 13, 3) := by decide +kernel
theorem dX3_register_30 : decode cX3_register 30 = .ok (.iload_n 1, 1) := by decide +kernel
theorem dX3_register_31 : decode cX3_register 31 = .ok (.iaload, 1) := by decide +kernel
theorem dX3_register_32 : decode cX3_register 32 = .ok (.goto 4, 3) := by decide +kernel
theorem dX3_register_35 : decode cX3_register 35 = .ok (.iconst 0, 1) := by decide +kernel
theorem dX3_register_36 : decode cX3_register 36 = .ok (.ireturn, 1) := by decide +kernel
theorem dX3_poke_0 : decode cX3_poke 0 = .ok (.aload_n 0, 1) := by decide +kernel
theorem dX3_poke_1 : decode cX3_poke 1 = .ok (.iload_n 1, 1) := by decide +kernel
theorem dX3_poke_2 : decode cX3_poke 2 = .ok (.ifCond .lt 9, 3) := by decide +kernel
theorem dX3_poke_5 : decode cX3_poke 5 = .ok (.iload_n 1, 1) := by decide +kernel
theorem dX3_poke_6 : decode cX3_poke 6 = .ok (.bipush 63, 2) := by decide +kernel
theorem dX3_poke_8 : decode cX3_poke 8 = .ok (.if_icmp .le 7, 3) := by decide +kernel
theorem dX3_poke_11 : decode cX3_poke 11 = .ok (.iconst 1, 1) := by decide +kernel
theorem dX3_poke_12 : decode cX3_poke 12 = .ok (.goto 4, 3) := by decide +kernel
theorem dX3_poke_15 : decode cX3_poke 15 = .ok (.iconst 0, 1) := by decide +kernel
theorem dX3_poke_16 : decode cX3_poke 16 = .ok (.putfield 57, 3) := by decide +kernel
theorem dX3_poke_19 : decode cX3_poke 19 = .ok (.aload_n 0, 1) := by decide +kernel
theorem dX3_poke_20 : decode cX3_poke 20 = .ok (.getfield 57, 3) := by decide +kernel
theorem dX3_poke_23 : decode cX3_poke 23 = .ok (.ifCond .ne 10, 3) := by decide +kernel
theorem dX3_poke_26 : decode cX3_poke 26 = .ok (.aload_n 0, 1) := by decide +kernel
theorem dX3_poke_27 : decode cX3_poke 27 = .ok (.getfield 16, 3) := by decide +kernel
theorem dX3_poke_30 : decode cX3_poke 30 = .ok (.iload_n 1, 1) := by decide +kernel
theorem dX3_poke_31 : decode cX3_poke 31 = .ok (.iload_n 2, 1) := by decide +kernel
theorem dX3_poke_32 : decode cX3_poke 32 = .ok (.iastore, 1) := by decide +kernel
theorem dX3_poke_33 : decode cX3_poke 33 = .ok (.return_, 1) := by decide +kernel
theorem dX3_memory_0 : decode cX3_memory 0 = .ok (.aload_n 0, 1) := by decide +kernel
theorem dX3_memory_1 : decode cX3_memory 1 = .ok (.iload_n 1, 1) := by decide +kernel
theorem dX3_memory_2 : decode cX3_memory 2 = .ok (.ifCond .lt 9, 3) := by decide +kernel
theorem dX3_memory_5 : decode cX3_memory 5 = .ok (.iload_n 1, 1) := by decide +kernel
theorem dX3_memory_6 : decode cX3_memory 6 = .ok (.bipush 63, 2) := by decide +kernel
theorem dX3_memory_8 : decode cX3_memory 8 = .ok (.if_icmp .le 7, 3) := by decide +kernel
theorem dX3_memory_11 : decode cX3_memory 11 = .ok (.iconst 1, 1) := by decide +kernel
theorem dX3_memory_12 : decode cX3_memory 12 = .ok (.goto 4, 3) := by decide +kernel
theorem dX3_memory_15 : decode cX3_memory 15 = .ok (.iconst 0, 1) := by decide +kernel
theorem dX3_memory_16 : decode cX3_memory 16 = .ok (.putfield 57, 3) := by decide +kernel
theorem dX3_memory_19 : decode cX3_memory 19 = .ok (.aload_n 0, 1) := by decide +kernel
theorem dX3_memory_20 : decode cX3_memory 20 = .ok (.getfield 57, 3) := by decide +kernel
theorem dX3_memory_23 : decode cX3_memory 23 = .ok (.ifCond .ne 12, 3) := by decide +kernel
theorem dX3_memory_26 : decode cX3_memory 26 = .ok (.aload_n 0, 1) := by decide +kernel
theorem dX3_memory_27 : decode cX3_memory 27 = .ok (.getfield 16, 3) := by decide +kernel
theorem dX3_memory_30 : decode cX3_memory 30 = .ok (.iload_n 1, 1) := by decide +kernel
theorem dX3_memory_31 : decode cX3_memory 31 = .ok (.iaload, 1) := by decide +kernel
theorem dX3_memory_32 : decode cX3_memory 32 = .ok (.goto 4, 3) := by decide +kernel
theorem dX3_memory_35 : decode cX3_memory 35 = .ok (.iconst 0, 1) := by decide +kernel
theorem dX3_memory_36 : decode cX3_memory 36 = .ok (.ireturn, 1) := by decide +kernel
theorem dX3_code_0 : decode cX3_code 0 = .ok (.aload_n 0, 1) := by decide +kernel
theorem dX3_code_1 : decode cX3_code 1 = .ok (.iload_n 1, 1) := by decide +kernel
theorem dX3_code_2 : decode cX3_code 2 = .ok (.ifCond .lt 20, 3) := by decide +kernel
theorem dX3_code_5 : decode cX3_code 5 = .ok (.iload_n 1, 1) := by decide +kernel
theorem dX3_code_6 : decode cX3_code 6 = .ok (.bipush 63, 2) := by decide +kernel
theorem dX3_code_8 : decode cX3_code 8 = .ok (.if_icmp .gt 14, 3) := by decide +kernel
theorem dX3_code_11 : decode cX3_code 11 = .ok (.iload_n 2, 1) := by decide +kernel
theorem dX3_code_12 : decode cX3_code 12 = .ok (.ifCond .lt 10, 3) := by decide +kernel
theorem dX3_code_15 : decode cX3_code 15 = .ok (.iload_n 2, 1) := by decide +kernel
theorem dX3_code_16 : decode cX3_code 16 = .ok (.sipush 255, 3) := by decide +kernel
theorem dX3_code_19 : decode cX3_code 19 = .ok (.if_icmp .le 7, 3) := by decide +kernel
theorem dX3_code_22 : decode cX3_code 22 = .ok (.iconst 1, 1) := by decide +kernel
theorem dX3_code_23 : decode cX3_code 23 = .ok (.goto 4, 3) := by decide +kernel
theorem dX3_code_26 : decode cX3_code 26 = .ok (.iconst 0, 1) := by decide +kernel
theorem dX3_code_27 : decode cX3_code 27 = .ok (.putfield 57, 3) := by decide +kernel
theorem dX3_code_30 : decode cX3_code 30 = .ok (.aload_n 0, 1) := by decide +kernel
theorem dX3_code_31 : decode cX3_code 31 = .ok (.getfield 57, 3) := by decide +kernel
theorem dX3_code_34 : decode cX3_code 34 = .ok (.ifCond .ne 10, 3) := by decide +kernel
theorem dX3_code_37 : decode cX3_code 37 = .ok (.aload_n 0, 1) := by decide +kernel
theorem dX3_code_38 : decode cX3_code 38 = .ok (.getfield 19, 3) := by decide +kernel
theorem dX3_code_41 : decode cX3_code 41 = .ok (.iload_n 1, 1) := by decide +kernel
theorem dX3_code_42 : decode cX3_code 42 = .ok (.iload_n 2, 1) := by decide +kernel
theorem dX3_code_43 : decode cX3_code 43 = .ok (.iastore, 1) := by decide +kernel
theorem dX3_code_44 : decode cX3_code 44 = .ok (.return_, 1) := by decide +kernel
theorem dX3_told_0 : decode cX3_told 0 = .ok (.aload_n 0, 1) := by decide +kernel
theorem dX3_told_1 : decode cX3_told 1 = .ok (.iload_n 1, 1) := by decide +kernel
theorem dX3_told_2 : decode cX3_told 2 = .ok (.ifCond .lt 19, 3) := by decide +kernel
theorem dX3_told_5 : decode cX3_told 5 = .ok (.iload_n 1, 1) := by decide +kernel
theorem dX3_told_6 : decode cX3_told 6 = .ok (.bipush 63, 2) := by decide +kernel
theorem dX3_told_8 : decode cX3_told 8 = .ok (.if_icmp .gt 13, 3) := by decide +kernel
theorem dX3_told_11 : decode cX3_told 11 = .ok (.iload_n 2, 1) := by decide +kernel
theorem dX3_told_12 : decode cX3_told 12 = .ok (.ifCond .lt 9, 3) := by decide +kernel
theorem dX3_told_15 : decode cX3_told 15 = .ok (.iload_n 2, 1) := by decide +kernel
theorem dX3_told_16 : decode cX3_told 16 = .ok (.bipush 6, 2) := by decide +kernel
theorem dX3_told_18 : decode cX3_told 18 = .ok (.if_icmp .le 7, 3) := by decide +kernel
theorem dX3_told_21 : decode cX3_told 21 = .ok (.iconst 1, 1) := by decide +kernel
theorem dX3_told_22 : decode cX3_told 22 = .ok (.goto 17, 3) := by decide +kernel
theorem dX3_told_25 : decode cX3_told 25 = .ok (.aload_n 0, 1) := by decide +kernel
theorem dX3_told_26 : decode cX3_told 26 = .ok (.getfield 49, 3) := by decide +kernel
theorem dX3_told_29 : decode cX3_told 29 = .ok (.iload_n 1, 1) := by decide +kernel
theorem dX3_told_30 : decode cX3_told 30 = .ok (.baload, 1) := by decide +kernel
theorem dX3_told_31 : decode cX3_told 31 = .ok (.ifCond .ne 7, 3) := by decide +kernel
theorem dX3_told_34 : decode cX3_told 34 = .ok (.iconst 2, 1) := by decide +kernel
theorem dX3_told_35 : decode cX3_told 35 = .ok (.goto 4, 3) := by decide +kernel
theorem dX3_told_38 : decode cX3_told 38 = .ok (.iconst 0, 1) := by decide +kernel
theorem dX3_told_39 : decode cX3_told 39 = .ok (.putfield 57, 3) := by decide +kernel
theorem dX3_told_42 : decode cX3_told 42 = .ok (.aload_n 0, 1) := by decide +kernel
theorem dX3_told_43 : decode cX3_told 43 = .ok (.getfield 57, 3) := by decide +kernel
theorem dX3_told_46 : decode cX3_told 46 = .ok (.ifCond .eq 5, 3) := by decide +kernel
theorem dX3_told_49 : decode cX3_told 49 = .ok (.iconst 0, 1) := by decide +kernel
theorem dX3_told_50 : decode cX3_told 50 = .ok (.ireturn, 1) := by decide +kernel
theorem dX3_told_51 : decode cX3_told 51 = .ok (.iload_n 2, 1) := by decide +kernel
theorem dX3_told_52 : decode cX3_told 52 = .ok (.tableswitch 82 0 5 #[40, 47, 54, 61, 68, 75], 40) := by decide +kernel
theorem dX3_told_92 : decode cX3_told 92 = .ok (.aload_n 0, 1) := by decide +kernel
theorem dX3_told_93 : decode cX3_told 93 = .ok (.getfield 22, 3) := by decide +kernel
theorem dX3_told_96 : decode cX3_told 96 = .ok (.iload_n 1, 1) := by decide +kernel
theorem dX3_told_97 : decode cX3_told 97 = .ok (.iaload, 1) := by decide +kernel
theorem dX3_told_98 : decode cX3_told 98 = .ok (.ireturn, 1) := by decide +kernel
theorem dX3_told_99 : decode cX3_told 99 = .ok (.aload_n 0, 1) := by decide +kernel
theorem dX3_told_100 : decode cX3_told 100 = .ok (.getfield 34, 3) := by decide +kernel
theorem dX3_told_103 : decode cX3_told 103 = .ok (.iload_n 1, 1) := by decide +kernel
theorem dX3_told_104 : decode cX3_told 104 = .ok (.iaload, 1) := by decide +kernel
theorem dX3_told_105 : decode cX3_told 105 = .ok (.ireturn, 1) := by decide +kernel
theorem dX3_told_106 : decode cX3_told 106 = .ok (.aload_n 0, 1) := by decide +kernel
theorem dX3_told_107 : decode cX3_told 107 = .ok (.getfield 37, 3) := by decide +kernel
theorem dX3_told_110 : decode cX3_told 110 = .ok (.iload_n 1, 1) := by decide +kernel
theorem dX3_told_111 : decode cX3_told 111 = .ok (.iaload, 1) := by decide +kernel
theorem dX3_told_112 : decode cX3_told 112 = .ok (.ireturn, 1) := by decide +kernel
theorem dX3_told_113 : decode cX3_told 113 = .ok (.aload_n 0, 1) := by decide +kernel
theorem dX3_told_114 : decode cX3_told 114 = .ok (.getfield 40, 3) := by decide +kernel
theorem dX3_told_117 : decode cX3_told 117 = .ok (.iload_n 1, 1) := by decide +kernel
theorem dX3_told_118 : decode cX3_told 118 = .ok (.iaload, 1) := by decide +kernel
theorem dX3_told_119 : decode cX3_told 119 = .ok (.ireturn, 1) := by decide +kernel
theorem dX3_told_120 : decode cX3_told 120 = .ok (.aload_n 0, 1) := by decide +kernel
theorem dX3_told_121 : decode cX3_told 121 = .ok (.getfield 43, 3) := by decide +kernel
theorem dX3_told_124 : decode cX3_told 124 = .ok (.iload_n 1, 1) := by decide +kernel
theorem dX3_told_125 : decode cX3_told 125 = .ok (.iaload, 1) := by decide +kernel
theorem dX3_told_126 : decode cX3_told 126 = .ok (.ireturn, 1) := by decide +kernel
theorem dX3_told_127 : decode cX3_told 127 = .ok (.aload_n 0, 1) := by decide +kernel
theorem dX3_told_128 : decode cX3_told 128 = .ok (.getfield 46, 3) := by decide +kernel
theorem dX3_told_131 : decode cX3_told 131 = .ok (.iload_n 1, 1) := by decide +kernel
theorem dX3_told_132 : decode cX3_told 132 = .ok (.iaload, 1) := by decide +kernel
theorem dX3_told_133 : decode cX3_told 133 = .ok (.ireturn, 1) := by decide +kernel
theorem dX3_told_134 : decode cX3_told 134 = .ok (.aload_n 0, 1) := by decide +kernel
theorem dX3_told_135 : decode cX3_told 135 = .ok (.getfield 31, 3) := by decide +kernel
theorem dX3_told_138 : decode cX3_told 138 = .ok (.iload_n 1, 1) := by decide +kernel
theorem dX3_told_139 : decode cX3_told 139 = .ok (.iaload, 1) := by decide +kernel
theorem dX3_told_140 : decode cX3_told 140 = .ok (.ireturn, 1) := by decide +kernel
theorem dX3_count_0 : decode cX3_count 0 = .ok (.aload_n 0, 1) := by decide +kernel
theorem dX3_count_1 : decode cX3_count 1 = .ok (.iconst 0, 1) := by decide +kernel
theorem dX3_count_2 : decode cX3_count 2 = .ok (.putfield 57, 3) := by decide +kernel
theorem dX3_count_5 : decode cX3_count 5 = .ok (.iconst 0, 1) := by decide +kernel
theorem dX3_count_6 : decode cX3_count 6 = .ok (.istore_n 2, 1) := by decide +kernel
theorem dX3_count_7 : decode cX3_count 7 = .ok (.iconst 0, 1) := by decide +kernel
theorem dX3_count_8 : decode cX3_count 8 = .ok (.istore_n 3, 1) := by decide +kernel
theorem dX3_count_9 : decode cX3_count 9 = .ok (.iload_n 3, 1) := by decide +kernel
theorem dX3_count_10 : decode cX3_count 10 = .ok (.bipush 64, 2) := by decide +kernel
theorem dX3_count_12 : decode cX3_count 12 = .ok (.if_icmp .ge 21, 3) := by decide +kernel
theorem dX3_count_15 : decode cX3_count 15 = .ok (.aload_n 0, 1) := by decide +kernel
theorem dX3_count_16 : decode cX3_count 16 = .ok (.getfield 49, 3) := by decide +kernel
theorem dX3_count_19 : decode cX3_count 19 = .ok (.iload_n 3, 1) := by decide +kernel
theorem dX3_count_20 : decode cX3_count 20 = .ok (.baload, 1) := by decide +kernel
theorem dX3_count_21 : decode cX3_count 21 = .ok (.ifCond .eq 6, 3) := by decide +kernel
theorem dX3_count_24 : decode cX3_count 24 = .ok (.iinc 2 1, 3) := by decide +kernel
theorem dX3_count_27 : decode cX3_count 27 = .ok (.iinc 3 1, 3) := by decide +kernel
theorem dX3_count_30 : decode cX3_count 30 = .ok (.goto (-21), 3) := by decide +kernel
theorem dX3_count_33 : decode cX3_count 33 = .ok (.iload_n 1, 1) := by decide +kernel
theorem dX3_count_34 : decode cX3_count 34 = .ok (.tableswitch 117 0 9 #[54, 59, 64, 66, 71, 76, 89, 102, 107, 112], 54) := by decide +kernel
theorem dX3_count_88 : decode cX3_count 88 = .ok (.aload_n 0, 1) := by decide +kernel
theorem dX3_count_89 : decode cX3_count 89 = .ok (.getfield 53, 3) := by decide +kernel
theorem dX3_count_92 : decode cX3_count 92 = .ok (.ireturn, 1) := by decide +kernel
theorem dX3_count_93 : decode cX3_count 93 = .ok (.aload_n 0, 1) := by decide +kernel
theorem dX3_count_94 : decode cX3_count 94 = .ok (.getfield 60, 3) := by decide +kernel
theorem dX3_count_97 : decode cX3_count 97 = .ok (.ireturn, 1) := by decide +kernel
theorem dX3_count_98 : decode cX3_count 98 = .ok (.iload_n 2, 1) := by decide +kernel
theorem dX3_count_99 : decode cX3_count 99 = .ok (.ireturn, 1) := by decide +kernel
theorem dX3_count_100 : decode cX3_count 100 = .ok (.aload_n 0, 1) := by decide +kernel
theorem dX3_count_101 : decode cX3_count 101 = .ok (.getfield 108, 3) := by decide +kernel
theorem dX3_count_104 : decode cX3_count 104 = .ok (.ireturn, 1) := by decide +kernel
theorem dX3_count_105 : decode cX3_count 105 = .ok (.aload_n 0, 1) := by decide +kernel
theorem dX3_count_106 : decode cX3_count 106 = .ok (.getfield 139, 3) := by decide +kernel
theorem dX3_count_109 : decode cX3_count 109 = .ok (.ireturn, 1) := by decide +kernel
theorem dX3_count_110 : decode cX3_count 110 = .ok (.aload_n 0, 1) := by decide +kernel
theorem dX3_count_111 : decode cX3_count 111 = .ok (.getfield 111, 3) := by decide +kernel
theorem dX3_count_114 : decode cX3_count 114 = .ok (.ifCond .eq 7, 3) := by decide +kernel
theorem dX3_count_117 : decode cX3_count 117 = .ok (.iconst 1, 1) := by decide +kernel
theorem dX3_count_118 : decode cX3_count 118 = .ok (.goto 4, 3) := by decide +kernel
theorem dX3_count_121 : decode cX3_count 121 = .ok (.iconst 0, 1) := by decide +kernel
theorem dX3_count_122 : decode cX3_count 122 = .ok (.ireturn, 1) := by decide +kernel
theorem dX3_count_123 : decode cX3_count 123 = .ok (.aload_n 0, 1) := by decide +kernel
theorem dX3_count_124 : decode cX3_count 124 = .ok (.getfield 115, 3) := by decide +kernel
theorem dX3_count_127 : decode cX3_count 127 = .ok (.ifCond .eq 7, 3) := by decide +kernel
theorem dX3_count_130 : decode cX3_count 130 = .ok (.iconst 1, 1) := by decide +kernel
theorem dX3_count_131 : decode cX3_count 131 = .ok (.goto 4, 3) := by decide +kernel
theorem dX3_count_134 : decode cX3_count 134 = .ok (.iconst 0, 1) := by decide +kernel
theorem dX3_count_135 : decode cX3_count 135 = .ok (.ireturn, 1) := by decide +kernel
theorem dX3_count_136 : decode cX3_count 136 = .ok (.aload_n 0, 1) := by decide +kernel
theorem dX3_count_137 : decode cX3_count 137 = .ok (.getfield 125, 3) := by decide +kernel
theorem dX3_count_140 : decode cX3_count 140 = .ok (.ireturn, 1) := by decide +kernel
theorem dX3_count_141 : decode cX3_count 141 = .ok (.aload_n 0, 1) := by decide +kernel
theorem dX3_count_142 : decode cX3_count 142 = .ok (.getfield 127, 3) := by decide +kernel
theorem dX3_count_145 : decode cX3_count 145 = .ok (.ireturn, 1) := by decide +kernel
theorem dX3_count_146 : decode cX3_count 146 = .ok (.aload_n 0, 1) := by decide +kernel
theorem dX3_count_147 : decode cX3_count 147 = .ok (.getfield 136, 3) := by decide +kernel
theorem dX3_count_150 : decode cX3_count 150 = .ok (.ireturn, 1) := by decide +kernel
theorem dX3_count_151 : decode cX3_count 151 = .ok (.iconst (-1), 1) := by decide +kernel
theorem dX3_count_152 : decode cX3_count 152 = .ok (.ireturn, 1) := by decide +kernel
end
section
theorem dL_type_0 : decode cL_type 0 = .ok (.aload_n 3, 1) := by decide +kernel
theorem dL_type_1 : decode cL_type 1 = .ok (.iconst 0, 1) := by decide +kernel
theorem dL_type_2 : decode cL_type 2 = .ok (.aload_n 0, 1) := by decide +kernel
theorem dL_type_3 : decode cL_type 3 = .ok (.lload_n 1, 1) := by decide +kernel
theorem dL_type_4 : decode cL_type 4 = .ok (.invokevirtual 7, 3) := by decide +kernel
theorem dL_type_7 : decode cL_type 7 = .ok (.i2l, 1) := by decide +kernel
theorem dL_type_8 : decode cL_type 8 = .ok (.lastore, 1) := by decide +kernel
theorem dL_type_9 : decode cL_type 9 = .ok (.goto 11, 3) := by decide +kernel
theorem dL_type_12 : decode cL_type 12 = .ok (.astore 4, 2) := by decide +kernel
theorem dL_type_14 : decode cL_type 14 = .ok (.iconst 1, 1) := by decide +kernel
theorem dL_type_15 : decode cL_type 15 = .ok (.ireturn, 1) := by decide +kernel
theorem dL_type_16 : decode cL_type 16 = .ok (.astore 4, 2) := by decide +kernel
theorem dL_type_18 : decode cL_type 18 = .ok (.iconst 2, 1) := by decide +kernel
theorem dL_type_19 : decode cL_type 19 = .ok (.ireturn, 1) := by decide +kernel
theorem dL_type_20 : decode cL_type 20 = .ok (.iconst 0, 1) := by decide +kernel
theorem dL_type_21 : decode cL_type 21 = .ok (.ireturn, 1) := by decide +kernel
theorem dL_word_0 : decode cL_word 0 = .ok (.aload_n 2, 1) := by decide +kernel
theorem dL_word_1 : decode cL_word 1 = .ok (.iconst 0, 1) := by decide +kernel
theorem dL_word_2 : decode cL_word 2 = .ok (.aload_n 0, 1) := by decide +kernel
theorem dL_word_3 : decode cL_word 3 = .ok (.iload_n 1, 1) := by decide +kernel
theorem dL_word_4 : decode cL_word 4 = .ok (.invokevirtual 17, 3) := by decide +kernel
theorem dL_word_7 : decode cL_word 7 = .ok (.i2l, 1) := by decide +kernel
theorem dL_word_8 : decode cL_word 8 = .ok (.lastore, 1) := by decide +kernel
theorem dL_word_9 : decode cL_word 9 = .ok (.goto 6, 3) := by decide +kernel
theorem dL_word_12 : decode cL_word 12 = .ok (.astore_n 3, 1) := by decide +kernel
theorem dL_word_13 : decode cL_word 13 = .ok (.iconst 1, 1) := by decide +kernel
theorem dL_word_14 : decode cL_word 14 = .ok (.ireturn, 1) := by decide +kernel
theorem dL_word_15 : decode cL_word 15 = .ok (.iconst 0, 1) := by decide +kernel
theorem dL_word_16 : decode cL_word 16 = .ok (.ireturn, 1) := by decide +kernel
theorem dL_erase_0 : decode cL_erase 0 = .ok (.aload_n 0, 1) := by decide +kernel
theorem dL_erase_1 : decode cL_erase 1 = .ok (.iload_n 1, 1) := by decide +kernel
theorem dL_erase_2 : decode cL_erase 2 = .ok (.invokevirtual 21, 3) := by decide +kernel
theorem dL_erase_5 : decode cL_erase 5 = .ok (.goto 9, 3) := by decide +kernel
theorem dL_erase_8 : decode cL_erase 8 = .ok (.astore_n 2, 1) := by decide +kernel
theorem dL_erase_9 : decode cL_erase 9 = .ok (.iconst 1, 1) := by decide +kernel
theorem dL_erase_10 : decode cL_erase 10 = .ok (.ireturn, 1) := by decide +kernel
theorem dL_erase_11 : decode cL_erase 11 = .ok (.astore_n 2, 1) := by decide +kernel
theorem dL_erase_12 : decode cL_erase 12 = .ok (.iconst 2, 1) := by decide +kernel
theorem dL_erase_13 : decode cL_erase 13 = .ok (.ireturn, 1) := by decide +kernel
theorem dL_erase_14 : decode cL_erase 14 = .ok (.iconst 0, 1) := by decide +kernel
theorem dL_erase_15 : decode cL_erase 15 = .ok (.ireturn, 1) := by decide +kernel
theorem dL_begin_0 : decode cL_begin 0 = .ok (.aload_n 0, 1) := by decide +kernel
theorem dL_begin_1 : decode cL_begin 1 = .ok (.iload_n 1, 1) := by decide +kernel
theorem dL_begin_2 : decode cL_begin 2 = .ok (.invokevirtual 27, 3) := by decide +kernel
theorem dL_begin_5 : decode cL_begin 5 = .ok (.goto 6, 3) := by decide +kernel
theorem dL_begin_8 : decode cL_begin 8 = .ok (.astore_n 2, 1) := by decide +kernel
theorem dL_begin_9 : decode cL_begin 9 = .ok (.iconst 1, 1) := by decide +kernel
theorem dL_begin_10 : decode cL_begin 10 = .ok (.ireturn, 1) := by decide +kernel
theorem dL_begin_11 : decode cL_begin 11 = .ok (.iconst 0, 1) := by decide +kernel
theorem dL_begin_12 : decode cL_begin 12 = .ok (.ireturn, 1) := by decide +kernel
theorem dL_run_0 : decode cL_run 0 = .ok (.aload_n 2, 1) := by decide +kernel
theorem dL_run_1 : decode cL_run 1 = .ok (.iconst 0, 1) := by decide +kernel
theorem dL_run_2 : decode cL_run 2 = .ok (.aload_n 0, 1) := by decide +kernel
theorem dL_run_3 : decode cL_run 3 = .ok (.iload_n 1, 1) := by decide +kernel
theorem dL_run_4 : decode cL_run 4 = .ok (.invokevirtual 30, 3) := by decide +kernel
theorem dL_run_7 : decode cL_run 7 = .ok (.i2l, 1) := by decide +kernel
theorem dL_run_8 : decode cL_run 8 = .ok (.lastore, 1) := by decide +kernel
theorem dL_run_9 : decode cL_run 9 = .ok (.goto 12, 3) := by decide +kernel
theorem dL_run_12 : decode cL_run 12 = .ok (.astore_n 3, 1) := by decide +kernel
theorem dL_run_13 : decode cL_run 13 = .ok (.iconst 1, 1) := by decide +kernel
theorem dL_run_14 : decode cL_run 14 = .ok (.ireturn, 1) := by decide +kernel
theorem dL_run_15 : decode cL_run 15 = .ok (.astore_n 3, 1) := by decide +kernel
theorem dL_run_16 : decode cL_run 16 = .ok (.iconst 2, 1) := by decide +kernel
theorem dL_run_17 : decode cL_run 17 = .ok (.ireturn, 1) := by decide +kernel
theorem dL_run_18 : decode cL_run 18 = .ok (.astore_n 3, 1) := by decide +kernel
theorem dL_run_19 : decode cL_run 19 = .ok (.iconst 3, 1) := by decide +kernel
theorem dL_run_20 : decode cL_run 20 = .ok (.ireturn, 1) := by decide +kernel
theorem dL_run_21 : decode cL_run 21 = .ok (.iconst 0, 1) := by decide +kernel
theorem dL_run_22 : decode cL_run 22 = .ok (.ireturn, 1) := by decide +kernel
theorem dL_set_0 : decode cL_set 0 = .ok (.aload_n 0, 1) := by decide +kernel
theorem dL_set_1 : decode cL_set 1 = .ok (.iload_n 1, 1) := by decide +kernel
theorem dL_set_2 : decode cL_set 2 = .ok (.iload_n 2, 1) := by decide +kernel
theorem dL_set_3 : decode cL_set 3 = .ok (.invokevirtual 35, 3) := by decide +kernel
theorem dL_set_6 : decode cL_set 6 = .ok (.goto 6, 3) := by decide +kernel
theorem dL_set_9 : decode cL_set 9 = .ok (.astore_n 3, 1) := by decide +kernel
theorem dL_set_10 : decode cL_set 10 = .ok (.iconst 1, 1) := by decide +kernel
theorem dL_set_11 : decode cL_set 11 = .ok (.ireturn, 1) := by decide +kernel
theorem dL_set_12 : decode cL_set 12 = .ok (.iconst 0, 1) := by decide +kernel
theorem dL_set_13 : decode cL_set 13 = .ok (.ireturn, 1) := by decide +kernel
theorem dL_register_0 : decode cL_register 0 = .ok (.aload_n 2, 1) := by decide +kernel
theorem dL_register_1 : decode cL_register 1 = .ok (.iconst 0, 1) := by decide +kernel
theorem dL_register_2 : decode cL_register 2 = .ok (.aload_n 0, 1) := by decide +kernel
theorem dL_register_3 : decode cL_register 3 = .ok (.iload_n 1, 1) := by decide +kernel
theorem dL_register_4 : decode cL_register 4 = .ok (.invokevirtual 39, 3) := by decide +kernel
theorem dL_register_7 : decode cL_register 7 = .ok (.i2l, 1) := by decide +kernel
theorem dL_register_8 : decode cL_register 8 = .ok (.lastore, 1) := by decide +kernel
theorem dL_register_9 : decode cL_register 9 = .ok (.goto 6, 3) := by decide +kernel
theorem dL_register_12 : decode cL_register 12 = .ok (.astore_n 3, 1) := by decide +kernel
theorem dL_register_13 : decode cL_register 13 = .ok (.iconst 1, 1) := by decide +kernel
theorem dL_register_14 : decode cL_register 14 = .ok (.ireturn, 1) := by decide +kernel
theorem dL_register_15 : decode cL_register 15 = .ok (.iconst 0, 1) := by decide +kernel
theorem dL_register_16 : decode cL_register 16 = .ok (.ireturn, 1) := by decide +kernel
theorem dL_poke_0 : decode cL_poke 0 = .ok (.aload_n 0, 1) := by decide +kernel
theorem dL_poke_1 : decode cL_poke 1 = .ok (.iload_n 1, 1) := by decide +kernel
theorem dL_poke_2 : decode cL_poke 2 = .ok (.iload_n 2, 1) := by decide +kernel
theorem dL_poke_3 : decode cL_poke 3 = .ok (.invokevirtual 42, 3) := by decide +kernel
theorem dL_poke_6 : decode cL_poke 6 = .ok (.goto 6, 3) := by decide +kernel
theorem dL_poke_9 : decode cL_poke 9 = .ok (.astore_n 3, 1) := by decide +kernel
theorem dL_poke_10 : decode cL_poke 10 = .ok (.iconst 1, 1) := by decide +kernel
theorem dL_poke_11 : decode cL_poke 11 = .ok (.ireturn, 1) := by decide +kernel
theorem dL_poke_12 : decode cL_poke 12 = .ok (.iconst 0, 1) := by decide +kernel
theorem dL_poke_13 : decode cL_poke 13 = .ok (.ireturn, 1) := by decide +kernel
theorem dL_memory_0 : decode cL_memory 0 = .ok (.aload_n 2, 1) := by decide +kernel
theorem dL_memory_1 : decode cL_memory 1 = .ok (.iconst 0, 1) := by decide +kernel
theorem dL_memory_2 : decode cL_memory 2 = .ok (.aload_n 0, 1) := by decide +kernel
theorem dL_memory_3 : decode cL_memory 3 = .ok (.iload_n 1, 1) := by decide +kernel
theorem dL_memory_4 : decode cL_memory 4 = .ok (.invokevirtual 45, 3) := by decide +kernel
theorem dL_memory_7 : decode cL_memory 7 = .ok (.i2l, 1) := by decide +kernel
theorem dL_memory_8 : decode cL_memory 8 = .ok (.lastore, 1) := by decide +kernel
theorem dL_memory_9 : decode cL_memory 9 = .ok (.goto 6, 3) := by decide +kernel
theorem dL_memory_12 : decode cL_memory 12 = .ok (.astore_n 3, 1) := by decide +kernel
theorem dL_memory_13 : decode cL_memory 13 = .ok (.iconst 1, 1) := by decide +kernel
theorem dL_memory_14 : decode cL_memory 14 = .ok (.ireturn, 1) := by decide +kernel
theorem dL_memory_15 : decode cL_memory 15 = .ok (.iconst 0, 1) := by decide +kernel
theorem dL_memory_16 : decode cL_memory 16 = .ok (.ireturn, 1) := by decide +kernel
theorem dL_code_0 : decode cL_code 0 = .ok (.aload_n 0, 1) := by decide +kernel
theorem dL_code_1 : decode cL_code 1 = .ok (.iload_n 1, 1) := by decide +kernel
theorem dL_code_2 : decode cL_code 2 = .ok (.iload_n 2, 1) := by decide +kernel
theorem dL_code_3 : decode cL_code 3 = .ok (.invokevirtual 48, 3) := by decide +kernel
theorem dL_code_6 : decode cL_code 6 = .ok (.goto 6, 3) := by decide +kernel
theorem dL_code_9 : decode cL_code 9 = .ok (.astore_n 3, 1) := by decide +kernel
theorem dL_code_10 : decode cL_code 10 = .ok (.iconst 1, 1) := by decide +kernel
theorem dL_code_11 : decode cL_code 11 = .ok (.ireturn, 1) := by decide +kernel
theorem dL_code_12 : decode cL_code 12 = .ok (.iconst 0, 1) := by decide +kernel
theorem dL_code_13 : decode cL_code 13 = .ok (.ireturn, 1) := by decide +kernel
theorem dL_told_0 : decode cL_told 0 = .ok (.aload_n 3, 1) := by decide +kernel
theorem dL_told_1 : decode cL_told 1 = .ok (.iconst 0, 1) := by decide +kernel
theorem dL_told_2 : decode cL_told 2 = .ok (.aload_n 0, 1) := by decide +kernel
theorem dL_told_3 : decode cL_told 3 = .ok (.iload_n 1, 1) := by decide +kernel
theorem dL_told_4 : decode cL_told 4 = .ok (.iload_n 2, 1) := by decide +kernel
theorem dL_told_5 : decode cL_told 5 = .ok (.invokevirtual 51, 3) := by decide +kernel
theorem dL_told_8 : decode cL_told 8 = .ok (.i2l, 1) := by decide +kernel
theorem dL_told_9 : decode cL_told 9 = .ok (.lastore, 1) := by decide +kernel
theorem dL_told_10 : decode cL_told 10 = .ok (.goto 11, 3) := by decide +kernel
theorem dL_told_13 : decode cL_told 13 = .ok (.astore 4, 2) := by decide +kernel
theorem dL_told_15 : decode cL_told 15 = .ok (.iconst 1, 1) := by decide +kernel
theorem dL_told_16 : decode cL_told 16 = .ok (.ireturn, 1) := by decide +kernel
theorem dL_told_17 : decode cL_told 17 = .ok (.astore 4, 2) := by decide +kernel
theorem dL_told_19 : decode cL_told 19 = .ok (.iconst 2, 1) := by decide +kernel
theorem dL_told_20 : decode cL_told 20 = .ok (.ireturn, 1) := by decide +kernel
theorem dL_told_21 : decode cL_told 21 = .ok (.iconst 0, 1) := by decide +kernel
theorem dL_told_22 : decode cL_told 22 = .ok (.ireturn, 1) := by decide +kernel
theorem dL_law_0 : decode cL_law 0 = .ok (.new 8, 3) := by decide +kernel
theorem dL_law_3 : decode cL_law 3 = .ok (.dup, 1) := by decide +kernel
theorem dL_law_4 : decode cL_law 4 = .ok (.invokespecial 55, 3) := by decide +kernel
theorem dL_law_7 : decode cL_law 7 = .ok (.astore_n 1, 1) := by decide +kernel
theorem dL_law_8 : decode cL_law 8 = .ok (.new 56, 3) := by decide +kernel
theorem dL_law_11 : decode cL_law 11 = .ok (.dup, 1) := by decide +kernel
theorem dL_law_12 : decode cL_law 12 = .ok (.invokespecial 58, 3) := by decide +kernel
theorem dL_law_15 : decode cL_law 15 = .ok (.astore_n 2, 1) := by decide +kernel
theorem dL_law_16 : decode cL_law 16 = .ok (.iconst 1, 1) := by decide +kernel
theorem dL_law_17 : decode cL_law 17 = .ok (.newarray .long, 2) := by decide +kernel
theorem dL_law_19 : decode cL_law 19 = .ok (.astore_n 3, 1) := by decide +kernel
theorem dL_law_20 : decode cL_law 20 = .ok (.iconst 0, 1) := by decide +kernel
theorem dL_law_21 : decode cL_law 21 = .ok (.istore 4, 2) := by decide +kernel
theorem dL_law_23 : decode cL_law 23 = .ok (.iload 4, 2) := by decide +kernel
theorem dL_law_25 : decode cL_law 25 = .ok (.aload_n 0, 1) := by decide +kernel
theorem dL_law_26 : decode cL_law 26 = .ok (.arraylength, 1) := by decide +kernel
theorem dL_law_27 : decode cL_law 27 = .ok (.iconst 3, 1) := by decide +kernel
theorem dL_law_28 : decode cL_law 28 = .ok (.isub, 1) := by decide +kernel
theorem dL_law_29 : decode cL_law 29 = .ok (.if_icmp .gt 698, 3) := by decide +kernel
theorem dL_law_32 : decode cL_law 32 = .ok (.aload_n 0, 1) := by decide +kernel
theorem dL_law_33 : decode cL_law 33 = .ok (.iload 4, 2) := by decide +kernel
theorem dL_law_35 : decode cL_law 35 = .ok (.iaload, 1) := by decide +kernel
theorem dL_law_36 : decode cL_law 36 = .ok (.bipush 15, 2) := by decide +kernel
theorem dL_law_38 : decode cL_law 38 = .ok (.iand, 1) := by decide +kernel
theorem dL_law_39 : decode cL_law 39 = .ok (.tableswitch 682 0 11 #[61, 149, 205, 241, 277, 333, 381, 437, 485, 541, 589, 657], 61) := by decide +kernel
theorem dL_law_100 : decode cL_law 100 = .ok (.aload_n 1, 1) := by decide +kernel
theorem dL_law_101 : decode cL_law 101 = .ok (.aload_n 0, 1) := by decide +kernel
theorem dL_law_102 : decode cL_law 102 = .ok (.iload 4, 2) := by decide +kernel
theorem dL_law_104 : decode cL_law 104 = .ok (.iconst 1, 1) := by decide +kernel
theorem dL_law_105 : decode cL_law 105 = .ok (.iadd, 1) := by decide +kernel
theorem dL_law_106 : decode cL_law 106 = .ok (.iaload, 1) := by decide +kernel
theorem dL_law_107 : decode cL_law 107 = .ok (.i2l, 1) := by decide +kernel
theorem dL_law_108 : decode cL_law 108 = .ok (.bipush 32, 2) := by decide +kernel
theorem dL_law_110 : decode cL_law 110 = .ok (.lshl, 1) := by decide +kernel
theorem dL_law_111 : decode cL_law 111 = .ok (.aload_n 0, 1) := by decide +kernel
theorem dL_law_112 : decode cL_law 112 = .ok (.iload 4, 2) := by decide +kernel
theorem dL_law_114 : decode cL_law 114 = .ok (.iconst 2, 1) := by decide +kernel
theorem dL_law_115 : decode cL_law 115 = .ok (.iadd, 1) := by decide +kernel
theorem dL_law_116 : decode cL_law 116 = .ok (.iaload, 1) := by decide +kernel
theorem dL_law_117 : decode cL_law 117 = .ok (.i2l, 1) := by decide +kernel
theorem dL_law_118 : decode cL_law 118 = .ok (.ldc2_w 59, 3) := by decide +kernel
theorem dL_law_121 : decode cL_law 121 = .ok (.land, 1) := by decide +kernel
theorem dL_law_122 : decode cL_law 122 = .ok (.lor, 1) := by decide +kernel
theorem dL_law_123 : decode cL_law 123 = .ok (.aload_n 3, 1) := by decide +kernel
theorem dL_law_124 : decode cL_law 124 = .ok (.invokestatic 61, 3) := by decide +kernel
theorem dL_law_127 : decode cL_law 127 = .ok (.istore 5, 2) := by decide +kernel
theorem dL_law_129 : decode cL_law 129 = .ok (.aload_n 2, 1) := by decide +kernel
theorem dL_law_130 : decode cL_law 130 = .ok (.aload_n 0, 1) := by decide +kernel
theorem dL_law_131 : decode cL_law 131 = .ok (.iload 4, 2) := by decide +kernel
theorem dL_law_133 : decode cL_law 133 = .ok (.iconst 1, 1) := by decide +kernel
theorem dL_law_134 : decode cL_law 134 = .ok (.iadd, 1) := by decide +kernel
theorem dL_law_135 : decode cL_law 135 = .ok (.iaload, 1) := by decide +kernel
theorem dL_law_136 : decode cL_law 136 = .ok (.i2l, 1) := by decide +kernel
theorem dL_law_137 : decode cL_law 137 = .ok (.bipush 32, 2) := by decide +kernel
theorem dL_law_139 : decode cL_law 139 = .ok (.lshl, 1) := by decide +kernel
theorem dL_law_140 : decode cL_law 140 = .ok (.aload_n 0, 1) := by decide +kernel
theorem dL_law_141 : decode cL_law 141 = .ok (.iload 4, 2) := by decide +kernel
theorem dL_law_143 : decode cL_law 143 = .ok (.iconst 2, 1) := by decide +kernel
theorem dL_law_144 : decode cL_law 144 = .ok (.iadd, 1) := by decide +kernel
theorem dL_law_145 : decode cL_law 145 = .ok (.iaload, 1) := by decide +kernel
theorem dL_law_146 : decode cL_law 146 = .ok (.i2l, 1) := by decide +kernel
theorem dL_law_147 : decode cL_law 147 = .ok (.ldc2_w 59, 3) := by decide +kernel
theorem dL_law_150 : decode cL_law 150 = .ok (.land, 1) := by decide +kernel
theorem dL_law_151 : decode cL_law 151 = .ok (.lor, 1) := by decide +kernel
theorem dL_law_152 : decode cL_law 152 = .ok (.invokevirtual 66, 3) := by decide +kernel
theorem dL_law_155 : decode cL_law 155 = .ok (.istore 6, 2) := by decide +kernel
theorem dL_law_157 : decode cL_law 157 = .ok (.aload_n 2, 1) := by decide +kernel
theorem dL_law_158 : decode cL_law 158 = .ok (.invokevirtual 67, 3) := by decide +kernel
theorem dL_law_161 : decode cL_law 161 = .ok (.iload 5, 2) := by decide +kernel
theorem dL_law_163 : decode cL_law 163 = .ok (.if_icmp .eq 5, 3) := by decide +kernel
theorem dL_law_166 : decode cL_law 166 = .ok (.iconst 0, 1) := by decide +kernel
theorem dL_law_167 : decode cL_law 167 = .ok (.ireturn, 1) := by decide +kernel
theorem dL_law_168 : decode cL_law 168 = .ok (.iload 5, 2) := by decide +kernel
theorem dL_law_170 : decode cL_law 170 = .ok (.ifCond .ne 15, 3) := by decide +kernel
theorem dL_law_173 : decode cL_law 173 = .ok (.aload_n 3, 1) := by decide +kernel
theorem dL_law_174 : decode cL_law 174 = .ok (.iconst 0, 1) := by decide +kernel
theorem dL_law_175 : decode cL_law 175 = .ok (.laload, 1) := by decide +kernel
theorem dL_law_176 : decode cL_law 176 = .ok (.iload 6, 2) := by decide +kernel
theorem dL_law_178 : decode cL_law 178 = .ok (.i2l, 1) := by decide +kernel
theorem dL_law_179 : decode cL_law 179 = .ok (.lcmp, 1) := by decide +kernel
theorem dL_law_180 : decode cL_law 180 = .ok (.ifCond .eq 5, 3) := by decide +kernel
theorem dL_law_183 : decode cL_law 183 = .ok (.iconst 0, 1) := by decide +kernel
theorem dL_law_184 : decode cL_law 184 = .ok (.ireturn, 1) := by decide +kernel
theorem dL_law_185 : decode cL_law 185 = .ok (.goto 536, 3) := by decide +kernel
theorem dL_law_188 : decode cL_law 188 = .ok (.aload_n 1, 1) := by decide +kernel
theorem dL_law_189 : decode cL_law 189 = .ok (.aload_n 0, 1) := by decide +kernel
theorem dL_law_190 : decode cL_law 190 = .ok (.iload 4, 2) := by decide +kernel
theorem dL_law_192 : decode cL_law 192 = .ok (.iconst 1, 1) := by decide +kernel
theorem dL_law_193 : decode cL_law 193 = .ok (.iadd, 1) := by decide +kernel
theorem dL_law_194 : decode cL_law 194 = .ok (.iaload, 1) := by decide +kernel
theorem dL_law_195 : decode cL_law 195 = .ok (.aload_n 3, 1) := by decide +kernel
theorem dL_law_196 : decode cL_law 196 = .ok (.invokestatic 71, 3) := by decide +kernel
theorem dL_law_199 : decode cL_law 199 = .ok (.istore 5, 2) := by decide +kernel
theorem dL_law_201 : decode cL_law 201 = .ok (.aload_n 2, 1) := by decide +kernel
theorem dL_law_202 : decode cL_law 202 = .ok (.aload_n 0, 1) := by decide +kernel
theorem dL_law_203 : decode cL_law 203 = .ok (.iload 4, 2) := by decide +kernel
theorem dL_law_205 : decode cL_law 205 = .ok (.iconst 1, 1) := by decide +kernel
theorem dL_law_206 : decode cL_law 206 = .ok (.iadd, 1) := by decide +kernel
theorem dL_law_207 : decode cL_law 207 = .ok (.iaload, 1) := by decide +kernel
theorem dL_law_208 : decode cL_law 208 = .ok (.invokevirtual 74, 3) := by decide +kernel
theorem dL_law_211 : decode cL_law 211 = .ok (.istore 6, 2) := by decide +kernel
theorem dL_law_213 : decode cL_law 213 = .ok (.aload_n 2, 1) := by decide +kernel
theorem dL_law_214 : decode cL_law 214 = .ok (.invokevirtual 67, 3) := by decide +kernel
theorem dL_law_217 : decode cL_law 217 = .ok (.iload 5, 2) := by decide +kernel
theorem dL_law_219 : decode cL_law 219 = .ok (.if_icmp .eq 5, 3) := by decide +kernel
theorem dL_law_222 : decode cL_law 222 = .ok (.iconst 0, 1) := by decide +kernel
theorem dL_law_223 : decode cL_law 223 = .ok (.ireturn, 1) := by decide +kernel
theorem dL_law_224 : decode cL_law 224 = .ok (.iload 5, 2) := by decide +kernel
theorem dL_law_226 : decode cL_law 226 = .ok (.ifCond .ne 15, 3) := by decide +kernel
theorem dL_law_229 : decode cL_law 229 = .ok (.aload_n 3, 1) := by decide +kernel
theorem dL_law_230 : decode cL_law 230 = .ok (.iconst 0, 1) := by decide +kernel
theorem dL_law_231 : decode cL_law 231 = .ok (.laload, 1) := by decide +kernel
theorem dL_law_232 : decode cL_law 232 = .ok (.iload 6, 2) := by decide +kernel
theorem dL_law_234 : decode cL_law 234 = .ok (.i2l, 1) := by decide +kernel
theorem dL_law_235 : decode cL_law 235 = .ok (.lcmp, 1) := by decide +kernel
theorem dL_law_236 : decode cL_law 236 = .ok (.ifCond .eq 5, 3) := by decide +kernel
theorem dL_law_239 : decode cL_law 239 = .ok (.iconst 0, 1) := by decide +kernel
theorem dL_law_240 : decode cL_law 240 = .ok (.ireturn, 1) := by decide +kernel
theorem dL_law_241 : decode cL_law 241 = .ok (.goto 480, 3) := by decide +kernel
theorem dL_law_244 : decode cL_law 244 = .ok (.aload_n 1, 1) := by decide +kernel
theorem dL_law_245 : decode cL_law 245 = .ok (.aload_n 0, 1) := by decide +kernel
theorem dL_law_246 : decode cL_law 246 = .ok (.iload 4, 2) := by decide +kernel
theorem dL_law_248 : decode cL_law 248 = .ok (.iconst 1, 1) := by decide +kernel
theorem dL_law_249 : decode cL_law 249 = .ok (.iadd, 1) := by decide +kernel
theorem dL_law_250 : decode cL_law 250 = .ok (.iaload, 1) := by decide +kernel
theorem dL_law_251 : decode cL_law 251 = .ok (.invokestatic 75, 3) := by decide +kernel
theorem dL_law_254 : decode cL_law 254 = .ok (.istore 5, 2) := by decide +kernel
theorem dL_law_256 : decode cL_law 256 = .ok (.aload_n 2, 1) := by decide +kernel
theorem dL_law_257 : decode cL_law 257 = .ok (.aload_n 0, 1) := by decide +kernel
theorem dL_law_258 : decode cL_law 258 = .ok (.iload 4, 2) := by decide +kernel
theorem dL_law_260 : decode cL_law 260 = .ok (.iconst 1, 1) := by decide +kernel
theorem dL_law_261 : decode cL_law 261 = .ok (.iadd, 1) := by decide +kernel
theorem dL_law_262 : decode cL_law 262 = .ok (.iaload, 1) := by decide +kernel
theorem dL_law_263 : decode cL_law 263 = .ok (.invokevirtual 78, 3) := by decide +kernel
theorem dL_law_266 : decode cL_law 266 = .ok (.aload_n 2, 1) := by decide +kernel
theorem dL_law_267 : decode cL_law 267 = .ok (.invokevirtual 67, 3) := by decide +kernel
theorem dL_law_270 : decode cL_law 270 = .ok (.iload 5, 2) := by decide +kernel
theorem dL_law_272 : decode cL_law 272 = .ok (.if_icmp .eq 5, 3) := by decide +kernel
theorem dL_law_275 : decode cL_law 275 = .ok (.iconst 0, 1) := by decide +kernel
theorem dL_law_276 : decode cL_law 276 = .ok (.ireturn, 1) := by decide +kernel
theorem dL_law_277 : decode cL_law 277 = .ok (.goto 444, 3) := by decide +kernel
theorem dL_law_280 : decode cL_law 280 = .ok (.aload_n 1, 1) := by decide +kernel
theorem dL_law_281 : decode cL_law 281 = .ok (.aload_n 0, 1) := by decide +kernel
theorem dL_law_282 : decode cL_law 282 = .ok (.iload 4, 2) := by decide +kernel
theorem dL_law_284 : decode cL_law 284 = .ok (.iconst 1, 1) := by decide +kernel
theorem dL_law_285 : decode cL_law 285 = .ok (.iadd, 1) := by decide +kernel
theorem dL_law_286 : decode cL_law 286 = .ok (.iaload, 1) := by decide +kernel
theorem dL_law_287 : decode cL_law 287 = .ok (.invokestatic 79, 3) := by decide +kernel
theorem dL_law_290 : decode cL_law 290 = .ok (.istore 5, 2) := by decide +kernel
theorem dL_law_292 : decode cL_law 292 = .ok (.aload_n 2, 1) := by decide +kernel
theorem dL_law_293 : decode cL_law 293 = .ok (.aload_n 0, 1) := by decide +kernel
theorem dL_law_294 : decode cL_law 294 = .ok (.iload 4, 2) := by decide +kernel
theorem dL_law_296 : decode cL_law 296 = .ok (.iconst 1, 1) := by decide +kernel
theorem dL_law_297 : decode cL_law 297 = .ok (.iadd, 1) := by decide +kernel
theorem dL_law_298 : decode cL_law 298 = .ok (.iaload, 1) := by decide +kernel
theorem dL_law_299 : decode cL_law 299 = .ok (.invokevirtual 81, 3) := by decide +kernel
theorem dL_law_302 : decode cL_law 302 = .ok (.aload_n 2, 1) := by decide +kernel
theorem dL_law_303 : decode cL_law 303 = .ok (.invokevirtual 67, 3) := by decide +kernel
theorem dL_law_306 : decode cL_law 306 = .ok (.iload 5, 2) := by decide +kernel
theorem dL_law_308 : decode cL_law 308 = .ok (.if_icmp .eq 5, 3) := by decide +kernel
theorem dL_law_311 : decode cL_law 311 = .ok (.iconst 0, 1) := by decide +kernel
theorem dL_law_312 : decode cL_law 312 = .ok (.ireturn, 1) := by decide +kernel
theorem dL_law_313 : decode cL_law 313 = .ok (.goto 408, 3) := by decide +kernel
theorem dL_law_316 : decode cL_law 316 = .ok (.aload_n 1, 1) := by decide +kernel
theorem dL_law_317 : decode cL_law 317 = .ok (.aload_n 0, 1) := by decide +kernel
theorem dL_law_318 : decode cL_law 318 = .ok (.iload 4, 2) := by decide +kernel
theorem dL_law_320 : decode cL_law 320 = .ok (.iconst 1, 1) := by decide +kernel
theorem dL_law_321 : decode cL_law 321 = .ok (.iadd, 1) := by decide +kernel
theorem dL_law_322 : decode cL_law 322 = .ok (.iaload, 1) := by decide +kernel
theorem dL_law_323 : decode cL_law 323 = .ok (.aload_n 3, 1) := by decide +kernel
theorem dL_law_324 : decode cL_law 324 = .ok (.invokestatic 82, 3) := by decide +kernel
theorem dL_law_327 : decode cL_law 327 = .ok (.istore 5, 2) := by decide +kernel
theorem dL_law_329 : decode cL_law 329 = .ok (.aload_n 2, 1) := by decide +kernel
theorem dL_law_330 : decode cL_law 330 = .ok (.aload_n 0, 1) := by decide +kernel
theorem dL_law_331 : decode cL_law 331 = .ok (.iload 4, 2) := by decide +kernel
theorem dL_law_333 : decode cL_law 333 = .ok (.iconst 1, 1) := by decide +kernel
theorem dL_law_334 : decode cL_law 334 = .ok (.iadd, 1) := by decide +kernel
theorem dL_law_335 : decode cL_law 335 = .ok (.iaload, 1) := by decide +kernel
theorem dL_law_336 : decode cL_law 336 = .ok (.invokevirtual 84, 3) := by decide +kernel
theorem dL_law_339 : decode cL_law 339 = .ok (.istore 6, 2) := by decide +kernel
theorem dL_law_341 : decode cL_law 341 = .ok (.aload_n 2, 1) := by decide +kernel
theorem dL_law_342 : decode cL_law 342 = .ok (.invokevirtual 67, 3) := by decide +kernel
theorem dL_law_345 : decode cL_law 345 = .ok (.iload 5, 2) := by decide +kernel
theorem dL_law_347 : decode cL_law 347 = .ok (.if_icmp .eq 5, 3) := by decide +kernel
theorem dL_law_350 : decode cL_law 350 = .ok (.iconst 0, 1) := by decide +kernel
theorem dL_law_351 : decode cL_law 351 = .ok (.ireturn, 1) := by decide +kernel
theorem dL_law_352 : decode cL_law 352 = .ok (.iload 5, 2) := by decide +kernel
theorem dL_law_354 : decode cL_law 354 = .ok (.ifCond .ne 15, 3) := by decide +kernel
theorem dL_law_357 : decode cL_law 357 = .ok (.aload_n 3, 1) := by decide +kernel
theorem dL_law_358 : decode cL_law 358 = .ok (.iconst 0, 1) := by decide +kernel
theorem dL_law_359 : decode cL_law 359 = .ok (.laload, 1) := by decide +kernel
theorem dL_law_360 : decode cL_law 360 = .ok (.iload 6, 2) := by decide +kernel
theorem dL_law_362 : decode cL_law 362 = .ok (.i2l, 1) := by decide +kernel
theorem dL_law_363 : decode cL_law 363 = .ok (.lcmp, 1) := by decide +kernel
theorem dL_law_364 : decode cL_law 364 = .ok (.ifCond .eq 5, 3) := by decide +kernel
theorem dL_law_367 : decode cL_law 367 = .ok (.iconst 0, 1) := by decide +kernel
theorem dL_law_368 : decode cL_law 368 = .ok (.ireturn, 1) := by decide +kernel
theorem dL_law_369 : decode cL_law 369 = .ok (.goto 352, 3) := by decide +kernel
theorem dL_law_372 : decode cL_law 372 = .ok (.aload_n 1, 1) := by decide +kernel
theorem dL_law_373 : decode cL_law 373 = .ok (.aload_n 0, 1) := by decide +kernel
theorem dL_law_374 : decode cL_law 374 = .ok (.iload 4, 2) := by decide +kernel
theorem dL_law_376 : decode cL_law 376 = .ok (.iconst 1, 1) := by decide +kernel
theorem dL_law_377 : decode cL_law 377 = .ok (.iadd, 1) := by decide +kernel
theorem dL_law_378 : decode cL_law 378 = .ok (.iaload, 1) := by decide +kernel
theorem dL_law_379 : decode cL_law 379 = .ok (.aload_n 0, 1) := by decide +kernel
theorem dL_law_380 : decode cL_law 380 = .ok (.iload 4, 2) := by decide +kernel
theorem dL_law_382 : decode cL_law 382 = .ok (.iconst 2, 1) := by decide +kernel
theorem dL_law_383 : decode cL_law 383 = .ok (.iadd, 1) := by decide +kernel
theorem dL_law_384 : decode cL_law 384 = .ok (.iaload, 1) := by decide +kernel
theorem dL_law_385 : decode cL_law 385 = .ok (.invokestatic 85, 3) := by decide +kernel
theorem dL_law_388 : decode cL_law 388 = .ok (.istore 5, 2) := by decide +kernel
theorem dL_law_390 : decode cL_law 390 = .ok (.aload_n 2, 1) := by decide +kernel
theorem dL_law_391 : decode cL_law 391 = .ok (.aload_n 0, 1) := by decide +kernel
theorem dL_law_392 : decode cL_law 392 = .ok (.iload 4, 2) := by decide +kernel
theorem dL_law_394 : decode cL_law 394 = .ok (.iconst 1, 1) := by decide +kernel
theorem dL_law_395 : decode cL_law 395 = .ok (.iadd, 1) := by decide +kernel
theorem dL_law_396 : decode cL_law 396 = .ok (.iaload, 1) := by decide +kernel
theorem dL_law_397 : decode cL_law 397 = .ok (.aload_n 0, 1) := by decide +kernel
theorem dL_law_398 : decode cL_law 398 = .ok (.iload 4, 2) := by decide +kernel
theorem dL_law_400 : decode cL_law 400 = .ok (.iconst 2, 1) := by decide +kernel
theorem dL_law_401 : decode cL_law 401 = .ok (.iadd, 1) := by decide +kernel
theorem dL_law_402 : decode cL_law 402 = .ok (.iaload, 1) := by decide +kernel
theorem dL_law_403 : decode cL_law 403 = .ok (.invokevirtual 88, 3) := by decide +kernel
theorem dL_law_406 : decode cL_law 406 = .ok (.aload_n 2, 1) := by decide +kernel
theorem dL_law_407 : decode cL_law 407 = .ok (.invokevirtual 67, 3) := by decide +kernel
theorem dL_law_410 : decode cL_law 410 = .ok (.iload 5, 2) := by decide +kernel
theorem dL_law_412 : decode cL_law 412 = .ok (.if_icmp .eq 5, 3) := by decide +kernel
theorem dL_law_415 : decode cL_law 415 = .ok (.iconst 0, 1) := by decide +kernel
theorem dL_law_416 : decode cL_law 416 = .ok (.ireturn, 1) := by decide +kernel
theorem dL_law_417 : decode cL_law 417 = .ok (.goto 304, 3) := by decide +kernel
theorem dL_law_420 : decode cL_law 420 = .ok (.aload_n 1, 1) := by decide +kernel
theorem dL_law_421 : decode cL_law 421 = .ok (.aload_n 0, 1) := by decide +kernel
theorem dL_law_422 : decode cL_law 422 = .ok (.iload 4, 2) := by decide +kernel
theorem dL_law_424 : decode cL_law 424 = .ok (.iconst 1, 1) := by decide +kernel
theorem dL_law_425 : decode cL_law 425 = .ok (.iadd, 1) := by decide +kernel
theorem dL_law_426 : decode cL_law 426 = .ok (.iaload, 1) := by decide +kernel
theorem dL_law_427 : decode cL_law 427 = .ok (.aload_n 3, 1) := by decide +kernel
theorem dL_law_428 : decode cL_law 428 = .ok (.invokestatic 89, 3) := by decide +kernel
theorem dL_law_431 : decode cL_law 431 = .ok (.istore 5, 2) := by decide +kernel
theorem dL_law_433 : decode cL_law 433 = .ok (.aload_n 2, 1) := by decide +kernel
theorem dL_law_434 : decode cL_law 434 = .ok (.aload_n 0, 1) := by decide +kernel
theorem dL_law_435 : decode cL_law 435 = .ok (.iload 4, 2) := by decide +kernel
theorem dL_law_437 : decode cL_law 437 = .ok (.iconst 1, 1) := by decide +kernel
theorem dL_law_438 : decode cL_law 438 = .ok (.iadd, 1) := by decide +kernel
theorem dL_law_439 : decode cL_law 439 = .ok (.iaload, 1) := by decide +kernel
theorem dL_law_440 : decode cL_law 440 = .ok (.invokevirtual 91, 3) := by decide +kernel
theorem dL_law_443 : decode cL_law 443 = .ok (.istore 6, 2) := by decide +kernel
theorem dL_law_445 : decode cL_law 445 = .ok (.aload_n 2, 1) := by decide +kernel
theorem dL_law_446 : decode cL_law 446 = .ok (.invokevirtual 67, 3) := by decide +kernel
theorem dL_law_449 : decode cL_law 449 = .ok (.iload 5, 2) := by decide +kernel
theorem dL_law_451 : decode cL_law 451 = .ok (.if_icmp .eq 5, 3) := by decide +kernel
theorem dL_law_454 : decode cL_law 454 = .ok (.iconst 0, 1) := by decide +kernel
theorem dL_law_455 : decode cL_law 455 = .ok (.ireturn, 1) := by decide +kernel
theorem dL_law_456 : decode cL_law 456 = .ok (.iload 5, 2) := by decide +kernel
theorem dL_law_458 : decode cL_law 458 = .ok (.ifCond .ne 15, 3) := by decide +kernel
theorem dL_law_461 : decode cL_law 461 = .ok (.aload_n 3, 1) := by decide +kernel
theorem dL_law_462 : decode cL_law 462 = .ok (.iconst 0, 1) := by decide +kernel
theorem dL_law_463 : decode cL_law 463 = .ok (.laload, 1) := by decide +kernel
theorem dL_law_464 : decode cL_law 464 = .ok (.iload 6, 2) := by decide +kernel
theorem dL_law_466 : decode cL_law 466 = .ok (.i2l, 1) := by decide +kernel
theorem dL_law_467 : decode cL_law 467 = .ok (.lcmp, 1) := by decide +kernel
theorem dL_law_468 : decode cL_law 468 = .ok (.ifCond .eq 5, 3) := by decide +kernel
theorem dL_law_471 : decode cL_law 471 = .ok (.iconst 0, 1) := by decide +kernel
theorem dL_law_472 : decode cL_law 472 = .ok (.ireturn, 1) := by decide +kernel
theorem dL_law_473 : decode cL_law 473 = .ok (.goto 248, 3) := by decide +kernel
theorem dL_law_476 : decode cL_law 476 = .ok (.aload_n 1, 1) := by decide +kernel
theorem dL_law_477 : decode cL_law 477 = .ok (.aload_n 0, 1) := by decide +kernel
theorem dL_law_478 : decode cL_law 478 = .ok (.iload 4, 2) := by decide +kernel
theorem dL_law_480 : decode cL_law 480 = .ok (.iconst 1, 1) := by decide +kernel
theorem dL_law_481 : decode cL_law 481 = .ok (.iadd, 1) := by decide +kernel
theorem dL_law_482 : decode cL_law 482 = .ok (.iaload, 1) := by decide +kernel
theorem dL_law_483 : decode cL_law 483 = .ok (.aload_n 0, 1) := by decide +kernel
theorem dL_law_484 : decode cL_law 484 = .ok (.iload 4, 2) := by decide +kernel
theorem dL_law_486 : decode cL_law 486 = .ok (.iconst 2, 1) := by decide +kernel
theorem dL_law_487 : decode cL_law 487 = .ok (.iadd, 1) := by decide +kernel
theorem dL_law_488 : decode cL_law 488 = .ok (.iaload, 1) := by decide +kernel
theorem dL_law_489 : decode cL_law 489 = .ok (.invokestatic 92, 3) := by decide +kernel
theorem dL_law_492 : decode cL_law 492 = .ok (.istore 5, 2) := by decide +kernel
theorem dL_law_494 : decode cL_law 494 = .ok (.aload_n 2, 1) := by decide +kernel
theorem dL_law_495 : decode cL_law 495 = .ok (.aload_n 0, 1) := by decide +kernel
theorem dL_law_496 : decode cL_law 496 = .ok (.iload 4, 2) := by decide +kernel
theorem dL_law_498 : decode cL_law 498 = .ok (.iconst 1, 1) := by decide +kernel
theorem dL_law_499 : decode cL_law 499 = .ok (.iadd, 1) := by decide +kernel
theorem dL_law_500 : decode cL_law 500 = .ok (.iaload, 1) := by decide +kernel
theorem dL_law_501 : decode cL_law 501 = .ok (.aload_n 0, 1) := by decide +kernel
theorem dL_law_502 : decode cL_law 502 = .ok (.iload 4, 2) := by decide +kernel
theorem dL_law_504 : decode cL_law 504 = .ok (.iconst 2, 1) := by decide +kernel
theorem dL_law_505 : decode cL_law 505 = .ok (.iadd, 1) := by decide +kernel
theorem dL_law_506 : decode cL_law 506 = .ok (.iaload, 1) := by decide +kernel
theorem dL_law_507 : decode cL_law 507 = .ok (.invokevirtual 94, 3) := by decide +kernel
theorem dL_law_510 : decode cL_law 510 = .ok (.aload_n 2, 1) := by decide +kernel
theorem dL_law_511 : decode cL_law 511 = .ok (.invokevirtual 67, 3) := by decide +kernel
theorem dL_law_514 : decode cL_law 514 = .ok (.iload 5, 2) := by decide +kernel
theorem dL_law_516 : decode cL_law 516 = .ok (.if_icmp .eq 5, 3) := by decide +kernel
theorem dL_law_519 : decode cL_law 519 = .ok (.iconst 0, 1) := by decide +kernel
theorem dL_law_520 : decode cL_law 520 = .ok (.ireturn, 1) := by decide +kernel
theorem dL_law_521 : decode cL_law 521 = .ok (.goto 200, 3) := by decide +kernel
theorem dL_law_524 : decode cL_law 524 = .ok (.aload_n 1, 1) := by decide +kernel
theorem dL_law_525 : decode cL_law 525 = .ok (.aload_n 0, 1) := by decide +kernel
theorem dL_law_526 : decode cL_law 526 = .ok (.iload 4, 2) := by decide +kernel
theorem dL_law_528 : decode cL_law 528 = .ok (.iconst 1, 1) := by decide +kernel
theorem dL_law_529 : decode cL_law 529 = .ok (.iadd, 1) := by decide +kernel
theorem dL_law_530 : decode cL_law 530 = .ok (.iaload, 1) := by decide +kernel
theorem dL_law_531 : decode cL_law 531 = .ok (.aload_n 3, 1) := by decide +kernel
theorem dL_law_532 : decode cL_law 532 = .ok (.invokestatic 95, 3) := by decide +kernel
theorem dL_law_535 : decode cL_law 535 = .ok (.istore 5, 2) := by decide +kernel
theorem dL_law_537 : decode cL_law 537 = .ok (.aload_n 2, 1) := by decide +kernel
theorem dL_law_538 : decode cL_law 538 = .ok (.aload_n 0, 1) := by decide +kernel
theorem dL_law_539 : decode cL_law 539 = .ok (.iload 4, 2) := by decide +kernel
theorem dL_law_541 : decode cL_law 541 = .ok (.iconst 1, 1) := by decide +kernel
theorem dL_law_542 : decode cL_law 542 = .ok (.iadd, 1) := by decide +kernel
theorem dL_law_543 : decode cL_law 543 = .ok (.iaload, 1) := by decide +kernel
theorem dL_law_544 : decode cL_law 544 = .ok (.invokevirtual 97, 3) := by decide +kernel
theorem dL_law_547 : decode cL_law 547 = .ok (.istore 6, 2) := by decide +kernel
theorem dL_law_549 : decode cL_law 549 = .ok (.aload_n 2, 1) := by decide +kernel
theorem dL_law_550 : decode cL_law 550 = .ok (.invokevirtual 67, 3) := by decide +kernel
theorem dL_law_553 : decode cL_law 553 = .ok (.iload 5, 2) := by decide +kernel
theorem dL_law_555 : decode cL_law 555 = .ok (.if_icmp .eq 5, 3) := by decide +kernel
theorem dL_law_558 : decode cL_law 558 = .ok (.iconst 0, 1) := by decide +kernel
theorem dL_law_559 : decode cL_law 559 = .ok (.ireturn, 1) := by decide +kernel
theorem dL_law_560 : decode cL_law 560 = .ok (.iload 5, 2) := by decide +kernel
theorem dL_law_562 : decode cL_law 562 = .ok (.ifCond .ne 15, 3) := by decide +kernel
theorem dL_law_565 : decode cL_law 565 = .ok (.aload_n 3, 1) := by decide +kernel
theorem dL_law_566 : decode cL_law 566 = .ok (.iconst 0, 1) := by decide +kernel
theorem dL_law_567 : decode cL_law 567 = .ok (.laload, 1) := by decide +kernel
theorem dL_law_568 : decode cL_law 568 = .ok (.iload 6, 2) := by decide +kernel
theorem dL_law_570 : decode cL_law 570 = .ok (.i2l, 1) := by decide +kernel
theorem dL_law_571 : decode cL_law 571 = .ok (.lcmp, 1) := by decide +kernel
theorem dL_law_572 : decode cL_law 572 = .ok (.ifCond .eq 5, 3) := by decide +kernel
theorem dL_law_575 : decode cL_law 575 = .ok (.iconst 0, 1) := by decide +kernel
theorem dL_law_576 : decode cL_law 576 = .ok (.ireturn, 1) := by decide +kernel
theorem dL_law_577 : decode cL_law 577 = .ok (.goto 144, 3) := by decide +kernel
theorem dL_law_580 : decode cL_law 580 = .ok (.aload_n 1, 1) := by decide +kernel
theorem dL_law_581 : decode cL_law 581 = .ok (.aload_n 0, 1) := by decide +kernel
theorem dL_law_582 : decode cL_law 582 = .ok (.iload 4, 2) := by decide +kernel
theorem dL_law_584 : decode cL_law 584 = .ok (.iconst 1, 1) := by decide +kernel
theorem dL_law_585 : decode cL_law 585 = .ok (.iadd, 1) := by decide +kernel
theorem dL_law_586 : decode cL_law 586 = .ok (.iaload, 1) := by decide +kernel
theorem dL_law_587 : decode cL_law 587 = .ok (.aload_n 0, 1) := by decide +kernel
theorem dL_law_588 : decode cL_law 588 = .ok (.iload 4, 2) := by decide +kernel
theorem dL_law_590 : decode cL_law 590 = .ok (.iconst 2, 1) := by decide +kernel
theorem dL_law_591 : decode cL_law 591 = .ok (.iadd, 1) := by decide +kernel
theorem dL_law_592 : decode cL_law 592 = .ok (.iaload, 1) := by decide +kernel
theorem dL_law_593 : decode cL_law 593 = .ok (.invokestatic 98, 3) := by decide +kernel
theorem dL_law_596 : decode cL_law 596 = .ok (.istore 5, 2) := by decide +kernel
theorem dL_law_598 : decode cL_law 598 = .ok (.aload_n 2, 1) := by decide +kernel
theorem dL_law_599 : decode cL_law 599 = .ok (.aload_n 0, 1) := by decide +kernel
theorem dL_law_600 : decode cL_law 600 = .ok (.iload 4, 2) := by decide +kernel
theorem dL_law_602 : decode cL_law 602 = .ok (.iconst 1, 1) := by decide +kernel
theorem dL_law_603 : decode cL_law 603 = .ok (.iadd, 1) := by decide +kernel
theorem dL_law_604 : decode cL_law 604 = .ok (.iaload, 1) := by decide +kernel
theorem dL_law_605 : decode cL_law 605 = .ok (.aload_n 0, 1) := by decide +kernel
theorem dL_law_606 : decode cL_law 606 = .ok (.iload 4, 2) := by decide +kernel
theorem dL_law_608 : decode cL_law 608 = .ok (.iconst 2, 1) := by decide +kernel
theorem dL_law_609 : decode cL_law 609 = .ok (.iadd, 1) := by decide +kernel
theorem dL_law_610 : decode cL_law 610 = .ok (.iaload, 1) := by decide +kernel
theorem dL_law_611 : decode cL_law 611 = .ok (.invokevirtual 100, 3) := by decide +kernel
theorem dL_law_614 : decode cL_law 614 = .ok (.aload_n 2, 1) := by decide +kernel
theorem dL_law_615 : decode cL_law 615 = .ok (.invokevirtual 67, 3) := by decide +kernel
theorem dL_law_618 : decode cL_law 618 = .ok (.iload 5, 2) := by decide +kernel
theorem dL_law_620 : decode cL_law 620 = .ok (.if_icmp .eq 5, 3) := by decide +kernel
theorem dL_law_623 : decode cL_law 623 = .ok (.iconst 0, 1) := by decide +kernel
theorem dL_law_624 : decode cL_law 624 = .ok (.ireturn, 1) := by decide +kernel
theorem dL_law_625 : decode cL_law 625 = .ok (.goto 96, 3) := by decide +kernel
theorem dL_law_628 : decode cL_law 628 = .ok (.aload_n 1, 1) := by decide +kernel
theorem dL_law_629 : decode cL_law 629 = .ok (.aload_n 0, 1) := by decide +kernel
theorem dL_law_630 : decode cL_law 630 = .ok (.iload 4, 2) := by decide +kernel
theorem dL_law_632 : decode cL_law 632 = .ok (.iconst 1, 1) := by decide +kernel
theorem dL_law_633 : decode cL_law 633 = .ok (.iadd, 1) := by decide +kernel
theorem dL_law_634 : decode cL_law 634 = .ok (.iaload, 1) := by decide +kernel
theorem dL_law_635 : decode cL_law 635 = .ok (.aload_n 0, 1) := by decide +kernel
theorem dL_law_636 : decode cL_law 636 = .ok (.iload 4, 2) := by decide +kernel
theorem dL_law_638 : decode cL_law 638 = .ok (.iconst 2, 1) := by decide +kernel
theorem dL_law_639 : decode cL_law 639 = .ok (.iadd, 1) := by decide +kernel
theorem dL_law_640 : decode cL_law 640 = .ok (.iaload, 1) := by decide +kernel
theorem dL_law_641 : decode cL_law 641 = .ok (.aload_n 3, 1) := by decide +kernel
theorem dL_law_642 : decode cL_law 642 = .ok (.invokestatic 101, 3) := by decide +kernel
theorem dL_law_645 : decode cL_law 645 = .ok (.istore 5, 2) := by decide +kernel
theorem dL_law_647 : decode cL_law 647 = .ok (.aload_n 2, 1) := by decide +kernel
theorem dL_law_648 : decode cL_law 648 = .ok (.aload_n 0, 1) := by decide +kernel
theorem dL_law_649 : decode cL_law 649 = .ok (.iload 4, 2) := by decide +kernel
theorem dL_law_651 : decode cL_law 651 = .ok (.iconst 1, 1) := by decide +kernel
theorem dL_law_652 : decode cL_law 652 = .ok (.iadd, 1) := by decide +kernel
theorem dL_law_653 : decode cL_law 653 = .ok (.iaload, 1) := by decide +kernel
theorem dL_law_654 : decode cL_law 654 = .ok (.aload_n 0, 1) := by decide +kernel
theorem dL_law_655 : decode cL_law 655 = .ok (.iload 4, 2) := by decide +kernel
theorem dL_law_657 : decode cL_law 657 = .ok (.iconst 2, 1) := by decide +kernel
theorem dL_law_658 : decode cL_law 658 = .ok (.iadd, 1) := by decide +kernel
theorem dL_law_659 : decode cL_law 659 = .ok (.iaload, 1) := by decide +kernel
theorem dL_law_660 : decode cL_law 660 = .ok (.invokevirtual 104, 3) := by decide +kernel
theorem dL_law_663 : decode cL_law 663 = .ok (.istore 6, 2) := by decide +kernel
theorem dL_law_665 : decode cL_law 665 = .ok (.aload_n 2, 1) := by decide +kernel
theorem dL_law_666 : decode cL_law 666 = .ok (.invokevirtual 67, 3) := by decide +kernel
theorem dL_law_669 : decode cL_law 669 = .ok (.iload 5, 2) := by decide +kernel
theorem dL_law_671 : decode cL_law 671 = .ok (.if_icmp .eq 5, 3) := by decide +kernel
theorem dL_law_674 : decode cL_law 674 = .ok (.iconst 0, 1) := by decide +kernel
theorem dL_law_675 : decode cL_law 675 = .ok (.ireturn, 1) := by decide +kernel
theorem dL_law_676 : decode cL_law 676 = .ok (.iload 5, 2) := by decide +kernel
theorem dL_law_678 : decode cL_law 678 = .ok (.ifCond .ne 15, 3) := by decide +kernel
theorem dL_law_681 : decode cL_law 681 = .ok (.aload_n 3, 1) := by decide +kernel
theorem dL_law_682 : decode cL_law 682 = .ok (.iconst 0, 1) := by decide +kernel
theorem dL_law_683 : decode cL_law 683 = .ok (.laload, 1) := by decide +kernel
theorem dL_law_684 : decode cL_law 684 = .ok (.iload 6, 2) := by decide +kernel
theorem dL_law_686 : decode cL_law 686 = .ok (.i2l, 1) := by decide +kernel
theorem dL_law_687 : decode cL_law 687 = .ok (.lcmp, 1) := by decide +kernel
theorem dL_law_688 : decode cL_law 688 = .ok (.ifCond .eq 5, 3) := by decide +kernel
theorem dL_law_691 : decode cL_law 691 = .ok (.iconst 0, 1) := by decide +kernel
theorem dL_law_692 : decode cL_law 692 = .ok (.ireturn, 1) := by decide +kernel
theorem dL_law_693 : decode cL_law 693 = .ok (.goto 28, 3) := by decide +kernel
theorem dL_law_696 : decode cL_law 696 = .ok (.aload_n 1, 1) := by decide +kernel
theorem dL_law_697 : decode cL_law 697 = .ok (.aload_n 0, 1) := by decide +kernel
theorem dL_law_698 : decode cL_law 698 = .ok (.iload 4, 2) := by decide +kernel
theorem dL_law_700 : decode cL_law 700 = .ok (.iconst 1, 1) := by decide +kernel
theorem dL_law_701 : decode cL_law 701 = .ok (.iadd, 1) := by decide +kernel
theorem dL_law_702 : decode cL_law 702 = .ok (.iaload, 1) := by decide +kernel
theorem dL_law_703 : decode cL_law 703 = .ok (.invokevirtual 105, 3) := by decide +kernel
theorem dL_law_706 : decode cL_law 706 = .ok (.aload_n 2, 1) := by decide +kernel
theorem dL_law_707 : decode cL_law 707 = .ok (.aload_n 0, 1) := by decide +kernel
theorem dL_law_708 : decode cL_law 708 = .ok (.iload 4, 2) := by decide +kernel
theorem dL_law_710 : decode cL_law 710 = .ok (.iconst 1, 1) := by decide +kernel
theorem dL_law_711 : decode cL_law 711 = .ok (.iadd, 1) := by decide +kernel
theorem dL_law_712 : decode cL_law 712 = .ok (.iaload, 1) := by decide +kernel
theorem dL_law_713 : decode cL_law 713 = .ok (.invokevirtual 108, 3) := by decide +kernel
theorem dL_law_716 : decode cL_law 716 = .ok (.if_icmp .eq 5, 3) := by decide +kernel
theorem dL_law_719 : decode cL_law 719 = .ok (.iconst 0, 1) := by decide +kernel
theorem dL_law_720 : decode cL_law 720 = .ok (.ireturn, 1) := by decide +kernel
theorem dL_law_721 : decode cL_law 721 = .ok (.iinc 4 3, 3) := by decide +kernel
theorem dL_law_724 : decode cL_law 724 = .ok (.goto (-701), 3) := by decide +kernel
theorem dL_law_727 : decode cL_law 727 = .ok (.iconst 1, 1) := by decide +kernel
theorem dL_law_728 : decode cL_law 728 = .ok (.ireturn, 1) := by decide +kernel
end
section
/-- a boolean as the machine has it -/
def bI (b : Bool) : Int32 := if b = true then 1 else 0
theorem bI_t : bI true = 1 := rfl
theorem bI_f : bI false = 0 := rfl
theorem bI_0 {b : Bool} : bI b = 0 ↔ b = false := by cases b <;> decide
theorem bI_n0 {b : Bool} : ¬ bI b = 0 ↔ b = true := by cases b <;> decide
/-- a number or -1 -/
def oI (x : Option Nat) : Int32 := match x with | none => -1 | some k => nI k
theorem oI_n : oI none = -1 := rfl
theorem oI_s (k : Nat) : oI (some k) = nI k := rfl
section RW
variable {p : Program} {l : Launch} {e : Env} {R : Room} {s : State} {m : MethodId} {args : Array Value} {below : List Frame} {meth : Method} {c : Code} {H : Heap} {locs : List Loc} {cells slots : Nat} {Q : State → Prop} {cc : ByteArray} {pc : Nat} {ls : Array Slot} {rest : List Value}
theorem vn_icmp_eq (hexec : p.tables.exec = Jvm.exec) (hb : c.code = cc) {a b : Nat} {off : Int} {tgt : Nat} (hdg : decode cc pc = .ok (.if_icmp .eq off, 3)) (ht : (pc : Int) + off = (tgt : Int)) (h1 : a < 2 ^ 31) (h2 : b < 2 ^ 31)
    (kt : a = b → W p l e R s m args below meth c H locs cells slots Q (F0 m tgt ls rest)) (kf : a ≠ b → W p l e R s m args below meth c H locs cells slots Q (F0 m (pc + 3) ls rest)) : W p l e R s m args below meth c H locs cells slots Q (F0 m pc ls (.int (nI b) :: .int (nI a) :: rest)) := by
  refine lv_icmp_eq hexec hb hdg ht (fun q => kt ((nI_eq h1 h2).mp q)) (fun q => kf (fun z => q ((nI_eq h1 h2).mpr z)))
theorem vn_icmp_ne (hexec : p.tables.exec = Jvm.exec) (hb : c.code = cc) {a b : Nat} {off : Int} {tgt : Nat} (hdg : decode cc pc = .ok (.if_icmp .ne off, 3)) (ht : (pc : Int) + off = (tgt : Int)) (h1 : a < 2 ^ 31) (h2 : b < 2 ^ 31)
    (kt : a ≠ b → W p l e R s m args below meth c H locs cells slots Q (F0 m tgt ls rest)) (kf : a = b → W p l e R s m args below meth c H locs cells slots Q (F0 m (pc + 3) ls rest)) : W p l e R s m args below meth c H locs cells slots Q (F0 m pc ls (.int (nI b) :: .int (nI a) :: rest)) := by
  refine lv_icmp_ne hexec hb hdg ht (fun q => kt (fun z => q ((nI_eq h1 h2).mpr z))) (fun q => kf ((nI_eq h1 h2).mp q))
theorem vn_icmp_lt (hexec : p.tables.exec = Jvm.exec) (hb : c.code = cc) {a b : Nat} {off : Int} {tgt : Nat} (hdg : decode cc pc = .ok (.if_icmp .lt off, 3)) (ht : (pc : Int) + off = (tgt : Int)) (h1 : a < 2 ^ 31) (h2 : b < 2 ^ 31)
    (kt : a < b → W p l e R s m args below meth c H locs cells slots Q (F0 m tgt ls rest)) (kf : b ≤ a → W p l e R s m args below meth c H locs cells slots Q (F0 m (pc + 3) ls rest)) : W p l e R s m args below meth c H locs cells slots Q (F0 m pc ls (.int (nI b) :: .int (nI a) :: rest)) := by
  refine lv_icmp_lt hexec hb hdg ht (fun q => kt ((nI_ltI h1 h2).mp q)) (fun q => kf (Nat.le_of_not_lt (fun z => q ((nI_ltI h1 h2).mpr z))))
theorem vn_icmp_ge (hexec : p.tables.exec = Jvm.exec) (hb : c.code = cc) {a b : Nat} {off : Int} {tgt : Nat} (hdg : decode cc pc = .ok (.if_icmp .ge off, 3)) (ht : (pc : Int) + off = (tgt : Int)) (h1 : a < 2 ^ 31) (h2 : b < 2 ^ 31)
    (kt : b ≤ a → W p l e R s m args below meth c H locs cells slots Q (F0 m tgt ls rest)) (kf : a < b → W p l e R s m args below meth c H locs cells slots Q (F0 m (pc + 3) ls rest)) : W p l e R s m args below meth c H locs cells slots Q (F0 m pc ls (.int (nI b) :: .int (nI a) :: rest)) := by
  refine lv_icmp_ge hexec hb hdg ht (fun q => kt ((nI_leI h2 h1).mp q)) (fun q => kf (Nat.lt_of_not_le (fun z => q ((nI_leI h2 h1).mpr z))))
theorem vn_icmp_gt (hexec : p.tables.exec = Jvm.exec) (hb : c.code = cc) {a b : Nat} {off : Int} {tgt : Nat} (hdg : decode cc pc = .ok (.if_icmp .gt off, 3)) (ht : (pc : Int) + off = (tgt : Int)) (h1 : a < 2 ^ 31) (h2 : b < 2 ^ 31)
    (kt : b < a → W p l e R s m args below meth c H locs cells slots Q (F0 m tgt ls rest)) (kf : a ≤ b → W p l e R s m args below meth c H locs cells slots Q (F0 m (pc + 3) ls rest)) : W p l e R s m args below meth c H locs cells slots Q (F0 m pc ls (.int (nI b) :: .int (nI a) :: rest)) := by
  refine lv_icmp_gt hexec hb hdg ht (fun q => kt ((nI_ltI h2 h1).mp q)) (fun q => kf (Nat.le_of_not_lt (fun z => q ((nI_ltI h2 h1).mpr z))))
theorem vn_icmp_le (hexec : p.tables.exec = Jvm.exec) (hb : c.code = cc) {a b : Nat} {off : Int} {tgt : Nat} (hdg : decode cc pc = .ok (.if_icmp .le off, 3)) (ht : (pc : Int) + off = (tgt : Int)) (h1 : a < 2 ^ 31) (h2 : b < 2 ^ 31)
    (kt : a ≤ b → W p l e R s m args below meth c H locs cells slots Q (F0 m tgt ls rest)) (kf : b < a → W p l e R s m args below meth c H locs cells slots Q (F0 m (pc + 3) ls rest)) : W p l e R s m args below meth c H locs cells slots Q (F0 m pc ls (.int (nI b) :: .int (nI a) :: rest)) := by
  refine lv_icmp_le hexec hb hdg ht (fun q => kt ((nI_leI h1 h2).mp q)) (fun q => kf (Nat.lt_of_not_le (fun z => q ((nI_leI h1 h2).mpr z))))
theorem vn_if_eq (hexec : p.tables.exec = Jvm.exec) (hb : c.code = cc) {a : Nat} {off : Int} {tgt : Nat} (hdg : decode cc pc = .ok (.ifCond .eq off, 3)) (ht : (pc : Int) + off = (tgt : Int)) (h1 : a < 2 ^ 31)
    (kt : a = 0 → W p l e R s m args below meth c H locs cells slots Q (F0 m tgt ls rest)) (kf : a ≠ 0 → W p l e R s m args below meth c H locs cells slots Q (F0 m (pc + 3) ls rest)) : W p l e R s m args below meth c H locs cells slots Q (F0 m pc ls (.int (nI a) :: rest)) := by
  have hz : ∀ q : nI a = 0, a = 0 := fun q => (nI_eq h1 (by decide)).mp (q.trans nI_0.symm)
  exact lv_if_eq hexec hb hdg ht (fun q => kt (hz q)) (fun q => kf (fun z => q (by rw [z]; rfl)))
theorem vn_if_ne (hexec : p.tables.exec = Jvm.exec) (hb : c.code = cc) {a : Nat} {off : Int} {tgt : Nat} (hdg : decode cc pc = .ok (.ifCond .ne off, 3)) (ht : (pc : Int) + off = (tgt : Int)) (h1 : a < 2 ^ 31)
    (kt : a ≠ 0 → W p l e R s m args below meth c H locs cells slots Q (F0 m tgt ls rest)) (kf : a = 0 → W p l e R s m args below meth c H locs cells slots Q (F0 m (pc + 3) ls rest)) : W p l e R s m args below meth c H locs cells slots Q (F0 m pc ls (.int (nI a) :: rest)) := by
  have hz : ∀ q : nI a = 0, a = 0 := fun q => (nI_eq h1 (by decide)).mp (q.trans nI_0.symm)
  exact lv_if_ne hexec hb hdg ht (fun q => kt (fun z => q (by rw [z]; rfl))) (fun q => kf (hz q))
theorem vn_if_lt (hexec : p.tables.exec = Jvm.exec) (hb : c.code = cc) {a : Nat} {off : Int} {tgt : Nat} (hdg : decode cc pc = .ok (.ifCond .lt off, 3)) (ht : (pc : Int) + off = (tgt : Int)) (h1 : a < 2 ^ 31) (k : W p l e R s m args below meth c H locs cells slots Q (F0 m (pc + 3) ls rest)) : W p l e R s m args below meth c H locs cells slots Q (F0 m pc ls (.int (nI a) :: rest)) := by
  refine lv_if_lt hexec hb hdg ht (fun q => absurd q (nI_pos h1)) (fun _ => k)
theorem vn_if_ge (hexec : p.tables.exec = Jvm.exec) (hb : c.code = cc) {a : Nat} {off : Int} {tgt : Nat} (hdg : decode cc pc = .ok (.ifCond .ge off, 3)) (ht : (pc : Int) + off = (tgt : Int)) (h1 : a < 2 ^ 31) (k : W p l e R s m args below meth c H locs cells slots Q (F0 m tgt ls rest)) : W p l e R s m args below meth c H locs cells slots Q (F0 m pc ls (.int (nI a) :: rest)) := by
  refine lv_if_ge hexec hb hdg ht (fun _ => k) (fun q => absurd (nI_pos' h1) q)
theorem vn_if_gt (hexec : p.tables.exec = Jvm.exec) (hb : c.code = cc) {a : Nat} {off : Int} {tgt : Nat} (hdg : decode cc pc = .ok (.ifCond .gt off, 3)) (ht : (pc : Int) + off = (tgt : Int)) (h1 : a < 2 ^ 31)
    (kt : 0 < a → W p l e R s m args below meth c H locs cells slots Q (F0 m tgt ls rest)) (kf : a = 0 → W p l e R s m args below meth c H locs cells slots Q (F0 m (pc + 3) ls rest)) : W p l e R s m args below meth c H locs cells slots Q (F0 m pc ls (.int (nI a) :: rest)) := by
  have hz : ∀ q : nI a = 0, a = 0 := fun q => (nI_eq h1 (by decide)).mp (q.trans nI_0.symm)
  exact lv_if_gt hexec hb hdg ht (fun q => kt (Nat.pos_of_ne_zero (fun z => by subst z; exact absurd q (by decide)))) (fun q => kf (Nat.eq_zero_of_not_pos (fun z => q (by rw [← nI_0]; exact nI_lt z h1))))
theorem vn_if_le (hexec : p.tables.exec = Jvm.exec) (hb : c.code = cc) {a : Nat} {off : Int} {tgt : Nat} (hdg : decode cc pc = .ok (.ifCond .le off, 3)) (ht : (pc : Int) + off = (tgt : Int)) (h1 : a < 2 ^ 31)
    (kt : a = 0 → W p l e R s m args below meth c H locs cells slots Q (F0 m tgt ls rest)) (kf : 0 < a → W p l e R s m args below meth c H locs cells slots Q (F0 m (pc + 3) ls rest)) : W p l e R s m args below meth c H locs cells slots Q (F0 m pc ls (.int (nI a) :: rest)) := by
  have hz : ∀ q : nI a = 0, a = 0 := fun q => (nI_eq h1 (by decide)).mp (q.trans nI_0.symm)
  exact lv_if_le hexec hb hdg ht (fun q => kt (Nat.eq_zero_of_not_pos (fun z => nI_nle z h1 q))) (fun q => kf (Nat.pos_of_ne_zero (fun z => by subst z; exact absurd (by decide) q)))
theorem vb_if_eq (hexec : p.tables.exec = Jvm.exec) (hb : c.code = cc) {b : Bool} {off : Int} {tgt : Nat} (hdg : decode cc pc = .ok (.ifCond .eq off, 3)) (ht : (pc : Int) + off = (tgt : Int))
    (kt : b = false → W p l e R s m args below meth c H locs cells slots Q (F0 m tgt ls rest)) (kf : b = true → W p l e R s m args below meth c H locs cells slots Q (F0 m (pc + 3) ls rest)) : W p l e R s m args below meth c H locs cells slots Q (F0 m pc ls (.int (bI b) :: rest)) := by
  exact lv_if_eq hexec hb hdg ht (fun q => kt (bI_0.mp q)) (fun q => kf (bI_n0.mp q))
theorem vb_if_ne (hexec : p.tables.exec = Jvm.exec) (hb : c.code = cc) {b : Bool} {off : Int} {tgt : Nat} (hdg : decode cc pc = .ok (.ifCond .ne off, 3)) (ht : (pc : Int) + off = (tgt : Int))
    (kt : b = true → W p l e R s m args below meth c H locs cells slots Q (F0 m tgt ls rest)) (kf : b = false → W p l e R s m args below meth c H locs cells slots Q (F0 m (pc + 3) ls rest)) : W p l e R s m args below meth c H locs cells slots Q (F0 m pc ls (.int (bI b) :: rest)) := by
  exact lv_if_ne hexec hb hdg ht (fun q => kt (bI_n0.mp q)) (fun q => kf (bI_0.mp q))
theorem vo_if_lt (hexec : p.tables.exec = Jvm.exec) (hb : c.code = cc) {x : Option Nat} {off : Int} {tgt : Nat} (hdg : decode cc pc = .ok (.ifCond .lt off, 3)) (ht : (pc : Int) + off = (tgt : Int)) (hx : ∀ y, x = some y → y < 2 ^ 31)
    (kn : x = none → W p l e R s m args below meth c H locs cells slots Q (F0 m tgt ls rest)) (ks : ∀ y : Nat, x = some y → W p l e R s m args below meth c H locs cells slots Q (F0 m (pc + 3) ls rest)) : W p l e R s m args below meth c H locs cells slots Q (F0 m pc ls (.int (oI x) :: rest)) := by
  cases x with
  | none => exact lv_if_lt hexec hb hdg ht (fun _ => kn rfl) (fun q => absurd (by decide) q)
  | some y => exact lv_if_lt hexec hb hdg ht (fun q => absurd q (nI_pos (hx y rfl))) (fun _ => ks y rfl)
theorem vo_if_ge (hexec : p.tables.exec = Jvm.exec) (hb : c.code = cc) {x : Option Nat} {off : Int} {tgt : Nat} (hdg : decode cc pc = .ok (.ifCond .ge off, 3)) (ht : (pc : Int) + off = (tgt : Int)) (hx : ∀ y, x = some y → y < 2 ^ 31)
    (kn : x = none → W p l e R s m args below meth c H locs cells slots Q (F0 m (pc + 3) ls rest)) (ks : ∀ y : Nat, x = some y → W p l e R s m args below meth c H locs cells slots Q (F0 m tgt ls rest)) : W p l e R s m args below meth c H locs cells slots Q (F0 m pc ls (.int (oI x) :: rest)) := by
  cases x with
  | none => exact lv_if_ge hexec hb hdg ht (fun q => absurd q (by decide)) (fun _ => kn rfl)
  | some y => exact lv_if_ge hexec hb hdg ht (fun _ => ks y rfl) (fun q => absurd (nI_pos' (hx y rfl)) q)
theorem vq_ifnonnull (hexec : p.tables.exec = Jvm.exec) (hb : c.code = cc) {x : Option Nat} {off : Int} {tgt : Nat} (hdg : decode cc pc = .ok (.ifnonnull off, 3)) (ht : (pc : Int) + off = (tgt : Int)) (kn : x = none → W p l e R s m args below meth c H locs cells slots Q (F0 m (pc + 3) ls rest)) (ks : ∀ y, x = some y → W p l e R s m args below meth c H locs cells slots Q (F0 m tgt ls rest)) : W p l e R s m args below meth c H locs cells slots Q (F0 m pc ls (va_rf x :: rest)) := by
  cases x with
  | none => exact lv_ifnonnullN hexec hb hdg (kn rfl)
  | some y => exact lv_ifnonnull hexec hb hdg ht (ks y rfl)
theorem vq_ifnull (hexec : p.tables.exec = Jvm.exec) (hb : c.code = cc) {x : Option Nat} {off : Int} {tgt : Nat} (hdg : decode cc pc = .ok (.ifnull off, 3)) (ht : (pc : Int) + off = (tgt : Int)) (kn : x = none → W p l e R s m args below meth c H locs cells slots Q (F0 m tgt ls rest)) (ks : ∀ y, x = some y → W p l e R s m args below meth c H locs cells slots Q (F0 m (pc + 3) ls rest)) : W p l e R s m args below meth c H locs cells slots Q (F0 m pc ls (va_rf x :: rest)) := by
  cases x with
  | none => exact lv_ifnullN hexec hb hdg ht (kn rfl)
  | some y => exact lv_ifnull hexec hb hdg (ks y rfl)
/-- two roads that meet: the rest is walked once, for a value that is x -/
theorem vj_top {g : JFrame} (x : Int32) (pcJ : Nat) (br : (∀ v : Int32, v = x → W p l e R s m args below meth c H locs cells slots Q (F0 m pcJ ls (.int v :: rest))) → W p l e R s m args below meth c H locs cells slots Q g) (kk : ∀ v : Int32, v = x → W p l e R s m args below meth c H locs cells slots Q (F0 m pcJ ls (.int v :: rest))) : W p l e R s m args below meth c H locs cells slots Q g := br kk
theorem vj_pc {g : JFrame} (P : Prop) (pcJ : Nat) (br : (P → W p l e R s m args below meth c H locs cells slots Q (F0 m pcJ ls rest)) → W p l e R s m args below meth c H locs cells slots Q g) (kk : P → W p l e R s m args below meth c H locs cells slots Q (F0 m pcJ ls rest)) : W p l e R s m args below meth c H locs cells slots Q g := br kk
/-- the value on top, written otherwise -/
theorem vt_top {x y : Int32} (h : x = y) (k : W p l e R s m args below meth c H locs cells slots Q (F0 m pc ls (.int y :: rest))) : W p l e R s m args below meth c H locs cells slots Q (F0 m pc ls (.int x :: rest)) := h ▸ k
end RW
end
section
/-! what stands through a walk: the words of the nest, the constants of the start -/
def isNest (w : Cond) : Bool := match w with
  | .fieldLinkNest .. => true
  | .methodLinkNest .. => true
  | .declares .. => true
  | .castable .. => true
  | _ => false
def nwl : List Cond := lw_tbl.filter isNest
theorem nwl_of {w : Cond} (h : w ∈ lw_tbl) (g : isNest w = true) : w ∈ nwl := List.mem_filter.mpr ⟨h, g⟩
/-- the claim's two texts: their lengths and bytes -/
def lnS : List Nat := [11, 4]
def byS : List (List Int32) := [[65, 68, 80, 83, 76, 67, 84, 79, 72, 77, 85], [103, 122, 110, 109]]
def Nw (D : va_G) (U : State) : Prop := (∀ w ∈ nwl, va_Nw w U) ∧ vk_R RX1 60 "ADPSLCTOHMU" (D.2 20 0) U ∧ vk_R RX1 92 "gznm" (D.2 20 1) U
theorem Nw.warm {D : va_G} {s U : State} (hW : s.WarmedH U.vm) (h : Nw D s) : Nw D U := by
  refine ⟨fun w hw => ?_, vk_R.warm hW h.2.1, vk_R.warm hW h.2.2⟩
  have h1 := h.1 w hw
  have h2 := (List.mem_filter.mp hw).2
  cases w <;> first | (exact va_Nw.warmF hW h1) | (exact va_Nw.warmM hW h1) | (exact va_Nw.warmD hW h1) | (exact va_Nw.warmC hW h1) | (simp [isNest] at h2)
theorem Nw.same {D : va_G} {u U : State} (e : u.vm = U.vm) (h : Nw D u) : Nw D U := by
  refine ⟨fun w hw => ?_, vk_R.same e.symm h.2.1, vk_R.same e.symm h.2.2⟩
  have h1 := h.1 w hw
  have h2 := (List.mem_filter.mp hw).2
  cases w <;> first | (exact va_Nw.same rfl e h1) | (simp [isNest] at h2)
def Zs (D : va_G) (A : Nat → Prop) (U : State) (H : Heap) : Prop := vx_Zq Bundle.tN "UNASSIGNED_STACK" Bundle.steD A U H ∧ vx_Zq Bundle.tN "SUPPRESSED_SENTINEL" Bundle.listD A U H ∧ vk_S 2 lnS byS (D.2 20) (D.2 21) A U H ∧ va_Z "java/lang/String" "COMPACT_STRINGS" "Z" (.int 1) A U H
theorem Zs.moved {D : va_G} {A : Nat → Prop} {u U : State} {H : Heap} (hvm : u.vm.Alike U.vm) (h : Zs D A u H) : Zs D A U H := ⟨vx_Zq.moved hvm h.1, vx_Zq.moved hvm h.2.1, vk_S.moved hvm h.2.2.1, va_Z.moved hvm h.2.2.2⟩
theorem Zs.kept {D : va_G} {A : Nat → Prop} {U : State} {H H1 : Heap} (h : Zs D A U H) (hq : ∀ a : Nat, a < H.size → ¬ A a → H1[a]? = H[a]?) : Zs D A U H1 := ⟨vx_Zq.kept h.1 hq, vx_Zq.kept h.2.1 hq, vk_S.kept h.2.2.1 hq, va_Z.kept h.2.2.2 hq⟩
theorem Zs.narrow {D : va_G} {A B : Nat → Prop} {U : State} {H : Heap} (h : Zs D A U H) (hAB : ∀ q, B q → A q) : Zs D B U H := ⟨vx_Zq.narrow h.1 hAB, vx_Zq.narrow h.2.1 hAB, vk_S.narrow h.2.2.1 hAB, va_Z.narrow h.2.2.2 hAB⟩
/-- the kinds of array that the claim has -/
def TY (D : va_G) : List (ClassId × FieldType) := [(D.1 10, .char), (D.1 11, .int), (D.1 12, .boolean), (D.1 13, .object "MicroMachine$Word"), (D.1 14, .long)]
def Kn (D : va_G) (U : State) : Prop := va_K D vwCl (TY D) U ∧ va_AO "MicroMachine$Word" U
theorem Kn.moved {D : va_G} {u U : State} (h : u.vm.Alike U.vm) (k : Kn D u) : Kn D U := ⟨va_K.moved h k.1, va_AO.moved h k.2⟩
/-- a method's start: its world, the words, the constants -/
def Pr (D : va_G) (ws : va_W) (sz : Nat) (U : State) : Prop := U.heap.size = sz ∧ va_P D vwCl ws U.heap ∧ Kn D U ∧ va_D (fun _ => True) ws ∧ Zs D (va_A ws sz) U U.heap ∧ Nw D U
theorem Pr.blind {D : va_G} {ws : va_W} {sz : Nat} {As : List Value} : FrameBlind (va_Pc As (Pr D ws sz)) := by
  intro a U g mk ⟨q0, q1, qP, qK, qD, qZ, qN⟩
  exact ⟨q0, q1, qP, Kn.moved (u := U) (U := U.calling g mk a) (Vm.Alike.refl U.vm) qK, qD, Zs.moved (u := U) (U := U.calling g mk a) (Vm.Alike.refl U.vm) qZ, Nw.same (u := U) (U := U.calling g mk a) rfl qN⟩
/-- what a method says at its end: the answer and the world -/
def Qn (D : va_G) (A : Nat → Prop) (N : Option Value → va_W → Prop) : Array Value → State → Outcome → State → Prop := fun _ st oc t => (∃ (v : Option Value) (w : va_W), oc = .returned v ∧ N v w ∧ va_P D vwCl w t.heap ∧ va_D A w) ∧ va_F A st t
def Qx (D : va_G) (A : Nat → Prop) (X : String → va_W → Prop) : String → State → State → Prop := fun E st t => (∃ w : va_W, X E w ∧ va_P D vwCl w t.heap ∧ va_D A w) ∧ va_F A st t
/-- a method's contract -/
def Ct (l : Launch) (y : MethodName) (wy : List Cond) (rm : Room) (D : va_G) (ws : va_W) (As : List Value) (sz : Nat) (N : Option Value → va_W → Prop) (X : String → va_W → Prop) : Prop :=
  vx_Met l y wy rm (va_Pc As (Pr D ws sz)) (Qn D (va_A ws sz) N) (Qx D (va_A ws sz) X) rm.cells rm.slots (va_A ws sz)
abbrev nox : String → va_W → Prop := fun _ _ => False
/-- what is fixed in a method's body -/
def Cx (p : Program) (l : Launch) (s : State) (m : MethodId) (meth : Method) (c : Code) (args : Array Value) (cc : ByteArray) (nL : Nat) (own : String) (A : Nat → Prop) (D : va_G) (hh : List (Nat × Nat × Nat × Nat)) : Prop :=
  p.tables.exec = Jvm.exec ∧ c.code = cc ∧ c.maxLocals = nL ∧ s.vm.findClass own = some m.cls ∧ (∀ w ∈ tg, w.before args s = true) ∧ meth.locks = false ∧ (∀ q, s.heap.size ≤ q → A q) ∧ Zs D A s s.heap ∧ Nw D s ∧ l.stackTraces = false ∧ c.exceptionTable.toList = tableOf hh
/-- the heap on the way: the world's cells, all else as it was -/
def Hp (D : va_G) (A : Nat → Prop) (s : State) (ws : va_W) (H : Heap) (locs : List Loc) : Prop := va_P D vwCl ws H ∧ va_D A ws ∧ va_S A s.heap H locs
section CX
variable {p : Program} {l : Launch} {e : Env} {R : Room} {s : State} {m : MethodId} {args : Array Value} {below : List Frame} {meth : Method} {c : Code} {H : Heap} {locs : List Loc} {cells slots : Nat} {Q : State → Prop} {cc : ByteArray} {pc : Nat} {ls : Array Slot} {rest : List Value} {nL : Nat} {own : String} {A : Nat → Prop} {D : va_G} {ws : va_W} {hh : List (Nat × Nat × Nat × Nat)}
theorem Cx.x (C : Cx p l s m meth c args cc nL own A D hh) : p.tables.exec = Jvm.exec := C.1
theorem Cx.b (C : Cx p l s m meth c args cc nL own A D hh) : c.code = cc := C.2.1
theorem Cx.ml (C : Cx p l s m meth c args cc nL own A D hh) : c.maxLocals = nL := C.2.2.1
theorem Cx.ow (C : Cx p l s m meth c args cc nL own A D hh) : s.vm.findClass own = some m.cls := C.2.2.2.1
theorem Cx.ts (C : Cx p l s m meth c args cc nL own A D hh) : ∀ w ∈ tg, w.before args s = true := C.2.2.2.2.1
theorem Cx.locks (C : Cx p l s m meth c args cc nL own A D hh) : meth.locks = false := C.2.2.2.2.2.1
theorem Cx.hA (C : Cx p l s m meth c args cc nL own A D hh) : ∀ q, s.heap.size ≤ q → A q := C.2.2.2.2.2.2.1
theorem Cx.Z (C : Cx p l s m meth c args cc nL own A D hh) : Zs D A s s.heap := C.2.2.2.2.2.2.2.1
theorem Cx.N (C : Cx p l s m meth c args cc nL own A D hh) : Nw D s := C.2.2.2.2.2.2.2.2.1
theorem Cx.tr (C : Cx p l s m meth c args cc nL own A D hh) : l.stackTraces = false := C.2.2.2.2.2.2.2.2.2.1
theorem Cx.tab (C : Cx p l s m meth c args cc nL own A D hh) : c.exceptionTable.toList = tableOf hh := C.2.2.2.2.2.2.2.2.2.2
theorem Cx.fix (C : Cx p l s m meth c args cc nL own A D hh) : CallFix p m c cc nL s args tg own := ⟨C.x, C.b, C.ml, C.ow, C.ts⟩
/-- the end that a contract asks for -/
def Qf (below : List Frame) (args : Array Value) (s : State) (D : va_G) (A : Nat → Prop) (N : Option Value → va_W → Prop) (X : String → va_W → Prop) (rm : Room) : State → Prop := vx_MQ below (Qn D A N) (Qx D A X) args s rm.cells rm.slots A
/-- ireturn of an int -/
theorem rI {N : Option Value → va_W → Prop} {X : String → va_W → Prop} {rm : Room} {v : Int32} (C : Cx p l s m meth c args cc nL own A D hh) (hr : meth.sig.returnType = some .int) (hH : Hp D A s ws H locs) (hN : N (some (.int v)) ws) (hc : cells ≤ rm.cells) (hs : slots ≤ rm.slots) (hdg : decode cc pc = .ok (.ireturn, 1)) :
    W p l e R s m args below meth c H locs cells slots (Qf below args s D A N X rm) (F0 m pc ls [.int v]) := by
  refine vx_ret (W.widen hc hs ?_)
  exact W.iret C.x C.b hr (fun t ht hW => ⟨⟨_, ws, rfl, hN, by rw [ht]; exact hH.1, hH.2.1⟩, hH.2.2.F ht⟩) hH.2.2.2.2 hdg C.locks
theorem rZ {N : Option Value → va_W → Prop} {X : String → va_W → Prop} {rm : Room} {v : Int32} {ty : FieldType} (C : Cx p l s m meth c args cc nL own A D hh) (hr : meth.sig.returnType = some ty) (hn : narrow ty (.int v) = .int v) (hH : Hp D A s ws H locs) (hN : N (some (.int v)) ws) (hc : cells ≤ rm.cells) (hs : slots ≤ rm.slots) (hdg : decode cc pc = .ok (.ireturn, 1)) :
    W p l e R s m args below meth c H locs cells slots (Qf below args s D A N X rm) (F0 m pc ls [.int v]) := by
  refine vx_ret (W.widen hc hs ?_)
  exact W.zret C.x C.b hr hn (fun t ht hW => ⟨⟨_, ws, rfl, hN, by rw [ht]; exact hH.1, hH.2.1⟩, hH.2.2.F ht⟩) hH.2.2.2.2 hdg C.locks
theorem rV {N : Option Value → va_W → Prop} {X : String → va_W → Prop} {rm : Room} (C : Cx p l s m meth c args cc nL own A D hh) (hr : meth.sig.returnType = none) (hH : Hp D A s ws H locs) (hN : N none ws) (hc : cells ≤ rm.cells) (hs : slots ≤ rm.slots) (hdg : decode cc pc = .ok (.return_, 1)) :
    W p l e R s m args below meth c H locs cells slots (Qf below args s D A N X rm) (F0 m pc ls []) := by
  refine vx_ret (W.widen hc hs ?_)
  exact W.vret C.x C.b hr (fun t ht hW => ⟨⟨_, ws, rfl, hN, by rw [ht]; exact hH.1, hH.2.1⟩, hH.2.2.F ht⟩) hH.2.2.2.2 hdg C.locks
theorem rA {N : Option Value → va_W → Prop} {X : String → va_W → Prop} {rm : Room} {r : Option Nat} {rt : FieldType} (C : Cx p l s m meth c args cc nL own A D hh) (hr : meth.sig.returnType = some rt) (hrt : (∃ n, rt = .object n) ∨ ∃ t, rt = .array t) (hH : Hp D A s ws H locs) (hN : N (some (va_rf r)) ws) (hc : cells ≤ rm.cells) (hs : slots ≤ rm.slots) (hdg : decode cc pc = .ok (.areturn, 1)) :
    W p l e R s m args below meth c H locs cells slots (Qf below args s D A N X rm) (F0 m pc ls [va_rf r]) := by
  refine vx_ret (W.widen hc hs ?_)
  exact W.aret C.x C.b hr hrt (va_rf_or r) (fun t ht hW => ⟨⟨_, ws, rfl, hN, by rw [ht]; exact hH.1, hH.2.1⟩, hH.2.2.F ht⟩) hH.2.2.2.2 hdg C.locks
end CX
end
section
theorem Ct.of {l : Launch} {y : MethodName} {rm : Room} {D : va_G} {ws : va_W} {As : List Value} {sz : Nat} {N : Option Value → va_W → Prop} {X : String → va_W → Prop} {cc : ByteArray} {nL : Nat} {ret : Option FieldType} {own : String}
    (hl : l.stackTraces = false) (hy : plainName y.cls = true) (ho : y.cls = own) (hsl : (lg_sl As).length ≤ nL)
    (body : ∀ (p : Program) (e : Env) (s : State) (m : MethodId) (args : Array Value) (below : List Frame) (meth : Method) (c : Code) (A : Nat → Prop), Cx p l s m meth c args cc nL own A D [] → meth.sig.returnType = ret → Kn D s → ∀ (H : Heap) (locs : List Loc), Hp D A s ws H locs →
      ∀ ls : Array Slot, lv_has ls nL (lv_args 0 As) → W p l e rm s m args below meth c H locs 0 0 (Qf below args s D A N X rm) (F0 m 0 ls [])) :
    Ct l y (.code y cc nL ret :: tg) rm D ws As sz N X := by
  refine vx_ofW (cc := cc) (maxL := nL) (ret := ret) hy rfl ?_
  intro p e s m args below meth c s₁ B hml htab hv
  obtain ⟨rfl, hsz, hP, hK, hD, hZ, hN⟩ := hv
  subst hsz
  have hts := atoms_spec (ws := .code y cc nL ret :: tg) B.pre
  have hl0 := lv_entry As (n := nL) hsl
  rw [lg_entry_eq]
  refine body p e s m _ below meth c (va_A ws s.heap.size) ?_ B.returns hK _ _ ⟨hP, hD.self, va_S.rf⟩ _ hl0
  refine ⟨B.exec, B.bytes, hml, by rw [← ho]; exact findClass_of_methodNamed B.named, fun w h => hts w (List.mem_cons_of_mem _ h), B.notSynchronized, fun q h => Or.inr h, hZ, hN, hl, ?_⟩
  cases hx : c.exceptionTable.toList with
  | nil => rfl
  | cons a t => exact (htab a (by rw [hx]; exact List.mem_cons_self)).elim
theorem Ct.met {l : Launch} {y : MethodName} {wy : List Cond} {rm : Room} {D : va_G} {ws : va_W} {As : List Value} {sz : Nat} {N : Option Value → va_W → Prop} (h : Ct l y wy rm D ws As sz N nox) : Met l y wy rm (va_Pc As (Pr D ws sz)) (Qn D (va_A ws sz) N) rm.cells rm.slots (va_A ws sz) := by
  intro p e h1 h2 h3 s m args below h4 h5 h6 h7
  obtain ⟨n, o, g1, g2, g3, g4⟩ := h p e h1 h2 h3 s m args below h4 h5 h6 h7
  refine ⟨n, o, g1, g2, g3, ?_⟩
  rcases g4 with g | ⟨q, -, E, ce, L, ⟨⟨w, hx, -⟩, -⟩, -⟩
  · exact g
  · exact hx.elim
/-- a weaker end -/
theorem Ct.mono {l : Launch} {y : MethodName} {wy : List Cond} {rm : Room} {D : va_G} {ws : va_W} {As : List Value} {sz : Nat} {N N' : Option Value → va_W → Prop} {X X' : String → va_W → Prop} (h : Ct l y wy rm D ws As sz N X) (hN : ∀ v w, N v w → N' v w) (hX : ∀ E w, X E w → X' E w) : Ct l y wy rm D ws As sz N' X' := by
  intro p e h1 h2 h3 s m args below h4 h5 h6 h7
  obtain ⟨n, o, g1, g2, g3, g4⟩ := h p e h1 h2 h3 s m args below h4 h5 h6 h7
  refine ⟨n, o, g1, g2, g3, ?_⟩
  rcases g4 with ⟨⟨⟨v, w, a1, a2, a3, a4⟩, a5⟩, a6⟩ | ⟨q, b1, E, ce, L, ⟨⟨w, hx, b2, b3⟩, b4⟩, b5⟩
  · exact Or.inl ⟨⟨⟨v, w, a1, hN v w a2, a3, a4⟩, a5⟩, a6⟩
  · exact Or.inr ⟨q, b1, E, ce, L, ⟨⟨w, hX E w hx, b2, b3⟩, b4⟩, b5⟩
/-- a callee's part of the world, and the rest -/
def Cut (ws wc wr : va_W) (isC isR : List Nat) : Prop := isC.map (fun i => ws[i]?) = wc.map some ∧ isR.map (fun i => ws[i]?) = wr.map some ∧ va_nd isC = true ∧ va_nd isR = true ∧ ∀ i ∈ isR, i ∉ isC
section CALL
variable {p : Program} {l : Launch} {e : Env} {R : Room} {s : State} {m : MethodId} {args : Array Value} {below : List Frame} {meth : Method} {c : Code} {H : Heap} {locs : List Loc} {cells slots : Nat} {Q : State → Prop} {cc : ByteArray} {pc : Nat} {ls : Array Slot} {rest : List Value} {nL : Nat} {own : String} {A : Nat → Prop} {D : va_G} {ws wc wr : va_W} {hh : List (Nat × Nat × Nat × Nat)}
variable {y : MethodName} {rm : Room} {As : List Value} {N : Option Value → va_W → Prop} {X : String → va_W → Prop} {isC isR : List Nat} {index maxL n : Nat} {ret : Option FieldType} {bytes : ByteArray} {b : Nat}
/-- the start of a callee out of what the caller has -/
theorem preOf (C : Cx p l s m meth c args cc nL own A D hh) (hK : Kn D s) (hH : Hp D A s ws H locs) (hc : isC.map (fun i => ws[i]?) = wc.map some) (hn : va_nd isC = true) : ∀ U : State, U.heap = H → s.WarmedH U.vm → va_Pc As (Pr D wc H.size) As.toArray U := by
  intro U hU hW
  have hFc := va_free (wc := wc) hH.2.1 hH.2.2 C.hA isC hc
  refine ⟨rfl, by rw [hU], ?_, Kn.moved hW.alike hK, (hH.2.1.sub isC hn hc).weaken (fun _ _ _ _ => trivial), ?_, Nw.warm hW C.N⟩
  · rw [hU]
    intro k q hk
    have h1 : (isC.map (fun i => ws[i]?))[k]? = some (some q) := by rw [hc]; simp [hk]
    simp only [List.getElem?_map, Option.map_eq_some_iff] at h1
    obtain ⟨i, -, hi⟩ := h1
    exact hH.1 i q hi
  · rw [hU]
    exact Zs.moved hW.alike ((C.Z.kept hH.2.2.2.1).narrow hFc)
/-- what a call leaves -/
theorem joinOf (C : Cx p l s m meth c args cc nL own A D hh) (hH : Hp D A s ws H locs) (cut : Cut ws wc wr isC isR) {H1 : Heap} {locs1 : List Loc} {w1 : va_W} (hS1 : va_S A s.heap H1 locs1) (hk1 : ∀ q : Nat, q < H.size → ¬ va_A wc H.size q → H1[q]? = H[q]?) (hP1 : va_P D vwCl w1 H1) (hD1 : va_D (va_A wc H.size) w1) : Hp D A s (wr ++ w1) H1 locs1 := by
  have hFc := va_free (wc := wc) hH.2.1 hH.2.2 C.hA isC cut.1
  obtain ⟨hP, hD⟩ := va_join (wr := wr) (w1 := w1) hH.1 hH.2.1 isC isR cut.1 cut.2.1 cut.2.2.2.1 cut.2.2.2.2 hk1 hFc hP1 hD1
  exact ⟨hP, hD, hS1⟩
theorem runX (C : Cx p l s m meth c args cc nL own A D hh) (hH : Hp D A s ws H locs) (cut : Cut ws wc wr isC isR) {a : Array Value} {st0 : List Value}
    (hr : vx_Run p l e R s m args below meth c H locs cells slots rm.cells rm.slots (F0 m pc ls st0) rest (Qn D (va_A wc H.size) N a) (Qx D (va_A wc H.size) X) (va_A wc H.size))
    (kk : ∀ (v : Option Value) (w1 : va_W) (H1 : Heap) (locs1 : List Loc), N v w1 → Hp D A s (wr ++ w1) H1 locs1 → W p l e R s m args below meth c H1 locs1 (cells + rm.cells) (slots + rm.slots) Q (F0 m (pc + 3) ls (v.toList ++ rest)))
    (kx : ∀ (E : String) (q9 : Nat) (ce : Cell) (w1 : va_W) (H1 : Heap) (locs1 : List Loc), X E w1 → Hp D A s (wr ++ w1) H1 locs1 → H1[q9]? = some ce → ce.vm = .none → s.vm.findClass E = some ce.cls → vx_W p l e R s m args below meth c H1 locs1 (cells + rm.cells) (slots + rm.slots) Q (F0 m pc ls rest) q9) :
    W p l e R s m args below meth c H locs cells slots Q (F0 m pc ls st0) := by
  have hFc := va_free (wc := wc) hH.2.1 hH.2.2 C.hA isC cut.1
  intro T hT XX
  rcases hr T hT XX with ⟨v, st₀, t, T', L, h0, X', hL, e1, e2, ⟨⟨v', w1, hv, hN, hP1, hD1⟩, hF⟩, go⟩ | ⟨q, st₀, t, T', L, E, ce, h0, X', hL, e1, e2, ⟨⟨w1, hx, hP1, hD1⟩, hF⟩, hce, hcv, hcl, go⟩
  · cases hv
    obtain ⟨k1, k2, k3⟩ := vx_keep (A0 := A) (A1 := va_A wc H.size) (free := va_A wc H.size) h0 e1 hH.2.2 (fun q _ h => hFc q h) hFc hL hF
    obtain ⟨t2, a1, b1⟩ := kk v w1 T'.heap (locs ++ L) hN (joinOf C hH cut k3 k2 (by rw [e1]; exact hP1) hD1) T' rfl X'
    exact ⟨t2, go t2 a1, b1⟩
  · obtain ⟨k1, k2, k3⟩ := vx_keep (A0 := A) (A1 := va_A wc H.size) (free := va_A wc H.size) h0 e1 hH.2.2 (fun q _ h => hFc q h) hFc hL hF
    obtain ⟨t2, a1, b1⟩ := kx E q ce w1 T'.heap (locs ++ L) hx (joinOf C hH cut k3 k2 (by rw [e1]; exact hP1) hD1) (by rw [e1]; exact hce) hcv hcl T' rfl X'
    exact ⟨t2, go.trans a1, b1⟩
theorem run0 (C : Cx p l s m meth c args cc nL own A D hh) (hH : Hp D A s ws H locs) (cut : Cut ws wc wr isC isR) {a : Array Value} {st0 : List Value}
    (hr : va_Run p l e R s m args below meth c H locs cells slots rm.cells rm.slots (F0 m pc ls st0) rest (Qn D (va_A wc H.size) N a) (va_A wc H.size))
    (kk : ∀ (v : Option Value) (w1 : va_W) (H1 : Heap) (locs1 : List Loc), N v w1 → Hp D A s (wr ++ w1) H1 locs1 → W p l e R s m args below meth c H1 locs1 (cells + rm.cells) (slots + rm.slots) Q (F0 m (pc + 3) ls (v.toList ++ rest))) :
    W p l e R s m args below meth c H locs cells slots Q (F0 m pc ls st0) := by
  have hFc := va_free (wc := wc) hH.2.1 hH.2.2 C.hA isC cut.1
  intro T hT XX
  obtain ⟨v, st₀, t, T', L, h0, X', hL, e1, e2, ⟨⟨v', w1, hv, hN, hP1, hD1⟩, hF⟩, go⟩ := hr T hT XX
  cases hv
  obtain ⟨k1, k2, k3⟩ := vx_keep (A0 := A) (A1 := va_A wc H.size) (free := va_A wc H.size) h0 e1 hH.2.2 (fun q _ h => hFc q h) hFc hL hF
  obtain ⟨t2, a1, b1⟩ := kk v w1 T'.heap (locs ++ L) hN (joinOf C hH cut k3 k2 (by rw [e1]; exact hP1) hD1) T' rfl X'
  exact ⟨t2, go t2 a1, b1⟩
/-- invokevirtual of a method of ours, by a link of the own sort -/
theorem kV (C : Cx p l s m meth c args cc nL own A D hh) (hK : Kn D s) (hH : Hp D A s ws H locs) (hM : Ct l y (.code y bytes maxL ret :: tg) rm D wc (.ref b :: As) H.size N X) (cut : Cut ws wc wr isC isR)
    (q0 : Nat) {ci NN : Nat} {fs : List Value} {TT : u_T} (hrc : ws[q0]? = some (b, .inr (ci, fs))) (hcl : vwCl[ci]? = some (y.cls, TT, NN))
    (w1 : Cond.methodLink own index y ∈ tg) (w2 : Cond.instanceMethod y ∈ tg) (w3 : Cond.selects y.cls y y ∈ tg) (w4 : Cond.initialized y.cls ∈ tg) (w5 : Cond.code y bytes maxL ret ∈ tg)
    (hd : y.cls ≠ "java/lang/invoke/MethodHandle" ∧ y.cls ≠ "java/lang/invoke/VarHandle" ∧ (parseMethodDescriptor y.desc).map (fun d => d.parameters.length) = some As.length) (hR : rm.frames + 1 ≤ R.frames ∧ 8 + (maxL + 11) + rm.locals ≤ R.locals)
    (hl : ls.size = nL) (hrm : (rest.map fun v => v.category).sum ≤ 8) (hdg : decode cc pc = .ok (.invokevirtual index, 3)) (hf : cells + rm.cells ≤ R.cells ∧ slots + rm.slots ≤ R.slots)
    (kk : ∀ (v : Option Value) (w1 : va_W) (H1 : Heap) (locs1 : List Loc), N v w1 → Hp D A s (wr ++ w1) H1 locs1 → W p l e R s m args below meth c H1 locs1 (cells + rm.cells) (slots + rm.slots) Q (F0 m (pc + 3) ls (v.toList ++ rest)))
    (kx : ∀ (E : String) (q9 : Nat) (ce : Cell) (w1 : va_W) (H1 : Heap) (locs1 : List Loc), X E w1 → Hp D A s (wr ++ w1) H1 locs1 → H1[q9]? = some ce → ce.vm = .none → s.vm.findClass E = some ce.cls → vx_W p l e R s m args below meth c H1 locs1 (cells + rm.cells) (slots + rm.slots) Q (F0 m pc ls rest) q9) :
    W p l e R s m args below meth c H locs cells slots Q (F0 m pc ls (As.reverse ++ .ref b :: rest)) := by
  have hG : GoodIn tg (wsV own index y.cls y (.code y bytes maxL ret :: tg)) := tg_GoodIn (fun w hw => by
    simp only [wsV, List.mem_append, List.mem_cons, List.not_mem_nil, or_false] at hw
    rcases hw with (rfl | rfl | rfl | rfl) | rfl | hw
    · exact w1
    · exact w2
    · exact w3
    · exact w4
    · exact w5
    · exact hw)
  refine runX C hH cut (vx_runV (b := b) (As := As) (rest := rest) C.fix hM (cwV As.length C.ts hG rfl rfl rfl ⟨rfl, hd⟩ hR) ⟨Pr.blind, ?_, preOf C hK hH cut.1 cut.2.2.1⟩ rfl rfl hl rfl (lv_room hrm) hdg hf) kk kx
  exact va_recv hK.1 hH.1 hcl hrc
/-- the same of an object that isn't of the world -/
theorem kVr (C : Cx p l s m meth c args cc nL own A D hh) (hK : Kn D s) (hH : Hp D A s ws H locs) (hM : Ct l y (.code y bytes maxL ret :: tg) rm D wc (.ref b :: As) H.size N X) (cut : Cut ws wc wr isC isR)
    (hrv : ∃ cell : Cell, H[b]? = some cell ∧ cell.vm.isStatics = false ∧ s.vm.findClass y.cls = some cell.cls)
    (w1 : Cond.methodLink own index y ∈ tg) (w2 : Cond.instanceMethod y ∈ tg) (w3 : Cond.selects y.cls y y ∈ tg) (w4 : Cond.initialized y.cls ∈ tg) (w5 : Cond.code y bytes maxL ret ∈ tg)
    (hd : y.cls ≠ "java/lang/invoke/MethodHandle" ∧ y.cls ≠ "java/lang/invoke/VarHandle" ∧ (parseMethodDescriptor y.desc).map (fun d => d.parameters.length) = some As.length) (hR : rm.frames + 1 ≤ R.frames ∧ 8 + (maxL + 11) + rm.locals ≤ R.locals)
    (hl : ls.size = nL) (hrm : (rest.map fun v => v.category).sum ≤ 8) (hdg : decode cc pc = .ok (.invokevirtual index, 3)) (hf : cells + rm.cells ≤ R.cells ∧ slots + rm.slots ≤ R.slots)
    (kk : ∀ (v : Option Value) (w1 : va_W) (H1 : Heap) (locs1 : List Loc), N v w1 → Hp D A s (wr ++ w1) H1 locs1 → W p l e R s m args below meth c H1 locs1 (cells + rm.cells) (slots + rm.slots) Q (F0 m (pc + 3) ls (v.toList ++ rest)))
    (kx : ∀ (E : String) (q9 : Nat) (ce : Cell) (w1 : va_W) (H1 : Heap) (locs1 : List Loc), X E w1 → Hp D A s (wr ++ w1) H1 locs1 → H1[q9]? = some ce → ce.vm = .none → s.vm.findClass E = some ce.cls → vx_W p l e R s m args below meth c H1 locs1 (cells + rm.cells) (slots + rm.slots) Q (F0 m pc ls rest) q9) :
    W p l e R s m args below meth c H locs cells slots Q (F0 m pc ls (As.reverse ++ .ref b :: rest)) := by
  have hG : GoodIn tg (wsV own index y.cls y (.code y bytes maxL ret :: tg)) := tg_GoodIn (fun w hw => by
    simp only [wsV, List.mem_append, List.mem_cons, List.not_mem_nil, or_false] at hw
    rcases hw with (rfl | rfl | rfl | rfl) | rfl | hw
    · exact w1
    · exact w2
    · exact w3
    · exact w4
    · exact w5
    · exact hw)
  refine runX C hH cut (vx_runV (b := b) (As := As) (rest := rest) C.fix hM (cwV As.length C.ts hG rfl rfl rfl ⟨rfl, hd⟩ hR) ⟨Pr.blind, ?_, preOf C hK hH cut.1 cut.2.2.1⟩ rfl rfl hl rfl (lv_room hrm) hdg hf) kk kx
  exact hrv
/-- invokestatic of a method of the own sort -/
theorem kS (C : Cx p l s m meth c args cc nL own A D hh) (hK : Kn D s) (hH : Hp D A s ws H locs) (hM : Ct l y (.code y bytes maxL ret :: tg) rm D wc As H.size N X) (cut : Cut ws wc wr isC isR)
    (w1 : Cond.methodLink own index y ∈ tg) (w2 : Cond.static y ∈ tg) (w4 : Cond.initialized y.cls ∈ tg) (w5 : Cond.code y bytes maxL ret ∈ tg)
    (hd : y.cls ≠ "java/lang/invoke/MethodHandle" ∧ y.cls ≠ "java/lang/invoke/VarHandle" ∧ (parseMethodDescriptor y.desc).map (fun d => d.parameters.length) = some As.length) (hR : rm.frames + 1 ≤ R.frames ∧ 8 + (maxL + 11) + rm.locals ≤ R.locals)
    (hl : ls.size = nL) (hrm : (rest.map fun v => v.category).sum ≤ 8) (hdg : decode cc pc = .ok (.invokestatic index, 3)) (hf : cells + rm.cells ≤ R.cells ∧ slots + rm.slots ≤ R.slots)
    (kk : ∀ (v : Option Value) (w1 : va_W) (H1 : Heap) (locs1 : List Loc), N v w1 → Hp D A s (wr ++ w1) H1 locs1 → W p l e R s m args below meth c H1 locs1 (cells + rm.cells) (slots + rm.slots) Q (F0 m (pc + 3) ls (v.toList ++ rest)))
    (kx : ∀ (E : String) (q9 : Nat) (ce : Cell) (w1 : va_W) (H1 : Heap) (locs1 : List Loc), X E w1 → Hp D A s (wr ++ w1) H1 locs1 → H1[q9]? = some ce → ce.vm = .none → s.vm.findClass E = some ce.cls → vx_W p l e R s m args below meth c H1 locs1 (cells + rm.cells) (slots + rm.slots) Q (F0 m pc ls rest) q9) :
    W p l e R s m args below meth c H locs cells slots Q (F0 m pc ls (As.reverse ++ rest)) := by
  have hG : GoodIn tg (.code y bytes maxL ret :: tg) := tg_GoodIn (fun w hw => (List.mem_cons.mp hw).elim (fun e => e ▸ w5) (fun h => h))
  exact runX C hH cut (vx_runS (As := As) (rest := rest) C.fix hM ⟨callB_of As.length C.ts hG rfl rfl rfl (C.ts _ w4) (C.ts _ w1) hd hR, C.ts _ w2⟩ ⟨Pr.blind, preOf C hK hH cut.1 cut.2.2.1⟩ rfl rfl hl rfl (lv_room hrm) hdg hf) kk kx
/-- invokevirtual of a nest mate's method, which doesn't throw -/
theorem kVN {host : String} (C : Cx p l s m meth c args cc nL own A D hh) (hK : Kn D s) (hH : Hp D A s ws H locs) (hM : Ct l y (.code y bytes maxL ret :: tg) rm D wc (.ref b :: As) H.size N nox) (cut : Cut ws wc wr isC isR)
    (q0 : Nat) {ci NN : Nat} {fs : List Value} {TT : u_T} (hrc : ws[q0]? = some (b, .inr (ci, fs))) (hcl : vwCl[ci]? = some (y.cls, TT, NN))
    (w1 : Cond.methodLinkNest own index y host ∈ nwl) (w2 : Cond.instanceMethod y ∈ tg) (w3 : Cond.selects y.cls y y ∈ tg) (w4 : Cond.initialized y.cls ∈ tg) (w5 : Cond.code y bytes maxL ret ∈ tg)
    (hd : y.cls ≠ "java/lang/invoke/MethodHandle" ∧ y.cls ≠ "java/lang/invoke/VarHandle" ∧ (parseMethodDescriptor y.desc).map (fun d => d.parameters.length) = some As.length) (hR : rm.frames + 1 ≤ R.frames ∧ 8 + (maxL + 11) + rm.locals ≤ R.locals)
    (hl : ls.size = nL) (hrm : (rest.map fun v => v.category).sum ≤ 8) (hdg : decode cc pc = .ok (.invokevirtual index, 3)) (hf : cells + rm.cells ≤ R.cells ∧ slots + rm.slots ≤ R.slots)
    (kk : ∀ (v : Option Value) (w1 : va_W) (H1 : Heap) (locs1 : List Loc), N v w1 → Hp D A s (wr ++ w1) H1 locs1 → W p l e R s m args below meth c H1 locs1 (cells + rm.cells) (slots + rm.slots) Q (F0 m (pc + 3) ls (v.toList ++ rest))) :
    W p l e R s m args below meth c H locs cells slots Q (F0 m pc ls (As.reverse ++ .ref b :: rest)) := by
  have hG : GoodIn tg (.code y bytes maxL ret :: tg) := tg_GoodIn (fun w hw => (List.mem_cons.mp hw).elim (fun e => e ▸ w5) (fun h => h))
  exact run0 C hH cut (va_runVN (C := y.cls) (b := b) (As := As) (rest := rest) C.fix hM.met ⟨va_cnB As.length C.ts hG rfl rfl rfl (C.N.1 _ w1) (C.ts _ w4) hd hR, C.ts _ w2, C.ts _ w3⟩ ⟨Pr.blind, va_recv hK.1 hH.1 hcl hrc, preOf C hK hH cut.1 cut.2.2.1⟩ rfl rfl hl rfl (lv_room hrm) hdg hf) kk
/-- a constructor of the own sort, or of another that may be seen -/
theorem kI (C : Cx p l s m meth c args cc nL own A D hh) (hK : Kn D s) (hH : Hp D A s ws H locs) (hM : Ct l y (.code y bytes maxL none :: tg) rm D wc (.ref b :: As) H.size N nox) (cut : Cut ws wc wr isC isR) (hy1 : y.name = "<init>")
    (w1 : Cond.methodLink own index y ∈ tg) (w2 : Cond.instanceMethod y ∈ tg) (w4 : Cond.initialized y.cls ∈ tg) (w5 : Cond.code y bytes maxL none ∈ tg)
    (hd : y.cls ≠ "java/lang/invoke/MethodHandle" ∧ y.cls ≠ "java/lang/invoke/VarHandle" ∧ (parseMethodDescriptor y.desc).map (fun d => d.parameters.length) = some As.length) (hR : rm.frames + 1 ≤ R.frames ∧ 8 + (maxL + 11) + rm.locals ≤ R.locals)
    (hl : ls.size = nL) (hrm : (rest.map fun v => v.category).sum ≤ 8) (hdg : decode cc pc = .ok (.invokespecial index, 3)) (hf : cells + rm.cells ≤ R.cells ∧ slots + rm.slots ≤ R.slots)
    (kk : ∀ (v : Option Value) (w1 : va_W) (H1 : Heap) (locs1 : List Loc), N v w1 → Hp D A s (wr ++ w1) H1 locs1 → W p l e R s m args below meth c H1 locs1 (cells + rm.cells) (slots + rm.slots) Q (F0 m (pc + 3) ls (v.toList ++ rest))) :
    W p l e R s m args below meth c H locs cells slots Q (F0 m pc ls (As.reverse ++ .ref b :: rest)) := by
  have hG : GoodIn tg (.code y bytes maxL none :: tg) := tg_GoodIn (fun w hw => (List.mem_cons.mp hw).elim (fun e => e ▸ w5) (fun h => h))
  exact run0 C hH cut (va_runI (b := b) (As := As) (rest := rest) C.fix hM.met (cwI As.length C.ts hG rfl rfl rfl (C.ts _ w4) (C.ts _ w1) (C.ts _ w2) hy1 hd hR) ⟨Pr.blind, preOf C hK hH cut.1 cut.2.2.1⟩ rfl rfl hl rfl (lv_room hrm) hdg hf) kk
theorem kIN {host : String} (C : Cx p l s m meth c args cc nL own A D hh) (hK : Kn D s) (hH : Hp D A s ws H locs) (hM : Ct l y (.code y bytes maxL none :: tg) rm D wc (.ref b :: As) H.size N nox) (cut : Cut ws wc wr isC isR) (hy1 : y.name = "<init>")
    (w1 : Cond.methodLinkNest own index y host ∈ nwl) (w2 : Cond.instanceMethod y ∈ tg) (w4 : Cond.initialized y.cls ∈ tg) (w5 : Cond.code y bytes maxL none ∈ tg)
    (hd : y.cls ≠ "java/lang/invoke/MethodHandle" ∧ y.cls ≠ "java/lang/invoke/VarHandle" ∧ (parseMethodDescriptor y.desc).map (fun d => d.parameters.length) = some As.length) (hR : rm.frames + 1 ≤ R.frames ∧ 8 + (maxL + 11) + rm.locals ≤ R.locals)
    (hl : ls.size = nL) (hrm : (rest.map fun v => v.category).sum ≤ 8) (hdg : decode cc pc = .ok (.invokespecial index, 3)) (hf : cells + rm.cells ≤ R.cells ∧ slots + rm.slots ≤ R.slots)
    (kk : ∀ (v : Option Value) (w1 : va_W) (H1 : Heap) (locs1 : List Loc), N v w1 → Hp D A s (wr ++ w1) H1 locs1 → W p l e R s m args below meth c H1 locs1 (cells + rm.cells) (slots + rm.slots) Q (F0 m (pc + 3) ls (v.toList ++ rest))) :
    W p l e R s m args below meth c H locs cells slots Q (F0 m pc ls (As.reverse ++ .ref b :: rest)) := by
  have hG : GoodIn tg (.code y bytes maxL none :: tg) := tg_GoodIn (fun w hw => (List.mem_cons.mp hw).elim (fun e => e ▸ w5) (fun h => h))
  exact run0 C hH cut (va_runIN (b := b) (As := As) (rest := rest) C.fix hM.met ⟨va_cnB As.length C.ts hG rfl rfl rfl (C.N.1 _ w1) (C.ts _ w4) hd hR, hy1, C.ts _ w2⟩ ⟨Pr.blind, preOf C hK hH cut.1 cut.2.2.1⟩ rfl rfl hl rfl (lv_room hrm) hdg hf) kk
/-- it goes on to the caller -/
theorem kOut {N0 : Option Value → va_W → Prop} {X0 : String → va_W → Prop} {rm0 : Room} {E : String} {ce : Cell} {q : Nat} (C : Cx p l s m meth c args cc nL own A D []) (hH : Hp D A s ws H locs) (hX : X0 E ws) (hce : H[q]? = some ce) (hv : ce.vm = .none) (hcl : s.vm.findClass E = some ce.cls) (hc : cells ≤ rm0.cells) (hs : slots ≤ rm0.slots) :
    vx_W p l e R s m args below meth c H locs cells slots (Qf below args s D A N0 X0 rm0) (F0 m pc ls rest) q := by
  refine vx_out ?_ C.locks hce hv hcl (fun t ht ha => ⟨⟨ws, hX, by rw [ht]; exact hH.1, hH.2.1⟩, hH.2.2.F ht⟩) hH.2.2.2.2 hc hs
  rw [C.tab]
  intro x hx
  cases hx
end CALL
end
section
section HEAP
variable {p : Program} {l : Launch} {e : Env} {R : Room} {s : State} {m : MethodId} {args : Array Value} {below : List Frame} {meth : Method} {c : Code} {H : Heap} {locs : List Loc} {cells slots : Nat} {Q : State → Prop} {cc : ByteArray} {pc : Nat} {ls : Array Slot} {rest : List Value} {nL : Nat} {own : String} {A : Nat → Prop} {D : va_G} {ws ws' : va_W} {hh : List (Nat × Nat × Nat × Nat)} {a : Nat}
theorem gGet (C : Cx p l s m meth c args cc nL own A D hh) (hK : Kn D s) (hH : Hp D A s ws H locs) (q0 k : Nat) {ci N index : Nat} {Cn : String} {T : u_T} {fs : List Value} {v : Value} (he : ws[q0]? = some (a, .inr (ci, fs))) (hc : vwCl[ci]? = some (Cn, T, N)) (hin : ∀ w ∈ u_ws Cn T N, w ∈ tg) (hk : k < N) (hw : Cond.fieldLink own index (T k).1 (T k).2.1 (T k).2.2.1 ∈ tg) (hv : fs[k]? = some v) (hdg : decode cc pc = .ok (.getfield index, 3))
    (kk : W p l e R s m args below meth c H locs cells slots Q (F0 m (pc + 3) ls (v :: rest))) : W p l e R s m args below meth c H locs cells slots Q (F0 m pc ls (.ref a :: rest)) :=
  va_get C.x C.b C.ts hin C.ow hK.1 hH.1 q0 he hc k hk (C.ts _ hw) (fun _ h => h) hv hdg kk
theorem gGetN (C : Cx p l s m meth c args cc nL own A D hh) (hK : Kn D s) (hH : Hp D A s ws H locs) (q0 k : Nat) {ci N index : Nat} {Cn host : String} {T : u_T} {fs : List Value} {v : Value} (he : ws[q0]? = some (a, .inr (ci, fs))) (hc : vwCl[ci]? = some (Cn, T, N)) (hin : ∀ w ∈ u_ws Cn T N, w ∈ tg) (hk : k < N) (hw : Cond.fieldLinkNest own index (T k).1 (T k).2.1 (T k).2.2.1 host ∈ nwl) (hv : fs[k]? = some v) (hdg : decode cc pc = .ok (.getfield index, 3))
    (kk : W p l e R s m args below meth c H locs cells slots Q (F0 m (pc + 3) ls (v :: rest))) : W p l e R s m args below meth c H locs cells slots Q (F0 m pc ls (.ref a :: rest)) :=
  va_getN C.x C.b C.ts hin C.ow hK.1 hH.1 q0 he hc k hk ((C.N.1 _ hw).use rfl) (fun _ h => h) hv hdg kk
theorem gPut (C : Cx p l s m meth c args cc nL own A D hh) (hK : Kn D s) (hH : Hp D A s ws H locs) (q0 k : Nat) {ci N index : Nat} {Cn : String} {T : u_T} {fs : List Value} {v : Value} (ty0 : Nat → FieldType) (hty : ∀ k, k < N → parseFieldDescriptor (T k).2.2.1 = some (ty0 k)) (hnm : ∀ a, a < N → ∀ b, b < N → a ≠ b → (T a).2.1 ≠ (T b).2.1) (he : ws[q0]? = some (a, .inr (ci, fs))) (hc : vwCl[ci]? = some (Cn, T, N)) (hin : ∀ w ∈ u_ws Cn T N, w ∈ tg) (hk : k < N) (hw : Cond.fieldLink own index (T k).1 (T k).2.1 (T k).2.2.1 ∈ tg) (hfin : (T k).2.2.2 = false) (hn : narrow (ty0 k) v = v) (hfit : fits (ty0 k) v = true) (hl : k < fs.length)
    (hset : ws.set q0 (a, .inr (ci, fs.set k v)) = ws') (hdg : decode cc pc = .ok (.putfield index, 3)) (kk : ∀ (H1 : Heap) (locs1 : List Loc), Hp D A s ws' H1 locs1 → W p l e R s m args below meth c H1 locs1 cells slots Q (F0 m (pc + 3) ls rest)) : W p l e R s m args below meth c H locs cells slots Q (F0 m pc ls (v :: .ref a :: rest)) :=
  va_put C.x C.b C.ts hin ty0 hty hnm C.ow hK.1 hH.1 hH.2.1 hH.2.2 q0 he hc k hk (C.ts _ hw) (fun _ h => h) hfin (hty k hk) hn hfit hl hdg (fun H1 locs1 h1 h2 h3 => kk H1 locs1 ⟨hset ▸ h1, hset ▸ h2, h3⟩)
theorem gPutF (C : Cx p l s m meth c args cc nL own A D hh) (hK : Kn D s) (hH : Hp D A s ws H locs) (q0 k : Nat) {ci N index : Nat} {Cn : String} {T : u_T} {fs : List Value} {v : Value} (ty0 : Nat → FieldType) (hty : ∀ k, k < N → parseFieldDescriptor (T k).2.2.1 = some (ty0 k)) (hnm : ∀ a, a < N → ∀ b, b < N → a ≠ b → (T a).2.1 ≠ (T b).2.1) (he : ws[q0]? = some (a, .inr (ci, fs))) (hc : vwCl[ci]? = some (Cn, T, N)) (hin : ∀ w ∈ u_ws Cn T N, w ∈ tg) (hk : k < N) (hw : Cond.fieldLink own index (T k).1 (T k).2.1 (T k).2.2.1 ∈ tg) (hfin : (T k).2.2.2 = true) (hini : meth.name = "<init>") (hdc : (T k).1 = own) (hn : narrow (ty0 k) v = v) (hfit : fits (ty0 k) v = true) (hl : k < fs.length)
    (hset : ws.set q0 (a, .inr (ci, fs.set k v)) = ws') (hdg : decode cc pc = .ok (.putfield index, 3)) (kk : ∀ (H1 : Heap) (locs1 : List Loc), Hp D A s ws' H1 locs1 → W p l e R s m args below meth c H1 locs1 cells slots Q (F0 m (pc + 3) ls rest)) : W p l e R s m args below meth c H locs cells slots Q (F0 m pc ls (v :: .ref a :: rest)) :=
  va_putF C.x C.b C.ts hin ty0 hty hnm C.ow hK.1 hH.1 hH.2.1 hH.2.2 q0 he hc k hk (C.ts _ hw) (fun _ h => h) hfin hini hdc (hty k hk) hn hfit hl hdg (fun H1 locs1 h1 h2 h3 => kk H1 locs1 ⟨hset ▸ h1, hset ▸ h2, h3⟩)
theorem gPutN (C : Cx p l s m meth c args cc nL own A D hh) (hK : Kn D s) (hH : Hp D A s ws H locs) (q0 k : Nat) {ci N index : Nat} {Cn host : String} {T : u_T} {fs : List Value} {v : Value} (ty0 : Nat → FieldType) (hty : ∀ k, k < N → parseFieldDescriptor (T k).2.2.1 = some (ty0 k)) (hnm : ∀ a, a < N → ∀ b, b < N → a ≠ b → (T a).2.1 ≠ (T b).2.1) (he : ws[q0]? = some (a, .inr (ci, fs))) (hc : vwCl[ci]? = some (Cn, T, N)) (hin : ∀ w ∈ u_ws Cn T N, w ∈ tg) (hk : k < N) (hw : Cond.fieldLinkNest own index (T k).1 (T k).2.1 (T k).2.2.1 host ∈ nwl) (hfin : (T k).2.2.2 = false) (hn : narrow (ty0 k) v = v) (hfit : fits (ty0 k) v = true) (hl : k < fs.length)
    (hset : ws.set q0 (a, .inr (ci, fs.set k v)) = ws') (hdg : decode cc pc = .ok (.putfield index, 3)) (kk : ∀ (H1 : Heap) (locs1 : List Loc), Hp D A s ws' H1 locs1 → W p l e R s m args below meth c H1 locs1 cells slots Q (F0 m (pc + 3) ls rest)) : W p l e R s m args below meth c H locs cells slots Q (F0 m pc ls (v :: .ref a :: rest)) :=
  va_putN C.x C.b C.ts hin ty0 hty hnm C.ow hK.1 hH.1 hH.2.1 hH.2.2 q0 he hc k hk ((C.N.1 _ hw).use rfl) (fun _ h => h) hfin (hty k hk) hn hfit hl hdg (fun H1 locs1 h1 h2 h3 => kk H1 locs1 ⟨hset ▸ h1, hset ▸ h2, h3⟩)
/-! arrays, at a place that is known as a Nat -/
theorem gCald (C : Cx p l s m meth c args cc nL own A D hh) (hK : Kn D s) (hH : Hp D A s ws H locs) (q0 : Nat) {n k : Nat} {f : Nat → Int32} (ha : ws[q0]? = some (a, .inl (D.1 10, n, .inl f))) (hk : k < n) (hn : n < 2 ^ 31) (hdg : decode cc pc = .ok (.caload, 1)) {v : Int32} (hv : f k = v)
    (kk : W p l e R s m args below meth c H locs cells slots Q (F0 m (pc + 1) ls (.int v :: rest))) : W p l e R s m args below meth c H locs cells slots Q (F0 m pc ls (.int (nI k) :: .ref a :: rest)) := by
  refine va_cald C.x C.b hK.1 hH.1 q0 0 ha rfl (vp_in_nI hk hn) hdg ?_
  rw [nI_clamp (by omega), hv]; exact kk
theorem gIald (C : Cx p l s m meth c args cc nL own A D hh) (hK : Kn D s) (hH : Hp D A s ws H locs) (q0 : Nat) {n k : Nat} {f : Nat → Int32} (ha : ws[q0]? = some (a, .inl (D.1 11, n, .inl f))) (hk : k < n) (hn : n < 2 ^ 31) (hdg : decode cc pc = .ok (.iaload, 1)) {v : Int32} (hv : f k = v)
    (kk : W p l e R s m args below meth c H locs cells slots Q (F0 m (pc + 1) ls (.int v :: rest))) : W p l e R s m args below meth c H locs cells slots Q (F0 m pc ls (.int (nI k) :: .ref a :: rest)) := by
  refine va_iald C.x C.b hK.1 hH.1 q0 1 ha rfl (vp_in_nI hk hn) hdg ?_
  rw [nI_clamp (by omega), hv]; exact kk
theorem gZald (C : Cx p l s m meth c args cc nL own A D hh) (hK : Kn D s) (hH : Hp D A s ws H locs) (q0 : Nat) {n k : Nat} {f : Nat → Int32} (ha : ws[q0]? = some (a, .inl (D.1 12, n, .inl f))) (hk : k < n) (hn : n < 2 ^ 31) (hdg : decode cc pc = .ok (.baload, 1)) {v : Int32} (hv : f k = v)
    (kk : W p l e R s m args below meth c H locs cells slots Q (F0 m (pc + 1) ls (.int v :: rest))) : W p l e R s m args below meth c H locs cells slots Q (F0 m pc ls (.int (nI k) :: .ref a :: rest)) := by
  refine va_zald C.x C.b hK.1 hH.1 q0 2 ha rfl (vp_in_nI hk hn) hdg ?_
  rw [nI_clamp (by omega), hv]; exact kk
theorem gAald (C : Cx p l s m meth c args cc nL own A D hh) (hK : Kn D s) (hH : Hp D A s ws H locs) (q0 : Nat) {n k : Nat} {f : Nat → Option Nat} (ha : ws[q0]? = some (a, .inl (D.1 13, n, .inr (.inr (.inr (.inr f)))))) (hk : k < n) (hn : n < 2 ^ 31) (hdg : decode cc pc = .ok (.aaload, 1)) {v : Option Nat} (hv : f k = v)
    (kk : W p l e R s m args below meth c H locs cells slots Q (F0 m (pc + 1) ls (va_rf v :: rest))) : W p l e R s m args below meth c H locs cells slots Q (F0 m pc ls (.int (nI k) :: .ref a :: rest)) := by
  refine va_aldq C.x C.b hK.1 hH.1 q0 3 ha rfl (vp_in_nI hk hn) hdg ?_
  rw [nI_clamp (by omega), hv]; exact kk
theorem gLald (C : Cx p l s m meth c args cc nL own A D hh) (hK : Kn D s) (hH : Hp D A s ws H locs) (q0 : Nat) {n k : Nat} {f : Nat → Int64} (ha : ws[q0]? = some (a, .inl (D.1 14, n, .inr (.inl f)))) (hk : k < n) (hn : n < 2 ^ 31) (hdg : decode cc pc = .ok (.laload, 1)) {v : Int64} (hv : f k = v)
    (kk : W p l e R s m args below meth c H locs cells slots Q (F0 m (pc + 1) ls (.long v :: rest))) : W p l e R s m args below meth c H locs cells slots Q (F0 m pc ls (.int (nI k) :: .ref a :: rest)) := by
  refine va_lald C.x C.b hK.1 hH.1 q0 4 ha rfl (vp_in_nI hk hn) hdg ?_
  rw [nI_clamp (by omega), hv]; exact kk
theorem gCast (C : Cx p l s m meth c args cc nL own A D hh) (hK : Kn D s) (hH : Hp D A s ws H locs) (q0 : Nat) {n k : Nat} {x : Int32} {f f' : Nat → Int32} (ha : ws[q0]? = some (a, .inl (D.1 10, n, .inl f))) (hk : k < n) (hn : n < 2 ^ 31) (hf : upd f k (vp_nar .char x) = f') (hset : ws.set q0 (a, .inl (D.1 10, n, .inl f')) = ws') (hdg : decode cc pc = .ok (.castore, 1))
    (kk : ∀ (H1 : Heap) (locs1 : List Loc), Hp D A s ws' H1 locs1 → W p l e R s m args below meth c H1 locs1 cells slots Q (F0 m (pc + 1) ls rest)) : W p l e R s m args below meth c H locs cells slots Q (F0 m pc ls (.int x :: .int (nI k) :: .ref a :: rest)) := by
  refine va_cast C.x C.b hK.1 hH.1 hH.2.1 hH.2.2 q0 0 ha rfl (vp_in_nI hk hn) hdg (fun H1 locs1 h1 h2 h3 => ?_)
  rw [nI_clamp (by omega), hf, hset] at h1 h2
  exact kk H1 locs1 ⟨h1, h2, h3⟩
theorem gIast (C : Cx p l s m meth c args cc nL own A D hh) (hK : Kn D s) (hH : Hp D A s ws H locs) (q0 : Nat) {n k : Nat} {x : Int32} {f f' : Nat → Int32} (ha : ws[q0]? = some (a, .inl (D.1 11, n, .inl f))) (hk : k < n) (hn : n < 2 ^ 31) (hf : upd f k x = f') (hset : ws.set q0 (a, .inl (D.1 11, n, .inl f')) = ws') (hdg : decode cc pc = .ok (.iastore, 1))
    (kk : ∀ (H1 : Heap) (locs1 : List Loc), Hp D A s ws' H1 locs1 → W p l e R s m args below meth c H1 locs1 cells slots Q (F0 m (pc + 1) ls rest)) : W p l e R s m args below meth c H locs cells slots Q (F0 m pc ls (.int x :: .int (nI k) :: .ref a :: rest)) := by
  refine va_iast C.x C.b hK.1 hH.1 hH.2.1 hH.2.2 q0 1 ha rfl (vp_in_nI hk hn) hdg (fun H1 locs1 h1 h2 h3 => ?_)
  rw [nI_clamp (by omega), hf, hset] at h1 h2
  exact kk H1 locs1 ⟨h1, h2, h3⟩
theorem gZast (C : Cx p l s m meth c args cc nL own A D hh) (hK : Kn D s) (hH : Hp D A s ws H locs) (q0 : Nat) {n k : Nat} {x : Int32} {f f' : Nat → Int32} (ha : ws[q0]? = some (a, .inl (D.1 12, n, .inl f))) (hk : k < n) (hn : n < 2 ^ 31) (hf : upd f k (vp_nar .boolean x) = f') (hset : ws.set q0 (a, .inl (D.1 12, n, .inl f')) = ws') (hdg : decode cc pc = .ok (.bastore, 1))
    (kk : ∀ (H1 : Heap) (locs1 : List Loc), Hp D A s ws' H1 locs1 → W p l e R s m args below meth c H1 locs1 cells slots Q (F0 m (pc + 1) ls rest)) : W p l e R s m args below meth c H locs cells slots Q (F0 m pc ls (.int x :: .int (nI k) :: .ref a :: rest)) := by
  refine va_zast C.x C.b hK.1 hH.1 hH.2.1 hH.2.2 q0 2 ha rfl (vp_in_nI hk hn) hdg (fun H1 locs1 h1 h2 h3 => ?_)
  rw [nI_clamp (by omega), hf, hset] at h1 h2
  exact kk H1 locs1 ⟨h1, h2, h3⟩
theorem gLast (C : Cx p l s m meth c args cc nL own A D hh) (hK : Kn D s) (hH : Hp D A s ws H locs) (q0 : Nat) {n k : Nat} {x : Int64} {f f' : Nat → Int64} (ha : ws[q0]? = some (a, .inl (D.1 14, n, .inr (.inl f)))) (hk : k < n) (hn : n < 2 ^ 31) (hf : vp_updL f k x = f') (hset : ws.set q0 (a, .inl (D.1 14, n, .inr (.inl f'))) = ws') (hdg : decode cc pc = .ok (.lastore, 1))
    (kk : ∀ (H1 : Heap) (locs1 : List Loc), Hp D A s ws' H1 locs1 → W p l e R s m args below meth c H1 locs1 cells slots Q (F0 m (pc + 1) ls rest)) : W p l e R s m args below meth c H locs cells slots Q (F0 m pc ls (.long x :: .int (nI k) :: .ref a :: rest)) := by
  refine va_last C.x C.b hK.1 hH.1 hH.2.1 hH.2.2 q0 4 ha rfl (vp_in_nI hk hn) hdg (fun H1 locs1 h1 h2 h3 => ?_)
  rw [nI_clamp (by omega), hf, hset] at h1 h2
  exact kk H1 locs1 ⟨h1, h2, h3⟩
theorem gNew (C : Cx p l s m meth c args cc nL own A D hh) (hK : Kn D s) (hH : Hp D A s ws H locs) {ci N index : Nat} {Cn : String} {T : u_T} {fs : List Value} (ty0 : Nat → FieldType) (hty : ∀ k, k < N → parseFieldDescriptor (T k).2.2.1 = some (ty0 k)) (hc : vwCl[ci]? = some (Cn, T, N)) (hin : ∀ w ∈ u_ws Cn T N, w ∈ tg) (w1 : Cond.classLink own index Cn ∈ tg) (w2 : Cond.instantiable Cn N ∈ tg) (w3 : Cond.initialized Cn ∈ tg) (hfs : ∀ j, j < N → defaultValue (ty0 j) = vp_V fs j) (hcells : cells + 1 ≤ R.cells) (hslots : slots + N ≤ R.slots) (hdg : decode cc pc = .ok (.new index, 3))
    (kk : ∀ (q : Nat) (H1 : Heap), Hp D A s (ws ++ [(q, .inr (ci, fs))]) H1 locs → W p l e R s m args below meth c H1 locs (cells + 1) (slots + N) Q (F0 m (pc + 3) ls (.ref q :: rest))) : W p l e R s m args below meth c H locs cells slots Q (F0 m pc ls rest) :=
  va_new C.x C.b C.ts hin ty0 hty C.ow (C.ts _ w1) (C.ts _ w2) (C.ts _ w3) hK.1 hH.1 hH.2.1 hH.2.2 C.hA hc hfs hcells hslots hdg (fun q H1 h1 h2 h3 => kk q H1 ⟨h1, h2, h3⟩)
/-- a throw of a new exception, in a method without a table -/
theorem gThrow {N : Option Value → va_W → Prop} {X : String → va_W → Prop} {rm : Room} (C : Cx p l s m meth c args cc nL own A D []) (hH : Hp D A s ws H locs) {cls : String} {names : List String} {ik ic : Nat} (hcls : Bundle.fit cls = true) (hnames : ∀ n ∈ names, Bundle.fit n = true) (w1 : Cond.classLink own ik cls ∈ tg) (w2 : Cond.initialized cls ∈ tg) (hat : ∀ w ∈ vx_at0 own ic cls names, w.before args s = true) (hgood : ∀ w ∈ Cond.classLink own ik cls :: Cond.initialized cls :: vx_at0 own ic cls names, vx_ot w = true)
    (hl : ls.size = nL) (d0 : decode cc pc = .ok (.new ik, 3)) (d3 : decode cc (pc + 3) = .ok (.dup, 1)) (d4 : decode cc (pc + 4) = .ok (.invokespecial ic, 3)) (d7 : decode cc (pc + 7) = .ok (.athrow, 1))
    (hRframes : names.length + 3 < R.frames) (hRlocals : (rest.map fun v => v.category).sum + (13 * (names.length + 1) + 42) ≤ R.locals) (hRcells : cells + 1 ≤ R.cells) (hRslots : slots + 6 ≤ R.slots) (hX : X cls ws) (hc : cells + 1 ≤ rm.cells) (hs : slots + 6 ≤ rm.slots) :
    W p l e R s m args below meth c H locs cells slots (Qf below args s D A N X rm) (F0 m pc ls rest) := by
  refine vx_throw0 C.x C.b C.tr (own := own) (cls := cls) (names := names) (A := A) C.ow hcls hnames (C.ts _ w1) (C.ts _ w2) hat hgood C.Z.1 C.Z.2.1 hH.2.2 (hl.trans C.ml.symm) d0 d3 d4 d7 ?_ hRframes hRlocals hRcells hRslots C.locks ?_ hH.2.2.2.2 hc hs
  · rw [C.tab]
    intro x hx
    cases hx
  · intro t ha hsz hk
    refine ⟨⟨ws, hX, ?_, hH.2.1⟩, ?_, ?_⟩
    · intro k q hq
      have hlt := (hH.1 k q hq).lt
      have h1 := hH.1 k q hq
      exact va_at.kept h1 (hk q.1 hlt)
    · exact Nat.le_trans hH.2.2.1 hsz
    · intro q hq hA
      rw [hk q (Nat.lt_of_lt_of_le hq hH.2.2.1)]
      exact hH.2.2.2.1 q hq hA
end HEAP
end
section
theorem hatOf {p : Program} {l : Launch} {s : State} {m : MethodId} {meth : Method} {c : Code} {args : Array Value} {cc : ByteArray} {nL : Nat} {own : String} {A : Nat → Prop} {D : va_G} {hh : List (Nat × Nat × Nat × Nat)} (C : Cx p l s m meth c args cc nL own A D hh) {L : List Cond} (h1 : ∀ w ∈ L.filter goodWord, w ∈ tg) (h2 : ∀ w ∈ L.filter (fun w => !goodWord w), w ∈ nwl) : ∀ w ∈ L, w.before args s = true := by
  intro w hw
  cases hg : goodWord w with
  | true => exact C.ts w (h1 w (List.mem_filter.mpr ⟨hw, hg⟩))
  | false =>
    have h3 := h2 w (List.mem_filter.mpr ⟨hw, by simp [hg]⟩)
    have h4 := C.N.1 w h3
    have h5 := (List.mem_filter.mp h3).2
    refine h4.use ?_
    cases w <;> first | rfl | (simp [isNest] at h5)
def eIA : String := "java/lang/IllegalArgumentException"
theorem xIA_1 : ∀ w ∈ (vx_at0 RX2 42 "java/lang/IllegalArgumentException" ["java/lang/RuntimeException", "java/lang/Exception"]).filter goodWord, w ∈ tg := by decide +kernel
theorem xIA_2 : ∀ w ∈ (vx_at0 RX2 42 "java/lang/IllegalArgumentException" ["java/lang/RuntimeException", "java/lang/Exception"]).filter (fun w => !goodWord w), w ∈ nwl := by decide +kernel
theorem xIA_3 : ∀ w ∈ Cond.classLink RX2 40 "java/lang/IllegalArgumentException" :: Cond.initialized "java/lang/IllegalArgumentException" :: vx_at0 RX2 42 "java/lang/IllegalArgumentException" ["java/lang/RuntimeException", "java/lang/Exception"], vx_ot w = true := by decide +kernel
theorem tIA {p : Program} {l : Launch} {e : Env} {R : Room} {s : State} {m : MethodId} {args : Array Value} {below : List Frame} {meth : Method} {c : Code} {H : Heap} {locs : List Loc} {cells slots : Nat} {cc : ByteArray} {pc : Nat} {ls : Array Slot} {rest : List Value} {nL : Nat} {A : Nat → Prop} {D : va_G} {ws : va_W} {N : Option Value → va_W → Prop} {X : String → va_W → Prop} {rm : Room} (C : Cx p l s m meth c args cc nL RX2 A D []) (hH : Hp D A s ws H locs)
    (hl : ls.size = nL) (d0 : decode cc pc = .ok (.new 40, 3)) (d3 : decode cc (pc + 3) = .ok (.dup, 1)) (d4 : decode cc (pc + 4) = .ok (.invokespecial 42, 3)) (d7 : decode cc (pc + 7) = .ok (.athrow, 1))
    (hRframes : 5 < R.frames) (hRlocals : (rest.map fun v => v.category).sum + 81 ≤ R.locals) (hRcells : cells + 1 ≤ R.cells) (hRslots : slots + 6 ≤ R.slots) (hX : X eIA ws) (hc : cells + 1 ≤ rm.cells) (hs : slots + 6 ≤ rm.slots) :
    W p l e R s m args below meth c H locs cells slots (Qf below args s D A N X rm) (F0 m pc ls rest) :=
  gThrow (names := ["java/lang/RuntimeException", "java/lang/Exception"]) C hH (by decide +kernel) (by decide +kernel) tw_167 tw_8 (hatOf C xIA_1 xIA_2) xIA_3 hl d0 d3 d4 d7 hRframes hRlocals hRcells hRslots hX hc hs
def eIS : String := "java/lang/IllegalStateException"
theorem xIS_1 : ∀ w ∈ (vx_at0 RX2 48 "java/lang/IllegalStateException" ["java/lang/RuntimeException", "java/lang/Exception"]).filter goodWord, w ∈ tg := by decide +kernel
theorem xIS_2 : ∀ w ∈ (vx_at0 RX2 48 "java/lang/IllegalStateException" ["java/lang/RuntimeException", "java/lang/Exception"]).filter (fun w => !goodWord w), w ∈ nwl := by decide +kernel
theorem xIS_3 : ∀ w ∈ Cond.classLink RX2 46 "java/lang/IllegalStateException" :: Cond.initialized "java/lang/IllegalStateException" :: vx_at0 RX2 48 "java/lang/IllegalStateException" ["java/lang/RuntimeException", "java/lang/Exception"], vx_ot w = true := by decide +kernel
theorem tIS {p : Program} {l : Launch} {e : Env} {R : Room} {s : State} {m : MethodId} {args : Array Value} {below : List Frame} {meth : Method} {c : Code} {H : Heap} {locs : List Loc} {cells slots : Nat} {cc : ByteArray} {pc : Nat} {ls : Array Slot} {rest : List Value} {nL : Nat} {A : Nat → Prop} {D : va_G} {ws : va_W} {N : Option Value → va_W → Prop} {X : String → va_W → Prop} {rm : Room} (C : Cx p l s m meth c args cc nL RX2 A D []) (hH : Hp D A s ws H locs)
    (hl : ls.size = nL) (d0 : decode cc pc = .ok (.new 46, 3)) (d3 : decode cc (pc + 3) = .ok (.dup, 1)) (d4 : decode cc (pc + 4) = .ok (.invokespecial 48, 3)) (d7 : decode cc (pc + 7) = .ok (.athrow, 1))
    (hRframes : 5 < R.frames) (hRlocals : (rest.map fun v => v.category).sum + 81 ≤ R.locals) (hRcells : cells + 1 ≤ R.cells) (hRslots : slots + 6 ≤ R.slots) (hX : X eIS ws) (hc : cells + 1 ≤ rm.cells) (hs : slots + 6 ≤ rm.slots) :
    W p l e R s m args below meth c H locs cells slots (Qf below args s D A N X rm) (F0 m pc ls rest) :=
  gThrow (names := ["java/lang/RuntimeException", "java/lang/Exception"]) C hH (by decide +kernel) (by decide +kernel) tw_231 tw_9 (hatOf C xIS_1 xIS_2) xIS_3 hl d0 d3 d4 d7 hRframes hRlocals hRcells hRslots hX hc hs
def eNS : String := "java/util/NoSuchElementException"
theorem xNS_1 : ∀ w ∈ (vx_at0 RX2 72 "java/util/NoSuchElementException" ["java/lang/RuntimeException", "java/lang/Exception"]).filter goodWord, w ∈ tg := by decide +kernel
theorem xNS_2 : ∀ w ∈ (vx_at0 RX2 72 "java/util/NoSuchElementException" ["java/lang/RuntimeException", "java/lang/Exception"]).filter (fun w => !goodWord w), w ∈ nwl := by decide +kernel
theorem xNS_3 : ∀ w ∈ Cond.classLink RX2 70 "java/util/NoSuchElementException" :: Cond.initialized "java/util/NoSuchElementException" :: vx_at0 RX2 72 "java/util/NoSuchElementException" ["java/lang/RuntimeException", "java/lang/Exception"], vx_ot w = true := by decide +kernel
theorem tNS {p : Program} {l : Launch} {e : Env} {R : Room} {s : State} {m : MethodId} {args : Array Value} {below : List Frame} {meth : Method} {c : Code} {H : Heap} {locs : List Loc} {cells slots : Nat} {cc : ByteArray} {pc : Nat} {ls : Array Slot} {rest : List Value} {nL : Nat} {A : Nat → Prop} {D : va_G} {ws : va_W} {N : Option Value → va_W → Prop} {X : String → va_W → Prop} {rm : Room} (C : Cx p l s m meth c args cc nL RX2 A D []) (hH : Hp D A s ws H locs)
    (hl : ls.size = nL) (d0 : decode cc pc = .ok (.new 70, 3)) (d3 : decode cc (pc + 3) = .ok (.dup, 1)) (d4 : decode cc (pc + 4) = .ok (.invokespecial 72, 3)) (d7 : decode cc (pc + 7) = .ok (.athrow, 1))
    (hRframes : 5 < R.frames) (hRlocals : (rest.map fun v => v.category).sum + 81 ≤ R.locals) (hRcells : cells + 1 ≤ R.cells) (hRslots : slots + 6 ≤ R.slots) (hX : X eNS ws) (hc : cells + 1 ≤ rm.cells) (hs : slots + 6 ≤ rm.slots) :
    W p l e R s m args below meth c H locs cells slots (Qf below args s D A N X rm) (F0 m pc ls rest) :=
  gThrow (names := ["java/lang/RuntimeException", "java/lang/Exception"]) C hH (by decide +kernel) (by decide +kernel) tw_416 tw_16 (hatOf C xNS_1 xNS_2) xNS_3 hl d0 d3 d4 d7 hRframes hRlocals hRcells hRslots hX hc hs
def eIO : String := "java/lang/IndexOutOfBoundsException"
theorem xIO_1 : ∀ w ∈ (vx_at0 RX2 138 "java/lang/IndexOutOfBoundsException" ["java/lang/RuntimeException", "java/lang/Exception"]).filter goodWord, w ∈ tg := by decide +kernel
theorem xIO_2 : ∀ w ∈ (vx_at0 RX2 138 "java/lang/IndexOutOfBoundsException" ["java/lang/RuntimeException", "java/lang/Exception"]).filter (fun w => !goodWord w), w ∈ nwl := by decide +kernel
theorem xIO_3 : ∀ w ∈ Cond.classLink RX2 136 "java/lang/IndexOutOfBoundsException" :: Cond.initialized "java/lang/IndexOutOfBoundsException" :: vx_at0 RX2 138 "java/lang/IndexOutOfBoundsException" ["java/lang/RuntimeException", "java/lang/Exception"], vx_ot w = true := by decide +kernel
theorem tIO {p : Program} {l : Launch} {e : Env} {R : Room} {s : State} {m : MethodId} {args : Array Value} {below : List Frame} {meth : Method} {c : Code} {H : Heap} {locs : List Loc} {cells slots : Nat} {cc : ByteArray} {pc : Nat} {ls : Array Slot} {rest : List Value} {nL : Nat} {A : Nat → Prop} {D : va_G} {ws : va_W} {N : Option Value → va_W → Prop} {X : String → va_W → Prop} {rm : Room} (C : Cx p l s m meth c args cc nL RX2 A D []) (hH : Hp D A s ws H locs)
    (hl : ls.size = nL) (d0 : decode cc pc = .ok (.new 136, 3)) (d3 : decode cc (pc + 3) = .ok (.dup, 1)) (d4 : decode cc (pc + 4) = .ok (.invokespecial 138, 3)) (d7 : decode cc (pc + 7) = .ok (.athrow, 1))
    (hRframes : 5 < R.frames) (hRlocals : (rest.map fun v => v.category).sum + 81 ≤ R.locals) (hRcells : cells + 1 ≤ R.cells) (hRslots : slots + 6 ≤ R.slots) (hX : X eIO ws) (hc : cells + 1 ≤ rm.cells) (hs : slots + 6 ≤ rm.slots) :
    W p l e R s m args below meth c H locs cells slots (Qf below args s D A N X rm) (F0 m pc ls rest) :=
  gThrow (names := ["java/lang/RuntimeException", "java/lang/Exception"]) C hH (by decide +kernel) (by decide +kernel) tw_462 tw_17 (hatOf C xIO_1 xIO_2) xIO_3 hl d0 d3 d4 d7 hRframes hRlocals hRcells hRslots hX hc hs
end
section
abbrev cJ0_coder : ByteArray := prog_13_method_152_code
def yJ0_coder : MethodName := ⟨"java/lang/String", "coder", "()B"⟩
abbrev wJ0_coder : List Cond := .code yJ0_coder cJ0_coder 1 (some .byte) :: tg
theorem kJ0_coder : Cond.code yJ0_coder cJ0_coder 1 (some .byte) ∈ tg := tg_of 338 (by decide +kernel) rfl
theorem gJ0_coder : GoodIn tg wJ0_coder := tg_GoodIn (fun w h => (List.mem_cons.mp h).elim (fun e => e ▸ kJ0_coder) (fun h => h))
abbrev cJ0_length : ByteArray := prog_13_method_54_code
def yJ0_length : MethodName := ⟨"java/lang/String", "length", "()I"⟩
abbrev wJ0_length : List Cond := .code yJ0_length cJ0_length 1 (some .int) :: tg
theorem kJ0_length : Cond.code yJ0_length cJ0_length 1 (some .int) ∈ tg := tg_of 334 (by decide +kernel) rfl
theorem gJ0_length : GoodIn tg wJ0_length := tg_GoodIn (fun w h => (List.mem_cons.mp h).elim (fun e => e ▸ kJ0_length) (fun h => h))
theorem dJ0_coder_0 : decode cJ0_coder 0 = .ok (.getstatic 38, 3) := by decide +kernel
theorem dJ0_coder_3 : decode cJ0_coder 3 = .ok (.ifCond .eq 10, 3) := by decide +kernel
theorem dJ0_coder_6 : decode cJ0_coder 6 = .ok (.aload_n 0, 1) := by decide +kernel
theorem dJ0_coder_7 : decode cJ0_coder 7 = .ok (.getfield 15, 3) := by decide +kernel
theorem dJ0_coder_10 : decode cJ0_coder 10 = .ok (.goto 4, 3) := by decide +kernel
theorem dJ0_coder_13 : decode cJ0_coder 13 = .ok (.iconst 1, 1) := by decide +kernel
theorem dJ0_coder_14 : decode cJ0_coder 14 = .ok (.ireturn, 1) := by decide +kernel
theorem dJ0_length_0 : decode cJ0_length 0 = .ok (.aload_n 0, 1) := by decide +kernel
theorem dJ0_length_1 : decode cJ0_length 1 = .ok (.getfield 9, 3) := by decide +kernel
theorem dJ0_length_4 : decode cJ0_length 4 = .ok (.arraylength, 1) := by decide +kernel
theorem dJ0_length_5 : decode cJ0_length 5 = .ok (.aload_n 0, 1) := by decide +kernel
theorem dJ0_length_6 : decode cJ0_length 6 = .ok (.invokevirtual 335, 3) := by decide +kernel
theorem dJ0_length_9 : decode cJ0_length 9 = .ok (.ishr, 1) := by decide +kernel
theorem dJ0_length_10 : decode cJ0_length 10 = .ok (.ireturn, 1) := by decide +kernel
end
section
theorem nz_b (b : Bool) : narrow .boolean (.int (bI b)) = .int (bI b) := by cases b <;> decide
theorem fz_b (b : Bool) : fits .boolean (.int (bI b)) = true := by cases b <;> decide
theorem kObj : Cond.code objectInit ⟨#[0xb1]⟩ 1 none ∈ tg := tg_of 62 (by decide +kernel) rfl
theorem sl32 : ∀ n, n < 32 → ((nI n &&& 31).toBitVec.smod 32).toNat = n := by decide +kernel
/-- the bit r of a mask -/
theorem bitOf {x r : Nat} (hx : x < 2 ^ 31) (hr : r < 32) : nI x >>> (nI r &&& 31) &&& nI 1 = bI (x.testBit r) := by
  rw [pk_shrN hx _ r (sl32 r hr), pk_andN (Nat.lt_of_le_of_lt (Nat.div_le_self _ _) (by omega)) 1 (by decide)]
  rw [Nat.testBit_eq_decide_div_mod_eq]
  have h2 : x / 2 ^ r % 2 ^ 1 = 0 ∨ x / 2 ^ r % 2 ^ 1 = 1 := by omega
  rcases h2 with h | h
  · rw [h]; rfl
  · rw [h]; rfl
/-- the character k stands at a -/
def tk (t : Nat → Nat) (n a k : Nat) : Bool := decide (a < n) && decide (t a = k)
theorem tk_t {t : Nat → Nat} {n a k : Nat} (h1 : a < n) (h2 : t a = k) : tk t n a k = true := by simp [tk, h1, h2]
theorem tk_f {t : Nat → Nat} {n a k : Nat} (h : n ≤ a ∨ t a ≠ k) : tk t n a k = false := by
  simp only [tk, Bool.and_eq_false_iff, decide_eq_false_iff_not]; omega
theorem tk_lt {t : Nat → Nat} {n a k : Nat} (h : tk t n a k = true) : a < n := by
  simp only [tk, Bool.and_eq_true, decide_eq_true_eq] at h; exact h.1
theorem tk_eq {t : Nat → Nat} {n a k : Nat} (h : tk t n a k = true) : t a = k := by
  simp only [tk, Bool.and_eq_true, decide_eq_true_eq] at h; exact h.2
theorem kMath_max : Cond.code Lib.Math.max.name Lib.Math.max.code 2 (some .int) ∈ tg := tg_of 347 (by decide +kernel) rfl
theorem kMath_min : Cond.code Lib.Math.min.name Lib.Math.min.code 2 (some .int) ∈ tg := tg_of 350 (by decide +kernel) rfl
/-- the claim's two texts -/
def stS (i : Nat) : List Nat := if i = 0 then [65, 68, 80, 83, 76, 67, 84, 79, 72, 77, 85] else [103, 122, 110, 109]
theorem byS_all : ∀ i, i < 2 → ∀ k, k < 11 → (byS.getD i []).getD k 0 = nI ((stS i).getD k 0) := by decide +kernel
theorem lnS_all : ∀ i, i < 2 → 0 < lnS.getD i 0 ∧ lnS.getD i 0 ≤ 11 ∧ lnS.getD i 0 = (stS i).length := by decide +kernel
theorem byS_at {i k : Nat} (hi : i < 2) (hk : k < lnS.getD i 0) : (byS.getD i []).getD k 0 = nI ((stS i).getD k 0) := byS_all i hi k (by have := lnS_all i hi; omega)
theorem stS_lt : ∀ i, i < 2 → ∀ k, k < 11 → (stS i).getD k 0 < 128 := by decide +kernel
def ixL (c : Nat) : List Nat → Nat → Option Nat
  | [], _ => none
  | b :: l, k => if b = c then some k else ixL c l (k + 1)
/-- indexOf -/
def ixS (i c : Nat) : Option Nat := ixL c (stS i) 0
theorem b128 : ∀ c, c < 128 → (nI c).toInt8.toInt32 = nI c := by decide +kernel
theorem ixL_hit {i k c : Nat} (hi : i < 2) (hk : k < lnS.getD i 0) (h : (stS i).getD k 0 = c) : ixL c ((stS i).drop k) k = some k := by
  have hl := (lnS_all i hi).2.2
  have h1 : k < (stS i).length := by omega
  rw [List.drop_eq_getElem_cons h1, ixL, if_pos]
  rw [List.getD_eq_getElem?_getD, List.getElem?_eq_getElem h1] at h
  exact h
theorem ixL_miss {i k c : Nat} (hi : i < 2) (hk : k < lnS.getD i 0) (h : (stS i).getD k 0 ≠ c) : ixL c ((stS i).drop k) k = ixL c ((stS i).drop (k + 1)) (k + 1) := by
  have hl := (lnS_all i hi).2.2
  have h1 : k < (stS i).length := by omega
  rw [List.drop_eq_getElem_cons h1, ixL, if_neg]
  rw [List.getD_eq_getElem?_getD, List.getElem?_eq_getElem h1] at h
  exact h
theorem ixL_end {i k c : Nat} (hi : i < 2) (hk : lnS.getD i 0 ≤ k) : ixL c ((stS i).drop k) k = none := by
  have hl := (lnS_all i hi).2.2
  rw [List.drop_eq_nil_of_le (by omega)]; rfl
theorem ixL_lt {c : Nat} : ∀ (l : List Nat) (k y : Nat), ixL c l k = some y → y < k + l.length := by
  intro l
  induction l with
  | nil => intro k y h; cases h
  | cons b l ih =>
    intro k y h
    rw [ixL] at h
    by_cases hb : b = c
    · rw [if_pos hb] at h; cases h; simp
    · rw [if_neg hb] at h; have := ih (k + 1) y h; simp only [List.length_cons]; omega
theorem ixS_lt {i c y : Nat} (hi : i < 2) (h : ixS i c = some y) : y < 11 := by
  have h1 := ixL_lt _ _ _ h
  have h2 := lnS_all i hi
  omega
end
section
set_option maxHeartbeats 4000000 in
set_option maxRecDepth 100000 in
/-- Word(): its start -/
theorem c_Word (l : Launch) (htr : l.stackTraces = false) (D : va_G) (sz : Nat) (h : Nat)  : Ct l yX0_init wX0_init { frames := 1, cells := 0, slots := 0, locals := 12 } D ([(h, .inr (0, [.int 0, .int 0, .int 0, .int 0, .int 0, .int 0, .int 0, .int 0, .int 0, .int 0]))]) [.ref h] sz (fun v w => v = none ∧ w = [(h, .inr (0, [.int (nI 0), .int (nI 0), .int (nI 0), .int (nI 0), .int (nI 0), .int (nI 0), .int (bI false), .int (nI 0), .int (oI none), .int (oI none)]))]) (nox) := by
  refine Ct.of (cc := cX0_init) (nL := 1) (ret := none) (own := RX0) htr (by decide) rfl (Nat.le_of_ble_eq_true rfl) ?_
  intro p e s m args below meth c A C hr hK H locs hH ls hl
  have hl : lv_has ls 1 [(0, .ref h)] := hl
  refine lv_aload_n C.x C.b dX0_init_0 rfl (lv_at hl 0 rfl) ?_
  refine W.objInit C.x C.b C.ow (C.ts _ tw_37) (C.ts _ tw_24) (C.ts _ kObj) rfl (by rw [C.ml]; exact hl.1) rfl dX0_init_1 (Nat.le_of_ble_eq_true rfl) (Nat.le_of_ble_eq_true rfl) ?_
  refine W.eq (g2 := F0 m 4 ls []) rfl ?_
  refine lv_aload_n C.x C.b dX0_init_4 rfl (lv_at hl 0 rfl) ?_
  refine lv_iconst (v := nI 0) C.x C.b dX0_init_5 (by decide) ?_
  refine gPut (v := .int (nI 0)) (ws' := [(h, .inr (0, [.int 0, .int 0, .int (nI 0), .int 0, .int 0, .int 0, .int 0, .int 0, .int 0, .int 0]))]) C hK hH 0 2 tyX0 tyX0_ok nmX0 rfl rfl inX0 (by decide) tw_43 rfl rfl rfl (Nat.le_of_ble_eq_true rfl) rfl dX0_init_6 (fun H locs hH => ?_)
  refine lv_aload_n C.x C.b dX0_init_9 rfl (lv_at hl 0 rfl) ?_
  refine lv_iconst (v := -1) C.x C.b dX0_init_10 (by decide) ?_
  refine gPut (v := .int (-1)) (ws' := [(h, .inr (0, [.int 0, .int 0, .int (nI 0), .int 0, .int 0, .int 0, .int 0, .int 0, .int (-1), .int 0]))]) C hK hH 0 8 tyX0 tyX0_ok nmX0 rfl rfl inX0 (by decide) tw_56 rfl rfl rfl (Nat.le_of_ble_eq_true rfl) rfl dX0_init_11 (fun H locs hH => ?_)
  refine lv_aload_n C.x C.b dX0_init_14 rfl (lv_at hl 0 rfl) ?_
  refine lv_iconst (v := -1) C.x C.b dX0_init_15 (by decide) ?_
  refine gPut (v := .int (-1)) (ws' := [(h, .inr (0, [.int 0, .int 0, .int (nI 0), .int 0, .int 0, .int 0, .int 0, .int 0, .int (-1), .int (-1)]))]) C hK hH 0 9 tyX0 tyX0_ok nmX0 rfl rfl inX0 (by decide) tw_59 rfl rfl rfl (Nat.le_of_ble_eq_true rfl) rfl dX0_init_16 (fun H locs hH => ?_)
  exact rV C hr hH (⟨rfl, rfl⟩) (Nat.le_of_ble_eq_true rfl) (Nat.le_of_ble_eq_true rfl) dX0_init_19
set_option maxHeartbeats 4000000 in
set_option maxRecDepth 100000 in
/-- sets(r): the bit r of the targets -/
theorem c_sets (l : Launch) (htr : l.stackTraces = false) (D : va_G) (sz : Nat) (h r : Nat) (f0 f1 f2 f3 f4 f5 : Nat) (f6 : Bool) (f7 : Nat) (f8 f9 : Option Nat) (hf : f1 < 2 ^ 31) (hb : r < 32) : Ct l yX0_sets wX0_sets { frames := 0, cells := 0, slots := 0, locals := 0 } D ([(h, .inr (0, [.int (nI f0), .int (nI f1), .int (nI f2), .int (nI f3), .int (nI f4), .int (nI f5), .int (bI f6), .int (nI f7), .int (oI f8), .int (oI f9)]))]) [.ref h, .int (nI r)] sz (fun v w => (f1.testBit r = true ∧ v = some (.int (nI 1)) ∧ w = [(h, .inr (0, [.int (nI f0), .int (nI f1), .int (nI f2), .int (nI f3), .int (nI f4), .int (nI f5), .int (bI f6), .int (nI f7), .int (oI f8), .int (oI f9)]))]) ∨ (f1.testBit r = false ∧ v = some (.int (nI 0)) ∧ w = [(h, .inr (0, [.int (nI f0), .int (nI f1), .int (nI f2), .int (nI f3), .int (nI f4), .int (nI f5), .int (bI f6), .int (nI f7), .int (oI f8), .int (oI f9)]))])) (nox) := by
  refine Ct.of (cc := cX0_sets) (nL := 2) (ret := (some .boolean)) (own := RX0) htr (by decide) rfl (Nat.le_of_ble_eq_true rfl) ?_
  intro p e s m args below meth c A C hr hK H locs hH ls hl
  have hl : lv_has ls 2 [(0, .ref h), (1, .int (nI r))] := hl
  refine lv_aload_n C.x C.b dX0_sets_0 rfl (lv_at hl 0 rfl) ?_
  refine gGet (v := .int (nI f1)) C hK hH 0 1 rfl rfl inX0 (by decide) tw_40 rfl dX0_sets_1 ?_
  refine lv_iload_n C.x C.b dX0_sets_4 rfl (lv_at hl 1 rfl) ?_
  refine lv_ishr C.x C.b dX0_sets_5 ?_
  refine lv_iconst (v := nI 1) C.x C.b dX0_sets_6 (by decide) ?_
  refine lv_iand C.x C.b dX0_sets_7 ?_
  refine vt_top (y := bI (f1.testBit r)) (bitOf hf hb) ?_
  refine vb_if_eq (tgt := 15) C.x C.b dX0_sets_8 (by decide) (fun c_8 => ?_) (fun c_8 => ?_)
  · refine lv_iconst (v := nI 0) C.x C.b dX0_sets_15 (by decide) ?_
    exact rZ C hr (by decide) hH (Or.inr ⟨c_8, rfl, rfl⟩) (Nat.le_of_ble_eq_true rfl) (Nat.le_of_ble_eq_true rfl) dX0_sets_16
  · refine lv_iconst (v := nI 1) C.x C.b dX0_sets_11 (by decide) ?_
    refine lv_goto (tgt := 16) C.x C.b dX0_sets_12 (by decide) ?_
    exact rZ C hr (by decide) hH (Or.inl ⟨c_8, rfl, rfl⟩) (Nat.le_of_ble_eq_true rfl) (Nat.le_of_ble_eq_true rfl) dX0_sets_16
set_option maxHeartbeats 4000000 in
set_option maxRecDepth 100000 in
/-- does(o): noted -/
theorem c_does (l : Launch) (htr : l.stackTraces = false) (D : va_G) (sz : Nat) (h0 tx dr : Nat) (t : Nat → Nat) (n a : Nat) (f0 f1 f2 f3 f4 f5 : Nat) (f6 : Bool) (f7 : Nat) (f8 f9 : Option Nat) (o : Nat) (hn : n ≤ 40) (ha : a ≤ n) (ht : ∀ j, t j < 128) : Ct l yX1_does wX1_does { frames := 0, cells := 0, slots := 0, locals := 0 } D ([(h0, .inr (1, [.ref tx, .int (nI n), .int (nI a), .ref dr])), (tx, .inl (D.1 10, 40, .inl (fun j => nI (t j)))), (dr, .inr (0, [.int (nI f0), .int (nI f1), .int (nI f2), .int (nI f3), .int (nI f4), .int (nI f5), .int (bI f6), .int (nI f7), .int (oI f8), .int (oI f9)]))]) [.ref h0, .int (nI o)] sz (fun v w => v = some (.int (nI 1)) ∧ w = [(h0, .inr (1, [.ref tx, .int (nI n), .int (nI a), .ref dr])), (tx, .inl (D.1 10, 40, .inl (fun j => nI (t j)))), (dr, .inr (0, [.int (nI f0), .int (nI f1), .int (nI o), .int (nI f3), .int (nI f4), .int (nI f5), .int (bI f6), .int (nI f7), .int (oI f8), .int (oI f9)]))]) (nox) := by
  refine Ct.of (cc := cX1_does) (nL := 2) (ret := (some .boolean)) (own := RX1) htr (by decide) rfl (Nat.le_of_ble_eq_true rfl) ?_
  intro p e s m args below meth c A C hr hK H locs hH ls hl
  have hl : lv_has ls 2 [(0, .ref h0), (1, .int (nI o))] := hl
  refine lv_aload_n C.x C.b dX1_does_0 rfl (lv_at hl 0 rfl) ?_
  refine gGet (v := .ref dr) C hK hH 0 3 rfl rfl inX1 (by decide) tw_89 rfl dX1_does_1 ?_
  refine lv_iload_n C.x C.b dX1_does_4 rfl (lv_at hl 1 rfl) ?_
  refine gPutN (v := .int (nI o)) (ws' := [(h0, .inr (1, [.ref tx, .int (nI n), .int (nI a), .ref dr])), (tx, .inl (D.1 10, 40, .inl (fun j => nI (t j)))), (dr, .inr (0, [.int (nI f0), .int (nI f1), .int (nI o), .int (nI f3), .int (nI f4), .int (nI f5), .int (bI f6), .int (nI f7), .int (oI f8), .int (oI f9)]))]) C hK hH 2 2 tyX0 tyX0_ok nmX0 rfl rfl inX0 (by decide) (nwl_of tn_44 rfl) rfl rfl rfl (Nat.le_of_ble_eq_true rfl) rfl dX1_does_5 (fun H locs hH => ?_)
  refine lv_iconst (v := nI 1) C.x C.b dX1_does_8 (by decide) ?_
  exact rZ C hr (by decide) hH (⟨rfl, rfl⟩) (Nat.le_of_ble_eq_true rfl) (Nat.le_of_ble_eq_true rfl) dX1_does_9
set_option maxHeartbeats 4000000 in
set_option maxRecDepth 100000 in
/-- take(k): the character k is taken if it stands here -/
theorem c_take (l : Launch) (htr : l.stackTraces = false) (D : va_G) (sz : Nat) (h0 tx dr : Nat) (t : Nat → Nat) (n a : Nat) (f0 f1 f2 f3 f4 f5 : Nat) (f6 : Bool) (f7 : Nat) (f8 f9 : Option Nat) (k : Nat) (hn : n ≤ 40) (ha : a ≤ n) (ht : ∀ j, t j < 128) (hk : k < 128) : Ct l yX1_take wX1_take { frames := 0, cells := 0, slots := 0, locals := 0 } D ([(h0, .inr (1, [.ref tx, .int (nI n), .int (nI a), .ref dr])), (tx, .inl (D.1 10, 40, .inl (fun j => nI (t j)))), (dr, .inr (0, [.int (nI f0), .int (nI f1), .int (nI f2), .int (nI f3), .int (nI f4), .int (nI f5), .int (bI f6), .int (nI f7), .int (oI f8), .int (oI f9)]))]) [.ref h0, .int (nI k)] sz (fun v w => (tk t n a k = true ∧ a < n ∧ v = some (.int (nI 1)) ∧ w = [(h0, .inr (1, [.ref tx, .int (nI n), .int (nI (a + 1)), .ref dr])), (tx, .inl (D.1 10, 40, .inl (fun j => nI (t j)))), (dr, .inr (0, [.int (nI f0), .int (nI f1), .int (nI f2), .int (nI f3), .int (nI f4), .int (nI f5), .int (bI f6), .int (nI f7), .int (oI f8), .int (oI f9)]))]) ∨ (tk t n a k = false ∧ v = some (.int (nI 0)) ∧ w = [(h0, .inr (1, [.ref tx, .int (nI n), .int (nI a), .ref dr])), (tx, .inl (D.1 10, 40, .inl (fun j => nI (t j)))), (dr, .inr (0, [.int (nI f0), .int (nI f1), .int (nI f2), .int (nI f3), .int (nI f4), .int (nI f5), .int (bI f6), .int (nI f7), .int (oI f8), .int (oI f9)]))])) (nox) := by
  refine Ct.of (cc := cX1_take) (nL := 2) (ret := (some .boolean)) (own := RX1) htr (by decide) rfl (Nat.le_of_ble_eq_true rfl) ?_
  intro p e s m args below meth c A C hr hK H locs hH ls hl
  have hl : lv_has ls 2 [(0, .ref h0), (1, .int (nI k))] := hl
  refine lv_aload_n C.x C.b dX1_take_0 rfl (lv_at hl 0 rfl) ?_
  refine gGet (v := .int (nI a)) C hK hH 0 2 rfl rfl inX1 (by decide) tw_87 rfl dX1_take_1 ?_
  refine lv_aload_n C.x C.b dX1_take_4 rfl (lv_at hl 0 rfl) ?_
  refine gGet (v := .int (nI n)) C hK hH 0 1 rfl rfl inX1 (by decide) tw_85 rfl dX1_take_5 ?_
  refine vn_icmp_ge (tgt := 24) C.x C.b dX1_take_8 (by decide) (by omega) (by omega) (fun c_8 => ?_) (fun c_8 => ?_)
  · refine lv_iconst (v := nI 0) C.x C.b dX1_take_24 (by decide) ?_
    exact rZ C hr (by decide) hH (Or.inr ⟨tk_f (by omega), rfl, rfl⟩) (Nat.le_of_ble_eq_true rfl) (Nat.le_of_ble_eq_true rfl) dX1_take_25
  · refine lv_aload_n C.x C.b dX1_take_11 rfl (lv_at hl 0 rfl) ?_
    refine gGet (v := .ref tx) C hK hH 0 0 rfl rfl inX1 (by decide) tw_84 rfl dX1_take_12 ?_
    refine lv_aload_n C.x C.b dX1_take_15 rfl (lv_at hl 0 rfl) ?_
    refine gGet (v := .int (nI a)) C hK hH 0 2 rfl rfl inX1 (by decide) tw_87 rfl dX1_take_16 ?_
    have hf_19 := ht a
    refine gCald (v := (nI (t a))) C hK hH 1 rfl (by omega) (by decide) dX1_take_19 rfl ?_
    refine lv_iload_n C.x C.b dX1_take_20 rfl (lv_at hl 1 rfl) ?_
    refine vn_icmp_eq (tgt := 26) C.x C.b dX1_take_21 (by decide) (by omega) (by omega) (fun c_21 => ?_) (fun c_21 => ?_)
    · refine lv_aload_n C.x C.b dX1_take_26 rfl (lv_at hl 0 rfl) ?_
      refine lv_dup C.x C.b dX1_take_27 rfl ?_
      refine gGet (v := .int (nI a)) C hK hH 0 2 rfl rfl inX1 (by decide) tw_87 rfl dX1_take_28 ?_
      refine lv_iconst (v := nI 1) C.x C.b dX1_take_31 (by decide) ?_
      refine lv_iadd C.x C.b dX1_take_32 ?_
      refine vt_top (nI_add _ _) ?_
      refine gPut (v := .int (nI (a + 1))) (ws' := [(h0, .inr (1, [.ref tx, .int (nI n), .int (nI (a + 1)), .ref dr])), (tx, .inl (D.1 10, 40, .inl (fun j => nI (t j)))), (dr, .inr (0, [.int (nI f0), .int (nI f1), .int (nI f2), .int (nI f3), .int (nI f4), .int (nI f5), .int (bI f6), .int (nI f7), .int (oI f8), .int (oI f9)]))]) C hK hH 0 2 tyX1 tyX1_ok nmX1 rfl rfl inX1 (by decide) tw_87 rfl rfl rfl (Nat.le_of_ble_eq_true rfl) rfl dX1_take_33 (fun H locs hH => ?_)
      refine lv_iconst (v := nI 1) C.x C.b dX1_take_36 (by decide) ?_
      exact rZ C hr (by decide) hH (Or.inl ⟨tk_t (by omega) (by omega), by omega, rfl, rfl⟩) (Nat.le_of_ble_eq_true rfl) (Nat.le_of_ble_eq_true rfl) dX1_take_37
    · refine lv_iconst (v := nI 0) C.x C.b dX1_take_24 (by decide) ?_
      exact rZ C hr (by decide) hH (Or.inr ⟨tk_f (by omega), rfl, rfl⟩) (Nat.le_of_ble_eq_true rfl) (Nat.le_of_ble_eq_true rfl) dX1_take_25
end
section
set_option maxHeartbeats 4000000 in
set_option maxRecDepth 100000 in
theorem c_coder (l : Launch) (htr : l.stackTraces = false) (D : va_G) (sz : Nat) (i : Nat) (hi : i < 2) : Ct l yJ0_coder wJ0_coder { frames := 0, cells := 0, slots := 0, locals := 0 } D ([]) [.ref (D.2 20 i)] sz (fun v w => v = some (.int (nI 0)) ∧ w = []) (nox) := by
  refine Ct.of (cc := cJ0_coder) (nL := 1) (ret := (some .byte)) (own := "java/lang/String") htr (by decide) rfl (Nat.le_of_ble_eq_true rfl) ?_
  intro p e s m args below meth c A C hr hK H locs hH ls hl
  have hl : lv_has ls 1 [(0, .ref (D.2 20 i))] := hl
  refine va_gets C.x C.b C.Z.2.2.2 hH.2.2 C.ow (C.ts _ tw_292) (fun _ h => h) dJ0_coder_0 ?_
  refine vt_top (y := nI 1) rfl ?_
  refine vn_if_eq (tgt := 13) C.x C.b dJ0_coder_3 (by decide) (by omega) (fun q => absurd q (by decide)) (fun _ => ?_)
  refine lv_aload_n C.x C.b dJ0_coder_6 rfl (lv_at hl 0 rfl) ?_
  refine vk_getf (v := .int 0) C.x C.b (C.Z.2.2.1.1 i hi).2.1 hH.2.2 C.ow (C.ts _ tw_739) (fun _ h => h) dJ0_coder_7 ?_
  refine vt_top (y := nI 0) rfl ?_
  refine lv_goto (tgt := 14) C.x C.b dJ0_coder_10 (by decide) ?_
  exact rZ C hr (by decide) hH (⟨rfl, rfl⟩) (Nat.le_of_ble_eq_true rfl) (Nat.le_of_ble_eq_true rfl) dJ0_coder_14
set_option maxHeartbeats 4000000 in
set_option maxRecDepth 100000 in
theorem c_isLatin1 (l : Launch) (htr : l.stackTraces = false) (D : va_G) (sz : Nat) (i : Nat) (hi : i < 2) : Ct l yJ0_isLatin1 wJ0_isLatin1 { frames := 0, cells := 0, slots := 0, locals := 0 } D ([]) [.ref (D.2 20 i)] sz (fun v w => v = some (.int (nI 1)) ∧ w = []) (nox) := by
  refine Ct.of (cc := cJ0_isLatin1) (nL := 1) (ret := (some .boolean)) (own := "java/lang/String") htr (by decide) rfl (Nat.le_of_ble_eq_true rfl) ?_
  intro p e s m args below meth c A C hr hK H locs hH ls hl
  have hl : lv_has ls 1 [(0, .ref (D.2 20 i))] := hl
  refine va_gets C.x C.b C.Z.2.2.2 hH.2.2 C.ow (C.ts _ tw_292) (fun _ h => h) dJ0_isLatin1_0 ?_
  refine vt_top (y := nI 1) rfl ?_
  refine vn_if_eq (tgt := 17) C.x C.b dJ0_isLatin1_3 (by decide) (by omega) (fun q => absurd q (by decide)) (fun _ => ?_)
  refine lv_aload_n C.x C.b dJ0_isLatin1_6 rfl (lv_at hl 0 rfl) ?_
  refine vk_getf (v := .int 0) C.x C.b (C.Z.2.2.1.1 i hi).2.1 hH.2.2 C.ow (C.ts _ tw_739) (fun _ h => h) dJ0_isLatin1_7 ?_
  refine vt_top (y := nI 0) rfl ?_
  refine vn_if_ne (tgt := 17) C.x C.b dJ0_isLatin1_10 (by decide) (by omega) (fun q => absurd q (by decide)) (fun _ => ?_)
  refine lv_iconst (v := nI 1) C.x C.b dJ0_isLatin1_13 (by decide) ?_
  refine lv_goto (tgt := 18) C.x C.b dJ0_isLatin1_14 (by decide) ?_
  exact rZ C hr (by decide) hH (⟨rfl, rfl⟩) (Nat.le_of_ble_eq_true rfl) (Nat.le_of_ble_eq_true rfl) dJ0_isLatin1_18
set_option maxHeartbeats 4000000 in
set_option maxRecDepth 100000 in
theorem c_length (l : Launch) (htr : l.stackTraces = false) (D : va_G) (sz : Nat) (i : Nat) (hi : i < 2) : Ct l yJ0_length wJ0_length { frames := 1, cells := 0, slots := 0, locals := 20 } D ([]) [.ref (D.2 20 i)] sz (fun v w => v = some (.int (nI (lnS.getD i 0))) ∧ w = []) (nox) := by
  refine Ct.of (cc := cJ0_length) (nL := 1) (ret := (some .int)) (own := "java/lang/String") htr (by decide) rfl (Nat.le_of_ble_eq_true rfl) ?_
  intro p e s m args below meth c A C hr hK H locs hH ls hl
  have hl : lv_has ls 1 [(0, .ref (D.2 20 i))] := hl
  refine lv_aload_n C.x C.b dJ0_length_0 rfl (lv_at hl 0 rfl) ?_
  refine vk_getf (v := .ref (D.2 21 i)) C.x C.b (C.Z.2.2.1.1 i hi).2.2.1 hH.2.2 C.ow (C.ts _ tw_740) (fun _ h => h) dJ0_length_1 ?_
  refine va_tlen (v := (nI (lnS.getD i 0))) C.x C.b (C.Z.2.2.1.1 i hi).2.2.2 hH.2.2 rfl dJ0_length_4 ?_
  refine lv_aload_n C.x C.b dJ0_length_5 rfl (lv_at hl 0 rfl) ?_
  refine kVr (As := []) (isC := []) (isR := []) (wr := []) C hK hH (c_coder l htr D H.size i hi) ⟨rfl, rfl, rfl, rfl, by decide⟩ (vk_recv C.Z.2.2.1 (i := i) hi hH.2.2) tw_298 tw_299 tw_300 tw_10 kJ0_coder ⟨by decide +kernel, by decide +kernel, (by decide +kernel : (parseMethodDescriptor yJ0_coder.desc).map (fun d => d.parameters.length) = some 0)⟩ ⟨(Nat.le_of_ble_eq_true rfl), (Nat.le_of_ble_eq_true rfl)⟩ hl.1 (Nat.le_of_ble_eq_true rfl) dJ0_length_6 ⟨(Nat.le_of_ble_eq_true rfl), (Nat.le_of_ble_eq_true rfl)⟩ (fun v9 w9 H locs hN hH => ?_) (fun _ _ _ _ _ _ h => False.elim h)
  obtain ⟨rfl, rfl⟩ := hN
  have hH : Hp D A s ([]) H locs := hH
  refine W.eq (g2 := F0 m 9 ls [.int (nI 0), .int (nI (lnS.getD i 0))]) rfl ?_
  refine lv_ishr C.x C.b dJ0_length_9 ?_
  refine vt_top (y := nI (lnS.getD i 0)) (sb_shr0 _) ?_
  exact rI C hr hH (⟨rfl, rfl⟩) (Nat.le_of_ble_eq_true rfl) (Nat.le_of_ble_eq_true rfl) dJ0_length_10
set_option maxHeartbeats 4000000 in
set_option maxRecDepth 100000 in
theorem c_canEncode (l : Launch) (htr : l.stackTraces = false) (D : va_G) (sz : Nat) (ch : Nat) (hc : ch < 128) : Ct l yJ1_canEncode wJ1_canEncode { frames := 0, cells := 0, slots := 0, locals := 0 } D ([]) [.int (nI ch)] sz (fun v w => v = some (.int (nI 1)) ∧ w = []) (nox) := by
  refine Ct.of (cc := cJ1_canEncode) (nL := 1) (ret := (some .boolean)) (own := "java/lang/StringLatin1") htr (by decide) rfl (Nat.le_of_ble_eq_true rfl) ?_
  intro p e s m args below meth c A C hr hK H locs hH ls hl
  have hl : lv_has ls 1 [(0, .int (nI ch))] := hl
  refine lv_iload_n C.x C.b dJ1_canEncode_0 rfl (lv_at hl 0 rfl) ?_
  refine vn_if_lt (tgt := 15) C.x C.b dJ1_canEncode_1 (by decide) (by omega) ?_
  refine lv_iload_n C.x C.b dJ1_canEncode_4 rfl (lv_at hl 0 rfl) ?_
  refine lv_sipush (v := nI 255) C.x C.b dJ1_canEncode_5 (by decide) ?_
  refine vn_icmp_gt (tgt := 15) C.x C.b dJ1_canEncode_8 (by decide) (by omega) (by omega) (fun c_8 => ?_) (fun c_8 => ?_)
  · exact absurd c_8 (by omega)
  · refine lv_iconst (v := nI 1) C.x C.b dJ1_canEncode_11 (by decide) ?_
    refine lv_goto (tgt := 16) C.x C.b dJ1_canEncode_12 (by decide) ?_
    exact rZ C hr (by decide) hH (⟨rfl, rfl⟩) (Nat.le_of_ble_eq_true rfl) (Nat.le_of_ble_eq_true rfl) dJ1_canEncode_16
set_option maxHeartbeats 4000000 in
set_option maxRecDepth 100000 in
theorem c_indexOfChar (l : Launch) (htr : l.stackTraces = false) (D : va_G) (sz : Nat) (i ch : Nat) (hi : i < 2) (hc : ch < 128) : Ct l yJ1_indexOfChar wJ1_indexOfChar { frames := 0, cells := 0, slots := 0, locals := 0 } D ([]) [.ref (D.2 21 i), .int (nI ch), .int (nI 0), .int (nI (lnS.getD i 0))] sz (fun v w => v = some (.int (oI (ixS i ch))) ∧ w = []) (nox) := by
  refine Ct.of (cc := cJ1_indexOfChar) (nL := 6) (ret := (some .int)) (own := "java/lang/StringLatin1") htr (by decide) rfl (Nat.le_of_ble_eq_true rfl) ?_
  intro p e s m args below meth c A C hr hK H locs hH ls hl
  have hl : lv_has ls 6 [(0, .ref (D.2 21 i)), (1, .int (nI ch)), (2, .int (nI 0)), (3, .int (nI (lnS.getD i 0)))] := hl
  refine lv_iload_n C.x C.b dJ1_indexOfChar_0 rfl (lv_at hl 1 rfl) ?_
  refine lv_i2b C.x C.b dJ1_indexOfChar_1 rfl ?_
  refine vt_top (y := nI ch) (b128 ch hc) ?_
  refine lv_istore (lv' := [(4, .int (nI ch)), (0, .ref (D.2 21 i)), (1, .int (nI ch)), (2, .int (nI 0)), (3, .int (nI (lnS.getD i 0)))]) C.x C.b dJ1_indexOfChar_2 hl (by decide) rfl (fun ls hl => ?_)
  refine lv_iload_n C.x C.b dJ1_indexOfChar_4 rfl (lv_at hl 3 rfl) ?_
  refine lv_istore (lv' := [(5, .int (nI 0)), (4, .int (nI ch)), (0, .ref (D.2 21 i)), (1, .int (nI ch)), (2, .int (nI 0)), (3, .int (nI (lnS.getD i 0)))]) C.x C.b dJ1_indexOfChar_5 hl (by decide) rfl (fun ls hl => ?_)
  have hln := lnS_all i hi
  have L_7 : ∀ (fuel : Nat) (k : Nat) (hk1 : k ≤ lnS.getD i 0) (hk2 : ixL ch ((stS i).drop k) k = ixS i ch), lnS.getD i 0 - k < fuel → ∀ (H : Heap) (locs : List Loc), Hp D A s ([]) H locs → ∀ ls : Array Slot, lv_has ls 6 [(5, .int (nI k)), (4, .int (nI ch)), (0, .ref (D.2 21 i)), (1, .int (nI ch)), (2, .int (nI 0)), (3, .int (nI (lnS.getD i 0)))] → W p l e { frames := 0, cells := 0, slots := 0, locals := 0 } s m args below meth c H locs 0 0 (Qf below args s D A (fun v w => v = some (.int (oI (ixS i ch))) ∧ w = []) (nox) { frames := 0, cells := 0, slots := 0, locals := 0 }) (F0 m 7 ls []) := by
    intro fuel
    induction fuel with
    | zero => intro k hk1 hk2 hm; exact absurd hm (Nat.not_lt_zero _)
    | succ fuel ih =>
      intro k hk1 hk2 hm H locs hH ls hl
      refine lv_iload C.x C.b dJ1_indexOfChar_7 (lv_at hl 0 rfl) ?_
      refine lv_iload_n C.x C.b dJ1_indexOfChar_9 rfl (lv_at hl 5 rfl) ?_
      refine vn_icmp_ge (tgt := 31) C.x C.b dJ1_indexOfChar_10 (by decide) (by omega) (by omega) (fun c_10 => ?_) (fun c_10 => ?_)
      · refine lv_iconst (v := -1) C.x C.b dJ1_indexOfChar_31 (by decide) ?_
        exact rI C hr hH (⟨by rw [← hk2, ixL_end hi (by omega)]; rfl, rfl⟩) (Nat.le_of_ble_eq_true rfl) (Nat.le_of_ble_eq_true rfl) dJ1_indexOfChar_32
      · refine lv_aload_n C.x C.b dJ1_indexOfChar_13 rfl (lv_at hl 2 rfl) ?_
        refine lv_iload C.x C.b dJ1_indexOfChar_14 (lv_at hl 0 rfl) ?_
        refine va_tb (i := nI k) (v := .int (nI ((stS i).getD k 0))) C.x C.b (C.Z.2.2.1.1 i hi).2.2.2 hH.2.2 (vp_in_nI (by omega) (by omega)) (by rw [nI_clamp (by omega)]; exact congrArg Value.int (byS_at hi (by omega))) dJ1_indexOfChar_16 ?_
        refine lv_iload C.x C.b dJ1_indexOfChar_17 (lv_at hl 1 rfl) ?_
        have hb9 := stS_lt i hi k (by omega)
        refine vn_icmp_ne (tgt := 25) C.x C.b dJ1_indexOfChar_19 (by decide) (by omega) (by omega) (fun c_19 => ?_) (fun c_19 => ?_)
        · refine lv_iinc (v := (nI (k + 1))) (lv' := [(5, .int (nI (k + 1))), (4, .int (nI ch)), (0, .ref (D.2 21 i)), (1, .int (nI ch)), (2, .int (nI 0)), (3, .int (nI (lnS.getD i 0)))]) C.x C.b dJ1_indexOfChar_25 hl (k := 0) rfl (by rw [show Int32.ofInt 1 = nI 1 from by decide, nI_add]) (by decide) rfl (fun ls hl => ?_)
          refine lv_goto (tgt := 7) C.x C.b dJ1_indexOfChar_28 (by decide) ?_
          exact ih (k + 1) (by omega) (by rw [← hk2]; exact (ixL_miss hi (by omega) (by omega)).symm) (by omega) _ _ hH ls (lv_sub hl [0, 1, 2, 3, 4, 5] rfl)
        · refine lv_iload C.x C.b dJ1_indexOfChar_22 (lv_at hl 0 rfl) ?_
          exact rI C hr hH (⟨by rw [← hk2, ixL_hit hi (by omega) (by omega)]; rfl, rfl⟩) (Nat.le_of_ble_eq_true rfl) (Nat.le_of_ble_eq_true rfl) dJ1_indexOfChar_24
  exact L_7 _ 0 (Nat.zero_le _) rfl (Nat.lt_succ_self _) _ _ hH ls (lv_sub hl [0, 1, 2, 3, 4, 5] rfl)
set_option maxHeartbeats 4000000 in
set_option maxRecDepth 100000 in
theorem c_J1indexOf (l : Launch) (htr : l.stackTraces = false) (D : va_G) (sz : Nat) (i ch : Nat) (hi : i < 2) (hc : ch < 128) : Ct l yJ1_indexOf wJ1_indexOf { frames := 1, cells := 0, slots := 0, locals := 25 } D ([]) [.ref (D.2 21 i), .int (nI ch), .int (nI 0), .int (nI (lnS.getD i 0))] sz (fun v w => v = some (.int (oI (ixS i ch))) ∧ w = []) (nox) := by
  refine Ct.of (cc := cJ1_indexOf) (nL := 4) (ret := (some .int)) (own := "java/lang/StringLatin1") htr (by decide) rfl (Nat.le_of_ble_eq_true rfl) ?_
  intro p e s m args below meth c A C hr hK H locs hH ls hl
  have hl : lv_has ls 4 [(0, .ref (D.2 21 i)), (1, .int (nI ch)), (2, .int (nI 0)), (3, .int (nI (lnS.getD i 0)))] := hl
  refine lv_iload_n C.x C.b dJ1_indexOf_0 rfl (lv_at hl 1 rfl) ?_
  refine kS (As := [.int (nI ch)]) (isC := []) (isR := []) (wr := []) C hK hH (c_canEncode l htr D H.size ch hc) ⟨rfl, rfl, rfl, rfl, by decide⟩ tw_305 tw_306 tw_11 kJ1_canEncode ⟨by decide +kernel, by decide +kernel, (by decide +kernel : (parseMethodDescriptor yJ1_canEncode.desc).map (fun d => d.parameters.length) = some 1)⟩ ⟨(Nat.le_of_ble_eq_true rfl), (Nat.le_of_ble_eq_true rfl)⟩ hl.1 (Nat.le_of_ble_eq_true rfl) dJ1_indexOf_1 ⟨(Nat.le_of_ble_eq_true rfl), (Nat.le_of_ble_eq_true rfl)⟩ (fun v9 w9 H locs hN hH => ?_) (fun _ _ _ _ _ _ h => False.elim h)
  obtain ⟨rfl, rfl⟩ := hN
  have hH : Hp D A s ([]) H locs := hH
  refine W.eq (g2 := F0 m 4 ls [.int (nI 1)]) rfl ?_
  refine vn_if_ne (tgt := 9) C.x C.b dJ1_indexOf_4 (by decide) (by omega) (fun _ => ?_) (fun q => absurd q (by decide))
  refine lv_iload_n C.x C.b dJ1_indexOf_9 rfl (lv_at hl 2 rfl) ?_
  refine lv_iconst (v := nI 0) C.x C.b dJ1_indexOf_10 (by decide) ?_
  refine va_mmax C.x C.b (C.ml.trans hl.1.symm) C.ow (C.ts _ tw_308) (C.ts _ tw_309) (C.ts _ tw_12) (C.ts _ kMath_max) (Nat.le_of_ble_eq_true rfl) (Nat.le_of_ble_eq_true rfl) (Nat.le_of_ble_eq_true rfl) (Nat.le_of_ble_eq_true rfl) dJ1_indexOf_11 ?_
  refine vt_top (y := nI 0) (by decide) ?_
  refine lv_istore_n (lv' := [(2, .int (nI 0)), (0, .ref (D.2 21 i)), (1, .int (nI ch)), (3, .int (nI (lnS.getD i 0)))]) C.x C.b dJ1_indexOf_14 rfl hl (by decide) rfl (fun ls hl => ?_)
  refine lv_iload_n C.x C.b dJ1_indexOf_15 rfl (lv_at hl 3 rfl) ?_
  refine lv_aload_n C.x C.b dJ1_indexOf_16 rfl (lv_at hl 1 rfl) ?_
  refine va_tlen (v := (nI (lnS.getD i 0))) C.x C.b (C.Z.2.2.1.1 i hi).2.2.2 hH.2.2 rfl dJ1_indexOf_17 ?_
  refine va_mmin C.x C.b (C.ml.trans hl.1.symm) C.ow (C.ts _ tw_311) (C.ts _ tw_312) (C.ts _ tw_12) (C.ts _ kMath_min) (Nat.le_of_ble_eq_true rfl) (Nat.le_of_ble_eq_true rfl) (Nat.le_of_ble_eq_true rfl) (Nat.le_of_ble_eq_true rfl) dJ1_indexOf_18 ?_
  refine vt_top (y := nI (lnS.getD i 0)) (ite_self _) ?_
  refine lv_istore_n (lv' := [(3, .int (nI (lnS.getD i 0))), (2, .int (nI 0)), (0, .ref (D.2 21 i)), (1, .int (nI ch))]) C.x C.b dJ1_indexOf_21 rfl hl (by decide) rfl (fun ls hl => ?_)
  have hln := lnS_all i hi
  refine lv_iload_n C.x C.b dJ1_indexOf_22 rfl (lv_at hl 1 rfl) ?_
  refine lv_iload_n C.x C.b dJ1_indexOf_23 rfl (lv_at hl 0 rfl) ?_
  refine vn_icmp_lt (tgt := 29) C.x C.b dJ1_indexOf_24 (by decide) (by omega) (by omega) (fun c_24 => ?_) (fun c_24 => ?_)
  · refine lv_aload_n C.x C.b dJ1_indexOf_29 rfl (lv_at hl 2 rfl) ?_
    refine lv_iload_n C.x C.b dJ1_indexOf_30 rfl (lv_at hl 3 rfl) ?_
    refine lv_iload_n C.x C.b dJ1_indexOf_31 rfl (lv_at hl 1 rfl) ?_
    refine lv_iload_n C.x C.b dJ1_indexOf_32 rfl (lv_at hl 0 rfl) ?_
    refine kS (As := [.ref (D.2 21 i), .int (nI ch), .int (nI 0), .int (nI (lnS.getD i 0))]) (isC := []) (isR := []) (wr := []) C hK hH (c_indexOfChar l htr D H.size i ch hi hc) ⟨rfl, rfl, rfl, rfl, by decide⟩ tw_314 tw_315 tw_11 kJ1_indexOfChar ⟨by decide +kernel, by decide +kernel, (by decide +kernel : (parseMethodDescriptor yJ1_indexOfChar.desc).map (fun d => d.parameters.length) = some 4)⟩ ⟨(Nat.le_of_ble_eq_true rfl), (Nat.le_of_ble_eq_true rfl)⟩ hl.1 (Nat.le_of_ble_eq_true rfl) dJ1_indexOf_33 ⟨(Nat.le_of_ble_eq_true rfl), (Nat.le_of_ble_eq_true rfl)⟩ (fun v9 w9 H locs hN hH => ?_) (fun _ _ _ _ _ _ h => False.elim h)
    obtain ⟨rfl, rfl⟩ := hN
    have hH : Hp D A s ([]) H locs := hH
    refine W.eq (g2 := F0 m 36 ls [.int (oI (ixS i ch))]) rfl ?_
    exact rI C hr hH (⟨rfl, rfl⟩) (Nat.le_of_ble_eq_true rfl) (Nat.le_of_ble_eq_true rfl) dJ1_indexOf_36
  · exact absurd c_24 (by omega)
set_option maxHeartbeats 4000000 in
set_option maxRecDepth 100000 in
theorem c_indexOf2 (l : Launch) (htr : l.stackTraces = false) (D : va_G) (sz : Nat) (i ch : Nat) (hi : i < 2) (hc : ch < 128) : Ct l yJ0_indexOf2 wJ0_indexOf2 { frames := 2, cells := 0, slots := 0, locals := 48 } D ([]) [.ref (D.2 20 i), .int (nI ch), .int (nI 0)] sz (fun v w => v = some (.int (oI (ixS i ch))) ∧ w = []) (nox) := by
  refine Ct.of (cc := cJ0_indexOf2) (nL := 3) (ret := (some .int)) (own := "java/lang/String") htr (by decide) rfl (Nat.le_of_ble_eq_true rfl) ?_
  intro p e s m args below meth c A C hr hK H locs hH ls hl
  have hl : lv_has ls 3 [(0, .ref (D.2 20 i)), (1, .int (nI ch)), (2, .int (nI 0))] := hl
  refine lv_aload_n C.x C.b dJ0_indexOf2_0 rfl (lv_at hl 0 rfl) ?_
  refine kVr (As := []) (isC := []) (isR := []) (wr := []) C hK hH (c_isLatin1 l htr D H.size i hi) ⟨rfl, rfl, rfl, rfl, by decide⟩ (vk_recv C.Z.2.2.1 (i := i) hi hH.2.2) tw_288 tw_289 tw_290 tw_10 kJ0_isLatin1 ⟨by decide +kernel, by decide +kernel, (by decide +kernel : (parseMethodDescriptor yJ0_isLatin1.desc).map (fun d => d.parameters.length) = some 0)⟩ ⟨(Nat.le_of_ble_eq_true rfl), (Nat.le_of_ble_eq_true rfl)⟩ hl.1 (Nat.le_of_ble_eq_true rfl) dJ0_indexOf2_1 ⟨(Nat.le_of_ble_eq_true rfl), (Nat.le_of_ble_eq_true rfl)⟩ (fun v9 w9 H locs hN hH => ?_) (fun _ _ _ _ _ _ h => False.elim h)
  obtain ⟨rfl, rfl⟩ := hN
  have hH : Hp D A s ([]) H locs := hH
  refine W.eq (g2 := F0 m 4 ls [.int (nI 1)]) rfl ?_
  refine vn_if_eq (tgt := 23) C.x C.b dJ0_indexOf2_4 (by decide) (by omega) (fun q => absurd q (by decide)) (fun _ => ?_)
  refine lv_aload_n C.x C.b dJ0_indexOf2_7 rfl (lv_at hl 0 rfl) ?_
  refine vk_getf (v := .ref (D.2 21 i)) C.x C.b (C.Z.2.2.1.1 i hi).2.2.1 hH.2.2 C.ow (C.ts _ tw_740) (fun _ h => h) dJ0_indexOf2_8 ?_
  refine lv_iload_n C.x C.b dJ0_indexOf2_11 rfl (lv_at hl 1 rfl) ?_
  refine lv_iload_n C.x C.b dJ0_indexOf2_12 rfl (lv_at hl 2 rfl) ?_
  refine lv_aload_n C.x C.b dJ0_indexOf2_13 rfl (lv_at hl 0 rfl) ?_
  refine kVr (As := []) (isC := []) (isR := []) (wr := []) C hK hH (c_length l htr D H.size i hi) ⟨rfl, rfl, rfl, rfl, by decide⟩ (vk_recv C.Z.2.2.1 (i := i) hi hH.2.2) tw_294 tw_295 tw_296 tw_10 kJ0_length ⟨by decide +kernel, by decide +kernel, (by decide +kernel : (parseMethodDescriptor yJ0_length.desc).map (fun d => d.parameters.length) = some 0)⟩ ⟨(Nat.le_of_ble_eq_true rfl), (Nat.le_of_ble_eq_true rfl)⟩ hl.1 (Nat.le_of_ble_eq_true rfl) dJ0_indexOf2_14 ⟨(Nat.le_of_ble_eq_true rfl), (Nat.le_of_ble_eq_true rfl)⟩ (fun v9 w9 H locs hN hH => ?_) (fun _ _ _ _ _ _ h => False.elim h)
  obtain ⟨rfl, rfl⟩ := hN
  have hH : Hp D A s ([]) H locs := hH
  refine W.eq (g2 := F0 m 17 ls [.int (nI (lnS.getD i 0)), .int (nI 0), .int (nI ch), .ref (D.2 21 i)]) rfl ?_
  refine kS (As := [.ref (D.2 21 i), .int (nI ch), .int (nI 0), .int (nI (lnS.getD i 0))]) (isC := []) (isR := []) (wr := []) C hK hH (c_J1indexOf l htr D H.size i ch hi hc) ⟨rfl, rfl, rfl, rfl, by decide⟩ tw_302 tw_303 tw_11 kJ1_indexOf ⟨by decide +kernel, by decide +kernel, (by decide +kernel : (parseMethodDescriptor yJ1_indexOf.desc).map (fun d => d.parameters.length) = some 4)⟩ ⟨(Nat.le_of_ble_eq_true rfl), (Nat.le_of_ble_eq_true rfl)⟩ hl.1 (Nat.le_of_ble_eq_true rfl) dJ0_indexOf2_17 ⟨(Nat.le_of_ble_eq_true rfl), (Nat.le_of_ble_eq_true rfl)⟩ (fun v9 w9 H locs hN hH => ?_) (fun _ _ _ _ _ _ h => False.elim h)
  obtain ⟨rfl, rfl⟩ := hN
  have hH : Hp D A s ([]) H locs := hH
  refine W.eq (g2 := F0 m 20 ls [.int (oI (ixS i ch))]) rfl ?_
  refine lv_goto (tgt := 36) C.x C.b dJ0_indexOf2_20 (by decide) ?_
  exact rI C hr hH (⟨rfl, rfl⟩) (Nat.le_of_ble_eq_true rfl) (Nat.le_of_ble_eq_true rfl) dJ0_indexOf2_36
set_option maxHeartbeats 4000000 in
set_option maxRecDepth 100000 in
theorem c_indexOf (l : Launch) (htr : l.stackTraces = false) (D : va_G) (sz : Nat) (i ch : Nat) (hi : i < 2) (hc : ch < 128) : Ct l yJ0_indexOf wJ0_indexOf { frames := 3, cells := 0, slots := 0, locals := 70 } D ([]) [.ref (D.2 20 i), .int (nI ch)] sz (fun v w => v = some (.int (oI (ixS i ch))) ∧ w = []) (nox) := by
  refine Ct.of (cc := cJ0_indexOf) (nL := 2) (ret := (some .int)) (own := "java/lang/String") htr (by decide) rfl (Nat.le_of_ble_eq_true rfl) ?_
  intro p e s m args below meth c A C hr hK H locs hH ls hl
  have hl : lv_has ls 2 [(0, .ref (D.2 20 i)), (1, .int (nI ch))] := hl
  refine lv_aload_n C.x C.b dJ0_indexOf_0 rfl (lv_at hl 0 rfl) ?_
  refine lv_iload_n C.x C.b dJ0_indexOf_1 rfl (lv_at hl 1 rfl) ?_
  refine lv_iconst (v := nI 0) C.x C.b dJ0_indexOf_2 (by decide) ?_
  refine kVr (As := [.int (nI ch), .int (nI 0)]) (isC := []) (isR := []) (wr := []) C hK hH (c_indexOf2 l htr D H.size i ch hi hc) ⟨rfl, rfl, rfl, rfl, by decide⟩ (vk_recv C.Z.2.2.1 (i := i) hi hH.2.2) tw_284 tw_285 tw_286 tw_10 kJ0_indexOf2 ⟨by decide +kernel, by decide +kernel, (by decide +kernel : (parseMethodDescriptor yJ0_indexOf2.desc).map (fun d => d.parameters.length) = some 2)⟩ ⟨(Nat.le_of_ble_eq_true rfl), (Nat.le_of_ble_eq_true rfl)⟩ hl.1 (Nat.le_of_ble_eq_true rfl) dJ0_indexOf_3 ⟨(Nat.le_of_ble_eq_true rfl), (Nat.le_of_ble_eq_true rfl)⟩ (fun v9 w9 H locs hN hH => ?_) (fun _ _ _ _ _ _ h => False.elim h)
  obtain ⟨rfl, rfl⟩ := hN
  have hH : Hp D A s ([]) H locs := hH
  refine W.eq (g2 := F0 m 6 ls [.int (oI (ixS i ch))]) rfl ?_
  exact rI C hr hH (⟨rfl, rfl⟩) (Nat.le_of_ble_eq_true rfl) (Nat.le_of_ble_eq_true rfl) dJ0_indexOf_6
end
section
/-! what a text says: the language, place by place -/
theorem tkx {t : Nat → Nat} {n a k : Nat} (h : tk t n a k = true) (j : Nat) (hj : j ≠ k) : tk t n a j = false := tk_f (Or.inr (by rw [tk_eq h]; exact fun e => hj e.symm))
/-- a name that may stand on the bus -/
def src (t : Nat → Nat) (n a : Nat) : Option Nat := if a < n then (match ixS 0 (t a) with
  | some k => if k = 0 ∨ k = 8 then none else some k
  | none => none) else none
theorem src_out {t : Nat → Nat} {n a : Nat} (h : n ≤ a) : src t n a = none := if_neg (by omega)
theorem src_none {t : Nat → Nat} {n a : Nat} (h : ixS 0 (t a) = none) : src t n a = none := by
  unfold src; split
  · rw [h]
  · rfl
theorem src_bad {t : Nat → Nat} {n a k : Nat} (h : ixS 0 (t a) = some k) (hk : k = 0 ∨ k = 8) : src t n a = none := by
  unfold src; split
  · rw [h]; exact if_pos hk
  · rfl
theorem src_some {t : Nat → Nat} {n a k : Nat} (h1 : a < n) (h : ixS 0 (t a) = some k) (hk : ¬ (k = 0 ∨ k = 8)) : src t n a = some k := by
  unfold src; rw [if_pos h1, h]; exact if_neg hk
theorem src_lt {t : Nat → Nat} {n a k : Nat} (h : src t n a = some k) : k < 11 := by
  unfold src at h; split at h
  · cases hx : ixS 0 (t a) with
    | none => rw [hx] at h; cases h
    | some j =>
      rw [hx] at h
      have h2 : (if j = 0 ∨ j = 8 then none else some j) = some k := h
      split at h2
      · cases h2
      · cases h2; exact ixS_lt (by decide) hx
  · cases h
abbrev VR : Type := Nat ⊕ (Nat × Nat × Option Nat)
/-- behind H -/
def vh (t : Nat → Nat) (n b : Nat) : VR :=
  bif tk t n b 38 then (match src t n (b + 1) with | some k => .inr (b + 1 + 1, 12, some k) | none => .inl (b + 1))
  else bif tk t n b 124 then (match src t n (b + 1) with | some k => .inr (b + 1 + 1, 13, some k) | none => .inl (b + 1))
  else bif tk t n b 43 then (bif tk t n (b + 1) 49 then .inr (b + 1 + 1, 9, none) else (match src t n (b + 1) with
    | some k => bif tk t n (b + 1 + 1) 43 then (bif tk t n (b + 1 + 1 + 1) 49 then .inr (b + 1 + 1 + 1 + 1, 11, some k) else .inl (b + 1 + 1 + 1)) else .inr (b + 1 + 1, 10, some k)
    | none => .inl (b + 1)))
  else .inr (b, 8, none)
/-- behind a name on the bus -/
def vb (t : Nat → Nat) (n b k : Nat) : VR :=
  bif tk t n b 43 then (bif tk t n (b + 1) 49 then .inr (b + 1 + 1, 4, some k) else .inl (b + 1))
  else bif tk t n b 45 then (bif tk t n (b + 1) 49 then .inr (b + 1 + 1, 5, some k) else bif tk t n (b + 1) 72 then .inr (b + 1 + 1, 6, some k) else .inl (b + 1))
  else .inr (b, 3, some k)
/-- a VALUE: where it ends, its number, its name on the bus; or the place that is wrong -/
def vl (t : Nat → Nat) (n a : Nat) : VR :=
  bif tk t n a 48 then .inr (a + 1, 0, none)
  else bif tk t n a 49 then .inr (a + 1, 1, none)
  else bif tk t n a 45 then (bif tk t n (a + 1) 49 then .inr (a + 1 + 1, 2, none) else bif tk t n (a + 1) 72 then .inr (a + 1 + 1, 15, none) else .inl (a + 1))
  else bif tk t n a 33 then (bif tk t n (a + 1) 72 then .inr (a + 1 + 1, 14, none) else (match src t n (a + 1) with | some k => .inr (a + 1 + 1, 7, some k) | none => .inl (a + 1)))
  else bif tk t n a 72 then vh t n (a + 1)
  else (match src t n a with | some k => vb t n (a + 1) k | none => .inl a)
/-- a digit -/
def dg (t : Nat → Nat) (n a : Nat) : Option Nat := if a < n ∧ 48 ≤ t a ∧ t a ≤ 57 then some (t a - 48) else none
/-- a NUMBER, and where it ends -/
def nb (t : Nat → Nat) (n a : Nat) : Option (Nat × Nat) := match dg t n a with
  | none => none
  | some d => (match dg t n (a + 1) with
    | none => some (d, a + 1)
    | some e => if 10 * d + e ≤ 63 then some (10 * d + e, a + 1 + 1) else some (d, a + 1))
theorem dg_some {t : Nat → Nat} {n a : Nat} (h1 : a < n) (h2 : 48 ≤ t a) (h3 : t a ≤ 57) : dg t n a = some (t a - 48) := if_pos ⟨h1, h2, h3⟩
theorem dg_none {t : Nat → Nat} {n a : Nat} (h : n ≤ a ∨ t a < 48 ∨ 57 < t a) : dg t n a = none := if_neg (by omega)
theorem dg_le {t : Nat → Nat} {n a d : Nat} (h : dg t n a = some d) : d ≤ 9 ∧ a < n := by
  unfold dg at h; split at h
  · cases h; omega
  · cases h
theorem d63 : ∀ d, d < 10 → ∀ e, e < 10 → (nI e ≤ nI 63 - nI (10 * d) ↔ 10 * d + e ≤ 63) := by decide +kernel
theorem d9 : ∀ d, d < 10 → nI d ≤ nI 9 := by decide +kernel
theorem nb_0 {t : Nat → Nat} {n a : Nat} (h : dg t n a = none ∨ ∃ d, dg t n a = some d ∧ ¬ nI d ≤ nI 9) : nb t n a = none := by
  rcases h with h | ⟨d, h, h2⟩
  · unfold nb; rw [h]
  · exact absurd (d9 d (by have := dg_le h; omega)) h2
theorem nb_1 {t : Nat → Nat} {n a d : Nat} (hd : dg t n a = some d) (h : dg t n (a + 1) = none ∨ ∃ e, dg t n (a + 1) = some e ∧ ¬ nI e ≤ nI 63 - nI (10 * d)) : nb t n a = some (d, a + 1) := by
  unfold nb; rw [hd]
  rcases h with h | ⟨e, h, h2⟩
  · show (match dg t n (a + 1) with | none => _ | some e => _) = _; rw [h]
  · show (match dg t n (a + 1) with | none => _ | some e => _) = _
    rw [h]
    exact if_neg (fun q => h2 ((d63 d (by have := dg_le hd; omega) e (by have := dg_le h; omega)).mpr q))
theorem nb_2 {t : Nat → Nat} {n a d e : Nat} (hd : dg t n a = some d) (he : dg t n (a + 1) = some e) (h : nI e ≤ nI 63 - nI (10 * d)) : nb t n a = some (10 * d + e, a + 1 + 1) ∧ 10 * d + e ≤ 63 := by
  have h2 : 10 * d + e ≤ 63 := (d63 d (by have := dg_le hd; omega) e (by have := dg_le he; omega)).mp h
  refine ⟨?_, h2⟩
  unfold nb; rw [hd]
  show (match dg t n (a + 1) with | none => _ | some e => _) = _
  rw [he]
  exact if_pos h2
/-- the letter of a GOING: 1 to 4, or 0 -/
def gl (t : Nat → Nat) (n a : Nat) : Nat := if a < n then (match ixS 1 (t a) with | some k => k + 1 | none => 0) else 0
theorem gl_some {t : Nat → Nat} {n a k : Nat} (h : a < n) (hx : ixS 1 (t a) = some k) : gl t n a = k + 1 := by unfold gl; rw [if_pos h, hx]
theorem gl_none {t : Nat → Nat} {n a : Nat} (hx : ixS 1 (t a) = none) : gl t n a = 0 := by
  unfold gl; split
  · rw [hx]
  · rfl
theorem gl_out {t : Nat → Nat} {n a : Nat} (h : n ≤ a) : gl t n a = 0 := if_neg (by omega)
theorem ix1_lt {c y : Nat} (h : ixS 1 c = some y) : y < 4 := by
  have h1 := ixL_lt _ _ _ h
  have h2 : (stS 1).length = 4 := by decide
  omega
/-- behind the letter of a GOING g -/
def gg (t : Nat → Nat) (n a g : Nat) : Nat ⊕ (Nat × Option Nat × Option Nat) :=
  if g = 4 ∧ a = n then .inr (a, none, none) else (match nb t n a with
    | none => .inl a
    | some (x, b) => if g = 1 ∨ g = 4 then .inr (b, some x, none) else bif tk t n b 44 then (match nb t n (b + 1) with
      | none => .inl (b + 1)
      | some (y, c) => .inr (c, some x, some y)) else .inl b)
/-- a register that is set, where m are those before -/
def ta (t : Nat → Nat) (n a m : Nat) : Option Nat := if a < n then (match ixS 0 (t a) with
  | some k => if k ≤ 8 ∧ m.testBit k = false ∧ (m = 0 ∨ k = 0 ∨ tk t n (a + 1) 61 = true) then some k else none
  | none => none) else none
theorem ta_some {t : Nat → Nat} {n a m k : Nat} (h1 : a < n) (hx : ixS 0 (t a) = some k) (hk : k ≤ 8) (hb : m.testBit k = false) (h : m = 0 ∨ k = 0 ∨ tk t n (a + 1) 61 = true) : ta t n a m = some k := by
  unfold ta; rw [if_pos h1, hx]; exact if_pos ⟨hk, hb, h⟩
theorem ta_out {t : Nat → Nat} {n a m : Nat} (h : n ≤ a) : ta t n a m = none := if_neg (by omega)
theorem ta_nox {t : Nat → Nat} {n a m : Nat} (h : ixS 0 (t a) = none) : ta t n a m = none := by
  unfold ta; split
  · rw [h]
  · rfl
theorem ta_bad {t : Nat → Nat} {n a m k : Nat} (hx : ixS 0 (t a) = some k) (h : ¬ (k ≤ 8 ∧ m.testBit k = false ∧ (m = 0 ∨ k = 0 ∨ tk t n (a + 1) 61 = true))) : ta t n a m = none := by
  unfold ta; split
  · rw [hx]; exact if_neg h
  · rfl
/-- the registers of a SETTING: at most i more -/
def tl (t : Nat → Nat) (n : Nat) : Nat → Nat → Nat → Nat ⊕ (Nat × Nat)
  | 0, a, m => .inr (a, m)
  | i + 1, a, m => match ta t n a m with
    | none => .inr (a, m)
    | some k => bif tk t n (a + 1) 61 then tl t n i (a + 1 + 1) (m ||| 2 ^ k) else .inl (a + 1)
/-- a SETTING, if one is there: its end, registers, VALUE, name, SHIFT -/
def se (t : Nat → Nat) (n a : Nat) : Nat ⊕ (Nat × Nat × Nat × Option Nat × Nat) := match tl t n 4 a 0 with
  | .inl p => .inl p
  | .inr (b, m) => if m = 0 then .inr (b, m, 0, none, 0) else (match vl t n b with
    | .inl p => .inl p
    | .inr (c, o, s) => bif tk t n c 60 then .inr (c + 1, m, o, s, 1) else bif tk t n c 62 then .inr (c + 1, m, o, s, 2) else .inr (c, m, o, s, 0))
theorem nI_or (a b : Nat) : nI a ||| nI b = nI (a ||| b) := Int32.toBitVec_inj.mp (by simp [nI, BitVec.ofNat_or])
theorem orbit {m k : Nat} (hk : k < 31) : nI m ||| (nI 1 <<< (nI k &&& 31)) = nI (m ||| 2 ^ k) := by
  rw [pk_shlN _ k (sl32 k (by omega)) (by have : 2 ^ k ≤ 2 ^ 30 := Nat.pow_le_pow_right (by omega) (by omega); omega), nI_or, Nat.one_mul]
theorem or512 {m k : Nat} (hm : m < 512) (hk : k ≤ 8) : m ||| 2 ^ k < 512 := Nat.or_lt_two_pow (n := 9) hm (by
  have : 2 ^ k ≤ 2 ^ 8 := Nat.pow_le_pow_right (by omega) hk
  omega)
theorem orne {m k : Nat} : m ||| 2 ^ k ≠ 0 := by
  intro h
  have h1 := congrArg (fun x => x.testBit k) h
  simp [Nat.testBit_or, Nat.testBit_two_pow_self] at h1
end
section
set_option maxHeartbeats 4000000 in
set_option maxRecDepth 100000 in
theorem c_takeSource (l : Launch) (htr : l.stackTraces = false) (D : va_G) (sz : Nat) (h0 tx dr : Nat) (t : Nat → Nat) (n a : Nat) (f0 f1 f2 f3 f4 f5 : Nat) (f6 : Bool) (f7 : Nat) (f8 f9 : Option Nat) (hn : n ≤ 40) (ha : a ≤ n) (ht : ∀ j, t j < 128) : Ct l yX1_takeSource wX1_takeSource { frames := 4, cells := 0, slots := 0, locals := 91 } D ([(h0, .inr (1, [.ref tx, .int (nI n), .int (nI a), .ref dr])), (tx, .inl (D.1 10, 40, .inl (fun j => nI (t j)))), (dr, .inr (0, [.int (nI f0), .int (nI f1), .int (nI f2), .int (nI f3), .int (nI f4), .int (nI f5), .int (bI f6), .int (nI f7), .int (oI f8), .int (oI f9)]))]) [.ref h0] sz (fun v w => (∃ k, src t n a = some k ∧ a < n ∧ v = some (.int (nI 1)) ∧ w = [(h0, .inr (1, [.ref tx, .int (nI n), .int (nI (a + 1)), .ref dr])), (tx, .inl (D.1 10, 40, .inl (fun j => nI (t j)))), (dr, .inr (0, [.int (nI f0), .int (nI f1), .int (nI f2), .int (nI k), .int (nI f4), .int (nI f5), .int (bI f6), .int (nI f7), .int (oI f8), .int (oI f9)]))]) ∨ (src t n a = none ∧ v = some (.int (nI 0)) ∧ w = [(h0, .inr (1, [.ref tx, .int (nI n), .int (nI a), .ref dr])), (tx, .inl (D.1 10, 40, .inl (fun j => nI (t j)))), (dr, .inr (0, [.int (nI f0), .int (nI f1), .int (nI f2), .int (nI f3), .int (nI f4), .int (nI f5), .int (bI f6), .int (nI f7), .int (oI f8), .int (oI f9)]))])) (nox) := by
  refine Ct.of (cc := cX1_takeSource) (nL := 2) (ret := (some .boolean)) (own := RX1) htr (by decide) rfl (Nat.le_of_ble_eq_true rfl) ?_
  intro p e s m args below meth c A C hr hK H locs hH ls hl
  have hl : lv_has ls 2 [(0, .ref h0)] := hl
  refine lv_aload_n C.x C.b dX1_takeSource_0 rfl (lv_at hl 0 rfl) ?_
  refine gGet (v := .int (nI a)) C hK hH 0 2 rfl rfl inX1 (by decide) tw_87 rfl dX1_takeSource_1 ?_
  refine lv_aload_n C.x C.b dX1_takeSource_4 rfl (lv_at hl 0 rfl) ?_
  refine gGet (v := .int (nI n)) C hK hH 0 1 rfl rfl inX1 (by decide) tw_85 rfl dX1_takeSource_5 ?_
  refine vn_icmp_ge (tgt := 28) C.x C.b dX1_takeSource_8 (by decide) (by omega) (by omega) (fun c_8 => ?_) (fun c_8 => ?_)
  · refine lv_iconst (v := -1) C.x C.b dX1_takeSource_28 (by decide) ?_
    refine lv_istore_n (lv' := [(1, .int (-1)), (0, .ref h0)]) C.x C.b dX1_takeSource_29 rfl hl (by decide) rfl (fun ls hl => ?_)
    refine lv_iload_n C.x C.b dX1_takeSource_30 rfl (lv_at hl 0 rfl) ?_
    refine lv_if_le (tgt := 40) C.x C.b dX1_takeSource_31 (by decide) (fun _ => ?_) (fun q => absurd (by decide) q)
    refine lv_iconst (v := nI 0) C.x C.b dX1_takeSource_40 (by decide) ?_
    exact rZ C hr (by decide) hH (Or.inr ⟨by first | exact src_none hx_25 | exact src_out (by omega), rfl, rfl⟩) (Nat.le_of_ble_eq_true rfl) (Nat.le_of_ble_eq_true rfl) dX1_takeSource_41
  · refine va_ldcS C.x C.b C.ow C.N.2.1 dX1_takeSource_11 ?_
    refine lv_aload_n C.x C.b dX1_takeSource_13 rfl (lv_at hl 0 rfl) ?_
    refine gGet (v := .ref tx) C hK hH 0 0 rfl rfl inX1 (by decide) tw_84 rfl dX1_takeSource_14 ?_
    refine lv_aload_n C.x C.b dX1_takeSource_17 rfl (lv_at hl 0 rfl) ?_
    refine gGet (v := .int (nI a)) C hK hH 0 2 rfl rfl inX1 (by decide) tw_87 rfl dX1_takeSource_18 ?_
    have hf_21 := ht a
    refine gCald (v := (nI (t a))) C hK hH 1 rfl (by omega) (by decide) dX1_takeSource_21 rfl ?_
    refine kVr (As := [.int (nI (t a))]) (isC := []) (isR := [0, 1, 2]) (wr := [(h0, .inr (1, [.ref tx, .int (nI n), .int (nI a), .ref dr])), (tx, .inl (D.1 10, 40, .inl (fun j => nI (t j)))), (dr, .inr (0, [.int (nI f0), .int (nI f1), .int (nI f2), .int (nI f3), .int (nI f4), .int (nI f5), .int (bI f6), .int (nI f7), .int (oI f8), .int (oI f9)]))]) C hK hH (c_indexOf l htr D H.size 0 (t a) (by decide) (by omega)) ⟨rfl, rfl, rfl, rfl, by decide⟩ (vk_recv C.Z.2.2.1 (i := 0) (by decide) hH.2.2) tw_280 tw_281 tw_282 tw_10 kJ0_indexOf ⟨by decide +kernel, by decide +kernel, (by decide +kernel : (parseMethodDescriptor yJ0_indexOf.desc).map (fun d => d.parameters.length) = some 1)⟩ ⟨(Nat.le_of_ble_eq_true rfl), (Nat.le_of_ble_eq_true rfl)⟩ hl.1 (Nat.le_of_ble_eq_true rfl) dX1_takeSource_22 ⟨(Nat.le_of_ble_eq_true rfl), (Nat.le_of_ble_eq_true rfl)⟩ (fun v9 w9 H locs hN hH => ?_) (fun _ _ _ _ _ _ h => False.elim h)
    obtain ⟨rfl, rfl⟩ := hN
    have hH : Hp D A s ([(h0, .inr (1, [.ref tx, .int (nI n), .int (nI a), .ref dr])), (tx, .inl (D.1 10, 40, .inl (fun j => nI (t j)))), (dr, .inr (0, [.int (nI f0), .int (nI f1), .int (nI f2), .int (nI f3), .int (nI f4), .int (nI f5), .int (bI f6), .int (nI f7), .int (oI f8), .int (oI f9)]))]) H locs := hH
    refine W.eq (g2 := F0 m 25 ls [.int (oI (ixS 0 (t a)))]) rfl ?_
    cases hx_25 : ixS 0 (t a) with
    | none =>
      refine vt_top (y := -1) rfl ?_
      refine lv_goto (tgt := 29) C.x C.b dX1_takeSource_25 (by decide) ?_
      refine lv_istore_n (lv' := [(1, .int (-1)), (0, .ref h0)]) C.x C.b dX1_takeSource_29 rfl hl (by decide) rfl (fun ls hl => ?_)
      refine lv_iload_n C.x C.b dX1_takeSource_30 rfl (lv_at hl 0 rfl) ?_
      refine lv_if_le (tgt := 40) C.x C.b dX1_takeSource_31 (by decide) (fun _ => ?_) (fun q => absurd (by decide) q)
      refine lv_iconst (v := nI 0) C.x C.b dX1_takeSource_40 (by decide) ?_
      exact rZ C hr (by decide) hH (Or.inr ⟨by first | exact src_none hx_25 | exact src_out (by omega), rfl, rfl⟩) (Nat.le_of_ble_eq_true rfl) (Nat.le_of_ble_eq_true rfl) dX1_takeSource_41
    | some y_25 =>
      have hy_25 := ixS_lt (by decide) hx_25
      refine vt_top (y := nI y_25) rfl ?_
      refine lv_goto (tgt := 29) C.x C.b dX1_takeSource_25 (by decide) ?_
      refine lv_istore_n (lv' := [(1, .int (nI y_25)), (0, .ref h0)]) C.x C.b dX1_takeSource_29 rfl hl (by decide) rfl (fun ls hl => ?_)
      refine lv_iload_n C.x C.b dX1_takeSource_30 rfl (lv_at hl 0 rfl) ?_
      refine vn_if_le (tgt := 40) C.x C.b dX1_takeSource_31 (by decide) (by omega) (fun c_31 => ?_) (fun c_31 => ?_)
      · refine lv_iconst (v := nI 0) C.x C.b dX1_takeSource_40 (by decide) ?_
        exact rZ C hr (by decide) hH (Or.inr ⟨src_bad hx_25 (by omega), rfl, rfl⟩) (Nat.le_of_ble_eq_true rfl) (Nat.le_of_ble_eq_true rfl) dX1_takeSource_41
      · refine lv_iload_n C.x C.b dX1_takeSource_34 rfl (lv_at hl 0 rfl) ?_
        refine lv_bipush (v := nI 8) C.x C.b dX1_takeSource_35 (by decide) ?_
        refine vn_icmp_ne (tgt := 42) C.x C.b dX1_takeSource_37 (by decide) (by omega) (by omega) (fun c_37 => ?_) (fun c_37 => ?_)
        · refine lv_aload_n C.x C.b dX1_takeSource_42 rfl (lv_at hl 1 rfl) ?_
          refine gGet (v := .ref dr) C hK hH 0 3 rfl rfl inX1 (by decide) tw_89 rfl dX1_takeSource_43 ?_
          refine lv_iload_n C.x C.b dX1_takeSource_46 rfl (lv_at hl 0 rfl) ?_
          refine gPutN (v := .int (nI y_25)) (ws' := [(h0, .inr (1, [.ref tx, .int (nI n), .int (nI a), .ref dr])), (tx, .inl (D.1 10, 40, .inl (fun j => nI (t j)))), (dr, .inr (0, [.int (nI f0), .int (nI f1), .int (nI f2), .int (nI y_25), .int (nI f4), .int (nI f5), .int (bI f6), .int (nI f7), .int (oI f8), .int (oI f9)]))]) C hK hH 2 3 tyX0 tyX0_ok nmX0 rfl rfl inX0 (by decide) (nwl_of tn_46 rfl) rfl rfl rfl (Nat.le_of_ble_eq_true rfl) rfl dX1_takeSource_47 (fun H locs hH => ?_)
          refine lv_aload_n C.x C.b dX1_takeSource_50 rfl (lv_at hl 1 rfl) ?_
          refine lv_dup C.x C.b dX1_takeSource_51 rfl ?_
          refine gGet (v := .int (nI a)) C hK hH 0 2 rfl rfl inX1 (by decide) tw_87 rfl dX1_takeSource_52 ?_
          refine lv_iconst (v := nI 1) C.x C.b dX1_takeSource_55 (by decide) ?_
          refine lv_iadd C.x C.b dX1_takeSource_56 ?_
          refine vt_top (nI_add _ _) ?_
          refine gPut (v := .int (nI (a + 1))) (ws' := [(h0, .inr (1, [.ref tx, .int (nI n), .int (nI (a + 1)), .ref dr])), (tx, .inl (D.1 10, 40, .inl (fun j => nI (t j)))), (dr, .inr (0, [.int (nI f0), .int (nI f1), .int (nI f2), .int (nI y_25), .int (nI f4), .int (nI f5), .int (bI f6), .int (nI f7), .int (oI f8), .int (oI f9)]))]) C hK hH 0 2 tyX1 tyX1_ok nmX1 rfl rfl inX1 (by decide) tw_87 rfl rfl rfl (Nat.le_of_ble_eq_true rfl) rfl dX1_takeSource_57 (fun H locs hH => ?_)
          refine lv_iconst (v := nI 1) C.x C.b dX1_takeSource_60 (by decide) ?_
          exact rZ C hr (by decide) hH (Or.inl ⟨y_25, src_some (by omega) hx_25 (by omega), by omega, rfl, rfl⟩) (Nat.le_of_ble_eq_true rfl) (Nat.le_of_ble_eq_true rfl) dX1_takeSource_61
        · refine lv_iconst (v := nI 0) C.x C.b dX1_takeSource_40 (by decide) ?_
          exact rZ C hr (by decide) hH (Or.inr ⟨src_bad hx_25 (by omega), rfl, rfl⟩) (Nat.le_of_ble_eq_true rfl) (Nat.le_of_ble_eq_true rfl) dX1_takeSource_41
set_option maxHeartbeats 4000000 in
set_option maxRecDepth 100000 in
theorem c_readBehindH (l : Launch) (htr : l.stackTraces = false) (D : va_G) (sz : Nat) (h0 tx dr : Nat) (t : Nat → Nat) (n a : Nat) (f0 f1 f2 f3 f4 f5 : Nat) (f6 : Bool) (f7 : Nat) (f8 f9 : Option Nat) (hn : n ≤ 40) (ha : a ≤ n) (ht : ∀ j, t j < 128) : Ct l yX1_readBehindH wX1_readBehindH { frames := 5, cells := 0, slots := 0, locals := 112 } D ([(h0, .inr (1, [.ref tx, .int (nI n), .int (nI a), .ref dr])), (tx, .inl (D.1 10, 40, .inl (fun j => nI (t j)))), (dr, .inr (0, [.int (nI f0), .int (nI f1), .int (nI f2), .int (nI f3), .int (nI f4), .int (nI f5), .int (bI f6), .int (nI f7), .int (oI f8), .int (oI f9)]))]) [.ref h0] sz (fun v w => (∃ q, vh t n a = .inr q ∧ q.1 ≤ n ∧ v = some (.int (nI 1)) ∧ w = [(h0, .inr (1, [.ref tx, .int (nI n), .int (nI q.1), .ref dr])), (tx, .inl (D.1 10, 40, .inl (fun j => nI (t j)))), (dr, .inr (0, [.int (nI f0), .int (nI f1), .int (nI q.2.1), .int (nI (q.2.2.getD f3)), .int (nI f4), .int (nI f5), .int (bI f6), .int (nI f7), .int (oI f8), .int (oI f9)]))]) ∨ (∃ a9 g2 g3, vh t n a = .inl a9 ∧ a9 ≤ n ∧ v = some (.int (nI 0)) ∧ w = [(h0, .inr (1, [.ref tx, .int (nI n), .int (nI a9), .ref dr])), (tx, .inl (D.1 10, 40, .inl (fun j => nI (t j)))), (dr, .inr (0, [.int (nI f0), .int (nI f1), .int (nI g2), .int (nI g3), .int (nI f4), .int (nI f5), .int (bI f6), .int (nI f7), .int (oI f8), .int (oI f9)]))])) (nox) := by
  refine Ct.of (cc := cX1_readBehindH) (nL := 1) (ret := (some .boolean)) (own := RX1) htr (by decide) rfl (Nat.le_of_ble_eq_true rfl) ?_
  intro p e s m args below meth c A C hr hK H locs hH ls hl
  have hl : lv_has ls 1 [(0, .ref h0)] := hl
  refine lv_aload_n C.x C.b dX1_readBehindH_0 rfl (lv_at hl 0 rfl) ?_
  refine lv_bipush (v := nI 38) C.x C.b dX1_readBehindH_1 (by decide) ?_
  refine kV (As := [.int (nI 38)]) (isC := [0, 1, 2]) (isR := []) (wr := []) C hK hH (c_take l htr D H.size h0 tx dr t n a f0 f1 f2 f3 f4 f5 f6 f7 f8 f9 38 hn (by omega) ht (by omega)) ⟨rfl, rfl, rfl, rfl, by decide⟩ 0 rfl rfl tw_370 tw_372 ts_7 tw_2 kX1_take ⟨by decide +kernel, by decide +kernel, (by decide +kernel : (parseMethodDescriptor yX1_take.desc).map (fun d => d.parameters.length) = some 1)⟩ ⟨(Nat.le_of_ble_eq_true rfl), (Nat.le_of_ble_eq_true rfl)⟩ hl.1 (Nat.le_of_ble_eq_true rfl) dX1_readBehindH_3 ⟨(Nat.le_of_ble_eq_true rfl), (Nat.le_of_ble_eq_true rfl)⟩ (fun v9 w9 H locs hN hH => ?_) (fun _ _ _ _ _ _ h => False.elim h)
  rcases hN with ⟨k_3, kl_3, rfl, rfl⟩ | ⟨k_3, rfl, rfl⟩
  · have hH : Hp D A s ([(h0, .inr (1, [.ref tx, .int (nI n), .int (nI (a + 1)), .ref dr])), (tx, .inl (D.1 10, 40, .inl (fun j => nI (t j)))), (dr, .inr (0, [.int (nI f0), .int (nI f1), .int (nI f2), .int (nI f3), .int (nI f4), .int (nI f5), .int (bI f6), .int (nI f7), .int (oI f8), .int (oI f9)]))]) H locs := hH
    refine W.eq (g2 := F0 m 6 ls [.int (nI 1)]) rfl ?_
    refine vn_if_eq (tgt := 31) C.x C.b dX1_readBehindH_6 (by decide) (by omega) (fun q => absurd q (by decide)) (fun _ => ?_)
    refine lv_aload_n C.x C.b dX1_readBehindH_9 rfl (lv_at hl 0 rfl) ?_
    refine kV (As := []) (isC := [0, 1, 2]) (isR := []) (wr := []) C hK hH (c_takeSource l htr D H.size h0 tx dr t n (a + 1) f0 f1 f2 f3 f4 f5 f6 f7 f8 f9 hn (by omega) ht) ⟨rfl, rfl, rfl, rfl, by decide⟩ 0 rfl rfl tw_382 tw_384 ts_10 tw_2 kX1_takeSource ⟨by decide +kernel, by decide +kernel, (by decide +kernel : (parseMethodDescriptor yX1_takeSource.desc).map (fun d => d.parameters.length) = some 0)⟩ ⟨(Nat.le_of_ble_eq_true rfl), (Nat.le_of_ble_eq_true rfl)⟩ hl.1 (Nat.le_of_ble_eq_true rfl) dX1_readBehindH_10 ⟨(Nat.le_of_ble_eq_true rfl), (Nat.le_of_ble_eq_true rfl)⟩ (fun v9 w9 H locs hN hH => ?_) (fun _ _ _ _ _ _ h => False.elim h)
    rcases hN with ⟨s_10, k_10, kl_10, rfl, rfl⟩ | ⟨k_10, rfl, rfl⟩
    · have hH : Hp D A s ([(h0, .inr (1, [.ref tx, .int (nI n), .int (nI (a + 1 + 1)), .ref dr])), (tx, .inl (D.1 10, 40, .inl (fun j => nI (t j)))), (dr, .inr (0, [.int (nI f0), .int (nI f1), .int (nI f2), .int (nI s_10), .int (nI f4), .int (nI f5), .int (bI f6), .int (nI f7), .int (oI f8), .int (oI f9)]))]) H locs := hH
      refine W.eq (g2 := F0 m 13 ls [.int (nI 1)]) rfl ?_
      refine vn_if_eq (tgt := 29) C.x C.b dX1_readBehindH_13 (by decide) (by omega) (fun q => absurd q (by decide)) (fun _ => ?_)
      refine lv_aload_n C.x C.b dX1_readBehindH_16 rfl (lv_at hl 0 rfl) ?_
      refine lv_bipush (v := nI 12) C.x C.b dX1_readBehindH_17 (by decide) ?_
      refine kV (As := [.int (nI 12)]) (isC := [0, 1, 2]) (isR := []) (wr := []) C hK hH (c_does l htr D H.size h0 tx dr t n (a + 1 + 1) f0 f1 f2 s_10 f4 f5 f6 f7 f8 f9 12 hn (by omega) ht) ⟨rfl, rfl, rfl, rfl, by decide⟩ 0 rfl rfl tw_378 tw_380 ts_9 tw_2 kX1_does ⟨by decide +kernel, by decide +kernel, (by decide +kernel : (parseMethodDescriptor yX1_does.desc).map (fun d => d.parameters.length) = some 1)⟩ ⟨(Nat.le_of_ble_eq_true rfl), (Nat.le_of_ble_eq_true rfl)⟩ hl.1 (Nat.le_of_ble_eq_true rfl) dX1_readBehindH_19 ⟨(Nat.le_of_ble_eq_true rfl), (Nat.le_of_ble_eq_true rfl)⟩ (fun v9 w9 H locs hN hH => ?_) (fun _ _ _ _ _ _ h => False.elim h)
      obtain ⟨rfl, rfl⟩ := hN
      have hH : Hp D A s ([(h0, .inr (1, [.ref tx, .int (nI n), .int (nI (a + 1 + 1)), .ref dr])), (tx, .inl (D.1 10, 40, .inl (fun j => nI (t j)))), (dr, .inr (0, [.int (nI f0), .int (nI f1), .int (nI 12), .int (nI s_10), .int (nI f4), .int (nI f5), .int (bI f6), .int (nI f7), .int (oI f8), .int (oI f9)]))]) H locs := hH
      refine W.eq (g2 := F0 m 22 ls [.int (nI 1)]) rfl ?_
      refine vn_if_eq (tgt := 29) C.x C.b dX1_readBehindH_22 (by decide) (by omega) (fun q => absurd q (by decide)) (fun _ => ?_)
      refine lv_iconst (v := nI 1) C.x C.b dX1_readBehindH_25 (by decide) ?_
      refine lv_goto (tgt := 30) C.x C.b dX1_readBehindH_26 (by decide) ?_
      exact rZ C hr (by decide) hH (Or.inl ⟨(a + 1 + 1, 12, some s_10), by simp only [vh, k_3, k_10, cond_true, cond_false], by omega, rfl, rfl⟩) (Nat.le_of_ble_eq_true rfl) (Nat.le_of_ble_eq_true rfl) dX1_readBehindH_30
    · have hH : Hp D A s ([(h0, .inr (1, [.ref tx, .int (nI n), .int (nI (a + 1)), .ref dr])), (tx, .inl (D.1 10, 40, .inl (fun j => nI (t j)))), (dr, .inr (0, [.int (nI f0), .int (nI f1), .int (nI f2), .int (nI f3), .int (nI f4), .int (nI f5), .int (bI f6), .int (nI f7), .int (oI f8), .int (oI f9)]))]) H locs := hH
      refine W.eq (g2 := F0 m 13 ls [.int (nI 0)]) rfl ?_
      refine vn_if_eq (tgt := 29) C.x C.b dX1_readBehindH_13 (by decide) (by omega) (fun _ => ?_) (fun q => absurd q (by decide))
      refine lv_iconst (v := nI 0) C.x C.b dX1_readBehindH_29 (by decide) ?_
      exact rZ C hr (by decide) hH (Or.inr ⟨a + 1, f2, f3, by simp only [vh, k_3, k_10, cond_true, cond_false], by omega, rfl, rfl⟩) (Nat.le_of_ble_eq_true rfl) (Nat.le_of_ble_eq_true rfl) dX1_readBehindH_30
  · have hH : Hp D A s ([(h0, .inr (1, [.ref tx, .int (nI n), .int (nI a), .ref dr])), (tx, .inl (D.1 10, 40, .inl (fun j => nI (t j)))), (dr, .inr (0, [.int (nI f0), .int (nI f1), .int (nI f2), .int (nI f3), .int (nI f4), .int (nI f5), .int (bI f6), .int (nI f7), .int (oI f8), .int (oI f9)]))]) H locs := hH
    refine W.eq (g2 := F0 m 6 ls [.int (nI 0)]) rfl ?_
    refine vn_if_eq (tgt := 31) C.x C.b dX1_readBehindH_6 (by decide) (by omega) (fun _ => ?_) (fun q => absurd q (by decide))
    refine lv_aload_n C.x C.b dX1_readBehindH_31 rfl (lv_at hl 0 rfl) ?_
    refine lv_bipush (v := nI 124) C.x C.b dX1_readBehindH_32 (by decide) ?_
    refine kV (As := [.int (nI 124)]) (isC := [0, 1, 2]) (isR := []) (wr := []) C hK hH (c_take l htr D H.size h0 tx dr t n a f0 f1 f2 f3 f4 f5 f6 f7 f8 f9 124 hn (by omega) ht (by omega)) ⟨rfl, rfl, rfl, rfl, by decide⟩ 0 rfl rfl tw_370 tw_372 ts_7 tw_2 kX1_take ⟨by decide +kernel, by decide +kernel, (by decide +kernel : (parseMethodDescriptor yX1_take.desc).map (fun d => d.parameters.length) = some 1)⟩ ⟨(Nat.le_of_ble_eq_true rfl), (Nat.le_of_ble_eq_true rfl)⟩ hl.1 (Nat.le_of_ble_eq_true rfl) dX1_readBehindH_34 ⟨(Nat.le_of_ble_eq_true rfl), (Nat.le_of_ble_eq_true rfl)⟩ (fun v9 w9 H locs hN hH => ?_) (fun _ _ _ _ _ _ h => False.elim h)
    rcases hN with ⟨k_34, kl_34, rfl, rfl⟩ | ⟨k_34, rfl, rfl⟩
    · have hH : Hp D A s ([(h0, .inr (1, [.ref tx, .int (nI n), .int (nI (a + 1)), .ref dr])), (tx, .inl (D.1 10, 40, .inl (fun j => nI (t j)))), (dr, .inr (0, [.int (nI f0), .int (nI f1), .int (nI f2), .int (nI f3), .int (nI f4), .int (nI f5), .int (bI f6), .int (nI f7), .int (oI f8), .int (oI f9)]))]) H locs := hH
      refine W.eq (g2 := F0 m 37 ls [.int (nI 1)]) rfl ?_
      refine vn_if_eq (tgt := 62) C.x C.b dX1_readBehindH_37 (by decide) (by omega) (fun q => absurd q (by decide)) (fun _ => ?_)
      refine lv_aload_n C.x C.b dX1_readBehindH_40 rfl (lv_at hl 0 rfl) ?_
      refine kV (As := []) (isC := [0, 1, 2]) (isR := []) (wr := []) C hK hH (c_takeSource l htr D H.size h0 tx dr t n (a + 1) f0 f1 f2 f3 f4 f5 f6 f7 f8 f9 hn (by omega) ht) ⟨rfl, rfl, rfl, rfl, by decide⟩ 0 rfl rfl tw_382 tw_384 ts_10 tw_2 kX1_takeSource ⟨by decide +kernel, by decide +kernel, (by decide +kernel : (parseMethodDescriptor yX1_takeSource.desc).map (fun d => d.parameters.length) = some 0)⟩ ⟨(Nat.le_of_ble_eq_true rfl), (Nat.le_of_ble_eq_true rfl)⟩ hl.1 (Nat.le_of_ble_eq_true rfl) dX1_readBehindH_41 ⟨(Nat.le_of_ble_eq_true rfl), (Nat.le_of_ble_eq_true rfl)⟩ (fun v9 w9 H locs hN hH => ?_) (fun _ _ _ _ _ _ h => False.elim h)
      rcases hN with ⟨s_41, k_41, kl_41, rfl, rfl⟩ | ⟨k_41, rfl, rfl⟩
      · have hH : Hp D A s ([(h0, .inr (1, [.ref tx, .int (nI n), .int (nI (a + 1 + 1)), .ref dr])), (tx, .inl (D.1 10, 40, .inl (fun j => nI (t j)))), (dr, .inr (0, [.int (nI f0), .int (nI f1), .int (nI f2), .int (nI s_41), .int (nI f4), .int (nI f5), .int (bI f6), .int (nI f7), .int (oI f8), .int (oI f9)]))]) H locs := hH
        refine W.eq (g2 := F0 m 44 ls [.int (nI 1)]) rfl ?_
        refine vn_if_eq (tgt := 60) C.x C.b dX1_readBehindH_44 (by decide) (by omega) (fun q => absurd q (by decide)) (fun _ => ?_)
        refine lv_aload_n C.x C.b dX1_readBehindH_47 rfl (lv_at hl 0 rfl) ?_
        refine lv_bipush (v := nI 13) C.x C.b dX1_readBehindH_48 (by decide) ?_
        refine kV (As := [.int (nI 13)]) (isC := [0, 1, 2]) (isR := []) (wr := []) C hK hH (c_does l htr D H.size h0 tx dr t n (a + 1 + 1) f0 f1 f2 s_41 f4 f5 f6 f7 f8 f9 13 hn (by omega) ht) ⟨rfl, rfl, rfl, rfl, by decide⟩ 0 rfl rfl tw_378 tw_380 ts_9 tw_2 kX1_does ⟨by decide +kernel, by decide +kernel, (by decide +kernel : (parseMethodDescriptor yX1_does.desc).map (fun d => d.parameters.length) = some 1)⟩ ⟨(Nat.le_of_ble_eq_true rfl), (Nat.le_of_ble_eq_true rfl)⟩ hl.1 (Nat.le_of_ble_eq_true rfl) dX1_readBehindH_50 ⟨(Nat.le_of_ble_eq_true rfl), (Nat.le_of_ble_eq_true rfl)⟩ (fun v9 w9 H locs hN hH => ?_) (fun _ _ _ _ _ _ h => False.elim h)
        obtain ⟨rfl, rfl⟩ := hN
        have hH : Hp D A s ([(h0, .inr (1, [.ref tx, .int (nI n), .int (nI (a + 1 + 1)), .ref dr])), (tx, .inl (D.1 10, 40, .inl (fun j => nI (t j)))), (dr, .inr (0, [.int (nI f0), .int (nI f1), .int (nI 13), .int (nI s_41), .int (nI f4), .int (nI f5), .int (bI f6), .int (nI f7), .int (oI f8), .int (oI f9)]))]) H locs := hH
        refine W.eq (g2 := F0 m 53 ls [.int (nI 1)]) rfl ?_
        refine vn_if_eq (tgt := 60) C.x C.b dX1_readBehindH_53 (by decide) (by omega) (fun q => absurd q (by decide)) (fun _ => ?_)
        refine lv_iconst (v := nI 1) C.x C.b dX1_readBehindH_56 (by decide) ?_
        refine lv_goto (tgt := 61) C.x C.b dX1_readBehindH_57 (by decide) ?_
        exact rZ C hr (by decide) hH (Or.inl ⟨(a + 1 + 1, 13, some s_41), by simp only [vh, k_3, k_34, k_41, cond_true, cond_false], by omega, rfl, rfl⟩) (Nat.le_of_ble_eq_true rfl) (Nat.le_of_ble_eq_true rfl) dX1_readBehindH_61
      · have hH : Hp D A s ([(h0, .inr (1, [.ref tx, .int (nI n), .int (nI (a + 1)), .ref dr])), (tx, .inl (D.1 10, 40, .inl (fun j => nI (t j)))), (dr, .inr (0, [.int (nI f0), .int (nI f1), .int (nI f2), .int (nI f3), .int (nI f4), .int (nI f5), .int (bI f6), .int (nI f7), .int (oI f8), .int (oI f9)]))]) H locs := hH
        refine W.eq (g2 := F0 m 44 ls [.int (nI 0)]) rfl ?_
        refine vn_if_eq (tgt := 60) C.x C.b dX1_readBehindH_44 (by decide) (by omega) (fun _ => ?_) (fun q => absurd q (by decide))
        refine lv_iconst (v := nI 0) C.x C.b dX1_readBehindH_60 (by decide) ?_
        exact rZ C hr (by decide) hH (Or.inr ⟨a + 1, f2, f3, by simp only [vh, k_3, k_34, k_41, cond_true, cond_false], by omega, rfl, rfl⟩) (Nat.le_of_ble_eq_true rfl) (Nat.le_of_ble_eq_true rfl) dX1_readBehindH_61
    · have hH : Hp D A s ([(h0, .inr (1, [.ref tx, .int (nI n), .int (nI a), .ref dr])), (tx, .inl (D.1 10, 40, .inl (fun j => nI (t j)))), (dr, .inr (0, [.int (nI f0), .int (nI f1), .int (nI f2), .int (nI f3), .int (nI f4), .int (nI f5), .int (bI f6), .int (nI f7), .int (oI f8), .int (oI f9)]))]) H locs := hH
      refine W.eq (g2 := F0 m 37 ls [.int (nI 0)]) rfl ?_
      refine vn_if_eq (tgt := 62) C.x C.b dX1_readBehindH_37 (by decide) (by omega) (fun _ => ?_) (fun q => absurd q (by decide))
      refine lv_aload_n C.x C.b dX1_readBehindH_62 rfl (lv_at hl 0 rfl) ?_
      refine lv_bipush (v := nI 43) C.x C.b dX1_readBehindH_63 (by decide) ?_
      refine kV (As := [.int (nI 43)]) (isC := [0, 1, 2]) (isR := []) (wr := []) C hK hH (c_take l htr D H.size h0 tx dr t n a f0 f1 f2 f3 f4 f5 f6 f7 f8 f9 43 hn (by omega) ht (by omega)) ⟨rfl, rfl, rfl, rfl, by decide⟩ 0 rfl rfl tw_370 tw_372 ts_7 tw_2 kX1_take ⟨by decide +kernel, by decide +kernel, (by decide +kernel : (parseMethodDescriptor yX1_take.desc).map (fun d => d.parameters.length) = some 1)⟩ ⟨(Nat.le_of_ble_eq_true rfl), (Nat.le_of_ble_eq_true rfl)⟩ hl.1 (Nat.le_of_ble_eq_true rfl) dX1_readBehindH_65 ⟨(Nat.le_of_ble_eq_true rfl), (Nat.le_of_ble_eq_true rfl)⟩ (fun v9 w9 H locs hN hH => ?_) (fun _ _ _ _ _ _ h => False.elim h)
      rcases hN with ⟨k_65, kl_65, rfl, rfl⟩ | ⟨k_65, rfl, rfl⟩
      · have hH : Hp D A s ([(h0, .inr (1, [.ref tx, .int (nI n), .int (nI (a + 1)), .ref dr])), (tx, .inl (D.1 10, 40, .inl (fun j => nI (t j)))), (dr, .inr (0, [.int (nI f0), .int (nI f1), .int (nI f2), .int (nI f3), .int (nI f4), .int (nI f5), .int (bI f6), .int (nI f7), .int (oI f8), .int (oI f9)]))]) H locs := hH
        refine W.eq (g2 := F0 m 68 ls [.int (nI 1)]) rfl ?_
        refine vn_if_ne (tgt := 78) C.x C.b dX1_readBehindH_68 (by decide) (by omega) (fun _ => ?_) (fun q => absurd q (by decide))
        refine lv_aload_n C.x C.b dX1_readBehindH_78 rfl (lv_at hl 0 rfl) ?_
        refine lv_bipush (v := nI 49) C.x C.b dX1_readBehindH_79 (by decide) ?_
        refine kV (As := [.int (nI 49)]) (isC := [0, 1, 2]) (isR := []) (wr := []) C hK hH (c_take l htr D H.size h0 tx dr t n (a + 1) f0 f1 f2 f3 f4 f5 f6 f7 f8 f9 49 hn (by omega) ht (by omega)) ⟨rfl, rfl, rfl, rfl, by decide⟩ 0 rfl rfl tw_370 tw_372 ts_7 tw_2 kX1_take ⟨by decide +kernel, by decide +kernel, (by decide +kernel : (parseMethodDescriptor yX1_take.desc).map (fun d => d.parameters.length) = some 1)⟩ ⟨(Nat.le_of_ble_eq_true rfl), (Nat.le_of_ble_eq_true rfl)⟩ hl.1 (Nat.le_of_ble_eq_true rfl) dX1_readBehindH_81 ⟨(Nat.le_of_ble_eq_true rfl), (Nat.le_of_ble_eq_true rfl)⟩ (fun v9 w9 H locs hN hH => ?_) (fun _ _ _ _ _ _ h => False.elim h)
        rcases hN with ⟨k_81, kl_81, rfl, rfl⟩ | ⟨k_81, rfl, rfl⟩
        · have hH : Hp D A s ([(h0, .inr (1, [.ref tx, .int (nI n), .int (nI (a + 1 + 1)), .ref dr])), (tx, .inl (D.1 10, 40, .inl (fun j => nI (t j)))), (dr, .inr (0, [.int (nI f0), .int (nI f1), .int (nI f2), .int (nI f3), .int (nI f4), .int (nI f5), .int (bI f6), .int (nI f7), .int (oI f8), .int (oI f9)]))]) H locs := hH
          refine W.eq (g2 := F0 m 84 ls [.int (nI 1)]) rfl ?_
          refine vn_if_eq (tgt := 94) C.x C.b dX1_readBehindH_84 (by decide) (by omega) (fun q => absurd q (by decide)) (fun _ => ?_)
          refine lv_aload_n C.x C.b dX1_readBehindH_87 rfl (lv_at hl 0 rfl) ?_
          refine lv_bipush (v := nI 9) C.x C.b dX1_readBehindH_88 (by decide) ?_
          refine kV (As := [.int (nI 9)]) (isC := [0, 1, 2]) (isR := []) (wr := []) C hK hH (c_does l htr D H.size h0 tx dr t n (a + 1 + 1) f0 f1 f2 f3 f4 f5 f6 f7 f8 f9 9 hn (by omega) ht) ⟨rfl, rfl, rfl, rfl, by decide⟩ 0 rfl rfl tw_378 tw_380 ts_9 tw_2 kX1_does ⟨by decide +kernel, by decide +kernel, (by decide +kernel : (parseMethodDescriptor yX1_does.desc).map (fun d => d.parameters.length) = some 1)⟩ ⟨(Nat.le_of_ble_eq_true rfl), (Nat.le_of_ble_eq_true rfl)⟩ hl.1 (Nat.le_of_ble_eq_true rfl) dX1_readBehindH_90 ⟨(Nat.le_of_ble_eq_true rfl), (Nat.le_of_ble_eq_true rfl)⟩ (fun v9 w9 H locs hN hH => ?_) (fun _ _ _ _ _ _ h => False.elim h)
          obtain ⟨rfl, rfl⟩ := hN
          have hH : Hp D A s ([(h0, .inr (1, [.ref tx, .int (nI n), .int (nI (a + 1 + 1)), .ref dr])), (tx, .inl (D.1 10, 40, .inl (fun j => nI (t j)))), (dr, .inr (0, [.int (nI f0), .int (nI f1), .int (nI 9), .int (nI f3), .int (nI f4), .int (nI f5), .int (bI f6), .int (nI f7), .int (oI f8), .int (oI f9)]))]) H locs := hH
          refine W.eq (g2 := F0 m 93 ls [.int (nI 1)]) rfl ?_
          exact rZ C hr (by decide) hH (Or.inl ⟨(a + 1 + 1, 9, none), by simp only [vh, k_3, k_34, k_65, k_81, cond_true, cond_false], by omega, rfl, rfl⟩) (Nat.le_of_ble_eq_true rfl) (Nat.le_of_ble_eq_true rfl) dX1_readBehindH_93
        · have hH : Hp D A s ([(h0, .inr (1, [.ref tx, .int (nI n), .int (nI (a + 1)), .ref dr])), (tx, .inl (D.1 10, 40, .inl (fun j => nI (t j)))), (dr, .inr (0, [.int (nI f0), .int (nI f1), .int (nI f2), .int (nI f3), .int (nI f4), .int (nI f5), .int (bI f6), .int (nI f7), .int (oI f8), .int (oI f9)]))]) H locs := hH
          refine W.eq (g2 := F0 m 84 ls [.int (nI 0)]) rfl ?_
          refine vn_if_eq (tgt := 94) C.x C.b dX1_readBehindH_84 (by decide) (by omega) (fun _ => ?_) (fun q => absurd q (by decide))
          refine lv_aload_n C.x C.b dX1_readBehindH_94 rfl (lv_at hl 0 rfl) ?_
          refine kV (As := []) (isC := [0, 1, 2]) (isR := []) (wr := []) C hK hH (c_takeSource l htr D H.size h0 tx dr t n (a + 1) f0 f1 f2 f3 f4 f5 f6 f7 f8 f9 hn (by omega) ht) ⟨rfl, rfl, rfl, rfl, by decide⟩ 0 rfl rfl tw_382 tw_384 ts_10 tw_2 kX1_takeSource ⟨by decide +kernel, by decide +kernel, (by decide +kernel : (parseMethodDescriptor yX1_takeSource.desc).map (fun d => d.parameters.length) = some 0)⟩ ⟨(Nat.le_of_ble_eq_true rfl), (Nat.le_of_ble_eq_true rfl)⟩ hl.1 (Nat.le_of_ble_eq_true rfl) dX1_readBehindH_95 ⟨(Nat.le_of_ble_eq_true rfl), (Nat.le_of_ble_eq_true rfl)⟩ (fun v9 w9 H locs hN hH => ?_) (fun _ _ _ _ _ _ h => False.elim h)
          rcases hN with ⟨s_95, k_95, kl_95, rfl, rfl⟩ | ⟨k_95, rfl, rfl⟩
          · have hH : Hp D A s ([(h0, .inr (1, [.ref tx, .int (nI n), .int (nI (a + 1 + 1)), .ref dr])), (tx, .inl (D.1 10, 40, .inl (fun j => nI (t j)))), (dr, .inr (0, [.int (nI f0), .int (nI f1), .int (nI f2), .int (nI s_95), .int (nI f4), .int (nI f5), .int (bI f6), .int (nI f7), .int (oI f8), .int (oI f9)]))]) H locs := hH
            refine W.eq (g2 := F0 m 98 ls [.int (nI 1)]) rfl ?_
            refine vn_if_ne (tgt := 103) C.x C.b dX1_readBehindH_98 (by decide) (by omega) (fun _ => ?_) (fun q => absurd q (by decide))
            refine lv_aload_n C.x C.b dX1_readBehindH_103 rfl (lv_at hl 0 rfl) ?_
            refine lv_bipush (v := nI 43) C.x C.b dX1_readBehindH_104 (by decide) ?_
            refine kV (As := [.int (nI 43)]) (isC := [0, 1, 2]) (isR := []) (wr := []) C hK hH (c_take l htr D H.size h0 tx dr t n (a + 1 + 1) f0 f1 f2 s_95 f4 f5 f6 f7 f8 f9 43 hn (by omega) ht (by omega)) ⟨rfl, rfl, rfl, rfl, by decide⟩ 0 rfl rfl tw_370 tw_372 ts_7 tw_2 kX1_take ⟨by decide +kernel, by decide +kernel, (by decide +kernel : (parseMethodDescriptor yX1_take.desc).map (fun d => d.parameters.length) = some 1)⟩ ⟨(Nat.le_of_ble_eq_true rfl), (Nat.le_of_ble_eq_true rfl)⟩ hl.1 (Nat.le_of_ble_eq_true rfl) dX1_readBehindH_106 ⟨(Nat.le_of_ble_eq_true rfl), (Nat.le_of_ble_eq_true rfl)⟩ (fun v9 w9 H locs hN hH => ?_) (fun _ _ _ _ _ _ h => False.elim h)
            rcases hN with ⟨k_106, kl_106, rfl, rfl⟩ | ⟨k_106, rfl, rfl⟩
            · have hH : Hp D A s ([(h0, .inr (1, [.ref tx, .int (nI n), .int (nI (a + 1 + 1 + 1)), .ref dr])), (tx, .inl (D.1 10, 40, .inl (fun j => nI (t j)))), (dr, .inr (0, [.int (nI f0), .int (nI f1), .int (nI f2), .int (nI s_95), .int (nI f4), .int (nI f5), .int (bI f6), .int (nI f7), .int (oI f8), .int (oI f9)]))]) H locs := hH
              refine W.eq (g2 := F0 m 109 ls [.int (nI 1)]) rfl ?_
              refine vn_if_eq (tgt := 138) C.x C.b dX1_readBehindH_109 (by decide) (by omega) (fun q => absurd q (by decide)) (fun _ => ?_)
              refine lv_aload_n C.x C.b dX1_readBehindH_112 rfl (lv_at hl 0 rfl) ?_
              refine lv_bipush (v := nI 49) C.x C.b dX1_readBehindH_113 (by decide) ?_
              refine kV (As := [.int (nI 49)]) (isC := [0, 1, 2]) (isR := []) (wr := []) C hK hH (c_take l htr D H.size h0 tx dr t n (a + 1 + 1 + 1) f0 f1 f2 s_95 f4 f5 f6 f7 f8 f9 49 hn (by omega) ht (by omega)) ⟨rfl, rfl, rfl, rfl, by decide⟩ 0 rfl rfl tw_370 tw_372 ts_7 tw_2 kX1_take ⟨by decide +kernel, by decide +kernel, (by decide +kernel : (parseMethodDescriptor yX1_take.desc).map (fun d => d.parameters.length) = some 1)⟩ ⟨(Nat.le_of_ble_eq_true rfl), (Nat.le_of_ble_eq_true rfl)⟩ hl.1 (Nat.le_of_ble_eq_true rfl) dX1_readBehindH_115 ⟨(Nat.le_of_ble_eq_true rfl), (Nat.le_of_ble_eq_true rfl)⟩ (fun v9 w9 H locs hN hH => ?_) (fun _ _ _ _ _ _ h => False.elim h)
              rcases hN with ⟨k_115, kl_115, rfl, rfl⟩ | ⟨k_115, rfl, rfl⟩
              · have hH : Hp D A s ([(h0, .inr (1, [.ref tx, .int (nI n), .int (nI (a + 1 + 1 + 1 + 1)), .ref dr])), (tx, .inl (D.1 10, 40, .inl (fun j => nI (t j)))), (dr, .inr (0, [.int (nI f0), .int (nI f1), .int (nI f2), .int (nI s_95), .int (nI f4), .int (nI f5), .int (bI f6), .int (nI f7), .int (oI f8), .int (oI f9)]))]) H locs := hH
                refine W.eq (g2 := F0 m 118 ls [.int (nI 1)]) rfl ?_
                refine vn_if_eq (tgt := 134) C.x C.b dX1_readBehindH_118 (by decide) (by omega) (fun q => absurd q (by decide)) (fun _ => ?_)
                refine lv_aload_n C.x C.b dX1_readBehindH_121 rfl (lv_at hl 0 rfl) ?_
                refine lv_bipush (v := nI 11) C.x C.b dX1_readBehindH_122 (by decide) ?_
                refine kV (As := [.int (nI 11)]) (isC := [0, 1, 2]) (isR := []) (wr := []) C hK hH (c_does l htr D H.size h0 tx dr t n (a + 1 + 1 + 1 + 1) f0 f1 f2 s_95 f4 f5 f6 f7 f8 f9 11 hn (by omega) ht) ⟨rfl, rfl, rfl, rfl, by decide⟩ 0 rfl rfl tw_378 tw_380 ts_9 tw_2 kX1_does ⟨by decide +kernel, by decide +kernel, (by decide +kernel : (parseMethodDescriptor yX1_does.desc).map (fun d => d.parameters.length) = some 1)⟩ ⟨(Nat.le_of_ble_eq_true rfl), (Nat.le_of_ble_eq_true rfl)⟩ hl.1 (Nat.le_of_ble_eq_true rfl) dX1_readBehindH_124 ⟨(Nat.le_of_ble_eq_true rfl), (Nat.le_of_ble_eq_true rfl)⟩ (fun v9 w9 H locs hN hH => ?_) (fun _ _ _ _ _ _ h => False.elim h)
                obtain ⟨rfl, rfl⟩ := hN
                have hH : Hp D A s ([(h0, .inr (1, [.ref tx, .int (nI n), .int (nI (a + 1 + 1 + 1 + 1)), .ref dr])), (tx, .inl (D.1 10, 40, .inl (fun j => nI (t j)))), (dr, .inr (0, [.int (nI f0), .int (nI f1), .int (nI 11), .int (nI s_95), .int (nI f4), .int (nI f5), .int (bI f6), .int (nI f7), .int (oI f8), .int (oI f9)]))]) H locs := hH
                refine W.eq (g2 := F0 m 127 ls [.int (nI 1)]) rfl ?_
                refine vn_if_eq (tgt := 134) C.x C.b dX1_readBehindH_127 (by decide) (by omega) (fun q => absurd q (by decide)) (fun _ => ?_)
                refine lv_iconst (v := nI 1) C.x C.b dX1_readBehindH_130 (by decide) ?_
                refine lv_goto (tgt := 144) C.x C.b dX1_readBehindH_131 (by decide) ?_
                exact rZ C hr (by decide) hH (Or.inl ⟨(a + 1 + 1 + 1 + 1, 11, some s_95), by simp only [vh, k_3, k_34, k_65, k_81, k_95, k_106, k_115, cond_true, cond_false], by omega, rfl, rfl⟩) (Nat.le_of_ble_eq_true rfl) (Nat.le_of_ble_eq_true rfl) dX1_readBehindH_144
              · have hH : Hp D A s ([(h0, .inr (1, [.ref tx, .int (nI n), .int (nI (a + 1 + 1 + 1)), .ref dr])), (tx, .inl (D.1 10, 40, .inl (fun j => nI (t j)))), (dr, .inr (0, [.int (nI f0), .int (nI f1), .int (nI f2), .int (nI s_95), .int (nI f4), .int (nI f5), .int (bI f6), .int (nI f7), .int (oI f8), .int (oI f9)]))]) H locs := hH
                refine W.eq (g2 := F0 m 118 ls [.int (nI 0)]) rfl ?_
                refine vn_if_eq (tgt := 134) C.x C.b dX1_readBehindH_118 (by decide) (by omega) (fun _ => ?_) (fun q => absurd q (by decide))
                refine lv_iconst (v := nI 0) C.x C.b dX1_readBehindH_134 (by decide) ?_
                refine lv_goto (tgt := 144) C.x C.b dX1_readBehindH_135 (by decide) ?_
                exact rZ C hr (by decide) hH (Or.inr ⟨a + 1 + 1 + 1, f2, s_95, by simp only [vh, k_3, k_34, k_65, k_81, k_95, k_106, k_115, cond_true, cond_false], by omega, rfl, rfl⟩) (Nat.le_of_ble_eq_true rfl) (Nat.le_of_ble_eq_true rfl) dX1_readBehindH_144
            · have hH : Hp D A s ([(h0, .inr (1, [.ref tx, .int (nI n), .int (nI (a + 1 + 1)), .ref dr])), (tx, .inl (D.1 10, 40, .inl (fun j => nI (t j)))), (dr, .inr (0, [.int (nI f0), .int (nI f1), .int (nI f2), .int (nI s_95), .int (nI f4), .int (nI f5), .int (bI f6), .int (nI f7), .int (oI f8), .int (oI f9)]))]) H locs := hH
              refine W.eq (g2 := F0 m 109 ls [.int (nI 0)]) rfl ?_
              refine vn_if_eq (tgt := 138) C.x C.b dX1_readBehindH_109 (by decide) (by omega) (fun _ => ?_) (fun q => absurd q (by decide))
              refine lv_aload_n C.x C.b dX1_readBehindH_138 rfl (lv_at hl 0 rfl) ?_
              refine lv_bipush (v := nI 10) C.x C.b dX1_readBehindH_139 (by decide) ?_
              refine kV (As := [.int (nI 10)]) (isC := [0, 1, 2]) (isR := []) (wr := []) C hK hH (c_does l htr D H.size h0 tx dr t n (a + 1 + 1) f0 f1 f2 s_95 f4 f5 f6 f7 f8 f9 10 hn (by omega) ht) ⟨rfl, rfl, rfl, rfl, by decide⟩ 0 rfl rfl tw_378 tw_380 ts_9 tw_2 kX1_does ⟨by decide +kernel, by decide +kernel, (by decide +kernel : (parseMethodDescriptor yX1_does.desc).map (fun d => d.parameters.length) = some 1)⟩ ⟨(Nat.le_of_ble_eq_true rfl), (Nat.le_of_ble_eq_true rfl)⟩ hl.1 (Nat.le_of_ble_eq_true rfl) dX1_readBehindH_141 ⟨(Nat.le_of_ble_eq_true rfl), (Nat.le_of_ble_eq_true rfl)⟩ (fun v9 w9 H locs hN hH => ?_) (fun _ _ _ _ _ _ h => False.elim h)
              obtain ⟨rfl, rfl⟩ := hN
              have hH : Hp D A s ([(h0, .inr (1, [.ref tx, .int (nI n), .int (nI (a + 1 + 1)), .ref dr])), (tx, .inl (D.1 10, 40, .inl (fun j => nI (t j)))), (dr, .inr (0, [.int (nI f0), .int (nI f1), .int (nI 10), .int (nI s_95), .int (nI f4), .int (nI f5), .int (bI f6), .int (nI f7), .int (oI f8), .int (oI f9)]))]) H locs := hH
              refine W.eq (g2 := F0 m 144 ls [.int (nI 1)]) rfl ?_
              exact rZ C hr (by decide) hH (Or.inl ⟨(a + 1 + 1, 10, some s_95), by simp only [vh, k_3, k_34, k_65, k_81, k_95, k_106, cond_true, cond_false], by omega, rfl, rfl⟩) (Nat.le_of_ble_eq_true rfl) (Nat.le_of_ble_eq_true rfl) dX1_readBehindH_144
          · have hH : Hp D A s ([(h0, .inr (1, [.ref tx, .int (nI n), .int (nI (a + 1)), .ref dr])), (tx, .inl (D.1 10, 40, .inl (fun j => nI (t j)))), (dr, .inr (0, [.int (nI f0), .int (nI f1), .int (nI f2), .int (nI f3), .int (nI f4), .int (nI f5), .int (bI f6), .int (nI f7), .int (oI f8), .int (oI f9)]))]) H locs := hH
            refine W.eq (g2 := F0 m 98 ls [.int (nI 0)]) rfl ?_
            refine vn_if_ne (tgt := 103) C.x C.b dX1_readBehindH_98 (by decide) (by omega) (fun q => absurd q (by decide)) (fun _ => ?_)
            refine lv_iconst (v := nI 0) C.x C.b dX1_readBehindH_101 (by decide) ?_
            exact rZ C hr (by decide) hH (Or.inr ⟨a + 1, f2, f3, by simp only [vh, k_3, k_34, k_65, k_81, k_95, cond_true, cond_false], by omega, rfl, rfl⟩) (Nat.le_of_ble_eq_true rfl) (Nat.le_of_ble_eq_true rfl) dX1_readBehindH_102
      · have hH : Hp D A s ([(h0, .inr (1, [.ref tx, .int (nI n), .int (nI a), .ref dr])), (tx, .inl (D.1 10, 40, .inl (fun j => nI (t j)))), (dr, .inr (0, [.int (nI f0), .int (nI f1), .int (nI f2), .int (nI f3), .int (nI f4), .int (nI f5), .int (bI f6), .int (nI f7), .int (oI f8), .int (oI f9)]))]) H locs := hH
        refine W.eq (g2 := F0 m 68 ls [.int (nI 0)]) rfl ?_
        refine vn_if_ne (tgt := 78) C.x C.b dX1_readBehindH_68 (by decide) (by omega) (fun q => absurd q (by decide)) (fun _ => ?_)
        refine lv_aload_n C.x C.b dX1_readBehindH_71 rfl (lv_at hl 0 rfl) ?_
        refine lv_bipush (v := nI 8) C.x C.b dX1_readBehindH_72 (by decide) ?_
        refine kV (As := [.int (nI 8)]) (isC := [0, 1, 2]) (isR := []) (wr := []) C hK hH (c_does l htr D H.size h0 tx dr t n a f0 f1 f2 f3 f4 f5 f6 f7 f8 f9 8 hn (by omega) ht) ⟨rfl, rfl, rfl, rfl, by decide⟩ 0 rfl rfl tw_378 tw_380 ts_9 tw_2 kX1_does ⟨by decide +kernel, by decide +kernel, (by decide +kernel : (parseMethodDescriptor yX1_does.desc).map (fun d => d.parameters.length) = some 1)⟩ ⟨(Nat.le_of_ble_eq_true rfl), (Nat.le_of_ble_eq_true rfl)⟩ hl.1 (Nat.le_of_ble_eq_true rfl) dX1_readBehindH_74 ⟨(Nat.le_of_ble_eq_true rfl), (Nat.le_of_ble_eq_true rfl)⟩ (fun v9 w9 H locs hN hH => ?_) (fun _ _ _ _ _ _ h => False.elim h)
        obtain ⟨rfl, rfl⟩ := hN
        have hH : Hp D A s ([(h0, .inr (1, [.ref tx, .int (nI n), .int (nI a), .ref dr])), (tx, .inl (D.1 10, 40, .inl (fun j => nI (t j)))), (dr, .inr (0, [.int (nI f0), .int (nI f1), .int (nI 8), .int (nI f3), .int (nI f4), .int (nI f5), .int (bI f6), .int (nI f7), .int (oI f8), .int (oI f9)]))]) H locs := hH
        refine W.eq (g2 := F0 m 77 ls [.int (nI 1)]) rfl ?_
        exact rZ C hr (by decide) hH (Or.inl ⟨(a, 8, none), by simp only [vh, k_3, k_34, k_65, cond_true, cond_false], by omega, rfl, rfl⟩) (Nat.le_of_ble_eq_true rfl) (Nat.le_of_ble_eq_true rfl) dX1_readBehindH_77
set_option maxHeartbeats 4000000 in
set_option maxRecDepth 100000 in
theorem c_readBehindSource (l : Launch) (htr : l.stackTraces = false) (D : va_G) (sz : Nat) (h0 tx dr : Nat) (t : Nat → Nat) (n a : Nat) (f0 f1 f2 f3 f4 f5 : Nat) (f6 : Bool) (f7 : Nat) (f8 f9 : Option Nat) (hn : n ≤ 40) (ha : a ≤ n) (ht : ∀ j, t j < 128) : Ct l yX1_readBehindSource wX1_readBehindSource { frames := 1, cells := 0, slots := 0, locals := 21 } D ([(h0, .inr (1, [.ref tx, .int (nI n), .int (nI a), .ref dr])), (tx, .inl (D.1 10, 40, .inl (fun j => nI (t j)))), (dr, .inr (0, [.int (nI f0), .int (nI f1), .int (nI f2), .int (nI f3), .int (nI f4), .int (nI f5), .int (bI f6), .int (nI f7), .int (oI f8), .int (oI f9)]))]) [.ref h0] sz (fun v w => (∃ q, vb t n a f3 = .inr q ∧ q.2.2 = some f3 ∧ q.1 ≤ n ∧ v = some (.int (nI 1)) ∧ w = [(h0, .inr (1, [.ref tx, .int (nI n), .int (nI q.1), .ref dr])), (tx, .inl (D.1 10, 40, .inl (fun j => nI (t j)))), (dr, .inr (0, [.int (nI f0), .int (nI f1), .int (nI q.2.1), .int (nI f3), .int (nI f4), .int (nI f5), .int (bI f6), .int (nI f7), .int (oI f8), .int (oI f9)]))]) ∨ (∃ a9 g2 g3, vb t n a f3 = .inl a9 ∧ a9 ≤ n ∧ v = some (.int (nI 0)) ∧ w = [(h0, .inr (1, [.ref tx, .int (nI n), .int (nI a9), .ref dr])), (tx, .inl (D.1 10, 40, .inl (fun j => nI (t j)))), (dr, .inr (0, [.int (nI f0), .int (nI f1), .int (nI g2), .int (nI g3), .int (nI f4), .int (nI f5), .int (bI f6), .int (nI f7), .int (oI f8), .int (oI f9)]))])) (nox) := by
  refine Ct.of (cc := cX1_readBehindSource) (nL := 1) (ret := (some .boolean)) (own := RX1) htr (by decide) rfl (Nat.le_of_ble_eq_true rfl) ?_
  intro p e s m args below meth c A C hr hK H locs hH ls hl
  have hl : lv_has ls 1 [(0, .ref h0)] := hl
  refine lv_aload_n C.x C.b dX1_readBehindSource_0 rfl (lv_at hl 0 rfl) ?_
  refine lv_bipush (v := nI 43) C.x C.b dX1_readBehindSource_1 (by decide) ?_
  refine kV (As := [.int (nI 43)]) (isC := [0, 1, 2]) (isR := []) (wr := []) C hK hH (c_take l htr D H.size h0 tx dr t n a f0 f1 f2 f3 f4 f5 f6 f7 f8 f9 43 hn (by omega) ht (by omega)) ⟨rfl, rfl, rfl, rfl, by decide⟩ 0 rfl rfl tw_370 tw_372 ts_7 tw_2 kX1_take ⟨by decide +kernel, by decide +kernel, (by decide +kernel : (parseMethodDescriptor yX1_take.desc).map (fun d => d.parameters.length) = some 1)⟩ ⟨(Nat.le_of_ble_eq_true rfl), (Nat.le_of_ble_eq_true rfl)⟩ hl.1 (Nat.le_of_ble_eq_true rfl) dX1_readBehindSource_3 ⟨(Nat.le_of_ble_eq_true rfl), (Nat.le_of_ble_eq_true rfl)⟩ (fun v9 w9 H locs hN hH => ?_) (fun _ _ _ _ _ _ h => False.elim h)
  rcases hN with ⟨k_3, kl_3, rfl, rfl⟩ | ⟨k_3, rfl, rfl⟩
  · have hH : Hp D A s ([(h0, .inr (1, [.ref tx, .int (nI n), .int (nI (a + 1)), .ref dr])), (tx, .inl (D.1 10, 40, .inl (fun j => nI (t j)))), (dr, .inr (0, [.int (nI f0), .int (nI f1), .int (nI f2), .int (nI f3), .int (nI f4), .int (nI f5), .int (bI f6), .int (nI f7), .int (oI f8), .int (oI f9)]))]) H locs := hH
    refine W.eq (g2 := F0 m 6 ls [.int (nI 1)]) rfl ?_
    refine vn_if_eq (tgt := 32) C.x C.b dX1_readBehindSource_6 (by decide) (by omega) (fun q => absurd q (by decide)) (fun _ => ?_)
    refine lv_aload_n C.x C.b dX1_readBehindSource_9 rfl (lv_at hl 0 rfl) ?_
    refine lv_bipush (v := nI 49) C.x C.b dX1_readBehindSource_10 (by decide) ?_
    refine kV (As := [.int (nI 49)]) (isC := [0, 1, 2]) (isR := []) (wr := []) C hK hH (c_take l htr D H.size h0 tx dr t n (a + 1) f0 f1 f2 f3 f4 f5 f6 f7 f8 f9 49 hn (by omega) ht (by omega)) ⟨rfl, rfl, rfl, rfl, by decide⟩ 0 rfl rfl tw_370 tw_372 ts_7 tw_2 kX1_take ⟨by decide +kernel, by decide +kernel, (by decide +kernel : (parseMethodDescriptor yX1_take.desc).map (fun d => d.parameters.length) = some 1)⟩ ⟨(Nat.le_of_ble_eq_true rfl), (Nat.le_of_ble_eq_true rfl)⟩ hl.1 (Nat.le_of_ble_eq_true rfl) dX1_readBehindSource_12 ⟨(Nat.le_of_ble_eq_true rfl), (Nat.le_of_ble_eq_true rfl)⟩ (fun v9 w9 H locs hN hH => ?_) (fun _ _ _ _ _ _ h => False.elim h)
    rcases hN with ⟨k_12, kl_12, rfl, rfl⟩ | ⟨k_12, rfl, rfl⟩
    · have hH : Hp D A s ([(h0, .inr (1, [.ref tx, .int (nI n), .int (nI (a + 1 + 1)), .ref dr])), (tx, .inl (D.1 10, 40, .inl (fun j => nI (t j)))), (dr, .inr (0, [.int (nI f0), .int (nI f1), .int (nI f2), .int (nI f3), .int (nI f4), .int (nI f5), .int (bI f6), .int (nI f7), .int (oI f8), .int (oI f9)]))]) H locs := hH
      refine W.eq (g2 := F0 m 15 ls [.int (nI 1)]) rfl ?_
      refine vn_if_eq (tgt := 30) C.x C.b dX1_readBehindSource_15 (by decide) (by omega) (fun q => absurd q (by decide)) (fun _ => ?_)
      refine lv_aload_n C.x C.b dX1_readBehindSource_18 rfl (lv_at hl 0 rfl) ?_
      refine lv_iconst (v := nI 4) C.x C.b dX1_readBehindSource_19 (by decide) ?_
      refine kV (As := [.int (nI 4)]) (isC := [0, 1, 2]) (isR := []) (wr := []) C hK hH (c_does l htr D H.size h0 tx dr t n (a + 1 + 1) f0 f1 f2 f3 f4 f5 f6 f7 f8 f9 4 hn (by omega) ht) ⟨rfl, rfl, rfl, rfl, by decide⟩ 0 rfl rfl tw_378 tw_380 ts_9 tw_2 kX1_does ⟨by decide +kernel, by decide +kernel, (by decide +kernel : (parseMethodDescriptor yX1_does.desc).map (fun d => d.parameters.length) = some 1)⟩ ⟨(Nat.le_of_ble_eq_true rfl), (Nat.le_of_ble_eq_true rfl)⟩ hl.1 (Nat.le_of_ble_eq_true rfl) dX1_readBehindSource_20 ⟨(Nat.le_of_ble_eq_true rfl), (Nat.le_of_ble_eq_true rfl)⟩ (fun v9 w9 H locs hN hH => ?_) (fun _ _ _ _ _ _ h => False.elim h)
      obtain ⟨rfl, rfl⟩ := hN
      have hH : Hp D A s ([(h0, .inr (1, [.ref tx, .int (nI n), .int (nI (a + 1 + 1)), .ref dr])), (tx, .inl (D.1 10, 40, .inl (fun j => nI (t j)))), (dr, .inr (0, [.int (nI f0), .int (nI f1), .int (nI 4), .int (nI f3), .int (nI f4), .int (nI f5), .int (bI f6), .int (nI f7), .int (oI f8), .int (oI f9)]))]) H locs := hH
      refine W.eq (g2 := F0 m 23 ls [.int (nI 1)]) rfl ?_
      refine vn_if_eq (tgt := 30) C.x C.b dX1_readBehindSource_23 (by decide) (by omega) (fun q => absurd q (by decide)) (fun _ => ?_)
      refine lv_iconst (v := nI 1) C.x C.b dX1_readBehindSource_26 (by decide) ?_
      refine lv_goto (tgt := 31) C.x C.b dX1_readBehindSource_27 (by decide) ?_
      exact rZ C hr (by decide) hH (Or.inl ⟨(a + 1 + 1, 4, some f3), by simp only [vb, k_3, k_12, cond_true, cond_false], rfl, by omega, rfl, rfl⟩) (Nat.le_of_ble_eq_true rfl) (Nat.le_of_ble_eq_true rfl) dX1_readBehindSource_31
    · have hH : Hp D A s ([(h0, .inr (1, [.ref tx, .int (nI n), .int (nI (a + 1)), .ref dr])), (tx, .inl (D.1 10, 40, .inl (fun j => nI (t j)))), (dr, .inr (0, [.int (nI f0), .int (nI f1), .int (nI f2), .int (nI f3), .int (nI f4), .int (nI f5), .int (bI f6), .int (nI f7), .int (oI f8), .int (oI f9)]))]) H locs := hH
      refine W.eq (g2 := F0 m 15 ls [.int (nI 0)]) rfl ?_
      refine vn_if_eq (tgt := 30) C.x C.b dX1_readBehindSource_15 (by decide) (by omega) (fun _ => ?_) (fun q => absurd q (by decide))
      refine lv_iconst (v := nI 0) C.x C.b dX1_readBehindSource_30 (by decide) ?_
      exact rZ C hr (by decide) hH (Or.inr ⟨a + 1, f2, f3, by simp only [vb, k_3, k_12, cond_true, cond_false], by omega, rfl, rfl⟩) (Nat.le_of_ble_eq_true rfl) (Nat.le_of_ble_eq_true rfl) dX1_readBehindSource_31
  · have hH : Hp D A s ([(h0, .inr (1, [.ref tx, .int (nI n), .int (nI a), .ref dr])), (tx, .inl (D.1 10, 40, .inl (fun j => nI (t j)))), (dr, .inr (0, [.int (nI f0), .int (nI f1), .int (nI f2), .int (nI f3), .int (nI f4), .int (nI f5), .int (bI f6), .int (nI f7), .int (oI f8), .int (oI f9)]))]) H locs := hH
    refine W.eq (g2 := F0 m 6 ls [.int (nI 0)]) rfl ?_
    refine vn_if_eq (tgt := 32) C.x C.b dX1_readBehindSource_6 (by decide) (by omega) (fun _ => ?_) (fun q => absurd q (by decide))
    refine lv_aload_n C.x C.b dX1_readBehindSource_32 rfl (lv_at hl 0 rfl) ?_
    refine lv_bipush (v := nI 45) C.x C.b dX1_readBehindSource_33 (by decide) ?_
    refine kV (As := [.int (nI 45)]) (isC := [0, 1, 2]) (isR := []) (wr := []) C hK hH (c_take l htr D H.size h0 tx dr t n a f0 f1 f2 f3 f4 f5 f6 f7 f8 f9 45 hn (by omega) ht (by omega)) ⟨rfl, rfl, rfl, rfl, by decide⟩ 0 rfl rfl tw_370 tw_372 ts_7 tw_2 kX1_take ⟨by decide +kernel, by decide +kernel, (by decide +kernel : (parseMethodDescriptor yX1_take.desc).map (fun d => d.parameters.length) = some 1)⟩ ⟨(Nat.le_of_ble_eq_true rfl), (Nat.le_of_ble_eq_true rfl)⟩ hl.1 (Nat.le_of_ble_eq_true rfl) dX1_readBehindSource_35 ⟨(Nat.le_of_ble_eq_true rfl), (Nat.le_of_ble_eq_true rfl)⟩ (fun v9 w9 H locs hN hH => ?_) (fun _ _ _ _ _ _ h => False.elim h)
    rcases hN with ⟨k_35, kl_35, rfl, rfl⟩ | ⟨k_35, rfl, rfl⟩
    · have hH : Hp D A s ([(h0, .inr (1, [.ref tx, .int (nI n), .int (nI (a + 1)), .ref dr])), (tx, .inl (D.1 10, 40, .inl (fun j => nI (t j)))), (dr, .inr (0, [.int (nI f0), .int (nI f1), .int (nI f2), .int (nI f3), .int (nI f4), .int (nI f5), .int (bI f6), .int (nI f7), .int (oI f8), .int (oI f9)]))]) H locs := hH
      refine W.eq (g2 := F0 m 38 ls [.int (nI 1)]) rfl ?_
      refine vn_if_eq (tgt := 82) C.x C.b dX1_readBehindSource_38 (by decide) (by omega) (fun q => absurd q (by decide)) (fun _ => ?_)
      refine lv_aload_n C.x C.b dX1_readBehindSource_41 rfl (lv_at hl 0 rfl) ?_
      refine lv_bipush (v := nI 49) C.x C.b dX1_readBehindSource_42 (by decide) ?_
      refine kV (As := [.int (nI 49)]) (isC := [0, 1, 2]) (isR := []) (wr := []) C hK hH (c_take l htr D H.size h0 tx dr t n (a + 1) f0 f1 f2 f3 f4 f5 f6 f7 f8 f9 49 hn (by omega) ht (by omega)) ⟨rfl, rfl, rfl, rfl, by decide⟩ 0 rfl rfl tw_370 tw_372 ts_7 tw_2 kX1_take ⟨by decide +kernel, by decide +kernel, (by decide +kernel : (parseMethodDescriptor yX1_take.desc).map (fun d => d.parameters.length) = some 1)⟩ ⟨(Nat.le_of_ble_eq_true rfl), (Nat.le_of_ble_eq_true rfl)⟩ hl.1 (Nat.le_of_ble_eq_true rfl) dX1_readBehindSource_44 ⟨(Nat.le_of_ble_eq_true rfl), (Nat.le_of_ble_eq_true rfl)⟩ (fun v9 w9 H locs hN hH => ?_) (fun _ _ _ _ _ _ h => False.elim h)
      rcases hN with ⟨k_44, kl_44, rfl, rfl⟩ | ⟨k_44, rfl, rfl⟩
      · have hH : Hp D A s ([(h0, .inr (1, [.ref tx, .int (nI n), .int (nI (a + 1 + 1)), .ref dr])), (tx, .inl (D.1 10, 40, .inl (fun j => nI (t j)))), (dr, .inr (0, [.int (nI f0), .int (nI f1), .int (nI f2), .int (nI f3), .int (nI f4), .int (nI f5), .int (bI f6), .int (nI f7), .int (oI f8), .int (oI f9)]))]) H locs := hH
        refine W.eq (g2 := F0 m 47 ls [.int (nI 1)]) rfl ?_
        refine vn_if_eq (tgt := 58) C.x C.b dX1_readBehindSource_47 (by decide) (by omega) (fun q => absurd q (by decide)) (fun _ => ?_)
        refine lv_aload_n C.x C.b dX1_readBehindSource_50 rfl (lv_at hl 0 rfl) ?_
        refine lv_iconst (v := nI 5) C.x C.b dX1_readBehindSource_51 (by decide) ?_
        refine kV (As := [.int (nI 5)]) (isC := [0, 1, 2]) (isR := []) (wr := []) C hK hH (c_does l htr D H.size h0 tx dr t n (a + 1 + 1) f0 f1 f2 f3 f4 f5 f6 f7 f8 f9 5 hn (by omega) ht) ⟨rfl, rfl, rfl, rfl, by decide⟩ 0 rfl rfl tw_378 tw_380 ts_9 tw_2 kX1_does ⟨by decide +kernel, by decide +kernel, (by decide +kernel : (parseMethodDescriptor yX1_does.desc).map (fun d => d.parameters.length) = some 1)⟩ ⟨(Nat.le_of_ble_eq_true rfl), (Nat.le_of_ble_eq_true rfl)⟩ hl.1 (Nat.le_of_ble_eq_true rfl) dX1_readBehindSource_52 ⟨(Nat.le_of_ble_eq_true rfl), (Nat.le_of_ble_eq_true rfl)⟩ (fun v9 w9 H locs hN hH => ?_) (fun _ _ _ _ _ _ h => False.elim h)
        obtain ⟨rfl, rfl⟩ := hN
        have hH : Hp D A s ([(h0, .inr (1, [.ref tx, .int (nI n), .int (nI (a + 1 + 1)), .ref dr])), (tx, .inl (D.1 10, 40, .inl (fun j => nI (t j)))), (dr, .inr (0, [.int (nI f0), .int (nI f1), .int (nI 5), .int (nI f3), .int (nI f4), .int (nI f5), .int (bI f6), .int (nI f7), .int (oI f8), .int (oI f9)]))]) H locs := hH
        refine W.eq (g2 := F0 m 55 ls [.int (nI 1)]) rfl ?_
        refine lv_goto (tgt := 81) C.x C.b dX1_readBehindSource_55 (by decide) ?_
        exact rZ C hr (by decide) hH (Or.inl ⟨(a + 1 + 1, 5, some f3), by simp only [vb, k_3, k_35, k_44, cond_true, cond_false], rfl, by omega, rfl, rfl⟩) (Nat.le_of_ble_eq_true rfl) (Nat.le_of_ble_eq_true rfl) dX1_readBehindSource_81
      · have hH : Hp D A s ([(h0, .inr (1, [.ref tx, .int (nI n), .int (nI (a + 1)), .ref dr])), (tx, .inl (D.1 10, 40, .inl (fun j => nI (t j)))), (dr, .inr (0, [.int (nI f0), .int (nI f1), .int (nI f2), .int (nI f3), .int (nI f4), .int (nI f5), .int (bI f6), .int (nI f7), .int (oI f8), .int (oI f9)]))]) H locs := hH
        refine W.eq (g2 := F0 m 47 ls [.int (nI 0)]) rfl ?_
        refine vn_if_eq (tgt := 58) C.x C.b dX1_readBehindSource_47 (by decide) (by omega) (fun _ => ?_) (fun q => absurd q (by decide))
        refine lv_aload_n C.x C.b dX1_readBehindSource_58 rfl (lv_at hl 0 rfl) ?_
        refine lv_bipush (v := nI 72) C.x C.b dX1_readBehindSource_59 (by decide) ?_
        refine kV (As := [.int (nI 72)]) (isC := [0, 1, 2]) (isR := []) (wr := []) C hK hH (c_take l htr D H.size h0 tx dr t n (a + 1) f0 f1 f2 f3 f4 f5 f6 f7 f8 f9 72 hn (by omega) ht (by omega)) ⟨rfl, rfl, rfl, rfl, by decide⟩ 0 rfl rfl tw_370 tw_372 ts_7 tw_2 kX1_take ⟨by decide +kernel, by decide +kernel, (by decide +kernel : (parseMethodDescriptor yX1_take.desc).map (fun d => d.parameters.length) = some 1)⟩ ⟨(Nat.le_of_ble_eq_true rfl), (Nat.le_of_ble_eq_true rfl)⟩ hl.1 (Nat.le_of_ble_eq_true rfl) dX1_readBehindSource_61 ⟨(Nat.le_of_ble_eq_true rfl), (Nat.le_of_ble_eq_true rfl)⟩ (fun v9 w9 H locs hN hH => ?_) (fun _ _ _ _ _ _ h => False.elim h)
        rcases hN with ⟨k_61, kl_61, rfl, rfl⟩ | ⟨k_61, rfl, rfl⟩
        · have hH : Hp D A s ([(h0, .inr (1, [.ref tx, .int (nI n), .int (nI (a + 1 + 1)), .ref dr])), (tx, .inl (D.1 10, 40, .inl (fun j => nI (t j)))), (dr, .inr (0, [.int (nI f0), .int (nI f1), .int (nI f2), .int (nI f3), .int (nI f4), .int (nI f5), .int (bI f6), .int (nI f7), .int (oI f8), .int (oI f9)]))]) H locs := hH
          refine W.eq (g2 := F0 m 64 ls [.int (nI 1)]) rfl ?_
          refine vn_if_eq (tgt := 80) C.x C.b dX1_readBehindSource_64 (by decide) (by omega) (fun q => absurd q (by decide)) (fun _ => ?_)
          refine lv_aload_n C.x C.b dX1_readBehindSource_67 rfl (lv_at hl 0 rfl) ?_
          refine lv_bipush (v := nI 6) C.x C.b dX1_readBehindSource_68 (by decide) ?_
          refine kV (As := [.int (nI 6)]) (isC := [0, 1, 2]) (isR := []) (wr := []) C hK hH (c_does l htr D H.size h0 tx dr t n (a + 1 + 1) f0 f1 f2 f3 f4 f5 f6 f7 f8 f9 6 hn (by omega) ht) ⟨rfl, rfl, rfl, rfl, by decide⟩ 0 rfl rfl tw_378 tw_380 ts_9 tw_2 kX1_does ⟨by decide +kernel, by decide +kernel, (by decide +kernel : (parseMethodDescriptor yX1_does.desc).map (fun d => d.parameters.length) = some 1)⟩ ⟨(Nat.le_of_ble_eq_true rfl), (Nat.le_of_ble_eq_true rfl)⟩ hl.1 (Nat.le_of_ble_eq_true rfl) dX1_readBehindSource_70 ⟨(Nat.le_of_ble_eq_true rfl), (Nat.le_of_ble_eq_true rfl)⟩ (fun v9 w9 H locs hN hH => ?_) (fun _ _ _ _ _ _ h => False.elim h)
          obtain ⟨rfl, rfl⟩ := hN
          have hH : Hp D A s ([(h0, .inr (1, [.ref tx, .int (nI n), .int (nI (a + 1 + 1)), .ref dr])), (tx, .inl (D.1 10, 40, .inl (fun j => nI (t j)))), (dr, .inr (0, [.int (nI f0), .int (nI f1), .int (nI 6), .int (nI f3), .int (nI f4), .int (nI f5), .int (bI f6), .int (nI f7), .int (oI f8), .int (oI f9)]))]) H locs := hH
          refine W.eq (g2 := F0 m 73 ls [.int (nI 1)]) rfl ?_
          refine vn_if_eq (tgt := 80) C.x C.b dX1_readBehindSource_73 (by decide) (by omega) (fun q => absurd q (by decide)) (fun _ => ?_)
          refine lv_iconst (v := nI 1) C.x C.b dX1_readBehindSource_76 (by decide) ?_
          refine lv_goto (tgt := 81) C.x C.b dX1_readBehindSource_77 (by decide) ?_
          exact rZ C hr (by decide) hH (Or.inl ⟨(a + 1 + 1, 6, some f3), by simp only [vb, k_3, k_35, k_44, k_61, cond_true, cond_false], rfl, by omega, rfl, rfl⟩) (Nat.le_of_ble_eq_true rfl) (Nat.le_of_ble_eq_true rfl) dX1_readBehindSource_81
        · have hH : Hp D A s ([(h0, .inr (1, [.ref tx, .int (nI n), .int (nI (a + 1)), .ref dr])), (tx, .inl (D.1 10, 40, .inl (fun j => nI (t j)))), (dr, .inr (0, [.int (nI f0), .int (nI f1), .int (nI f2), .int (nI f3), .int (nI f4), .int (nI f5), .int (bI f6), .int (nI f7), .int (oI f8), .int (oI f9)]))]) H locs := hH
          refine W.eq (g2 := F0 m 64 ls [.int (nI 0)]) rfl ?_
          refine vn_if_eq (tgt := 80) C.x C.b dX1_readBehindSource_64 (by decide) (by omega) (fun _ => ?_) (fun q => absurd q (by decide))
          refine lv_iconst (v := nI 0) C.x C.b dX1_readBehindSource_80 (by decide) ?_
          exact rZ C hr (by decide) hH (Or.inr ⟨a + 1, f2, f3, by simp only [vb, k_3, k_35, k_44, k_61, cond_true, cond_false], by omega, rfl, rfl⟩) (Nat.le_of_ble_eq_true rfl) (Nat.le_of_ble_eq_true rfl) dX1_readBehindSource_81
    · have hH : Hp D A s ([(h0, .inr (1, [.ref tx, .int (nI n), .int (nI a), .ref dr])), (tx, .inl (D.1 10, 40, .inl (fun j => nI (t j)))), (dr, .inr (0, [.int (nI f0), .int (nI f1), .int (nI f2), .int (nI f3), .int (nI f4), .int (nI f5), .int (bI f6), .int (nI f7), .int (oI f8), .int (oI f9)]))]) H locs := hH
      refine W.eq (g2 := F0 m 38 ls [.int (nI 0)]) rfl ?_
      refine vn_if_eq (tgt := 82) C.x C.b dX1_readBehindSource_38 (by decide) (by omega) (fun _ => ?_) (fun q => absurd q (by decide))
      refine lv_aload_n C.x C.b dX1_readBehindSource_82 rfl (lv_at hl 0 rfl) ?_
      refine lv_iconst (v := nI 3) C.x C.b dX1_readBehindSource_83 (by decide) ?_
      refine kV (As := [.int (nI 3)]) (isC := [0, 1, 2]) (isR := []) (wr := []) C hK hH (c_does l htr D H.size h0 tx dr t n a f0 f1 f2 f3 f4 f5 f6 f7 f8 f9 3 hn (by omega) ht) ⟨rfl, rfl, rfl, rfl, by decide⟩ 0 rfl rfl tw_378 tw_380 ts_9 tw_2 kX1_does ⟨by decide +kernel, by decide +kernel, (by decide +kernel : (parseMethodDescriptor yX1_does.desc).map (fun d => d.parameters.length) = some 1)⟩ ⟨(Nat.le_of_ble_eq_true rfl), (Nat.le_of_ble_eq_true rfl)⟩ hl.1 (Nat.le_of_ble_eq_true rfl) dX1_readBehindSource_84 ⟨(Nat.le_of_ble_eq_true rfl), (Nat.le_of_ble_eq_true rfl)⟩ (fun v9 w9 H locs hN hH => ?_) (fun _ _ _ _ _ _ h => False.elim h)
      obtain ⟨rfl, rfl⟩ := hN
      have hH : Hp D A s ([(h0, .inr (1, [.ref tx, .int (nI n), .int (nI a), .ref dr])), (tx, .inl (D.1 10, 40, .inl (fun j => nI (t j)))), (dr, .inr (0, [.int (nI f0), .int (nI f1), .int (nI 3), .int (nI f3), .int (nI f4), .int (nI f5), .int (bI f6), .int (nI f7), .int (oI f8), .int (oI f9)]))]) H locs := hH
      refine W.eq (g2 := F0 m 87 ls [.int (nI 1)]) rfl ?_
      exact rZ C hr (by decide) hH (Or.inl ⟨(a, 3, some f3), by simp only [vb, k_3, k_35, cond_true, cond_false], rfl, by omega, rfl, rfl⟩) (Nat.le_of_ble_eq_true rfl) (Nat.le_of_ble_eq_true rfl) dX1_readBehindSource_87
set_option maxHeartbeats 4000000 in
set_option maxRecDepth 100000 in
theorem c_readValue (l : Launch) (htr : l.stackTraces = false) (D : va_G) (sz : Nat) (h0 tx dr : Nat) (t : Nat → Nat) (n a : Nat) (f0 f1 f2 f3 f4 f5 : Nat) (f6 : Bool) (f7 : Nat) (f8 f9 : Option Nat) (hn : n ≤ 40) (ha : a ≤ n) (ht : ∀ j, t j < 128) : Ct l yX1_readValue wX1_readValue { frames := 6, cells := 0, slots := 0, locals := 132 } D ([(h0, .inr (1, [.ref tx, .int (nI n), .int (nI a), .ref dr])), (tx, .inl (D.1 10, 40, .inl (fun j => nI (t j)))), (dr, .inr (0, [.int (nI f0), .int (nI f1), .int (nI f2), .int (nI f3), .int (nI f4), .int (nI f5), .int (bI f6), .int (nI f7), .int (oI f8), .int (oI f9)]))]) [.ref h0] sz (fun v w => (∃ q, vl t n a = .inr q ∧ q.1 ≤ n ∧ v = some (.int (nI 1)) ∧ w = [(h0, .inr (1, [.ref tx, .int (nI n), .int (nI q.1), .ref dr])), (tx, .inl (D.1 10, 40, .inl (fun j => nI (t j)))), (dr, .inr (0, [.int (nI f0), .int (nI f1), .int (nI q.2.1), .int (nI (q.2.2.getD f3)), .int (nI f4), .int (nI f5), .int (bI f6), .int (nI f7), .int (oI f8), .int (oI f9)]))]) ∨ (∃ a9 g2 g3, vl t n a = .inl a9 ∧ a9 ≤ n ∧ v = some (.int (nI 0)) ∧ w = [(h0, .inr (1, [.ref tx, .int (nI n), .int (nI a9), .ref dr])), (tx, .inl (D.1 10, 40, .inl (fun j => nI (t j)))), (dr, .inr (0, [.int (nI f0), .int (nI f1), .int (nI g2), .int (nI g3), .int (nI f4), .int (nI f5), .int (bI f6), .int (nI f7), .int (oI f8), .int (oI f9)]))])) (nox) := by
  refine Ct.of (cc := cX1_readValue) (nL := 1) (ret := (some .boolean)) (own := RX1) htr (by decide) rfl (Nat.le_of_ble_eq_true rfl) ?_
  intro p e s m args below meth c A C hr hK H locs hH ls hl
  have hl : lv_has ls 1 [(0, .ref h0)] := hl
  refine lv_aload_n C.x C.b dX1_readValue_0 rfl (lv_at hl 0 rfl) ?_
  refine lv_bipush (v := nI 48) C.x C.b dX1_readValue_1 (by decide) ?_
  refine kV (As := [.int (nI 48)]) (isC := [0, 1, 2]) (isR := []) (wr := []) C hK hH (c_take l htr D H.size h0 tx dr t n a f0 f1 f2 f3 f4 f5 f6 f7 f8 f9 48 hn (by omega) ht (by omega)) ⟨rfl, rfl, rfl, rfl, by decide⟩ 0 rfl rfl tw_370 tw_372 ts_7 tw_2 kX1_take ⟨by decide +kernel, by decide +kernel, (by decide +kernel : (parseMethodDescriptor yX1_take.desc).map (fun d => d.parameters.length) = some 1)⟩ ⟨(Nat.le_of_ble_eq_true rfl), (Nat.le_of_ble_eq_true rfl)⟩ hl.1 (Nat.le_of_ble_eq_true rfl) dX1_readValue_3 ⟨(Nat.le_of_ble_eq_true rfl), (Nat.le_of_ble_eq_true rfl)⟩ (fun v9 w9 H locs hN hH => ?_) (fun _ _ _ _ _ _ h => False.elim h)
  rcases hN with ⟨k_3, kl_3, rfl, rfl⟩ | ⟨k_3, rfl, rfl⟩
  · have hH : Hp D A s ([(h0, .inr (1, [.ref tx, .int (nI n), .int (nI (a + 1)), .ref dr])), (tx, .inl (D.1 10, 40, .inl (fun j => nI (t j)))), (dr, .inr (0, [.int (nI f0), .int (nI f1), .int (nI f2), .int (nI f3), .int (nI f4), .int (nI f5), .int (bI f6), .int (nI f7), .int (oI f8), .int (oI f9)]))]) H locs := hH
    refine W.eq (g2 := F0 m 6 ls [.int (nI 1)]) rfl ?_
    refine vn_if_eq (tgt := 15) C.x C.b dX1_readValue_6 (by decide) (by omega) (fun q => absurd q (by decide)) (fun _ => ?_)
    refine lv_aload_n C.x C.b dX1_readValue_9 rfl (lv_at hl 0 rfl) ?_
    refine lv_iconst (v := nI 0) C.x C.b dX1_readValue_10 (by decide) ?_
    refine kV (As := [.int (nI 0)]) (isC := [0, 1, 2]) (isR := []) (wr := []) C hK hH (c_does l htr D H.size h0 tx dr t n (a + 1) f0 f1 f2 f3 f4 f5 f6 f7 f8 f9 0 hn (by omega) ht) ⟨rfl, rfl, rfl, rfl, by decide⟩ 0 rfl rfl tw_378 tw_380 ts_9 tw_2 kX1_does ⟨by decide +kernel, by decide +kernel, (by decide +kernel : (parseMethodDescriptor yX1_does.desc).map (fun d => d.parameters.length) = some 1)⟩ ⟨(Nat.le_of_ble_eq_true rfl), (Nat.le_of_ble_eq_true rfl)⟩ hl.1 (Nat.le_of_ble_eq_true rfl) dX1_readValue_11 ⟨(Nat.le_of_ble_eq_true rfl), (Nat.le_of_ble_eq_true rfl)⟩ (fun v9 w9 H locs hN hH => ?_) (fun _ _ _ _ _ _ h => False.elim h)
    obtain ⟨rfl, rfl⟩ := hN
    have hH : Hp D A s ([(h0, .inr (1, [.ref tx, .int (nI n), .int (nI (a + 1)), .ref dr])), (tx, .inl (D.1 10, 40, .inl (fun j => nI (t j)))), (dr, .inr (0, [.int (nI f0), .int (nI f1), .int (nI 0), .int (nI f3), .int (nI f4), .int (nI f5), .int (bI f6), .int (nI f7), .int (oI f8), .int (oI f9)]))]) H locs := hH
    refine W.eq (g2 := F0 m 14 ls [.int (nI 1)]) rfl ?_
    exact rZ C hr (by decide) hH (Or.inl ⟨(a + 1, 0, none), by simp only [vl, k_3, cond_true, cond_false], by omega, rfl, rfl⟩) (Nat.le_of_ble_eq_true rfl) (Nat.le_of_ble_eq_true rfl) dX1_readValue_14
  · have hH : Hp D A s ([(h0, .inr (1, [.ref tx, .int (nI n), .int (nI a), .ref dr])), (tx, .inl (D.1 10, 40, .inl (fun j => nI (t j)))), (dr, .inr (0, [.int (nI f0), .int (nI f1), .int (nI f2), .int (nI f3), .int (nI f4), .int (nI f5), .int (bI f6), .int (nI f7), .int (oI f8), .int (oI f9)]))]) H locs := hH
    refine W.eq (g2 := F0 m 6 ls [.int (nI 0)]) rfl ?_
    refine vn_if_eq (tgt := 15) C.x C.b dX1_readValue_6 (by decide) (by omega) (fun _ => ?_) (fun q => absurd q (by decide))
    refine lv_aload_n C.x C.b dX1_readValue_15 rfl (lv_at hl 0 rfl) ?_
    refine lv_bipush (v := nI 49) C.x C.b dX1_readValue_16 (by decide) ?_
    refine kV (As := [.int (nI 49)]) (isC := [0, 1, 2]) (isR := []) (wr := []) C hK hH (c_take l htr D H.size h0 tx dr t n a f0 f1 f2 f3 f4 f5 f6 f7 f8 f9 49 hn (by omega) ht (by omega)) ⟨rfl, rfl, rfl, rfl, by decide⟩ 0 rfl rfl tw_370 tw_372 ts_7 tw_2 kX1_take ⟨by decide +kernel, by decide +kernel, (by decide +kernel : (parseMethodDescriptor yX1_take.desc).map (fun d => d.parameters.length) = some 1)⟩ ⟨(Nat.le_of_ble_eq_true rfl), (Nat.le_of_ble_eq_true rfl)⟩ hl.1 (Nat.le_of_ble_eq_true rfl) dX1_readValue_18 ⟨(Nat.le_of_ble_eq_true rfl), (Nat.le_of_ble_eq_true rfl)⟩ (fun v9 w9 H locs hN hH => ?_) (fun _ _ _ _ _ _ h => False.elim h)
    rcases hN with ⟨k_18, kl_18, rfl, rfl⟩ | ⟨k_18, rfl, rfl⟩
    · have hH : Hp D A s ([(h0, .inr (1, [.ref tx, .int (nI n), .int (nI (a + 1)), .ref dr])), (tx, .inl (D.1 10, 40, .inl (fun j => nI (t j)))), (dr, .inr (0, [.int (nI f0), .int (nI f1), .int (nI f2), .int (nI f3), .int (nI f4), .int (nI f5), .int (bI f6), .int (nI f7), .int (oI f8), .int (oI f9)]))]) H locs := hH
      refine W.eq (g2 := F0 m 21 ls [.int (nI 1)]) rfl ?_
      refine vn_if_eq (tgt := 30) C.x C.b dX1_readValue_21 (by decide) (by omega) (fun q => absurd q (by decide)) (fun _ => ?_)
      refine lv_aload_n C.x C.b dX1_readValue_24 rfl (lv_at hl 0 rfl) ?_
      refine lv_iconst (v := nI 1) C.x C.b dX1_readValue_25 (by decide) ?_
      refine kV (As := [.int (nI 1)]) (isC := [0, 1, 2]) (isR := []) (wr := []) C hK hH (c_does l htr D H.size h0 tx dr t n (a + 1) f0 f1 f2 f3 f4 f5 f6 f7 f8 f9 1 hn (by omega) ht) ⟨rfl, rfl, rfl, rfl, by decide⟩ 0 rfl rfl tw_378 tw_380 ts_9 tw_2 kX1_does ⟨by decide +kernel, by decide +kernel, (by decide +kernel : (parseMethodDescriptor yX1_does.desc).map (fun d => d.parameters.length) = some 1)⟩ ⟨(Nat.le_of_ble_eq_true rfl), (Nat.le_of_ble_eq_true rfl)⟩ hl.1 (Nat.le_of_ble_eq_true rfl) dX1_readValue_26 ⟨(Nat.le_of_ble_eq_true rfl), (Nat.le_of_ble_eq_true rfl)⟩ (fun v9 w9 H locs hN hH => ?_) (fun _ _ _ _ _ _ h => False.elim h)
      obtain ⟨rfl, rfl⟩ := hN
      have hH : Hp D A s ([(h0, .inr (1, [.ref tx, .int (nI n), .int (nI (a + 1)), .ref dr])), (tx, .inl (D.1 10, 40, .inl (fun j => nI (t j)))), (dr, .inr (0, [.int (nI f0), .int (nI f1), .int (nI 1), .int (nI f3), .int (nI f4), .int (nI f5), .int (bI f6), .int (nI f7), .int (oI f8), .int (oI f9)]))]) H locs := hH
      refine W.eq (g2 := F0 m 29 ls [.int (nI 1)]) rfl ?_
      exact rZ C hr (by decide) hH (Or.inl ⟨(a + 1, 1, none), by simp only [vl, k_3, k_18, cond_true, cond_false], by omega, rfl, rfl⟩) (Nat.le_of_ble_eq_true rfl) (Nat.le_of_ble_eq_true rfl) dX1_readValue_29
    · have hH : Hp D A s ([(h0, .inr (1, [.ref tx, .int (nI n), .int (nI a), .ref dr])), (tx, .inl (D.1 10, 40, .inl (fun j => nI (t j)))), (dr, .inr (0, [.int (nI f0), .int (nI f1), .int (nI f2), .int (nI f3), .int (nI f4), .int (nI f5), .int (bI f6), .int (nI f7), .int (oI f8), .int (oI f9)]))]) H locs := hH
      refine W.eq (g2 := F0 m 21 ls [.int (nI 0)]) rfl ?_
      refine vn_if_eq (tgt := 30) C.x C.b dX1_readValue_21 (by decide) (by omega) (fun _ => ?_) (fun q => absurd q (by decide))
      refine lv_aload_n C.x C.b dX1_readValue_30 rfl (lv_at hl 0 rfl) ?_
      refine lv_bipush (v := nI 45) C.x C.b dX1_readValue_31 (by decide) ?_
      refine kV (As := [.int (nI 45)]) (isC := [0, 1, 2]) (isR := []) (wr := []) C hK hH (c_take l htr D H.size h0 tx dr t n a f0 f1 f2 f3 f4 f5 f6 f7 f8 f9 45 hn (by omega) ht (by omega)) ⟨rfl, rfl, rfl, rfl, by decide⟩ 0 rfl rfl tw_370 tw_372 ts_7 tw_2 kX1_take ⟨by decide +kernel, by decide +kernel, (by decide +kernel : (parseMethodDescriptor yX1_take.desc).map (fun d => d.parameters.length) = some 1)⟩ ⟨(Nat.le_of_ble_eq_true rfl), (Nat.le_of_ble_eq_true rfl)⟩ hl.1 (Nat.le_of_ble_eq_true rfl) dX1_readValue_33 ⟨(Nat.le_of_ble_eq_true rfl), (Nat.le_of_ble_eq_true rfl)⟩ (fun v9 w9 H locs hN hH => ?_) (fun _ _ _ _ _ _ h => False.elim h)
      rcases hN with ⟨k_33, kl_33, rfl, rfl⟩ | ⟨k_33, rfl, rfl⟩
      · have hH : Hp D A s ([(h0, .inr (1, [.ref tx, .int (nI n), .int (nI (a + 1)), .ref dr])), (tx, .inl (D.1 10, 40, .inl (fun j => nI (t j)))), (dr, .inr (0, [.int (nI f0), .int (nI f1), .int (nI f2), .int (nI f3), .int (nI f4), .int (nI f5), .int (bI f6), .int (nI f7), .int (oI f8), .int (oI f9)]))]) H locs := hH
        refine W.eq (g2 := F0 m 36 ls [.int (nI 1)]) rfl ?_
        refine vn_if_eq (tgt := 80) C.x C.b dX1_readValue_36 (by decide) (by omega) (fun q => absurd q (by decide)) (fun _ => ?_)
        refine lv_aload_n C.x C.b dX1_readValue_39 rfl (lv_at hl 0 rfl) ?_
        refine lv_bipush (v := nI 49) C.x C.b dX1_readValue_40 (by decide) ?_
        refine kV (As := [.int (nI 49)]) (isC := [0, 1, 2]) (isR := []) (wr := []) C hK hH (c_take l htr D H.size h0 tx dr t n (a + 1) f0 f1 f2 f3 f4 f5 f6 f7 f8 f9 49 hn (by omega) ht (by omega)) ⟨rfl, rfl, rfl, rfl, by decide⟩ 0 rfl rfl tw_370 tw_372 ts_7 tw_2 kX1_take ⟨by decide +kernel, by decide +kernel, (by decide +kernel : (parseMethodDescriptor yX1_take.desc).map (fun d => d.parameters.length) = some 1)⟩ ⟨(Nat.le_of_ble_eq_true rfl), (Nat.le_of_ble_eq_true rfl)⟩ hl.1 (Nat.le_of_ble_eq_true rfl) dX1_readValue_42 ⟨(Nat.le_of_ble_eq_true rfl), (Nat.le_of_ble_eq_true rfl)⟩ (fun v9 w9 H locs hN hH => ?_) (fun _ _ _ _ _ _ h => False.elim h)
        rcases hN with ⟨k_42, kl_42, rfl, rfl⟩ | ⟨k_42, rfl, rfl⟩
        · have hH : Hp D A s ([(h0, .inr (1, [.ref tx, .int (nI n), .int (nI (a + 1 + 1)), .ref dr])), (tx, .inl (D.1 10, 40, .inl (fun j => nI (t j)))), (dr, .inr (0, [.int (nI f0), .int (nI f1), .int (nI f2), .int (nI f3), .int (nI f4), .int (nI f5), .int (bI f6), .int (nI f7), .int (oI f8), .int (oI f9)]))]) H locs := hH
          refine W.eq (g2 := F0 m 45 ls [.int (nI 1)]) rfl ?_
          refine vn_if_eq (tgt := 56) C.x C.b dX1_readValue_45 (by decide) (by omega) (fun q => absurd q (by decide)) (fun _ => ?_)
          refine lv_aload_n C.x C.b dX1_readValue_48 rfl (lv_at hl 0 rfl) ?_
          refine lv_iconst (v := nI 2) C.x C.b dX1_readValue_49 (by decide) ?_
          refine kV (As := [.int (nI 2)]) (isC := [0, 1, 2]) (isR := []) (wr := []) C hK hH (c_does l htr D H.size h0 tx dr t n (a + 1 + 1) f0 f1 f2 f3 f4 f5 f6 f7 f8 f9 2 hn (by omega) ht) ⟨rfl, rfl, rfl, rfl, by decide⟩ 0 rfl rfl tw_378 tw_380 ts_9 tw_2 kX1_does ⟨by decide +kernel, by decide +kernel, (by decide +kernel : (parseMethodDescriptor yX1_does.desc).map (fun d => d.parameters.length) = some 1)⟩ ⟨(Nat.le_of_ble_eq_true rfl), (Nat.le_of_ble_eq_true rfl)⟩ hl.1 (Nat.le_of_ble_eq_true rfl) dX1_readValue_50 ⟨(Nat.le_of_ble_eq_true rfl), (Nat.le_of_ble_eq_true rfl)⟩ (fun v9 w9 H locs hN hH => ?_) (fun _ _ _ _ _ _ h => False.elim h)
          obtain ⟨rfl, rfl⟩ := hN
          have hH : Hp D A s ([(h0, .inr (1, [.ref tx, .int (nI n), .int (nI (a + 1 + 1)), .ref dr])), (tx, .inl (D.1 10, 40, .inl (fun j => nI (t j)))), (dr, .inr (0, [.int (nI f0), .int (nI f1), .int (nI 2), .int (nI f3), .int (nI f4), .int (nI f5), .int (bI f6), .int (nI f7), .int (oI f8), .int (oI f9)]))]) H locs := hH
          refine W.eq (g2 := F0 m 53 ls [.int (nI 1)]) rfl ?_
          refine lv_goto (tgt := 79) C.x C.b dX1_readValue_53 (by decide) ?_
          exact rZ C hr (by decide) hH (Or.inl ⟨(a + 1 + 1, 2, none), by simp only [vl, k_3, k_18, k_33, k_42, cond_true, cond_false], by omega, rfl, rfl⟩) (Nat.le_of_ble_eq_true rfl) (Nat.le_of_ble_eq_true rfl) dX1_readValue_79
        · have hH : Hp D A s ([(h0, .inr (1, [.ref tx, .int (nI n), .int (nI (a + 1)), .ref dr])), (tx, .inl (D.1 10, 40, .inl (fun j => nI (t j)))), (dr, .inr (0, [.int (nI f0), .int (nI f1), .int (nI f2), .int (nI f3), .int (nI f4), .int (nI f5), .int (bI f6), .int (nI f7), .int (oI f8), .int (oI f9)]))]) H locs := hH
          refine W.eq (g2 := F0 m 45 ls [.int (nI 0)]) rfl ?_
          refine vn_if_eq (tgt := 56) C.x C.b dX1_readValue_45 (by decide) (by omega) (fun _ => ?_) (fun q => absurd q (by decide))
          refine lv_aload_n C.x C.b dX1_readValue_56 rfl (lv_at hl 0 rfl) ?_
          refine lv_bipush (v := nI 72) C.x C.b dX1_readValue_57 (by decide) ?_
          refine kV (As := [.int (nI 72)]) (isC := [0, 1, 2]) (isR := []) (wr := []) C hK hH (c_take l htr D H.size h0 tx dr t n (a + 1) f0 f1 f2 f3 f4 f5 f6 f7 f8 f9 72 hn (by omega) ht (by omega)) ⟨rfl, rfl, rfl, rfl, by decide⟩ 0 rfl rfl tw_370 tw_372 ts_7 tw_2 kX1_take ⟨by decide +kernel, by decide +kernel, (by decide +kernel : (parseMethodDescriptor yX1_take.desc).map (fun d => d.parameters.length) = some 1)⟩ ⟨(Nat.le_of_ble_eq_true rfl), (Nat.le_of_ble_eq_true rfl)⟩ hl.1 (Nat.le_of_ble_eq_true rfl) dX1_readValue_59 ⟨(Nat.le_of_ble_eq_true rfl), (Nat.le_of_ble_eq_true rfl)⟩ (fun v9 w9 H locs hN hH => ?_) (fun _ _ _ _ _ _ h => False.elim h)
          rcases hN with ⟨k_59, kl_59, rfl, rfl⟩ | ⟨k_59, rfl, rfl⟩
          · have hH : Hp D A s ([(h0, .inr (1, [.ref tx, .int (nI n), .int (nI (a + 1 + 1)), .ref dr])), (tx, .inl (D.1 10, 40, .inl (fun j => nI (t j)))), (dr, .inr (0, [.int (nI f0), .int (nI f1), .int (nI f2), .int (nI f3), .int (nI f4), .int (nI f5), .int (bI f6), .int (nI f7), .int (oI f8), .int (oI f9)]))]) H locs := hH
            refine W.eq (g2 := F0 m 62 ls [.int (nI 1)]) rfl ?_
            refine vn_if_eq (tgt := 78) C.x C.b dX1_readValue_62 (by decide) (by omega) (fun q => absurd q (by decide)) (fun _ => ?_)
            refine lv_aload_n C.x C.b dX1_readValue_65 rfl (lv_at hl 0 rfl) ?_
            refine lv_bipush (v := nI 15) C.x C.b dX1_readValue_66 (by decide) ?_
            refine kV (As := [.int (nI 15)]) (isC := [0, 1, 2]) (isR := []) (wr := []) C hK hH (c_does l htr D H.size h0 tx dr t n (a + 1 + 1) f0 f1 f2 f3 f4 f5 f6 f7 f8 f9 15 hn (by omega) ht) ⟨rfl, rfl, rfl, rfl, by decide⟩ 0 rfl rfl tw_378 tw_380 ts_9 tw_2 kX1_does ⟨by decide +kernel, by decide +kernel, (by decide +kernel : (parseMethodDescriptor yX1_does.desc).map (fun d => d.parameters.length) = some 1)⟩ ⟨(Nat.le_of_ble_eq_true rfl), (Nat.le_of_ble_eq_true rfl)⟩ hl.1 (Nat.le_of_ble_eq_true rfl) dX1_readValue_68 ⟨(Nat.le_of_ble_eq_true rfl), (Nat.le_of_ble_eq_true rfl)⟩ (fun v9 w9 H locs hN hH => ?_) (fun _ _ _ _ _ _ h => False.elim h)
            obtain ⟨rfl, rfl⟩ := hN
            have hH : Hp D A s ([(h0, .inr (1, [.ref tx, .int (nI n), .int (nI (a + 1 + 1)), .ref dr])), (tx, .inl (D.1 10, 40, .inl (fun j => nI (t j)))), (dr, .inr (0, [.int (nI f0), .int (nI f1), .int (nI 15), .int (nI f3), .int (nI f4), .int (nI f5), .int (bI f6), .int (nI f7), .int (oI f8), .int (oI f9)]))]) H locs := hH
            refine W.eq (g2 := F0 m 71 ls [.int (nI 1)]) rfl ?_
            refine vn_if_eq (tgt := 78) C.x C.b dX1_readValue_71 (by decide) (by omega) (fun q => absurd q (by decide)) (fun _ => ?_)
            refine lv_iconst (v := nI 1) C.x C.b dX1_readValue_74 (by decide) ?_
            refine lv_goto (tgt := 79) C.x C.b dX1_readValue_75 (by decide) ?_
            exact rZ C hr (by decide) hH (Or.inl ⟨(a + 1 + 1, 15, none), by simp only [vl, k_3, k_18, k_33, k_42, k_59, cond_true, cond_false], by omega, rfl, rfl⟩) (Nat.le_of_ble_eq_true rfl) (Nat.le_of_ble_eq_true rfl) dX1_readValue_79
          · have hH : Hp D A s ([(h0, .inr (1, [.ref tx, .int (nI n), .int (nI (a + 1)), .ref dr])), (tx, .inl (D.1 10, 40, .inl (fun j => nI (t j)))), (dr, .inr (0, [.int (nI f0), .int (nI f1), .int (nI f2), .int (nI f3), .int (nI f4), .int (nI f5), .int (bI f6), .int (nI f7), .int (oI f8), .int (oI f9)]))]) H locs := hH
            refine W.eq (g2 := F0 m 62 ls [.int (nI 0)]) rfl ?_
            refine vn_if_eq (tgt := 78) C.x C.b dX1_readValue_62 (by decide) (by omega) (fun _ => ?_) (fun q => absurd q (by decide))
            refine lv_iconst (v := nI 0) C.x C.b dX1_readValue_78 (by decide) ?_
            exact rZ C hr (by decide) hH (Or.inr ⟨a + 1, f2, f3, by simp only [vl, k_3, k_18, k_33, k_42, k_59, cond_true, cond_false], by omega, rfl, rfl⟩) (Nat.le_of_ble_eq_true rfl) (Nat.le_of_ble_eq_true rfl) dX1_readValue_79
      · have hH : Hp D A s ([(h0, .inr (1, [.ref tx, .int (nI n), .int (nI a), .ref dr])), (tx, .inl (D.1 10, 40, .inl (fun j => nI (t j)))), (dr, .inr (0, [.int (nI f0), .int (nI f1), .int (nI f2), .int (nI f3), .int (nI f4), .int (nI f5), .int (bI f6), .int (nI f7), .int (oI f8), .int (oI f9)]))]) H locs := hH
        refine W.eq (g2 := F0 m 36 ls [.int (nI 0)]) rfl ?_
        refine vn_if_eq (tgt := 80) C.x C.b dX1_readValue_36 (by decide) (by omega) (fun _ => ?_) (fun q => absurd q (by decide))
        refine lv_aload_n C.x C.b dX1_readValue_80 rfl (lv_at hl 0 rfl) ?_
        refine lv_bipush (v := nI 33) C.x C.b dX1_readValue_81 (by decide) ?_
        refine kV (As := [.int (nI 33)]) (isC := [0, 1, 2]) (isR := []) (wr := []) C hK hH (c_take l htr D H.size h0 tx dr t n a f0 f1 f2 f3 f4 f5 f6 f7 f8 f9 33 hn (by omega) ht (by omega)) ⟨rfl, rfl, rfl, rfl, by decide⟩ 0 rfl rfl tw_370 tw_372 ts_7 tw_2 kX1_take ⟨by decide +kernel, by decide +kernel, (by decide +kernel : (parseMethodDescriptor yX1_take.desc).map (fun d => d.parameters.length) = some 1)⟩ ⟨(Nat.le_of_ble_eq_true rfl), (Nat.le_of_ble_eq_true rfl)⟩ hl.1 (Nat.le_of_ble_eq_true rfl) dX1_readValue_83 ⟨(Nat.le_of_ble_eq_true rfl), (Nat.le_of_ble_eq_true rfl)⟩ (fun v9 w9 H locs hN hH => ?_) (fun _ _ _ _ _ _ h => False.elim h)
        rcases hN with ⟨k_83, kl_83, rfl, rfl⟩ | ⟨k_83, rfl, rfl⟩
        · have hH : Hp D A s ([(h0, .inr (1, [.ref tx, .int (nI n), .int (nI (a + 1)), .ref dr])), (tx, .inl (D.1 10, 40, .inl (fun j => nI (t j)))), (dr, .inr (0, [.int (nI f0), .int (nI f1), .int (nI f2), .int (nI f3), .int (nI f4), .int (nI f5), .int (bI f6), .int (nI f7), .int (oI f8), .int (oI f9)]))]) H locs := hH
          refine W.eq (g2 := F0 m 86 ls [.int (nI 1)]) rfl ?_
          refine vn_if_eq (tgt := 129) C.x C.b dX1_readValue_86 (by decide) (by omega) (fun q => absurd q (by decide)) (fun _ => ?_)
          refine lv_aload_n C.x C.b dX1_readValue_89 rfl (lv_at hl 0 rfl) ?_
          refine lv_bipush (v := nI 72) C.x C.b dX1_readValue_90 (by decide) ?_
          refine kV (As := [.int (nI 72)]) (isC := [0, 1, 2]) (isR := []) (wr := []) C hK hH (c_take l htr D H.size h0 tx dr t n (a + 1) f0 f1 f2 f3 f4 f5 f6 f7 f8 f9 72 hn (by omega) ht (by omega)) ⟨rfl, rfl, rfl, rfl, by decide⟩ 0 rfl rfl tw_370 tw_372 ts_7 tw_2 kX1_take ⟨by decide +kernel, by decide +kernel, (by decide +kernel : (parseMethodDescriptor yX1_take.desc).map (fun d => d.parameters.length) = some 1)⟩ ⟨(Nat.le_of_ble_eq_true rfl), (Nat.le_of_ble_eq_true rfl)⟩ hl.1 (Nat.le_of_ble_eq_true rfl) dX1_readValue_92 ⟨(Nat.le_of_ble_eq_true rfl), (Nat.le_of_ble_eq_true rfl)⟩ (fun v9 w9 H locs hN hH => ?_) (fun _ _ _ _ _ _ h => False.elim h)
          rcases hN with ⟨k_92, kl_92, rfl, rfl⟩ | ⟨k_92, rfl, rfl⟩
          · have hH : Hp D A s ([(h0, .inr (1, [.ref tx, .int (nI n), .int (nI (a + 1 + 1)), .ref dr])), (tx, .inl (D.1 10, 40, .inl (fun j => nI (t j)))), (dr, .inr (0, [.int (nI f0), .int (nI f1), .int (nI f2), .int (nI f3), .int (nI f4), .int (nI f5), .int (bI f6), .int (nI f7), .int (oI f8), .int (oI f9)]))]) H locs := hH
            refine W.eq (g2 := F0 m 95 ls [.int (nI 1)]) rfl ?_
            refine vn_if_eq (tgt := 107) C.x C.b dX1_readValue_95 (by decide) (by omega) (fun q => absurd q (by decide)) (fun _ => ?_)
            refine lv_aload_n C.x C.b dX1_readValue_98 rfl (lv_at hl 0 rfl) ?_
            refine lv_bipush (v := nI 14) C.x C.b dX1_readValue_99 (by decide) ?_
            refine kV (As := [.int (nI 14)]) (isC := [0, 1, 2]) (isR := []) (wr := []) C hK hH (c_does l htr D H.size h0 tx dr t n (a + 1 + 1) f0 f1 f2 f3 f4 f5 f6 f7 f8 f9 14 hn (by omega) ht) ⟨rfl, rfl, rfl, rfl, by decide⟩ 0 rfl rfl tw_378 tw_380 ts_9 tw_2 kX1_does ⟨by decide +kernel, by decide +kernel, (by decide +kernel : (parseMethodDescriptor yX1_does.desc).map (fun d => d.parameters.length) = some 1)⟩ ⟨(Nat.le_of_ble_eq_true rfl), (Nat.le_of_ble_eq_true rfl)⟩ hl.1 (Nat.le_of_ble_eq_true rfl) dX1_readValue_101 ⟨(Nat.le_of_ble_eq_true rfl), (Nat.le_of_ble_eq_true rfl)⟩ (fun v9 w9 H locs hN hH => ?_) (fun _ _ _ _ _ _ h => False.elim h)
            obtain ⟨rfl, rfl⟩ := hN
            have hH : Hp D A s ([(h0, .inr (1, [.ref tx, .int (nI n), .int (nI (a + 1 + 1)), .ref dr])), (tx, .inl (D.1 10, 40, .inl (fun j => nI (t j)))), (dr, .inr (0, [.int (nI f0), .int (nI f1), .int (nI 14), .int (nI f3), .int (nI f4), .int (nI f5), .int (bI f6), .int (nI f7), .int (oI f8), .int (oI f9)]))]) H locs := hH
            refine W.eq (g2 := F0 m 104 ls [.int (nI 1)]) rfl ?_
            refine lv_goto (tgt := 128) C.x C.b dX1_readValue_104 (by decide) ?_
            exact rZ C hr (by decide) hH (Or.inl ⟨(a + 1 + 1, 14, none), by simp only [vl, k_3, k_18, k_33, k_83, k_92, cond_true, cond_false], by omega, rfl, rfl⟩) (Nat.le_of_ble_eq_true rfl) (Nat.le_of_ble_eq_true rfl) dX1_readValue_128
          · have hH : Hp D A s ([(h0, .inr (1, [.ref tx, .int (nI n), .int (nI (a + 1)), .ref dr])), (tx, .inl (D.1 10, 40, .inl (fun j => nI (t j)))), (dr, .inr (0, [.int (nI f0), .int (nI f1), .int (nI f2), .int (nI f3), .int (nI f4), .int (nI f5), .int (bI f6), .int (nI f7), .int (oI f8), .int (oI f9)]))]) H locs := hH
            refine W.eq (g2 := F0 m 95 ls [.int (nI 0)]) rfl ?_
            refine vn_if_eq (tgt := 107) C.x C.b dX1_readValue_95 (by decide) (by omega) (fun _ => ?_) (fun q => absurd q (by decide))
            refine lv_aload_n C.x C.b dX1_readValue_107 rfl (lv_at hl 0 rfl) ?_
            refine kV (As := []) (isC := [0, 1, 2]) (isR := []) (wr := []) C hK hH (c_takeSource l htr D H.size h0 tx dr t n (a + 1) f0 f1 f2 f3 f4 f5 f6 f7 f8 f9 hn (by omega) ht) ⟨rfl, rfl, rfl, rfl, by decide⟩ 0 rfl rfl tw_382 tw_384 ts_10 tw_2 kX1_takeSource ⟨by decide +kernel, by decide +kernel, (by decide +kernel : (parseMethodDescriptor yX1_takeSource.desc).map (fun d => d.parameters.length) = some 0)⟩ ⟨(Nat.le_of_ble_eq_true rfl), (Nat.le_of_ble_eq_true rfl)⟩ hl.1 (Nat.le_of_ble_eq_true rfl) dX1_readValue_108 ⟨(Nat.le_of_ble_eq_true rfl), (Nat.le_of_ble_eq_true rfl)⟩ (fun v9 w9 H locs hN hH => ?_) (fun _ _ _ _ _ _ h => False.elim h)
            rcases hN with ⟨s_108, k_108, kl_108, rfl, rfl⟩ | ⟨k_108, rfl, rfl⟩
            · have hH : Hp D A s ([(h0, .inr (1, [.ref tx, .int (nI n), .int (nI (a + 1 + 1)), .ref dr])), (tx, .inl (D.1 10, 40, .inl (fun j => nI (t j)))), (dr, .inr (0, [.int (nI f0), .int (nI f1), .int (nI f2), .int (nI s_108), .int (nI f4), .int (nI f5), .int (bI f6), .int (nI f7), .int (oI f8), .int (oI f9)]))]) H locs := hH
              refine W.eq (g2 := F0 m 111 ls [.int (nI 1)]) rfl ?_
              refine vn_if_eq (tgt := 127) C.x C.b dX1_readValue_111 (by decide) (by omega) (fun q => absurd q (by decide)) (fun _ => ?_)
              refine lv_aload_n C.x C.b dX1_readValue_114 rfl (lv_at hl 0 rfl) ?_
              refine lv_bipush (v := nI 7) C.x C.b dX1_readValue_115 (by decide) ?_
              refine kV (As := [.int (nI 7)]) (isC := [0, 1, 2]) (isR := []) (wr := []) C hK hH (c_does l htr D H.size h0 tx dr t n (a + 1 + 1) f0 f1 f2 s_108 f4 f5 f6 f7 f8 f9 7 hn (by omega) ht) ⟨rfl, rfl, rfl, rfl, by decide⟩ 0 rfl rfl tw_378 tw_380 ts_9 tw_2 kX1_does ⟨by decide +kernel, by decide +kernel, (by decide +kernel : (parseMethodDescriptor yX1_does.desc).map (fun d => d.parameters.length) = some 1)⟩ ⟨(Nat.le_of_ble_eq_true rfl), (Nat.le_of_ble_eq_true rfl)⟩ hl.1 (Nat.le_of_ble_eq_true rfl) dX1_readValue_117 ⟨(Nat.le_of_ble_eq_true rfl), (Nat.le_of_ble_eq_true rfl)⟩ (fun v9 w9 H locs hN hH => ?_) (fun _ _ _ _ _ _ h => False.elim h)
              obtain ⟨rfl, rfl⟩ := hN
              have hH : Hp D A s ([(h0, .inr (1, [.ref tx, .int (nI n), .int (nI (a + 1 + 1)), .ref dr])), (tx, .inl (D.1 10, 40, .inl (fun j => nI (t j)))), (dr, .inr (0, [.int (nI f0), .int (nI f1), .int (nI 7), .int (nI s_108), .int (nI f4), .int (nI f5), .int (bI f6), .int (nI f7), .int (oI f8), .int (oI f9)]))]) H locs := hH
              refine W.eq (g2 := F0 m 120 ls [.int (nI 1)]) rfl ?_
              refine vn_if_eq (tgt := 127) C.x C.b dX1_readValue_120 (by decide) (by omega) (fun q => absurd q (by decide)) (fun _ => ?_)
              refine lv_iconst (v := nI 1) C.x C.b dX1_readValue_123 (by decide) ?_
              refine lv_goto (tgt := 128) C.x C.b dX1_readValue_124 (by decide) ?_
              exact rZ C hr (by decide) hH (Or.inl ⟨(a + 1 + 1, 7, some s_108), by simp only [vl, k_3, k_18, k_33, k_83, k_92, k_108, cond_true, cond_false], by omega, rfl, rfl⟩) (Nat.le_of_ble_eq_true rfl) (Nat.le_of_ble_eq_true rfl) dX1_readValue_128
            · have hH : Hp D A s ([(h0, .inr (1, [.ref tx, .int (nI n), .int (nI (a + 1)), .ref dr])), (tx, .inl (D.1 10, 40, .inl (fun j => nI (t j)))), (dr, .inr (0, [.int (nI f0), .int (nI f1), .int (nI f2), .int (nI f3), .int (nI f4), .int (nI f5), .int (bI f6), .int (nI f7), .int (oI f8), .int (oI f9)]))]) H locs := hH
              refine W.eq (g2 := F0 m 111 ls [.int (nI 0)]) rfl ?_
              refine vn_if_eq (tgt := 127) C.x C.b dX1_readValue_111 (by decide) (by omega) (fun _ => ?_) (fun q => absurd q (by decide))
              refine lv_iconst (v := nI 0) C.x C.b dX1_readValue_127 (by decide) ?_
              exact rZ C hr (by decide) hH (Or.inr ⟨a + 1, f2, f3, by simp only [vl, k_3, k_18, k_33, k_83, k_92, k_108, cond_true, cond_false], by omega, rfl, rfl⟩) (Nat.le_of_ble_eq_true rfl) (Nat.le_of_ble_eq_true rfl) dX1_readValue_128
        · have hH : Hp D A s ([(h0, .inr (1, [.ref tx, .int (nI n), .int (nI a), .ref dr])), (tx, .inl (D.1 10, 40, .inl (fun j => nI (t j)))), (dr, .inr (0, [.int (nI f0), .int (nI f1), .int (nI f2), .int (nI f3), .int (nI f4), .int (nI f5), .int (bI f6), .int (nI f7), .int (oI f8), .int (oI f9)]))]) H locs := hH
          refine W.eq (g2 := F0 m 86 ls [.int (nI 0)]) rfl ?_
          refine vn_if_eq (tgt := 129) C.x C.b dX1_readValue_86 (by decide) (by omega) (fun _ => ?_) (fun q => absurd q (by decide))
          refine lv_aload_n C.x C.b dX1_readValue_129 rfl (lv_at hl 0 rfl) ?_
          refine lv_bipush (v := nI 72) C.x C.b dX1_readValue_130 (by decide) ?_
          refine kV (As := [.int (nI 72)]) (isC := [0, 1, 2]) (isR := []) (wr := []) C hK hH (c_take l htr D H.size h0 tx dr t n a f0 f1 f2 f3 f4 f5 f6 f7 f8 f9 72 hn (by omega) ht (by omega)) ⟨rfl, rfl, rfl, rfl, by decide⟩ 0 rfl rfl tw_370 tw_372 ts_7 tw_2 kX1_take ⟨by decide +kernel, by decide +kernel, (by decide +kernel : (parseMethodDescriptor yX1_take.desc).map (fun d => d.parameters.length) = some 1)⟩ ⟨(Nat.le_of_ble_eq_true rfl), (Nat.le_of_ble_eq_true rfl)⟩ hl.1 (Nat.le_of_ble_eq_true rfl) dX1_readValue_132 ⟨(Nat.le_of_ble_eq_true rfl), (Nat.le_of_ble_eq_true rfl)⟩ (fun v9 w9 H locs hN hH => ?_) (fun _ _ _ _ _ _ h => False.elim h)
          rcases hN with ⟨k_132, kl_132, rfl, rfl⟩ | ⟨k_132, rfl, rfl⟩
          · have hH : Hp D A s ([(h0, .inr (1, [.ref tx, .int (nI n), .int (nI (a + 1)), .ref dr])), (tx, .inl (D.1 10, 40, .inl (fun j => nI (t j)))), (dr, .inr (0, [.int (nI f0), .int (nI f1), .int (nI f2), .int (nI f3), .int (nI f4), .int (nI f5), .int (bI f6), .int (nI f7), .int (oI f8), .int (oI f9)]))]) H locs := hH
            refine W.eq (g2 := F0 m 135 ls [.int (nI 1)]) rfl ?_
            refine vn_if_eq (tgt := 143) C.x C.b dX1_readValue_135 (by decide) (by omega) (fun q => absurd q (by decide)) (fun _ => ?_)
            refine lv_aload_n C.x C.b dX1_readValue_138 rfl (lv_at hl 0 rfl) ?_
            refine kV (As := []) (isC := [0, 1, 2]) (isR := []) (wr := []) C hK hH (c_readBehindH l htr D H.size h0 tx dr t n (a + 1) f0 f1 f2 f3 f4 f5 f6 f7 f8 f9 hn (by omega) ht) ⟨rfl, rfl, rfl, rfl, by decide⟩ 0 rfl rfl tw_386 tw_388 ts_11 tw_2 kX1_readBehindH ⟨by decide +kernel, by decide +kernel, (by decide +kernel : (parseMethodDescriptor yX1_readBehindH.desc).map (fun d => d.parameters.length) = some 0)⟩ ⟨(Nat.le_of_ble_eq_true rfl), (Nat.le_of_ble_eq_true rfl)⟩ hl.1 (Nat.le_of_ble_eq_true rfl) dX1_readValue_139 ⟨(Nat.le_of_ble_eq_true rfl), (Nat.le_of_ble_eq_true rfl)⟩ (fun v9 w9 H locs hN hH => ?_) (fun _ _ _ _ _ _ h => False.elim h)
            rcases hN with ⟨q_139, hq_139, kl_139, rfl, rfl⟩ | ⟨a9_139, g2_139, g3_139, ha9_139, kl_139, rfl, rfl⟩
            · have hH : Hp D A s ([(h0, .inr (1, [.ref tx, .int (nI n), .int (nI q_139.1), .ref dr])), (tx, .inl (D.1 10, 40, .inl (fun j => nI (t j)))), (dr, .inr (0, [.int (nI f0), .int (nI f1), .int (nI q_139.2.1), .int (nI (q_139.2.2.getD f3)), .int (nI f4), .int (nI f5), .int (bI f6), .int (nI f7), .int (oI f8), .int (oI f9)]))]) H locs := hH
              refine W.eq (g2 := F0 m 142 ls [.int (nI 1)]) rfl ?_
              exact rZ C hr (by decide) hH (Or.inl ⟨q_139, by simp only [vl, k_3, k_18, k_33, k_83, k_132, cond_true, cond_false]; exact hq_139, by omega, rfl, rfl⟩) (Nat.le_of_ble_eq_true rfl) (Nat.le_of_ble_eq_true rfl) dX1_readValue_142
            · have hH : Hp D A s ([(h0, .inr (1, [.ref tx, .int (nI n), .int (nI a9_139), .ref dr])), (tx, .inl (D.1 10, 40, .inl (fun j => nI (t j)))), (dr, .inr (0, [.int (nI f0), .int (nI f1), .int (nI g2_139), .int (nI g3_139), .int (nI f4), .int (nI f5), .int (bI f6), .int (nI f7), .int (oI f8), .int (oI f9)]))]) H locs := hH
              refine W.eq (g2 := F0 m 142 ls [.int (nI 0)]) rfl ?_
              exact rZ C hr (by decide) hH (Or.inr ⟨a9_139, g2_139, g3_139, by simp only [vl, k_3, k_18, k_33, k_83, k_132, cond_true, cond_false]; exact ha9_139, by omega, rfl, rfl⟩) (Nat.le_of_ble_eq_true rfl) (Nat.le_of_ble_eq_true rfl) dX1_readValue_142
          · have hH : Hp D A s ([(h0, .inr (1, [.ref tx, .int (nI n), .int (nI a), .ref dr])), (tx, .inl (D.1 10, 40, .inl (fun j => nI (t j)))), (dr, .inr (0, [.int (nI f0), .int (nI f1), .int (nI f2), .int (nI f3), .int (nI f4), .int (nI f5), .int (bI f6), .int (nI f7), .int (oI f8), .int (oI f9)]))]) H locs := hH
            refine W.eq (g2 := F0 m 135 ls [.int (nI 0)]) rfl ?_
            refine vn_if_eq (tgt := 143) C.x C.b dX1_readValue_135 (by decide) (by omega) (fun _ => ?_) (fun q => absurd q (by decide))
            refine lv_aload_n C.x C.b dX1_readValue_143 rfl (lv_at hl 0 rfl) ?_
            refine kV (As := []) (isC := [0, 1, 2]) (isR := []) (wr := []) C hK hH (c_takeSource l htr D H.size h0 tx dr t n a f0 f1 f2 f3 f4 f5 f6 f7 f8 f9 hn (by omega) ht) ⟨rfl, rfl, rfl, rfl, by decide⟩ 0 rfl rfl tw_382 tw_384 ts_10 tw_2 kX1_takeSource ⟨by decide +kernel, by decide +kernel, (by decide +kernel : (parseMethodDescriptor yX1_takeSource.desc).map (fun d => d.parameters.length) = some 0)⟩ ⟨(Nat.le_of_ble_eq_true rfl), (Nat.le_of_ble_eq_true rfl)⟩ hl.1 (Nat.le_of_ble_eq_true rfl) dX1_readValue_144 ⟨(Nat.le_of_ble_eq_true rfl), (Nat.le_of_ble_eq_true rfl)⟩ (fun v9 w9 H locs hN hH => ?_) (fun _ _ _ _ _ _ h => False.elim h)
            rcases hN with ⟨s_144, k_144, kl_144, rfl, rfl⟩ | ⟨k_144, rfl, rfl⟩
            · have hH : Hp D A s ([(h0, .inr (1, [.ref tx, .int (nI n), .int (nI (a + 1)), .ref dr])), (tx, .inl (D.1 10, 40, .inl (fun j => nI (t j)))), (dr, .inr (0, [.int (nI f0), .int (nI f1), .int (nI f2), .int (nI s_144), .int (nI f4), .int (nI f5), .int (bI f6), .int (nI f7), .int (oI f8), .int (oI f9)]))]) H locs := hH
              refine W.eq (g2 := F0 m 147 ls [.int (nI 1)]) rfl ?_
              refine vn_if_eq (tgt := 161) C.x C.b dX1_readValue_147 (by decide) (by omega) (fun q => absurd q (by decide)) (fun _ => ?_)
              refine lv_aload_n C.x C.b dX1_readValue_150 rfl (lv_at hl 0 rfl) ?_
              refine kV (As := []) (isC := [0, 1, 2]) (isR := []) (wr := []) C hK hH (c_readBehindSource l htr D H.size h0 tx dr t n (a + 1) f0 f1 f2 s_144 f4 f5 f6 f7 f8 f9 hn (by omega) ht) ⟨rfl, rfl, rfl, rfl, by decide⟩ 0 rfl rfl tw_390 tw_392 ts_12 tw_2 kX1_readBehindSource ⟨by decide +kernel, by decide +kernel, (by decide +kernel : (parseMethodDescriptor yX1_readBehindSource.desc).map (fun d => d.parameters.length) = some 0)⟩ ⟨(Nat.le_of_ble_eq_true rfl), (Nat.le_of_ble_eq_true rfl)⟩ hl.1 (Nat.le_of_ble_eq_true rfl) dX1_readValue_151 ⟨(Nat.le_of_ble_eq_true rfl), (Nat.le_of_ble_eq_true rfl)⟩ (fun v9 w9 H locs hN hH => ?_) (fun _ _ _ _ _ _ h => False.elim h)
              rcases hN with ⟨q_151, hq_151, hs_151, kl_151, rfl, rfl⟩ | ⟨a9_151, g2_151, g3_151, ha9_151, kl_151, rfl, rfl⟩
              · have hH : Hp D A s ([(h0, .inr (1, [.ref tx, .int (nI n), .int (nI q_151.1), .ref dr])), (tx, .inl (D.1 10, 40, .inl (fun j => nI (t j)))), (dr, .inr (0, [.int (nI f0), .int (nI f1), .int (nI q_151.2.1), .int (nI s_144), .int (nI f4), .int (nI f5), .int (bI f6), .int (nI f7), .int (oI f8), .int (oI f9)]))]) H locs := hH
                refine W.eq (g2 := F0 m 154 ls [.int (nI 1)]) rfl ?_
                refine vn_if_eq (tgt := 161) C.x C.b dX1_readValue_154 (by decide) (by omega) (fun q => absurd q (by decide)) (fun _ => ?_)
                refine lv_iconst (v := nI 1) C.x C.b dX1_readValue_157 (by decide) ?_
                refine lv_goto (tgt := 162) C.x C.b dX1_readValue_158 (by decide) ?_
                exact rZ C hr (by decide) hH (Or.inl ⟨q_151, by simp only [vl, k_3, k_18, k_33, k_83, k_132, k_144, cond_true, cond_false]; exact hq_151, by omega, rfl, by rw [hs_151]; rfl⟩) (Nat.le_of_ble_eq_true rfl) (Nat.le_of_ble_eq_true rfl) dX1_readValue_162
              · have hH : Hp D A s ([(h0, .inr (1, [.ref tx, .int (nI n), .int (nI a9_151), .ref dr])), (tx, .inl (D.1 10, 40, .inl (fun j => nI (t j)))), (dr, .inr (0, [.int (nI f0), .int (nI f1), .int (nI g2_151), .int (nI g3_151), .int (nI f4), .int (nI f5), .int (bI f6), .int (nI f7), .int (oI f8), .int (oI f9)]))]) H locs := hH
                refine W.eq (g2 := F0 m 154 ls [.int (nI 0)]) rfl ?_
                refine vn_if_eq (tgt := 161) C.x C.b dX1_readValue_154 (by decide) (by omega) (fun _ => ?_) (fun q => absurd q (by decide))
                refine lv_iconst (v := nI 0) C.x C.b dX1_readValue_161 (by decide) ?_
                exact rZ C hr (by decide) hH (Or.inr ⟨a9_151, g2_151, g3_151, by simp only [vl, k_3, k_18, k_33, k_83, k_132, k_144, cond_true, cond_false]; exact ha9_151, by omega, rfl, rfl⟩) (Nat.le_of_ble_eq_true rfl) (Nat.le_of_ble_eq_true rfl) dX1_readValue_162
            · have hH : Hp D A s ([(h0, .inr (1, [.ref tx, .int (nI n), .int (nI a), .ref dr])), (tx, .inl (D.1 10, 40, .inl (fun j => nI (t j)))), (dr, .inr (0, [.int (nI f0), .int (nI f1), .int (nI f2), .int (nI f3), .int (nI f4), .int (nI f5), .int (bI f6), .int (nI f7), .int (oI f8), .int (oI f9)]))]) H locs := hH
              refine W.eq (g2 := F0 m 147 ls [.int (nI 0)]) rfl ?_
              refine vn_if_eq (tgt := 161) C.x C.b dX1_readValue_147 (by decide) (by omega) (fun _ => ?_) (fun q => absurd q (by decide))
              refine lv_iconst (v := nI 0) C.x C.b dX1_readValue_161 (by decide) ?_
              exact rZ C hr (by decide) hH (Or.inr ⟨a, f2, f3, by simp only [vl, k_3, k_18, k_33, k_83, k_132, k_144, cond_true, cond_false], by omega, rfl, rfl⟩) (Nat.le_of_ble_eq_true rfl) (Nat.le_of_ble_eq_true rfl) dX1_readValue_162
end
section
set_option maxHeartbeats 4000000 in
set_option maxRecDepth 100000 in
theorem c_takeDigit (l : Launch) (htr : l.stackTraces = false) (D : va_G) (sz : Nat) (h0 tx dr : Nat) (t : Nat → Nat) (n a : Nat) (f0 f1 f2 f3 f4 f5 : Nat) (f6 : Bool) (f7 : Nat) (f8 f9 : Option Nat) (L : Int32) (hn : n ≤ 40) (ha : a ≤ n) (ht : ∀ j, t j < 128) : Ct l yX1_takeDigit wX1_takeDigit { frames := 0, cells := 0, slots := 0, locals := 0 } D ([(h0, .inr (1, [.ref tx, .int (nI n), .int (nI a), .ref dr])), (tx, .inl (D.1 10, 40, .inl (fun j => nI (t j)))), (dr, .inr (0, [.int (nI f0), .int (nI f1), .int (nI f2), .int (nI f3), .int (nI f4), .int (nI f5), .int (bI f6), .int (nI f7), .int (oI f8), .int (oI f9)]))]) [.ref h0, .int L] sz (fun v w => (∃ d, dg t n a = some d ∧ d ≤ 9 ∧ nI d ≤ L ∧ a < n ∧ v = some (.int (nI d)) ∧ w = [(h0, .inr (1, [.ref tx, .int (nI n), .int (nI (a + 1)), .ref dr])), (tx, .inl (D.1 10, 40, .inl (fun j => nI (t j)))), (dr, .inr (0, [.int (nI f0), .int (nI f1), .int (nI f2), .int (nI f3), .int (nI f4), .int (nI f5), .int (bI f6), .int (nI f7), .int (oI f8), .int (oI f9)]))]) ∨ ((dg t n a = none ∨ ∃ d, dg t n a = some d ∧ ¬ nI d ≤ L) ∧ v = some (.int (-1)) ∧ w = [(h0, .inr (1, [.ref tx, .int (nI n), .int (nI a), .ref dr])), (tx, .inl (D.1 10, 40, .inl (fun j => nI (t j)))), (dr, .inr (0, [.int (nI f0), .int (nI f1), .int (nI f2), .int (nI f3), .int (nI f4), .int (nI f5), .int (bI f6), .int (nI f7), .int (oI f8), .int (oI f9)]))])) (nox) := by
  refine Ct.of (cc := cX1_takeDigit) (nL := 3) (ret := (some .int)) (own := RX1) htr (by decide) rfl (Nat.le_of_ble_eq_true rfl) ?_
  intro p e s m args below meth c A C hr hK H locs hH ls hl
  have hl : lv_has ls 3 [(0, .ref h0), (1, .int L)] := hl
  refine lv_aload_n C.x C.b dX1_takeDigit_0 rfl (lv_at hl 0 rfl) ?_
  refine gGet (v := .int (nI a)) C hK hH 0 2 rfl rfl inX1 (by decide) tw_87 rfl dX1_takeDigit_1 ?_
  refine lv_aload_n C.x C.b dX1_takeDigit_4 rfl (lv_at hl 0 rfl) ?_
  refine gGet (v := .int (nI n)) C hK hH 0 1 rfl rfl inX1 (by decide) tw_85 rfl dX1_takeDigit_5 ?_
  refine vn_icmp_ge (tgt := 26) C.x C.b dX1_takeDigit_8 (by decide) (by omega) (by omega) (fun c_8 => ?_) (fun c_8 => ?_)
  · refine lv_iconst (v := -1) C.x C.b dX1_takeDigit_26 (by decide) ?_
    refine lv_istore_n (lv' := [(2, .int (-1)), (0, .ref h0), (1, .int L)]) C.x C.b dX1_takeDigit_27 rfl hl (by decide) rfl (fun ls hl => ?_)
    refine lv_iload_n C.x C.b dX1_takeDigit_28 rfl (lv_at hl 0 rfl) ?_
    refine lv_if_lt (tgt := 43) C.x C.b dX1_takeDigit_29 (by decide) (fun _ => ?_) (fun q => absurd (by decide) q)
    refine lv_iconst (v := -1) C.x C.b dX1_takeDigit_43 (by decide) ?_
    exact rI C hr hH (Or.inr ⟨by first | exact Or.inl (dg_none (by omega)) | exact Or.inr ⟨_, dg_some (by omega) (by omega) (by omega), c_40⟩, rfl, rfl⟩) (Nat.le_of_ble_eq_true rfl) (Nat.le_of_ble_eq_true rfl) dX1_takeDigit_44
  · refine lv_aload_n C.x C.b dX1_takeDigit_11 rfl (lv_at hl 0 rfl) ?_
    refine gGet (v := .ref tx) C hK hH 0 0 rfl rfl inX1 (by decide) tw_84 rfl dX1_takeDigit_12 ?_
    refine lv_aload_n C.x C.b dX1_takeDigit_15 rfl (lv_at hl 0 rfl) ?_
    refine gGet (v := .int (nI a)) C hK hH 0 2 rfl rfl inX1 (by decide) tw_87 rfl dX1_takeDigit_16 ?_
    have hf_19 := ht a
    refine gCald (v := (nI (t a))) C hK hH 1 rfl (by omega) (by decide) dX1_takeDigit_19 rfl ?_
    refine lv_bipush (v := nI 48) C.x C.b dX1_takeDigit_20 (by decide) ?_
    refine lv_isub C.x C.b dX1_takeDigit_22 ?_
    rcases Nat.lt_or_ge (t a) 48 with hlo | hlo
    · refine lv_goto (tgt := 27) C.x C.b dX1_takeDigit_23 (by decide) ?_
      refine lv_istore_n (lv' := [(2, .int ((nI (t a)) - (nI 48))), (0, .ref h0), (1, .int L)]) C.x C.b dX1_takeDigit_27 rfl hl (by decide) rfl (fun ls hl => ?_)
      refine lv_iload_n C.x C.b dX1_takeDigit_28 rfl (lv_at hl 0 rfl) ?_
      refine lv_if_lt (tgt := 43) C.x C.b dX1_takeDigit_29 (by decide) (fun _ => ?_) (fun q => absurd (pk_sneg (by decide) hlo) q)
      refine lv_iconst (v := -1) C.x C.b dX1_takeDigit_43 (by decide) ?_
      exact rI C hr hH (Or.inr ⟨by first | exact Or.inl (dg_none (by omega)) | exact Or.inr ⟨_, dg_some (by omega) (by omega) (by omega), c_40⟩, rfl, rfl⟩) (Nat.le_of_ble_eq_true rfl) (Nat.le_of_ble_eq_true rfl) dX1_takeDigit_44
    · refine vt_top (y := nI (t a - 48)) (pk_sub hlo) ?_
      refine lv_goto (tgt := 27) C.x C.b dX1_takeDigit_23 (by decide) ?_
      refine lv_istore_n (lv' := [(2, .int (nI (t a - 48))), (0, .ref h0), (1, .int L)]) C.x C.b dX1_takeDigit_27 rfl hl (by decide) rfl (fun ls hl => ?_)
      refine lv_iload_n C.x C.b dX1_takeDigit_28 rfl (lv_at hl 0 rfl) ?_
      refine vn_if_lt (tgt := 43) C.x C.b dX1_takeDigit_29 (by decide) (by omega) ?_
      refine lv_iload_n C.x C.b dX1_takeDigit_32 rfl (lv_at hl 0 rfl) ?_
      refine lv_bipush (v := nI 9) C.x C.b dX1_takeDigit_33 (by decide) ?_
      refine vn_icmp_gt (tgt := 43) C.x C.b dX1_takeDigit_35 (by decide) (by omega) (by omega) (fun c_35 => ?_) (fun c_35 => ?_)
      · refine lv_iconst (v := -1) C.x C.b dX1_takeDigit_43 (by decide) ?_
        exact rI C hr hH (Or.inr ⟨by first | exact Or.inl (dg_none (by omega)) | exact Or.inr ⟨_, dg_some (by omega) (by omega) (by omega), c_40⟩, rfl, rfl⟩) (Nat.le_of_ble_eq_true rfl) (Nat.le_of_ble_eq_true rfl) dX1_takeDigit_44
      · refine lv_iload_n C.x C.b dX1_takeDigit_38 rfl (lv_at hl 0 rfl) ?_
        refine lv_iload_n C.x C.b dX1_takeDigit_39 rfl (lv_at hl 2 rfl) ?_
        refine lv_icmp_le (tgt := 45) C.x C.b dX1_takeDigit_40 (by decide) (fun c_40 => ?_) (fun c_40 => ?_)
        · refine lv_aload_n C.x C.b dX1_takeDigit_45 rfl (lv_at hl 1 rfl) ?_
          refine lv_dup C.x C.b dX1_takeDigit_46 rfl ?_
          refine gGet (v := .int (nI a)) C hK hH 0 2 rfl rfl inX1 (by decide) tw_87 rfl dX1_takeDigit_47 ?_
          refine lv_iconst (v := nI 1) C.x C.b dX1_takeDigit_50 (by decide) ?_
          refine lv_iadd C.x C.b dX1_takeDigit_51 ?_
          refine vt_top (nI_add _ _) ?_
          refine gPut (v := .int (nI (a + 1))) (ws' := [(h0, .inr (1, [.ref tx, .int (nI n), .int (nI (a + 1)), .ref dr])), (tx, .inl (D.1 10, 40, .inl (fun j => nI (t j)))), (dr, .inr (0, [.int (nI f0), .int (nI f1), .int (nI f2), .int (nI f3), .int (nI f4), .int (nI f5), .int (bI f6), .int (nI f7), .int (oI f8), .int (oI f9)]))]) C hK hH 0 2 tyX1 tyX1_ok nmX1 rfl rfl inX1 (by decide) tw_87 rfl rfl rfl (Nat.le_of_ble_eq_true rfl) rfl dX1_takeDigit_52 (fun H locs hH => ?_)
          refine lv_iload_n C.x C.b dX1_takeDigit_55 rfl (lv_at hl 0 rfl) ?_
          exact rI C hr hH (Or.inl ⟨_, dg_some (by omega) (by omega) (by omega), by omega, c_40, by omega, rfl, rfl⟩) (Nat.le_of_ble_eq_true rfl) (Nat.le_of_ble_eq_true rfl) dX1_takeDigit_56
        · refine lv_iconst (v := -1) C.x C.b dX1_takeDigit_43 (by decide) ?_
          exact rI C hr hH (Or.inr ⟨by first | exact Or.inl (dg_none (by omega)) | exact Or.inr ⟨_, dg_some (by omega) (by omega) (by omega), c_40⟩, rfl, rfl⟩) (Nat.le_of_ble_eq_true rfl) (Nat.le_of_ble_eq_true rfl) dX1_takeDigit_44
set_option maxHeartbeats 4000000 in
set_option maxRecDepth 100000 in
theorem c_takeNumber (l : Launch) (htr : l.stackTraces = false) (D : va_G) (sz : Nat) (h0 tx dr : Nat) (t : Nat → Nat) (n a : Nat) (f0 f1 f2 f3 f4 f5 : Nat) (f6 : Bool) (f7 : Nat) (f8 f9 : Option Nat) (hn : n ≤ 40) (ha : a ≤ n) (ht : ∀ j, t j < 128) : Ct l yX1_takeNumber wX1_takeNumber { frames := 1, cells := 0, slots := 0, locals := 22 } D ([(h0, .inr (1, [.ref tx, .int (nI n), .int (nI a), .ref dr])), (tx, .inl (D.1 10, 40, .inl (fun j => nI (t j)))), (dr, .inr (0, [.int (nI f0), .int (nI f1), .int (nI f2), .int (nI f3), .int (nI f4), .int (nI f5), .int (bI f6), .int (nI f7), .int (oI f8), .int (oI f9)]))]) [.ref h0] sz (fun v w => (∃ x a9, nb t n a = some (x, a9) ∧ x ≤ 63 ∧ a < a9 ∧ a9 ≤ n ∧ v = some (.int (nI x)) ∧ w = [(h0, .inr (1, [.ref tx, .int (nI n), .int (nI a9), .ref dr])), (tx, .inl (D.1 10, 40, .inl (fun j => nI (t j)))), (dr, .inr (0, [.int (nI f0), .int (nI f1), .int (nI f2), .int (nI f3), .int (nI f4), .int (nI f5), .int (bI f6), .int (nI f7), .int (oI f8), .int (oI f9)]))]) ∨ (nb t n a = none ∧ v = some (.int (-1)) ∧ w = [(h0, .inr (1, [.ref tx, .int (nI n), .int (nI a), .ref dr])), (tx, .inl (D.1 10, 40, .inl (fun j => nI (t j)))), (dr, .inr (0, [.int (nI f0), .int (nI f1), .int (nI f2), .int (nI f3), .int (nI f4), .int (nI f5), .int (bI f6), .int (nI f7), .int (oI f8), .int (oI f9)]))])) (nox) := by
  refine Ct.of (cc := cX1_takeNumber) (nL := 3) (ret := (some .int)) (own := RX1) htr (by decide) rfl (Nat.le_of_ble_eq_true rfl) ?_
  intro p e s m args below meth c A C hr hK H locs hH ls hl
  have hl : lv_has ls 3 [(0, .ref h0)] := hl
  refine lv_aload_n C.x C.b dX1_takeNumber_0 rfl (lv_at hl 0 rfl) ?_
  refine lv_bipush (v := nI 9) C.x C.b dX1_takeNumber_1 (by decide) ?_
  refine kV (As := [.int (nI 9)]) (isC := [0, 1, 2]) (isR := []) (wr := []) C hK hH (c_takeDigit l htr D H.size h0 tx dr t n a f0 f1 f2 f3 f4 f5 f6 f7 f8 f9 (nI 9) hn (by omega) ht) ⟨rfl, rfl, rfl, rfl, by decide⟩ 0 rfl rfl tw_403 tw_405 ts_15 tw_2 kX1_takeDigit ⟨by decide +kernel, by decide +kernel, (by decide +kernel : (parseMethodDescriptor yX1_takeDigit.desc).map (fun d => d.parameters.length) = some 1)⟩ ⟨(Nat.le_of_ble_eq_true rfl), (Nat.le_of_ble_eq_true rfl)⟩ hl.1 (Nat.le_of_ble_eq_true rfl) dX1_takeNumber_3 ⟨(Nat.le_of_ble_eq_true rfl), (Nat.le_of_ble_eq_true rfl)⟩ (fun v9 w9 H locs hN hH => ?_) (fun _ _ _ _ _ _ h => False.elim h)
  rcases hN with ⟨d_3, hd_3, hd9_3, hL_3, kl_3, rfl, rfl⟩ | ⟨hd_3, rfl, rfl⟩
  · have hH : Hp D A s ([(h0, .inr (1, [.ref tx, .int (nI n), .int (nI (a + 1)), .ref dr])), (tx, .inl (D.1 10, 40, .inl (fun j => nI (t j)))), (dr, .inr (0, [.int (nI f0), .int (nI f1), .int (nI f2), .int (nI f3), .int (nI f4), .int (nI f5), .int (bI f6), .int (nI f7), .int (oI f8), .int (oI f9)]))]) H locs := hH
    refine W.eq (g2 := F0 m 6 ls [.int (nI d_3)]) rfl ?_
    refine lv_istore_n (lv' := [(1, .int (nI d_3)), (0, .ref h0)]) C.x C.b dX1_takeNumber_6 rfl hl (by decide) rfl (fun ls hl => ?_)
    refine lv_iload_n C.x C.b dX1_takeNumber_7 rfl (lv_at hl 0 rfl) ?_
    refine vn_if_ge (tgt := 13) C.x C.b dX1_takeNumber_8 (by decide) (by omega) ?_
    refine lv_aload_n C.x C.b dX1_takeNumber_13 rfl (lv_at hl 1 rfl) ?_
    refine lv_bipush (v := nI 63) C.x C.b dX1_takeNumber_14 (by decide) ?_
    refine lv_bipush (v := nI 10) C.x C.b dX1_takeNumber_16 (by decide) ?_
    refine lv_iload_n C.x C.b dX1_takeNumber_18 rfl (lv_at hl 0 rfl) ?_
    refine lv_imul C.x C.b dX1_takeNumber_19 ?_
    refine vt_top (pk_mul _ _) ?_
    refine lv_isub C.x C.b dX1_takeNumber_20 ?_
    refine kV (As := [.int ((nI 63) - (nI (10 * d_3)))]) (isC := [0, 1, 2]) (isR := []) (wr := []) C hK hH (c_takeDigit l htr D H.size h0 tx dr t n (a + 1) f0 f1 f2 f3 f4 f5 f6 f7 f8 f9 ((nI 63) - (nI (10 * d_3))) hn (by omega) ht) ⟨rfl, rfl, rfl, rfl, by decide⟩ 0 rfl rfl tw_403 tw_405 ts_15 tw_2 kX1_takeDigit ⟨by decide +kernel, by decide +kernel, (by decide +kernel : (parseMethodDescriptor yX1_takeDigit.desc).map (fun d => d.parameters.length) = some 1)⟩ ⟨(Nat.le_of_ble_eq_true rfl), (Nat.le_of_ble_eq_true rfl)⟩ hl.1 (Nat.le_of_ble_eq_true rfl) dX1_takeNumber_21 ⟨(Nat.le_of_ble_eq_true rfl), (Nat.le_of_ble_eq_true rfl)⟩ (fun v9 w9 H locs hN hH => ?_) (fun _ _ _ _ _ _ h => False.elim h)
    rcases hN with ⟨d_21, hd_21, hd9_21, hL_21, kl_21, rfl, rfl⟩ | ⟨hd_21, rfl, rfl⟩
    · have hH : Hp D A s ([(h0, .inr (1, [.ref tx, .int (nI n), .int (nI (a + 1 + 1)), .ref dr])), (tx, .inl (D.1 10, 40, .inl (fun j => nI (t j)))), (dr, .inr (0, [.int (nI f0), .int (nI f1), .int (nI f2), .int (nI f3), .int (nI f4), .int (nI f5), .int (bI f6), .int (nI f7), .int (oI f8), .int (oI f9)]))]) H locs := hH
      refine W.eq (g2 := F0 m 24 ls [.int (nI d_21)]) rfl ?_
      refine lv_istore_n (lv' := [(2, .int (nI d_21)), (1, .int (nI d_3)), (0, .ref h0)]) C.x C.b dX1_takeNumber_24 rfl hl (by decide) rfl (fun ls hl => ?_)
      refine lv_iload_n C.x C.b dX1_takeNumber_25 rfl (lv_at hl 0 rfl) ?_
      refine vn_if_ge (tgt := 33) C.x C.b dX1_takeNumber_26 (by decide) (by omega) ?_
      refine lv_bipush (v := nI 10) C.x C.b dX1_takeNumber_33 (by decide) ?_
      refine lv_iload_n C.x C.b dX1_takeNumber_35 rfl (lv_at hl 1 rfl) ?_
      refine lv_imul C.x C.b dX1_takeNumber_36 ?_
      refine vt_top (pk_mul _ _) ?_
      refine lv_iload_n C.x C.b dX1_takeNumber_37 rfl (lv_at hl 0 rfl) ?_
      refine lv_iadd C.x C.b dX1_takeNumber_38 ?_
      refine vt_top (nI_add _ _) ?_
      exact rI C hr hH (Or.inl ⟨_, _, (nb_2 hd_3 hd_21 hL_21).1, (nb_2 hd_3 hd_21 hL_21).2, by omega, by omega, rfl, rfl⟩) (Nat.le_of_ble_eq_true rfl) (Nat.le_of_ble_eq_true rfl) dX1_takeNumber_39
    · have hH : Hp D A s ([(h0, .inr (1, [.ref tx, .int (nI n), .int (nI (a + 1)), .ref dr])), (tx, .inl (D.1 10, 40, .inl (fun j => nI (t j)))), (dr, .inr (0, [.int (nI f0), .int (nI f1), .int (nI f2), .int (nI f3), .int (nI f4), .int (nI f5), .int (bI f6), .int (nI f7), .int (oI f8), .int (oI f9)]))]) H locs := hH
      refine W.eq (g2 := F0 m 24 ls [.int (-1)]) rfl ?_
      refine lv_istore_n (lv' := [(2, .int (-1)), (1, .int (nI d_3)), (0, .ref h0)]) C.x C.b dX1_takeNumber_24 rfl hl (by decide) rfl (fun ls hl => ?_)
      refine lv_iload_n C.x C.b dX1_takeNumber_25 rfl (lv_at hl 0 rfl) ?_
      refine lv_if_ge (tgt := 33) C.x C.b dX1_takeNumber_26 (by decide) (fun q => absurd q (by decide)) (fun _ => ?_)
      refine lv_iload_n C.x C.b dX1_takeNumber_29 rfl (lv_at hl 1 rfl) ?_
      refine lv_goto (tgt := 39) C.x C.b dX1_takeNumber_30 (by decide) ?_
      exact rI C hr hH (Or.inl ⟨_, _, nb_1 hd_3 hd_21, by omega, by omega, by omega, rfl, rfl⟩) (Nat.le_of_ble_eq_true rfl) (Nat.le_of_ble_eq_true rfl) dX1_takeNumber_39
  · have hH : Hp D A s ([(h0, .inr (1, [.ref tx, .int (nI n), .int (nI a), .ref dr])), (tx, .inl (D.1 10, 40, .inl (fun j => nI (t j)))), (dr, .inr (0, [.int (nI f0), .int (nI f1), .int (nI f2), .int (nI f3), .int (nI f4), .int (nI f5), .int (bI f6), .int (nI f7), .int (oI f8), .int (oI f9)]))]) H locs := hH
    refine W.eq (g2 := F0 m 6 ls [.int (-1)]) rfl ?_
    refine lv_istore_n (lv' := [(1, .int (-1)), (0, .ref h0)]) C.x C.b dX1_takeNumber_6 rfl hl (by decide) rfl (fun ls hl => ?_)
    refine lv_iload_n C.x C.b dX1_takeNumber_7 rfl (lv_at hl 0 rfl) ?_
    refine lv_if_ge (tgt := 13) C.x C.b dX1_takeNumber_8 (by decide) (fun q => absurd q (by decide)) (fun _ => ?_)
    refine lv_iconst (v := -1) C.x C.b dX1_takeNumber_11 (by decide) ?_
    exact rI C hr hH (Or.inr ⟨nb_0 hd_3, rfl, rfl⟩) (Nat.le_of_ble_eq_true rfl) (Nat.le_of_ble_eq_true rfl) dX1_takeNumber_12
end
section
set_option maxHeartbeats 4000000 in
set_option maxRecDepth 100000 in
theorem c_readGoing (l : Launch) (htr : l.stackTraces = false) (D : va_G) (sz : Nat) (h0 tx dr : Nat) (t : Nat → Nat) (n a : Nat) (f0 f1 f2 f3 f4 f5 : Nat) (f6 : Bool) (f7 : Nat) (hn : n ≤ 40) (ha : a ≤ n) (ht : ∀ j, t j < 128) : Ct l yX1_readGoing wX1_readGoing { frames := 4, cells := 0, slots := 0, locals := 91 } D ([(h0, .inr (1, [.ref tx, .int (nI n), .int (nI a), .ref dr])), (tx, .inl (D.1 10, 40, .inl (fun j => nI (t j)))), (dr, .inr (0, [.int (nI f0), .int (nI f1), .int (nI f2), .int (nI f3), .int (nI f4), .int (nI f5), .int (bI f6), .int (nI f7), .int (oI none), .int (oI none)]))]) [.ref h0] sz (fun v w => (gl t n a = 0 ∧ v = some (.int (nI 1)) ∧ w = [(h0, .inr (1, [.ref tx, .int (nI n), .int (nI a), .ref dr])), (tx, .inl (D.1 10, 40, .inl (fun j => nI (t j)))), (dr, .inr (0, [.int (nI f0), .int (nI f1), .int (nI f2), .int (nI f3), .int (nI f4), .int (nI f5), .int (bI f6), .int (nI 0), .int (oI none), .int (oI none)]))]) ∨ (∃ q, gl t n a ≠ 0 ∧ gg t n (a + 1) (gl t n a) = .inr q ∧ a < q.1 ∧ q.1 ≤ n ∧ v = some (.int (nI 1)) ∧ w = [(h0, .inr (1, [.ref tx, .int (nI n), .int (nI q.1), .ref dr])), (tx, .inl (D.1 10, 40, .inl (fun j => nI (t j)))), (dr, .inr (0, [.int (nI f0), .int (nI f1), .int (nI f2), .int (nI f3), .int (nI f4), .int (nI f5), .int (bI f6), .int (nI (gl t n a)), .int (oI q.2.1), .int (oI q.2.2)]))]) ∨ (∃ a9 g8 g9, gl t n a ≠ 0 ∧ gg t n (a + 1) (gl t n a) = .inl a9 ∧ a9 ≤ n ∧ v = some (.int (nI 0)) ∧ w = [(h0, .inr (1, [.ref tx, .int (nI n), .int (nI a9), .ref dr])), (tx, .inl (D.1 10, 40, .inl (fun j => nI (t j)))), (dr, .inr (0, [.int (nI f0), .int (nI f1), .int (nI f2), .int (nI f3), .int (nI f4), .int (nI f5), .int (bI f6), .int (nI (gl t n a)), .int (oI g8), .int (oI g9)]))])) (nox) := by
  refine Ct.of (cc := cX1_readGoing) (nL := 1) (ret := (some .boolean)) (own := RX1) htr (by decide) rfl (Nat.le_of_ble_eq_true rfl) ?_
  intro p e s m args below meth c A C hr hK H locs hH ls hl
  have hl : lv_has ls 1 [(0, .ref h0)] := hl
  refine lv_aload_n C.x C.b dX1_readGoing_0 rfl (lv_at hl 0 rfl) ?_
  refine gGet (v := .ref dr) C hK hH 0 3 rfl rfl inX1 (by decide) tw_89 rfl dX1_readGoing_1 ?_
  refine lv_aload_n C.x C.b dX1_readGoing_4 rfl (lv_at hl 0 rfl) ?_
  refine gGet (v := .int (nI a)) C hK hH 0 2 rfl rfl inX1 (by decide) tw_87 rfl dX1_readGoing_5 ?_
  refine lv_aload_n C.x C.b dX1_readGoing_8 rfl (lv_at hl 0 rfl) ?_
  refine gGet (v := .int (nI n)) C hK hH 0 1 rfl rfl inX1 (by decide) tw_85 rfl dX1_readGoing_9 ?_
  refine vn_icmp_ge (tgt := 34) C.x C.b dX1_readGoing_12 (by decide) (by omega) (by omega) (fun c_12 => ?_) (fun c_12 => ?_)
  · refine lv_iconst (v := nI 0) C.x C.b dX1_readGoing_34 (by decide) ?_
    refine gPutN (v := .int (nI 0)) (ws' := [(h0, .inr (1, [.ref tx, .int (nI n), .int (nI a), .ref dr])), (tx, .inl (D.1 10, 40, .inl (fun j => nI (t j)))), (dr, .inr (0, [.int (nI f0), .int (nI f1), .int (nI f2), .int (nI f3), .int (nI f4), .int (nI f5), .int (bI f6), .int (nI 0), .int (oI none), .int (oI none)]))]) C hK hH 2 7 tyX0 tyX0_ok nmX0 rfl rfl inX0 (by decide) (nwl_of tn_54 rfl) rfl rfl rfl (Nat.le_of_ble_eq_true rfl) rfl dX1_readGoing_35 (fun H locs hH => ?_)
    refine lv_aload_n C.x C.b dX1_readGoing_38 rfl (lv_at hl 0 rfl) ?_
    refine gGet (v := .ref dr) C hK hH 0 3 rfl rfl inX1 (by decide) tw_89 rfl dX1_readGoing_39 ?_
    refine gGetN (v := .int (nI 0)) C hK hH 2 7 rfl rfl inX0 (by decide) (nwl_of tn_54 rfl) rfl dX1_readGoing_42 ?_
    refine vn_if_ne (tgt := 50) C.x C.b dX1_readGoing_45 (by decide) (by omega) (fun q => absurd q (by decide)) (fun _ => ?_)
    refine lv_iconst (v := nI 1) C.x C.b dX1_readGoing_48 (by decide) ?_
    exact rZ C hr (by decide) hH (Or.inl ⟨by first | exact gl_none hx_29 | exact gl_out (by omega), rfl, rfl⟩) (Nat.le_of_ble_eq_true rfl) (Nat.le_of_ble_eq_true rfl) dX1_readGoing_49
  · refine va_ldcS C.x C.b C.ow C.N.2.2 dX1_readGoing_15 ?_
    refine lv_aload_n C.x C.b dX1_readGoing_17 rfl (lv_at hl 0 rfl) ?_
    refine gGet (v := .ref tx) C hK hH 0 0 rfl rfl inX1 (by decide) tw_84 rfl dX1_readGoing_18 ?_
    refine lv_aload_n C.x C.b dX1_readGoing_21 rfl (lv_at hl 0 rfl) ?_
    refine gGet (v := .int (nI a)) C hK hH 0 2 rfl rfl inX1 (by decide) tw_87 rfl dX1_readGoing_22 ?_
    have hf_25 := ht a
    refine gCald (v := (nI (t a))) C hK hH 1 rfl (by omega) (by decide) dX1_readGoing_25 rfl ?_
    refine kVr (As := [.int (nI (t a))]) (isC := []) (isR := [0, 1, 2]) (wr := [(h0, .inr (1, [.ref tx, .int (nI n), .int (nI a), .ref dr])), (tx, .inl (D.1 10, 40, .inl (fun j => nI (t j)))), (dr, .inr (0, [.int (nI f0), .int (nI f1), .int (nI f2), .int (nI f3), .int (nI f4), .int (nI f5), .int (bI f6), .int (nI f7), .int (oI none), .int (oI none)]))]) C hK hH (c_indexOf l htr D H.size 1 (t a) (by decide) (by omega)) ⟨rfl, rfl, rfl, rfl, by decide⟩ (vk_recv C.Z.2.2.1 (i := 1) (by decide) hH.2.2) tw_280 tw_281 tw_282 tw_10 kJ0_indexOf ⟨by decide +kernel, by decide +kernel, (by decide +kernel : (parseMethodDescriptor yJ0_indexOf.desc).map (fun d => d.parameters.length) = some 1)⟩ ⟨(Nat.le_of_ble_eq_true rfl), (Nat.le_of_ble_eq_true rfl)⟩ hl.1 (Nat.le_of_ble_eq_true rfl) dX1_readGoing_26 ⟨(Nat.le_of_ble_eq_true rfl), (Nat.le_of_ble_eq_true rfl)⟩ (fun v9 w9 H locs hN hH => ?_) (fun _ _ _ _ _ _ h => False.elim h)
    obtain ⟨rfl, rfl⟩ := hN
    have hH : Hp D A s ([(h0, .inr (1, [.ref tx, .int (nI n), .int (nI a), .ref dr])), (tx, .inl (D.1 10, 40, .inl (fun j => nI (t j)))), (dr, .inr (0, [.int (nI f0), .int (nI f1), .int (nI f2), .int (nI f3), .int (nI f4), .int (nI f5), .int (bI f6), .int (nI f7), .int (oI none), .int (oI none)]))]) H locs := hH
    refine W.eq (g2 := F0 m 29 ls [.int (oI (ixS 1 (t a))), .ref dr]) rfl ?_
    cases hx_29 : ixS 1 (t a) with
    | none =>
      refine vt_top (y := -1) rfl ?_
      refine lv_iconst (v := nI 1) C.x C.b dX1_readGoing_29 (by decide) ?_
      refine lv_iadd C.x C.b dX1_readGoing_30 ?_
      refine vt_top (y := nI 0) (by decide) ?_
      refine lv_goto (tgt := 35) C.x C.b dX1_readGoing_31 (by decide) ?_
      refine gPutN (v := .int (nI 0)) (ws' := [(h0, .inr (1, [.ref tx, .int (nI n), .int (nI a), .ref dr])), (tx, .inl (D.1 10, 40, .inl (fun j => nI (t j)))), (dr, .inr (0, [.int (nI f0), .int (nI f1), .int (nI f2), .int (nI f3), .int (nI f4), .int (nI f5), .int (bI f6), .int (nI 0), .int (oI none), .int (oI none)]))]) C hK hH 2 7 tyX0 tyX0_ok nmX0 rfl rfl inX0 (by decide) (nwl_of tn_54 rfl) rfl rfl rfl (Nat.le_of_ble_eq_true rfl) rfl dX1_readGoing_35 (fun H locs hH => ?_)
      refine lv_aload_n C.x C.b dX1_readGoing_38 rfl (lv_at hl 0 rfl) ?_
      refine gGet (v := .ref dr) C hK hH 0 3 rfl rfl inX1 (by decide) tw_89 rfl dX1_readGoing_39 ?_
      refine gGetN (v := .int (nI 0)) C hK hH 2 7 rfl rfl inX0 (by decide) (nwl_of tn_54 rfl) rfl dX1_readGoing_42 ?_
      refine vn_if_ne (tgt := 50) C.x C.b dX1_readGoing_45 (by decide) (by omega) (fun q => absurd q (by decide)) (fun _ => ?_)
      refine lv_iconst (v := nI 1) C.x C.b dX1_readGoing_48 (by decide) ?_
      exact rZ C hr (by decide) hH (Or.inl ⟨by first | exact gl_none hx_29 | exact gl_out (by omega), rfl, rfl⟩) (Nat.le_of_ble_eq_true rfl) (Nat.le_of_ble_eq_true rfl) dX1_readGoing_49
    | some y_29 =>
      have hy_29 := ix1_lt hx_29
      refine vt_top (y := nI y_29) rfl ?_
      refine lv_iconst (v := nI 1) C.x C.b dX1_readGoing_29 (by decide) ?_
      refine lv_iadd C.x C.b dX1_readGoing_30 ?_
      refine vt_top (nI_add _ _) ?_
      refine lv_goto (tgt := 35) C.x C.b dX1_readGoing_31 (by decide) ?_
      refine gPutN (v := .int (nI (y_29 + 1))) (ws' := [(h0, .inr (1, [.ref tx, .int (nI n), .int (nI a), .ref dr])), (tx, .inl (D.1 10, 40, .inl (fun j => nI (t j)))), (dr, .inr (0, [.int (nI f0), .int (nI f1), .int (nI f2), .int (nI f3), .int (nI f4), .int (nI f5), .int (bI f6), .int (nI (y_29 + 1)), .int (oI none), .int (oI none)]))]) C hK hH 2 7 tyX0 tyX0_ok nmX0 rfl rfl inX0 (by decide) (nwl_of tn_54 rfl) rfl rfl rfl (Nat.le_of_ble_eq_true rfl) rfl dX1_readGoing_35 (fun H locs hH => ?_)
      refine lv_aload_n C.x C.b dX1_readGoing_38 rfl (lv_at hl 0 rfl) ?_
      refine gGet (v := .ref dr) C hK hH 0 3 rfl rfl inX1 (by decide) tw_89 rfl dX1_readGoing_39 ?_
      refine gGetN (v := .int (nI (y_29 + 1))) C hK hH 2 7 rfl rfl inX0 (by decide) (nwl_of tn_54 rfl) rfl dX1_readGoing_42 ?_
      refine vn_if_ne (tgt := 50) C.x C.b dX1_readGoing_45 (by decide) (by omega) (fun c_45 => ?_) (fun c_45 => ?_)
      · refine lv_aload_n C.x C.b dX1_readGoing_50 rfl (lv_at hl 0 rfl) ?_
        refine lv_dup C.x C.b dX1_readGoing_51 rfl ?_
        refine gGet (v := .int (nI a)) C hK hH 0 2 rfl rfl inX1 (by decide) tw_87 rfl dX1_readGoing_52 ?_
        refine lv_iconst (v := nI 1) C.x C.b dX1_readGoing_55 (by decide) ?_
        refine lv_iadd C.x C.b dX1_readGoing_56 ?_
        refine vt_top (nI_add _ _) ?_
        refine gPut (v := .int (nI (a + 1))) (ws' := [(h0, .inr (1, [.ref tx, .int (nI n), .int (nI (a + 1)), .ref dr])), (tx, .inl (D.1 10, 40, .inl (fun j => nI (t j)))), (dr, .inr (0, [.int (nI f0), .int (nI f1), .int (nI f2), .int (nI f3), .int (nI f4), .int (nI f5), .int (bI f6), .int (nI (y_29 + 1)), .int (oI none), .int (oI none)]))]) C hK hH 0 2 tyX1 tyX1_ok nmX1 rfl rfl inX1 (by decide) tw_87 rfl rfl rfl (Nat.le_of_ble_eq_true rfl) rfl dX1_readGoing_57 (fun H locs hH => ?_)
        refine lv_aload_n C.x C.b dX1_readGoing_60 rfl (lv_at hl 0 rfl) ?_
        refine gGet (v := .ref dr) C hK hH 0 3 rfl rfl inX1 (by decide) tw_89 rfl dX1_readGoing_61 ?_
        refine gGetN (v := .int (nI (y_29 + 1))) C hK hH 2 7 rfl rfl inX0 (by decide) (nwl_of tn_54 rfl) rfl dX1_readGoing_64 ?_
        refine lv_iconst (v := nI 4) C.x C.b dX1_readGoing_67 (by decide) ?_
        refine vn_icmp_ne (tgt := 84) C.x C.b dX1_readGoing_68 (by decide) (by omega) (by omega) (fun c_68 => ?_) (fun c_68 => ?_)
        · refine lv_aload_n C.x C.b dX1_readGoing_84 rfl (lv_at hl 0 rfl) ?_
          refine gGet (v := .ref dr) C hK hH 0 3 rfl rfl inX1 (by decide) tw_89 rfl dX1_readGoing_85 ?_
          refine lv_aload_n C.x C.b dX1_readGoing_88 rfl (lv_at hl 0 rfl) ?_
          refine kV (As := []) (isC := [0, 1, 2]) (isR := []) (wr := []) C hK hH (c_takeNumber l htr D H.size h0 tx dr t n (a + 1) f0 f1 f2 f3 f4 f5 f6 (y_29 + 1) none none hn (by omega) ht) ⟨rfl, rfl, rfl, rfl, by decide⟩ 0 rfl rfl tw_399 tw_401 ts_14 tw_2 kX1_takeNumber ⟨by decide +kernel, by decide +kernel, (by decide +kernel : (parseMethodDescriptor yX1_takeNumber.desc).map (fun d => d.parameters.length) = some 0)⟩ ⟨(Nat.le_of_ble_eq_true rfl), (Nat.le_of_ble_eq_true rfl)⟩ hl.1 (Nat.le_of_ble_eq_true rfl) dX1_readGoing_89 ⟨(Nat.le_of_ble_eq_true rfl), (Nat.le_of_ble_eq_true rfl)⟩ (fun v9 w9 H locs hN hH => ?_) (fun _ _ _ _ _ _ h => False.elim h)
          rcases hN with ⟨x_89, b_89, hb_89, hx63_89, ka_89, kl_89, rfl, rfl⟩ | ⟨hb_89, rfl, rfl⟩
          · have hH : Hp D A s ([(h0, .inr (1, [.ref tx, .int (nI n), .int (nI b_89), .ref dr])), (tx, .inl (D.1 10, 40, .inl (fun j => nI (t j)))), (dr, .inr (0, [.int (nI f0), .int (nI f1), .int (nI f2), .int (nI f3), .int (nI f4), .int (nI f5), .int (bI f6), .int (nI (y_29 + 1)), .int (oI none), .int (oI none)]))]) H locs := hH
            refine W.eq (g2 := F0 m 92 ls [.int (nI x_89), .ref dr]) rfl ?_
            refine gPutN (v := .int (nI x_89)) (ws' := [(h0, .inr (1, [.ref tx, .int (nI n), .int (nI b_89), .ref dr])), (tx, .inl (D.1 10, 40, .inl (fun j => nI (t j)))), (dr, .inr (0, [.int (nI f0), .int (nI f1), .int (nI f2), .int (nI f3), .int (nI f4), .int (nI f5), .int (bI f6), .int (nI (y_29 + 1)), .int (nI x_89), .int (oI none)]))]) C hK hH 2 8 tyX0 tyX0_ok nmX0 rfl rfl inX0 (by decide) (nwl_of tn_57 rfl) rfl rfl rfl (Nat.le_of_ble_eq_true rfl) rfl dX1_readGoing_92 (fun H locs hH => ?_)
            refine lv_aload_n C.x C.b dX1_readGoing_95 rfl (lv_at hl 0 rfl) ?_
            refine gGet (v := .ref dr) C hK hH 0 3 rfl rfl inX1 (by decide) tw_89 rfl dX1_readGoing_96 ?_
            refine gGetN (v := .int (nI (y_29 + 1))) C hK hH 2 7 rfl rfl inX0 (by decide) (nwl_of tn_54 rfl) rfl dX1_readGoing_99 ?_
            refine lv_iconst (v := nI 1) C.x C.b dX1_readGoing_102 (by decide) ?_
            refine vn_icmp_eq (tgt := 117) C.x C.b dX1_readGoing_103 (by decide) (by omega) (by omega) (fun c_103 => ?_) (fun c_103 => ?_)
            · refine lv_aload_n C.x C.b dX1_readGoing_117 rfl (lv_at hl 0 rfl) ?_
              refine gGet (v := .ref dr) C hK hH 0 3 rfl rfl inX1 (by decide) tw_89 rfl dX1_readGoing_118 ?_
              refine gGetN (v := .int (nI x_89)) C hK hH 2 8 rfl rfl inX0 (by decide) (nwl_of tn_57 rfl) rfl dX1_readGoing_121 ?_
              refine vn_if_lt (tgt := 131) C.x C.b dX1_readGoing_124 (by decide) (by omega) ?_
              refine lv_iconst (v := nI 1) C.x C.b dX1_readGoing_127 (by decide) ?_
              refine lv_goto (tgt := 132) C.x C.b dX1_readGoing_128 (by decide) ?_
              exact rZ C hr (by decide) hH (Or.inr (Or.inl ⟨(b_89, some x_89, none), by rw [gl_some (by omega) hx_29]; omega, by rw [gl_some (by omega) hx_29]; unfold gg; rw [if_neg (by omega), hb_89]; exact if_pos (by omega), by omega, by omega, rfl, by rw [gl_some (by omega) hx_29]; first | done | rfl⟩)) (Nat.le_of_ble_eq_true rfl) (Nat.le_of_ble_eq_true rfl) dX1_readGoing_132
            · refine lv_aload_n C.x C.b dX1_readGoing_106 rfl (lv_at hl 0 rfl) ?_
              refine gGet (v := .ref dr) C hK hH 0 3 rfl rfl inX1 (by decide) tw_89 rfl dX1_readGoing_107 ?_
              refine gGetN (v := .int (nI (y_29 + 1))) C hK hH 2 7 rfl rfl inX0 (by decide) (nwl_of tn_54 rfl) rfl dX1_readGoing_110 ?_
              refine lv_iconst (v := nI 4) C.x C.b dX1_readGoing_113 (by decide) ?_
              refine vn_icmp_ne (tgt := 133) C.x C.b dX1_readGoing_114 (by decide) (by omega) (by omega) (fun c_114 => ?_) (fun c_114 => ?_)
              · refine lv_aload_n C.x C.b dX1_readGoing_133 rfl (lv_at hl 0 rfl) ?_
                refine gGet (v := .ref dr) C hK hH 0 3 rfl rfl inX1 (by decide) tw_89 rfl dX1_readGoing_134 ?_
                refine gGetN (v := .int (nI x_89)) C hK hH 2 8 rfl rfl inX0 (by decide) (nwl_of tn_57 rfl) rfl dX1_readGoing_137 ?_
                refine vn_if_lt (tgt := 152) C.x C.b dX1_readGoing_140 (by decide) (by omega) ?_
                refine lv_aload_n C.x C.b dX1_readGoing_143 rfl (lv_at hl 0 rfl) ?_
                refine lv_bipush (v := nI 44) C.x C.b dX1_readGoing_144 (by decide) ?_
                refine kV (As := [.int (nI 44)]) (isC := [0, 1, 2]) (isR := []) (wr := []) C hK hH (c_take l htr D H.size h0 tx dr t n b_89 f0 f1 f2 f3 f4 f5 f6 (y_29 + 1) (some x_89) none 44 hn (by omega) ht (by omega)) ⟨rfl, rfl, rfl, rfl, by decide⟩ 0 rfl rfl tw_370 tw_372 ts_7 tw_2 kX1_take ⟨by decide +kernel, by decide +kernel, (by decide +kernel : (parseMethodDescriptor yX1_take.desc).map (fun d => d.parameters.length) = some 1)⟩ ⟨(Nat.le_of_ble_eq_true rfl), (Nat.le_of_ble_eq_true rfl)⟩ hl.1 (Nat.le_of_ble_eq_true rfl) dX1_readGoing_146 ⟨(Nat.le_of_ble_eq_true rfl), (Nat.le_of_ble_eq_true rfl)⟩ (fun v9 w9 H locs hN hH => ?_) (fun _ _ _ _ _ _ h => False.elim h)
                rcases hN with ⟨k_146, kl_146, rfl, rfl⟩ | ⟨k_146, rfl, rfl⟩
                · have hH : Hp D A s ([(h0, .inr (1, [.ref tx, .int (nI n), .int (nI (b_89 + 1)), .ref dr])), (tx, .inl (D.1 10, 40, .inl (fun j => nI (t j)))), (dr, .inr (0, [.int (nI f0), .int (nI f1), .int (nI f2), .int (nI f3), .int (nI f4), .int (nI f5), .int (bI f6), .int (nI (y_29 + 1)), .int (oI (some x_89)), .int (oI none)]))]) H locs := hH
                  refine W.eq (g2 := F0 m 149 ls [.int (nI 1)]) rfl ?_
                  refine vn_if_ne (tgt := 154) C.x C.b dX1_readGoing_149 (by decide) (by omega) (fun _ => ?_) (fun q => absurd q (by decide))
                  refine lv_aload_n C.x C.b dX1_readGoing_154 rfl (lv_at hl 0 rfl) ?_
                  refine gGet (v := .ref dr) C hK hH 0 3 rfl rfl inX1 (by decide) tw_89 rfl dX1_readGoing_155 ?_
                  refine lv_aload_n C.x C.b dX1_readGoing_158 rfl (lv_at hl 0 rfl) ?_
                  refine kV (As := []) (isC := [0, 1, 2]) (isR := []) (wr := []) C hK hH (c_takeNumber l htr D H.size h0 tx dr t n (b_89 + 1) f0 f1 f2 f3 f4 f5 f6 (y_29 + 1) (some x_89) none hn (by omega) ht) ⟨rfl, rfl, rfl, rfl, by decide⟩ 0 rfl rfl tw_399 tw_401 ts_14 tw_2 kX1_takeNumber ⟨by decide +kernel, by decide +kernel, (by decide +kernel : (parseMethodDescriptor yX1_takeNumber.desc).map (fun d => d.parameters.length) = some 0)⟩ ⟨(Nat.le_of_ble_eq_true rfl), (Nat.le_of_ble_eq_true rfl)⟩ hl.1 (Nat.le_of_ble_eq_true rfl) dX1_readGoing_159 ⟨(Nat.le_of_ble_eq_true rfl), (Nat.le_of_ble_eq_true rfl)⟩ (fun v9 w9 H locs hN hH => ?_) (fun _ _ _ _ _ _ h => False.elim h)
                  rcases hN with ⟨x_159, b_159, hb_159, hx63_159, ka_159, kl_159, rfl, rfl⟩ | ⟨hb_159, rfl, rfl⟩
                  · have hH : Hp D A s ([(h0, .inr (1, [.ref tx, .int (nI n), .int (nI b_159), .ref dr])), (tx, .inl (D.1 10, 40, .inl (fun j => nI (t j)))), (dr, .inr (0, [.int (nI f0), .int (nI f1), .int (nI f2), .int (nI f3), .int (nI f4), .int (nI f5), .int (bI f6), .int (nI (y_29 + 1)), .int (oI (some x_89)), .int (oI none)]))]) H locs := hH
                    refine W.eq (g2 := F0 m 162 ls [.int (nI x_159), .ref dr]) rfl ?_
                    refine gPutN (v := .int (nI x_159)) (ws' := [(h0, .inr (1, [.ref tx, .int (nI n), .int (nI b_159), .ref dr])), (tx, .inl (D.1 10, 40, .inl (fun j => nI (t j)))), (dr, .inr (0, [.int (nI f0), .int (nI f1), .int (nI f2), .int (nI f3), .int (nI f4), .int (nI f5), .int (bI f6), .int (nI (y_29 + 1)), .int (oI (some x_89)), .int (nI x_159)]))]) C hK hH 2 9 tyX0 tyX0_ok nmX0 rfl rfl inX0 (by decide) (nwl_of tn_60 rfl) rfl rfl rfl (Nat.le_of_ble_eq_true rfl) rfl dX1_readGoing_162 (fun H locs hH => ?_)
                    refine lv_aload_n C.x C.b dX1_readGoing_165 rfl (lv_at hl 0 rfl) ?_
                    refine gGet (v := .ref dr) C hK hH 0 3 rfl rfl inX1 (by decide) tw_89 rfl dX1_readGoing_166 ?_
                    refine gGetN (v := .int (nI x_159)) C hK hH 2 9 rfl rfl inX0 (by decide) (nwl_of tn_60 rfl) rfl dX1_readGoing_169 ?_
                    refine vn_if_lt (tgt := 179) C.x C.b dX1_readGoing_172 (by decide) (by omega) ?_
                    refine lv_iconst (v := nI 1) C.x C.b dX1_readGoing_175 (by decide) ?_
                    refine lv_goto (tgt := 180) C.x C.b dX1_readGoing_176 (by decide) ?_
                    exact rZ C hr (by decide) hH (Or.inr (Or.inl ⟨(b_159, some x_89, some x_159), by rw [gl_some (by omega) hx_29]; omega, by rw [gl_some (by omega) hx_29]; unfold gg; rw [if_neg (by omega), hb_89]; show (if _ then _ else _) = _; rw [if_neg (by omega), k_146, hb_159]; (try rfl), by omega, by omega, rfl, by rw [gl_some (by omega) hx_29]; first | done | rfl⟩)) (Nat.le_of_ble_eq_true rfl) (Nat.le_of_ble_eq_true rfl) dX1_readGoing_180
                  · have hH : Hp D A s ([(h0, .inr (1, [.ref tx, .int (nI n), .int (nI (b_89 + 1)), .ref dr])), (tx, .inl (D.1 10, 40, .inl (fun j => nI (t j)))), (dr, .inr (0, [.int (nI f0), .int (nI f1), .int (nI f2), .int (nI f3), .int (nI f4), .int (nI f5), .int (bI f6), .int (nI (y_29 + 1)), .int (oI (some x_89)), .int (oI none)]))]) H locs := hH
                    refine W.eq (g2 := F0 m 162 ls [.int (-1), .ref dr]) rfl ?_
                    refine gPutN (v := .int (-1)) (ws' := [(h0, .inr (1, [.ref tx, .int (nI n), .int (nI (b_89 + 1)), .ref dr])), (tx, .inl (D.1 10, 40, .inl (fun j => nI (t j)))), (dr, .inr (0, [.int (nI f0), .int (nI f1), .int (nI f2), .int (nI f3), .int (nI f4), .int (nI f5), .int (bI f6), .int (nI (y_29 + 1)), .int (oI (some x_89)), .int (-1)]))]) C hK hH 2 9 tyX0 tyX0_ok nmX0 rfl rfl inX0 (by decide) (nwl_of tn_60 rfl) rfl rfl rfl (Nat.le_of_ble_eq_true rfl) rfl dX1_readGoing_162 (fun H locs hH => ?_)
                    refine lv_aload_n C.x C.b dX1_readGoing_165 rfl (lv_at hl 0 rfl) ?_
                    refine gGet (v := .ref dr) C hK hH 0 3 rfl rfl inX1 (by decide) tw_89 rfl dX1_readGoing_166 ?_
                    refine gGetN (v := .int (-1)) C hK hH 2 9 rfl rfl inX0 (by decide) (nwl_of tn_60 rfl) rfl dX1_readGoing_169 ?_
                    refine lv_if_lt (tgt := 179) C.x C.b dX1_readGoing_172 (by decide) (fun _ => ?_) (fun q => absurd (by decide) q)
                    refine lv_iconst (v := nI 0) C.x C.b dX1_readGoing_179 (by decide) ?_
                    exact rZ C hr (by decide) hH (Or.inr (Or.inr ⟨b_89 + 1, some x_89, none, by rw [gl_some (by omega) hx_29]; omega, by rw [gl_some (by omega) hx_29]; unfold gg; rw [if_neg (by omega), hb_89]; show (if _ then _ else _) = _; rw [if_neg (by omega), k_146, hb_159]; (try rfl), by omega, rfl, by rw [gl_some (by omega) hx_29]; first | done | rfl⟩)) (Nat.le_of_ble_eq_true rfl) (Nat.le_of_ble_eq_true rfl) dX1_readGoing_180
                · have hH : Hp D A s ([(h0, .inr (1, [.ref tx, .int (nI n), .int (nI b_89), .ref dr])), (tx, .inl (D.1 10, 40, .inl (fun j => nI (t j)))), (dr, .inr (0, [.int (nI f0), .int (nI f1), .int (nI f2), .int (nI f3), .int (nI f4), .int (nI f5), .int (bI f6), .int (nI (y_29 + 1)), .int (oI (some x_89)), .int (oI none)]))]) H locs := hH
                  refine W.eq (g2 := F0 m 149 ls [.int (nI 0)]) rfl ?_
                  refine vn_if_ne (tgt := 154) C.x C.b dX1_readGoing_149 (by decide) (by omega) (fun q => absurd q (by decide)) (fun _ => ?_)
                  refine lv_iconst (v := nI 0) C.x C.b dX1_readGoing_152 (by decide) ?_
                  exact rZ C hr (by decide) hH (Or.inr (Or.inr ⟨b_89, some x_89, none, by rw [gl_some (by omega) hx_29]; omega, by rw [gl_some (by omega) hx_29]; unfold gg; rw [if_neg (by omega), hb_89]; show (if _ then _ else _) = _; rw [if_neg (by omega), k_146]; rfl, by omega, rfl, by rw [gl_some (by omega) hx_29]; first | done | rfl⟩)) (Nat.le_of_ble_eq_true rfl) (Nat.le_of_ble_eq_true rfl) dX1_readGoing_153
              · refine lv_aload_n C.x C.b dX1_readGoing_117 rfl (lv_at hl 0 rfl) ?_
                refine gGet (v := .ref dr) C hK hH 0 3 rfl rfl inX1 (by decide) tw_89 rfl dX1_readGoing_118 ?_
                refine gGetN (v := .int (nI x_89)) C hK hH 2 8 rfl rfl inX0 (by decide) (nwl_of tn_57 rfl) rfl dX1_readGoing_121 ?_
                refine vn_if_lt (tgt := 131) C.x C.b dX1_readGoing_124 (by decide) (by omega) ?_
                refine lv_iconst (v := nI 1) C.x C.b dX1_readGoing_127 (by decide) ?_
                refine lv_goto (tgt := 132) C.x C.b dX1_readGoing_128 (by decide) ?_
                exact rZ C hr (by decide) hH (Or.inr (Or.inl ⟨(b_89, some x_89, none), by rw [gl_some (by omega) hx_29]; omega, by rw [gl_some (by omega) hx_29]; unfold gg; rw [if_neg (by omega), hb_89]; exact if_pos (by omega), by omega, by omega, rfl, by rw [gl_some (by omega) hx_29]; first | done | rfl⟩)) (Nat.le_of_ble_eq_true rfl) (Nat.le_of_ble_eq_true rfl) dX1_readGoing_132
          · have hH : Hp D A s ([(h0, .inr (1, [.ref tx, .int (nI n), .int (nI (a + 1)), .ref dr])), (tx, .inl (D.1 10, 40, .inl (fun j => nI (t j)))), (dr, .inr (0, [.int (nI f0), .int (nI f1), .int (nI f2), .int (nI f3), .int (nI f4), .int (nI f5), .int (bI f6), .int (nI (y_29 + 1)), .int (oI none), .int (oI none)]))]) H locs := hH
            refine W.eq (g2 := F0 m 92 ls [.int (-1), .ref dr]) rfl ?_
            refine gPutN (v := .int (-1)) (ws' := [(h0, .inr (1, [.ref tx, .int (nI n), .int (nI (a + 1)), .ref dr])), (tx, .inl (D.1 10, 40, .inl (fun j => nI (t j)))), (dr, .inr (0, [.int (nI f0), .int (nI f1), .int (nI f2), .int (nI f3), .int (nI f4), .int (nI f5), .int (bI f6), .int (nI (y_29 + 1)), .int (-1), .int (oI none)]))]) C hK hH 2 8 tyX0 tyX0_ok nmX0 rfl rfl inX0 (by decide) (nwl_of tn_57 rfl) rfl rfl rfl (Nat.le_of_ble_eq_true rfl) rfl dX1_readGoing_92 (fun H locs hH => ?_)
            refine lv_aload_n C.x C.b dX1_readGoing_95 rfl (lv_at hl 0 rfl) ?_
            refine gGet (v := .ref dr) C hK hH 0 3 rfl rfl inX1 (by decide) tw_89 rfl dX1_readGoing_96 ?_
            refine gGetN (v := .int (nI (y_29 + 1))) C hK hH 2 7 rfl rfl inX0 (by decide) (nwl_of tn_54 rfl) rfl dX1_readGoing_99 ?_
            refine lv_iconst (v := nI 1) C.x C.b dX1_readGoing_102 (by decide) ?_
            refine vn_icmp_eq (tgt := 117) C.x C.b dX1_readGoing_103 (by decide) (by omega) (by omega) (fun c_103 => ?_) (fun c_103 => ?_)
            · refine lv_aload_n C.x C.b dX1_readGoing_117 rfl (lv_at hl 0 rfl) ?_
              refine gGet (v := .ref dr) C hK hH 0 3 rfl rfl inX1 (by decide) tw_89 rfl dX1_readGoing_118 ?_
              refine gGetN (v := .int (-1)) C hK hH 2 8 rfl rfl inX0 (by decide) (nwl_of tn_57 rfl) rfl dX1_readGoing_121 ?_
              refine lv_if_lt (tgt := 131) C.x C.b dX1_readGoing_124 (by decide) (fun _ => ?_) (fun q => absurd (by decide) q)
              refine lv_iconst (v := nI 0) C.x C.b dX1_readGoing_131 (by decide) ?_
              exact rZ C hr (by decide) hH (Or.inr (Or.inr ⟨a + 1, none, none, by rw [gl_some (by omega) hx_29]; omega, by rw [gl_some (by omega) hx_29]; unfold gg; rw [if_neg (by omega), hb_89], by omega, rfl, by rw [gl_some (by omega) hx_29]; first | done | rfl⟩)) (Nat.le_of_ble_eq_true rfl) (Nat.le_of_ble_eq_true rfl) dX1_readGoing_132
            · refine lv_aload_n C.x C.b dX1_readGoing_106 rfl (lv_at hl 0 rfl) ?_
              refine gGet (v := .ref dr) C hK hH 0 3 rfl rfl inX1 (by decide) tw_89 rfl dX1_readGoing_107 ?_
              refine gGetN (v := .int (nI (y_29 + 1))) C hK hH 2 7 rfl rfl inX0 (by decide) (nwl_of tn_54 rfl) rfl dX1_readGoing_110 ?_
              refine lv_iconst (v := nI 4) C.x C.b dX1_readGoing_113 (by decide) ?_
              refine vn_icmp_ne (tgt := 133) C.x C.b dX1_readGoing_114 (by decide) (by omega) (by omega) (fun c_114 => ?_) (fun c_114 => ?_)
              · refine lv_aload_n C.x C.b dX1_readGoing_133 rfl (lv_at hl 0 rfl) ?_
                refine gGet (v := .ref dr) C hK hH 0 3 rfl rfl inX1 (by decide) tw_89 rfl dX1_readGoing_134 ?_
                refine gGetN (v := .int (-1)) C hK hH 2 8 rfl rfl inX0 (by decide) (nwl_of tn_57 rfl) rfl dX1_readGoing_137 ?_
                refine lv_if_lt (tgt := 152) C.x C.b dX1_readGoing_140 (by decide) (fun _ => ?_) (fun q => absurd (by decide) q)
                refine lv_iconst (v := nI 0) C.x C.b dX1_readGoing_152 (by decide) ?_
                exact rZ C hr (by decide) hH (Or.inr (Or.inr ⟨a + 1, none, none, by rw [gl_some (by omega) hx_29]; omega, by rw [gl_some (by omega) hx_29]; unfold gg; rw [if_neg (by omega), hb_89], by omega, rfl, by rw [gl_some (by omega) hx_29]; first | done | rfl⟩)) (Nat.le_of_ble_eq_true rfl) (Nat.le_of_ble_eq_true rfl) dX1_readGoing_153
              · refine lv_aload_n C.x C.b dX1_readGoing_117 rfl (lv_at hl 0 rfl) ?_
                refine gGet (v := .ref dr) C hK hH 0 3 rfl rfl inX1 (by decide) tw_89 rfl dX1_readGoing_118 ?_
                refine gGetN (v := .int (-1)) C hK hH 2 8 rfl rfl inX0 (by decide) (nwl_of tn_57 rfl) rfl dX1_readGoing_121 ?_
                refine lv_if_lt (tgt := 131) C.x C.b dX1_readGoing_124 (by decide) (fun _ => ?_) (fun q => absurd (by decide) q)
                refine lv_iconst (v := nI 0) C.x C.b dX1_readGoing_131 (by decide) ?_
                exact rZ C hr (by decide) hH (Or.inr (Or.inr ⟨a + 1, none, none, by rw [gl_some (by omega) hx_29]; omega, by rw [gl_some (by omega) hx_29]; unfold gg; rw [if_neg (by omega), hb_89], by omega, rfl, by rw [gl_some (by omega) hx_29]; first | done | rfl⟩)) (Nat.le_of_ble_eq_true rfl) (Nat.le_of_ble_eq_true rfl) dX1_readGoing_132
        · refine lv_aload_n C.x C.b dX1_readGoing_71 rfl (lv_at hl 0 rfl) ?_
          refine gGet (v := .int (nI (a + 1))) C hK hH 0 2 rfl rfl inX1 (by decide) tw_87 rfl dX1_readGoing_72 ?_
          refine lv_aload_n C.x C.b dX1_readGoing_75 rfl (lv_at hl 0 rfl) ?_
          refine gGet (v := .int (nI n)) C hK hH 0 1 rfl rfl inX1 (by decide) tw_85 rfl dX1_readGoing_76 ?_
          refine vn_icmp_ne (tgt := 84) C.x C.b dX1_readGoing_79 (by decide) (by omega) (by omega) (fun c_79 => ?_) (fun c_79 => ?_)
          · refine lv_aload_n C.x C.b dX1_readGoing_84 rfl (lv_at hl 0 rfl) ?_
            refine gGet (v := .ref dr) C hK hH 0 3 rfl rfl inX1 (by decide) tw_89 rfl dX1_readGoing_85 ?_
            refine lv_aload_n C.x C.b dX1_readGoing_88 rfl (lv_at hl 0 rfl) ?_
            refine kV (As := []) (isC := [0, 1, 2]) (isR := []) (wr := []) C hK hH (c_takeNumber l htr D H.size h0 tx dr t n (a + 1) f0 f1 f2 f3 f4 f5 f6 (y_29 + 1) none none hn (by omega) ht) ⟨rfl, rfl, rfl, rfl, by decide⟩ 0 rfl rfl tw_399 tw_401 ts_14 tw_2 kX1_takeNumber ⟨by decide +kernel, by decide +kernel, (by decide +kernel : (parseMethodDescriptor yX1_takeNumber.desc).map (fun d => d.parameters.length) = some 0)⟩ ⟨(Nat.le_of_ble_eq_true rfl), (Nat.le_of_ble_eq_true rfl)⟩ hl.1 (Nat.le_of_ble_eq_true rfl) dX1_readGoing_89 ⟨(Nat.le_of_ble_eq_true rfl), (Nat.le_of_ble_eq_true rfl)⟩ (fun v9 w9 H locs hN hH => ?_) (fun _ _ _ _ _ _ h => False.elim h)
            rcases hN with ⟨x_89, b_89, hb_89, hx63_89, ka_89, kl_89, rfl, rfl⟩ | ⟨hb_89, rfl, rfl⟩
            · have hH : Hp D A s ([(h0, .inr (1, [.ref tx, .int (nI n), .int (nI b_89), .ref dr])), (tx, .inl (D.1 10, 40, .inl (fun j => nI (t j)))), (dr, .inr (0, [.int (nI f0), .int (nI f1), .int (nI f2), .int (nI f3), .int (nI f4), .int (nI f5), .int (bI f6), .int (nI (y_29 + 1)), .int (oI none), .int (oI none)]))]) H locs := hH
              refine W.eq (g2 := F0 m 92 ls [.int (nI x_89), .ref dr]) rfl ?_
              refine gPutN (v := .int (nI x_89)) (ws' := [(h0, .inr (1, [.ref tx, .int (nI n), .int (nI b_89), .ref dr])), (tx, .inl (D.1 10, 40, .inl (fun j => nI (t j)))), (dr, .inr (0, [.int (nI f0), .int (nI f1), .int (nI f2), .int (nI f3), .int (nI f4), .int (nI f5), .int (bI f6), .int (nI (y_29 + 1)), .int (nI x_89), .int (oI none)]))]) C hK hH 2 8 tyX0 tyX0_ok nmX0 rfl rfl inX0 (by decide) (nwl_of tn_57 rfl) rfl rfl rfl (Nat.le_of_ble_eq_true rfl) rfl dX1_readGoing_92 (fun H locs hH => ?_)
              refine lv_aload_n C.x C.b dX1_readGoing_95 rfl (lv_at hl 0 rfl) ?_
              refine gGet (v := .ref dr) C hK hH 0 3 rfl rfl inX1 (by decide) tw_89 rfl dX1_readGoing_96 ?_
              refine gGetN (v := .int (nI (y_29 + 1))) C hK hH 2 7 rfl rfl inX0 (by decide) (nwl_of tn_54 rfl) rfl dX1_readGoing_99 ?_
              refine lv_iconst (v := nI 1) C.x C.b dX1_readGoing_102 (by decide) ?_
              refine vn_icmp_eq (tgt := 117) C.x C.b dX1_readGoing_103 (by decide) (by omega) (by omega) (fun c_103 => ?_) (fun c_103 => ?_)
              · refine lv_aload_n C.x C.b dX1_readGoing_117 rfl (lv_at hl 0 rfl) ?_
                refine gGet (v := .ref dr) C hK hH 0 3 rfl rfl inX1 (by decide) tw_89 rfl dX1_readGoing_118 ?_
                refine gGetN (v := .int (nI x_89)) C hK hH 2 8 rfl rfl inX0 (by decide) (nwl_of tn_57 rfl) rfl dX1_readGoing_121 ?_
                refine vn_if_lt (tgt := 131) C.x C.b dX1_readGoing_124 (by decide) (by omega) ?_
                refine lv_iconst (v := nI 1) C.x C.b dX1_readGoing_127 (by decide) ?_
                refine lv_goto (tgt := 132) C.x C.b dX1_readGoing_128 (by decide) ?_
                exact rZ C hr (by decide) hH (Or.inr (Or.inl ⟨(b_89, some x_89, none), by rw [gl_some (by omega) hx_29]; omega, by rw [gl_some (by omega) hx_29]; unfold gg; rw [if_neg (by omega), hb_89]; exact if_pos (by omega), by omega, by omega, rfl, by rw [gl_some (by omega) hx_29]; first | done | rfl⟩)) (Nat.le_of_ble_eq_true rfl) (Nat.le_of_ble_eq_true rfl) dX1_readGoing_132
              · refine lv_aload_n C.x C.b dX1_readGoing_106 rfl (lv_at hl 0 rfl) ?_
                refine gGet (v := .ref dr) C hK hH 0 3 rfl rfl inX1 (by decide) tw_89 rfl dX1_readGoing_107 ?_
                refine gGetN (v := .int (nI (y_29 + 1))) C hK hH 2 7 rfl rfl inX0 (by decide) (nwl_of tn_54 rfl) rfl dX1_readGoing_110 ?_
                refine lv_iconst (v := nI 4) C.x C.b dX1_readGoing_113 (by decide) ?_
                refine vn_icmp_ne (tgt := 133) C.x C.b dX1_readGoing_114 (by decide) (by omega) (by omega) (fun c_114 => ?_) (fun c_114 => ?_)
                · refine lv_aload_n C.x C.b dX1_readGoing_133 rfl (lv_at hl 0 rfl) ?_
                  refine gGet (v := .ref dr) C hK hH 0 3 rfl rfl inX1 (by decide) tw_89 rfl dX1_readGoing_134 ?_
                  refine gGetN (v := .int (nI x_89)) C hK hH 2 8 rfl rfl inX0 (by decide) (nwl_of tn_57 rfl) rfl dX1_readGoing_137 ?_
                  refine vn_if_lt (tgt := 152) C.x C.b dX1_readGoing_140 (by decide) (by omega) ?_
                  refine lv_aload_n C.x C.b dX1_readGoing_143 rfl (lv_at hl 0 rfl) ?_
                  refine lv_bipush (v := nI 44) C.x C.b dX1_readGoing_144 (by decide) ?_
                  refine kV (As := [.int (nI 44)]) (isC := [0, 1, 2]) (isR := []) (wr := []) C hK hH (c_take l htr D H.size h0 tx dr t n b_89 f0 f1 f2 f3 f4 f5 f6 (y_29 + 1) (some x_89) none 44 hn (by omega) ht (by omega)) ⟨rfl, rfl, rfl, rfl, by decide⟩ 0 rfl rfl tw_370 tw_372 ts_7 tw_2 kX1_take ⟨by decide +kernel, by decide +kernel, (by decide +kernel : (parseMethodDescriptor yX1_take.desc).map (fun d => d.parameters.length) = some 1)⟩ ⟨(Nat.le_of_ble_eq_true rfl), (Nat.le_of_ble_eq_true rfl)⟩ hl.1 (Nat.le_of_ble_eq_true rfl) dX1_readGoing_146 ⟨(Nat.le_of_ble_eq_true rfl), (Nat.le_of_ble_eq_true rfl)⟩ (fun v9 w9 H locs hN hH => ?_) (fun _ _ _ _ _ _ h => False.elim h)
                  rcases hN with ⟨k_146, kl_146, rfl, rfl⟩ | ⟨k_146, rfl, rfl⟩
                  · have hH : Hp D A s ([(h0, .inr (1, [.ref tx, .int (nI n), .int (nI (b_89 + 1)), .ref dr])), (tx, .inl (D.1 10, 40, .inl (fun j => nI (t j)))), (dr, .inr (0, [.int (nI f0), .int (nI f1), .int (nI f2), .int (nI f3), .int (nI f4), .int (nI f5), .int (bI f6), .int (nI (y_29 + 1)), .int (oI (some x_89)), .int (oI none)]))]) H locs := hH
                    refine W.eq (g2 := F0 m 149 ls [.int (nI 1)]) rfl ?_
                    refine vn_if_ne (tgt := 154) C.x C.b dX1_readGoing_149 (by decide) (by omega) (fun _ => ?_) (fun q => absurd q (by decide))
                    refine lv_aload_n C.x C.b dX1_readGoing_154 rfl (lv_at hl 0 rfl) ?_
                    refine gGet (v := .ref dr) C hK hH 0 3 rfl rfl inX1 (by decide) tw_89 rfl dX1_readGoing_155 ?_
                    refine lv_aload_n C.x C.b dX1_readGoing_158 rfl (lv_at hl 0 rfl) ?_
                    refine kV (As := []) (isC := [0, 1, 2]) (isR := []) (wr := []) C hK hH (c_takeNumber l htr D H.size h0 tx dr t n (b_89 + 1) f0 f1 f2 f3 f4 f5 f6 (y_29 + 1) (some x_89) none hn (by omega) ht) ⟨rfl, rfl, rfl, rfl, by decide⟩ 0 rfl rfl tw_399 tw_401 ts_14 tw_2 kX1_takeNumber ⟨by decide +kernel, by decide +kernel, (by decide +kernel : (parseMethodDescriptor yX1_takeNumber.desc).map (fun d => d.parameters.length) = some 0)⟩ ⟨(Nat.le_of_ble_eq_true rfl), (Nat.le_of_ble_eq_true rfl)⟩ hl.1 (Nat.le_of_ble_eq_true rfl) dX1_readGoing_159 ⟨(Nat.le_of_ble_eq_true rfl), (Nat.le_of_ble_eq_true rfl)⟩ (fun v9 w9 H locs hN hH => ?_) (fun _ _ _ _ _ _ h => False.elim h)
                    rcases hN with ⟨x_159, b_159, hb_159, hx63_159, ka_159, kl_159, rfl, rfl⟩ | ⟨hb_159, rfl, rfl⟩
                    · have hH : Hp D A s ([(h0, .inr (1, [.ref tx, .int (nI n), .int (nI b_159), .ref dr])), (tx, .inl (D.1 10, 40, .inl (fun j => nI (t j)))), (dr, .inr (0, [.int (nI f0), .int (nI f1), .int (nI f2), .int (nI f3), .int (nI f4), .int (nI f5), .int (bI f6), .int (nI (y_29 + 1)), .int (oI (some x_89)), .int (oI none)]))]) H locs := hH
                      refine W.eq (g2 := F0 m 162 ls [.int (nI x_159), .ref dr]) rfl ?_
                      refine gPutN (v := .int (nI x_159)) (ws' := [(h0, .inr (1, [.ref tx, .int (nI n), .int (nI b_159), .ref dr])), (tx, .inl (D.1 10, 40, .inl (fun j => nI (t j)))), (dr, .inr (0, [.int (nI f0), .int (nI f1), .int (nI f2), .int (nI f3), .int (nI f4), .int (nI f5), .int (bI f6), .int (nI (y_29 + 1)), .int (oI (some x_89)), .int (nI x_159)]))]) C hK hH 2 9 tyX0 tyX0_ok nmX0 rfl rfl inX0 (by decide) (nwl_of tn_60 rfl) rfl rfl rfl (Nat.le_of_ble_eq_true rfl) rfl dX1_readGoing_162 (fun H locs hH => ?_)
                      refine lv_aload_n C.x C.b dX1_readGoing_165 rfl (lv_at hl 0 rfl) ?_
                      refine gGet (v := .ref dr) C hK hH 0 3 rfl rfl inX1 (by decide) tw_89 rfl dX1_readGoing_166 ?_
                      refine gGetN (v := .int (nI x_159)) C hK hH 2 9 rfl rfl inX0 (by decide) (nwl_of tn_60 rfl) rfl dX1_readGoing_169 ?_
                      refine vn_if_lt (tgt := 179) C.x C.b dX1_readGoing_172 (by decide) (by omega) ?_
                      refine lv_iconst (v := nI 1) C.x C.b dX1_readGoing_175 (by decide) ?_
                      refine lv_goto (tgt := 180) C.x C.b dX1_readGoing_176 (by decide) ?_
                      exact rZ C hr (by decide) hH (Or.inr (Or.inl ⟨(b_159, some x_89, some x_159), by rw [gl_some (by omega) hx_29]; omega, by rw [gl_some (by omega) hx_29]; unfold gg; rw [if_neg (by omega), hb_89]; show (if _ then _ else _) = _; rw [if_neg (by omega), k_146, hb_159]; (try rfl), by omega, by omega, rfl, by rw [gl_some (by omega) hx_29]; first | done | rfl⟩)) (Nat.le_of_ble_eq_true rfl) (Nat.le_of_ble_eq_true rfl) dX1_readGoing_180
                    · have hH : Hp D A s ([(h0, .inr (1, [.ref tx, .int (nI n), .int (nI (b_89 + 1)), .ref dr])), (tx, .inl (D.1 10, 40, .inl (fun j => nI (t j)))), (dr, .inr (0, [.int (nI f0), .int (nI f1), .int (nI f2), .int (nI f3), .int (nI f4), .int (nI f5), .int (bI f6), .int (nI (y_29 + 1)), .int (oI (some x_89)), .int (oI none)]))]) H locs := hH
                      refine W.eq (g2 := F0 m 162 ls [.int (-1), .ref dr]) rfl ?_
                      refine gPutN (v := .int (-1)) (ws' := [(h0, .inr (1, [.ref tx, .int (nI n), .int (nI (b_89 + 1)), .ref dr])), (tx, .inl (D.1 10, 40, .inl (fun j => nI (t j)))), (dr, .inr (0, [.int (nI f0), .int (nI f1), .int (nI f2), .int (nI f3), .int (nI f4), .int (nI f5), .int (bI f6), .int (nI (y_29 + 1)), .int (oI (some x_89)), .int (-1)]))]) C hK hH 2 9 tyX0 tyX0_ok nmX0 rfl rfl inX0 (by decide) (nwl_of tn_60 rfl) rfl rfl rfl (Nat.le_of_ble_eq_true rfl) rfl dX1_readGoing_162 (fun H locs hH => ?_)
                      refine lv_aload_n C.x C.b dX1_readGoing_165 rfl (lv_at hl 0 rfl) ?_
                      refine gGet (v := .ref dr) C hK hH 0 3 rfl rfl inX1 (by decide) tw_89 rfl dX1_readGoing_166 ?_
                      refine gGetN (v := .int (-1)) C hK hH 2 9 rfl rfl inX0 (by decide) (nwl_of tn_60 rfl) rfl dX1_readGoing_169 ?_
                      refine lv_if_lt (tgt := 179) C.x C.b dX1_readGoing_172 (by decide) (fun _ => ?_) (fun q => absurd (by decide) q)
                      refine lv_iconst (v := nI 0) C.x C.b dX1_readGoing_179 (by decide) ?_
                      exact rZ C hr (by decide) hH (Or.inr (Or.inr ⟨b_89 + 1, some x_89, none, by rw [gl_some (by omega) hx_29]; omega, by rw [gl_some (by omega) hx_29]; unfold gg; rw [if_neg (by omega), hb_89]; show (if _ then _ else _) = _; rw [if_neg (by omega), k_146, hb_159]; (try rfl), by omega, rfl, by rw [gl_some (by omega) hx_29]; first | done | rfl⟩)) (Nat.le_of_ble_eq_true rfl) (Nat.le_of_ble_eq_true rfl) dX1_readGoing_180
                  · have hH : Hp D A s ([(h0, .inr (1, [.ref tx, .int (nI n), .int (nI b_89), .ref dr])), (tx, .inl (D.1 10, 40, .inl (fun j => nI (t j)))), (dr, .inr (0, [.int (nI f0), .int (nI f1), .int (nI f2), .int (nI f3), .int (nI f4), .int (nI f5), .int (bI f6), .int (nI (y_29 + 1)), .int (oI (some x_89)), .int (oI none)]))]) H locs := hH
                    refine W.eq (g2 := F0 m 149 ls [.int (nI 0)]) rfl ?_
                    refine vn_if_ne (tgt := 154) C.x C.b dX1_readGoing_149 (by decide) (by omega) (fun q => absurd q (by decide)) (fun _ => ?_)
                    refine lv_iconst (v := nI 0) C.x C.b dX1_readGoing_152 (by decide) ?_
                    exact rZ C hr (by decide) hH (Or.inr (Or.inr ⟨b_89, some x_89, none, by rw [gl_some (by omega) hx_29]; omega, by rw [gl_some (by omega) hx_29]; unfold gg; rw [if_neg (by omega), hb_89]; show (if _ then _ else _) = _; rw [if_neg (by omega), k_146]; rfl, by omega, rfl, by rw [gl_some (by omega) hx_29]; first | done | rfl⟩)) (Nat.le_of_ble_eq_true rfl) (Nat.le_of_ble_eq_true rfl) dX1_readGoing_153
                · refine lv_aload_n C.x C.b dX1_readGoing_117 rfl (lv_at hl 0 rfl) ?_
                  refine gGet (v := .ref dr) C hK hH 0 3 rfl rfl inX1 (by decide) tw_89 rfl dX1_readGoing_118 ?_
                  refine gGetN (v := .int (nI x_89)) C hK hH 2 8 rfl rfl inX0 (by decide) (nwl_of tn_57 rfl) rfl dX1_readGoing_121 ?_
                  refine vn_if_lt (tgt := 131) C.x C.b dX1_readGoing_124 (by decide) (by omega) ?_
                  refine lv_iconst (v := nI 1) C.x C.b dX1_readGoing_127 (by decide) ?_
                  refine lv_goto (tgt := 132) C.x C.b dX1_readGoing_128 (by decide) ?_
                  exact rZ C hr (by decide) hH (Or.inr (Or.inl ⟨(b_89, some x_89, none), by rw [gl_some (by omega) hx_29]; omega, by rw [gl_some (by omega) hx_29]; unfold gg; rw [if_neg (by omega), hb_89]; exact if_pos (by omega), by omega, by omega, rfl, by rw [gl_some (by omega) hx_29]; first | done | rfl⟩)) (Nat.le_of_ble_eq_true rfl) (Nat.le_of_ble_eq_true rfl) dX1_readGoing_132
            · have hH : Hp D A s ([(h0, .inr (1, [.ref tx, .int (nI n), .int (nI (a + 1)), .ref dr])), (tx, .inl (D.1 10, 40, .inl (fun j => nI (t j)))), (dr, .inr (0, [.int (nI f0), .int (nI f1), .int (nI f2), .int (nI f3), .int (nI f4), .int (nI f5), .int (bI f6), .int (nI (y_29 + 1)), .int (oI none), .int (oI none)]))]) H locs := hH
              refine W.eq (g2 := F0 m 92 ls [.int (-1), .ref dr]) rfl ?_
              refine gPutN (v := .int (-1)) (ws' := [(h0, .inr (1, [.ref tx, .int (nI n), .int (nI (a + 1)), .ref dr])), (tx, .inl (D.1 10, 40, .inl (fun j => nI (t j)))), (dr, .inr (0, [.int (nI f0), .int (nI f1), .int (nI f2), .int (nI f3), .int (nI f4), .int (nI f5), .int (bI f6), .int (nI (y_29 + 1)), .int (-1), .int (oI none)]))]) C hK hH 2 8 tyX0 tyX0_ok nmX0 rfl rfl inX0 (by decide) (nwl_of tn_57 rfl) rfl rfl rfl (Nat.le_of_ble_eq_true rfl) rfl dX1_readGoing_92 (fun H locs hH => ?_)
              refine lv_aload_n C.x C.b dX1_readGoing_95 rfl (lv_at hl 0 rfl) ?_
              refine gGet (v := .ref dr) C hK hH 0 3 rfl rfl inX1 (by decide) tw_89 rfl dX1_readGoing_96 ?_
              refine gGetN (v := .int (nI (y_29 + 1))) C hK hH 2 7 rfl rfl inX0 (by decide) (nwl_of tn_54 rfl) rfl dX1_readGoing_99 ?_
              refine lv_iconst (v := nI 1) C.x C.b dX1_readGoing_102 (by decide) ?_
              refine vn_icmp_eq (tgt := 117) C.x C.b dX1_readGoing_103 (by decide) (by omega) (by omega) (fun c_103 => ?_) (fun c_103 => ?_)
              · refine lv_aload_n C.x C.b dX1_readGoing_117 rfl (lv_at hl 0 rfl) ?_
                refine gGet (v := .ref dr) C hK hH 0 3 rfl rfl inX1 (by decide) tw_89 rfl dX1_readGoing_118 ?_
                refine gGetN (v := .int (-1)) C hK hH 2 8 rfl rfl inX0 (by decide) (nwl_of tn_57 rfl) rfl dX1_readGoing_121 ?_
                refine lv_if_lt (tgt := 131) C.x C.b dX1_readGoing_124 (by decide) (fun _ => ?_) (fun q => absurd (by decide) q)
                refine lv_iconst (v := nI 0) C.x C.b dX1_readGoing_131 (by decide) ?_
                exact rZ C hr (by decide) hH (Or.inr (Or.inr ⟨a + 1, none, none, by rw [gl_some (by omega) hx_29]; omega, by rw [gl_some (by omega) hx_29]; unfold gg; rw [if_neg (by omega), hb_89], by omega, rfl, by rw [gl_some (by omega) hx_29]; first | done | rfl⟩)) (Nat.le_of_ble_eq_true rfl) (Nat.le_of_ble_eq_true rfl) dX1_readGoing_132
              · refine lv_aload_n C.x C.b dX1_readGoing_106 rfl (lv_at hl 0 rfl) ?_
                refine gGet (v := .ref dr) C hK hH 0 3 rfl rfl inX1 (by decide) tw_89 rfl dX1_readGoing_107 ?_
                refine gGetN (v := .int (nI (y_29 + 1))) C hK hH 2 7 rfl rfl inX0 (by decide) (nwl_of tn_54 rfl) rfl dX1_readGoing_110 ?_
                refine lv_iconst (v := nI 4) C.x C.b dX1_readGoing_113 (by decide) ?_
                refine vn_icmp_ne (tgt := 133) C.x C.b dX1_readGoing_114 (by decide) (by omega) (by omega) (fun c_114 => ?_) (fun c_114 => ?_)
                · refine lv_aload_n C.x C.b dX1_readGoing_133 rfl (lv_at hl 0 rfl) ?_
                  refine gGet (v := .ref dr) C hK hH 0 3 rfl rfl inX1 (by decide) tw_89 rfl dX1_readGoing_134 ?_
                  refine gGetN (v := .int (-1)) C hK hH 2 8 rfl rfl inX0 (by decide) (nwl_of tn_57 rfl) rfl dX1_readGoing_137 ?_
                  refine lv_if_lt (tgt := 152) C.x C.b dX1_readGoing_140 (by decide) (fun _ => ?_) (fun q => absurd (by decide) q)
                  refine lv_iconst (v := nI 0) C.x C.b dX1_readGoing_152 (by decide) ?_
                  exact rZ C hr (by decide) hH (Or.inr (Or.inr ⟨a + 1, none, none, by rw [gl_some (by omega) hx_29]; omega, by rw [gl_some (by omega) hx_29]; unfold gg; rw [if_neg (by omega), hb_89], by omega, rfl, by rw [gl_some (by omega) hx_29]; first | done | rfl⟩)) (Nat.le_of_ble_eq_true rfl) (Nat.le_of_ble_eq_true rfl) dX1_readGoing_153
                · refine lv_aload_n C.x C.b dX1_readGoing_117 rfl (lv_at hl 0 rfl) ?_
                  refine gGet (v := .ref dr) C hK hH 0 3 rfl rfl inX1 (by decide) tw_89 rfl dX1_readGoing_118 ?_
                  refine gGetN (v := .int (-1)) C hK hH 2 8 rfl rfl inX0 (by decide) (nwl_of tn_57 rfl) rfl dX1_readGoing_121 ?_
                  refine lv_if_lt (tgt := 131) C.x C.b dX1_readGoing_124 (by decide) (fun _ => ?_) (fun q => absurd (by decide) q)
                  refine lv_iconst (v := nI 0) C.x C.b dX1_readGoing_131 (by decide) ?_
                  exact rZ C hr (by decide) hH (Or.inr (Or.inr ⟨a + 1, none, none, by rw [gl_some (by omega) hx_29]; omega, by rw [gl_some (by omega) hx_29]; unfold gg; rw [if_neg (by omega), hb_89], by omega, rfl, by rw [gl_some (by omega) hx_29]; first | done | rfl⟩)) (Nat.le_of_ble_eq_true rfl) (Nat.le_of_ble_eq_true rfl) dX1_readGoing_132
          · refine lv_iconst (v := nI 1) C.x C.b dX1_readGoing_82 (by decide) ?_
            exact rZ C hr (by decide) hH (Or.inr (Or.inl ⟨(a + 1, none, none), by rw [gl_some (by omega) hx_29]; omega, by rw [gl_some (by omega) hx_29]; exact if_pos (by omega), by omega, by omega, rfl, by rw [gl_some (by omega) hx_29]⟩)) (Nat.le_of_ble_eq_true rfl) (Nat.le_of_ble_eq_true rfl) dX1_readGoing_83
      · exact absurd c_45 (by omega)
set_option maxHeartbeats 4000000 in
set_option maxRecDepth 100000 in
theorem c_isAtTarget (l : Launch) (htr : l.stackTraces = false) (D : va_G) (sz : Nat) (h0 tx dr : Nat) (t : Nat → Nat) (n a : Nat) (f0 f1 f2 f3 f4 f5 : Nat) (f6 : Bool) (f7 : Nat) (f8 f9 : Option Nat) (hn : n ≤ 40) (ha : a ≤ n) (ht : ∀ j, t j < 128) (hf1 : f1 < 512) : Ct l yX1_isAtTarget wX1_isAtTarget { frames := 4, cells := 0, slots := 0, locals := 91 } D ([(h0, .inr (1, [.ref tx, .int (nI n), .int (nI a), .ref dr])), (tx, .inl (D.1 10, 40, .inl (fun j => nI (t j)))), (dr, .inr (0, [.int (nI f0), .int (nI f1), .int (nI f2), .int (nI f3), .int (nI f4), .int (nI f5), .int (bI f6), .int (nI f7), .int (oI f8), .int (oI f9)]))]) [.ref h0] sz (fun v w => (∃ k, ta t n a f1 = some k ∧ k ≤ 8 ∧ ixS 0 (t a) = some k ∧ a < n ∧ v = some (.int (nI 1)) ∧ w = [(h0, .inr (1, [.ref tx, .int (nI n), .int (nI a), .ref dr])), (tx, .inl (D.1 10, 40, .inl (fun j => nI (t j)))), (dr, .inr (0, [.int (nI f0), .int (nI f1), .int (nI f2), .int (nI f3), .int (nI f4), .int (nI f5), .int (bI f6), .int (nI f7), .int (oI f8), .int (oI f9)]))]) ∨ (ta t n a f1 = none ∧ v = some (.int (nI 0)) ∧ w = [(h0, .inr (1, [.ref tx, .int (nI n), .int (nI a), .ref dr])), (tx, .inl (D.1 10, 40, .inl (fun j => nI (t j)))), (dr, .inr (0, [.int (nI f0), .int (nI f1), .int (nI f2), .int (nI f3), .int (nI f4), .int (nI f5), .int (bI f6), .int (nI f7), .int (oI f8), .int (oI f9)]))])) (nox) := by
  refine Ct.of (cc := cX1_isAtTarget) (nL := 3) (ret := (some .boolean)) (own := RX1) htr (by decide) rfl (Nat.le_of_ble_eq_true rfl) ?_
  intro p e s m args below meth c A C hr hK H locs hH ls hl
  have hl : lv_has ls 3 [(0, .ref h0)] := hl
  refine lv_aload_n C.x C.b dX1_isAtTarget_0 rfl (lv_at hl 0 rfl) ?_
  refine gGet (v := .int (nI a)) C hK hH 0 2 rfl rfl inX1 (by decide) tw_87 rfl dX1_isAtTarget_1 ?_
  refine lv_aload_n C.x C.b dX1_isAtTarget_4 rfl (lv_at hl 0 rfl) ?_
  refine gGet (v := .int (nI n)) C hK hH 0 1 rfl rfl inX1 (by decide) tw_85 rfl dX1_isAtTarget_5 ?_
  refine vn_icmp_ge (tgt := 28) C.x C.b dX1_isAtTarget_8 (by decide) (by omega) (by omega) (fun c_8 => ?_) (fun c_8 => ?_)
  · refine lv_iconst (v := -1) C.x C.b dX1_isAtTarget_28 (by decide) ?_
    refine lv_istore_n (lv' := [(1, .int (-1)), (0, .ref h0)]) C.x C.b dX1_isAtTarget_29 rfl hl (by decide) rfl (fun ls hl => ?_)
    refine lv_iload_n C.x C.b dX1_isAtTarget_30 rfl (lv_at hl 0 rfl) ?_
    refine lv_if_lt (tgt := 51) C.x C.b dX1_isAtTarget_31 (by decide) (fun _ => ?_) (fun q => absurd (by decide) q)
    refine lv_iconst (v := nI 0) C.x C.b dX1_isAtTarget_51 (by decide) ?_
    exact rZ C hr (by decide) hH (Or.inr ⟨by first | exact ta_nox hx_25 | exact ta_out (by omega), rfl, rfl⟩) (Nat.le_of_ble_eq_true rfl) (Nat.le_of_ble_eq_true rfl) dX1_isAtTarget_52
  · refine va_ldcS C.x C.b C.ow C.N.2.1 dX1_isAtTarget_11 ?_
    refine lv_aload_n C.x C.b dX1_isAtTarget_13 rfl (lv_at hl 0 rfl) ?_
    refine gGet (v := .ref tx) C hK hH 0 0 rfl rfl inX1 (by decide) tw_84 rfl dX1_isAtTarget_14 ?_
    refine lv_aload_n C.x C.b dX1_isAtTarget_17 rfl (lv_at hl 0 rfl) ?_
    refine gGet (v := .int (nI a)) C hK hH 0 2 rfl rfl inX1 (by decide) tw_87 rfl dX1_isAtTarget_18 ?_
    have hf_21 := ht a
    refine gCald (v := (nI (t a))) C hK hH 1 rfl (by omega) (by decide) dX1_isAtTarget_21 rfl ?_
    refine kVr (As := [.int (nI (t a))]) (isC := []) (isR := [0, 1, 2]) (wr := [(h0, .inr (1, [.ref tx, .int (nI n), .int (nI a), .ref dr])), (tx, .inl (D.1 10, 40, .inl (fun j => nI (t j)))), (dr, .inr (0, [.int (nI f0), .int (nI f1), .int (nI f2), .int (nI f3), .int (nI f4), .int (nI f5), .int (bI f6), .int (nI f7), .int (oI f8), .int (oI f9)]))]) C hK hH (c_indexOf l htr D H.size 0 (t a) (by decide) (by omega)) ⟨rfl, rfl, rfl, rfl, by decide⟩ (vk_recv C.Z.2.2.1 (i := 0) (by decide) hH.2.2) tw_280 tw_281 tw_282 tw_10 kJ0_indexOf ⟨by decide +kernel, by decide +kernel, (by decide +kernel : (parseMethodDescriptor yJ0_indexOf.desc).map (fun d => d.parameters.length) = some 1)⟩ ⟨(Nat.le_of_ble_eq_true rfl), (Nat.le_of_ble_eq_true rfl)⟩ hl.1 (Nat.le_of_ble_eq_true rfl) dX1_isAtTarget_22 ⟨(Nat.le_of_ble_eq_true rfl), (Nat.le_of_ble_eq_true rfl)⟩ (fun v9 w9 H locs hN hH => ?_) (fun _ _ _ _ _ _ h => False.elim h)
    obtain ⟨rfl, rfl⟩ := hN
    have hH : Hp D A s ([(h0, .inr (1, [.ref tx, .int (nI n), .int (nI a), .ref dr])), (tx, .inl (D.1 10, 40, .inl (fun j => nI (t j)))), (dr, .inr (0, [.int (nI f0), .int (nI f1), .int (nI f2), .int (nI f3), .int (nI f4), .int (nI f5), .int (bI f6), .int (nI f7), .int (oI f8), .int (oI f9)]))]) H locs := hH
    refine W.eq (g2 := F0 m 25 ls [.int (oI (ixS 0 (t a)))]) rfl ?_
    cases hx_25 : ixS 0 (t a) with
    | none =>
      refine vt_top (y := -1) rfl ?_
      refine lv_goto (tgt := 29) C.x C.b dX1_isAtTarget_25 (by decide) ?_
      refine lv_istore_n (lv' := [(1, .int (-1)), (0, .ref h0)]) C.x C.b dX1_isAtTarget_29 rfl hl (by decide) rfl (fun ls hl => ?_)
      refine lv_iload_n C.x C.b dX1_isAtTarget_30 rfl (lv_at hl 0 rfl) ?_
      refine lv_if_lt (tgt := 51) C.x C.b dX1_isAtTarget_31 (by decide) (fun _ => ?_) (fun q => absurd (by decide) q)
      refine lv_iconst (v := nI 0) C.x C.b dX1_isAtTarget_51 (by decide) ?_
      exact rZ C hr (by decide) hH (Or.inr ⟨by first | exact ta_nox hx_25 | exact ta_out (by omega), rfl, rfl⟩) (Nat.le_of_ble_eq_true rfl) (Nat.le_of_ble_eq_true rfl) dX1_isAtTarget_52
    | some y_25 =>
      have hy_25 := ixS_lt (by decide) hx_25
      refine vt_top (y := nI y_25) rfl ?_
      refine lv_goto (tgt := 29) C.x C.b dX1_isAtTarget_25 (by decide) ?_
      refine lv_istore_n (lv' := [(1, .int (nI y_25)), (0, .ref h0)]) C.x C.b dX1_isAtTarget_29 rfl hl (by decide) rfl (fun ls hl => ?_)
      refine lv_iload_n C.x C.b dX1_isAtTarget_30 rfl (lv_at hl 0 rfl) ?_
      refine vn_if_lt (tgt := 51) C.x C.b dX1_isAtTarget_31 (by decide) (by omega) ?_
      refine lv_iload_n C.x C.b dX1_isAtTarget_34 rfl (lv_at hl 0 rfl) ?_
      refine lv_bipush (v := nI 8) C.x C.b dX1_isAtTarget_35 (by decide) ?_
      refine vn_icmp_gt (tgt := 51) C.x C.b dX1_isAtTarget_37 (by decide) (by omega) (by omega) (fun c_37 => ?_) (fun c_37 => ?_)
      · refine lv_iconst (v := nI 0) C.x C.b dX1_isAtTarget_51 (by decide) ?_
        exact rZ C hr (by decide) hH (Or.inr ⟨ta_bad hx_25 (fun ⟨q1, q2, q3⟩ => by first | omega | (rw [s_45] at q2; exact absurd q2 (by decide)) | (rcases q3 with q | q | q <;> first | omega | (have h1 := tk_lt q; have h2 := tk_eq q; omega))), rfl, rfl⟩) (Nat.le_of_ble_eq_true rfl) (Nat.le_of_ble_eq_true rfl) dX1_isAtTarget_52
      · refine lv_aload_n C.x C.b dX1_isAtTarget_40 rfl (lv_at hl 1 rfl) ?_
        refine gGet (v := .ref dr) C hK hH 0 3 rfl rfl inX1 (by decide) tw_89 rfl dX1_isAtTarget_41 ?_
        refine lv_iload_n C.x C.b dX1_isAtTarget_44 rfl (lv_at hl 0 rfl) ?_
        refine kVN (As := [.int (nI y_25)]) (isC := [2]) (isR := [0, 1]) (wr := [(h0, .inr (1, [.ref tx, .int (nI n), .int (nI a), .ref dr])), (tx, .inl (D.1 10, 40, .inl (fun j => nI (t j))))]) C hK hH (c_sets l htr D H.size dr y_25 f0 f1 f2 f3 f4 f5 f6 f7 f8 f9 (by omega) (by omega)) ⟨rfl, rfl, rfl, rfl, by decide⟩ 2 rfl rfl (nwl_of tn_366 rfl) tw_368 ts_6 tw_3 kX0_sets ⟨by decide +kernel, by decide +kernel, (by decide +kernel : (parseMethodDescriptor yX0_sets.desc).map (fun d => d.parameters.length) = some 1)⟩ ⟨(Nat.le_of_ble_eq_true rfl), (Nat.le_of_ble_eq_true rfl)⟩ hl.1 (Nat.le_of_ble_eq_true rfl) dX1_isAtTarget_45 ⟨(Nat.le_of_ble_eq_true rfl), (Nat.le_of_ble_eq_true rfl)⟩ (fun v9 w9 H locs hN hH => ?_)
        rcases hN with ⟨s_45, rfl, rfl⟩ | ⟨s_45, rfl, rfl⟩
        · have hH : Hp D A s ([(h0, .inr (1, [.ref tx, .int (nI n), .int (nI a), .ref dr])), (tx, .inl (D.1 10, 40, .inl (fun j => nI (t j)))), (dr, .inr (0, [.int (nI f0), .int (nI f1), .int (nI f2), .int (nI f3), .int (nI f4), .int (nI f5), .int (bI f6), .int (nI f7), .int (oI f8), .int (oI f9)]))]) H locs := hH
          refine W.eq (g2 := F0 m 48 ls [.int (nI 1)]) rfl ?_
          refine vn_if_eq (tgt := 53) C.x C.b dX1_isAtTarget_48 (by decide) (by omega) (fun q => absurd q (by decide)) (fun _ => ?_)
          refine lv_iconst (v := nI 0) C.x C.b dX1_isAtTarget_51 (by decide) ?_
          exact rZ C hr (by decide) hH (Or.inr ⟨ta_bad hx_25 (fun ⟨q1, q2, q3⟩ => by first | omega | (rw [s_45] at q2; exact absurd q2 (by decide)) | (rcases q3 with q | q | q <;> first | omega | (have h1 := tk_lt q; have h2 := tk_eq q; omega))), rfl, rfl⟩) (Nat.le_of_ble_eq_true rfl) (Nat.le_of_ble_eq_true rfl) dX1_isAtTarget_52
        · have hH : Hp D A s ([(h0, .inr (1, [.ref tx, .int (nI n), .int (nI a), .ref dr])), (tx, .inl (D.1 10, 40, .inl (fun j => nI (t j)))), (dr, .inr (0, [.int (nI f0), .int (nI f1), .int (nI f2), .int (nI f3), .int (nI f4), .int (nI f5), .int (bI f6), .int (nI f7), .int (oI f8), .int (oI f9)]))]) H locs := hH
          refine W.eq (g2 := F0 m 48 ls [.int (nI 0)]) rfl ?_
          refine vn_if_eq (tgt := 53) C.x C.b dX1_isAtTarget_48 (by decide) (by omega) (fun _ => ?_) (fun q => absurd q (by decide))
          refine lv_aload_n C.x C.b dX1_isAtTarget_53 rfl (lv_at hl 1 rfl) ?_
          refine gGet (v := .ref dr) C hK hH 0 3 rfl rfl inX1 (by decide) tw_89 rfl dX1_isAtTarget_54 ?_
          refine gGetN (v := .int (nI f1)) C hK hH 2 1 rfl rfl inX0 (by decide) (nwl_of tn_41 rfl) rfl dX1_isAtTarget_57 ?_
          refine vn_if_eq (tgt := 67) C.x C.b dX1_isAtTarget_60 (by decide) (by omega) (fun c_60 => ?_) (fun c_60 => ?_)
          · refine lv_iconst (v := nI 1) C.x C.b dX1_isAtTarget_67 (by decide) ?_
            refine lv_goto (tgt := 72) C.x C.b dX1_isAtTarget_68 (by decide) ?_
            refine lv_istore_n (lv' := [(2, .int (nI 1)), (1, .int (nI y_25)), (0, .ref h0)]) C.x C.b dX1_isAtTarget_72 rfl hl (by decide) rfl (fun ls hl => ?_)
            refine lv_iload_n C.x C.b dX1_isAtTarget_73 rfl (lv_at hl 0 rfl) ?_
            refine vn_if_ne (tgt := 106) C.x C.b dX1_isAtTarget_74 (by decide) (by omega) (fun _ => ?_) (fun q => absurd q (by decide))
            refine lv_iconst (v := nI 1) C.x C.b dX1_isAtTarget_106 (by decide) ?_
            refine lv_goto (tgt := 111) C.x C.b dX1_isAtTarget_107 (by decide) ?_
            exact rZ C hr (by decide) hH (Or.inl ⟨y_25, ta_some (by omega) hx_25 (by omega) s_45 (by first | exact Or.inl (by omega) | exact Or.inr (Or.inl (by omega)) | exact Or.inr (Or.inr (tk_t (by omega) (by omega)))), by omega, by first | exact hx_25 | rfl, by omega, rfl, rfl⟩) (Nat.le_of_ble_eq_true rfl) (Nat.le_of_ble_eq_true rfl) dX1_isAtTarget_111
          · refine lv_iload_n C.x C.b dX1_isAtTarget_63 rfl (lv_at hl 0 rfl) ?_
            refine vn_if_ne (tgt := 71) C.x C.b dX1_isAtTarget_64 (by decide) (by omega) (fun c_64 => ?_) (fun c_64 => ?_)
            · refine lv_iconst (v := nI 0) C.x C.b dX1_isAtTarget_71 (by decide) ?_
              refine lv_istore_n (lv' := [(2, .int (nI 0)), (1, .int (nI y_25)), (0, .ref h0)]) C.x C.b dX1_isAtTarget_72 rfl hl (by decide) rfl (fun ls hl => ?_)
              refine lv_iload_n C.x C.b dX1_isAtTarget_73 rfl (lv_at hl 0 rfl) ?_
              refine vn_if_ne (tgt := 106) C.x C.b dX1_isAtTarget_74 (by decide) (by omega) (fun q => absurd q (by decide)) (fun _ => ?_)
              refine lv_aload_n C.x C.b dX1_isAtTarget_77 rfl (lv_at hl 2 rfl) ?_
              refine gGet (v := .int (nI a)) C hK hH 0 2 rfl rfl inX1 (by decide) tw_87 rfl dX1_isAtTarget_78 ?_
              refine lv_iconst (v := nI 1) C.x C.b dX1_isAtTarget_81 (by decide) ?_
              refine lv_iadd C.x C.b dX1_isAtTarget_82 ?_
              refine vt_top (nI_add _ _) ?_
              refine lv_aload_n C.x C.b dX1_isAtTarget_83 rfl (lv_at hl 2 rfl) ?_
              refine gGet (v := .int (nI n)) C hK hH 0 1 rfl rfl inX1 (by decide) tw_85 rfl dX1_isAtTarget_84 ?_
              refine vn_icmp_ge (tgt := 110) C.x C.b dX1_isAtTarget_87 (by decide) (by omega) (by omega) (fun c_87 => ?_) (fun c_87 => ?_)
              · refine lv_iconst (v := nI 0) C.x C.b dX1_isAtTarget_110 (by decide) ?_
                exact rZ C hr (by decide) hH (Or.inr ⟨ta_bad hx_25 (fun ⟨q1, q2, q3⟩ => by first | omega | (rw [s_45] at q2; exact absurd q2 (by decide)) | (rcases q3 with q | q | q <;> first | omega | (have h1 := tk_lt q; have h2 := tk_eq q; omega))), rfl, rfl⟩) (Nat.le_of_ble_eq_true rfl) (Nat.le_of_ble_eq_true rfl) dX1_isAtTarget_111
              · refine lv_aload_n C.x C.b dX1_isAtTarget_90 rfl (lv_at hl 2 rfl) ?_
                refine gGet (v := .ref tx) C hK hH 0 0 rfl rfl inX1 (by decide) tw_84 rfl dX1_isAtTarget_91 ?_
                refine lv_aload_n C.x C.b dX1_isAtTarget_94 rfl (lv_at hl 2 rfl) ?_
                refine gGet (v := .int (nI a)) C hK hH 0 2 rfl rfl inX1 (by decide) tw_87 rfl dX1_isAtTarget_95 ?_
                refine lv_iconst (v := nI 1) C.x C.b dX1_isAtTarget_98 (by decide) ?_
                refine lv_iadd C.x C.b dX1_isAtTarget_99 ?_
                refine vt_top (nI_add _ _) ?_
                have hf_100 := ht (a + 1)
                refine gCald (v := (nI (t (a + 1)))) C hK hH 1 rfl (by omega) (by decide) dX1_isAtTarget_100 rfl ?_
                refine lv_bipush (v := nI 61) C.x C.b dX1_isAtTarget_101 (by decide) ?_
                refine vn_icmp_ne (tgt := 110) C.x C.b dX1_isAtTarget_103 (by decide) (by omega) (by omega) (fun c_103 => ?_) (fun c_103 => ?_)
                · refine lv_iconst (v := nI 0) C.x C.b dX1_isAtTarget_110 (by decide) ?_
                  exact rZ C hr (by decide) hH (Or.inr ⟨ta_bad hx_25 (fun ⟨q1, q2, q3⟩ => by first | omega | (rw [s_45] at q2; exact absurd q2 (by decide)) | (rcases q3 with q | q | q <;> first | omega | (have h1 := tk_lt q; have h2 := tk_eq q; omega))), rfl, rfl⟩) (Nat.le_of_ble_eq_true rfl) (Nat.le_of_ble_eq_true rfl) dX1_isAtTarget_111
                · refine lv_iconst (v := nI 1) C.x C.b dX1_isAtTarget_106 (by decide) ?_
                  refine lv_goto (tgt := 111) C.x C.b dX1_isAtTarget_107 (by decide) ?_
                  exact rZ C hr (by decide) hH (Or.inl ⟨y_25, ta_some (by omega) hx_25 (by omega) s_45 (by first | exact Or.inl (by omega) | exact Or.inr (Or.inl (by omega)) | exact Or.inr (Or.inr (tk_t (by omega) (by omega)))), by omega, by first | exact hx_25 | rfl, by omega, rfl, rfl⟩) (Nat.le_of_ble_eq_true rfl) (Nat.le_of_ble_eq_true rfl) dX1_isAtTarget_111
            · refine lv_iconst (v := nI 1) C.x C.b dX1_isAtTarget_67 (by decide) ?_
              refine lv_goto (tgt := 72) C.x C.b dX1_isAtTarget_68 (by decide) ?_
              refine lv_istore_n (lv' := [(2, .int (nI 1)), (1, .int (nI y_25)), (0, .ref h0)]) C.x C.b dX1_isAtTarget_72 rfl hl (by decide) rfl (fun ls hl => ?_)
              refine lv_iload_n C.x C.b dX1_isAtTarget_73 rfl (lv_at hl 0 rfl) ?_
              refine vn_if_ne (tgt := 106) C.x C.b dX1_isAtTarget_74 (by decide) (by omega) (fun _ => ?_) (fun q => absurd q (by decide))
              refine lv_iconst (v := nI 1) C.x C.b dX1_isAtTarget_106 (by decide) ?_
              refine lv_goto (tgt := 111) C.x C.b dX1_isAtTarget_107 (by decide) ?_
              exact rZ C hr (by decide) hH (Or.inl ⟨y_25, ta_some (by omega) hx_25 (by omega) s_45 (by first | exact Or.inl (by omega) | exact Or.inr (Or.inl (by omega)) | exact Or.inr (Or.inr (tk_t (by omega) (by omega)))), by omega, by first | exact hx_25 | rfl, by omega, rfl, rfl⟩) (Nat.le_of_ble_eq_true rfl) (Nat.le_of_ble_eq_true rfl) dX1_isAtTarget_111
end
section
theorem tl_stop {t : Nat → Nat} {n i a m : Nat} (h : 4 ≤ i ∨ ta t n a m = none) : tl t n (4 - i) a m = .inr (a, m) := by
  cases hi : 4 - i with
  | zero => rfl
  | succ j =>
    rcases h with h | h
    · omega
    · rw [tl, h]
theorem tl_fail {t : Nat → Nat} {n i a m k : Nat} (hi : i < 4) (h : ta t n a m = some k) (hk : tk t n (a + 1) 61 = false) : tl t n (4 - i) a m = .inl (a + 1) := by
  rw [show 4 - i = (3 - i) + 1 by omega, tl, h]
  show (bif tk t n (a + 1) 61 then _ else _) = _
  rw [hk]; rfl
theorem tl_go {t : Nat → Nat} {n i a m k : Nat} (hi : i < 4) (h : ta t n a m = some k) (hk : tk t n (a + 1) 61 = true) : tl t n (4 - i) a m = tl t n (4 - (i + 1)) (a + 1 + 1) (m ||| 2 ^ k) := by
  rw [show 4 - i = (4 - (i + 1)) + 1 by omega, tl, h]
  show (bif tk t n (a + 1) 61 then _ else _) = _
  rw [hk]; rfl
/-- a text that was read: the place that is wrong, or PARTS, registers, VALUE, name, SHIFT, word asked, byte asked, GOING, its NUMBERS -/
abbrev RR : Type := Nat ⊕ (Nat × Nat × Nat × Nat × Nat × Nat × Bool × Nat × Option Nat × Option Nat)
def r3 (t : Nat → Nat) (n a f0 f1 f2 f3 f4 f5 : Nat) (f6 : Bool) : RR := if gl t n a = 0 then .inl a else (match gg t n (a + 1) (gl t n a) with
  | .inl p => .inl p
  | .inr q => if q.1 = n then .inr (f0 + 1, f1, f2, f3, f4, f5, f6, gl t n a, q.2.1, q.2.2) else .inl q.1)
def r2 (t : Nat → Nat) (n a f0 f1 f2 f3 f4 : Nat) (f6 : Bool) : RR :=
  bif tk t n a 114 then (if a + 1 = n then .inr (f0 + 1, f1, f2, f3, f4, 1, f6, 0, none, none) else bif tk t n (a + 1) 59 then r3 t n (a + 1 + 1) (f0 + 1) f1 f2 f3 f4 1 f6 else .inl (a + 1))
  else bif tk t n a 119 then (if a + 1 = n then .inr (f0 + 1, f1, f2, f3, f4, 2, f6, 0, none, none) else bif tk t n (a + 1) 59 then r3 t n (a + 1 + 1) (f0 + 1) f1 f2 f3 f4 2 f6 else .inl (a + 1))
  else r3 t n a f0 f1 f2 f3 f4 0 f6
def r1 (t : Nat → Nat) (n a f0 f1 f2 f3 f4 : Nat) : RR :=
  bif tk t n a 102 then (if a + 1 = n then .inr (f0 + 1, f1, f2, f3, f4, 0, true, 0, none, none) else bif tk t n (a + 1) 59 then r2 t n (a + 1 + 1) (f0 + 1) f1 f2 f3 f4 true else .inl (a + 1))
  else r2 t n a f0 f1 f2 f3 f4 false
/-- THE LANGUAGE -/
def RDT (t : Nat → Nat) (n : Nat) : RR := match se t n 0 with
  | .inl p => .inl p
  | .inr q => if 0 < q.1 then (if q.1 = n then .inr (1, q.2.1, q.2.2.1, q.2.2.2.1.getD 0, q.2.2.2.2, 0, false, 0, none, none) else bif tk t n q.1 59 then r1 t n (q.1 + 1) 1 q.2.1 q.2.2.1 (q.2.2.2.1.getD 0) q.2.2.2.2 else .inl q.1)
    else r1 t n q.1 0 q.2.1 q.2.2.1 (q.2.2.2.1.getD 0) q.2.2.2.2
end
section
set_option maxHeartbeats 4000000 in
set_option maxRecDepth 100000 in
theorem c_readSetting (l : Launch) (htr : l.stackTraces = false) (D : va_G) (sz : Nat) (h0 tx dr : Nat) (t : Nat → Nat) (n a : Nat) (f0 f5 : Nat) (f6 : Bool) (f7 : Nat) (f8 f9 : Option Nat) (hn : n ≤ 40) (ha : a ≤ n) (ht : ∀ j, t j < 128) : Ct l yX1_readSetting wX1_readSetting { frames := 7, cells := 0, slots := 0, locals := 152 } D ([(h0, .inr (1, [.ref tx, .int (nI n), .int (nI a), .ref dr])), (tx, .inl (D.1 10, 40, .inl (fun j => nI (t j)))), (dr, .inr (0, [.int (nI f0), .int (nI 0), .int (nI 0), .int (nI 0), .int (nI 0), .int (nI f5), .int (bI f6), .int (nI f7), .int (oI f8), .int (oI f9)]))]) [.ref h0] sz (fun v w => (∃ q, se t n a = .inr q ∧ q.1 ≤ n ∧ q.2.1 < 512 ∧ v = some (.int (nI 1)) ∧ w = [(h0, .inr (1, [.ref tx, .int (nI n), .int (nI q.1), .ref dr])), (tx, .inl (D.1 10, 40, .inl (fun j => nI (t j)))), (dr, .inr (0, [.int (nI f0), .int (nI q.2.1), .int (nI q.2.2.1), .int (nI (q.2.2.2.1.getD 0)), .int (nI q.2.2.2.2), .int (nI f5), .int (bI f6), .int (nI f7), .int (oI f8), .int (oI f9)]))]) ∨ (∃ a9 g1 g2 g3, se t n a = .inl a9 ∧ a9 ≤ n ∧ v = some (.int (nI 0)) ∧ w = [(h0, .inr (1, [.ref tx, .int (nI n), .int (nI a9), .ref dr])), (tx, .inl (D.1 10, 40, .inl (fun j => nI (t j)))), (dr, .inr (0, [.int (nI f0), .int (nI g1), .int (nI g2), .int (nI g3), .int (nI 0), .int (nI f5), .int (bI f6), .int (nI f7), .int (oI f8), .int (oI f9)]))])) (nox) := by
  refine Ct.of (cc := cX1_readSetting) (nL := 2) (ret := (some .boolean)) (own := RX1) htr (by decide) rfl (Nat.le_of_ble_eq_true rfl) ?_
  intro p e s m args below meth c A C hr hK H locs hH ls hl
  have hl : lv_has ls 2 [(0, .ref h0)] := hl
  refine lv_iconst (v := nI 0) C.x C.b dX1_readSetting_0 (by decide) ?_
  refine lv_istore_n (lv' := [(1, .int (nI 0)), (0, .ref h0)]) C.x C.b dX1_readSetting_1 rfl hl (by decide) rfl (fun ls hl => ?_)
  have L_2 : ∀ (fuel : Nat) (i : Nat) (a1 : Nat) (m1 : Nat) (hi4 : i ≤ 4) (ha1 : a1 ≤ n) (hm1 : m1 < 512) (hT : tl t n (4 - i) a1 m1 = tl t n 4 a 0), 4 - i < fuel → ∀ (H : Heap) (locs : List Loc), Hp D A s ([(h0, .inr (1, [.ref tx, .int (nI n), .int (nI a1), .ref dr])), (tx, .inl (D.1 10, 40, .inl (fun j => nI (t j)))), (dr, .inr (0, [.int (nI f0), .int (nI m1), .int (nI 0), .int (nI 0), .int (nI 0), .int (nI f5), .int (bI f6), .int (nI f7), .int (oI f8), .int (oI f9)]))]) H locs → ∀ ls : Array Slot, lv_has ls 2 [(1, .int (nI i)), (0, .ref h0)] → W p l e { frames := 7, cells := 0, slots := 0, locals := 152 } s m args below meth c H locs 0 0 (Qf below args s D A (fun v w => (∃ q, se t n a = .inr q ∧ q.1 ≤ n ∧ q.2.1 < 512 ∧ v = some (.int (nI 1)) ∧ w = [(h0, .inr (1, [.ref tx, .int (nI n), .int (nI q.1), .ref dr])), (tx, .inl (D.1 10, 40, .inl (fun j => nI (t j)))), (dr, .inr (0, [.int (nI f0), .int (nI q.2.1), .int (nI q.2.2.1), .int (nI (q.2.2.2.1.getD 0)), .int (nI q.2.2.2.2), .int (nI f5), .int (bI f6), .int (nI f7), .int (oI f8), .int (oI f9)]))]) ∨ (∃ a9 g1 g2 g3, se t n a = .inl a9 ∧ a9 ≤ n ∧ v = some (.int (nI 0)) ∧ w = [(h0, .inr (1, [.ref tx, .int (nI n), .int (nI a9), .ref dr])), (tx, .inl (D.1 10, 40, .inl (fun j => nI (t j)))), (dr, .inr (0, [.int (nI f0), .int (nI g1), .int (nI g2), .int (nI g3), .int (nI 0), .int (nI f5), .int (bI f6), .int (nI f7), .int (oI f8), .int (oI f9)]))])) (nox) { frames := 7, cells := 0, slots := 0, locals := 152 }) (F0 m 2 ls []) := by
    intro fuel
    induction fuel with
    | zero => intro i a1 m1 hi4 ha1 hm1 hT hm; exact absurd hm (Nat.not_lt_zero _)
    | succ fuel ih =>
      intro i a1 m1 hi4 ha1 hm1 hT hm H locs hH ls hl
      refine lv_iload_n C.x C.b dX1_readSetting_2 rfl (lv_at hl 0 rfl) ?_
      refine lv_iconst (v := nI 4) C.x C.b dX1_readSetting_3 (by decide) ?_
      refine vn_icmp_ge (tgt := 69) C.x C.b dX1_readSetting_4 (by decide) (by omega) (by omega) (fun c_4 => ?_) (fun c_4 => ?_)
      · have hE : tl t n 4 a 0 = .inr (a1, m1) := by rw [← hT]; exact tl_stop (by first | exact Or.inl (by omega) | exact Or.inr hk_8)
        refine lv_aload_n C.x C.b dX1_readSetting_69 rfl (lv_at hl 1 rfl) ?_
        refine gGet (v := .ref dr) C hK hH 0 3 rfl rfl inX1 (by decide) tw_89 rfl dX1_readSetting_70 ?_
        refine gGetN (v := .int (nI m1)) C hK hH 2 1 rfl rfl inX0 (by decide) (nwl_of tn_41 rfl) rfl dX1_readSetting_73 ?_
        refine vn_if_ne (tgt := 81) C.x C.b dX1_readSetting_76 (by decide) (by omega) (fun c_76 => ?_) (fun c_76 => ?_)
        · refine lv_aload_n C.x C.b dX1_readSetting_81 rfl (lv_at hl 1 rfl) ?_
          refine kV (As := []) (isC := [0, 1, 2]) (isR := []) (wr := []) C hK hH (c_readValue l htr D H.size h0 tx dr t n a1 f0 m1 0 0 0 f5 f6 f7 f8 f9 hn (by omega) ht) ⟨rfl, rfl, rfl, rfl, by decide⟩ 0 rfl rfl tw_374 tw_376 ts_8 tw_2 kX1_readValue ⟨by decide +kernel, by decide +kernel, (by decide +kernel : (parseMethodDescriptor yX1_readValue.desc).map (fun d => d.parameters.length) = some 0)⟩ ⟨(Nat.le_of_ble_eq_true rfl), (Nat.le_of_ble_eq_true rfl)⟩ hl.1 (Nat.le_of_ble_eq_true rfl) dX1_readSetting_82 ⟨(Nat.le_of_ble_eq_true rfl), (Nat.le_of_ble_eq_true rfl)⟩ (fun v9 w9 H locs hN hH => ?_) (fun _ _ _ _ _ _ h => False.elim h)
          rcases hN with ⟨⟨c_82, o_82, s_82⟩, hq_82, kl_82, rfl, rfl⟩ | ⟨a9_82, g2_82, g3_82, hq_82, kl_82, rfl, rfl⟩
          · have hH : Hp D A s ([(h0, .inr (1, [.ref tx, .int (nI n), .int (nI c_82), .ref dr])), (tx, .inl (D.1 10, 40, .inl (fun j => nI (t j)))), (dr, .inr (0, [.int (nI f0), .int (nI m1), .int (nI o_82), .int (nI (s_82.getD 0)), .int (nI 0), .int (nI f5), .int (bI f6), .int (nI f7), .int (oI f8), .int (oI f9)]))]) H locs := hH
            have kl_82 : c_82 ≤ n := kl_82
            refine W.eq (g2 := F0 m 85 ls [.int (nI 1)]) rfl ?_
            refine vn_if_ne (tgt := 90) C.x C.b dX1_readSetting_85 (by decide) (by omega) (fun _ => ?_) (fun q => absurd q (by decide))
            refine lv_aload_n C.x C.b dX1_readSetting_90 rfl (lv_at hl 1 rfl) ?_
            refine gGet (v := .ref dr) C hK hH 0 3 rfl rfl inX1 (by decide) tw_89 rfl dX1_readSetting_91 ?_
            refine lv_aload_n C.x C.b dX1_readSetting_94 rfl (lv_at hl 1 rfl) ?_
            refine lv_bipush (v := nI 60) C.x C.b dX1_readSetting_95 (by decide) ?_
            refine kV (As := [.int (nI 60)]) (isC := [0, 1, 2]) (isR := []) (wr := []) C hK hH (c_take l htr D H.size h0 tx dr t n c_82 f0 m1 o_82 (s_82.getD 0) 0 f5 f6 f7 f8 f9 60 hn (by omega) ht (by omega)) ⟨rfl, rfl, rfl, rfl, by decide⟩ 0 rfl rfl tw_370 tw_372 ts_7 tw_2 kX1_take ⟨by decide +kernel, by decide +kernel, (by decide +kernel : (parseMethodDescriptor yX1_take.desc).map (fun d => d.parameters.length) = some 1)⟩ ⟨(Nat.le_of_ble_eq_true rfl), (Nat.le_of_ble_eq_true rfl)⟩ hl.1 (Nat.le_of_ble_eq_true rfl) dX1_readSetting_97 ⟨(Nat.le_of_ble_eq_true rfl), (Nat.le_of_ble_eq_true rfl)⟩ (fun v9 w9 H locs hN hH => ?_) (fun _ _ _ _ _ _ h => False.elim h)
            rcases hN with ⟨k_97, kl_97, rfl, rfl⟩ | ⟨k_97, rfl, rfl⟩
            · have hH : Hp D A s ([(h0, .inr (1, [.ref tx, .int (nI n), .int (nI (c_82 + 1)), .ref dr])), (tx, .inl (D.1 10, 40, .inl (fun j => nI (t j)))), (dr, .inr (0, [.int (nI f0), .int (nI m1), .int (nI o_82), .int (nI (s_82.getD 0)), .int (nI 0), .int (nI f5), .int (bI f6), .int (nI f7), .int (oI f8), .int (oI f9)]))]) H locs := hH
              refine W.eq (g2 := F0 m 100 ls [.int (nI 1), .ref dr]) rfl ?_
              refine vn_if_eq (tgt := 107) C.x C.b dX1_readSetting_100 (by decide) (by omega) (fun q => absurd q (by decide)) (fun _ => ?_)
              refine lv_iconst (v := nI 1) C.x C.b dX1_readSetting_103 (by decide) ?_
              refine lv_goto (tgt := 121) C.x C.b dX1_readSetting_104 (by decide) ?_
              refine gPutN (v := .int (nI 1)) (ws' := [(h0, .inr (1, [.ref tx, .int (nI n), .int (nI (c_82 + 1)), .ref dr])), (tx, .inl (D.1 10, 40, .inl (fun j => nI (t j)))), (dr, .inr (0, [.int (nI f0), .int (nI m1), .int (nI o_82), .int (nI (s_82.getD 0)), .int (nI 1), .int (nI f5), .int (bI f6), .int (nI f7), .int (oI f8), .int (oI f9)]))]) C hK hH 2 4 tyX0 tyX0_ok nmX0 rfl rfl inX0 (by decide) (nwl_of tn_48 rfl) rfl rfl rfl (Nat.le_of_ble_eq_true rfl) rfl dX1_readSetting_121 (fun H locs hH => ?_)
              refine lv_iconst (v := nI 1) C.x C.b dX1_readSetting_124 (by decide) ?_
              exact rZ C hr (by decide) hH (Or.inl ⟨(c_82 + 1, m1, o_82, s_82, 1), by simp only [se, hE, if_neg c_76, hq_82, k_97, cond_true, cond_false], by omega, by omega, rfl, rfl⟩) (Nat.le_of_ble_eq_true rfl) (Nat.le_of_ble_eq_true rfl) dX1_readSetting_125
            · have hH : Hp D A s ([(h0, .inr (1, [.ref tx, .int (nI n), .int (nI c_82), .ref dr])), (tx, .inl (D.1 10, 40, .inl (fun j => nI (t j)))), (dr, .inr (0, [.int (nI f0), .int (nI m1), .int (nI o_82), .int (nI (s_82.getD 0)), .int (nI 0), .int (nI f5), .int (bI f6), .int (nI f7), .int (oI f8), .int (oI f9)]))]) H locs := hH
              refine W.eq (g2 := F0 m 100 ls [.int (nI 0), .ref dr]) rfl ?_
              refine vn_if_eq (tgt := 107) C.x C.b dX1_readSetting_100 (by decide) (by omega) (fun _ => ?_) (fun q => absurd q (by decide))
              refine lv_aload_n C.x C.b dX1_readSetting_107 rfl (lv_at hl 1 rfl) ?_
              refine lv_bipush (v := nI 62) C.x C.b dX1_readSetting_108 (by decide) ?_
              refine kV (As := [.int (nI 62)]) (isC := [0, 1, 2]) (isR := []) (wr := []) C hK hH (c_take l htr D H.size h0 tx dr t n c_82 f0 m1 o_82 (s_82.getD 0) 0 f5 f6 f7 f8 f9 62 hn (by omega) ht (by omega)) ⟨rfl, rfl, rfl, rfl, by decide⟩ 0 rfl rfl tw_370 tw_372 ts_7 tw_2 kX1_take ⟨by decide +kernel, by decide +kernel, (by decide +kernel : (parseMethodDescriptor yX1_take.desc).map (fun d => d.parameters.length) = some 1)⟩ ⟨(Nat.le_of_ble_eq_true rfl), (Nat.le_of_ble_eq_true rfl)⟩ hl.1 (Nat.le_of_ble_eq_true rfl) dX1_readSetting_110 ⟨(Nat.le_of_ble_eq_true rfl), (Nat.le_of_ble_eq_true rfl)⟩ (fun v9 w9 H locs hN hH => ?_) (fun _ _ _ _ _ _ h => False.elim h)
              rcases hN with ⟨k_110, kl_110, rfl, rfl⟩ | ⟨k_110, rfl, rfl⟩
              · have hH : Hp D A s ([(h0, .inr (1, [.ref tx, .int (nI n), .int (nI (c_82 + 1)), .ref dr])), (tx, .inl (D.1 10, 40, .inl (fun j => nI (t j)))), (dr, .inr (0, [.int (nI f0), .int (nI m1), .int (nI o_82), .int (nI (s_82.getD 0)), .int (nI 0), .int (nI f5), .int (bI f6), .int (nI f7), .int (oI f8), .int (oI f9)]))]) H locs := hH
                refine W.eq (g2 := F0 m 113 ls [.int (nI 1), .ref dr]) rfl ?_
                refine vn_if_eq (tgt := 120) C.x C.b dX1_readSetting_113 (by decide) (by omega) (fun q => absurd q (by decide)) (fun _ => ?_)
                refine lv_iconst (v := nI 2) C.x C.b dX1_readSetting_116 (by decide) ?_
                refine lv_goto (tgt := 121) C.x C.b dX1_readSetting_117 (by decide) ?_
                refine gPutN (v := .int (nI 2)) (ws' := [(h0, .inr (1, [.ref tx, .int (nI n), .int (nI (c_82 + 1)), .ref dr])), (tx, .inl (D.1 10, 40, .inl (fun j => nI (t j)))), (dr, .inr (0, [.int (nI f0), .int (nI m1), .int (nI o_82), .int (nI (s_82.getD 0)), .int (nI 2), .int (nI f5), .int (bI f6), .int (nI f7), .int (oI f8), .int (oI f9)]))]) C hK hH 2 4 tyX0 tyX0_ok nmX0 rfl rfl inX0 (by decide) (nwl_of tn_48 rfl) rfl rfl rfl (Nat.le_of_ble_eq_true rfl) rfl dX1_readSetting_121 (fun H locs hH => ?_)
                refine lv_iconst (v := nI 1) C.x C.b dX1_readSetting_124 (by decide) ?_
                exact rZ C hr (by decide) hH (Or.inl ⟨(c_82 + 1, m1, o_82, s_82, 2), by simp only [se, hE, if_neg c_76, hq_82, k_97, k_110, cond_true, cond_false], by omega, by omega, rfl, rfl⟩) (Nat.le_of_ble_eq_true rfl) (Nat.le_of_ble_eq_true rfl) dX1_readSetting_125
              · have hH : Hp D A s ([(h0, .inr (1, [.ref tx, .int (nI n), .int (nI c_82), .ref dr])), (tx, .inl (D.1 10, 40, .inl (fun j => nI (t j)))), (dr, .inr (0, [.int (nI f0), .int (nI m1), .int (nI o_82), .int (nI (s_82.getD 0)), .int (nI 0), .int (nI f5), .int (bI f6), .int (nI f7), .int (oI f8), .int (oI f9)]))]) H locs := hH
                refine W.eq (g2 := F0 m 113 ls [.int (nI 0), .ref dr]) rfl ?_
                refine vn_if_eq (tgt := 120) C.x C.b dX1_readSetting_113 (by decide) (by omega) (fun _ => ?_) (fun q => absurd q (by decide))
                refine lv_iconst (v := nI 0) C.x C.b dX1_readSetting_120 (by decide) ?_
                refine gPutN (v := .int (nI 0)) (ws' := [(h0, .inr (1, [.ref tx, .int (nI n), .int (nI c_82), .ref dr])), (tx, .inl (D.1 10, 40, .inl (fun j => nI (t j)))), (dr, .inr (0, [.int (nI f0), .int (nI m1), .int (nI o_82), .int (nI (s_82.getD 0)), .int (nI 0), .int (nI f5), .int (bI f6), .int (nI f7), .int (oI f8), .int (oI f9)]))]) C hK hH 2 4 tyX0 tyX0_ok nmX0 rfl rfl inX0 (by decide) (nwl_of tn_48 rfl) rfl rfl rfl (Nat.le_of_ble_eq_true rfl) rfl dX1_readSetting_121 (fun H locs hH => ?_)
                refine lv_iconst (v := nI 1) C.x C.b dX1_readSetting_124 (by decide) ?_
                exact rZ C hr (by decide) hH (Or.inl ⟨(c_82, m1, o_82, s_82, 0), by simp only [se, hE, if_neg c_76, hq_82, k_97, k_110, cond_true, cond_false], by omega, by omega, rfl, rfl⟩) (Nat.le_of_ble_eq_true rfl) (Nat.le_of_ble_eq_true rfl) dX1_readSetting_125
          · have hH : Hp D A s ([(h0, .inr (1, [.ref tx, .int (nI n), .int (nI a9_82), .ref dr])), (tx, .inl (D.1 10, 40, .inl (fun j => nI (t j)))), (dr, .inr (0, [.int (nI f0), .int (nI m1), .int (nI g2_82), .int (nI g3_82), .int (nI 0), .int (nI f5), .int (bI f6), .int (nI f7), .int (oI f8), .int (oI f9)]))]) H locs := hH
            refine W.eq (g2 := F0 m 85 ls [.int (nI 0)]) rfl ?_
            refine vn_if_ne (tgt := 90) C.x C.b dX1_readSetting_85 (by decide) (by omega) (fun q => absurd q (by decide)) (fun _ => ?_)
            refine lv_iconst (v := nI 0) C.x C.b dX1_readSetting_88 (by decide) ?_
            exact rZ C hr (by decide) hH (Or.inr ⟨a9_82, m1, g2_82, g3_82, by simp only [se, hE, if_neg c_76, hq_82], by omega, rfl, rfl⟩) (Nat.le_of_ble_eq_true rfl) (Nat.le_of_ble_eq_true rfl) dX1_readSetting_89
        · refine lv_iconst (v := nI 1) C.x C.b dX1_readSetting_79 (by decide) ?_
          exact rZ C hr (by decide) hH (Or.inl ⟨(a1, m1, 0, none, 0), by simp only [se, hE, if_pos c_76], by omega, by omega, rfl, rfl⟩) (Nat.le_of_ble_eq_true rfl) (Nat.le_of_ble_eq_true rfl) dX1_readSetting_80
      · refine lv_aload_n C.x C.b dX1_readSetting_7 rfl (lv_at hl 1 rfl) ?_
        refine kV (As := []) (isC := [0, 1, 2]) (isR := []) (wr := []) C hK hH (c_isAtTarget l htr D H.size h0 tx dr t n a1 f0 m1 0 0 0 f5 f6 f7 f8 f9 hn (by omega) ht (by omega)) ⟨rfl, rfl, rfl, rfl, by decide⟩ 0 rfl rfl tw_275 tw_277 ts_5 tw_2 kX1_isAtTarget ⟨by decide +kernel, by decide +kernel, (by decide +kernel : (parseMethodDescriptor yX1_isAtTarget.desc).map (fun d => d.parameters.length) = some 0)⟩ ⟨(Nat.le_of_ble_eq_true rfl), (Nat.le_of_ble_eq_true rfl)⟩ hl.1 (Nat.le_of_ble_eq_true rfl) dX1_readSetting_8 ⟨(Nat.le_of_ble_eq_true rfl), (Nat.le_of_ble_eq_true rfl)⟩ (fun v9 w9 H locs hN hH => ?_) (fun _ _ _ _ _ _ h => False.elim h)
        rcases hN with ⟨k_8, hk_8, hk8_8, hi_8, kl_8, rfl, rfl⟩ | ⟨hk_8, rfl, rfl⟩
        · have hH : Hp D A s ([(h0, .inr (1, [.ref tx, .int (nI n), .int (nI a1), .ref dr])), (tx, .inl (D.1 10, 40, .inl (fun j => nI (t j)))), (dr, .inr (0, [.int (nI f0), .int (nI m1), .int (nI 0), .int (nI 0), .int (nI 0), .int (nI f5), .int (bI f6), .int (nI f7), .int (oI f8), .int (oI f9)]))]) H locs := hH
          refine W.eq (g2 := F0 m 11 ls [.int (nI 1)]) rfl ?_
          refine vn_if_eq (tgt := 69) C.x C.b dX1_readSetting_11 (by decide) (by omega) (fun q => absurd q (by decide)) (fun _ => ?_)
          refine lv_aload_n C.x C.b dX1_readSetting_14 rfl (lv_at hl 1 rfl) ?_
          refine gGet (v := .ref dr) C hK hH 0 3 rfl rfl inX1 (by decide) tw_89 rfl dX1_readSetting_15 ?_
          refine lv_dup C.x C.b dX1_readSetting_18 rfl ?_
          refine gGetN (v := .int (nI m1)) C hK hH 2 1 rfl rfl inX0 (by decide) (nwl_of tn_41 rfl) rfl dX1_readSetting_19 ?_
          refine lv_iconst (v := nI 1) C.x C.b dX1_readSetting_22 (by decide) ?_
          refine va_ldcS C.x C.b C.ow C.N.2.1 dX1_readSetting_23 ?_
          refine lv_aload_n C.x C.b dX1_readSetting_25 rfl (lv_at hl 1 rfl) ?_
          refine gGet (v := .ref tx) C hK hH 0 0 rfl rfl inX1 (by decide) tw_84 rfl dX1_readSetting_26 ?_
          refine lv_aload_n C.x C.b dX1_readSetting_29 rfl (lv_at hl 1 rfl) ?_
          refine gGet (v := .int (nI a1)) C hK hH 0 2 rfl rfl inX1 (by decide) tw_87 rfl dX1_readSetting_30 ?_
          have hf_33 := ht a1
          refine gCald (v := (nI (t a1))) C hK hH 1 rfl (by omega) (by decide) dX1_readSetting_33 rfl ?_
          refine kVr (As := [.int (nI (t a1))]) (isC := []) (isR := [0, 1, 2]) (wr := [(h0, .inr (1, [.ref tx, .int (nI n), .int (nI a1), .ref dr])), (tx, .inl (D.1 10, 40, .inl (fun j => nI (t j)))), (dr, .inr (0, [.int (nI f0), .int (nI m1), .int (nI 0), .int (nI 0), .int (nI 0), .int (nI f5), .int (bI f6), .int (nI f7), .int (oI f8), .int (oI f9)]))]) C hK hH (c_indexOf l htr D H.size 0 (t a1) (by decide) (by omega)) ⟨rfl, rfl, rfl, rfl, by decide⟩ (vk_recv C.Z.2.2.1 (i := 0) (by decide) hH.2.2) tw_280 tw_281 tw_282 tw_10 kJ0_indexOf ⟨by decide +kernel, by decide +kernel, (by decide +kernel : (parseMethodDescriptor yJ0_indexOf.desc).map (fun d => d.parameters.length) = some 1)⟩ ⟨(Nat.le_of_ble_eq_true rfl), (Nat.le_of_ble_eq_true rfl)⟩ hl.1 (Nat.le_of_ble_eq_true rfl) dX1_readSetting_34 ⟨(Nat.le_of_ble_eq_true rfl), (Nat.le_of_ble_eq_true rfl)⟩ (fun v9 w9 H locs hN hH => ?_) (fun _ _ _ _ _ _ h => False.elim h)
          obtain ⟨rfl, rfl⟩ := hN
          have hH : Hp D A s ([(h0, .inr (1, [.ref tx, .int (nI n), .int (nI a1), .ref dr])), (tx, .inl (D.1 10, 40, .inl (fun j => nI (t j)))), (dr, .inr (0, [.int (nI f0), .int (nI m1), .int (nI 0), .int (nI 0), .int (nI 0), .int (nI f5), .int (bI f6), .int (nI f7), .int (oI f8), .int (oI f9)]))]) H locs := hH
          refine W.eq (g2 := F0 m 37 ls [.int (oI (ixS 0 (t a1))), .int (nI 1), .int (nI m1), .ref dr]) rfl ?_
          refine vt_top (y := nI k_8) (by rw [hi_8]; rfl) ?_
          refine lv_ishl C.x C.b dX1_readSetting_37 ?_
          refine lv_ior C.x C.b dX1_readSetting_38 ?_
          refine vt_top (y := nI (m1 ||| 2 ^ k_8)) (orbit (by omega)) ?_
          refine gPutN (v := .int (nI (m1 ||| 2 ^ k_8))) (ws' := [(h0, .inr (1, [.ref tx, .int (nI n), .int (nI a1), .ref dr])), (tx, .inl (D.1 10, 40, .inl (fun j => nI (t j)))), (dr, .inr (0, [.int (nI f0), .int (nI (m1 ||| 2 ^ k_8)), .int (nI 0), .int (nI 0), .int (nI 0), .int (nI f5), .int (bI f6), .int (nI f7), .int (oI f8), .int (oI f9)]))]) C hK hH 2 1 tyX0 tyX0_ok nmX0 rfl rfl inX0 (by decide) (nwl_of tn_41 rfl) rfl rfl rfl (Nat.le_of_ble_eq_true rfl) rfl dX1_readSetting_39 (fun H locs hH => ?_)
          refine lv_aload_n C.x C.b dX1_readSetting_42 rfl (lv_at hl 1 rfl) ?_
          refine lv_dup C.x C.b dX1_readSetting_43 rfl ?_
          refine gGet (v := .int (nI a1)) C hK hH 0 2 rfl rfl inX1 (by decide) tw_87 rfl dX1_readSetting_44 ?_
          refine lv_iconst (v := nI 1) C.x C.b dX1_readSetting_47 (by decide) ?_
          refine lv_iadd C.x C.b dX1_readSetting_48 ?_
          refine vt_top (nI_add _ _) ?_
          refine gPut (v := .int (nI (a1 + 1))) (ws' := [(h0, .inr (1, [.ref tx, .int (nI n), .int (nI (a1 + 1)), .ref dr])), (tx, .inl (D.1 10, 40, .inl (fun j => nI (t j)))), (dr, .inr (0, [.int (nI f0), .int (nI (m1 ||| 2 ^ k_8)), .int (nI 0), .int (nI 0), .int (nI 0), .int (nI f5), .int (bI f6), .int (nI f7), .int (oI f8), .int (oI f9)]))]) C hK hH 0 2 tyX1 tyX1_ok nmX1 rfl rfl inX1 (by decide) tw_87 rfl rfl rfl (Nat.le_of_ble_eq_true rfl) rfl dX1_readSetting_49 (fun H locs hH => ?_)
          refine lv_aload_n C.x C.b dX1_readSetting_52 rfl (lv_at hl 1 rfl) ?_
          refine lv_bipush (v := nI 61) C.x C.b dX1_readSetting_53 (by decide) ?_
          refine kV (As := [.int (nI 61)]) (isC := [0, 1, 2]) (isR := []) (wr := []) C hK hH (c_take l htr D H.size h0 tx dr t n (a1 + 1) f0 (m1 ||| 2 ^ k_8) 0 0 0 f5 f6 f7 f8 f9 61 hn (by omega) ht (by omega)) ⟨rfl, rfl, rfl, rfl, by decide⟩ 0 rfl rfl tw_370 tw_372 ts_7 tw_2 kX1_take ⟨by decide +kernel, by decide +kernel, (by decide +kernel : (parseMethodDescriptor yX1_take.desc).map (fun d => d.parameters.length) = some 1)⟩ ⟨(Nat.le_of_ble_eq_true rfl), (Nat.le_of_ble_eq_true rfl)⟩ hl.1 (Nat.le_of_ble_eq_true rfl) dX1_readSetting_55 ⟨(Nat.le_of_ble_eq_true rfl), (Nat.le_of_ble_eq_true rfl)⟩ (fun v9 w9 H locs hN hH => ?_) (fun _ _ _ _ _ _ h => False.elim h)
          rcases hN with ⟨k_55, kl_55, rfl, rfl⟩ | ⟨k_55, rfl, rfl⟩
          · have hH : Hp D A s ([(h0, .inr (1, [.ref tx, .int (nI n), .int (nI (a1 + 1 + 1)), .ref dr])), (tx, .inl (D.1 10, 40, .inl (fun j => nI (t j)))), (dr, .inr (0, [.int (nI f0), .int (nI (m1 ||| 2 ^ k_8)), .int (nI 0), .int (nI 0), .int (nI 0), .int (nI f5), .int (bI f6), .int (nI f7), .int (oI f8), .int (oI f9)]))]) H locs := hH
            refine W.eq (g2 := F0 m 58 ls [.int (nI 1)]) rfl ?_
            refine vn_if_ne (tgt := 63) C.x C.b dX1_readSetting_58 (by decide) (by omega) (fun _ => ?_) (fun q => absurd q (by decide))
            refine lv_iinc (v := (nI (i + 1))) (lv' := [(1, .int (nI (i + 1))), (0, .ref h0)]) C.x C.b dX1_readSetting_63 hl (k := 0) rfl (by rw [show Int32.ofInt 1 = nI 1 from by decide, nI_add]) (by decide) rfl (fun ls hl => ?_)
            refine lv_goto (tgt := 2) C.x C.b dX1_readSetting_66 (by decide) ?_
            exact ih (i + 1) (a1 + 1 + 1) (m1 ||| 2 ^ k_8) (by omega) (by omega) (or512 hm1 (by omega)) (by rw [← hT]; exact (tl_go (by omega) hk_8 k_55).symm) (by omega) _ _ hH ls (lv_sub hl [0, 1] rfl)
          · have hH : Hp D A s ([(h0, .inr (1, [.ref tx, .int (nI n), .int (nI (a1 + 1)), .ref dr])), (tx, .inl (D.1 10, 40, .inl (fun j => nI (t j)))), (dr, .inr (0, [.int (nI f0), .int (nI (m1 ||| 2 ^ k_8)), .int (nI 0), .int (nI 0), .int (nI 0), .int (nI f5), .int (bI f6), .int (nI f7), .int (oI f8), .int (oI f9)]))]) H locs := hH
            refine W.eq (g2 := F0 m 58 ls [.int (nI 0)]) rfl ?_
            refine vn_if_ne (tgt := 63) C.x C.b dX1_readSetting_58 (by decide) (by omega) (fun q => absurd q (by decide)) (fun _ => ?_)
            refine lv_iconst (v := nI 0) C.x C.b dX1_readSetting_61 (by decide) ?_
            exact rZ C hr (by decide) hH (Or.inr ⟨a1 + 1, (m1 ||| 2 ^ k_8), 0, 0, by unfold se; rw [← hT, tl_fail (by omega) hk_8 k_55], by omega, rfl, rfl⟩) (Nat.le_of_ble_eq_true rfl) (Nat.le_of_ble_eq_true rfl) dX1_readSetting_62
        · have hH : Hp D A s ([(h0, .inr (1, [.ref tx, .int (nI n), .int (nI a1), .ref dr])), (tx, .inl (D.1 10, 40, .inl (fun j => nI (t j)))), (dr, .inr (0, [.int (nI f0), .int (nI m1), .int (nI 0), .int (nI 0), .int (nI 0), .int (nI f5), .int (bI f6), .int (nI f7), .int (oI f8), .int (oI f9)]))]) H locs := hH
          refine W.eq (g2 := F0 m 11 ls [.int (nI 0)]) rfl ?_
          refine vn_if_eq (tgt := 69) C.x C.b dX1_readSetting_11 (by decide) (by omega) (fun _ => ?_) (fun q => absurd q (by decide))
          have hE : tl t n 4 a 0 = .inr (a1, m1) := by rw [← hT]; exact tl_stop (by first | exact Or.inl (by omega) | exact Or.inr hk_8)
          refine lv_aload_n C.x C.b dX1_readSetting_69 rfl (lv_at hl 1 rfl) ?_
          refine gGet (v := .ref dr) C hK hH 0 3 rfl rfl inX1 (by decide) tw_89 rfl dX1_readSetting_70 ?_
          refine gGetN (v := .int (nI m1)) C hK hH 2 1 rfl rfl inX0 (by decide) (nwl_of tn_41 rfl) rfl dX1_readSetting_73 ?_
          refine vn_if_ne (tgt := 81) C.x C.b dX1_readSetting_76 (by decide) (by omega) (fun c_76 => ?_) (fun c_76 => ?_)
          · refine lv_aload_n C.x C.b dX1_readSetting_81 rfl (lv_at hl 1 rfl) ?_
            refine kV (As := []) (isC := [0, 1, 2]) (isR := []) (wr := []) C hK hH (c_readValue l htr D H.size h0 tx dr t n a1 f0 m1 0 0 0 f5 f6 f7 f8 f9 hn (by omega) ht) ⟨rfl, rfl, rfl, rfl, by decide⟩ 0 rfl rfl tw_374 tw_376 ts_8 tw_2 kX1_readValue ⟨by decide +kernel, by decide +kernel, (by decide +kernel : (parseMethodDescriptor yX1_readValue.desc).map (fun d => d.parameters.length) = some 0)⟩ ⟨(Nat.le_of_ble_eq_true rfl), (Nat.le_of_ble_eq_true rfl)⟩ hl.1 (Nat.le_of_ble_eq_true rfl) dX1_readSetting_82 ⟨(Nat.le_of_ble_eq_true rfl), (Nat.le_of_ble_eq_true rfl)⟩ (fun v9 w9 H locs hN hH => ?_) (fun _ _ _ _ _ _ h => False.elim h)
            rcases hN with ⟨⟨c_82, o_82, s_82⟩, hq_82, kl_82, rfl, rfl⟩ | ⟨a9_82, g2_82, g3_82, hq_82, kl_82, rfl, rfl⟩
            · have hH : Hp D A s ([(h0, .inr (1, [.ref tx, .int (nI n), .int (nI c_82), .ref dr])), (tx, .inl (D.1 10, 40, .inl (fun j => nI (t j)))), (dr, .inr (0, [.int (nI f0), .int (nI m1), .int (nI o_82), .int (nI (s_82.getD 0)), .int (nI 0), .int (nI f5), .int (bI f6), .int (nI f7), .int (oI f8), .int (oI f9)]))]) H locs := hH
              have kl_82 : c_82 ≤ n := kl_82
              refine W.eq (g2 := F0 m 85 ls [.int (nI 1)]) rfl ?_
              refine vn_if_ne (tgt := 90) C.x C.b dX1_readSetting_85 (by decide) (by omega) (fun _ => ?_) (fun q => absurd q (by decide))
              refine lv_aload_n C.x C.b dX1_readSetting_90 rfl (lv_at hl 1 rfl) ?_
              refine gGet (v := .ref dr) C hK hH 0 3 rfl rfl inX1 (by decide) tw_89 rfl dX1_readSetting_91 ?_
              refine lv_aload_n C.x C.b dX1_readSetting_94 rfl (lv_at hl 1 rfl) ?_
              refine lv_bipush (v := nI 60) C.x C.b dX1_readSetting_95 (by decide) ?_
              refine kV (As := [.int (nI 60)]) (isC := [0, 1, 2]) (isR := []) (wr := []) C hK hH (c_take l htr D H.size h0 tx dr t n c_82 f0 m1 o_82 (s_82.getD 0) 0 f5 f6 f7 f8 f9 60 hn (by omega) ht (by omega)) ⟨rfl, rfl, rfl, rfl, by decide⟩ 0 rfl rfl tw_370 tw_372 ts_7 tw_2 kX1_take ⟨by decide +kernel, by decide +kernel, (by decide +kernel : (parseMethodDescriptor yX1_take.desc).map (fun d => d.parameters.length) = some 1)⟩ ⟨(Nat.le_of_ble_eq_true rfl), (Nat.le_of_ble_eq_true rfl)⟩ hl.1 (Nat.le_of_ble_eq_true rfl) dX1_readSetting_97 ⟨(Nat.le_of_ble_eq_true rfl), (Nat.le_of_ble_eq_true rfl)⟩ (fun v9 w9 H locs hN hH => ?_) (fun _ _ _ _ _ _ h => False.elim h)
              rcases hN with ⟨k_97, kl_97, rfl, rfl⟩ | ⟨k_97, rfl, rfl⟩
              · have hH : Hp D A s ([(h0, .inr (1, [.ref tx, .int (nI n), .int (nI (c_82 + 1)), .ref dr])), (tx, .inl (D.1 10, 40, .inl (fun j => nI (t j)))), (dr, .inr (0, [.int (nI f0), .int (nI m1), .int (nI o_82), .int (nI (s_82.getD 0)), .int (nI 0), .int (nI f5), .int (bI f6), .int (nI f7), .int (oI f8), .int (oI f9)]))]) H locs := hH
                refine W.eq (g2 := F0 m 100 ls [.int (nI 1), .ref dr]) rfl ?_
                refine vn_if_eq (tgt := 107) C.x C.b dX1_readSetting_100 (by decide) (by omega) (fun q => absurd q (by decide)) (fun _ => ?_)
                refine lv_iconst (v := nI 1) C.x C.b dX1_readSetting_103 (by decide) ?_
                refine lv_goto (tgt := 121) C.x C.b dX1_readSetting_104 (by decide) ?_
                refine gPutN (v := .int (nI 1)) (ws' := [(h0, .inr (1, [.ref tx, .int (nI n), .int (nI (c_82 + 1)), .ref dr])), (tx, .inl (D.1 10, 40, .inl (fun j => nI (t j)))), (dr, .inr (0, [.int (nI f0), .int (nI m1), .int (nI o_82), .int (nI (s_82.getD 0)), .int (nI 1), .int (nI f5), .int (bI f6), .int (nI f7), .int (oI f8), .int (oI f9)]))]) C hK hH 2 4 tyX0 tyX0_ok nmX0 rfl rfl inX0 (by decide) (nwl_of tn_48 rfl) rfl rfl rfl (Nat.le_of_ble_eq_true rfl) rfl dX1_readSetting_121 (fun H locs hH => ?_)
                refine lv_iconst (v := nI 1) C.x C.b dX1_readSetting_124 (by decide) ?_
                exact rZ C hr (by decide) hH (Or.inl ⟨(c_82 + 1, m1, o_82, s_82, 1), by simp only [se, hE, if_neg c_76, hq_82, k_97, cond_true, cond_false], by omega, by omega, rfl, rfl⟩) (Nat.le_of_ble_eq_true rfl) (Nat.le_of_ble_eq_true rfl) dX1_readSetting_125
              · have hH : Hp D A s ([(h0, .inr (1, [.ref tx, .int (nI n), .int (nI c_82), .ref dr])), (tx, .inl (D.1 10, 40, .inl (fun j => nI (t j)))), (dr, .inr (0, [.int (nI f0), .int (nI m1), .int (nI o_82), .int (nI (s_82.getD 0)), .int (nI 0), .int (nI f5), .int (bI f6), .int (nI f7), .int (oI f8), .int (oI f9)]))]) H locs := hH
                refine W.eq (g2 := F0 m 100 ls [.int (nI 0), .ref dr]) rfl ?_
                refine vn_if_eq (tgt := 107) C.x C.b dX1_readSetting_100 (by decide) (by omega) (fun _ => ?_) (fun q => absurd q (by decide))
                refine lv_aload_n C.x C.b dX1_readSetting_107 rfl (lv_at hl 1 rfl) ?_
                refine lv_bipush (v := nI 62) C.x C.b dX1_readSetting_108 (by decide) ?_
                refine kV (As := [.int (nI 62)]) (isC := [0, 1, 2]) (isR := []) (wr := []) C hK hH (c_take l htr D H.size h0 tx dr t n c_82 f0 m1 o_82 (s_82.getD 0) 0 f5 f6 f7 f8 f9 62 hn (by omega) ht (by omega)) ⟨rfl, rfl, rfl, rfl, by decide⟩ 0 rfl rfl tw_370 tw_372 ts_7 tw_2 kX1_take ⟨by decide +kernel, by decide +kernel, (by decide +kernel : (parseMethodDescriptor yX1_take.desc).map (fun d => d.parameters.length) = some 1)⟩ ⟨(Nat.le_of_ble_eq_true rfl), (Nat.le_of_ble_eq_true rfl)⟩ hl.1 (Nat.le_of_ble_eq_true rfl) dX1_readSetting_110 ⟨(Nat.le_of_ble_eq_true rfl), (Nat.le_of_ble_eq_true rfl)⟩ (fun v9 w9 H locs hN hH => ?_) (fun _ _ _ _ _ _ h => False.elim h)
                rcases hN with ⟨k_110, kl_110, rfl, rfl⟩ | ⟨k_110, rfl, rfl⟩
                · have hH : Hp D A s ([(h0, .inr (1, [.ref tx, .int (nI n), .int (nI (c_82 + 1)), .ref dr])), (tx, .inl (D.1 10, 40, .inl (fun j => nI (t j)))), (dr, .inr (0, [.int (nI f0), .int (nI m1), .int (nI o_82), .int (nI (s_82.getD 0)), .int (nI 0), .int (nI f5), .int (bI f6), .int (nI f7), .int (oI f8), .int (oI f9)]))]) H locs := hH
                  refine W.eq (g2 := F0 m 113 ls [.int (nI 1), .ref dr]) rfl ?_
                  refine vn_if_eq (tgt := 120) C.x C.b dX1_readSetting_113 (by decide) (by omega) (fun q => absurd q (by decide)) (fun _ => ?_)
                  refine lv_iconst (v := nI 2) C.x C.b dX1_readSetting_116 (by decide) ?_
                  refine lv_goto (tgt := 121) C.x C.b dX1_readSetting_117 (by decide) ?_
                  refine gPutN (v := .int (nI 2)) (ws' := [(h0, .inr (1, [.ref tx, .int (nI n), .int (nI (c_82 + 1)), .ref dr])), (tx, .inl (D.1 10, 40, .inl (fun j => nI (t j)))), (dr, .inr (0, [.int (nI f0), .int (nI m1), .int (nI o_82), .int (nI (s_82.getD 0)), .int (nI 2), .int (nI f5), .int (bI f6), .int (nI f7), .int (oI f8), .int (oI f9)]))]) C hK hH 2 4 tyX0 tyX0_ok nmX0 rfl rfl inX0 (by decide) (nwl_of tn_48 rfl) rfl rfl rfl (Nat.le_of_ble_eq_true rfl) rfl dX1_readSetting_121 (fun H locs hH => ?_)
                  refine lv_iconst (v := nI 1) C.x C.b dX1_readSetting_124 (by decide) ?_
                  exact rZ C hr (by decide) hH (Or.inl ⟨(c_82 + 1, m1, o_82, s_82, 2), by simp only [se, hE, if_neg c_76, hq_82, k_97, k_110, cond_true, cond_false], by omega, by omega, rfl, rfl⟩) (Nat.le_of_ble_eq_true rfl) (Nat.le_of_ble_eq_true rfl) dX1_readSetting_125
                · have hH : Hp D A s ([(h0, .inr (1, [.ref tx, .int (nI n), .int (nI c_82), .ref dr])), (tx, .inl (D.1 10, 40, .inl (fun j => nI (t j)))), (dr, .inr (0, [.int (nI f0), .int (nI m1), .int (nI o_82), .int (nI (s_82.getD 0)), .int (nI 0), .int (nI f5), .int (bI f6), .int (nI f7), .int (oI f8), .int (oI f9)]))]) H locs := hH
                  refine W.eq (g2 := F0 m 113 ls [.int (nI 0), .ref dr]) rfl ?_
                  refine vn_if_eq (tgt := 120) C.x C.b dX1_readSetting_113 (by decide) (by omega) (fun _ => ?_) (fun q => absurd q (by decide))
                  refine lv_iconst (v := nI 0) C.x C.b dX1_readSetting_120 (by decide) ?_
                  refine gPutN (v := .int (nI 0)) (ws' := [(h0, .inr (1, [.ref tx, .int (nI n), .int (nI c_82), .ref dr])), (tx, .inl (D.1 10, 40, .inl (fun j => nI (t j)))), (dr, .inr (0, [.int (nI f0), .int (nI m1), .int (nI o_82), .int (nI (s_82.getD 0)), .int (nI 0), .int (nI f5), .int (bI f6), .int (nI f7), .int (oI f8), .int (oI f9)]))]) C hK hH 2 4 tyX0 tyX0_ok nmX0 rfl rfl inX0 (by decide) (nwl_of tn_48 rfl) rfl rfl rfl (Nat.le_of_ble_eq_true rfl) rfl dX1_readSetting_121 (fun H locs hH => ?_)
                  refine lv_iconst (v := nI 1) C.x C.b dX1_readSetting_124 (by decide) ?_
                  exact rZ C hr (by decide) hH (Or.inl ⟨(c_82, m1, o_82, s_82, 0), by simp only [se, hE, if_neg c_76, hq_82, k_97, k_110, cond_true, cond_false], by omega, by omega, rfl, rfl⟩) (Nat.le_of_ble_eq_true rfl) (Nat.le_of_ble_eq_true rfl) dX1_readSetting_125
            · have hH : Hp D A s ([(h0, .inr (1, [.ref tx, .int (nI n), .int (nI a9_82), .ref dr])), (tx, .inl (D.1 10, 40, .inl (fun j => nI (t j)))), (dr, .inr (0, [.int (nI f0), .int (nI m1), .int (nI g2_82), .int (nI g3_82), .int (nI 0), .int (nI f5), .int (bI f6), .int (nI f7), .int (oI f8), .int (oI f9)]))]) H locs := hH
              refine W.eq (g2 := F0 m 85 ls [.int (nI 0)]) rfl ?_
              refine vn_if_ne (tgt := 90) C.x C.b dX1_readSetting_85 (by decide) (by omega) (fun q => absurd q (by decide)) (fun _ => ?_)
              refine lv_iconst (v := nI 0) C.x C.b dX1_readSetting_88 (by decide) ?_
              exact rZ C hr (by decide) hH (Or.inr ⟨a9_82, m1, g2_82, g3_82, by simp only [se, hE, if_neg c_76, hq_82], by omega, rfl, rfl⟩) (Nat.le_of_ble_eq_true rfl) (Nat.le_of_ble_eq_true rfl) dX1_readSetting_89
          · refine lv_iconst (v := nI 1) C.x C.b dX1_readSetting_79 (by decide) ?_
            exact rZ C hr (by decide) hH (Or.inl ⟨(a1, m1, 0, none, 0), by simp only [se, hE, if_pos c_76], by omega, by omega, rfl, rfl⟩) (Nat.le_of_ble_eq_true rfl) (Nat.le_of_ble_eq_true rfl) dX1_readSetting_80
  exact L_2 _ 0 a 0 (by omega) ha (by omega) rfl (Nat.lt_succ_self _) _ _ hH ls (lv_sub hl [0, 1] rfl)
end
section
set_option maxHeartbeats 4000000 in
set_option maxRecDepth 100000 in
theorem c_rit0 (l : Launch) (htr : l.stackTraces = false) (D : va_G) (sz : Nat) (h0 tx dr : Nat) (t : Nat → Nat) (n a : Nat) (f0 f5 : Nat) (f6 : Bool) (f7 : Nat) (f8 f9 : Option Nat) (hn : n ≤ 40) (ha : a ≤ n) (ht : ∀ j, t j < 128) : Ct l yX1_readIfThere wX1_readIfThere { frames := 8, cells := 0, slots := 0, locals := 173 } D ([(h0, .inr (1, [.ref tx, .int (nI n), .int (nI a), .ref dr])), (tx, .inl (D.1 10, 40, .inl (fun j => nI (t j)))), (dr, .inr (0, [.int (nI f0), .int (nI 0), .int (nI 0), .int (nI 0), .int (nI 0), .int (nI f5), .int (bI f6), .int (nI f7), .int (oI f8), .int (oI f9)]))]) [.ref h0, .int (nI 0)] sz (fun v w => (∃ q, se t n a = .inr q ∧ q.1 ≤ n ∧ q.2.1 < 512 ∧ v = some (.int (nI 1)) ∧ w = [(h0, .inr (1, [.ref tx, .int (nI n), .int (nI q.1), .ref dr])), (tx, .inl (D.1 10, 40, .inl (fun j => nI (t j)))), (dr, .inr (0, [.int (nI f0), .int (nI q.2.1), .int (nI q.2.2.1), .int (nI (q.2.2.2.1.getD 0)), .int (nI q.2.2.2.2), .int (nI f5), .int (bI f6), .int (nI f7), .int (oI f8), .int (oI f9)]))]) ∨ (∃ a9 g1 g2 g3, se t n a = .inl a9 ∧ a9 ≤ n ∧ v = some (.int (nI 0)) ∧ w = [(h0, .inr (1, [.ref tx, .int (nI n), .int (nI a9), .ref dr])), (tx, .inl (D.1 10, 40, .inl (fun j => nI (t j)))), (dr, .inr (0, [.int (nI f0), .int (nI g1), .int (nI g2), .int (nI g3), .int (nI 0), .int (nI f5), .int (bI f6), .int (nI f7), .int (oI f8), .int (oI f9)]))])) (nox) := by
  refine Ct.of (cc := cX1_readIfThere) (nL := 2) (ret := (some .boolean)) (own := RX1) htr (by decide) rfl (Nat.le_of_ble_eq_true rfl) ?_
  intro p e s m args below meth c A C hr hK H locs hH ls hl
  have hl : lv_has ls 2 [(0, .ref h0), (1, .int (nI 0))] := hl
  refine lv_iload_n C.x C.b dX1_readIfThere_0 rfl (lv_at hl 1 rfl) ?_
  refine lv_tableIn (off := 27) (tgt := 28) C.x C.b dX1_readIfThere_1 (by decide) (by decide) (by decide) (by decide) ?_
  refine lv_aload_n C.x C.b dX1_readIfThere_28 rfl (lv_at hl 0 rfl) ?_
  refine kV (As := []) (isC := [0, 1, 2]) (isR := []) (wr := []) C hK hH (c_readSetting l htr D H.size h0 tx dr t n a f0 f5 f6 f7 f8 f9 hn (by omega) ht) ⟨rfl, rfl, rfl, rfl, by decide⟩ 0 rfl rfl tw_271 tw_273 ts_4 tw_2 kX1_readSetting ⟨by decide +kernel, by decide +kernel, (by decide +kernel : (parseMethodDescriptor yX1_readSetting.desc).map (fun d => d.parameters.length) = some 0)⟩ ⟨(Nat.le_of_ble_eq_true rfl), (Nat.le_of_ble_eq_true rfl)⟩ hl.1 (Nat.le_of_ble_eq_true rfl) dX1_readIfThere_29 ⟨(Nat.le_of_ble_eq_true rfl), (Nat.le_of_ble_eq_true rfl)⟩ (fun v9 w9 H locs hN hH => ?_) (fun _ _ _ _ _ _ h => False.elim h)
  rcases hN with ⟨q_29, hq_29, kl_29, hm_29, rfl, rfl⟩ | ⟨a9_29, g1_29, g2_29, g3_29, hq_29, kl_29, rfl, rfl⟩
  · have hH : Hp D A s ([(h0, .inr (1, [.ref tx, .int (nI n), .int (nI q_29.1), .ref dr])), (tx, .inl (D.1 10, 40, .inl (fun j => nI (t j)))), (dr, .inr (0, [.int (nI f0), .int (nI q_29.2.1), .int (nI q_29.2.2.1), .int (nI (q_29.2.2.2.1.getD 0)), .int (nI q_29.2.2.2.2), .int (nI f5), .int (bI f6), .int (nI f7), .int (oI f8), .int (oI f9)]))]) H locs := hH
    refine W.eq (g2 := F0 m 32 ls [.int (nI 1)]) rfl ?_
    exact rZ C hr (by decide) hH (Or.inl ⟨q_29, hq_29, kl_29, hm_29, rfl, rfl⟩) (Nat.le_of_ble_eq_true rfl) (Nat.le_of_ble_eq_true rfl) dX1_readIfThere_32
  · have hH : Hp D A s ([(h0, .inr (1, [.ref tx, .int (nI n), .int (nI a9_29), .ref dr])), (tx, .inl (D.1 10, 40, .inl (fun j => nI (t j)))), (dr, .inr (0, [.int (nI f0), .int (nI g1_29), .int (nI g2_29), .int (nI g3_29), .int (nI 0), .int (nI f5), .int (bI f6), .int (nI f7), .int (oI f8), .int (oI f9)]))]) H locs := hH
    refine W.eq (g2 := F0 m 32 ls [.int (nI 0)]) rfl ?_
    exact rZ C hr (by decide) hH (Or.inr ⟨a9_29, g1_29, g2_29, g3_29, hq_29, kl_29, rfl, rfl⟩) (Nat.le_of_ble_eq_true rfl) (Nat.le_of_ble_eq_true rfl) dX1_readIfThere_32
set_option maxHeartbeats 4000000 in
set_option maxRecDepth 100000 in
theorem c_rit1 (l : Launch) (htr : l.stackTraces = false) (D : va_G) (sz : Nat) (h0 tx dr : Nat) (t : Nat → Nat) (n a : Nat) (f0 f1 f2 f3 f4 f5 : Nat) (f6 : Bool) (f7 : Nat) (f8 f9 : Option Nat) (hn : n ≤ 40) (ha : a ≤ n) (ht : ∀ j, t j < 128) : Ct l yX1_readIfThere wX1_readIfThere { frames := 1, cells := 0, slots := 0, locals := 21 } D ([(h0, .inr (1, [.ref tx, .int (nI n), .int (nI a), .ref dr])), (tx, .inl (D.1 10, 40, .inl (fun j => nI (t j)))), (dr, .inr (0, [.int (nI f0), .int (nI f1), .int (nI f2), .int (nI f3), .int (nI f4), .int (nI f5), .int (bI f6), .int (nI f7), .int (oI f8), .int (oI f9)]))]) [.ref h0, .int (nI 1)] sz (fun v w => (tk t n a 102 = true ∧ a < n ∧ v = some (.int (nI 1)) ∧ w = [(h0, .inr (1, [.ref tx, .int (nI n), .int (nI (a + 1)), .ref dr])), (tx, .inl (D.1 10, 40, .inl (fun j => nI (t j)))), (dr, .inr (0, [.int (nI f0), .int (nI f1), .int (nI f2), .int (nI f3), .int (nI f4), .int (nI f5), .int (bI true), .int (nI f7), .int (oI f8), .int (oI f9)]))]) ∨ (tk t n a 102 = false ∧ v = some (.int (nI 1)) ∧ w = [(h0, .inr (1, [.ref tx, .int (nI n), .int (nI a), .ref dr])), (tx, .inl (D.1 10, 40, .inl (fun j => nI (t j)))), (dr, .inr (0, [.int (nI f0), .int (nI f1), .int (nI f2), .int (nI f3), .int (nI f4), .int (nI f5), .int (bI false), .int (nI f7), .int (oI f8), .int (oI f9)]))])) (nox) := by
  refine Ct.of (cc := cX1_readIfThere) (nL := 2) (ret := (some .boolean)) (own := RX1) htr (by decide) rfl (Nat.le_of_ble_eq_true rfl) ?_
  intro p e s m args below meth c A C hr hK H locs hH ls hl
  have hl : lv_has ls 2 [(0, .ref h0), (1, .int (nI 1))] := hl
  refine lv_iload_n C.x C.b dX1_readIfThere_0 rfl (lv_at hl 1 rfl) ?_
  refine lv_tableIn (off := 32) (tgt := 33) C.x C.b dX1_readIfThere_1 (by decide) (by decide) (by decide) (by decide) ?_
  refine lv_aload_n C.x C.b dX1_readIfThere_33 rfl (lv_at hl 0 rfl) ?_
  refine gGet (v := .ref dr) C hK hH 0 3 rfl rfl inX1 (by decide) tw_89 rfl dX1_readIfThere_34 ?_
  refine lv_aload_n C.x C.b dX1_readIfThere_37 rfl (lv_at hl 0 rfl) ?_
  refine lv_bipush (v := nI 102) C.x C.b dX1_readIfThere_38 (by decide) ?_
  refine kV (As := [.int (nI 102)]) (isC := [0, 1, 2]) (isR := []) (wr := []) C hK hH (c_take l htr D H.size h0 tx dr t n a f0 f1 f2 f3 f4 f5 f6 f7 f8 f9 102 hn (by omega) ht (by omega)) ⟨rfl, rfl, rfl, rfl, by decide⟩ 0 rfl rfl tw_370 tw_372 ts_7 tw_2 kX1_take ⟨by decide +kernel, by decide +kernel, (by decide +kernel : (parseMethodDescriptor yX1_take.desc).map (fun d => d.parameters.length) = some 1)⟩ ⟨(Nat.le_of_ble_eq_true rfl), (Nat.le_of_ble_eq_true rfl)⟩ hl.1 (Nat.le_of_ble_eq_true rfl) dX1_readIfThere_40 ⟨(Nat.le_of_ble_eq_true rfl), (Nat.le_of_ble_eq_true rfl)⟩ (fun v9 w9 H locs hN hH => ?_) (fun _ _ _ _ _ _ h => False.elim h)
  rcases hN with ⟨k_40, kl_40, rfl, rfl⟩ | ⟨k_40, rfl, rfl⟩
  · have hH : Hp D A s ([(h0, .inr (1, [.ref tx, .int (nI n), .int (nI (a + 1)), .ref dr])), (tx, .inl (D.1 10, 40, .inl (fun j => nI (t j)))), (dr, .inr (0, [.int (nI f0), .int (nI f1), .int (nI f2), .int (nI f3), .int (nI f4), .int (nI f5), .int (bI f6), .int (nI f7), .int (oI f8), .int (oI f9)]))]) H locs := hH
    refine W.eq (g2 := F0 m 43 ls [.int (nI 1), .ref dr]) rfl ?_
    refine gPutN (v := .int (nI 1)) (ws' := [(h0, .inr (1, [.ref tx, .int (nI n), .int (nI (a + 1)), .ref dr])), (tx, .inl (D.1 10, 40, .inl (fun j => nI (t j)))), (dr, .inr (0, [.int (nI f0), .int (nI f1), .int (nI f2), .int (nI f3), .int (nI f4), .int (nI f5), .int (nI 1), .int (nI f7), .int (oI f8), .int (oI f9)]))]) C hK hH 2 6 tyX0 tyX0_ok nmX0 rfl rfl inX0 (by decide) (nwl_of tn_52 rfl) rfl (by decide) (by decide) (Nat.le_of_ble_eq_true rfl) rfl dX1_readIfThere_43 (fun H locs hH => ?_)
    refine lv_iconst (v := nI 1) C.x C.b dX1_readIfThere_46 (by decide) ?_
    exact rZ C hr (by decide) hH (Or.inl ⟨k_40, kl_40, rfl, rfl⟩) (Nat.le_of_ble_eq_true rfl) (Nat.le_of_ble_eq_true rfl) dX1_readIfThere_47
  · have hH : Hp D A s ([(h0, .inr (1, [.ref tx, .int (nI n), .int (nI a), .ref dr])), (tx, .inl (D.1 10, 40, .inl (fun j => nI (t j)))), (dr, .inr (0, [.int (nI f0), .int (nI f1), .int (nI f2), .int (nI f3), .int (nI f4), .int (nI f5), .int (bI f6), .int (nI f7), .int (oI f8), .int (oI f9)]))]) H locs := hH
    refine W.eq (g2 := F0 m 43 ls [.int (nI 0), .ref dr]) rfl ?_
    refine gPutN (v := .int (nI 0)) (ws' := [(h0, .inr (1, [.ref tx, .int (nI n), .int (nI a), .ref dr])), (tx, .inl (D.1 10, 40, .inl (fun j => nI (t j)))), (dr, .inr (0, [.int (nI f0), .int (nI f1), .int (nI f2), .int (nI f3), .int (nI f4), .int (nI f5), .int (nI 0), .int (nI f7), .int (oI f8), .int (oI f9)]))]) C hK hH 2 6 tyX0 tyX0_ok nmX0 rfl rfl inX0 (by decide) (nwl_of tn_52 rfl) rfl (by decide) (by decide) (Nat.le_of_ble_eq_true rfl) rfl dX1_readIfThere_43 (fun H locs hH => ?_)
    refine lv_iconst (v := nI 1) C.x C.b dX1_readIfThere_46 (by decide) ?_
    exact rZ C hr (by decide) hH (Or.inr ⟨k_40, rfl, rfl⟩) (Nat.le_of_ble_eq_true rfl) (Nat.le_of_ble_eq_true rfl) dX1_readIfThere_47
set_option maxHeartbeats 4000000 in
set_option maxRecDepth 100000 in
theorem c_rit2 (l : Launch) (htr : l.stackTraces = false) (D : va_G) (sz : Nat) (h0 tx dr : Nat) (t : Nat → Nat) (n a : Nat) (f0 f1 f2 f3 f4 f5 : Nat) (f6 : Bool) (f7 : Nat) (f8 f9 : Option Nat) (hn : n ≤ 40) (ha : a ≤ n) (ht : ∀ j, t j < 128) : Ct l yX1_readIfThere wX1_readIfThere { frames := 1, cells := 0, slots := 0, locals := 21 } D ([(h0, .inr (1, [.ref tx, .int (nI n), .int (nI a), .ref dr])), (tx, .inl (D.1 10, 40, .inl (fun j => nI (t j)))), (dr, .inr (0, [.int (nI f0), .int (nI f1), .int (nI f2), .int (nI f3), .int (nI f4), .int (nI f5), .int (bI f6), .int (nI f7), .int (oI f8), .int (oI f9)]))]) [.ref h0, .int (nI 2)] sz (fun v w => (tk t n a 114 = true ∧ a < n ∧ v = some (.int (nI 1)) ∧ w = [(h0, .inr (1, [.ref tx, .int (nI n), .int (nI (a + 1)), .ref dr])), (tx, .inl (D.1 10, 40, .inl (fun j => nI (t j)))), (dr, .inr (0, [.int (nI f0), .int (nI f1), .int (nI f2), .int (nI f3), .int (nI f4), .int (nI 1), .int (bI f6), .int (nI f7), .int (oI f8), .int (oI f9)]))]) ∨ (tk t n a 114 = false ∧ tk t n a 119 = true ∧ a < n ∧ v = some (.int (nI 1)) ∧ w = [(h0, .inr (1, [.ref tx, .int (nI n), .int (nI (a + 1)), .ref dr])), (tx, .inl (D.1 10, 40, .inl (fun j => nI (t j)))), (dr, .inr (0, [.int (nI f0), .int (nI f1), .int (nI f2), .int (nI f3), .int (nI f4), .int (nI 2), .int (bI f6), .int (nI f7), .int (oI f8), .int (oI f9)]))]) ∨ (tk t n a 114 = false ∧ tk t n a 119 = false ∧ v = some (.int (nI 1)) ∧ w = [(h0, .inr (1, [.ref tx, .int (nI n), .int (nI a), .ref dr])), (tx, .inl (D.1 10, 40, .inl (fun j => nI (t j)))), (dr, .inr (0, [.int (nI f0), .int (nI f1), .int (nI f2), .int (nI f3), .int (nI f4), .int (nI 0), .int (bI f6), .int (nI f7), .int (oI f8), .int (oI f9)]))])) (nox) := by
  refine Ct.of (cc := cX1_readIfThere) (nL := 2) (ret := (some .boolean)) (own := RX1) htr (by decide) rfl (Nat.le_of_ble_eq_true rfl) ?_
  intro p e s m args below meth c A C hr hK H locs hH ls hl
  have hl : lv_has ls 2 [(0, .ref h0), (1, .int (nI 2))] := hl
  refine lv_iload_n C.x C.b dX1_readIfThere_0 rfl (lv_at hl 1 rfl) ?_
  refine lv_tableIn (off := 47) (tgt := 48) C.x C.b dX1_readIfThere_1 (by decide) (by decide) (by decide) (by decide) ?_
  refine lv_aload_n C.x C.b dX1_readIfThere_48 rfl (lv_at hl 0 rfl) ?_
  refine gGet (v := .ref dr) C hK hH 0 3 rfl rfl inX1 (by decide) tw_89 rfl dX1_readIfThere_49 ?_
  refine lv_aload_n C.x C.b dX1_readIfThere_52 rfl (lv_at hl 0 rfl) ?_
  refine lv_bipush (v := nI 114) C.x C.b dX1_readIfThere_53 (by decide) ?_
  refine kV (As := [.int (nI 114)]) (isC := [0, 1, 2]) (isR := []) (wr := []) C hK hH (c_take l htr D H.size h0 tx dr t n a f0 f1 f2 f3 f4 f5 f6 f7 f8 f9 114 hn (by omega) ht (by omega)) ⟨rfl, rfl, rfl, rfl, by decide⟩ 0 rfl rfl tw_370 tw_372 ts_7 tw_2 kX1_take ⟨by decide +kernel, by decide +kernel, (by decide +kernel : (parseMethodDescriptor yX1_take.desc).map (fun d => d.parameters.length) = some 1)⟩ ⟨(Nat.le_of_ble_eq_true rfl), (Nat.le_of_ble_eq_true rfl)⟩ hl.1 (Nat.le_of_ble_eq_true rfl) dX1_readIfThere_55 ⟨(Nat.le_of_ble_eq_true rfl), (Nat.le_of_ble_eq_true rfl)⟩ (fun v9 w9 H locs hN hH => ?_) (fun _ _ _ _ _ _ h => False.elim h)
  rcases hN with ⟨k_55, kl_55, rfl, rfl⟩ | ⟨k_55, rfl, rfl⟩
  · have hH : Hp D A s ([(h0, .inr (1, [.ref tx, .int (nI n), .int (nI (a + 1)), .ref dr])), (tx, .inl (D.1 10, 40, .inl (fun j => nI (t j)))), (dr, .inr (0, [.int (nI f0), .int (nI f1), .int (nI f2), .int (nI f3), .int (nI f4), .int (nI f5), .int (bI f6), .int (nI f7), .int (oI f8), .int (oI f9)]))]) H locs := hH
    refine W.eq (g2 := F0 m 58 ls [.int (nI 1), .ref dr]) rfl ?_
    refine vn_if_eq (tgt := 65) C.x C.b dX1_readIfThere_58 (by decide) (by omega) (fun q => absurd q (by decide)) (fun _ => ?_)
    refine lv_iconst (v := nI 1) C.x C.b dX1_readIfThere_61 (by decide) ?_
    refine lv_goto (tgt := 79) C.x C.b dX1_readIfThere_62 (by decide) ?_
    refine gPutN (v := .int (nI 1)) (ws' := [(h0, .inr (1, [.ref tx, .int (nI n), .int (nI (a + 1)), .ref dr])), (tx, .inl (D.1 10, 40, .inl (fun j => nI (t j)))), (dr, .inr (0, [.int (nI f0), .int (nI f1), .int (nI f2), .int (nI f3), .int (nI f4), .int (nI 1), .int (bI f6), .int (nI f7), .int (oI f8), .int (oI f9)]))]) C hK hH 2 5 tyX0 tyX0_ok nmX0 rfl rfl inX0 (by decide) (nwl_of tn_50 rfl) rfl rfl rfl (Nat.le_of_ble_eq_true rfl) rfl dX1_readIfThere_79 (fun H locs hH => ?_)
    refine lv_iconst (v := nI 1) C.x C.b dX1_readIfThere_82 (by decide) ?_
    exact rZ C hr (by decide) hH (Or.inl ⟨k_55, kl_55, rfl, rfl⟩) (Nat.le_of_ble_eq_true rfl) (Nat.le_of_ble_eq_true rfl) dX1_readIfThere_83
  · have hH : Hp D A s ([(h0, .inr (1, [.ref tx, .int (nI n), .int (nI a), .ref dr])), (tx, .inl (D.1 10, 40, .inl (fun j => nI (t j)))), (dr, .inr (0, [.int (nI f0), .int (nI f1), .int (nI f2), .int (nI f3), .int (nI f4), .int (nI f5), .int (bI f6), .int (nI f7), .int (oI f8), .int (oI f9)]))]) H locs := hH
    refine W.eq (g2 := F0 m 58 ls [.int (nI 0), .ref dr]) rfl ?_
    refine vn_if_eq (tgt := 65) C.x C.b dX1_readIfThere_58 (by decide) (by omega) (fun _ => ?_) (fun q => absurd q (by decide))
    refine lv_aload_n C.x C.b dX1_readIfThere_65 rfl (lv_at hl 0 rfl) ?_
    refine lv_bipush (v := nI 119) C.x C.b dX1_readIfThere_66 (by decide) ?_
    refine kV (As := [.int (nI 119)]) (isC := [0, 1, 2]) (isR := []) (wr := []) C hK hH (c_take l htr D H.size h0 tx dr t n a f0 f1 f2 f3 f4 f5 f6 f7 f8 f9 119 hn (by omega) ht (by omega)) ⟨rfl, rfl, rfl, rfl, by decide⟩ 0 rfl rfl tw_370 tw_372 ts_7 tw_2 kX1_take ⟨by decide +kernel, by decide +kernel, (by decide +kernel : (parseMethodDescriptor yX1_take.desc).map (fun d => d.parameters.length) = some 1)⟩ ⟨(Nat.le_of_ble_eq_true rfl), (Nat.le_of_ble_eq_true rfl)⟩ hl.1 (Nat.le_of_ble_eq_true rfl) dX1_readIfThere_68 ⟨(Nat.le_of_ble_eq_true rfl), (Nat.le_of_ble_eq_true rfl)⟩ (fun v9 w9 H locs hN hH => ?_) (fun _ _ _ _ _ _ h => False.elim h)
    rcases hN with ⟨k_68, kl_68, rfl, rfl⟩ | ⟨k_68, rfl, rfl⟩
    · have hH : Hp D A s ([(h0, .inr (1, [.ref tx, .int (nI n), .int (nI (a + 1)), .ref dr])), (tx, .inl (D.1 10, 40, .inl (fun j => nI (t j)))), (dr, .inr (0, [.int (nI f0), .int (nI f1), .int (nI f2), .int (nI f3), .int (nI f4), .int (nI f5), .int (bI f6), .int (nI f7), .int (oI f8), .int (oI f9)]))]) H locs := hH
      refine W.eq (g2 := F0 m 71 ls [.int (nI 1), .ref dr]) rfl ?_
      refine vn_if_eq (tgt := 78) C.x C.b dX1_readIfThere_71 (by decide) (by omega) (fun q => absurd q (by decide)) (fun _ => ?_)
      refine lv_iconst (v := nI 2) C.x C.b dX1_readIfThere_74 (by decide) ?_
      refine lv_goto (tgt := 79) C.x C.b dX1_readIfThere_75 (by decide) ?_
      refine gPutN (v := .int (nI 2)) (ws' := [(h0, .inr (1, [.ref tx, .int (nI n), .int (nI (a + 1)), .ref dr])), (tx, .inl (D.1 10, 40, .inl (fun j => nI (t j)))), (dr, .inr (0, [.int (nI f0), .int (nI f1), .int (nI f2), .int (nI f3), .int (nI f4), .int (nI 2), .int (bI f6), .int (nI f7), .int (oI f8), .int (oI f9)]))]) C hK hH 2 5 tyX0 tyX0_ok nmX0 rfl rfl inX0 (by decide) (nwl_of tn_50 rfl) rfl rfl rfl (Nat.le_of_ble_eq_true rfl) rfl dX1_readIfThere_79 (fun H locs hH => ?_)
      refine lv_iconst (v := nI 1) C.x C.b dX1_readIfThere_82 (by decide) ?_
      exact rZ C hr (by decide) hH (Or.inr (Or.inl ⟨k_55, k_68, kl_68, rfl, rfl⟩)) (Nat.le_of_ble_eq_true rfl) (Nat.le_of_ble_eq_true rfl) dX1_readIfThere_83
    · have hH : Hp D A s ([(h0, .inr (1, [.ref tx, .int (nI n), .int (nI a), .ref dr])), (tx, .inl (D.1 10, 40, .inl (fun j => nI (t j)))), (dr, .inr (0, [.int (nI f0), .int (nI f1), .int (nI f2), .int (nI f3), .int (nI f4), .int (nI f5), .int (bI f6), .int (nI f7), .int (oI f8), .int (oI f9)]))]) H locs := hH
      refine W.eq (g2 := F0 m 71 ls [.int (nI 0), .ref dr]) rfl ?_
      refine vn_if_eq (tgt := 78) C.x C.b dX1_readIfThere_71 (by decide) (by omega) (fun _ => ?_) (fun q => absurd q (by decide))
      refine lv_iconst (v := nI 0) C.x C.b dX1_readIfThere_78 (by decide) ?_
      refine gPutN (v := .int (nI 0)) (ws' := [(h0, .inr (1, [.ref tx, .int (nI n), .int (nI a), .ref dr])), (tx, .inl (D.1 10, 40, .inl (fun j => nI (t j)))), (dr, .inr (0, [.int (nI f0), .int (nI f1), .int (nI f2), .int (nI f3), .int (nI f4), .int (nI 0), .int (bI f6), .int (nI f7), .int (oI f8), .int (oI f9)]))]) C hK hH 2 5 tyX0 tyX0_ok nmX0 rfl rfl inX0 (by decide) (nwl_of tn_50 rfl) rfl rfl rfl (Nat.le_of_ble_eq_true rfl) rfl dX1_readIfThere_79 (fun H locs hH => ?_)
      refine lv_iconst (v := nI 1) C.x C.b dX1_readIfThere_82 (by decide) ?_
      exact rZ C hr (by decide) hH (Or.inr (Or.inr ⟨k_55, k_68, rfl, rfl⟩)) (Nat.le_of_ble_eq_true rfl) (Nat.le_of_ble_eq_true rfl) dX1_readIfThere_83
set_option maxHeartbeats 4000000 in
set_option maxRecDepth 100000 in
theorem c_rit3 (l : Launch) (htr : l.stackTraces = false) (D : va_G) (sz : Nat) (h0 tx dr : Nat) (t : Nat → Nat) (n a : Nat) (f0 f1 f2 f3 f4 f5 : Nat) (f6 : Bool) (f7 : Nat) (hn : n ≤ 40) (ha : a ≤ n) (ht : ∀ j, t j < 128) : Ct l yX1_readIfThere wX1_readIfThere { frames := 5, cells := 0, slots := 0, locals := 111 } D ([(h0, .inr (1, [.ref tx, .int (nI n), .int (nI a), .ref dr])), (tx, .inl (D.1 10, 40, .inl (fun j => nI (t j)))), (dr, .inr (0, [.int (nI f0), .int (nI f1), .int (nI f2), .int (nI f3), .int (nI f4), .int (nI f5), .int (bI f6), .int (nI f7), .int (oI none), .int (oI none)]))]) [.ref h0, .int (nI 3)] sz (fun v w => (gl t n a = 0 ∧ v = some (.int (nI 1)) ∧ w = [(h0, .inr (1, [.ref tx, .int (nI n), .int (nI a), .ref dr])), (tx, .inl (D.1 10, 40, .inl (fun j => nI (t j)))), (dr, .inr (0, [.int (nI f0), .int (nI f1), .int (nI f2), .int (nI f3), .int (nI f4), .int (nI f5), .int (bI f6), .int (nI 0), .int (oI none), .int (oI none)]))]) ∨ (∃ q, gl t n a ≠ 0 ∧ gg t n (a + 1) (gl t n a) = .inr q ∧ a < q.1 ∧ q.1 ≤ n ∧ v = some (.int (nI 1)) ∧ w = [(h0, .inr (1, [.ref tx, .int (nI n), .int (nI q.1), .ref dr])), (tx, .inl (D.1 10, 40, .inl (fun j => nI (t j)))), (dr, .inr (0, [.int (nI f0), .int (nI f1), .int (nI f2), .int (nI f3), .int (nI f4), .int (nI f5), .int (bI f6), .int (nI (gl t n a)), .int (oI q.2.1), .int (oI q.2.2)]))]) ∨ (∃ a9 g8 g9, gl t n a ≠ 0 ∧ gg t n (a + 1) (gl t n a) = .inl a9 ∧ a9 ≤ n ∧ v = some (.int (nI 0)) ∧ w = [(h0, .inr (1, [.ref tx, .int (nI n), .int (nI a9), .ref dr])), (tx, .inl (D.1 10, 40, .inl (fun j => nI (t j)))), (dr, .inr (0, [.int (nI f0), .int (nI f1), .int (nI f2), .int (nI f3), .int (nI f4), .int (nI f5), .int (bI f6), .int (nI (gl t n a)), .int (oI g8), .int (oI g9)]))])) (nox) := by
  refine Ct.of (cc := cX1_readIfThere) (nL := 2) (ret := (some .boolean)) (own := RX1) htr (by decide) rfl (Nat.le_of_ble_eq_true rfl) ?_
  intro p e s m args below meth c A C hr hK H locs hH ls hl
  have hl : lv_has ls 2 [(0, .ref h0), (1, .int (nI 3))] := hl
  refine lv_iload_n C.x C.b dX1_readIfThere_0 rfl (lv_at hl 1 rfl) ?_
  refine lv_tableOut (tgt := 84) C.x C.b dX1_readIfThere_1 (by decide) (by decide) ?_
  refine lv_aload_n C.x C.b dX1_readIfThere_84 rfl (lv_at hl 0 rfl) ?_
  refine kV (As := []) (isC := [0, 1, 2]) (isR := []) (wr := []) C hK hH (c_readGoing l htr D H.size h0 tx dr t n a f0 f1 f2 f3 f4 f5 f6 f7 hn (by omega) ht) ⟨rfl, rfl, rfl, rfl, by decide⟩ 0 rfl rfl tw_394 tw_396 ts_13 tw_2 kX1_readGoing ⟨by decide +kernel, by decide +kernel, (by decide +kernel : (parseMethodDescriptor yX1_readGoing.desc).map (fun d => d.parameters.length) = some 0)⟩ ⟨(Nat.le_of_ble_eq_true rfl), (Nat.le_of_ble_eq_true rfl)⟩ hl.1 (Nat.le_of_ble_eq_true rfl) dX1_readIfThere_85 ⟨(Nat.le_of_ble_eq_true rfl), (Nat.le_of_ble_eq_true rfl)⟩ (fun v9 w9 H locs hN hH => ?_) (fun _ _ _ _ _ _ h => False.elim h)
  rcases hN with ⟨hg_85, rfl, rfl⟩ | ⟨q_85, hg_85, hq_85, ka_85, kl_85, rfl, rfl⟩ | ⟨a9_85, g8_85, g9_85, hg_85, hq_85, kl_85, rfl, rfl⟩
  · have hH : Hp D A s ([(h0, .inr (1, [.ref tx, .int (nI n), .int (nI a), .ref dr])), (tx, .inl (D.1 10, 40, .inl (fun j => nI (t j)))), (dr, .inr (0, [.int (nI f0), .int (nI f1), .int (nI f2), .int (nI f3), .int (nI f4), .int (nI f5), .int (bI f6), .int (nI 0), .int (oI none), .int (oI none)]))]) H locs := hH
    refine W.eq (g2 := F0 m 88 ls [.int (nI 1)]) rfl ?_
    exact rZ C hr (by decide) hH (Or.inl ⟨hg_85, rfl, rfl⟩) (Nat.le_of_ble_eq_true rfl) (Nat.le_of_ble_eq_true rfl) dX1_readIfThere_88
  · have hH : Hp D A s ([(h0, .inr (1, [.ref tx, .int (nI n), .int (nI q_85.1), .ref dr])), (tx, .inl (D.1 10, 40, .inl (fun j => nI (t j)))), (dr, .inr (0, [.int (nI f0), .int (nI f1), .int (nI f2), .int (nI f3), .int (nI f4), .int (nI f5), .int (bI f6), .int (nI (gl t n a)), .int (oI q_85.2.1), .int (oI q_85.2.2)]))]) H locs := hH
    refine W.eq (g2 := F0 m 88 ls [.int (nI 1)]) rfl ?_
    exact rZ C hr (by decide) hH (Or.inr (Or.inl ⟨q_85, hg_85, hq_85, ka_85, kl_85, rfl, rfl⟩)) (Nat.le_of_ble_eq_true rfl) (Nat.le_of_ble_eq_true rfl) dX1_readIfThere_88
  · have hH : Hp D A s ([(h0, .inr (1, [.ref tx, .int (nI n), .int (nI a9_85), .ref dr])), (tx, .inl (D.1 10, 40, .inl (fun j => nI (t j)))), (dr, .inr (0, [.int (nI f0), .int (nI f1), .int (nI f2), .int (nI f3), .int (nI f4), .int (nI f5), .int (bI f6), .int (nI (gl t n a)), .int (oI g8_85), .int (oI g9_85)]))]) H locs := hH
    refine W.eq (g2 := F0 m 88 ls [.int (nI 0)]) rfl ?_
    exact rZ C hr (by decide) hH (Or.inr (Or.inr ⟨a9_85, g8_85, g9_85, hg_85, hq_85, kl_85, rfl, rfl⟩)) (Nat.le_of_ble_eq_true rfl) (Nat.le_of_ble_eq_true rfl) dX1_readIfThere_88
set_option maxHeartbeats 4000000 in
set_option maxRecDepth 100000 in
theorem c_read (l : Launch) (htr : l.stackTraces = false) (D : va_G) (sz : Nat) (h0 tx d0 : Nat) (t : Nat → Nat) (n a : Nat) (hn : n ≤ 40) (ht : ∀ j, t j < 128) : Ct l yX1_read wX1_read { frames := 9, cells := 1, slots := 10, locals := 194 } D ([(h0, .inr (1, [.ref tx, .int (nI n), .int (nI a), .ref d0])), (tx, .inl (D.1 10, 40, .inl (fun j => nI (t j))))]) [.ref h0] sz (fun v w => (∃ (q a9 : Nat) (f0 f1 f2 f3 f4 f5 : Nat) (f6 : Bool) (f7 : Nat) (f8 f9 : Option Nat), RDT t n = .inr (f0, f1, f2, f3, f4, f5, f6, f7, f8, f9) ∧ v = some (.ref q) ∧ w = [(h0, .inr (1, [.ref tx, .int (nI n), .int (nI a9), .ref q])), (tx, .inl (D.1 10, 40, .inl (fun j => nI (t j)))), (q, .inr (0, [.int (nI f0), .int (nI f1), .int (nI f2), .int (nI f3), .int (nI f4), .int (nI f5), .int (bI f6), .int (nI f7), .int (oI f8), .int (oI f9)]))]) ∨ (∃ (q a9 : Nat) (f0 f1 f2 f3 f4 f5 : Nat) (f6 : Bool) (f7 : Nat) (f8 f9 : Option Nat), RDT t n = .inl a9 ∧ a9 ≤ n ∧ v = some .null ∧ w = [(h0, .inr (1, [.ref tx, .int (nI n), .int (nI a9), .ref q])), (tx, .inl (D.1 10, 40, .inl (fun j => nI (t j)))), (q, .inr (0, [.int (nI f0), .int (nI f1), .int (nI f2), .int (nI f3), .int (nI f4), .int (nI f5), .int (bI f6), .int (nI f7), .int (oI f8), .int (oI f9)]))])) (nox) := by
  refine Ct.of (cc := cX1_read) (nL := 3) (ret := (some (.object "MicroMachine$Word"))) (own := RX1) htr (by decide) rfl (Nat.le_of_ble_eq_true rfl) ?_
  intro p e s m args below meth c A C hr hK H locs hH ls hl
  have hl : lv_has ls 3 [(0, .ref h0)] := hl
  refine lv_aload_n C.x C.b dX1_read_0 rfl (lv_at hl 0 rfl) ?_
  refine lv_iconst (v := nI 0) C.x C.b dX1_read_1 (by decide) ?_
  refine gPut (v := .int (nI 0)) (ws' := [(h0, .inr (1, [.ref tx, .int (nI n), .int (nI 0), .ref d0])), (tx, .inl (D.1 10, 40, .inl (fun j => nI (t j))))]) C hK hH 0 2 tyX1 tyX1_ok nmX1 rfl rfl inX1 (by decide) tw_87 rfl rfl rfl (Nat.le_of_ble_eq_true rfl) rfl dX1_read_2 (fun H locs hH => ?_)
  refine lv_aload_n C.x C.b dX1_read_5 rfl (lv_at hl 0 rfl) ?_
  refine gNew (ci := 0) (fs := [.int 0, .int 0, .int 0, .int 0, .int 0, .int 0, .int 0, .int 0, .int 0, .int 0]) C hK hH tyX0 tyX0_ok rfl inX0 tw_32 tw_33 tw_3 (by intro j hj; match j, hj with | 0, _ => rfl | 1, _ => rfl | 2, _ => rfl | 3, _ => rfl | 4, _ => rfl | 5, _ => rfl | 6, _ => rfl | 7, _ => rfl | 8, _ => rfl | 9, _ => rfl | j + 10, h => omega) (Nat.le_of_ble_eq_true rfl) (Nat.le_of_ble_eq_true rfl) dX1_read_6 (fun q_1 H hH => ?_)
  have hH : Hp D A s ([(h0, .inr (1, [.ref tx, .int (nI n), .int (nI 0), .ref d0])), (tx, .inl (D.1 10, 40, .inl (fun j => nI (t j)))), (q_1, .inr (0, [.int 0, .int 0, .int 0, .int 0, .int 0, .int 0, .int 0, .int 0, .int 0, .int 0]))]) H locs := hH
  refine lv_dup C.x C.b dX1_read_9 rfl ?_
  refine kIN (As := []) (isC := [2]) (isR := [0, 1]) (wr := [(h0, .inr (1, [.ref tx, .int (nI n), .int (nI 0), .ref d0])), (tx, .inl (D.1 10, 40, .inl (fun j => nI (t j))))]) C hK hH (c_Word l htr D H.size q_1) ⟨rfl, rfl, rfl, rfl, by decide⟩ rfl (nwl_of tn_34 rfl) tw_35 tw_3 kX0_init ⟨by decide +kernel, by decide +kernel, (by decide +kernel : (parseMethodDescriptor yX0_init.desc).map (fun d => d.parameters.length) = some 0)⟩ ⟨(Nat.le_of_ble_eq_true rfl), (Nat.le_of_ble_eq_true rfl)⟩ hl.1 (Nat.le_of_ble_eq_true rfl) dX1_read_10 ⟨(Nat.le_of_ble_eq_true rfl), (Nat.le_of_ble_eq_true rfl)⟩ (fun v9 w9 H locs hN hH => ?_)
  obtain ⟨rfl, rfl⟩ := hN
  have hH : Hp D A s ([(h0, .inr (1, [.ref tx, .int (nI n), .int (nI 0), .ref d0])), (tx, .inl (D.1 10, 40, .inl (fun j => nI (t j)))), (q_1, .inr (0, [.int (nI 0), .int (nI 0), .int (nI 0), .int (nI 0), .int (nI 0), .int (nI 0), .int (bI false), .int (nI 0), .int (oI none), .int (oI none)]))]) H locs := hH
  refine W.eq (g2 := F0 m 13 ls [.ref q_1, .ref h0]) rfl ?_
  refine gPut (v := .ref q_1) (ws' := [(h0, .inr (1, [.ref tx, .int (nI n), .int (nI 0), .ref q_1])), (tx, .inl (D.1 10, 40, .inl (fun j => nI (t j)))), (q_1, .inr (0, [.int (nI 0), .int (nI 0), .int (nI 0), .int (nI 0), .int (nI 0), .int (nI 0), .int (bI false), .int (nI 0), .int (oI none), .int (oI none)]))]) C hK hH 0 3 tyX1 tyX1_ok nmX1 rfl rfl inX1 (by decide) tw_89 rfl rfl rfl (Nat.le_of_ble_eq_true rfl) rfl dX1_read_13 (fun H locs hH => ?_)
  refine lv_iconst (v := nI 0) C.x C.b dX1_read_16 (by decide) ?_
  refine lv_istore_n (lv' := [(1, .int (nI 0)), (0, .ref h0)]) C.x C.b dX1_read_17 rfl hl (by decide) rfl (fun ls hl => ?_)
  have L4 : ∀ (a : Nat) (f0 : Nat) (f1 : Nat) (f2 : Nat) (f3 : Nat) (f4 : Nat) (f5 : Nat) (f6 : Bool) (f7 : Nat) (f8 : Option Nat) (f9 : Option Nat) (ha : a ≤ n) (hR : (Sum.inl a : RR) = RDT t n) (H : Heap) (locs : List Loc), Hp D A s ([(h0, .inr (1, [.ref tx, .int (nI n), .int (nI a), .ref q_1])), (tx, .inl (D.1 10, 40, .inl (fun j => nI (t j)))), (q_1, .inr (0, [.int (nI f0), .int (nI f1), .int (nI f2), .int (nI f3), .int (nI f4), .int (nI f5), .int (bI f6), .int (nI f7), .int (oI f8), .int (oI f9)]))]) H locs → ∀ ls : Array Slot, lv_has ls 3 [(1, .int (nI 4)), (0, .ref h0)] → W p l e { frames := 9, cells := 1, slots := 10, locals := 194 } s m args below meth c H locs 1 10 (Qf below args s D A (fun v w => (∃ (q a9 : Nat) (f0 f1 f2 f3 f4 f5 : Nat) (f6 : Bool) (f7 : Nat) (f8 f9 : Option Nat), RDT t n = .inr (f0, f1, f2, f3, f4, f5, f6, f7, f8, f9) ∧ v = some (.ref q) ∧ w = [(h0, .inr (1, [.ref tx, .int (nI n), .int (nI a9), .ref q])), (tx, .inl (D.1 10, 40, .inl (fun j => nI (t j)))), (q, .inr (0, [.int (nI f0), .int (nI f1), .int (nI f2), .int (nI f3), .int (nI f4), .int (nI f5), .int (bI f6), .int (nI f7), .int (oI f8), .int (oI f9)]))]) ∨ (∃ (q a9 : Nat) (f0 f1 f2 f3 f4 f5 : Nat) (f6 : Bool) (f7 : Nat) (f8 f9 : Option Nat), RDT t n = .inl a9 ∧ a9 ≤ n ∧ v = some .null ∧ w = [(h0, .inr (1, [.ref tx, .int (nI n), .int (nI a9), .ref q])), (tx, .inl (D.1 10, 40, .inl (fun j => nI (t j)))), (q, .inr (0, [.int (nI f0), .int (nI f1), .int (nI f2), .int (nI f3), .int (nI f4), .int (nI f5), .int (bI f6), .int (nI f7), .int (oI f8), .int (oI f9)]))])) (nox) { frames := 9, cells := 1, slots := 10, locals := 194 }) (F0 m 18 ls []) := by
    intro a f0 f1 f2 f3 f4 f5 f6 f7 f8 f9 ha hR H locs hH ls hl
    refine lv_iload_n C.x C.b dX1_read_18 rfl (lv_at hl 0 rfl) ?_
    refine lv_iconst (v := nI 3) C.x C.b dX1_read_19 (by decide) ?_
    refine vn_icmp_gt (tgt := 97) C.x C.b dX1_read_20 (by decide) (by omega) (by omega) (fun _ => ?_) (fun q => absurd q (by decide))
    refine lv_null C.x C.b dX1_read_97 ?_
    exact rA (r := none) C hr (Or.inl ⟨_, rfl⟩) hH (Or.inr ⟨q_1, a, f0, f1, f2, f3, f4, f5, f6, f7, f8, f9, hR.symm, by omega, rfl, rfl⟩) (Nat.le_of_ble_eq_true rfl) (Nat.le_of_ble_eq_true rfl) dX1_read_98
  have L3 : ∀ (a : Nat) (f0 : Nat) (f1 : Nat) (f2 : Nat) (f3 : Nat) (f4 : Nat) (f5 : Nat) (f6 : Bool) (ha : a ≤ n) (hR : r3 t n a f0 f1 f2 f3 f4 f5 f6 = RDT t n) (H : Heap) (locs : List Loc), Hp D A s ([(h0, .inr (1, [.ref tx, .int (nI n), .int (nI a), .ref q_1])), (tx, .inl (D.1 10, 40, .inl (fun j => nI (t j)))), (q_1, .inr (0, [.int (nI f0), .int (nI f1), .int (nI f2), .int (nI f3), .int (nI f4), .int (nI f5), .int (bI f6), .int (nI 0), .int (oI none), .int (oI none)]))]) H locs → ∀ ls : Array Slot, lv_has ls 3 [(1, .int (nI 3)), (0, .ref h0)] → W p l e { frames := 9, cells := 1, slots := 10, locals := 194 } s m args below meth c H locs 1 10 (Qf below args s D A (fun v w => (∃ (q a9 : Nat) (f0 f1 f2 f3 f4 f5 : Nat) (f6 : Bool) (f7 : Nat) (f8 f9 : Option Nat), RDT t n = .inr (f0, f1, f2, f3, f4, f5, f6, f7, f8, f9) ∧ v = some (.ref q) ∧ w = [(h0, .inr (1, [.ref tx, .int (nI n), .int (nI a9), .ref q])), (tx, .inl (D.1 10, 40, .inl (fun j => nI (t j)))), (q, .inr (0, [.int (nI f0), .int (nI f1), .int (nI f2), .int (nI f3), .int (nI f4), .int (nI f5), .int (bI f6), .int (nI f7), .int (oI f8), .int (oI f9)]))]) ∨ (∃ (q a9 : Nat) (f0 f1 f2 f3 f4 f5 : Nat) (f6 : Bool) (f7 : Nat) (f8 f9 : Option Nat), RDT t n = .inl a9 ∧ a9 ≤ n ∧ v = some .null ∧ w = [(h0, .inr (1, [.ref tx, .int (nI n), .int (nI a9), .ref q])), (tx, .inl (D.1 10, 40, .inl (fun j => nI (t j)))), (q, .inr (0, [.int (nI f0), .int (nI f1), .int (nI f2), .int (nI f3), .int (nI f4), .int (nI f5), .int (bI f6), .int (nI f7), .int (oI f8), .int (oI f9)]))])) (nox) { frames := 9, cells := 1, slots := 10, locals := 194 }) (F0 m 18 ls []) := by
    intro a f0 f1 f2 f3 f4 f5 f6 ha hR H locs hH ls hl
    refine lv_iload_n C.x C.b dX1_read_18 rfl (lv_at hl 0 rfl) ?_
    refine lv_iconst (v := nI 3) C.x C.b dX1_read_19 (by decide) ?_
    refine vn_icmp_gt (tgt := 97) C.x C.b dX1_read_20 (by decide) (by omega) (by omega) (fun q => absurd q (by decide)) (fun _ => ?_)
    refine lv_aload_n C.x C.b dX1_read_23 rfl (lv_at hl 1 rfl) ?_
    refine gGet (v := .int (nI a)) C hK hH 0 2 rfl rfl inX1 (by decide) tw_87 rfl dX1_read_24 ?_
    refine lv_istore_n (lv' := [(2, .int (nI a)), (1, .int (nI 3)), (0, .ref h0)]) C.x C.b dX1_read_27 rfl hl (by decide) rfl (fun ls hl => ?_)
    refine lv_aload_n C.x C.b dX1_read_28 rfl (lv_at hl 2 rfl) ?_
    refine lv_iload_n C.x C.b dX1_read_29 rfl (lv_at hl 1 rfl) ?_
    refine kV (As := [.int (nI 3)]) (isC := [0, 1, 2]) (isR := []) (wr := []) C hK hH (c_rit3 l htr D H.size h0 tx q_1 t n a f0 f1 f2 f3 f4 f5 f6 0 hn (by omega) ht) ⟨rfl, rfl, rfl, rfl, by decide⟩ 0 rfl rfl tw_267 tw_269 ts_3 tw_2 kX1_readIfThere ⟨by decide +kernel, by decide +kernel, (by decide +kernel : (parseMethodDescriptor yX1_readIfThere.desc).map (fun d => d.parameters.length) = some 1)⟩ ⟨(Nat.le_of_ble_eq_true rfl), (Nat.le_of_ble_eq_true rfl)⟩ hl.1 (Nat.le_of_ble_eq_true rfl) dX1_read_30 ⟨(Nat.le_of_ble_eq_true rfl), (Nat.le_of_ble_eq_true rfl)⟩ (fun v9 w9 H locs hN hH => ?_) (fun _ _ _ _ _ _ h => False.elim h)
    rcases hN with ⟨hg_30, rfl, rfl⟩ | ⟨q_30, hg_30, hq_30, ka_30, kl_30, rfl, rfl⟩ | ⟨a9_30, g8_30, g9_30, hg_30, hq_30, kl_30, rfl, rfl⟩
    · have hH : Hp D A s ([(h0, .inr (1, [.ref tx, .int (nI n), .int (nI a), .ref q_1])), (tx, .inl (D.1 10, 40, .inl (fun j => nI (t j)))), (q_1, .inr (0, [.int (nI f0), .int (nI f1), .int (nI f2), .int (nI f3), .int (nI f4), .int (nI f5), .int (bI f6), .int (nI 0), .int (oI none), .int (oI none)]))]) H locs := hH
      refine W.eq (g2 := F0 m 33 ls [.int (nI 1)]) rfl ?_
      refine vn_if_ne (tgt := 38) C.x C.b dX1_read_33 (by decide) (by omega) (fun _ => ?_) (fun q => absurd q (by decide))
      refine lv_aload_n C.x C.b dX1_read_38 rfl (lv_at hl 2 rfl) ?_
      refine gGet (v := .int (nI a)) C hK hH 0 2 rfl rfl inX1 (by decide) tw_87 rfl dX1_read_39 ?_
      refine lv_iload_n C.x C.b dX1_read_42 rfl (lv_at hl 0 rfl) ?_
      refine vn_icmp_le (tgt := 91) C.x C.b dX1_read_43 (by decide) (by omega) (by omega) (fun _ => ?_) (fun q => absurd q (by omega))
      refine lv_iinc (v := (nI 4)) (lv' := [(1, .int (nI 4)), (2, .int (nI a)), (0, .ref h0)]) C.x C.b dX1_read_91 hl (k := 1) rfl (by decide) (by decide) rfl (fun ls hl => ?_)
      refine lv_goto (tgt := 18) C.x C.b dX1_read_94 (by decide) ?_
      exact L4 a f0 f1 f2 f3 f4 f5 f6 0 none none (by omega) (by rw [← hR]; exact (if_pos hg_30).symm) _ _ hH ls (lv_sub hl [0, 2] rfl)
    · have hH : Hp D A s ([(h0, .inr (1, [.ref tx, .int (nI n), .int (nI q_30.1), .ref q_1])), (tx, .inl (D.1 10, 40, .inl (fun j => nI (t j)))), (q_1, .inr (0, [.int (nI f0), .int (nI f1), .int (nI f2), .int (nI f3), .int (nI f4), .int (nI f5), .int (bI f6), .int (nI (gl t n a)), .int (oI q_30.2.1), .int (oI q_30.2.2)]))]) H locs := hH
      refine W.eq (g2 := F0 m 33 ls [.int (nI 1)]) rfl ?_
      refine vn_if_ne (tgt := 38) C.x C.b dX1_read_33 (by decide) (by omega) (fun _ => ?_) (fun q => absurd q (by decide))
      refine lv_aload_n C.x C.b dX1_read_38 rfl (lv_at hl 2 rfl) ?_
      refine gGet (v := .int (nI q_30.1)) C hK hH 0 2 rfl rfl inX1 (by decide) tw_87 rfl dX1_read_39 ?_
      refine lv_iload_n C.x C.b dX1_read_42 rfl (lv_at hl 0 rfl) ?_
      refine vn_icmp_le (tgt := 91) C.x C.b dX1_read_43 (by decide) (by omega) (by omega) (fun q => absurd q (by omega)) (fun c_43 => ?_)
      refine lv_aload_n C.x C.b dX1_read_46 rfl (lv_at hl 2 rfl) ?_
      refine gGet (v := .ref q_1) C hK hH 0 3 rfl rfl inX1 (by decide) tw_89 rfl dX1_read_47 ?_
      refine lv_dup C.x C.b dX1_read_50 rfl ?_
      refine gGetN (v := .int (nI f0)) C hK hH 2 0 rfl rfl inX0 (by decide) (nwl_of tn_38 rfl) rfl dX1_read_51 ?_
      refine lv_iconst (v := nI 1) C.x C.b dX1_read_54 (by decide) ?_
      refine lv_iadd C.x C.b dX1_read_55 ?_
      refine vt_top (nI_add _ _) ?_
      refine gPutN (v := .int (nI (f0 + 1))) (ws' := [(h0, .inr (1, [.ref tx, .int (nI n), .int (nI q_30.1), .ref q_1])), (tx, .inl (D.1 10, 40, .inl (fun j => nI (t j)))), (q_1, .inr (0, [.int (nI (f0 + 1)), .int (nI f1), .int (nI f2), .int (nI f3), .int (nI f4), .int (nI f5), .int (bI f6), .int (nI (gl t n a)), .int (oI q_30.2.1), .int (oI q_30.2.2)]))]) C hK hH 2 0 tyX0 tyX0_ok nmX0 rfl rfl inX0 (by decide) (nwl_of tn_38 rfl) rfl rfl rfl (Nat.le_of_ble_eq_true rfl) rfl dX1_read_56 (fun H locs hH => ?_)
      refine lv_aload_n C.x C.b dX1_read_59 rfl (lv_at hl 2 rfl) ?_
      refine gGet (v := .int (nI q_30.1)) C hK hH 0 2 rfl rfl inX1 (by decide) tw_87 rfl dX1_read_60 ?_
      refine lv_aload_n C.x C.b dX1_read_63 rfl (lv_at hl 2 rfl) ?_
      refine gGet (v := .int (nI n)) C hK hH 0 1 rfl rfl inX1 (by decide) tw_85 rfl dX1_read_64 ?_
      refine vn_icmp_ne (tgt := 75) C.x C.b dX1_read_67 (by decide) (by omega) (by omega) (fun c_67 => ?_) (fun c_67 => ?_)
      · refine lv_iload_n C.x C.b dX1_read_75 rfl (lv_at hl 1 rfl) ?_
        refine lv_iconst (v := nI 3) C.x C.b dX1_read_76 (by decide) ?_
        refine vn_icmp_eq (tgt := 89) C.x C.b dX1_read_77 (by decide) (by omega) (by omega) (fun _ => ?_) (fun q => absurd q (by decide))
        refine lv_null C.x C.b dX1_read_89 ?_
        exact rA (r := none) C hr (Or.inl ⟨_, rfl⟩) hH (Or.inr ⟨q_1, q_30.1, f0 + 1, f1, f2, f3, f4, f5, f6, gl t n a, q_30.2.1, q_30.2.2, by rw [← hR]; simp only [r3, if_neg hg_30, hq_30, if_neg c_67], by omega, rfl, rfl⟩) (Nat.le_of_ble_eq_true rfl) (Nat.le_of_ble_eq_true rfl) dX1_read_90
      · refine lv_aload_n C.x C.b dX1_read_70 rfl (lv_at hl 2 rfl) ?_
        refine gGet (v := .ref q_1) C hK hH 0 3 rfl rfl inX1 (by decide) tw_89 rfl dX1_read_71 ?_
        exact rA (r := some q_1) C hr (Or.inl ⟨_, rfl⟩) hH (Or.inl ⟨q_1, q_30.1, f0 + 1, f1, f2, f3, f4, f5, f6, gl t n a, q_30.2.1, q_30.2.2, by rw [← hR]; simp only [r3, if_neg hg_30, hq_30, if_pos c_67], rfl, rfl⟩) (Nat.le_of_ble_eq_true rfl) (Nat.le_of_ble_eq_true rfl) dX1_read_74
    · have hH : Hp D A s ([(h0, .inr (1, [.ref tx, .int (nI n), .int (nI a9_30), .ref q_1])), (tx, .inl (D.1 10, 40, .inl (fun j => nI (t j)))), (q_1, .inr (0, [.int (nI f0), .int (nI f1), .int (nI f2), .int (nI f3), .int (nI f4), .int (nI f5), .int (bI f6), .int (nI (gl t n a)), .int (oI g8_30), .int (oI g9_30)]))]) H locs := hH
      refine W.eq (g2 := F0 m 33 ls [.int (nI 0)]) rfl ?_
      refine vn_if_ne (tgt := 38) C.x C.b dX1_read_33 (by decide) (by omega) (fun q => absurd q (by decide)) (fun _ => ?_)
      refine lv_null C.x C.b dX1_read_36 ?_
      exact rA (r := none) C hr (Or.inl ⟨_, rfl⟩) hH (Or.inr ⟨q_1, a9_30, f0, f1, f2, f3, f4, f5, f6, gl t n a, g8_30, g9_30, by rw [← hR]; simp only [r3, if_neg hg_30, hq_30], by omega, rfl, rfl⟩) (Nat.le_of_ble_eq_true rfl) (Nat.le_of_ble_eq_true rfl) dX1_read_37
  have L2 : ∀ (a : Nat) (f0 : Nat) (f1 : Nat) (f2 : Nat) (f3 : Nat) (f4 : Nat) (f6 : Bool) (ha : a ≤ n) (hR : r2 t n a f0 f1 f2 f3 f4 f6 = RDT t n) (H : Heap) (locs : List Loc), Hp D A s ([(h0, .inr (1, [.ref tx, .int (nI n), .int (nI a), .ref q_1])), (tx, .inl (D.1 10, 40, .inl (fun j => nI (t j)))), (q_1, .inr (0, [.int (nI f0), .int (nI f1), .int (nI f2), .int (nI f3), .int (nI f4), .int (nI 0), .int (bI f6), .int (nI 0), .int (oI none), .int (oI none)]))]) H locs → ∀ ls : Array Slot, lv_has ls 3 [(1, .int (nI 2)), (0, .ref h0)] → W p l e { frames := 9, cells := 1, slots := 10, locals := 194 } s m args below meth c H locs 1 10 (Qf below args s D A (fun v w => (∃ (q a9 : Nat) (f0 f1 f2 f3 f4 f5 : Nat) (f6 : Bool) (f7 : Nat) (f8 f9 : Option Nat), RDT t n = .inr (f0, f1, f2, f3, f4, f5, f6, f7, f8, f9) ∧ v = some (.ref q) ∧ w = [(h0, .inr (1, [.ref tx, .int (nI n), .int (nI a9), .ref q])), (tx, .inl (D.1 10, 40, .inl (fun j => nI (t j)))), (q, .inr (0, [.int (nI f0), .int (nI f1), .int (nI f2), .int (nI f3), .int (nI f4), .int (nI f5), .int (bI f6), .int (nI f7), .int (oI f8), .int (oI f9)]))]) ∨ (∃ (q a9 : Nat) (f0 f1 f2 f3 f4 f5 : Nat) (f6 : Bool) (f7 : Nat) (f8 f9 : Option Nat), RDT t n = .inl a9 ∧ a9 ≤ n ∧ v = some .null ∧ w = [(h0, .inr (1, [.ref tx, .int (nI n), .int (nI a9), .ref q])), (tx, .inl (D.1 10, 40, .inl (fun j => nI (t j)))), (q, .inr (0, [.int (nI f0), .int (nI f1), .int (nI f2), .int (nI f3), .int (nI f4), .int (nI f5), .int (bI f6), .int (nI f7), .int (oI f8), .int (oI f9)]))])) (nox) { frames := 9, cells := 1, slots := 10, locals := 194 }) (F0 m 18 ls []) := by
    intro a f0 f1 f2 f3 f4 f6 ha hR H locs hH ls hl
    refine lv_iload_n C.x C.b dX1_read_18 rfl (lv_at hl 0 rfl) ?_
    refine lv_iconst (v := nI 3) C.x C.b dX1_read_19 (by decide) ?_
    refine vn_icmp_gt (tgt := 97) C.x C.b dX1_read_20 (by decide) (by omega) (by omega) (fun q => absurd q (by decide)) (fun _ => ?_)
    refine lv_aload_n C.x C.b dX1_read_23 rfl (lv_at hl 1 rfl) ?_
    refine gGet (v := .int (nI a)) C hK hH 0 2 rfl rfl inX1 (by decide) tw_87 rfl dX1_read_24 ?_
    refine lv_istore_n (lv' := [(2, .int (nI a)), (1, .int (nI 2)), (0, .ref h0)]) C.x C.b dX1_read_27 rfl hl (by decide) rfl (fun ls hl => ?_)
    refine lv_aload_n C.x C.b dX1_read_28 rfl (lv_at hl 2 rfl) ?_
    refine lv_iload_n C.x C.b dX1_read_29 rfl (lv_at hl 1 rfl) ?_
    refine kV (As := [.int (nI 2)]) (isC := [0, 1, 2]) (isR := []) (wr := []) C hK hH (c_rit2 l htr D H.size h0 tx q_1 t n a f0 f1 f2 f3 f4 0 f6 0 none none hn (by omega) ht) ⟨rfl, rfl, rfl, rfl, by decide⟩ 0 rfl rfl tw_267 tw_269 ts_3 tw_2 kX1_readIfThere ⟨by decide +kernel, by decide +kernel, (by decide +kernel : (parseMethodDescriptor yX1_readIfThere.desc).map (fun d => d.parameters.length) = some 1)⟩ ⟨(Nat.le_of_ble_eq_true rfl), (Nat.le_of_ble_eq_true rfl)⟩ hl.1 (Nat.le_of_ble_eq_true rfl) dX1_read_30 ⟨(Nat.le_of_ble_eq_true rfl), (Nat.le_of_ble_eq_true rfl)⟩ (fun v9 w9 H locs hN hH => ?_) (fun _ _ _ _ _ _ h => False.elim h)
    rcases hN with ⟨ki_30, kl_30, rfl, rfl⟩ | ⟨ki_30, kj_30, kl_30, rfl, rfl⟩ | ⟨ki_30, kj_30, rfl, rfl⟩
    · have hH : Hp D A s ([(h0, .inr (1, [.ref tx, .int (nI n), .int (nI (a + 1)), .ref q_1])), (tx, .inl (D.1 10, 40, .inl (fun j => nI (t j)))), (q_1, .inr (0, [.int (nI f0), .int (nI f1), .int (nI f2), .int (nI f3), .int (nI f4), .int (nI 1), .int (bI f6), .int (nI 0), .int (oI none), .int (oI none)]))]) H locs := hH
      refine W.eq (g2 := F0 m 33 ls [.int (nI 1)]) rfl ?_
      refine vn_if_ne (tgt := 38) C.x C.b dX1_read_33 (by decide) (by omega) (fun _ => ?_) (fun q => absurd q (by decide))
      refine lv_aload_n C.x C.b dX1_read_38 rfl (lv_at hl 2 rfl) ?_
      refine gGet (v := .int (nI (a + 1))) C hK hH 0 2 rfl rfl inX1 (by decide) tw_87 rfl dX1_read_39 ?_
      refine lv_iload_n C.x C.b dX1_read_42 rfl (lv_at hl 0 rfl) ?_
      refine vn_icmp_le (tgt := 91) C.x C.b dX1_read_43 (by decide) (by omega) (by omega) (fun q => absurd q (by omega)) (fun c_43 => ?_)
      refine lv_aload_n C.x C.b dX1_read_46 rfl (lv_at hl 2 rfl) ?_
      refine gGet (v := .ref q_1) C hK hH 0 3 rfl rfl inX1 (by decide) tw_89 rfl dX1_read_47 ?_
      refine lv_dup C.x C.b dX1_read_50 rfl ?_
      refine gGetN (v := .int (nI f0)) C hK hH 2 0 rfl rfl inX0 (by decide) (nwl_of tn_38 rfl) rfl dX1_read_51 ?_
      refine lv_iconst (v := nI 1) C.x C.b dX1_read_54 (by decide) ?_
      refine lv_iadd C.x C.b dX1_read_55 ?_
      refine vt_top (nI_add _ _) ?_
      refine gPutN (v := .int (nI (f0 + 1))) (ws' := [(h0, .inr (1, [.ref tx, .int (nI n), .int (nI (a + 1)), .ref q_1])), (tx, .inl (D.1 10, 40, .inl (fun j => nI (t j)))), (q_1, .inr (0, [.int (nI (f0 + 1)), .int (nI f1), .int (nI f2), .int (nI f3), .int (nI f4), .int (nI 1), .int (bI f6), .int (nI 0), .int (oI none), .int (oI none)]))]) C hK hH 2 0 tyX0 tyX0_ok nmX0 rfl rfl inX0 (by decide) (nwl_of tn_38 rfl) rfl rfl rfl (Nat.le_of_ble_eq_true rfl) rfl dX1_read_56 (fun H locs hH => ?_)
      refine lv_aload_n C.x C.b dX1_read_59 rfl (lv_at hl 2 rfl) ?_
      refine gGet (v := .int (nI (a + 1))) C hK hH 0 2 rfl rfl inX1 (by decide) tw_87 rfl dX1_read_60 ?_
      refine lv_aload_n C.x C.b dX1_read_63 rfl (lv_at hl 2 rfl) ?_
      refine gGet (v := .int (nI n)) C hK hH 0 1 rfl rfl inX1 (by decide) tw_85 rfl dX1_read_64 ?_
      refine vn_icmp_ne (tgt := 75) C.x C.b dX1_read_67 (by decide) (by omega) (by omega) (fun c_67 => ?_) (fun c_67 => ?_)
      · refine lv_iload_n C.x C.b dX1_read_75 rfl (lv_at hl 1 rfl) ?_
        refine lv_iconst (v := nI 3) C.x C.b dX1_read_76 (by decide) ?_
        refine vn_icmp_eq (tgt := 89) C.x C.b dX1_read_77 (by decide) (by omega) (by omega) (fun q => absurd q (by decide)) (fun _ => ?_)
        refine lv_aload_n C.x C.b dX1_read_80 rfl (lv_at hl 2 rfl) ?_
        refine lv_bipush (v := nI 59) C.x C.b dX1_read_81 (by decide) ?_
        refine kV (As := [.int (nI 59)]) (isC := [0, 1, 2]) (isR := []) (wr := []) C hK hH (c_take l htr D H.size h0 tx q_1 t n (a + 1) (f0 + 1) f1 f2 f3 f4 1 f6 0 none none 59 hn (by omega) ht (by omega)) ⟨rfl, rfl, rfl, rfl, by decide⟩ 0 rfl rfl tw_370 tw_372 ts_7 tw_2 kX1_take ⟨by decide +kernel, by decide +kernel, (by decide +kernel : (parseMethodDescriptor yX1_take.desc).map (fun d => d.parameters.length) = some 1)⟩ ⟨(Nat.le_of_ble_eq_true rfl), (Nat.le_of_ble_eq_true rfl)⟩ hl.1 (Nat.le_of_ble_eq_true rfl) dX1_read_83 ⟨(Nat.le_of_ble_eq_true rfl), (Nat.le_of_ble_eq_true rfl)⟩ (fun v9 w9 H locs hN hH => ?_) (fun _ _ _ _ _ _ h => False.elim h)
        rcases hN with ⟨k_83, kl_83, rfl, rfl⟩ | ⟨k_83, rfl, rfl⟩
        · have hH : Hp D A s ([(h0, .inr (1, [.ref tx, .int (nI n), .int (nI (a + 1 + 1)), .ref q_1])), (tx, .inl (D.1 10, 40, .inl (fun j => nI (t j)))), (q_1, .inr (0, [.int (nI (f0 + 1)), .int (nI f1), .int (nI f2), .int (nI f3), .int (nI f4), .int (nI 1), .int (bI f6), .int (nI 0), .int (oI none), .int (oI none)]))]) H locs := hH
          refine W.eq (g2 := F0 m 86 ls [.int (nI 1)]) rfl ?_
          refine vn_if_ne (tgt := 91) C.x C.b dX1_read_86 (by decide) (by omega) (fun _ => ?_) (fun q => absurd q (by decide))
          refine lv_iinc (v := (nI 3)) (lv' := [(1, .int (nI 3)), (2, .int (nI a)), (0, .ref h0)]) C.x C.b dX1_read_91 hl (k := 1) rfl (by decide) (by decide) rfl (fun ls hl => ?_)
          refine lv_goto (tgt := 18) C.x C.b dX1_read_94 (by decide) ?_
          exact L3 (a + 1 + 1) (f0 + 1) f1 f2 f3 f4 1 f6 (by omega) (by rw [← hR]; simp only [r2, ki_30, if_neg c_67, k_83, cond_true, cond_false]) _ _ hH ls (lv_sub hl [0, 2] rfl)
        · have hH : Hp D A s ([(h0, .inr (1, [.ref tx, .int (nI n), .int (nI (a + 1)), .ref q_1])), (tx, .inl (D.1 10, 40, .inl (fun j => nI (t j)))), (q_1, .inr (0, [.int (nI (f0 + 1)), .int (nI f1), .int (nI f2), .int (nI f3), .int (nI f4), .int (nI 1), .int (bI f6), .int (nI 0), .int (oI none), .int (oI none)]))]) H locs := hH
          refine W.eq (g2 := F0 m 86 ls [.int (nI 0)]) rfl ?_
          refine vn_if_ne (tgt := 91) C.x C.b dX1_read_86 (by decide) (by omega) (fun q => absurd q (by decide)) (fun _ => ?_)
          refine lv_null C.x C.b dX1_read_89 ?_
          exact rA (r := none) C hr (Or.inl ⟨_, rfl⟩) hH (Or.inr ⟨q_1, a + 1, f0 + 1, f1, f2, f3, f4, 1, f6, 0, none, none, by rw [← hR]; simp only [r2, ki_30, if_neg c_67, k_83, cond_true, cond_false], by omega, rfl, rfl⟩) (Nat.le_of_ble_eq_true rfl) (Nat.le_of_ble_eq_true rfl) dX1_read_90
      · refine lv_aload_n C.x C.b dX1_read_70 rfl (lv_at hl 2 rfl) ?_
        refine gGet (v := .ref q_1) C hK hH 0 3 rfl rfl inX1 (by decide) tw_89 rfl dX1_read_71 ?_
        exact rA (r := some q_1) C hr (Or.inl ⟨_, rfl⟩) hH (Or.inl ⟨q_1, a + 1, f0 + 1, f1, f2, f3, f4, 1, f6, 0, none, none, by rw [← hR]; simp only [r2, ki_30, if_pos c_67, cond_true, cond_false], rfl, rfl⟩) (Nat.le_of_ble_eq_true rfl) (Nat.le_of_ble_eq_true rfl) dX1_read_74
    · have hH : Hp D A s ([(h0, .inr (1, [.ref tx, .int (nI n), .int (nI (a + 1)), .ref q_1])), (tx, .inl (D.1 10, 40, .inl (fun j => nI (t j)))), (q_1, .inr (0, [.int (nI f0), .int (nI f1), .int (nI f2), .int (nI f3), .int (nI f4), .int (nI 2), .int (bI f6), .int (nI 0), .int (oI none), .int (oI none)]))]) H locs := hH
      refine W.eq (g2 := F0 m 33 ls [.int (nI 1)]) rfl ?_
      refine vn_if_ne (tgt := 38) C.x C.b dX1_read_33 (by decide) (by omega) (fun _ => ?_) (fun q => absurd q (by decide))
      refine lv_aload_n C.x C.b dX1_read_38 rfl (lv_at hl 2 rfl) ?_
      refine gGet (v := .int (nI (a + 1))) C hK hH 0 2 rfl rfl inX1 (by decide) tw_87 rfl dX1_read_39 ?_
      refine lv_iload_n C.x C.b dX1_read_42 rfl (lv_at hl 0 rfl) ?_
      refine vn_icmp_le (tgt := 91) C.x C.b dX1_read_43 (by decide) (by omega) (by omega) (fun q => absurd q (by omega)) (fun c_43 => ?_)
      refine lv_aload_n C.x C.b dX1_read_46 rfl (lv_at hl 2 rfl) ?_
      refine gGet (v := .ref q_1) C hK hH 0 3 rfl rfl inX1 (by decide) tw_89 rfl dX1_read_47 ?_
      refine lv_dup C.x C.b dX1_read_50 rfl ?_
      refine gGetN (v := .int (nI f0)) C hK hH 2 0 rfl rfl inX0 (by decide) (nwl_of tn_38 rfl) rfl dX1_read_51 ?_
      refine lv_iconst (v := nI 1) C.x C.b dX1_read_54 (by decide) ?_
      refine lv_iadd C.x C.b dX1_read_55 ?_
      refine vt_top (nI_add _ _) ?_
      refine gPutN (v := .int (nI (f0 + 1))) (ws' := [(h0, .inr (1, [.ref tx, .int (nI n), .int (nI (a + 1)), .ref q_1])), (tx, .inl (D.1 10, 40, .inl (fun j => nI (t j)))), (q_1, .inr (0, [.int (nI (f0 + 1)), .int (nI f1), .int (nI f2), .int (nI f3), .int (nI f4), .int (nI 2), .int (bI f6), .int (nI 0), .int (oI none), .int (oI none)]))]) C hK hH 2 0 tyX0 tyX0_ok nmX0 rfl rfl inX0 (by decide) (nwl_of tn_38 rfl) rfl rfl rfl (Nat.le_of_ble_eq_true rfl) rfl dX1_read_56 (fun H locs hH => ?_)
      refine lv_aload_n C.x C.b dX1_read_59 rfl (lv_at hl 2 rfl) ?_
      refine gGet (v := .int (nI (a + 1))) C hK hH 0 2 rfl rfl inX1 (by decide) tw_87 rfl dX1_read_60 ?_
      refine lv_aload_n C.x C.b dX1_read_63 rfl (lv_at hl 2 rfl) ?_
      refine gGet (v := .int (nI n)) C hK hH 0 1 rfl rfl inX1 (by decide) tw_85 rfl dX1_read_64 ?_
      refine vn_icmp_ne (tgt := 75) C.x C.b dX1_read_67 (by decide) (by omega) (by omega) (fun c_67 => ?_) (fun c_67 => ?_)
      · refine lv_iload_n C.x C.b dX1_read_75 rfl (lv_at hl 1 rfl) ?_
        refine lv_iconst (v := nI 3) C.x C.b dX1_read_76 (by decide) ?_
        refine vn_icmp_eq (tgt := 89) C.x C.b dX1_read_77 (by decide) (by omega) (by omega) (fun q => absurd q (by decide)) (fun _ => ?_)
        refine lv_aload_n C.x C.b dX1_read_80 rfl (lv_at hl 2 rfl) ?_
        refine lv_bipush (v := nI 59) C.x C.b dX1_read_81 (by decide) ?_
        refine kV (As := [.int (nI 59)]) (isC := [0, 1, 2]) (isR := []) (wr := []) C hK hH (c_take l htr D H.size h0 tx q_1 t n (a + 1) (f0 + 1) f1 f2 f3 f4 2 f6 0 none none 59 hn (by omega) ht (by omega)) ⟨rfl, rfl, rfl, rfl, by decide⟩ 0 rfl rfl tw_370 tw_372 ts_7 tw_2 kX1_take ⟨by decide +kernel, by decide +kernel, (by decide +kernel : (parseMethodDescriptor yX1_take.desc).map (fun d => d.parameters.length) = some 1)⟩ ⟨(Nat.le_of_ble_eq_true rfl), (Nat.le_of_ble_eq_true rfl)⟩ hl.1 (Nat.le_of_ble_eq_true rfl) dX1_read_83 ⟨(Nat.le_of_ble_eq_true rfl), (Nat.le_of_ble_eq_true rfl)⟩ (fun v9 w9 H locs hN hH => ?_) (fun _ _ _ _ _ _ h => False.elim h)
        rcases hN with ⟨k_83, kl_83, rfl, rfl⟩ | ⟨k_83, rfl, rfl⟩
        · have hH : Hp D A s ([(h0, .inr (1, [.ref tx, .int (nI n), .int (nI (a + 1 + 1)), .ref q_1])), (tx, .inl (D.1 10, 40, .inl (fun j => nI (t j)))), (q_1, .inr (0, [.int (nI (f0 + 1)), .int (nI f1), .int (nI f2), .int (nI f3), .int (nI f4), .int (nI 2), .int (bI f6), .int (nI 0), .int (oI none), .int (oI none)]))]) H locs := hH
          refine W.eq (g2 := F0 m 86 ls [.int (nI 1)]) rfl ?_
          refine vn_if_ne (tgt := 91) C.x C.b dX1_read_86 (by decide) (by omega) (fun _ => ?_) (fun q => absurd q (by decide))
          refine lv_iinc (v := (nI 3)) (lv' := [(1, .int (nI 3)), (2, .int (nI a)), (0, .ref h0)]) C.x C.b dX1_read_91 hl (k := 1) rfl (by decide) (by decide) rfl (fun ls hl => ?_)
          refine lv_goto (tgt := 18) C.x C.b dX1_read_94 (by decide) ?_
          exact L3 (a + 1 + 1) (f0 + 1) f1 f2 f3 f4 2 f6 (by omega) (by rw [← hR]; simp only [r2, ki_30, kj_30, if_neg c_67, k_83, cond_true, cond_false]) _ _ hH ls (lv_sub hl [0, 2] rfl)
        · have hH : Hp D A s ([(h0, .inr (1, [.ref tx, .int (nI n), .int (nI (a + 1)), .ref q_1])), (tx, .inl (D.1 10, 40, .inl (fun j => nI (t j)))), (q_1, .inr (0, [.int (nI (f0 + 1)), .int (nI f1), .int (nI f2), .int (nI f3), .int (nI f4), .int (nI 2), .int (bI f6), .int (nI 0), .int (oI none), .int (oI none)]))]) H locs := hH
          refine W.eq (g2 := F0 m 86 ls [.int (nI 0)]) rfl ?_
          refine vn_if_ne (tgt := 91) C.x C.b dX1_read_86 (by decide) (by omega) (fun q => absurd q (by decide)) (fun _ => ?_)
          refine lv_null C.x C.b dX1_read_89 ?_
          exact rA (r := none) C hr (Or.inl ⟨_, rfl⟩) hH (Or.inr ⟨q_1, a + 1, f0 + 1, f1, f2, f3, f4, 2, f6, 0, none, none, by rw [← hR]; simp only [r2, ki_30, kj_30, if_neg c_67, k_83, cond_true, cond_false], by omega, rfl, rfl⟩) (Nat.le_of_ble_eq_true rfl) (Nat.le_of_ble_eq_true rfl) dX1_read_90
      · refine lv_aload_n C.x C.b dX1_read_70 rfl (lv_at hl 2 rfl) ?_
        refine gGet (v := .ref q_1) C hK hH 0 3 rfl rfl inX1 (by decide) tw_89 rfl dX1_read_71 ?_
        exact rA (r := some q_1) C hr (Or.inl ⟨_, rfl⟩) hH (Or.inl ⟨q_1, a + 1, f0 + 1, f1, f2, f3, f4, 2, f6, 0, none, none, by rw [← hR]; simp only [r2, ki_30, kj_30, if_pos c_67, cond_true, cond_false], rfl, rfl⟩) (Nat.le_of_ble_eq_true rfl) (Nat.le_of_ble_eq_true rfl) dX1_read_74
    · have hH : Hp D A s ([(h0, .inr (1, [.ref tx, .int (nI n), .int (nI a), .ref q_1])), (tx, .inl (D.1 10, 40, .inl (fun j => nI (t j)))), (q_1, .inr (0, [.int (nI f0), .int (nI f1), .int (nI f2), .int (nI f3), .int (nI f4), .int (nI 0), .int (bI f6), .int (nI 0), .int (oI none), .int (oI none)]))]) H locs := hH
      refine W.eq (g2 := F0 m 33 ls [.int (nI 1)]) rfl ?_
      refine vn_if_ne (tgt := 38) C.x C.b dX1_read_33 (by decide) (by omega) (fun _ => ?_) (fun q => absurd q (by decide))
      refine lv_aload_n C.x C.b dX1_read_38 rfl (lv_at hl 2 rfl) ?_
      refine gGet (v := .int (nI a)) C hK hH 0 2 rfl rfl inX1 (by decide) tw_87 rfl dX1_read_39 ?_
      refine lv_iload_n C.x C.b dX1_read_42 rfl (lv_at hl 0 rfl) ?_
      refine vn_icmp_le (tgt := 91) C.x C.b dX1_read_43 (by decide) (by omega) (by omega) (fun _ => ?_) (fun q => absurd q (by omega))
      refine lv_iinc (v := (nI 3)) (lv' := [(1, .int (nI 3)), (2, .int (nI a)), (0, .ref h0)]) C.x C.b dX1_read_91 hl (k := 1) rfl (by decide) (by decide) rfl (fun ls hl => ?_)
      refine lv_goto (tgt := 18) C.x C.b dX1_read_94 (by decide) ?_
      exact L3 a f0 f1 f2 f3 f4 0 f6 (by omega) (by rw [← hR]; simp only [r2, ki_30, kj_30, cond_false]) _ _ hH ls (lv_sub hl [0, 2] rfl)
  have L1 : ∀ (a : Nat) (f0 : Nat) (f1 : Nat) (f2 : Nat) (f3 : Nat) (f4 : Nat) (ha : a ≤ n) (hR : r1 t n a f0 f1 f2 f3 f4 = RDT t n) (H : Heap) (locs : List Loc), Hp D A s ([(h0, .inr (1, [.ref tx, .int (nI n), .int (nI a), .ref q_1])), (tx, .inl (D.1 10, 40, .inl (fun j => nI (t j)))), (q_1, .inr (0, [.int (nI f0), .int (nI f1), .int (nI f2), .int (nI f3), .int (nI f4), .int (nI 0), .int (bI false), .int (nI 0), .int (oI none), .int (oI none)]))]) H locs → ∀ ls : Array Slot, lv_has ls 3 [(1, .int (nI 1)), (0, .ref h0)] → W p l e { frames := 9, cells := 1, slots := 10, locals := 194 } s m args below meth c H locs 1 10 (Qf below args s D A (fun v w => (∃ (q a9 : Nat) (f0 f1 f2 f3 f4 f5 : Nat) (f6 : Bool) (f7 : Nat) (f8 f9 : Option Nat), RDT t n = .inr (f0, f1, f2, f3, f4, f5, f6, f7, f8, f9) ∧ v = some (.ref q) ∧ w = [(h0, .inr (1, [.ref tx, .int (nI n), .int (nI a9), .ref q])), (tx, .inl (D.1 10, 40, .inl (fun j => nI (t j)))), (q, .inr (0, [.int (nI f0), .int (nI f1), .int (nI f2), .int (nI f3), .int (nI f4), .int (nI f5), .int (bI f6), .int (nI f7), .int (oI f8), .int (oI f9)]))]) ∨ (∃ (q a9 : Nat) (f0 f1 f2 f3 f4 f5 : Nat) (f6 : Bool) (f7 : Nat) (f8 f9 : Option Nat), RDT t n = .inl a9 ∧ a9 ≤ n ∧ v = some .null ∧ w = [(h0, .inr (1, [.ref tx, .int (nI n), .int (nI a9), .ref q])), (tx, .inl (D.1 10, 40, .inl (fun j => nI (t j)))), (q, .inr (0, [.int (nI f0), .int (nI f1), .int (nI f2), .int (nI f3), .int (nI f4), .int (nI f5), .int (bI f6), .int (nI f7), .int (oI f8), .int (oI f9)]))])) (nox) { frames := 9, cells := 1, slots := 10, locals := 194 }) (F0 m 18 ls []) := by
    intro a f0 f1 f2 f3 f4 ha hR H locs hH ls hl
    refine lv_iload_n C.x C.b dX1_read_18 rfl (lv_at hl 0 rfl) ?_
    refine lv_iconst (v := nI 3) C.x C.b dX1_read_19 (by decide) ?_
    refine vn_icmp_gt (tgt := 97) C.x C.b dX1_read_20 (by decide) (by omega) (by omega) (fun q => absurd q (by decide)) (fun _ => ?_)
    refine lv_aload_n C.x C.b dX1_read_23 rfl (lv_at hl 1 rfl) ?_
    refine gGet (v := .int (nI a)) C hK hH 0 2 rfl rfl inX1 (by decide) tw_87 rfl dX1_read_24 ?_
    refine lv_istore_n (lv' := [(2, .int (nI a)), (1, .int (nI 1)), (0, .ref h0)]) C.x C.b dX1_read_27 rfl hl (by decide) rfl (fun ls hl => ?_)
    refine lv_aload_n C.x C.b dX1_read_28 rfl (lv_at hl 2 rfl) ?_
    refine lv_iload_n C.x C.b dX1_read_29 rfl (lv_at hl 1 rfl) ?_
    refine kV (As := [.int (nI 1)]) (isC := [0, 1, 2]) (isR := []) (wr := []) C hK hH (c_rit1 l htr D H.size h0 tx q_1 t n a f0 f1 f2 f3 f4 0 false 0 none none hn (by omega) ht) ⟨rfl, rfl, rfl, rfl, by decide⟩ 0 rfl rfl tw_267 tw_269 ts_3 tw_2 kX1_readIfThere ⟨by decide +kernel, by decide +kernel, (by decide +kernel : (parseMethodDescriptor yX1_readIfThere.desc).map (fun d => d.parameters.length) = some 1)⟩ ⟨(Nat.le_of_ble_eq_true rfl), (Nat.le_of_ble_eq_true rfl)⟩ hl.1 (Nat.le_of_ble_eq_true rfl) dX1_read_30 ⟨(Nat.le_of_ble_eq_true rfl), (Nat.le_of_ble_eq_true rfl)⟩ (fun v9 w9 H locs hN hH => ?_) (fun _ _ _ _ _ _ h => False.elim h)
    rcases hN with ⟨ki_30, kl_30, rfl, rfl⟩ | ⟨ki_30, rfl, rfl⟩
    · have hH : Hp D A s ([(h0, .inr (1, [.ref tx, .int (nI n), .int (nI (a + 1)), .ref q_1])), (tx, .inl (D.1 10, 40, .inl (fun j => nI (t j)))), (q_1, .inr (0, [.int (nI f0), .int (nI f1), .int (nI f2), .int (nI f3), .int (nI f4), .int (nI 0), .int (bI true), .int (nI 0), .int (oI none), .int (oI none)]))]) H locs := hH
      refine W.eq (g2 := F0 m 33 ls [.int (nI 1)]) rfl ?_
      refine vn_if_ne (tgt := 38) C.x C.b dX1_read_33 (by decide) (by omega) (fun _ => ?_) (fun q => absurd q (by decide))
      refine lv_aload_n C.x C.b dX1_read_38 rfl (lv_at hl 2 rfl) ?_
      refine gGet (v := .int (nI (a + 1))) C hK hH 0 2 rfl rfl inX1 (by decide) tw_87 rfl dX1_read_39 ?_
      refine lv_iload_n C.x C.b dX1_read_42 rfl (lv_at hl 0 rfl) ?_
      refine vn_icmp_le (tgt := 91) C.x C.b dX1_read_43 (by decide) (by omega) (by omega) (fun q => absurd q (by omega)) (fun c_43 => ?_)
      refine lv_aload_n C.x C.b dX1_read_46 rfl (lv_at hl 2 rfl) ?_
      refine gGet (v := .ref q_1) C hK hH 0 3 rfl rfl inX1 (by decide) tw_89 rfl dX1_read_47 ?_
      refine lv_dup C.x C.b dX1_read_50 rfl ?_
      refine gGetN (v := .int (nI f0)) C hK hH 2 0 rfl rfl inX0 (by decide) (nwl_of tn_38 rfl) rfl dX1_read_51 ?_
      refine lv_iconst (v := nI 1) C.x C.b dX1_read_54 (by decide) ?_
      refine lv_iadd C.x C.b dX1_read_55 ?_
      refine vt_top (nI_add _ _) ?_
      refine gPutN (v := .int (nI (f0 + 1))) (ws' := [(h0, .inr (1, [.ref tx, .int (nI n), .int (nI (a + 1)), .ref q_1])), (tx, .inl (D.1 10, 40, .inl (fun j => nI (t j)))), (q_1, .inr (0, [.int (nI (f0 + 1)), .int (nI f1), .int (nI f2), .int (nI f3), .int (nI f4), .int (nI 0), .int (bI true), .int (nI 0), .int (oI none), .int (oI none)]))]) C hK hH 2 0 tyX0 tyX0_ok nmX0 rfl rfl inX0 (by decide) (nwl_of tn_38 rfl) rfl rfl rfl (Nat.le_of_ble_eq_true rfl) rfl dX1_read_56 (fun H locs hH => ?_)
      refine lv_aload_n C.x C.b dX1_read_59 rfl (lv_at hl 2 rfl) ?_
      refine gGet (v := .int (nI (a + 1))) C hK hH 0 2 rfl rfl inX1 (by decide) tw_87 rfl dX1_read_60 ?_
      refine lv_aload_n C.x C.b dX1_read_63 rfl (lv_at hl 2 rfl) ?_
      refine gGet (v := .int (nI n)) C hK hH 0 1 rfl rfl inX1 (by decide) tw_85 rfl dX1_read_64 ?_
      refine vn_icmp_ne (tgt := 75) C.x C.b dX1_read_67 (by decide) (by omega) (by omega) (fun c_67 => ?_) (fun c_67 => ?_)
      · refine lv_iload_n C.x C.b dX1_read_75 rfl (lv_at hl 1 rfl) ?_
        refine lv_iconst (v := nI 3) C.x C.b dX1_read_76 (by decide) ?_
        refine vn_icmp_eq (tgt := 89) C.x C.b dX1_read_77 (by decide) (by omega) (by omega) (fun q => absurd q (by decide)) (fun _ => ?_)
        refine lv_aload_n C.x C.b dX1_read_80 rfl (lv_at hl 2 rfl) ?_
        refine lv_bipush (v := nI 59) C.x C.b dX1_read_81 (by decide) ?_
        refine kV (As := [.int (nI 59)]) (isC := [0, 1, 2]) (isR := []) (wr := []) C hK hH (c_take l htr D H.size h0 tx q_1 t n (a + 1) (f0 + 1) f1 f2 f3 f4 0 true 0 none none 59 hn (by omega) ht (by omega)) ⟨rfl, rfl, rfl, rfl, by decide⟩ 0 rfl rfl tw_370 tw_372 ts_7 tw_2 kX1_take ⟨by decide +kernel, by decide +kernel, (by decide +kernel : (parseMethodDescriptor yX1_take.desc).map (fun d => d.parameters.length) = some 1)⟩ ⟨(Nat.le_of_ble_eq_true rfl), (Nat.le_of_ble_eq_true rfl)⟩ hl.1 (Nat.le_of_ble_eq_true rfl) dX1_read_83 ⟨(Nat.le_of_ble_eq_true rfl), (Nat.le_of_ble_eq_true rfl)⟩ (fun v9 w9 H locs hN hH => ?_) (fun _ _ _ _ _ _ h => False.elim h)
        rcases hN with ⟨k_83, kl_83, rfl, rfl⟩ | ⟨k_83, rfl, rfl⟩
        · have hH : Hp D A s ([(h0, .inr (1, [.ref tx, .int (nI n), .int (nI (a + 1 + 1)), .ref q_1])), (tx, .inl (D.1 10, 40, .inl (fun j => nI (t j)))), (q_1, .inr (0, [.int (nI (f0 + 1)), .int (nI f1), .int (nI f2), .int (nI f3), .int (nI f4), .int (nI 0), .int (bI true), .int (nI 0), .int (oI none), .int (oI none)]))]) H locs := hH
          refine W.eq (g2 := F0 m 86 ls [.int (nI 1)]) rfl ?_
          refine vn_if_ne (tgt := 91) C.x C.b dX1_read_86 (by decide) (by omega) (fun _ => ?_) (fun q => absurd q (by decide))
          refine lv_iinc (v := (nI 2)) (lv' := [(1, .int (nI 2)), (2, .int (nI a)), (0, .ref h0)]) C.x C.b dX1_read_91 hl (k := 1) rfl (by decide) (by decide) rfl (fun ls hl => ?_)
          refine lv_goto (tgt := 18) C.x C.b dX1_read_94 (by decide) ?_
          exact L2 (a + 1 + 1) (f0 + 1) f1 f2 f3 f4 true (by omega) (by rw [← hR]; simp only [r1, ki_30, if_neg c_67, k_83, cond_true, cond_false]) _ _ hH ls (lv_sub hl [0, 2] rfl)
        · have hH : Hp D A s ([(h0, .inr (1, [.ref tx, .int (nI n), .int (nI (a + 1)), .ref q_1])), (tx, .inl (D.1 10, 40, .inl (fun j => nI (t j)))), (q_1, .inr (0, [.int (nI (f0 + 1)), .int (nI f1), .int (nI f2), .int (nI f3), .int (nI f4), .int (nI 0), .int (bI true), .int (nI 0), .int (oI none), .int (oI none)]))]) H locs := hH
          refine W.eq (g2 := F0 m 86 ls [.int (nI 0)]) rfl ?_
          refine vn_if_ne (tgt := 91) C.x C.b dX1_read_86 (by decide) (by omega) (fun q => absurd q (by decide)) (fun _ => ?_)
          refine lv_null C.x C.b dX1_read_89 ?_
          exact rA (r := none) C hr (Or.inl ⟨_, rfl⟩) hH (Or.inr ⟨q_1, a + 1, f0 + 1, f1, f2, f3, f4, 0, true, 0, none, none, by rw [← hR]; simp only [r1, ki_30, if_neg c_67, k_83, cond_true, cond_false], by omega, rfl, rfl⟩) (Nat.le_of_ble_eq_true rfl) (Nat.le_of_ble_eq_true rfl) dX1_read_90
      · refine lv_aload_n C.x C.b dX1_read_70 rfl (lv_at hl 2 rfl) ?_
        refine gGet (v := .ref q_1) C hK hH 0 3 rfl rfl inX1 (by decide) tw_89 rfl dX1_read_71 ?_
        exact rA (r := some q_1) C hr (Or.inl ⟨_, rfl⟩) hH (Or.inl ⟨q_1, a + 1, f0 + 1, f1, f2, f3, f4, 0, true, 0, none, none, by rw [← hR]; simp only [r1, ki_30, if_pos c_67, cond_true, cond_false], rfl, rfl⟩) (Nat.le_of_ble_eq_true rfl) (Nat.le_of_ble_eq_true rfl) dX1_read_74
    · have hH : Hp D A s ([(h0, .inr (1, [.ref tx, .int (nI n), .int (nI a), .ref q_1])), (tx, .inl (D.1 10, 40, .inl (fun j => nI (t j)))), (q_1, .inr (0, [.int (nI f0), .int (nI f1), .int (nI f2), .int (nI f3), .int (nI f4), .int (nI 0), .int (bI false), .int (nI 0), .int (oI none), .int (oI none)]))]) H locs := hH
      refine W.eq (g2 := F0 m 33 ls [.int (nI 1)]) rfl ?_
      refine vn_if_ne (tgt := 38) C.x C.b dX1_read_33 (by decide) (by omega) (fun _ => ?_) (fun q => absurd q (by decide))
      refine lv_aload_n C.x C.b dX1_read_38 rfl (lv_at hl 2 rfl) ?_
      refine gGet (v := .int (nI a)) C hK hH 0 2 rfl rfl inX1 (by decide) tw_87 rfl dX1_read_39 ?_
      refine lv_iload_n C.x C.b dX1_read_42 rfl (lv_at hl 0 rfl) ?_
      refine vn_icmp_le (tgt := 91) C.x C.b dX1_read_43 (by decide) (by omega) (by omega) (fun _ => ?_) (fun q => absurd q (by omega))
      refine lv_iinc (v := (nI 2)) (lv' := [(1, .int (nI 2)), (2, .int (nI a)), (0, .ref h0)]) C.x C.b dX1_read_91 hl (k := 1) rfl (by decide) (by decide) rfl (fun ls hl => ?_)
      refine lv_goto (tgt := 18) C.x C.b dX1_read_94 (by decide) ?_
      exact L2 a f0 f1 f2 f3 f4 false (by omega) (by rw [← hR]; simp only [r1, ki_30, cond_false]) _ _ hH ls (lv_sub hl [0, 2] rfl)
  refine lv_iload_n C.x C.b dX1_read_18 rfl (lv_at hl 0 rfl) ?_
  refine lv_iconst (v := nI 3) C.x C.b dX1_read_19 (by decide) ?_
  refine vn_icmp_gt (tgt := 97) C.x C.b dX1_read_20 (by decide) (by omega) (by omega) (fun q => absurd q (by decide)) (fun _ => ?_)
  refine lv_aload_n C.x C.b dX1_read_23 rfl (lv_at hl 1 rfl) ?_
  refine gGet (v := .int (nI 0)) C hK hH 0 2 rfl rfl inX1 (by decide) tw_87 rfl dX1_read_24 ?_
  refine lv_istore_n (lv' := [(2, .int (nI 0)), (1, .int (nI 0)), (0, .ref h0)]) C.x C.b dX1_read_27 rfl hl (by decide) rfl (fun ls hl => ?_)
  refine lv_aload_n C.x C.b dX1_read_28 rfl (lv_at hl 2 rfl) ?_
  refine lv_iload_n C.x C.b dX1_read_29 rfl (lv_at hl 1 rfl) ?_
  refine kV (As := [.int (nI 0)]) (isC := [0, 1, 2]) (isR := []) (wr := []) C hK hH (c_rit0 l htr D H.size h0 tx q_1 t n 0 0 0 false 0 none none hn (by omega) ht) ⟨rfl, rfl, rfl, rfl, by decide⟩ 0 rfl rfl tw_267 tw_269 ts_3 tw_2 kX1_readIfThere ⟨by decide +kernel, by decide +kernel, (by decide +kernel : (parseMethodDescriptor yX1_readIfThere.desc).map (fun d => d.parameters.length) = some 1)⟩ ⟨(Nat.le_of_ble_eq_true rfl), (Nat.le_of_ble_eq_true rfl)⟩ hl.1 (Nat.le_of_ble_eq_true rfl) dX1_read_30 ⟨(Nat.le_of_ble_eq_true rfl), (Nat.le_of_ble_eq_true rfl)⟩ (fun v9 w9 H locs hN hH => ?_) (fun _ _ _ _ _ _ h => False.elim h)
  rcases hN with ⟨q_30, hq_30, kl_30, hm_30, rfl, rfl⟩ | ⟨a9_30, g1_30, g2_30, g3_30, hq_30, kl_30, rfl, rfl⟩
  · have hH : Hp D A s ([(h0, .inr (1, [.ref tx, .int (nI n), .int (nI q_30.1), .ref q_1])), (tx, .inl (D.1 10, 40, .inl (fun j => nI (t j)))), (q_1, .inr (0, [.int (nI 0), .int (nI q_30.2.1), .int (nI q_30.2.2.1), .int (nI (q_30.2.2.2.1.getD 0)), .int (nI q_30.2.2.2.2), .int (nI 0), .int (bI false), .int (nI 0), .int (oI none), .int (oI none)]))]) H locs := hH
    refine W.eq (g2 := F0 m 33 ls [.int (nI 1)]) rfl ?_
    refine vn_if_ne (tgt := 38) C.x C.b dX1_read_33 (by decide) (by omega) (fun _ => ?_) (fun q => absurd q (by decide))
    refine lv_aload_n C.x C.b dX1_read_38 rfl (lv_at hl 2 rfl) ?_
    refine gGet (v := .int (nI q_30.1)) C hK hH 0 2 rfl rfl inX1 (by decide) tw_87 rfl dX1_read_39 ?_
    refine lv_iload_n C.x C.b dX1_read_42 rfl (lv_at hl 0 rfl) ?_
    refine vn_icmp_le (tgt := 91) C.x C.b dX1_read_43 (by decide) (by omega) (by omega) (fun c_43 => ?_) (fun c_43 => ?_)
    · refine lv_iinc (v := (nI 1)) (lv' := [(1, .int (nI 1)), (2, .int (nI 0)), (0, .ref h0)]) C.x C.b dX1_read_91 hl (k := 1) rfl (by decide) (by decide) rfl (fun ls hl => ?_)
      refine lv_goto (tgt := 18) C.x C.b dX1_read_94 (by decide) ?_
      exact L1 q_30.1 0 q_30.2.1 q_30.2.2.1 (q_30.2.2.2.1.getD 0) q_30.2.2.2.2 (by omega) (by simp only [RDT, hq_30, if_neg (Nat.not_lt.mpr c_43)]) _ _ hH ls (lv_sub hl [0, 2] rfl)
    · refine lv_aload_n C.x C.b dX1_read_46 rfl (lv_at hl 2 rfl) ?_
      refine gGet (v := .ref q_1) C hK hH 0 3 rfl rfl inX1 (by decide) tw_89 rfl dX1_read_47 ?_
      refine lv_dup C.x C.b dX1_read_50 rfl ?_
      refine gGetN (v := .int (nI 0)) C hK hH 2 0 rfl rfl inX0 (by decide) (nwl_of tn_38 rfl) rfl dX1_read_51 ?_
      refine lv_iconst (v := nI 1) C.x C.b dX1_read_54 (by decide) ?_
      refine lv_iadd C.x C.b dX1_read_55 ?_
      refine vt_top (nI_add _ _) ?_
      refine gPutN (v := .int (nI (0 + 1))) (ws' := [(h0, .inr (1, [.ref tx, .int (nI n), .int (nI q_30.1), .ref q_1])), (tx, .inl (D.1 10, 40, .inl (fun j => nI (t j)))), (q_1, .inr (0, [.int (nI (0 + 1)), .int (nI q_30.2.1), .int (nI q_30.2.2.1), .int (nI (q_30.2.2.2.1.getD 0)), .int (nI q_30.2.2.2.2), .int (nI 0), .int (bI false), .int (nI 0), .int (oI none), .int (oI none)]))]) C hK hH 2 0 tyX0 tyX0_ok nmX0 rfl rfl inX0 (by decide) (nwl_of tn_38 rfl) rfl rfl rfl (Nat.le_of_ble_eq_true rfl) rfl dX1_read_56 (fun H locs hH => ?_)
      refine lv_aload_n C.x C.b dX1_read_59 rfl (lv_at hl 2 rfl) ?_
      refine gGet (v := .int (nI q_30.1)) C hK hH 0 2 rfl rfl inX1 (by decide) tw_87 rfl dX1_read_60 ?_
      refine lv_aload_n C.x C.b dX1_read_63 rfl (lv_at hl 2 rfl) ?_
      refine gGet (v := .int (nI n)) C hK hH 0 1 rfl rfl inX1 (by decide) tw_85 rfl dX1_read_64 ?_
      refine vn_icmp_ne (tgt := 75) C.x C.b dX1_read_67 (by decide) (by omega) (by omega) (fun c_67 => ?_) (fun c_67 => ?_)
      · refine lv_iload_n C.x C.b dX1_read_75 rfl (lv_at hl 1 rfl) ?_
        refine lv_iconst (v := nI 3) C.x C.b dX1_read_76 (by decide) ?_
        refine vn_icmp_eq (tgt := 89) C.x C.b dX1_read_77 (by decide) (by omega) (by omega) (fun q => absurd q (by decide)) (fun _ => ?_)
        refine lv_aload_n C.x C.b dX1_read_80 rfl (lv_at hl 2 rfl) ?_
        refine lv_bipush (v := nI 59) C.x C.b dX1_read_81 (by decide) ?_
        refine kV (As := [.int (nI 59)]) (isC := [0, 1, 2]) (isR := []) (wr := []) C hK hH (c_take l htr D H.size h0 tx q_1 t n q_30.1 (0 + 1) q_30.2.1 q_30.2.2.1 (q_30.2.2.2.1.getD 0) q_30.2.2.2.2 0 false 0 none none 59 hn (by omega) ht (by omega)) ⟨rfl, rfl, rfl, rfl, by decide⟩ 0 rfl rfl tw_370 tw_372 ts_7 tw_2 kX1_take ⟨by decide +kernel, by decide +kernel, (by decide +kernel : (parseMethodDescriptor yX1_take.desc).map (fun d => d.parameters.length) = some 1)⟩ ⟨(Nat.le_of_ble_eq_true rfl), (Nat.le_of_ble_eq_true rfl)⟩ hl.1 (Nat.le_of_ble_eq_true rfl) dX1_read_83 ⟨(Nat.le_of_ble_eq_true rfl), (Nat.le_of_ble_eq_true rfl)⟩ (fun v9 w9 H locs hN hH => ?_) (fun _ _ _ _ _ _ h => False.elim h)
        rcases hN with ⟨k_83, kl_83, rfl, rfl⟩ | ⟨k_83, rfl, rfl⟩
        · have hH : Hp D A s ([(h0, .inr (1, [.ref tx, .int (nI n), .int (nI (q_30.1 + 1)), .ref q_1])), (tx, .inl (D.1 10, 40, .inl (fun j => nI (t j)))), (q_1, .inr (0, [.int (nI (0 + 1)), .int (nI q_30.2.1), .int (nI q_30.2.2.1), .int (nI (q_30.2.2.2.1.getD 0)), .int (nI q_30.2.2.2.2), .int (nI 0), .int (bI false), .int (nI 0), .int (oI none), .int (oI none)]))]) H locs := hH
          refine W.eq (g2 := F0 m 86 ls [.int (nI 1)]) rfl ?_
          refine vn_if_ne (tgt := 91) C.x C.b dX1_read_86 (by decide) (by omega) (fun _ => ?_) (fun q => absurd q (by decide))
          refine lv_iinc (v := (nI 1)) (lv' := [(1, .int (nI 1)), (2, .int (nI 0)), (0, .ref h0)]) C.x C.b dX1_read_91 hl (k := 1) rfl (by decide) (by decide) rfl (fun ls hl => ?_)
          refine lv_goto (tgt := 18) C.x C.b dX1_read_94 (by decide) ?_
          exact L1 (q_30.1 + 1) (0 + 1) q_30.2.1 q_30.2.2.1 (q_30.2.2.2.1.getD 0) q_30.2.2.2.2 (by omega) (by simp only [RDT, hq_30, if_pos c_43, if_neg c_67, k_83, cond_true]) _ _ hH ls (lv_sub hl [0, 2] rfl)
        · have hH : Hp D A s ([(h0, .inr (1, [.ref tx, .int (nI n), .int (nI q_30.1), .ref q_1])), (tx, .inl (D.1 10, 40, .inl (fun j => nI (t j)))), (q_1, .inr (0, [.int (nI (0 + 1)), .int (nI q_30.2.1), .int (nI q_30.2.2.1), .int (nI (q_30.2.2.2.1.getD 0)), .int (nI q_30.2.2.2.2), .int (nI 0), .int (bI false), .int (nI 0), .int (oI none), .int (oI none)]))]) H locs := hH
          refine W.eq (g2 := F0 m 86 ls [.int (nI 0)]) rfl ?_
          refine vn_if_ne (tgt := 91) C.x C.b dX1_read_86 (by decide) (by omega) (fun q => absurd q (by decide)) (fun _ => ?_)
          refine lv_null C.x C.b dX1_read_89 ?_
          exact rA (r := none) C hr (Or.inl ⟨_, rfl⟩) hH (Or.inr ⟨q_1, q_30.1, 0 + 1, q_30.2.1, q_30.2.2.1, q_30.2.2.2.1.getD 0, q_30.2.2.2.2, 0, false, 0, none, none, by simp only [RDT, hq_30, if_pos c_43, if_neg c_67, k_83, cond_false], by omega, rfl, rfl⟩) (Nat.le_of_ble_eq_true rfl) (Nat.le_of_ble_eq_true rfl) dX1_read_90
      · refine lv_aload_n C.x C.b dX1_read_70 rfl (lv_at hl 2 rfl) ?_
        refine gGet (v := .ref q_1) C hK hH 0 3 rfl rfl inX1 (by decide) tw_89 rfl dX1_read_71 ?_
        exact rA (r := some q_1) C hr (Or.inl ⟨_, rfl⟩) hH (Or.inl ⟨q_1, q_30.1, 0 + 1, q_30.2.1, q_30.2.2.1, q_30.2.2.2.1.getD 0, q_30.2.2.2.2, 0, false, 0, none, none, by simp only [RDT, hq_30, if_pos c_43, if_pos c_67], rfl, rfl⟩) (Nat.le_of_ble_eq_true rfl) (Nat.le_of_ble_eq_true rfl) dX1_read_74
  · have hH : Hp D A s ([(h0, .inr (1, [.ref tx, .int (nI n), .int (nI a9_30), .ref q_1])), (tx, .inl (D.1 10, 40, .inl (fun j => nI (t j)))), (q_1, .inr (0, [.int (nI 0), .int (nI g1_30), .int (nI g2_30), .int (nI g3_30), .int (nI 0), .int (nI 0), .int (bI false), .int (nI 0), .int (oI none), .int (oI none)]))]) H locs := hH
    refine W.eq (g2 := F0 m 33 ls [.int (nI 0)]) rfl ?_
    refine vn_if_ne (tgt := 38) C.x C.b dX1_read_33 (by decide) (by omega) (fun q => absurd q (by decide)) (fun _ => ?_)
    refine lv_null C.x C.b dX1_read_36 ?_
    exact rA (r := none) C hr (Or.inl ⟨_, rfl⟩) hH (Or.inr ⟨q_1, a9_30, 0, g1_30, g2_30, g3_30, 0, 0, false, 0, none, none, by simp only [RDT, hq_30], by omega, rfl, rfl⟩) (Nat.le_of_ble_eq_true rfl) (Nat.le_of_ble_eq_true rfl) dX1_read_37
end
section
/-- a constructor's contract -/
theorem Ct.ofI {l : Launch} {y : MethodName} {rm : Room} {D : va_G} {ws : va_W} {As : List Value} {sz : Nat} {N : Option Value → va_W → Prop} {X : String → va_W → Prop} {cc : ByteArray} {nL : Nat} {ret : Option FieldType} {own : String}
    (hl : l.stackTraces = false) (hy : plainName y.cls = true) (ho : y.cls = own) (hsl : (lg_sl As).length ≤ nL)
    (body : ∀ (p : Program) (e : Env) (s : State) (m : MethodId) (args : Array Value) (below : List Frame) (meth : Method) (c : Code) (A : Nat → Prop), Cx p l s m meth c args cc nL own A D [] → meth.name = y.name → meth.sig.returnType = ret → Kn D s → ∀ (H : Heap) (locs : List Loc), Hp D A s ws H locs →
      ∀ ls : Array Slot, lv_has ls nL (lv_args 0 As) → W p l e rm s m args below meth c H locs 0 0 (Qf below args s D A N X rm) (F0 m 0 ls [])) :
    Ct l y (.code y cc nL ret :: tg) rm D ws As sz N X := by
  refine vx_ofW (cc := cc) (maxL := nL) (ret := ret) hy rfl ?_
  intro p e s m args below meth c s₁ B hml htab hv
  obtain ⟨rfl, hsz, hP, hK, hD, hZ, hN⟩ := hv
  subst hsz
  have hts := atoms_spec (ws := .code y cc nL ret :: tg) B.pre
  have hl0 := lv_entry As (n := nL) hsl
  rw [lg_entry_eq]
  refine body p e s m _ below meth c (va_A ws s.heap.size) ?_ (name_of_methodNamed B.named B.method).1 B.returns hK _ _ ⟨hP, hD.self, va_S.rf⟩ _ hl0
  refine ⟨B.exec, B.bytes, hml, by rw [← ho]; exact findClass_of_methodNamed B.named, fun w h => hts w (List.mem_cons_of_mem _ h), B.notSynchronized, fun q h => Or.inr h, hZ, hN, hl, ?_⟩
  cases hx : c.exceptionTable.toList with
  | nil => rfl
  | cons a t => exact (htab a (by rw [hx]; exact List.mem_cons_self)).elim
section NEWA
variable {p : Program} {l : Launch} {e : Env} {R : Room} {s : State} {m : MethodId} {args : Array Value} {below : List Frame} {meth : Method} {c : Code} {H : Heap} {locs : List Loc} {cells slots : Nat} {Q : State → Prop} {cc : ByteArray} {pc : Nat} {ls : Array Slot} {rest : List Value} {nL : Nat} {own : String} {A : Nat → Prop} {D : va_G} {ws ws' : va_W} {hh : List (Nat × Nat × Nat × Nat)} {a : Nat}
theorem ra_nm {cA : ClassId} {ty : FieldType} (h : va_RA s cA ty) : s.vm.findClass ("[" ++ ty.toString) = some cA := by
  cases ty with
  | object C => obtain ⟨k1, c1, -, -, -, e1⟩ := h; exact e1
  | _ => exact h
theorem ra_eq {cA cB : ClassId} {ty : FieldType} (h1 : va_RA s cA ty) (h2 : va_RA s cB ty) : cA = cB := Option.some.inj ((ra_nm h1).symm.trans (ra_nm h2))
theorem gNewa (C : Cx p l s m meth c args cc nL own A D hh) (hK : Kn D s) (hH : Hp D A s ws H locs) {atype : ArrayType} {ty : FieldType} (i : Nat) {g : ClassId} (hty : newarray.typeOf atype = ty) (hi : (TY D)[i]? = some (g, ty)) (w1 : Cond.arrayClass ty ∈ tg) {n N' : Nat} {a0 : vp_A} (ha : ∀ cA : ClassId, vp_cell cA a0 = arrV cA n (fun _ => defaultValue ty)) (hn : n < 2 ^ 31) (hbytes : n * componentBytes ty ≤ 536870912) (hcells : cells + 1 ≤ R.cells) (hslots : slots + n ≤ R.slots) (hdg : decode cc pc = .ok (.newarray atype, 2))
    (kk : ∀ (q : Nat) (H1 : Heap), Hp D A s (ws ++ [(q, .inl (g, a0))]) H1 locs → W p l e R s m args below meth c H1 locs (cells + 1) (slots + n) Q (F0 m (pc + 2) ls (.ref q :: rest))) : W p l e R s m args below meth c H locs cells slots Q (F0 m pc ls (.int (nI n) :: rest)) := by
  refine va_newa C.x C.b (by rw [hty]; exact C.ts _ w1) hty hK.1 hH.1 hH.2.1 hH.2.2 C.hA ha (nI_pos hn) (nI_clamp hn) hbytes hcells hslots hdg (fun q cA H1 h1 h2 h3 h4 => ?_)
  have e : cA = g := ra_eq (h1.2 5 (cA, ty) rfl).2 (hK.1.2 i (g, ty) hi).2
  subst e
  exact kk q H1 ⟨h2, h3, h4⟩
theorem gNewq (C : Cx p l s m meth c args cc nL own A D hh) (hK : Kn D s) (hH : Hp D A s ws H locs) {index n : Nat} (w1 : Cond.classLink own index "MicroMachine$Word" ∈ tg) (hn : n < 2 ^ 31) (hbytes : n * 4 ≤ 536870912) (hcells : cells + 1 ≤ R.cells) (hslots : slots + n ≤ R.slots) (hdg : decode cc pc = .ok (.anewarray index, 3))
    (kk : ∀ (q : Nat) (H1 : Heap), Hp D A s (ws ++ [(q, .inl (D.1 13, n, .inr (.inr (.inr (.inr (fun _ => none))))))]) H1 locs → W p l e R s m args below meth c H1 locs (cells + 1) (slots + n) Q (F0 m (pc + 3) ls (.ref q :: rest))) : W p l e R s m args below meth c H locs cells slots Q (F0 m pc ls (.int (nI n) :: rest)) := by
  refine va_newq C.x C.b C.ow (C.ts _ w1) hK.2 hK.1 hH.1 hH.2.1 hH.2.2 C.hA (nI_pos hn) (nI_clamp hn) hbytes hcells hslots hdg (fun q cA H1 h1 h2 h3 h4 => ?_)
  have e : cA = D.1 13 := ra_eq (h1.2 5 (cA, .object "MicroMachine$Word") rfl).2 (hK.1.2 3 (D.1 13, .object "MicroMachine$Word") rfl).2
  subst e
  exact kk q H1 ⟨h2, h3, h4⟩
end NEWA
theorem nar128 : ∀ c, c < 128 → vp_nar .char (nI c) = nI c := by decide +kernel
theorem txt_set {t : Nat → Nat} {n c : Nat} (hc : c < 128) : upd (fun j => nI (t j)) n (vp_nar .char (nI c)) = (fun j => nI (va_up t n c j)) := by
  funext j
  rw [nar128 c hc]
  by_cases h : j = n <;> simp [upd, va_up, h]
end
section
/-! worlds in any order -/
theorem vP_mem {D : va_G} {cl : List vw_C} {ws : va_W} {H : Heap} : va_P D cl ws H ↔ ∀ q ∈ ws, va_at D cl q H := by
  constructor
  · intro h q hq
    obtain ⟨k, hk⟩ := List.getElem?_of_mem hq
    exact h k q hk
  · intro h k q hk
    exact h q (List.mem_of_getElem? hk)
theorem vD_mem {A : Nat → Prop} {ws : va_W} : va_D A ws ↔ (ws.map Prod.fst).Nodup ∧ ∀ q ∈ ws, A q.1 := by
  constructor
  · intro ⟨h1, h2⟩
    refine ⟨List.pairwise_iff_getElem.mpr (fun i j hi hj hij e => ?_), fun q hq => ?_⟩
    · rw [List.length_map] at hi hj
      rw [List.getElem_map, List.getElem_map] at e
      have := h1 i j ws[i] ws[j] (List.getElem?_eq_getElem hi) (List.getElem?_eq_getElem hj) e
      omega
    · obtain ⟨k, hk⟩ := List.getElem?_of_mem hq
      exact h2 k q hk
  · intro ⟨h1, h2⟩
    refine ⟨fun i j p q hp hq e => ?_, fun k q hk => h2 q (List.mem_of_getElem? hk)⟩
    have h1 := List.pairwise_iff_getElem.mp h1
    obtain ⟨hi, ei⟩ := List.getElem?_eq_some_iff.mp hp
    obtain ⟨hj, ej⟩ := List.getElem?_eq_some_iff.mp hq
    rcases Nat.lt_trichotomy i j with h | h | h
    · exact absurd (by rw [List.getElem_map, List.getElem_map, ei, ej]; exact e) (h1 i j (by simpa using hi) (by simpa using hj) h)
    · exact h
    · exact absurd (by rw [List.getElem_map, List.getElem_map, ei, ej]; exact e.symm) (h1 j i (by simpa using hj) (by simpa using hi) h)
theorem vP_perm {D : va_G} {cl : List vw_C} {ws ws' : va_W} {H : Heap} (h : ws.Perm ws') (hP : va_P D cl ws H) : va_P D cl ws' H := vP_mem.mpr (fun q hq => vP_mem.mp hP q (h.mem_iff.mpr hq))
theorem vD_perm {A : Nat → Prop} {ws ws' : va_W} (h : ws.Perm ws') (hD : va_D A ws) : va_D A ws' := by
  rw [vD_mem] at hD ⊢
  exact ⟨(h.map Prod.fst).nodup_iff.mp hD.1, fun q hq => hD.2 q (h.mem_iff.mpr hq)⟩
theorem Hp.perm {D : va_G} {A : Nat → Prop} {s : State} {ws ws' : va_W} {H : Heap} {locs : List Loc} (h : ws.Perm ws') (hH : Hp D A s ws H locs) : Hp D A s ws' H locs := ⟨vP_perm h hH.1, vD_perm h hH.2.1, hH.2.2⟩
/-- a world of places, parted -/
theorem perm_of {X wr cx : va_W} (isR isC : List Nat) (h1 : isR.filterMap (fun i => X[i]?) = wr) (h2 : isC.filterMap (fun i => X[i]?) = cx) (h : (List.range X.length).Perm (isR ++ isC)) : X.Perm (wr ++ cx) := by
  have e : (List.range X.length).filterMap (fun i => X[i]?) = X := by
    clear h h1 h2
    induction X with
    | nil => rfl
    | cons a l ih =>
      rw [List.length_cons, List.range_succ_eq_map, List.filterMap_cons]
      simp only [List.getElem?_cons_zero, List.filterMap_map, Function.comp_def, List.getElem?_cons_succ]
      exact congrArg (a :: ·) ih
  have h3 := h.filterMap (fun i => X[i]?)
  rw [e, List.filterMap_append, h1, h2] at h3
  exact h3
section PCALL
variable {p : Program} {l : Launch} {e : Env} {R : Room} {s : State} {m : MethodId} {args : Array Value} {below : List Frame} {meth : Method} {c : Code} {H : Heap} {locs : List Loc} {cells slots : Nat} {Q : State → Prop} {cc : ByteArray} {pc : Nat} {ls : Array Slot} {rest : List Value} {nL : Nat} {own : String} {A : Nat → Prop} {D : va_G} {ws wc wr : va_W} {hh : List (Nat × Nat × Nat × Nat)}
variable {y : MethodName} {rm : Room} {As : List Value} {N : Option Value → va_W → Prop} {X : String → va_W → Prop} {index maxL n : Nat} {ret : Option FieldType} {bytes : ByteArray} {b : Nat}
theorem freeP (C : Cx p l s m meth c args cc nL own A D hh) (hH : Hp D A s (wr ++ wc) H locs) : ∀ q, va_A wc H.size q → A q := by
  intro q hq
  rcases hq with ⟨k, e9, hk⟩ | hq
  · exact (vD_mem.mp hH.2.1).2 (q, e9) (List.mem_append_right _ (List.mem_of_getElem? hk))
  · exact C.hA q (Nat.le_trans hH.2.2.1 hq)
theorem preP (C : Cx p l s m meth c args cc nL own A D hh) (hK : Kn D s) (hH : Hp D A s (wr ++ wc) H locs) : ∀ U : State, U.heap = H → s.WarmedH U.vm → va_Pc As (Pr D wc H.size) As.toArray U := by
  intro U hU hW
  have hFc := freeP C hH
  refine ⟨rfl, by rw [hU], ?_, Kn.moved hW.alike hK, ?_, ?_, Nw.warm hW C.N⟩
  · rw [hU]; exact vP_mem.mpr (fun q hq => vP_mem.mp hH.1 q (List.mem_append_right _ hq))
  · have h := vD_mem.mp hH.2.1
    rw [List.map_append] at h
    exact vD_mem.mpr ⟨(List.nodup_append.mp h.1).2.1, fun _ _ => trivial⟩
  · rw [hU]
    exact Zs.moved hW.alike ((C.Z.kept hH.2.2.2.1).narrow hFc)
theorem joinP (C : Cx p l s m meth c args cc nL own A D hh) (hH : Hp D A s (wr ++ wc) H locs) {H1 : Heap} {locs1 : List Loc} {w1 : va_W} (hS1 : va_S A s.heap H1 locs1) (hk1 : ∀ q : Nat, q < H.size → ¬ va_A wc H.size q → H1[q]? = H[q]?) (hP1 : va_P D vwCl w1 H1) (hD1 : va_D (va_A wc H.size) w1) : Hp D A s (wr ++ w1) H1 locs1 := by
  have hFc := freeP C hH
  have hd := vD_mem.mp hH.2.1
  have hp := vP_mem.mp hH.1
  have hd1 := vD_mem.mp hD1
  rw [List.map_append] at hd
  have hnd := List.nodup_append.mp hd.1
  have hout : ∀ q ∈ wr, ¬ va_A wc H.size q.1 := by
    intro q hq hA
    rcases hA with ⟨k, e9, hk⟩ | hA
    · exact hnd.2.2 q.1 (List.mem_map_of_mem hq) q.1 (List.mem_map.mpr ⟨(q.1, e9), List.mem_of_getElem? hk, rfl⟩) rfl
    · exact absurd (hp q (List.mem_append_left _ hq)).lt (by omega)
  refine ⟨vP_mem.mpr (fun q hq => ?_), vD_mem.mpr ⟨?_, fun q hq => ?_⟩, hS1⟩
  · rcases List.mem_append.mp hq with h | h
    · have h1 := hp q (List.mem_append_left _ h)
      exact va_at.kept h1 (hk1 q.1 h1.lt (hout q h))
    · exact vP_mem.mp hP1 q h
  · rw [List.map_append]
    refine List.nodup_append.mpr ⟨hnd.1, hd1.1, fun a ha b hb e9 => ?_⟩
    obtain ⟨q, hq, rfl⟩ := List.mem_map.mp ha
    obtain ⟨z, hz, rfl⟩ := List.mem_map.mp hb
    exact hout q hq (e9 ▸ hd1.2 z hz)
  · rcases List.mem_append.mp hq with h | h
    · exact hd.2 q (List.mem_append_left _ h)
    · exact hFc _ (hd1.2 q h)
theorem runP (C : Cx p l s m meth c args cc nL own A D hh) (hH : Hp D A s (wr ++ wc) H locs) {a : Array Value} {st0 : List Value}
    (hr : vx_Run p l e R s m args below meth c H locs cells slots rm.cells rm.slots (F0 m pc ls st0) rest (Qn D (va_A wc H.size) N a) (Qx D (va_A wc H.size) X) (va_A wc H.size))
    (kk : ∀ (v : Option Value) (w1 : va_W) (H1 : Heap) (locs1 : List Loc), N v w1 → Hp D A s (wr ++ w1) H1 locs1 → W p l e R s m args below meth c H1 locs1 (cells + rm.cells) (slots + rm.slots) Q (F0 m (pc + 3) ls (v.toList ++ rest)))
    (kx : ∀ (E : String) (q9 : Nat) (ce : Cell) (w1 : va_W) (H1 : Heap) (locs1 : List Loc), X E w1 → Hp D A s (wr ++ w1) H1 locs1 → H1[q9]? = some ce → ce.vm = .none → s.vm.findClass E = some ce.cls → vx_W p l e R s m args below meth c H1 locs1 (cells + rm.cells) (slots + rm.slots) Q (F0 m pc ls rest) q9) :
    W p l e R s m args below meth c H locs cells slots Q (F0 m pc ls st0) := by
  have hFc := freeP C hH
  intro T hT XX
  rcases hr T hT XX with ⟨v, st₀, t, T', L, h0, X', hL, e1, e2, ⟨⟨v', w1, hv, hN, hP1, hD1⟩, hF⟩, go⟩ | ⟨q, st₀, t, T', L, E, ce, h0, X', hL, e1, e2, ⟨⟨w1, hx, hP1, hD1⟩, hF⟩, hce, hcv, hcl, go⟩
  · cases hv
    obtain ⟨k1, k2, k3⟩ := vx_keep (A0 := A) (A1 := va_A wc H.size) (free := va_A wc H.size) h0 e1 hH.2.2 (fun q _ h => hFc q h) hFc hL hF
    obtain ⟨t2, a1, b1⟩ := kk v w1 T'.heap (locs ++ L) hN (joinP C hH k3 k2 (by rw [e1]; exact hP1) hD1) T' rfl X'
    exact ⟨t2, go t2 a1, b1⟩
  · obtain ⟨k1, k2, k3⟩ := vx_keep (A0 := A) (A1 := va_A wc H.size) (free := va_A wc H.size) h0 e1 hH.2.2 (fun q _ h => hFc q h) hFc hL hF
    obtain ⟨t2, a1, b1⟩ := kx E q ce w1 T'.heap (locs ++ L) hx (joinP C hH k3 k2 (by rw [e1]; exact hP1) hD1) (by rw [e1]; exact hce) hcv hcl T' rfl X'
    exact ⟨t2, go.trans a1, b1⟩
/-- invokevirtual; the world stands as the rest and the callee's part -/
theorem pV (C : Cx p l s m meth c args cc nL own A D hh) (hK : Kn D s) (hH : Hp D A s (wr ++ wc) H locs) (hM : Ct l y (.code y bytes maxL ret :: tg) rm D wc (.ref b :: As) H.size N X)
    {ci NN : Nat} {fs : List Value} {TT : u_T} (hrc : (b, (.inr (ci, fs) : va_E)) ∈ wc) (hcl : vwCl[ci]? = some (y.cls, TT, NN))
    (w1 : Cond.methodLink own index y ∈ tg) (w2 : Cond.instanceMethod y ∈ tg) (w3 : Cond.selects y.cls y y ∈ tg) (w4 : Cond.initialized y.cls ∈ tg) (w5 : Cond.code y bytes maxL ret ∈ tg)
    (hd : y.cls ≠ "java/lang/invoke/MethodHandle" ∧ y.cls ≠ "java/lang/invoke/VarHandle" ∧ (parseMethodDescriptor y.desc).map (fun d => d.parameters.length) = some As.length) (hR : rm.frames + 1 ≤ R.frames ∧ 8 + (maxL + 11) + rm.locals ≤ R.locals)
    (hl : ls.size = nL) (hrm : (rest.map fun v => v.category).sum ≤ 8) (hdg : decode cc pc = .ok (.invokevirtual index, 3)) (hf : cells + rm.cells ≤ R.cells ∧ slots + rm.slots ≤ R.slots)
    (kk : ∀ (v : Option Value) (w1 : va_W) (H1 : Heap) (locs1 : List Loc), N v w1 → Hp D A s (wr ++ w1) H1 locs1 → W p l e R s m args below meth c H1 locs1 (cells + rm.cells) (slots + rm.slots) Q (F0 m (pc + 3) ls (v.toList ++ rest)))
    (kx : ∀ (E : String) (q9 : Nat) (ce : Cell) (w1 : va_W) (H1 : Heap) (locs1 : List Loc), X E w1 → Hp D A s (wr ++ w1) H1 locs1 → H1[q9]? = some ce → ce.vm = .none → s.vm.findClass E = some ce.cls → vx_W p l e R s m args below meth c H1 locs1 (cells + rm.cells) (slots + rm.slots) Q (F0 m pc ls rest) q9) :
    W p l e R s m args below meth c H locs cells slots Q (F0 m pc ls (As.reverse ++ .ref b :: rest)) := by
  have hG : GoodIn tg (wsV own index y.cls y (.code y bytes maxL ret :: tg)) := tg_GoodIn (fun w hw => by
    simp only [wsV, List.mem_append, List.mem_cons, List.not_mem_nil, or_false] at hw
    rcases hw with (rfl | rfl | rfl | rfl) | rfl | hw
    · exact w1
    · exact w2
    · exact w3
    · exact w4
    · exact w5
    · exact hw)
  obtain ⟨k0, hk0⟩ := List.getElem?_of_mem (List.mem_append_right wr hrc)
  refine runP C hH (vx_runV (b := b) (As := As) (rest := rest) C.fix hM (cwV As.length C.ts hG rfl rfl rfl ⟨rfl, hd⟩ hR) ⟨Pr.blind, ?_, preP C hK hH⟩ rfl rfl hl rfl (lv_room hrm) hdg hf) kk kx
  exact va_recv hK.1 hH.1 hcl hk0
end PCALL
end
