abbrev cJ0_coder : ByteArray := prog_13_method_152_code
def yJ0_coder : MethodName := ⟨"java/lang/String", "coder", "()B"⟩
abbrev wJ0_coder : List Cond := .code yJ0_coder cJ0_coder 1 (some .byte) :: tg
theorem kJ0_coder : Cond.code yJ0_coder cJ0_coder 1 (some .byte) ∈ tg := tg_of 338 (by decide +kernel) rfl
theorem gJ0_coder : GoodIn tg wJ0_coder := tg_GoodIn (fun w h => (List.mem_cons.mp h).elim (fun e => e ▸ kJ0_coder) (fun h => h))
abbrev cJ0_length : ByteArray := prog_13_method_54_code
def yJ0_length : MethodName := ⟨"java/lang/String", "length", "()I"⟩
abbrev wJ0_length : List Cond := .code yJ0_length cJ0_length 1 (some .int) :: tg
theorem kJ0_length : Cond.code yJ0_length cJ0_length 1 (some .int) ∈ tg := tg_of 334 (by decide +kernel) rfl
theorem gJ0_length : GoodIn tg wJ0_length := tg_GoodIn (fun w h => (List.mem_cons.mp h).elim (fun e => e ▸ kJ0_length) (fun h => h))
theorem dJ0_coder_0 : decode cJ0_coder 0 = .ok (.getstatic 38, 3) := by decide +kernel
theorem dJ0_coder_3 : decode cJ0_coder 3 = .ok (.ifCond .eq 10, 3) := by decide +kernel
theorem dJ0_coder_6 : decode cJ0_coder 6 = .ok (.aload_n 0, 1) := by decide +kernel
theorem dJ0_coder_7 : decode cJ0_coder 7 = .ok (.getfield 15, 3) := by decide +kernel
theorem dJ0_coder_10 : decode cJ0_coder 10 = .ok (.goto 4, 3) := by decide +kernel
theorem dJ0_coder_13 : decode cJ0_coder 13 = .ok (.iconst 1, 1) := by decide +kernel
theorem dJ0_coder_14 : decode cJ0_coder 14 = .ok (.ireturn, 1) := by decide +kernel
theorem dJ0_length_0 : decode cJ0_length 0 = .ok (.aload_n 0, 1) := by decide +kernel
theorem dJ0_length_1 : decode cJ0_length 1 = .ok (.getfield 9, 3) := by decide +kernel
theorem dJ0_length_4 : decode cJ0_length 4 = .ok (.arraylength, 1) := by decide +kernel
theorem dJ0_length_5 : decode cJ0_length 5 = .ok (.aload_n 0, 1) := by decide +kernel
theorem dJ0_length_6 : decode cJ0_length 6 = .ok (.invokevirtual 335, 3) := by decide +kernel
theorem dJ0_length_9 : decode cJ0_length 9 = .ok (.ishr, 1) := by decide +kernel
theorem dJ0_length_10 : decode cJ0_length 10 = .ok (.ireturn, 1) := by decide +kernel
