theorem dX3_number_0 : decode cX3_number 0 = .ok (.aload_n 0, 1) := by decide +kernel
theorem dX3_number_1 : decode cX3_number 1 = .ok (.invokevirtual 66, 3) := by decide +kernel
theorem dX3_number_4 : decode cX3_number 4 = .ok (.bipush 48, 2) := by decide +kernel
theorem dX3_number_6 : decode cX3_number 6 = .ok (.isub, 1) := by decide +kernel
theorem dX3_number_7 : decode cX3_number 7 = .ok (.istore_n 1, 1) := by decide +kernel
theorem dX3_number_8 : decode cX3_number 8 = .ok (.iload_n 1, 1) := by decide +kernel
theorem dX3_number_9 : decode cX3_number 9 = .ok (.ifCond .lt 9, 3) := by decide +kernel
theorem dX3_number_12 : decode cX3_number 12 = .ok (.iload_n 1, 1) := by decide +kernel
theorem dX3_number_13 : decode cX3_number 13 = .ok (.bipush 9, 2) := by decide +kernel
theorem dX3_number_15 : decode cX3_number 15 = .ok (.if_icmp .le 5, 3) := by decide +kernel
theorem dX3_number_18 : decode cX3_number 18 = .ok (.iconst (-1), 1) := by decide +kernel
theorem dX3_number_19 : decode cX3_number 19 = .ok (.ireturn, 1) := by decide +kernel
theorem dX3_number_20 : decode cX3_number 20 = .ok (.aload_n 0, 1) := by decide +kernel
theorem dX3_number_21 : decode cX3_number 21 = .ok (.dup, 1) := by decide +kernel
theorem dX3_number_22 : decode cX3_number 22 = .ok (.getfield 63, 3) := by decide +kernel
theorem dX3_number_25 : decode cX3_number 25 = .ok (.iconst 1, 1) := by decide +kernel
theorem dX3_number_26 : decode cX3_number 26 = .ok (.iadd, 1) := by decide +kernel
theorem dX3_number_27 : decode cX3_number 27 = .ok (.putfield 63, 3) := by decide +kernel
theorem dX3_number_30 : decode cX3_number 30 = .ok (.aload_n 0, 1) := by decide +kernel
theorem dX3_number_31 : decode cX3_number 31 = .ok (.invokevirtual 66, 3) := by decide +kernel
theorem dX3_number_34 : decode cX3_number 34 = .ok (.bipush 48, 2) := by decide +kernel
theorem dX3_number_36 : decode cX3_number 36 = .ok (.isub, 1) := by decide +kernel
theorem dX3_number_37 : decode cX3_number 37 = .ok (.istore_n 2, 1) := by decide +kernel
theorem dX3_number_38 : decode cX3_number 38 = .ok (.iload_n 2, 1) := by decide +kernel
theorem dX3_number_39 : decode cX3_number 39 = .ok (.ifCond .lt 37, 3) := by decide +kernel
theorem dX3_number_42 : decode cX3_number 42 = .ok (.iload_n 2, 1) := by decide +kernel
theorem dX3_number_43 : decode cX3_number 43 = .ok (.bipush 9, 2) := by decide +kernel
theorem dX3_number_45 : decode cX3_number 45 = .ok (.if_icmp .gt 31, 3) := by decide +kernel
theorem dX3_number_48 : decode cX3_number 48 = .ok (.iload_n 1, 1) := by decide +kernel
theorem dX3_number_49 : decode cX3_number 49 = .ok (.bipush 10, 2) := by decide +kernel
theorem dX3_number_51 : decode cX3_number 51 = .ok (.imul, 1) := by decide +kernel
theorem dX3_number_52 : decode cX3_number 52 = .ok (.iload_n 2, 1) := by decide +kernel
theorem dX3_number_53 : decode cX3_number 53 = .ok (.iadd, 1) := by decide +kernel
theorem dX3_number_54 : decode cX3_number 54 = .ok (.bipush 63, 2) := by decide +kernel
theorem dX3_number_56 : decode cX3_number 56 = .ok (.if_icmp .gt 20, 3) := by decide +kernel
theorem dX3_number_59 : decode cX3_number 59 = .ok (.aload_n 0, 1) := by decide +kernel
theorem dX3_number_60 : decode cX3_number 60 = .ok (.dup, 1) := by decide +kernel
theorem dX3_number_61 : decode cX3_number 61 = .ok (.getfield 63, 3) := by decide +kernel
theorem dX3_number_64 : decode cX3_number 64 = .ok (.iconst 1, 1) := by decide +kernel
theorem dX3_number_65 : decode cX3_number 65 = .ok (.iadd, 1) := by decide +kernel
theorem dX3_number_66 : decode cX3_number 66 = .ok (.putfield 63, 3) := by decide +kernel
theorem dX3_number_69 : decode cX3_number 69 = .ok (.iload_n 1, 1) := by decide +kernel
theorem dX3_number_70 : decode cX3_number 70 = .ok (.bipush 10, 2) := by decide +kernel
theorem dX3_number_72 : decode cX3_number 72 = .ok (.imul, 1) := by decide +kernel
theorem dX3_number_73 : decode cX3_number 73 = .ok (.iload_n 2, 1) := by decide +kernel
theorem dX3_number_74 : decode cX3_number 74 = .ok (.iadd, 1) := by decide +kernel
theorem dX3_number_75 : decode cX3_number 75 = .ok (.istore_n 1, 1) := by decide +kernel
theorem dX3_number_76 : decode cX3_number 76 = .ok (.iload_n 1, 1) := by decide +kernel
theorem dX3_number_77 : decode cX3_number 77 = .ok (.ireturn, 1) := by decide +kernel
theorem dX3_erase_0 : decode cX3_erase 0 = .ok (.aload_n 0, 1) := by decide +kernel
theorem dX3_erase_1 : decode cX3_erase 1 = .ok (.iload_n 1, 1) := by decide +kernel
theorem dX3_erase_2 : decode cX3_erase 2 = .ok (.ifCond .lt 9, 3) := by decide +kernel
theorem dX3_erase_5 : decode cX3_erase 5 = .ok (.iload_n 1, 1) := by decide +kernel
theorem dX3_erase_6 : decode cX3_erase 6 = .ok (.bipush 63, 2) := by decide +kernel
theorem dX3_erase_8 : decode cX3_erase 8 = .ok (.if_icmp .le 7, 3) := by decide +kernel
theorem dX3_erase_11 : decode cX3_erase 11 = .ok (.iconst 1, 1) := by decide +kernel
theorem dX3_erase_12 : decode cX3_erase 12 = .ok (.goto 17, 3) := by decide +kernel
theorem dX3_erase_15 : decode cX3_erase 15 = .ok (.aload_n 0, 1) := by decide +kernel
theorem dX3_erase_16 : decode cX3_erase 16 = .ok (.getfield 49, 3) := by decide +kernel
theorem dX3_erase_19 : decode cX3_erase 19 = .ok (.iload_n 1, 1) := by decide +kernel
theorem dX3_erase_20 : decode cX3_erase 20 = .ok (.baload, 1) := by decide +kernel
theorem dX3_erase_21 : decode cX3_erase 21 = .ok (.ifCond .ne 7, 3) := by decide +kernel
theorem dX3_erase_24 : decode cX3_erase 24 = .ok (.iconst 2, 1) := by decide +kernel
theorem dX3_erase_25 : decode cX3_erase 25 = .ok (.goto 4, 3) := by decide +kernel
theorem dX3_erase_28 : decode cX3_erase 28 = .ok (.iconst 0, 1) := by decide +kernel
theorem dX3_erase_29 : decode cX3_erase 29 = .ok (.putfield 57, 3) := by decide +kernel
theorem dX3_erase_32 : decode cX3_erase 32 = .ok (.aload_n 0, 1) := by decide +kernel
theorem dX3_erase_33 : decode cX3_erase 33 = .ok (.getfield 57, 3) := by decide +kernel
theorem dX3_erase_36 : decode cX3_erase 36 = .ok (.ifCond .ne 10, 3) := by decide +kernel
theorem dX3_erase_39 : decode cX3_erase 39 = .ok (.aload_n 0, 1) := by decide +kernel
theorem dX3_erase_40 : decode cX3_erase 40 = .ok (.getfield 49, 3) := by decide +kernel
theorem dX3_erase_43 : decode cX3_erase 43 = .ok (.iload_n 1, 1) := by decide +kernel
theorem dX3_erase_44 : decode cX3_erase 44 = .ok (.iconst 0, 1) := by decide +kernel
theorem dX3_erase_45 : decode cX3_erase 45 = .ok (.bastore, 1) := by decide +kernel
theorem dX3_erase_46 : decode cX3_erase 46 = .ok (.return_, 1) := by decide +kernel
theorem dX3_begin_0 : decode cX3_begin 0 = .ok (.aload_n 0, 1) := by decide +kernel
theorem dX3_begin_1 : decode cX3_begin 1 = .ok (.iload_n 1, 1) := by decide +kernel
theorem dX3_begin_2 : decode cX3_begin 2 = .ok (.ifCond .lt 9, 3) := by decide +kernel
theorem dX3_begin_5 : decode cX3_begin 5 = .ok (.iload_n 1, 1) := by decide +kernel
theorem dX3_begin_6 : decode cX3_begin 6 = .ok (.bipush 63, 2) := by decide +kernel
theorem dX3_begin_8 : decode cX3_begin 8 = .ok (.if_icmp .le 7, 3) := by decide +kernel
theorem dX3_begin_11 : decode cX3_begin 11 = .ok (.iconst 1, 1) := by decide +kernel
theorem dX3_begin_12 : decode cX3_begin 12 = .ok (.goto 4, 3) := by decide +kernel
theorem dX3_begin_15 : decode cX3_begin 15 = .ok (.iconst 0, 1) := by decide +kernel
theorem dX3_begin_16 : decode cX3_begin 16 = .ok (.putfield 57, 3) := by decide +kernel
theorem dX3_begin_19 : decode cX3_begin 19 = .ok (.aload_n 0, 1) := by decide +kernel
theorem dX3_begin_20 : decode cX3_begin 20 = .ok (.getfield 57, 3) := by decide +kernel
theorem dX3_begin_23 : decode cX3_begin 23 = .ok (.ifCond .eq 4, 3) := by decide +kernel
theorem dX3_begin_26 : decode cX3_begin 26 = .ok (.return_, 1) := by decide +kernel
theorem dX3_begin_27 : decode cX3_begin 27 = .ok (.aload_n 0, 1) := by decide +kernel
theorem dX3_begin_28 : decode cX3_begin 28 = .ok (.iload_n 1, 1) := by decide +kernel
theorem dX3_begin_29 : decode cX3_begin 29 = .ok (.putfield 108, 3) := by decide +kernel
theorem dX3_begin_32 : decode cX3_begin 32 = .ok (.aload_n 0, 1) := by decide +kernel
theorem dX3_begin_33 : decode cX3_begin 33 = .ok (.iconst 0, 1) := by decide +kernel
theorem dX3_begin_34 : decode cX3_begin 34 = .ok (.putfield 111, 3) := by decide +kernel
theorem dX3_begin_37 : decode cX3_begin 37 = .ok (.aload_n 0, 1) := by decide +kernel
theorem dX3_begin_38 : decode cX3_begin 38 = .ok (.iconst 0, 1) := by decide +kernel
theorem dX3_begin_39 : decode cX3_begin 39 = .ok (.putfield 115, 3) := by decide +kernel
theorem dX3_begin_42 : decode cX3_begin 42 = .ok (.return_, 1) := by decide +kernel
theorem dX3_run_0 : decode cX3_run 0 = .ok (.aload_n 0, 1) := by decide +kernel
theorem dX3_run_1 : decode cX3_run 1 = .ok (.iload_n 1, 1) := by decide +kernel
theorem dX3_run_2 : decode cX3_run 2 = .ok (.iconst 1, 1) := by decide +kernel
theorem dX3_run_3 : decode cX3_run 3 = .ok (.if_icmp .lt 10, 3) := by decide +kernel
theorem dX3_run_6 : decode cX3_run 6 = .ok (.iload_n 1, 1) := by decide +kernel
theorem dX3_run_7 : decode cX3_run 7 = .ok (.sipush 500, 3) := by decide +kernel
theorem dX3_run_10 : decode cX3_run 10 = .ok (.if_icmp .le 7, 3) := by decide +kernel
theorem dX3_run_13 : decode cX3_run 13 = .ok (.iconst 1, 1) := by decide +kernel
theorem dX3_run_14 : decode cX3_run 14 = .ok (.goto 4, 3) := by decide +kernel
theorem dX3_run_17 : decode cX3_run 17 = .ok (.iconst 0, 1) := by decide +kernel
theorem dX3_run_18 : decode cX3_run 18 = .ok (.putfield 57, 3) := by decide +kernel
theorem dX3_run_21 : decode cX3_run 21 = .ok (.iconst 0, 1) := by decide +kernel
theorem dX3_run_22 : decode cX3_run 22 = .ok (.istore_n 2, 1) := by decide +kernel
theorem dX3_run_23 : decode cX3_run 23 = .ok (.iload_n 2, 1) := by decide +kernel
theorem dX3_run_24 : decode cX3_run 24 = .ok (.iload_n 1, 1) := by decide +kernel
theorem dX3_run_25 : decode cX3_run 25 = .ok (.if_icmp .ge 44, 3) := by decide +kernel
theorem dX3_run_28 : decode cX3_run 28 = .ok (.aload_n 0, 1) := by decide +kernel
theorem dX3_run_29 : decode cX3_run 29 = .ok (.getfield 57, 3) := by decide +kernel
theorem dX3_run_32 : decode cX3_run 32 = .ok (.ifCond .ne 37, 3) := by decide +kernel
theorem dX3_run_35 : decode cX3_run 35 = .ok (.aload_n 0, 1) := by decide +kernel
theorem dX3_run_36 : decode cX3_run 36 = .ok (.getfield 49, 3) := by decide +kernel
theorem dX3_run_39 : decode cX3_run 39 = .ok (.aload_n 0, 1) := by decide +kernel
theorem dX3_run_40 : decode cX3_run 40 = .ok (.getfield 108, 3) := by decide +kernel
theorem dX3_run_43 : decode cX3_run 43 = .ok (.baload, 1) := by decide +kernel
theorem dX3_run_44 : decode cX3_run 44 = .ok (.ifCond .ne 11, 3) := by decide +kernel
theorem dX3_run_47 : decode cX3_run 47 = .ok (.aload_n 0, 1) := by decide +kernel
theorem dX3_run_48 : decode cX3_run 48 = .ok (.iconst 2, 1) := by decide +kernel
theorem dX3_run_49 : decode cX3_run 49 = .ok (.putfield 57, 3) := by decide +kernel
theorem dX3_run_52 : decode cX3_run 52 = .ok (.goto 11, 3) := by decide +kernel
theorem dX3_run_55 : decode cX3_run 55 = .ok (.aload_n 0, 1) := by decide +kernel
theorem dX3_run_56 : decode cX3_run 56 = .ok (.aload_n 0, 1) := by decide +kernel
theorem dX3_run_57 : decode cX3_run 57 = .ok (.getfield 108, 3) := by decide +kernel
theorem dX3_run_60 : decode cX3_run 60 = .ok (.invokevirtual 142, 3) := by decide +kernel
theorem dX3_run_63 : decode cX3_run 63 = .ok (.iinc 2 1, 3) := by decide +kernel
theorem dX3_run_66 : decode cX3_run 66 = .ok (.goto (-43), 3) := by decide +kernel
theorem dX3_run_69 : decode cX3_run 69 = .ok (.aload_n 0, 1) := by decide +kernel
theorem dX3_run_70 : decode cX3_run 70 = .ok (.getfield 57, 3) := by decide +kernel
theorem dX3_run_73 : decode cX3_run 73 = .ok (.ifCond .ne 10, 3) := by decide +kernel
theorem dX3_run_76 : decode cX3_run 76 = .ok (.aload_n 0, 1) := by decide +kernel
theorem dX3_run_77 : decode cX3_run 77 = .ok (.getfield 108, 3) := by decide +kernel
theorem dX3_run_80 : decode cX3_run 80 = .ok (.goto 4, 3) := by decide +kernel
theorem dX3_run_83 : decode cX3_run 83 = .ok (.iconst 0, 1) := by decide +kernel
theorem dX3_run_84 : decode cX3_run 84 = .ok (.ireturn, 1) := by decide +kernel
theorem dX3_cycle_0 : decode cX3_cycle 0 = .ok (.aload_n 0, 1) := by decide +kernel
theorem dX3_cycle_1 : decode cX3_cycle 1 = .ok (.iload_n 1, 1) := by decide +kernel
theorem dX3_cycle_2 : decode cX3_cycle 2 = .ok (.invokevirtual 118, 3) := by decide +kernel
theorem dX3_cycle_5 : decode cX3_cycle 5 = .ok (.istore_n 2, 1) := by decide +kernel
theorem dX3_cycle_6 : decode cX3_cycle 6 = .ok (.aload_n 0, 1) := by decide +kernel
theorem dX3_cycle_7 : decode cX3_cycle 7 = .ok (.getfield 31, 3) := by decide +kernel
theorem dX3_cycle_10 : decode cX3_cycle 10 = .ok (.iload_n 1, 1) := by decide +kernel
theorem dX3_cycle_11 : decode cX3_cycle 11 = .ok (.iaload, 1) := by decide +kernel
theorem dX3_cycle_12 : decode cX3_cycle 12 = .ok (.iconst 1, 1) := by decide +kernel
theorem dX3_cycle_13 : decode cX3_cycle 13 = .ok (.if_icmp .ne 10, 3) := by decide +kernel
theorem dX3_cycle_16 : decode cX3_cycle 16 = .ok (.iload_n 2, 1) := by decide +kernel
theorem dX3_cycle_17 : decode cX3_cycle 17 = .ok (.bipush 8, 2) := by decide +kernel
theorem dX3_cycle_19 : decode cX3_cycle 19 = .ok (.ishl, 1) := by decide +kernel
theorem dX3_cycle_20 : decode cX3_cycle 20 = .ok (.goto 20, 3) := by decide +kernel
theorem dX3_cycle_23 : decode cX3_cycle 23 = .ok (.aload_n 0, 1) := by decide +kernel
theorem dX3_cycle_24 : decode cX3_cycle 24 = .ok (.getfield 31, 3) := by decide +kernel
theorem dX3_cycle_27 : decode cX3_cycle 27 = .ok (.iload_n 1, 1) := by decide +kernel
theorem dX3_cycle_28 : decode cX3_cycle 28 = .ok (.iaload, 1) := by decide +kernel
theorem dX3_cycle_29 : decode cX3_cycle 29 = .ok (.iconst 2, 1) := by decide +kernel
theorem dX3_cycle_30 : decode cX3_cycle 30 = .ok (.if_icmp .ne 9, 3) := by decide +kernel
theorem dX3_cycle_33 : decode cX3_cycle 33 = .ok (.iload_n 2, 1) := by decide +kernel
theorem dX3_cycle_34 : decode cX3_cycle 34 = .ok (.iconst 1, 1) := by decide +kernel
theorem dX3_cycle_35 : decode cX3_cycle 35 = .ok (.ishr, 1) := by decide +kernel
theorem dX3_cycle_36 : decode cX3_cycle 36 = .ok (.goto 4, 3) := by decide +kernel
theorem dX3_cycle_39 : decode cX3_cycle 39 = .ok (.iload_n 2, 1) := by decide +kernel
theorem dX3_cycle_40 : decode cX3_cycle 40 = .ok (.istore_n 3, 1) := by decide +kernel
theorem dX3_cycle_41 : decode cX3_cycle 41 = .ok (.aload_n 0, 1) := by decide +kernel
theorem dX3_cycle_42 : decode cX3_cycle 42 = .ok (.iload_n 1, 1) := by decide +kernel
theorem dX3_cycle_43 : decode cX3_cycle 43 = .ok (.iconst 0, 1) := by decide +kernel
theorem dX3_cycle_44 : decode cX3_cycle 44 = .ok (.iload_n 3, 1) := by decide +kernel
theorem dX3_cycle_45 : decode cX3_cycle 45 = .ok (.invokevirtual 121, 3) := by decide +kernel
theorem dX3_cycle_48 : decode cX3_cycle 48 = .ok (.istore 4, 2) := by decide +kernel
theorem dX3_cycle_50 : decode cX3_cycle 50 = .ok (.aload_n 0, 1) := by decide +kernel
theorem dX3_cycle_51 : decode cX3_cycle 51 = .ok (.iload_n 1, 1) := by decide +kernel
theorem dX3_cycle_52 : decode cX3_cycle 52 = .ok (.iconst 2, 1) := by decide +kernel
theorem dX3_cycle_53 : decode cX3_cycle 53 = .ok (.iload_n 3, 1) := by decide +kernel
theorem dX3_cycle_54 : decode cX3_cycle 54 = .ok (.invokevirtual 121, 3) := by decide +kernel
theorem dX3_cycle_57 : decode cX3_cycle 57 = .ok (.istore 5, 2) := by decide +kernel
theorem dX3_cycle_59 : decode cX3_cycle 59 = .ok (.aload_n 0, 1) := by decide +kernel
theorem dX3_cycle_60 : decode cX3_cycle 60 = .ok (.getfield 34, 3) := by decide +kernel
theorem dX3_cycle_63 : decode cX3_cycle 63 = .ok (.iload_n 1, 1) := by decide +kernel
theorem dX3_cycle_64 : decode cX3_cycle 64 = .ok (.iaload, 1) := by decide +kernel
theorem dX3_cycle_65 : decode cX3_cycle 65 = .ok (.ifCond .eq 15, 3) := by decide +kernel
theorem dX3_cycle_68 : decode cX3_cycle 68 = .ok (.iload 4, 2) := by decide +kernel
theorem dX3_cycle_70 : decode cX3_cycle 70 = .ok (.ifCond .lt 31, 3) := by decide +kernel
theorem dX3_cycle_73 : decode cX3_cycle 73 = .ok (.iload 4, 2) := by decide +kernel
theorem dX3_cycle_75 : decode cX3_cycle 75 = .ok (.bipush 63, 2) := by decide +kernel
theorem dX3_cycle_77 : decode cX3_cycle 77 = .ok (.if_icmp .gt 24, 3) := by decide +kernel
theorem dX3_cycle_80 : decode cX3_cycle 80 = .ok (.aload_n 0, 1) := by decide +kernel
theorem dX3_cycle_81 : decode cX3_cycle 81 = .ok (.getfield 37, 3) := by decide +kernel
theorem dX3_cycle_84 : decode cX3_cycle 84 = .ok (.iload_n 1, 1) := by decide +kernel
theorem dX3_cycle_85 : decode cX3_cycle 85 = .ok (.iaload, 1) := by decide +kernel
theorem dX3_cycle_86 : decode cX3_cycle 86 = .ok (.ifCond .eq 21, 3) := by decide +kernel
theorem dX3_cycle_89 : decode cX3_cycle 89 = .ok (.iload 5, 2) := by decide +kernel
theorem dX3_cycle_91 : decode cX3_cycle 91 = .ok (.ifCond .lt 10, 3) := by decide +kernel
theorem dX3_cycle_94 : decode cX3_cycle 94 = .ok (.iload 5, 2) := by decide +kernel
theorem dX3_cycle_96 : decode cX3_cycle 96 = .ok (.bipush 63, 2) := by decide +kernel
theorem dX3_cycle_98 : decode cX3_cycle 98 = .ok (.if_icmp .le 9, 3) := by decide +kernel
theorem dX3_cycle_101 : decode cX3_cycle 101 = .ok (.aload_n 0, 1) := by decide +kernel
theorem dX3_cycle_102 : decode cX3_cycle 102 = .ok (.iconst 3, 1) := by decide +kernel
theorem dX3_cycle_103 : decode cX3_cycle 103 = .ok (.putfield 57, 3) := by decide +kernel
theorem dX3_cycle_106 : decode cX3_cycle 106 = .ok (.return_, 1) := by decide +kernel
theorem dX3_cycle_107 : decode cX3_cycle 107 = .ok (.iconst 0, 1) := by decide +kernel
theorem dX3_cycle_108 : decode cX3_cycle 108 = .ok (.istore 6, 2) := by decide +kernel
theorem dX3_cycle_110 : decode cX3_cycle 110 = .ok (.iload 6, 2) := by decide +kernel
theorem dX3_cycle_112 : decode cX3_cycle 112 = .ok (.bipush 9, 2) := by decide +kernel
theorem dX3_cycle_114 : decode cX3_cycle 114 = .ok (.if_icmp .ge 24, 3) := by decide +kernel
theorem dX3_cycle_117 : decode cX3_cycle 117 = .ok (.aload_n 0, 1) := by decide +kernel
theorem dX3_cycle_118 : decode cX3_cycle 118 = .ok (.getfield 13, 3) := by decide +kernel
theorem dX3_cycle_121 : decode cX3_cycle 121 = .ok (.iload 6, 2) := by decide +kernel
theorem dX3_cycle_123 : decode cX3_cycle 123 = .ok (.aload_n 0, 1) := by decide +kernel
theorem dX3_cycle_124 : decode cX3_cycle 124 = .ok (.iload_n 1, 1) := by decide +kernel
theorem dX3_cycle_125 : decode cX3_cycle 125 = .ok (.iload 6, 2) := by decide +kernel
theorem dX3_cycle_127 : decode cX3_cycle 127 = .ok (.iload_n 3, 1) := by decide +kernel
theorem dX3_cycle_128 : decode cX3_cycle 128 = .ok (.invokevirtual 121, 3) := by decide +kernel
theorem dX3_cycle_131 : decode cX3_cycle 131 = .ok (.iastore, 1) := by decide +kernel
theorem dX3_cycle_132 : decode cX3_cycle 132 = .ok (.iinc 6 1, 3) := by decide +kernel
theorem dX3_cycle_135 : decode cX3_cycle 135 = .ok (.goto (-25), 3) := by decide +kernel
theorem dX3_cycle_138 : decode cX3_cycle 138 = .ok (.aload_n 0, 1) := by decide +kernel
theorem dX3_cycle_139 : decode cX3_cycle 139 = .ok (.getfield 34, 3) := by decide +kernel
theorem dX3_cycle_142 : decode cX3_cycle 142 = .ok (.iload_n 1, 1) := by decide +kernel
theorem dX3_cycle_143 : decode cX3_cycle 143 = .ok (.iaload, 1) := by decide +kernel
theorem dX3_cycle_144 : decode cX3_cycle 144 = .ok (.iconst 1, 1) := by decide +kernel
theorem dX3_cycle_145 : decode cX3_cycle 145 = .ok (.if_icmp .ne 13, 3) := by decide +kernel
theorem dX3_cycle_148 : decode cX3_cycle 148 = .ok (.aload_n 0, 1) := by decide +kernel
theorem dX3_cycle_149 : decode cX3_cycle 149 = .ok (.getfield 16, 3) := by decide +kernel
theorem dX3_cycle_152 : decode cX3_cycle 152 = .ok (.iload 4, 2) := by decide +kernel
theorem dX3_cycle_154 : decode cX3_cycle 154 = .ok (.iaload, 1) := by decide +kernel
theorem dX3_cycle_155 : decode cX3_cycle 155 = .ok (.goto 4, 3) := by decide +kernel
theorem dX3_cycle_158 : decode cX3_cycle 158 = .ok (.iconst 0, 1) := by decide +kernel
theorem dX3_cycle_159 : decode cX3_cycle 159 = .ok (.istore 6, 2) := by decide +kernel
theorem dX3_cycle_161 : decode cX3_cycle 161 = .ok (.aload_n 0, 1) := by decide +kernel
theorem dX3_cycle_162 : decode cX3_cycle 162 = .ok (.getfield 34, 3) := by decide +kernel
theorem dX3_cycle_165 : decode cX3_cycle 165 = .ok (.iload_n 1, 1) := by decide +kernel
theorem dX3_cycle_166 : decode cX3_cycle 166 = .ok (.iaload, 1) := by decide +kernel
theorem dX3_cycle_167 : decode cX3_cycle 167 = .ok (.iconst 1, 1) := by decide +kernel
theorem dX3_cycle_168 : decode cX3_cycle 168 = .ok (.if_icmp .ne 13, 3) := by decide +kernel
theorem dX3_cycle_171 : decode cX3_cycle 171 = .ok (.aload_n 0, 1) := by decide +kernel
theorem dX3_cycle_172 : decode cX3_cycle 172 = .ok (.dup, 1) := by decide +kernel
theorem dX3_cycle_173 : decode cX3_cycle 173 = .ok (.getfield 125, 3) := by decide +kernel
theorem dX3_cycle_176 : decode cX3_cycle 176 = .ok (.iconst 1, 1) := by decide +kernel
theorem dX3_cycle_177 : decode cX3_cycle 177 = .ok (.iadd, 1) := by decide +kernel
theorem dX3_cycle_178 : decode cX3_cycle 178 = .ok (.putfield 125, 3) := by decide +kernel
theorem dX3_cycle_181 : decode cX3_cycle 181 = .ok (.aload_n 0, 1) := by decide +kernel
theorem dX3_cycle_182 : decode cX3_cycle 182 = .ok (.getfield 34, 3) := by decide +kernel
theorem dX3_cycle_185 : decode cX3_cycle 185 = .ok (.iload_n 1, 1) := by decide +kernel
theorem dX3_cycle_186 : decode cX3_cycle 186 = .ok (.iaload, 1) := by decide +kernel
theorem dX3_cycle_187 : decode cX3_cycle 187 = .ok (.iconst 2, 1) := by decide +kernel
theorem dX3_cycle_188 : decode cX3_cycle 188 = .ok (.if_icmp .ne 26, 3) := by decide +kernel
theorem dX3_cycle_191 : decode cX3_cycle 191 = .ok (.aload_n 0, 1) := by decide +kernel
theorem dX3_cycle_192 : decode cX3_cycle 192 = .ok (.getfield 16, 3) := by decide +kernel
theorem dX3_cycle_195 : decode cX3_cycle 195 = .ok (.iload 4, 2) := by decide +kernel
theorem dX3_cycle_197 : decode cX3_cycle 197 = .ok (.aload_n 0, 1) := by decide +kernel
theorem dX3_cycle_198 : decode cX3_cycle 198 = .ok (.getfield 13, 3) := by decide +kernel
theorem dX3_cycle_201 : decode cX3_cycle 201 = .ok (.iconst 1, 1) := by decide +kernel
theorem dX3_cycle_202 : decode cX3_cycle 202 = .ok (.iaload, 1) := by decide +kernel
theorem dX3_cycle_203 : decode cX3_cycle 203 = .ok (.iastore, 1) := by decide +kernel
theorem dX3_cycle_204 : decode cX3_cycle 204 = .ok (.aload_n 0, 1) := by decide +kernel
theorem dX3_cycle_205 : decode cX3_cycle 205 = .ok (.dup, 1) := by decide +kernel
theorem dX3_cycle_206 : decode cX3_cycle 206 = .ok (.getfield 127, 3) := by decide +kernel
theorem dX3_cycle_209 : decode cX3_cycle 209 = .ok (.iconst 1, 1) := by decide +kernel
theorem dX3_cycle_210 : decode cX3_cycle 210 = .ok (.iadd, 1) := by decide +kernel
theorem dX3_cycle_211 : decode cX3_cycle 211 = .ok (.putfield 127, 3) := by decide +kernel
theorem dX3_cycle_214 : decode cX3_cycle 214 = .ok (.aload_n 0, 1) := by decide +kernel
theorem dX3_cycle_215 : decode cX3_cycle 215 = .ok (.getfield 111, 3) := by decide +kernel
theorem dX3_cycle_218 : decode cX3_cycle 218 = .ok (.ifCond .eq 13, 3) := by decide +kernel
theorem dX3_cycle_221 : decode cX3_cycle 221 = .ok (.aload_n 0, 1) := by decide +kernel
theorem dX3_cycle_222 : decode cX3_cycle 222 = .ok (.getfield 13, 3) := by decide +kernel
theorem dX3_cycle_225 : decode cX3_cycle 225 = .ok (.iconst 1, 1) := by decide +kernel
theorem dX3_cycle_226 : decode cX3_cycle 226 = .ok (.aload_n 0, 1) := by decide +kernel
theorem dX3_cycle_227 : decode cX3_cycle 227 = .ok (.getfield 130, 3) := by decide +kernel
theorem dX3_cycle_230 : decode cX3_cycle 230 = .ok (.iastore, 1) := by decide +kernel
theorem dX3_cycle_231 : decode cX3_cycle 231 = .ok (.aload_n 0, 1) := by decide +kernel
theorem dX3_cycle_232 : decode cX3_cycle 232 = .ok (.getfield 115, 3) := by decide +kernel
theorem dX3_cycle_235 : decode cX3_cycle 235 = .ok (.ifCond .eq 14, 3) := by decide +kernel
theorem dX3_cycle_238 : decode cX3_cycle 238 = .ok (.aload_n 0, 1) := by decide +kernel
theorem dX3_cycle_239 : decode cX3_cycle 239 = .ok (.getfield 13, 3) := by decide +kernel
theorem dX3_cycle_242 : decode cX3_cycle 242 = .ok (.bipush 9, 2) := by decide +kernel
theorem dX3_cycle_244 : decode cX3_cycle 244 = .ok (.aload_n 0, 1) := by decide +kernel
theorem dX3_cycle_245 : decode cX3_cycle 245 = .ok (.getfield 133, 3) := by decide +kernel
theorem dX3_cycle_248 : decode cX3_cycle 248 = .ok (.iastore, 1) := by decide +kernel
theorem dX3_cycle_249 : decode cX3_cycle 249 = .ok (.aload_n 0, 1) := by decide +kernel
theorem dX3_cycle_250 : decode cX3_cycle 250 = .ok (.aload_n 0, 1) := by decide +kernel
theorem dX3_cycle_251 : decode cX3_cycle 251 = .ok (.getfield 34, 3) := by decide +kernel
theorem dX3_cycle_254 : decode cX3_cycle 254 = .ok (.iload_n 1, 1) := by decide +kernel
theorem dX3_cycle_255 : decode cX3_cycle 255 = .ok (.iaload, 1) := by decide +kernel
theorem dX3_cycle_256 : decode cX3_cycle 256 = .ok (.iconst 1, 1) := by decide +kernel
theorem dX3_cycle_257 : decode cX3_cycle 257 = .ok (.if_icmp .ne 7, 3) := by decide +kernel
theorem dX3_cycle_260 : decode cX3_cycle 260 = .ok (.iconst 1, 1) := by decide +kernel
theorem dX3_cycle_261 : decode cX3_cycle 261 = .ok (.goto 4, 3) := by decide +kernel
theorem dX3_cycle_264 : decode cX3_cycle 264 = .ok (.iconst 0, 1) := by decide +kernel
theorem dX3_cycle_265 : decode cX3_cycle 265 = .ok (.putfield 111, 3) := by decide +kernel
theorem dX3_cycle_268 : decode cX3_cycle 268 = .ok (.aload_n 0, 1) := by decide +kernel
theorem dX3_cycle_269 : decode cX3_cycle 269 = .ok (.iload 6, 2) := by decide +kernel
theorem dX3_cycle_271 : decode cX3_cycle 271 = .ok (.putfield 130, 3) := by decide +kernel
theorem dX3_cycle_274 : decode cX3_cycle 274 = .ok (.aload_n 0, 1) := by decide +kernel
theorem dX3_cycle_275 : decode cX3_cycle 275 = .ok (.aload_n 0, 1) := by decide +kernel
theorem dX3_cycle_276 : decode cX3_cycle 276 = .ok (.getfield 37, 3) := by decide +kernel
theorem dX3_cycle_279 : decode cX3_cycle 279 = .ok (.iload_n 1, 1) := by decide +kernel
theorem dX3_cycle_280 : decode cX3_cycle 280 = .ok (.iaload, 1) := by decide +kernel
theorem dX3_cycle_281 : decode cX3_cycle 281 = .ok (.iconst 1, 1) := by decide +kernel
theorem dX3_cycle_282 : decode cX3_cycle 282 = .ok (.if_icmp .ne 7, 3) := by decide +kernel
theorem dX3_cycle_285 : decode cX3_cycle 285 = .ok (.iconst 1, 1) := by decide +kernel
theorem dX3_cycle_286 : decode cX3_cycle 286 = .ok (.goto 4, 3) := by decide +kernel
theorem dX3_cycle_289 : decode cX3_cycle 289 = .ok (.iconst 0, 1) := by decide +kernel
theorem dX3_cycle_290 : decode cX3_cycle 290 = .ok (.putfield 115, 3) := by decide +kernel
theorem dX3_cycle_293 : decode cX3_cycle 293 = .ok (.aload_n 0, 1) := by decide +kernel
theorem dX3_cycle_294 : decode cX3_cycle 294 = .ok (.getfield 115, 3) := by decide +kernel
theorem dX3_cycle_297 : decode cX3_cycle 297 = .ok (.ifCond .eq 24, 3) := by decide +kernel
theorem dX3_cycle_300 : decode cX3_cycle 300 = .ok (.aload_n 0, 1) := by decide +kernel
theorem dX3_cycle_301 : decode cX3_cycle 301 = .ok (.aload_n 0, 1) := by decide +kernel
theorem dX3_cycle_302 : decode cX3_cycle 302 = .ok (.getfield 19, 3) := by decide +kernel
theorem dX3_cycle_305 : decode cX3_cycle 305 = .ok (.iload 5, 2) := by decide +kernel
theorem dX3_cycle_307 : decode cX3_cycle 307 = .ok (.iaload, 1) := by decide +kernel
theorem dX3_cycle_308 : decode cX3_cycle 308 = .ok (.putfield 133, 3) := by decide +kernel
theorem dX3_cycle_311 : decode cX3_cycle 311 = .ok (.aload_n 0, 1) := by decide +kernel
theorem dX3_cycle_312 : decode cX3_cycle 312 = .ok (.dup, 1) := by decide +kernel
theorem dX3_cycle_313 : decode cX3_cycle 313 = .ok (.getfield 136, 3) := by decide +kernel
theorem dX3_cycle_316 : decode cX3_cycle 316 = .ok (.iconst 1, 1) := by decide +kernel
theorem dX3_cycle_317 : decode cX3_cycle 317 = .ok (.iadd, 1) := by decide +kernel
theorem dX3_cycle_318 : decode cX3_cycle 318 = .ok (.putfield 136, 3) := by decide +kernel
theorem dX3_cycle_321 : decode cX3_cycle 321 = .ok (.aload_n 0, 1) := by decide +kernel
theorem dX3_cycle_322 : decode cX3_cycle 322 = .ok (.dup, 1) := by decide +kernel
theorem dX3_cycle_323 : decode cX3_cycle 323 = .ok (.getfield 139, 3) := by decide +kernel
theorem dX3_cycle_326 : decode cX3_cycle 326 = .ok (.iconst 1, 1) := by decide +kernel
theorem dX3_cycle_327 : decode cX3_cycle 327 = .ok (.iadd, 1) := by decide +kernel
theorem dX3_cycle_328 : decode cX3_cycle 328 = .ok (.putfield 139, 3) := by decide +kernel
theorem dX3_cycle_331 : decode cX3_cycle 331 = .ok (.aload_n 0, 1) := by decide +kernel
theorem dX3_cycle_332 : decode cX3_cycle 332 = .ok (.getfield 43, 3) := by decide +kernel
theorem dX3_cycle_335 : decode cX3_cycle 335 = .ok (.iload_n 1, 1) := by decide +kernel
theorem dX3_cycle_336 : decode cX3_cycle 336 = .ok (.iaload, 1) := by decide +kernel
theorem dX3_cycle_337 : decode cX3_cycle 337 = .ok (.ifCond .ge 7, 3) := by decide +kernel
theorem dX3_cycle_340 : decode cX3_cycle 340 = .ok (.iconst 0, 1) := by decide +kernel
theorem dX3_cycle_341 : decode cX3_cycle 341 = .ok (.goto 9, 3) := by decide +kernel
theorem dX3_cycle_344 : decode cX3_cycle 344 = .ok (.aload_n 0, 1) := by decide +kernel
theorem dX3_cycle_345 : decode cX3_cycle 345 = .ok (.getfield 43, 3) := by decide +kernel
theorem dX3_cycle_348 : decode cX3_cycle 348 = .ok (.iload_n 1, 1) := by decide +kernel
theorem dX3_cycle_349 : decode cX3_cycle 349 = .ok (.iaload, 1) := by decide +kernel
theorem dX3_cycle_350 : decode cX3_cycle 350 = .ok (.istore 7, 2) := by decide +kernel
theorem dX3_cycle_352 : decode cX3_cycle 352 = .ok (.aload_n 0, 1) := by decide +kernel
theorem dX3_cycle_353 : decode cX3_cycle 353 = .ok (.getfield 40, 3) := by decide +kernel
theorem dX3_cycle_356 : decode cX3_cycle 356 = .ok (.iload_n 1, 1) := by decide +kernel
theorem dX3_cycle_357 : decode cX3_cycle 357 = .ok (.iaload, 1) := by decide +kernel
theorem dX3_cycle_358 : decode cX3_cycle 358 = .ok (.istore 8, 2) := by decide +kernel
theorem dX3_cycle_360 : decode cX3_cycle 360 = .ok (.iload 8, 2) := by decide +kernel
theorem dX3_cycle_362 : decode cX3_cycle 362 = .ok (.ifCond .ne 16, 3) := by decide +kernel
theorem dX3_cycle_365 : decode cX3_cycle 365 = .ok (.aload_n 0, 1) := by decide +kernel
theorem dX3_cycle_366 : decode cX3_cycle 366 = .ok (.iload_n 1, 1) := by decide +kernel
theorem dX3_cycle_367 : decode cX3_cycle 367 = .ok (.iconst 1, 1) := by decide +kernel
theorem dX3_cycle_368 : decode cX3_cycle 368 = .ok (.iadd, 1) := by decide +kernel
theorem dX3_cycle_369 : decode cX3_cycle 369 = .ok (.bipush 63, 2) := by decide +kernel
theorem dX3_cycle_371 : decode cX3_cycle 371 = .ok (.iand, 1) := by decide +kernel
theorem dX3_cycle_372 : decode cX3_cycle 372 = .ok (.putfield 108, 3) := by decide +kernel
theorem dX3_cycle_375 : decode cX3_cycle 375 = .ok (.goto 76, 3) := by decide +kernel
theorem dX3_cycle_378 : decode cX3_cycle 378 = .ok (.iload 8, 2) := by decide +kernel
theorem dX3_cycle_380 : decode cX3_cycle 380 = .ok (.iconst 1, 1) := by decide +kernel
theorem dX3_cycle_381 : decode cX3_cycle 381 = .ok (.if_icmp .ne 12, 3) := by decide +kernel
theorem dX3_cycle_384 : decode cX3_cycle 384 = .ok (.aload_n 0, 1) := by decide +kernel
theorem dX3_cycle_385 : decode cX3_cycle 385 = .ok (.iload 7, 2) := by decide +kernel
theorem dX3_cycle_387 : decode cX3_cycle 387 = .ok (.putfield 108, 3) := by decide +kernel
theorem dX3_cycle_390 : decode cX3_cycle 390 = .ok (.goto 61, 3) := by decide +kernel
theorem dX3_cycle_393 : decode cX3_cycle 393 = .ok (.iload 8, 2) := by decide +kernel
theorem dX3_cycle_395 : decode cX3_cycle 395 = .ok (.iconst 4, 1) := by decide +kernel
theorem dX3_cycle_396 : decode cX3_cycle 396 = .ok (.if_icmp .ne 23, 3) := by decide +kernel
theorem dX3_cycle_399 : decode cX3_cycle 399 = .ok (.aload_n 0, 1) := by decide +kernel
theorem dX3_cycle_400 : decode cX3_cycle 400 = .ok (.iload 7, 2) := by decide +kernel
theorem dX3_cycle_402 : decode cX3_cycle 402 = .ok (.aload_n 0, 1) := by decide +kernel
theorem dX3_cycle_403 : decode cX3_cycle 403 = .ok (.getfield 13, 3) := by decide +kernel
theorem dX3_cycle_406 : decode cX3_cycle 406 = .ok (.bipush 9, 2) := by decide +kernel
theorem dX3_cycle_408 : decode cX3_cycle 408 = .ok (.iaload, 1) := by decide +kernel
theorem dX3_cycle_409 : decode cX3_cycle 409 = .ok (.ior, 1) := by decide +kernel
theorem dX3_cycle_410 : decode cX3_cycle 410 = .ok (.bipush 63, 2) := by decide +kernel
theorem dX3_cycle_412 : decode cX3_cycle 412 = .ok (.iand, 1) := by decide +kernel
theorem dX3_cycle_413 : decode cX3_cycle 413 = .ok (.putfield 108, 3) := by decide +kernel
theorem dX3_cycle_416 : decode cX3_cycle 416 = .ok (.goto 35, 3) := by decide +kernel
theorem dX3_cycle_419 : decode cX3_cycle 419 = .ok (.aload_n 0, 1) := by decide +kernel
theorem dX3_cycle_420 : decode cX3_cycle 420 = .ok (.iload 8, 2) := by decide +kernel
theorem dX3_cycle_422 : decode cX3_cycle 422 = .ok (.iconst 2, 1) := by decide +kernel
theorem dX3_cycle_423 : decode cX3_cycle 423 = .ok (.if_icmp .ne 10, 3) := by decide +kernel
theorem dX3_cycle_426 : decode cX3_cycle 426 = .ok (.iload_n 2, 1) := by decide +kernel
theorem dX3_cycle_427 : decode cX3_cycle 427 = .ok (.ifCond .ne 15, 3) := by decide +kernel
theorem dX3_cycle_430 : decode cX3_cycle 430 = .ok (.goto 7, 3) := by decide +kernel
theorem dX3_cycle_433 : decode cX3_cycle 433 = .ok (.iload_n 2, 1) := by decide +kernel
theorem dX3_cycle_434 : decode cX3_cycle 434 = .ok (.ifCond .ge 8, 3) := by decide +kernel
theorem dX3_cycle_437 : decode cX3_cycle 437 = .ok (.iload 7, 2) := by decide +kernel
theorem dX3_cycle_439 : decode cX3_cycle 439 = .ok (.goto 9, 3) := by decide +kernel
theorem dX3_cycle_442 : decode cX3_cycle 442 = .ok (.aload_n 0, 1) := by decide +kernel
theorem dX3_cycle_443 : decode cX3_cycle 443 = .ok (.getfield 46, 3) := by decide +kernel
theorem dX3_cycle_446 : decode cX3_cycle 446 = .ok (.iload_n 1, 1) := by decide +kernel
theorem dX3_cycle_447 : decode cX3_cycle 447 = .ok (.iaload, 1) := by decide +kernel
theorem dX3_cycle_448 : decode cX3_cycle 448 = .ok (.putfield 108, 3) := by decide +kernel
theorem dX3_cycle_451 : decode cX3_cycle 451 = .ok (.return_, 1) := by decide +kernel
theorem dX3_result_0 : decode cX3_result 0 = .ok (.aload_n 0, 1) := by decide +kernel
theorem dX3_result_1 : decode cX3_result 1 = .ok (.getfield 28, 3) := by decide +kernel
theorem dX3_result_4 : decode cX3_result 4 = .ok (.iload_n 1, 1) := by decide +kernel
theorem dX3_result_5 : decode cX3_result 5 = .ok (.iaload, 1) := by decide +kernel
theorem dX3_result_6 : decode cX3_result 6 = .ok (.istore_n 2, 1) := by decide +kernel
theorem dX3_result_7 : decode cX3_result 7 = .ok (.iload_n 2, 1) := by decide +kernel
theorem dX3_result_8 : decode cX3_result 8 = .ok (.bipush 10, 2) := by decide +kernel
theorem dX3_result_10 : decode cX3_result 10 = .ok (.if_icmp .ne 13, 3) := by decide +kernel
theorem dX3_result_13 : decode cX3_result 13 = .ok (.aload_n 0, 1) := by decide +kernel
theorem dX3_result_14 : decode cX3_result 14 = .ok (.getfield 13, 3) := by decide +kernel
theorem dX3_result_17 : decode cX3_result 17 = .ok (.bipush 9, 2) := by decide +kernel
theorem dX3_result_19 : decode cX3_result 19 = .ok (.iaload, 1) := by decide +kernel
theorem dX3_result_20 : decode cX3_result 20 = .ok (.goto 26, 3) := by decide +kernel
theorem dX3_result_23 : decode cX3_result 23 = .ok (.iload_n 2, 1) := by decide +kernel
theorem dX3_result_24 : decode cX3_result 24 = .ok (.bipush 9, 2) := by decide +kernel
theorem dX3_result_26 : decode cX3_result 26 = .ok (.if_icmp .ne 14, 3) := by decide +kernel
theorem dX3_result_29 : decode cX3_result 29 = .ok (.aload_n 0, 1) := by decide +kernel
theorem dX3_result_30 : decode cX3_result 30 = .ok (.getfield 13, 3) := by decide +kernel
theorem dX3_result_33 : decode cX3_result 33 = .ok (.bipush 9, 2) := by decide +kernel
theorem dX3_result_35 : decode cX3_result 35 = .ok (.iaload, 1) := by decide +kernel
theorem dX3_result_36 : decode cX3_result 36 = .ok (.i2b, 1) := by decide +kernel
theorem dX3_result_37 : decode cX3_result 37 = .ok (.goto 9, 3) := by decide +kernel
theorem dX3_result_40 : decode cX3_result 40 = .ok (.aload_n 0, 1) := by decide +kernel
theorem dX3_result_41 : decode cX3_result 41 = .ok (.getfield 13, 3) := by decide +kernel
theorem dX3_result_44 : decode cX3_result 44 = .ok (.iload_n 2, 1) := by decide +kernel
theorem dX3_result_45 : decode cX3_result 45 = .ok (.iaload, 1) := by decide +kernel
theorem dX3_result_46 : decode cX3_result 46 = .ok (.istore_n 3, 1) := by decide +kernel
theorem dX3_result_47 : decode cX3_result 47 = .ok (.aload_n 0, 1) := by decide +kernel
theorem dX3_result_48 : decode cX3_result 48 = .ok (.getfield 13, 3) := by decide +kernel
theorem dX3_result_51 : decode cX3_result 51 = .ok (.bipush 8, 2) := by decide +kernel
theorem dX3_result_53 : decode cX3_result 53 = .ok (.iaload, 1) := by decide +kernel
theorem dX3_result_54 : decode cX3_result 54 = .ok (.istore 4, 2) := by decide +kernel
theorem dX3_result_56 : decode cX3_result 56 = .ok (.aload_n 0, 1) := by decide +kernel
theorem dX3_result_57 : decode cX3_result 57 = .ok (.getfield 25, 3) := by decide +kernel
theorem dX3_result_60 : decode cX3_result 60 = .ok (.iload_n 1, 1) := by decide +kernel
theorem dX3_result_61 : decode cX3_result 61 = .ok (.iaload, 1) := by decide +kernel
theorem dX3_result_62 : decode cX3_result 62 = .ok (.tableswitch 136 0 14 #[74, 76, 79, 83, 87, 92, 97, 104, 109, 114, 119, 123, 128, 132, 134], 74) := by decide +kernel
theorem dX3_result_136 : decode cX3_result 136 = .ok (.iload_n 3, 1) := by decide +kernel
theorem dX3_result_137 : decode cX3_result 137 = .ok (.ireturn, 1) := by decide +kernel
theorem dX3_result_138 : decode cX3_result 138 = .ok (.iload 4, 2) := by decide +kernel
theorem dX3_result_140 : decode cX3_result 140 = .ok (.ireturn, 1) := by decide +kernel
theorem dX3_result_141 : decode cX3_result 141 = .ok (.iload_n 3, 1) := by decide +kernel
theorem dX3_result_142 : decode cX3_result 142 = .ok (.iconst 1, 1) := by decide +kernel
theorem dX3_result_143 : decode cX3_result 143 = .ok (.iadd, 1) := by decide +kernel
theorem dX3_result_144 : decode cX3_result 144 = .ok (.ireturn, 1) := by decide +kernel
theorem dX3_result_145 : decode cX3_result 145 = .ok (.iload_n 3, 1) := by decide +kernel
theorem dX3_result_146 : decode cX3_result 146 = .ok (.iconst 1, 1) := by decide +kernel
theorem dX3_result_147 : decode cX3_result 147 = .ok (.isub, 1) := by decide +kernel
theorem dX3_result_148 : decode cX3_result 148 = .ok (.ireturn, 1) := by decide +kernel
theorem dX3_result_149 : decode cX3_result 149 = .ok (.iload 4, 2) := by decide +kernel
theorem dX3_result_151 : decode cX3_result 151 = .ok (.iconst 1, 1) := by decide +kernel
theorem dX3_result_152 : decode cX3_result 152 = .ok (.iadd, 1) := by decide +kernel
theorem dX3_result_153 : decode cX3_result 153 = .ok (.ireturn, 1) := by decide +kernel
theorem dX3_result_154 : decode cX3_result 154 = .ok (.iload 4, 2) := by decide +kernel
theorem dX3_result_156 : decode cX3_result 156 = .ok (.iload_n 3, 1) := by decide +kernel
theorem dX3_result_157 : decode cX3_result 157 = .ok (.iadd, 1) := by decide +kernel
theorem dX3_result_158 : decode cX3_result 158 = .ok (.ireturn, 1) := by decide +kernel
theorem dX3_result_159 : decode cX3_result 159 = .ok (.iload 4, 2) := by decide +kernel
theorem dX3_result_161 : decode cX3_result 161 = .ok (.iload_n 3, 1) := by decide +kernel
theorem dX3_result_162 : decode cX3_result 162 = .ok (.iadd, 1) := by decide +kernel
theorem dX3_result_163 : decode cX3_result 163 = .ok (.iconst 1, 1) := by decide +kernel
theorem dX3_result_164 : decode cX3_result 164 = .ok (.iadd, 1) := by decide +kernel
theorem dX3_result_165 : decode cX3_result 165 = .ok (.ireturn, 1) := by decide +kernel
theorem dX3_result_166 : decode cX3_result 166 = .ok (.iload_n 3, 1) := by decide +kernel
theorem dX3_result_167 : decode cX3_result 167 = .ok (.iload 4, 2) := by decide +kernel
theorem dX3_result_169 : decode cX3_result 169 = .ok (.isub, 1) := by decide +kernel
theorem dX3_result_170 : decode cX3_result 170 = .ok (.ireturn, 1) := by decide +kernel
theorem dX3_result_171 : decode cX3_result 171 = .ok (.iload 4, 2) := by decide +kernel
theorem dX3_result_173 : decode cX3_result 173 = .ok (.iload_n 3, 1) := by decide +kernel
theorem dX3_result_174 : decode cX3_result 174 = .ok (.iand, 1) := by decide +kernel
theorem dX3_result_175 : decode cX3_result 175 = .ok (.ireturn, 1) := by decide +kernel
theorem dX3_result_176 : decode cX3_result 176 = .ok (.iload 4, 2) := by decide +kernel
theorem dX3_result_178 : decode cX3_result 178 = .ok (.iload_n 3, 1) := by decide +kernel
theorem dX3_result_179 : decode cX3_result 179 = .ok (.ior, 1) := by decide +kernel
theorem dX3_result_180 : decode cX3_result 180 = .ok (.ireturn, 1) := by decide +kernel
theorem dX3_result_181 : decode cX3_result 181 = .ok (.iload_n 3, 1) := by decide +kernel
theorem dX3_result_182 : decode cX3_result 182 = .ok (.iconst (-1), 1) := by decide +kernel
theorem dX3_result_183 : decode cX3_result 183 = .ok (.ixor, 1) := by decide +kernel
theorem dX3_result_184 : decode cX3_result 184 = .ok (.ireturn, 1) := by decide +kernel
theorem dX3_result_185 : decode cX3_result 185 = .ok (.iload 4, 2) := by decide +kernel
theorem dX3_result_187 : decode cX3_result 187 = .ok (.iconst (-1), 1) := by decide +kernel
theorem dX3_result_188 : decode cX3_result 188 = .ok (.ixor, 1) := by decide +kernel
theorem dX3_result_189 : decode cX3_result 189 = .ok (.ireturn, 1) := by decide +kernel
theorem dX3_result_190 : decode cX3_result 190 = .ok (.iload 4, 2) := by decide +kernel
theorem dX3_result_192 : decode cX3_result 192 = .ok (.ineg, 1) := by decide +kernel
theorem dX3_result_193 : decode cX3_result 193 = .ok (.ireturn, 1) := by decide +kernel
theorem dX3_result_194 : decode cX3_result 194 = .ok (.iconst 0, 1) := by decide +kernel
theorem dX3_result_195 : decode cX3_result 195 = .ok (.ireturn, 1) := by decide +kernel
theorem dX3_result_196 : decode cX3_result 196 = .ok (.iconst 1, 1) := by decide +kernel
theorem dX3_result_197 : decode cX3_result 197 = .ok (.ireturn, 1) := by decide +kernel
theorem dX3_result_198 : decode cX3_result 198 = .ok (.iconst (-1), 1) := by decide +kernel
theorem dX3_result_199 : decode cX3_result 199 = .ok (.ireturn, 1) := by decide +kernel
theorem dX3_then_0 : decode cX3_then 0 = .ok (.aload_n 0, 1) := by decide +kernel
theorem dX3_then_1 : decode cX3_then 1 = .ok (.getfield 22, 3) := by decide +kernel
theorem dX3_then_4 : decode cX3_then 4 = .ok (.iload_n 1, 1) := by decide +kernel
theorem dX3_then_5 : decode cX3_then 5 = .ok (.iaload, 1) := by decide +kernel
theorem dX3_then_6 : decode cX3_then 6 = .ok (.iload_n 2, 1) := by decide +kernel
theorem dX3_then_7 : decode cX3_then 7 = .ok (.ishr, 1) := by decide +kernel
theorem dX3_then_8 : decode cX3_then 8 = .ok (.iconst 1, 1) := by decide +kernel
theorem dX3_then_9 : decode cX3_then 9 = .ok (.iand, 1) := by decide +kernel
theorem dX3_then_10 : decode cX3_then 10 = .ok (.ifCond .eq 7, 3) := by decide +kernel
theorem dX3_then_13 : decode cX3_then 13 = .ok (.iload_n 3, 1) := by decide +kernel
theorem dX3_then_14 : decode cX3_then 14 = .ok (.goto 9, 3) := by decide +kernel
theorem dX3_then_17 : decode cX3_then 17 = .ok (.aload_n 0, 1) := by decide +kernel
theorem dX3_then_18 : decode cX3_then 18 = .ok (.getfield 13, 3) := by decide +kernel
theorem dX3_then_21 : decode cX3_then 21 = .ok (.iload_n 2, 1) := by decide +kernel
theorem dX3_then_22 : decode cX3_then 22 = .ok (.iaload, 1) := by decide +kernel
theorem dX3_then_23 : decode cX3_then 23 = .ok (.ireturn, 1) := by decide +kernel
theorem dX3_set_0 : decode cX3_set 0 = .ok (.aload_n 0, 1) := by decide +kernel
theorem dX3_set_1 : decode cX3_set 1 = .ok (.iload_n 1, 1) := by decide +kernel
theorem dX3_set_2 : decode cX3_set 2 = .ok (.ifCond .lt 26, 3) := by decide +kernel
theorem dX3_set_5 : decode cX3_set 5 = .ok (.iload_n 1, 1) := by decide +kernel
theorem dX3_set_6 : decode cX3_set 6 = .ok (.bipush 9, 2) := by decide +kernel
theorem dX3_set_8 : decode cX3_set 8 = .ok (.if_icmp .gt 20, 3) := by decide +kernel
theorem dX3_set_11 : decode cX3_set 11 = .ok (.iload_n 1, 1) := by decide +kernel
theorem dX3_set_12 : decode cX3_set 12 = .ok (.bipush 9, 2) := by decide +kernel
theorem dX3_set_14 : decode cX3_set 14 = .ok (.if_icmp .ne 18, 3) := by decide +kernel
theorem dX3_set_17 : decode cX3_set 17 = .ok (.iload_n 2, 1) := by decide +kernel
theorem dX3_set_18 : decode cX3_set 18 = .ok (.ifCond .lt 10, 3) := by decide +kernel
theorem dX3_set_21 : decode cX3_set 21 = .ok (.iload_n 2, 1) := by decide +kernel
theorem dX3_set_22 : decode cX3_set 22 = .ok (.sipush 255, 3) := by decide +kernel
theorem dX3_set_25 : decode cX3_set 25 = .ok (.if_icmp .le 7, 3) := by decide +kernel
theorem dX3_set_28 : decode cX3_set 28 = .ok (.iconst 1, 1) := by decide +kernel
theorem dX3_set_29 : decode cX3_set 29 = .ok (.goto 4, 3) := by decide +kernel
theorem dX3_set_32 : decode cX3_set 32 = .ok (.iconst 0, 1) := by decide +kernel
theorem dX3_set_33 : decode cX3_set 33 = .ok (.putfield 57, 3) := by decide +kernel
theorem dX3_set_36 : decode cX3_set 36 = .ok (.aload_n 0, 1) := by decide +kernel
theorem dX3_set_37 : decode cX3_set 37 = .ok (.getfield 57, 3) := by decide +kernel
theorem dX3_set_40 : decode cX3_set 40 = .ok (.ifCond .ne 10, 3) := by decide +kernel
theorem dX3_set_43 : decode cX3_set 43 = .ok (.aload_n 0, 1) := by decide +kernel
theorem dX3_set_44 : decode cX3_set 44 = .ok (.getfield 13, 3) := by decide +kernel
theorem dX3_set_47 : decode cX3_set 47 = .ok (.iload_n 1, 1) := by decide +kernel
theorem dX3_set_48 : decode cX3_set 48 = .ok (.iload_n 2, 1) := by decide +kernel
theorem dX3_set_49 : decode cX3_set 49 = .ok (.iastore, 1) := by decide +kernel
theorem dX3_set_50 : decode cX3_set 50 = .ok (.return_, 1) := by decide +kernel
theorem dX3_register_0 : decode cX3_register 0 = .ok (.aload_n 0, 1) := by decide +kernel
theorem dX3_register_1 : decode cX3_register 1 = .ok (.iload_n 1, 1) := by decide +kernel
theorem dX3_register_2 : decode cX3_register 2 = .ok (.ifCond .lt 9, 3) := by decide +kernel
theorem dX3_register_5 : decode cX3_register 5 = .ok (.iload_n 1, 1) := by decide +kernel
theorem dX3_register_6 : decode cX3_register 6 = .ok (.bipush 9, 2) := by decide +kernel
theorem dX3_register_8 : decode cX3_register 8 = .ok (.if_icmp .le 7, 3) := by decide +kernel
theorem dX3_register_11 : decode cX3_register 11 = .ok (.iconst 1, 1) := by decide +kernel
theorem dX3_register_12 : decode cX3_register 12 = .ok (.goto 4, 3) := by decide +kernel
theorem dX3_register_15 : decode cX3_register 15 = .ok (.iconst 0, 1) := by decide +kernel
theorem dX3_register_16 : decode cX3_register 16 = .ok (.putfield 57, 3) := by decide +kernel
theorem dX3_register_19 : decode cX3_register 19 = .ok (.aload_n 0, 1) := by decide +kernel
theorem dX3_register_20 : decode cX3_register 20 = .ok (.getfield 57, 3) := by decide +kernel
theorem dX3_register_23 : decode cX3_register 23 = .ok (.ifCond .ne 12, 3) := by decide +kernel
theorem dX3_register_26 : decode cX3_register 26 = .ok (.aload_n 0, 1) := by decide +kernel
theorem dX3_register_27 : decode cX3_register 27 = .ok (.getfield 13, 3) := by decide +kernel
theorem dX3_register_30 : decode cX3_register 30 = .ok (.iload_n 1, 1) := by decide +kernel
theorem dX3_register_31 : decode cX3_register 31 = .ok (.iaload, 1) := by decide +kernel
theorem dX3_register_32 : decode cX3_register 32 = .ok (.goto 4, 3) := by decide +kernel
theorem dX3_register_35 : decode cX3_register 35 = .ok (.iconst 0, 1) := by decide +kernel
theorem dX3_register_36 : decode cX3_register 36 = .ok (.ireturn, 1) := by decide +kernel
theorem dX3_poke_0 : decode cX3_poke 0 = .ok (.aload_n 0, 1) := by decide +kernel
theorem dX3_poke_1 : decode cX3_poke 1 = .ok (.iload_n 1, 1) := by decide +kernel
theorem dX3_poke_2 : decode cX3_poke 2 = .ok (.ifCond .lt 9, 3) := by decide +kernel
theorem dX3_poke_5 : decode cX3_poke 5 = .ok (.iload_n 1, 1) := by decide +kernel
theorem dX3_poke_6 : decode cX3_poke 6 = .ok (.bipush 63, 2) := by decide +kernel
theorem dX3_poke_8 : decode cX3_poke 8 = .ok (.if_icmp .le 7, 3) := by decide +kernel
theorem dX3_poke_11 : decode cX3_poke 11 = .ok (.iconst 1, 1) := by decide +kernel
theorem dX3_poke_12 : decode cX3_poke 12 = .ok (.goto 4, 3) := by decide +kernel
theorem dX3_poke_15 : decode cX3_poke 15 = .ok (.iconst 0, 1) := by decide +kernel
theorem dX3_poke_16 : decode cX3_poke 16 = .ok (.putfield 57, 3) := by decide +kernel
theorem dX3_poke_19 : decode cX3_poke 19 = .ok (.aload_n 0, 1) := by decide +kernel
theorem dX3_poke_20 : decode cX3_poke 20 = .ok (.getfield 57, 3) := by decide +kernel
theorem dX3_poke_23 : decode cX3_poke 23 = .ok (.ifCond .ne 10, 3) := by decide +kernel
theorem dX3_poke_26 : decode cX3_poke 26 = .ok (.aload_n 0, 1) := by decide +kernel
theorem dX3_poke_27 : decode cX3_poke 27 = .ok (.getfield 16, 3) := by decide +kernel
theorem dX3_poke_30 : decode cX3_poke 30 = .ok (.iload_n 1, 1) := by decide +kernel
theorem dX3_poke_31 : decode cX3_poke 31 = .ok (.iload_n 2, 1) := by decide +kernel
theorem dX3_poke_32 : decode cX3_poke 32 = .ok (.iastore, 1) := by decide +kernel
theorem dX3_poke_33 : decode cX3_poke 33 = .ok (.return_, 1) := by decide +kernel
theorem dX3_memory_0 : decode cX3_memory 0 = .ok (.aload_n 0, 1) := by decide +kernel
theorem dX3_memory_1 : decode cX3_memory 1 = .ok (.iload_n 1, 1) := by decide +kernel
theorem dX3_memory_2 : decode cX3_memory 2 = .ok (.ifCond .lt 9, 3) := by decide +kernel
theorem dX3_memory_5 : decode cX3_memory 5 = .ok (.iload_n 1, 1) := by decide +kernel
theorem dX3_memory_6 : decode cX3_memory 6 = .ok (.bipush 63, 2) := by decide +kernel
theorem dX3_memory_8 : decode cX3_memory 8 = .ok (.if_icmp .le 7, 3) := by decide +kernel
theorem dX3_memory_11 : decode cX3_memory 11 = .ok (.iconst 1, 1) := by decide +kernel
theorem dX3_memory_12 : decode cX3_memory 12 = .ok (.goto 4, 3) := by decide +kernel
theorem dX3_memory_15 : decode cX3_memory 15 = .ok (.iconst 0, 1) := by decide +kernel
theorem dX3_memory_16 : decode cX3_memory 16 = .ok (.putfield 57, 3) := by decide +kernel
theorem dX3_memory_19 : decode cX3_memory 19 = .ok (.aload_n 0, 1) := by decide +kernel
theorem dX3_memory_20 : decode cX3_memory 20 = .ok (.getfield 57, 3) := by decide +kernel
theorem dX3_memory_23 : decode cX3_memory 23 = .ok (.ifCond .ne 12, 3) := by decide +kernel
theorem dX3_memory_26 : decode cX3_memory 26 = .ok (.aload_n 0, 1) := by decide +kernel
theorem dX3_memory_27 : decode cX3_memory 27 = .ok (.getfield 16, 3) := by decide +kernel
theorem dX3_memory_30 : decode cX3_memory 30 = .ok (.iload_n 1, 1) := by decide +kernel
theorem dX3_memory_31 : decode cX3_memory 31 = .ok (.iaload, 1) := by decide +kernel
theorem dX3_memory_32 : decode cX3_memory 32 = .ok (.goto 4, 3) := by decide +kernel
theorem dX3_memory_35 : decode cX3_memory 35 = .ok (.iconst 0, 1) := by decide +kernel
theorem dX3_memory_36 : decode cX3_memory 36 = .ok (.ireturn, 1) := by decide +kernel
theorem dX3_code_0 : decode cX3_code 0 = .ok (.aload_n 0, 1) := by decide +kernel
theorem dX3_code_1 : decode cX3_code 1 = .ok (.iload_n 1, 1) := by decide +kernel
theorem dX3_code_2 : decode cX3_code 2 = .ok (.ifCond .lt 20, 3) := by decide +kernel
theorem dX3_code_5 : decode cX3_code 5 = .ok (.iload_n 1, 1) := by decide +kernel
theorem dX3_code_6 : decode cX3_code 6 = .ok (.bipush 63, 2) := by decide +kernel
theorem dX3_code_8 : decode cX3_code 8 = .ok (.if_icmp .gt 14, 3) := by decide +kernel
theorem dX3_code_11 : decode cX3_code 11 = .ok (.iload_n 2, 1) := by decide +kernel
theorem dX3_code_12 : decode cX3_code 12 = .ok (.ifCond .lt 10, 3) := by decide +kernel
theorem dX3_code_15 : decode cX3_code 15 = .ok (.iload_n 2, 1) := by decide +kernel
theorem dX3_code_16 : decode cX3_code 16 = .ok (.sipush 255, 3) := by decide +kernel
theorem dX3_code_19 : decode cX3_code 19 = .ok (.if_icmp .le 7, 3) := by decide +kernel
theorem dX3_code_22 : decode cX3_code 22 = .ok (.iconst 1, 1) := by decide +kernel
theorem dX3_code_23 : decode cX3_code 23 = .ok (.goto 4, 3) := by decide +kernel
theorem dX3_code_26 : decode cX3_code 26 = .ok (.iconst 0, 1) := by decide +kernel
theorem dX3_code_27 : decode cX3_code 27 = .ok (.putfield 57, 3) := by decide +kernel
theorem dX3_code_30 : decode cX3_code 30 = .ok (.aload_n 0, 1) := by decide +kernel
theorem dX3_code_31 : decode cX3_code 31 = .ok (.getfield 57, 3) := by decide +kernel
theorem dX3_code_34 : decode cX3_code 34 = .ok (.ifCond .ne 10, 3) := by decide +kernel
theorem dX3_code_37 : decode cX3_code 37 = .ok (.aload_n 0, 1) := by decide +kernel
theorem dX3_code_38 : decode cX3_code 38 = .ok (.getfield 19, 3) := by decide +kernel
theorem dX3_code_41 : decode cX3_code 41 = .ok (.iload_n 1, 1) := by decide +kernel
theorem dX3_code_42 : decode cX3_code 42 = .ok (.iload_n 2, 1) := by decide +kernel
theorem dX3_code_43 : decode cX3_code 43 = .ok (.iastore, 1) := by decide +kernel
theorem dX3_code_44 : decode cX3_code 44 = .ok (.return_, 1) := by decide +kernel
theorem dX3_told_0 : decode cX3_told 0 = .ok (.aload_n 0, 1) := by decide +kernel
theorem dX3_told_1 : decode cX3_told 1 = .ok (.iload_n 1, 1) := by decide +kernel
theorem dX3_told_2 : decode cX3_told 2 = .ok (.ifCond .lt 19, 3) := by decide +kernel
theorem dX3_told_5 : decode cX3_told 5 = .ok (.iload_n 1, 1) := by decide +kernel
theorem dX3_told_6 : decode cX3_told 6 = .ok (.bipush 63, 2) := by decide +kernel
theorem dX3_told_8 : decode cX3_told 8 = .ok (.if_icmp .gt 13, 3) := by decide +kernel
theorem dX3_told_11 : decode cX3_told 11 = .ok (.iload_n 2, 1) := by decide +kernel
theorem dX3_told_12 : decode cX3_told 12 = .ok (.ifCond .lt 9, 3) := by decide +kernel
theorem dX3_told_15 : decode cX3_told 15 = .ok (.iload_n 2, 1) := by decide +kernel
theorem dX3_told_16 : decode cX3_told 16 = .ok (.bipush 6, 2) := by decide +kernel
theorem dX3_told_18 : decode cX3_told 18 = .ok (.if_icmp .le 7, 3) := by decide +kernel
theorem dX3_told_21 : decode cX3_told 21 = .ok (.iconst 1, 1) := by decide +kernel
theorem dX3_told_22 : decode cX3_told 22 = .ok (.goto 17, 3) := by decide +kernel
theorem dX3_told_25 : decode cX3_told 25 = .ok (.aload_n 0, 1) := by decide +kernel
theorem dX3_told_26 : decode cX3_told 26 = .ok (.getfield 49, 3) := by decide +kernel
theorem dX3_told_29 : decode cX3_told 29 = .ok (.iload_n 1, 1) := by decide +kernel
theorem dX3_told_30 : decode cX3_told 30 = .ok (.baload, 1) := by decide +kernel
theorem dX3_told_31 : decode cX3_told 31 = .ok (.ifCond .ne 7, 3) := by decide +kernel
theorem dX3_told_34 : decode cX3_told 34 = .ok (.iconst 2, 1) := by decide +kernel
theorem dX3_told_35 : decode cX3_told 35 = .ok (.goto 4, 3) := by decide +kernel
theorem dX3_told_38 : decode cX3_told 38 = .ok (.iconst 0, 1) := by decide +kernel
theorem dX3_told_39 : decode cX3_told 39 = .ok (.putfield 57, 3) := by decide +kernel
theorem dX3_told_42 : decode cX3_told 42 = .ok (.aload_n 0, 1) := by decide +kernel
theorem dX3_told_43 : decode cX3_told 43 = .ok (.getfield 57, 3) := by decide +kernel
theorem dX3_told_46 : decode cX3_told 46 = .ok (.ifCond .eq 5, 3) := by decide +kernel
theorem dX3_told_49 : decode cX3_told 49 = .ok (.iconst 0, 1) := by decide +kernel
theorem dX3_told_50 : decode cX3_told 50 = .ok (.ireturn, 1) := by decide +kernel
theorem dX3_told_51 : decode cX3_told 51 = .ok (.iload_n 2, 1) := by decide +kernel
theorem dX3_told_52 : decode cX3_told 52 = .ok (.tableswitch 82 0 5 #[40, 47, 54, 61, 68, 75], 40) := by decide +kernel
theorem dX3_told_92 : decode cX3_told 92 = .ok (.aload_n 0, 1) := by decide +kernel
theorem dX3_told_93 : decode cX3_told 93 = .ok (.getfield 22, 3) := by decide +kernel
theorem dX3_told_96 : decode cX3_told 96 = .ok (.iload_n 1, 1) := by decide +kernel
theorem dX3_told_97 : decode cX3_told 97 = .ok (.iaload, 1) := by decide +kernel
theorem dX3_told_98 : decode cX3_told 98 = .ok (.ireturn, 1) := by decide +kernel
theorem dX3_told_99 : decode cX3_told 99 = .ok (.aload_n 0, 1) := by decide +kernel
theorem dX3_told_100 : decode cX3_told 100 = .ok (.getfield 34, 3) := by decide +kernel
theorem dX3_told_103 : decode cX3_told 103 = .ok (.iload_n 1, 1) := by decide +kernel
theorem dX3_told_104 : decode cX3_told 104 = .ok (.iaload, 1) := by decide +kernel
theorem dX3_told_105 : decode cX3_told 105 = .ok (.ireturn, 1) := by decide +kernel
theorem dX3_told_106 : decode cX3_told 106 = .ok (.aload_n 0, 1) := by decide +kernel
theorem dX3_told_107 : decode cX3_told 107 = .ok (.getfield 37, 3) := by decide +kernel
theorem dX3_told_110 : decode cX3_told 110 = .ok (.iload_n 1, 1) := by decide +kernel
theorem dX3_told_111 : decode cX3_told 111 = .ok (.iaload, 1) := by decide +kernel
theorem dX3_told_112 : decode cX3_told 112 = .ok (.ireturn, 1) := by decide +kernel
theorem dX3_told_113 : decode cX3_told 113 = .ok (.aload_n 0, 1) := by decide +kernel
theorem dX3_told_114 : decode cX3_told 114 = .ok (.getfield 40, 3) := by decide +kernel
theorem dX3_told_117 : decode cX3_told 117 = .ok (.iload_n 1, 1) := by decide +kernel
theorem dX3_told_118 : decode cX3_told 118 = .ok (.iaload, 1) := by decide +kernel
theorem dX3_told_119 : decode cX3_told 119 = .ok (.ireturn, 1) := by decide +kernel
theorem dX3_told_120 : decode cX3_told 120 = .ok (.aload_n 0, 1) := by decide +kernel
theorem dX3_told_121 : decode cX3_told 121 = .ok (.getfield 43, 3) := by decide +kernel
theorem dX3_told_124 : decode cX3_told 124 = .ok (.iload_n 1, 1) := by decide +kernel
theorem dX3_told_125 : decode cX3_told 125 = .ok (.iaload, 1) := by decide +kernel
theorem dX3_told_126 : decode cX3_told 126 = .ok (.ireturn, 1) := by decide +kernel
theorem dX3_told_127 : decode cX3_told 127 = .ok (.aload_n 0, 1) := by decide +kernel
theorem dX3_told_128 : decode cX3_told 128 = .ok (.getfield 46, 3) := by decide +kernel
theorem dX3_told_131 : decode cX3_told 131 = .ok (.iload_n 1, 1) := by decide +kernel
theorem dX3_told_132 : decode cX3_told 132 = .ok (.iaload, 1) := by decide +kernel
theorem dX3_told_133 : decode cX3_told 133 = .ok (.ireturn, 1) := by decide +kernel
theorem dX3_told_134 : decode cX3_told 134 = .ok (.aload_n 0, 1) := by decide +kernel
theorem dX3_told_135 : decode cX3_told 135 = .ok (.getfield 31, 3) := by decide +kernel
theorem dX3_told_138 : decode cX3_told 138 = .ok (.iload_n 1, 1) := by decide +kernel
theorem dX3_told_139 : decode cX3_told 139 = .ok (.iaload, 1) := by decide +kernel
theorem dX3_told_140 : decode cX3_told 140 = .ok (.ireturn, 1) := by decide +kernel
theorem dX3_count_0 : decode cX3_count 0 = .ok (.aload_n 0, 1) := by decide +kernel
theorem dX3_count_1 : decode cX3_count 1 = .ok (.iconst 0, 1) := by decide +kernel
theorem dX3_count_2 : decode cX3_count 2 = .ok (.putfield 57, 3) := by decide +kernel
theorem dX3_count_5 : decode cX3_count 5 = .ok (.iconst 0, 1) := by decide +kernel
theorem dX3_count_6 : decode cX3_count 6 = .ok (.istore_n 2, 1) := by decide +kernel
theorem dX3_count_7 : decode cX3_count 7 = .ok (.iconst 0, 1) := by decide +kernel
theorem dX3_count_8 : decode cX3_count 8 = .ok (.istore_n 3, 1) := by decide +kernel
theorem dX3_count_9 : decode cX3_count 9 = .ok (.iload_n 3, 1) := by decide +kernel
theorem dX3_count_10 : decode cX3_count 10 = .ok (.bipush 64, 2) := by decide +kernel
theorem dX3_count_12 : decode cX3_count 12 = .ok (.if_icmp .ge 21, 3) := by decide +kernel
theorem dX3_count_15 : decode cX3_count 15 = .ok (.aload_n 0, 1) := by decide +kernel
theorem dX3_count_16 : decode cX3_count 16 = .ok (.getfield 49, 3) := by decide +kernel
theorem dX3_count_19 : decode cX3_count 19 = .ok (.iload_n 3, 1) := by decide +kernel
theorem dX3_count_20 : decode cX3_count 20 = .ok (.baload, 1) := by decide +kernel
theorem dX3_count_21 : decode cX3_count 21 = .ok (.ifCond .eq 6, 3) := by decide +kernel
theorem dX3_count_24 : decode cX3_count 24 = .ok (.iinc 2 1, 3) := by decide +kernel
theorem dX3_count_27 : decode cX3_count 27 = .ok (.iinc 3 1, 3) := by decide +kernel
theorem dX3_count_30 : decode cX3_count 30 = .ok (.goto (-21), 3) := by decide +kernel
theorem dX3_count_33 : decode cX3_count 33 = .ok (.iload_n 1, 1) := by decide +kernel
theorem dX3_count_34 : decode cX3_count 34 = .ok (.tableswitch 117 0 9 #[54, 59, 64, 66, 71, 76, 89, 102, 107, 112], 54) := by decide +kernel
theorem dX3_count_88 : decode cX3_count 88 = .ok (.aload_n 0, 1) := by decide +kernel
theorem dX3_count_89 : decode cX3_count 89 = .ok (.getfield 53, 3) := by decide +kernel
theorem dX3_count_92 : decode cX3_count 92 = .ok (.ireturn, 1) := by decide +kernel
theorem dX3_count_93 : decode cX3_count 93 = .ok (.aload_n 0, 1) := by decide +kernel
theorem dX3_count_94 : decode cX3_count 94 = .ok (.getfield 60, 3) := by decide +kernel
theorem dX3_count_97 : decode cX3_count 97 = .ok (.ireturn, 1) := by decide +kernel
theorem dX3_count_98 : decode cX3_count 98 = .ok (.iload_n 2, 1) := by decide +kernel
theorem dX3_count_99 : decode cX3_count 99 = .ok (.ireturn, 1) := by decide +kernel
theorem dX3_count_100 : decode cX3_count 100 = .ok (.aload_n 0, 1) := by decide +kernel
theorem dX3_count_101 : decode cX3_count 101 = .ok (.getfield 108, 3) := by decide +kernel
theorem dX3_count_104 : decode cX3_count 104 = .ok (.ireturn, 1) := by decide +kernel
theorem dX3_count_105 : decode cX3_count 105 = .ok (.aload_n 0, 1) := by decide +kernel
theorem dX3_count_106 : decode cX3_count 106 = .ok (.getfield 139, 3) := by decide +kernel
theorem dX3_count_109 : decode cX3_count 109 = .ok (.ireturn, 1) := by decide +kernel
theorem dX3_count_110 : decode cX3_count 110 = .ok (.aload_n 0, 1) := by decide +kernel
theorem dX3_count_111 : decode cX3_count 111 = .ok (.getfield 111, 3) := by decide +kernel
theorem dX3_count_114 : decode cX3_count 114 = .ok (.ifCond .eq 7, 3) := by decide +kernel
theorem dX3_count_117 : decode cX3_count 117 = .ok (.iconst 1, 1) := by decide +kernel
theorem dX3_count_118 : decode cX3_count 118 = .ok (.goto 4, 3) := by decide +kernel
theorem dX3_count_121 : decode cX3_count 121 = .ok (.iconst 0, 1) := by decide +kernel
theorem dX3_count_122 : decode cX3_count 122 = .ok (.ireturn, 1) := by decide +kernel
theorem dX3_count_123 : decode cX3_count 123 = .ok (.aload_n 0, 1) := by decide +kernel
theorem dX3_count_124 : decode cX3_count 124 = .ok (.getfield 115, 3) := by decide +kernel
theorem dX3_count_127 : decode cX3_count 127 = .ok (.ifCond .eq 7, 3) := by decide +kernel
theorem dX3_count_130 : decode cX3_count 130 = .ok (.iconst 1, 1) := by decide +kernel
theorem dX3_count_131 : decode cX3_count 131 = .ok (.goto 4, 3) := by decide +kernel
theorem dX3_count_134 : decode cX3_count 134 = .ok (.iconst 0, 1) := by decide +kernel
theorem dX3_count_135 : decode cX3_count 135 = .ok (.ireturn, 1) := by decide +kernel
theorem dX3_count_136 : decode cX3_count 136 = .ok (.aload_n 0, 1) := by decide +kernel
theorem dX3_count_137 : decode cX3_count 137 = .ok (.getfield 125, 3) := by decide +kernel
theorem dX3_count_140 : decode cX3_count 140 = .ok (.ireturn, 1) := by decide +kernel
theorem dX3_count_141 : decode cX3_count 141 = .ok (.aload_n 0, 1) := by decide +kernel
theorem dX3_count_142 : decode cX3_count 142 = .ok (.getfield 127, 3) := by decide +kernel
theorem dX3_count_145 : decode cX3_count 145 = .ok (.ireturn, 1) := by decide +kernel
theorem dX3_count_146 : decode cX3_count 146 = .ok (.aload_n 0, 1) := by decide +kernel
theorem dX3_count_147 : decode cX3_count 147 = .ok (.getfield 136, 3) := by decide +kernel
theorem dX3_count_150 : decode cX3_count 150 = .ok (.ireturn, 1) := by decide +kernel
theorem dX3_count_151 : decode cX3_count 151 = .ok (.iconst (-1), 1) := by decide +kernel
theorem dX3_count_152 : decode cX3_count 152 = .ok (.ireturn, 1) := by decide +kernel
