theorem dX2_init_0 : decode cX2_init 0 = .ok (.aload_n 0, 1) := by decide +kernel
theorem dX2_init_1 : decode cX2_init 1 = .ok (.invokespecial 1, 3) := by decide +kernel
theorem dX2_init_4 : decode cX2_init 4 = .ok (.aload_n 0, 1) := by decide +kernel
theorem dX2_init_5 : decode cX2_init 5 = .ok (.new 7, 3) := by decide +kernel
theorem dX2_init_8 : decode cX2_init 8 = .ok (.dup, 1) := by decide +kernel
theorem dX2_init_9 : decode cX2_init 9 = .ok (.invokespecial 9, 3) := by decide +kernel
theorem dX2_init_12 : decode cX2_init 12 = .ok (.putfield 10, 3) := by decide +kernel
theorem dX2_init_15 : decode cX2_init 15 = .ok (.aload_n 0, 1) := by decide +kernel
theorem dX2_init_16 : decode cX2_init 16 = .ok (.iconst (-1), 1) := by decide +kernel
theorem dX2_init_17 : decode cX2_init 17 = .ok (.putfield 16, 3) := by decide +kernel
theorem dX2_init_20 : decode cX2_init 20 = .ok (.aload_n 0, 1) := by decide +kernel
theorem dX2_init_21 : decode cX2_init 21 = .ok (.bipush 64, 2) := by decide +kernel
theorem dX2_init_23 : decode cX2_init 23 = .ok (.anewarray 20, 3) := by decide +kernel
theorem dX2_init_26 : decode cX2_init 26 = .ok (.putfield 22, 3) := by decide +kernel
theorem dX2_init_29 : decode cX2_init 29 = .ok (.aload_n 0, 1) := by decide +kernel
theorem dX2_init_30 : decode cX2_init 30 = .ok (.bipush 10, 2) := by decide +kernel
theorem dX2_init_32 : decode cX2_init 32 = .ok (.newarray .int, 2) := by decide +kernel
theorem dX2_init_34 : decode cX2_init 34 = .ok (.putfield 26, 3) := by decide +kernel
theorem dX2_init_37 : decode cX2_init 37 = .ok (.aload_n 0, 1) := by decide +kernel
theorem dX2_init_38 : decode cX2_init 38 = .ok (.bipush 64, 2) := by decide +kernel
theorem dX2_init_40 : decode cX2_init 40 = .ok (.newarray .int, 2) := by decide +kernel
theorem dX2_init_42 : decode cX2_init 42 = .ok (.putfield 30, 3) := by decide +kernel
theorem dX2_init_45 : decode cX2_init 45 = .ok (.aload_n 0, 1) := by decide +kernel
theorem dX2_init_46 : decode cX2_init 46 = .ok (.bipush 64, 2) := by decide +kernel
theorem dX2_init_48 : decode cX2_init 48 = .ok (.newarray .int, 2) := by decide +kernel
theorem dX2_init_50 : decode cX2_init 50 = .ok (.putfield 33, 3) := by decide +kernel
theorem dX2_init_53 : decode cX2_init 53 = .ok (.return_, 1) := by decide +kernel
theorem dX2_count_0 : decode cX2_count 0 = .ok (.iload_n 1, 1) := by decide +kernel
theorem dX2_count_1 : decode cX2_count 1 = .ok (.tableswitch 124 0 9 #[55, 60, 68, 73, 78, 83, 96, 109, 114, 119], 55) := by decide +kernel
theorem dX2_count_56 : decode cX2_count 56 = .ok (.aload_n 0, 1) := by decide +kernel
theorem dX2_count_57 : decode cX2_count 57 = .ok (.getfield 16, 3) := by decide +kernel
theorem dX2_count_60 : decode cX2_count 60 = .ok (.ireturn, 1) := by decide +kernel
theorem dX2_count_61 : decode cX2_count 61 = .ok (.aload_n 0, 1) := by decide +kernel
theorem dX2_count_62 : decode cX2_count 62 = .ok (.getfield 10, 3) := by decide +kernel
theorem dX2_count_65 : decode cX2_count 65 = .ok (.getfield 43, 3) := by decide +kernel
theorem dX2_count_68 : decode cX2_count 68 = .ok (.ireturn, 1) := by decide +kernel
theorem dX2_count_69 : decode cX2_count 69 = .ok (.aload_n 0, 1) := by decide +kernel
theorem dX2_count_70 : decode cX2_count 70 = .ok (.getfield 64, 3) := by decide +kernel
theorem dX2_count_73 : decode cX2_count 73 = .ok (.ireturn, 1) := by decide +kernel
theorem dX2_count_74 : decode cX2_count 74 = .ok (.aload_n 0, 1) := by decide +kernel
theorem dX2_count_75 : decode cX2_count 75 = .ok (.getfield 73, 3) := by decide +kernel
theorem dX2_count_78 : decode cX2_count 78 = .ok (.ireturn, 1) := by decide +kernel
theorem dX2_count_79 : decode cX2_count 79 = .ok (.aload_n 0, 1) := by decide +kernel
theorem dX2_count_80 : decode cX2_count 80 = .ok (.getfield 108, 3) := by decide +kernel
theorem dX2_count_83 : decode cX2_count 83 = .ok (.ireturn, 1) := by decide +kernel
theorem dX2_count_84 : decode cX2_count 84 = .ok (.aload_n 0, 1) := by decide +kernel
theorem dX2_count_85 : decode cX2_count 85 = .ok (.getfield 76, 3) := by decide +kernel
theorem dX2_count_88 : decode cX2_count 88 = .ok (.ifCond .eq 7, 3) := by decide +kernel
theorem dX2_count_91 : decode cX2_count 91 = .ok (.iconst 1, 1) := by decide +kernel
theorem dX2_count_92 : decode cX2_count 92 = .ok (.goto 4, 3) := by decide +kernel
theorem dX2_count_95 : decode cX2_count 95 = .ok (.iconst 0, 1) := by decide +kernel
theorem dX2_count_96 : decode cX2_count 96 = .ok (.ireturn, 1) := by decide +kernel
theorem dX2_count_97 : decode cX2_count 97 = .ok (.aload_n 0, 1) := by decide +kernel
theorem dX2_count_98 : decode cX2_count 98 = .ok (.getfield 80, 3) := by decide +kernel
theorem dX2_count_101 : decode cX2_count 101 = .ok (.ifCond .eq 7, 3) := by decide +kernel
theorem dX2_count_104 : decode cX2_count 104 = .ok (.iconst 1, 1) := by decide +kernel
theorem dX2_count_105 : decode cX2_count 105 = .ok (.goto 4, 3) := by decide +kernel
theorem dX2_count_108 : decode cX2_count 108 = .ok (.iconst 0, 1) := by decide +kernel
theorem dX2_count_109 : decode cX2_count 109 = .ok (.ireturn, 1) := by decide +kernel
theorem dX2_count_110 : decode cX2_count 110 = .ok (.aload_n 0, 1) := by decide +kernel
theorem dX2_count_111 : decode cX2_count 111 = .ok (.getfield 111, 3) := by decide +kernel
theorem dX2_count_114 : decode cX2_count 114 = .ok (.ireturn, 1) := by decide +kernel
theorem dX2_count_115 : decode cX2_count 115 = .ok (.aload_n 0, 1) := by decide +kernel
theorem dX2_count_116 : decode cX2_count 116 = .ok (.getfield 114, 3) := by decide +kernel
theorem dX2_count_119 : decode cX2_count 119 = .ok (.ireturn, 1) := by decide +kernel
theorem dX2_count_120 : decode cX2_count 120 = .ok (.aload_n 0, 1) := by decide +kernel
theorem dX2_count_121 : decode cX2_count 121 = .ok (.getfield 117, 3) := by decide +kernel
theorem dX2_count_124 : decode cX2_count 124 = .ok (.ireturn, 1) := by decide +kernel
theorem dX2_count_125 : decode cX2_count 125 = .ok (.iconst (-1), 1) := by decide +kernel
theorem dX2_count_126 : decode cX2_count 126 = .ok (.ireturn, 1) := by decide +kernel
theorem dX2_type_0 : decode cX2_type 0 = .ok (.iconst 0, 1) := by decide +kernel
theorem dX2_type_1 : decode cX2_type 1 = .ok (.istore_n 3, 1) := by decide +kernel
theorem dX2_type_2 : decode cX2_type 2 = .ok (.bipush 56, 2) := by decide +kernel
theorem dX2_type_4 : decode cX2_type 4 = .ok (.istore 4, 2) := by decide +kernel
theorem dX2_type_6 : decode cX2_type 6 = .ok (.iload 4, 2) := by decide +kernel
theorem dX2_type_8 : decode cX2_type 8 = .ok (.ifCond .lt 57, 3) := by decide +kernel
theorem dX2_type_11 : decode cX2_type 11 = .ok (.lload_n 1, 1) := by decide +kernel
theorem dX2_type_12 : decode cX2_type 12 = .ok (.iload 4, 2) := by decide +kernel
theorem dX2_type_14 : decode cX2_type 14 = .ok (.invokestatic 36, 3) := by decide +kernel
theorem dX2_type_17 : decode cX2_type 17 = .ok (.istore 5, 2) := by decide +kernel
theorem dX2_type_19 : decode cX2_type 19 = .ok (.iload 5, 2) := by decide +kernel
theorem dX2_type_21 : decode cX2_type 21 = .ok (.ifCond .eq 25, 3) := by decide +kernel
theorem dX2_type_24 : decode cX2_type 24 = .ok (.iload 5, 2) := by decide +kernel
theorem dX2_type_26 : decode cX2_type 26 = .ok (.bipush 33, 2) := by decide +kernel
theorem dX2_type_28 : decode cX2_type 28 = .ok (.if_icmp .lt 10, 3) := by decide +kernel
theorem dX2_type_31 : decode cX2_type 31 = .ok (.iload 5, 2) := by decide +kernel
theorem dX2_type_33 : decode cX2_type 33 = .ok (.bipush 126, 2) := by decide +kernel
theorem dX2_type_35 : decode cX2_type 35 = .ok (.if_icmp .le 11, 3) := by decide +kernel
theorem dX2_type_38 : decode cX2_type 38 = .ok (.new 40, 3) := by decide +kernel
theorem dX2_type_41 : decode cX2_type 41 = .ok (.dup, 1) := by decide +kernel
theorem dX2_type_42 : decode cX2_type 42 = .ok (.invokespecial 42, 3) := by decide +kernel
theorem dX2_type_45 : decode cX2_type 45 = .ok (.athrow, 1) := by decide +kernel
theorem dX2_type_46 : decode cX2_type 46 = .ok (.iload_n 3, 1) := by decide +kernel
theorem dX2_type_47 : decode cX2_type 47 = .ok (.iload 5, 2) := by decide +kernel
theorem dX2_type_49 : decode cX2_type 49 = .ok (.ifCond .eq 7, 3) := by decide +kernel
theorem dX2_type_52 : decode cX2_type 52 = .ok (.iconst 1, 1) := by decide +kernel
theorem dX2_type_53 : decode cX2_type 53 = .ok (.goto 4, 3) := by decide +kernel
theorem dX2_type_56 : decode cX2_type 56 = .ok (.iconst 0, 1) := by decide +kernel
theorem dX2_type_57 : decode cX2_type 57 = .ok (.iadd, 1) := by decide +kernel
theorem dX2_type_58 : decode cX2_type 58 = .ok (.istore_n 3, 1) := by decide +kernel
theorem dX2_type_59 : decode cX2_type 59 = .ok (.iinc 4 (-8), 3) := by decide +kernel
theorem dX2_type_62 : decode cX2_type 62 = .ok (.goto (-56), 3) := by decide +kernel
theorem dX2_type_65 : decode cX2_type 65 = .ok (.aload_n 0, 1) := by decide +kernel
theorem dX2_type_66 : decode cX2_type 66 = .ok (.getfield 10, 3) := by decide +kernel
theorem dX2_type_69 : decode cX2_type 69 = .ok (.getfield 43, 3) := by decide +kernel
theorem dX2_type_72 : decode cX2_type 72 = .ok (.iload_n 3, 1) := by decide +kernel
theorem dX2_type_73 : decode cX2_type 73 = .ok (.iadd, 1) := by decide +kernel
theorem dX2_type_74 : decode cX2_type 74 = .ok (.bipush 40, 2) := by decide +kernel
theorem dX2_type_76 : decode cX2_type 76 = .ok (.if_icmp .le 11, 3) := by decide +kernel
theorem dX2_type_79 : decode cX2_type 79 = .ok (.new 46, 3) := by decide +kernel
theorem dX2_type_82 : decode cX2_type 82 = .ok (.dup, 1) := by decide +kernel
theorem dX2_type_83 : decode cX2_type 83 = .ok (.invokespecial 48, 3) := by decide +kernel
theorem dX2_type_86 : decode cX2_type 86 = .ok (.athrow, 1) := by decide +kernel
theorem dX2_type_87 : decode cX2_type 87 = .ok (.bipush 56, 2) := by decide +kernel
theorem dX2_type_89 : decode cX2_type 89 = .ok (.istore 4, 2) := by decide +kernel
theorem dX2_type_91 : decode cX2_type 91 = .ok (.iload 4, 2) := by decide +kernel
theorem dX2_type_93 : decode cX2_type 93 = .ok (.ifCond .lt 32, 3) := by decide +kernel
theorem dX2_type_96 : decode cX2_type 96 = .ok (.lload_n 1, 1) := by decide +kernel
theorem dX2_type_97 : decode cX2_type 97 = .ok (.iload 4, 2) := by decide +kernel
theorem dX2_type_99 : decode cX2_type 99 = .ok (.invokestatic 36, 3) := by decide +kernel
theorem dX2_type_102 : decode cX2_type 102 = .ok (.istore 5, 2) := by decide +kernel
theorem dX2_type_104 : decode cX2_type 104 = .ok (.iload 5, 2) := by decide +kernel
theorem dX2_type_106 : decode cX2_type 106 = .ok (.ifCond .eq 13, 3) := by decide +kernel
theorem dX2_type_109 : decode cX2_type 109 = .ok (.aload_n 0, 1) := by decide +kernel
theorem dX2_type_110 : decode cX2_type 110 = .ok (.getfield 10, 3) := by decide +kernel
theorem dX2_type_113 : decode cX2_type 113 = .ok (.iload 5, 2) := by decide +kernel
theorem dX2_type_115 : decode cX2_type 115 = .ok (.i2c, 1) := by decide +kernel
theorem dX2_type_116 : decode cX2_type 116 = .ok (.invokevirtual 49, 3) := by decide +kernel
theorem dX2_type_119 : decode cX2_type 119 = .ok (.iinc 4 (-8), 3) := by decide +kernel
theorem dX2_type_122 : decode cX2_type 122 = .ok (.goto (-31), 3) := by decide +kernel
theorem dX2_type_125 : decode cX2_type 125 = .ok (.aload_n 0, 1) := by decide +kernel
theorem dX2_type_126 : decode cX2_type 126 = .ok (.getfield 10, 3) := by decide +kernel
theorem dX2_type_129 : decode cX2_type 129 = .ok (.getfield 43, 3) := by decide +kernel
theorem dX2_type_132 : decode cX2_type 132 = .ok (.ireturn, 1) := by decide +kernel
theorem dX2_byteOf_0 : decode cX2_byteOf 0 = .ok (.lload_n 0, 1) := by decide +kernel
theorem dX2_byteOf_1 : decode cX2_byteOf 1 = .ok (.iload_n 2, 1) := by decide +kernel
theorem dX2_byteOf_2 : decode cX2_byteOf 2 = .ok (.lushr, 1) := by decide +kernel
theorem dX2_byteOf_3 : decode cX2_byteOf 3 = .ok (.l2i, 1) := by decide +kernel
theorem dX2_byteOf_4 : decode cX2_byteOf 4 = .ok (.sipush 255, 3) := by decide +kernel
theorem dX2_byteOf_7 : decode cX2_byteOf 7 = .ok (.iand, 1) := by decide +kernel
theorem dX2_byteOf_8 : decode cX2_byteOf 8 = .ok (.ireturn, 1) := by decide +kernel
theorem dX2_word_0 : decode cX2_word 0 = .ok (.iload_n 1, 1) := by decide +kernel
theorem dX2_word_1 : decode cX2_word 1 = .ok (.bipush 64, 2) := by decide +kernel
theorem dX2_word_3 : decode cX2_word 3 = .ok (.invokestatic 53, 3) := by decide +kernel
theorem dX2_word_6 : decode cX2_word 6 = .ok (.aload_n 0, 1) := by decide +kernel
theorem dX2_word_7 : decode cX2_word 7 = .ok (.getfield 10, 3) := by decide +kernel
theorem dX2_word_10 : decode cX2_word 10 = .ok (.invokevirtual 57, 3) := by decide +kernel
theorem dX2_word_13 : decode cX2_word 13 = .ok (.astore_n 2, 1) := by decide +kernel
theorem dX2_word_14 : decode cX2_word 14 = .ok (.aload_n 0, 1) := by decide +kernel
theorem dX2_word_15 : decode cX2_word 15 = .ok (.getfield 10, 3) := by decide +kernel
theorem dX2_word_18 : decode cX2_word 18 = .ok (.iconst 0, 1) := by decide +kernel
theorem dX2_word_19 : decode cX2_word 19 = .ok (.putfield 43, 3) := by decide +kernel
theorem dX2_word_22 : decode cX2_word 22 = .ok (.aload_n 2, 1) := by decide +kernel
theorem dX2_word_23 : decode cX2_word 23 = .ok (.ifnonnull 22, 3) := by decide +kernel
theorem dX2_word_26 : decode cX2_word 26 = .ok (.aload_n 0, 1) := by decide +kernel
theorem dX2_word_27 : decode cX2_word 27 = .ok (.aload_n 0, 1) := by decide +kernel
theorem dX2_word_28 : decode cX2_word 28 = .ok (.getfield 10, 3) := by decide +kernel
theorem dX2_word_31 : decode cX2_word 31 = .ok (.getfield 61, 3) := by decide +kernel
theorem dX2_word_34 : decode cX2_word 34 = .ok (.putfield 16, 3) := by decide +kernel
theorem dX2_word_37 : decode cX2_word 37 = .ok (.new 40, 3) := by decide +kernel
theorem dX2_word_40 : decode cX2_word 40 = .ok (.dup, 1) := by decide +kernel
theorem dX2_word_41 : decode cX2_word 41 = .ok (.invokespecial 42, 3) := by decide +kernel
theorem dX2_word_44 : decode cX2_word 44 = .ok (.athrow, 1) := by decide +kernel
theorem dX2_word_45 : decode cX2_word 45 = .ok (.aload_n 0, 1) := by decide +kernel
theorem dX2_word_46 : decode cX2_word 46 = .ok (.getfield 22, 3) := by decide +kernel
theorem dX2_word_49 : decode cX2_word 49 = .ok (.iload_n 1, 1) := by decide +kernel
theorem dX2_word_50 : decode cX2_word 50 = .ok (.aaload, 1) := by decide +kernel
theorem dX2_word_51 : decode cX2_word 51 = .ok (.ifnonnull 13, 3) := by decide +kernel
theorem dX2_word_54 : decode cX2_word 54 = .ok (.aload_n 0, 1) := by decide +kernel
theorem dX2_word_55 : decode cX2_word 55 = .ok (.dup, 1) := by decide +kernel
theorem dX2_word_56 : decode cX2_word 56 = .ok (.getfield 64, 3) := by decide +kernel
theorem dX2_word_59 : decode cX2_word 59 = .ok (.iconst 1, 1) := by decide +kernel
theorem dX2_word_60 : decode cX2_word 60 = .ok (.iadd, 1) := by decide +kernel
theorem dX2_word_61 : decode cX2_word 61 = .ok (.putfield 64, 3) := by decide +kernel
theorem dX2_word_64 : decode cX2_word 64 = .ok (.aload_n 0, 1) := by decide +kernel
theorem dX2_word_65 : decode cX2_word 65 = .ok (.getfield 22, 3) := by decide +kernel
theorem dX2_word_68 : decode cX2_word 68 = .ok (.iload_n 1, 1) := by decide +kernel
theorem dX2_word_69 : decode cX2_word 69 = .ok (.aload_n 2, 1) := by decide +kernel
theorem dX2_word_70 : decode cX2_word 70 = .ok (.aastore, 1) := by decide +kernel
theorem dX2_word_71 : decode cX2_word 71 = .ok (.aload_n 2, 1) := by decide +kernel
theorem dX2_word_72 : decode cX2_word 72 = .ok (.getfield 67, 3) := by decide +kernel
theorem dX2_word_75 : decode cX2_word 75 = .ok (.ireturn, 1) := by decide +kernel
theorem dX2_refuseOutside_0 : decode cX2_refuseOutside 0 = .ok (.iload_n 0, 1) := by decide +kernel
theorem dX2_refuseOutside_1 : decode cX2_refuseOutside 1 = .ok (.iload_n 1, 1) := by decide +kernel
theorem dX2_refuseOutside_2 : decode cX2_refuseOutside 2 = .ok (.invokestatic 120, 3) := by decide +kernel
theorem dX2_refuseOutside_5 : decode cX2_refuseOutside 5 = .ok (.ifCond .eq 11, 3) := by decide +kernel
theorem dX2_refuseOutside_8 : decode cX2_refuseOutside 8 = .ok (.new 40, 3) := by decide +kernel
theorem dX2_refuseOutside_11 : decode cX2_refuseOutside 11 = .ok (.dup, 1) := by decide +kernel
theorem dX2_refuseOutside_12 : decode cX2_refuseOutside 12 = .ok (.invokespecial 42, 3) := by decide +kernel
theorem dX2_refuseOutside_15 : decode cX2_refuseOutside 15 = .ok (.athrow, 1) := by decide +kernel
theorem dX2_refuseOutside_16 : decode cX2_refuseOutside 16 = .ok (.return_, 1) := by decide +kernel
theorem dX2_isOutside_0 : decode cX2_isOutside 0 = .ok (.iload_n 0, 1) := by decide +kernel
theorem dX2_isOutside_1 : decode cX2_isOutside 1 = .ok (.ifCond .lt 8, 3) := by decide +kernel
theorem dX2_isOutside_4 : decode cX2_isOutside 4 = .ok (.iload_n 0, 1) := by decide +kernel
theorem dX2_isOutside_5 : decode cX2_isOutside 5 = .ok (.iload_n 1, 1) := by decide +kernel
theorem dX2_isOutside_6 : decode cX2_isOutside 6 = .ok (.if_icmp .lt 7, 3) := by decide +kernel
theorem dX2_isOutside_9 : decode cX2_isOutside 9 = .ok (.iconst 1, 1) := by decide +kernel
theorem dX2_isOutside_10 : decode cX2_isOutside 10 = .ok (.goto 4, 3) := by decide +kernel
theorem dX2_isOutside_13 : decode cX2_isOutside 13 = .ok (.iconst 0, 1) := by decide +kernel
theorem dX2_isOutside_14 : decode cX2_isOutside 14 = .ok (.ireturn, 1) := by decide +kernel
theorem dX2_erase_0 : decode cX2_erase 0 = .ok (.iload_n 1, 1) := by decide +kernel
theorem dX2_erase_1 : decode cX2_erase 1 = .ok (.bipush 64, 2) := by decide +kernel
theorem dX2_erase_3 : decode cX2_erase 3 = .ok (.invokestatic 53, 3) := by decide +kernel
theorem dX2_erase_6 : decode cX2_erase 6 = .ok (.aload_n 0, 1) := by decide +kernel
theorem dX2_erase_7 : decode cX2_erase 7 = .ok (.getfield 22, 3) := by decide +kernel
theorem dX2_erase_10 : decode cX2_erase 10 = .ok (.iload_n 1, 1) := by decide +kernel
theorem dX2_erase_11 : decode cX2_erase 11 = .ok (.aaload, 1) := by decide +kernel
theorem dX2_erase_12 : decode cX2_erase 12 = .ok (.ifnonnull 11, 3) := by decide +kernel
theorem dX2_erase_15 : decode cX2_erase 15 = .ok (.new 70, 3) := by decide +kernel
theorem dX2_erase_18 : decode cX2_erase 18 = .ok (.dup, 1) := by decide +kernel
theorem dX2_erase_19 : decode cX2_erase 19 = .ok (.invokespecial 72, 3) := by decide +kernel
theorem dX2_erase_22 : decode cX2_erase 22 = .ok (.athrow, 1) := by decide +kernel
theorem dX2_erase_23 : decode cX2_erase 23 = .ok (.aload_n 0, 1) := by decide +kernel
theorem dX2_erase_24 : decode cX2_erase 24 = .ok (.getfield 22, 3) := by decide +kernel
theorem dX2_erase_27 : decode cX2_erase 27 = .ok (.iload_n 1, 1) := by decide +kernel
theorem dX2_erase_28 : decode cX2_erase 28 = .ok (.aconst_null, 1) := by decide +kernel
theorem dX2_erase_29 : decode cX2_erase 29 = .ok (.aastore, 1) := by decide +kernel
theorem dX2_erase_30 : decode cX2_erase 30 = .ok (.aload_n 0, 1) := by decide +kernel
theorem dX2_erase_31 : decode cX2_erase 31 = .ok (.dup, 1) := by decide +kernel
theorem dX2_erase_32 : decode cX2_erase 32 = .ok (.getfield 64, 3) := by decide +kernel
theorem dX2_erase_35 : decode cX2_erase 35 = .ok (.iconst 1, 1) := by decide +kernel
theorem dX2_erase_36 : decode cX2_erase 36 = .ok (.isub, 1) := by decide +kernel
theorem dX2_erase_37 : decode cX2_erase 37 = .ok (.putfield 64, 3) := by decide +kernel
theorem dX2_erase_40 : decode cX2_erase 40 = .ok (.return_, 1) := by decide +kernel
theorem dX2_begin_0 : decode cX2_begin 0 = .ok (.iload_n 1, 1) := by decide +kernel
theorem dX2_begin_1 : decode cX2_begin 1 = .ok (.bipush 64, 2) := by decide +kernel
theorem dX2_begin_3 : decode cX2_begin 3 = .ok (.invokestatic 53, 3) := by decide +kernel
theorem dX2_begin_6 : decode cX2_begin 6 = .ok (.aload_n 0, 1) := by decide +kernel
theorem dX2_begin_7 : decode cX2_begin 7 = .ok (.iload_n 1, 1) := by decide +kernel
theorem dX2_begin_8 : decode cX2_begin 8 = .ok (.putfield 73, 3) := by decide +kernel
theorem dX2_begin_11 : decode cX2_begin 11 = .ok (.aload_n 0, 1) := by decide +kernel
theorem dX2_begin_12 : decode cX2_begin 12 = .ok (.iconst 0, 1) := by decide +kernel
theorem dX2_begin_13 : decode cX2_begin 13 = .ok (.putfield 76, 3) := by decide +kernel
theorem dX2_begin_16 : decode cX2_begin 16 = .ok (.aload_n 0, 1) := by decide +kernel
theorem dX2_begin_17 : decode cX2_begin 17 = .ok (.iconst 0, 1) := by decide +kernel
theorem dX2_begin_18 : decode cX2_begin 18 = .ok (.putfield 80, 3) := by decide +kernel
theorem dX2_begin_21 : decode cX2_begin 21 = .ok (.return_, 1) := by decide +kernel
theorem dX2_run_0 : decode cX2_run 0 = .ok (.iload_n 1, 1) := by decide +kernel
theorem dX2_run_1 : decode cX2_run 1 = .ok (.iconst 1, 1) := by decide +kernel
theorem dX2_run_2 : decode cX2_run 2 = .ok (.if_icmp .lt 10, 3) := by decide +kernel
theorem dX2_run_5 : decode cX2_run 5 = .ok (.iload_n 1, 1) := by decide +kernel
theorem dX2_run_6 : decode cX2_run 6 = .ok (.sipush 500, 3) := by decide +kernel
theorem dX2_run_9 : decode cX2_run 9 = .ok (.if_icmp .le 11, 3) := by decide +kernel
theorem dX2_run_12 : decode cX2_run 12 = .ok (.new 40, 3) := by decide +kernel
theorem dX2_run_15 : decode cX2_run 15 = .ok (.dup, 1) := by decide +kernel
theorem dX2_run_16 : decode cX2_run 16 = .ok (.invokespecial 42, 3) := by decide +kernel
theorem dX2_run_19 : decode cX2_run 19 = .ok (.athrow, 1) := by decide +kernel
theorem dX2_run_20 : decode cX2_run 20 = .ok (.iconst 0, 1) := by decide +kernel
theorem dX2_run_21 : decode cX2_run 21 = .ok (.istore_n 2, 1) := by decide +kernel
theorem dX2_run_22 : decode cX2_run 22 = .ok (.iload_n 2, 1) := by decide +kernel
theorem dX2_run_23 : decode cX2_run 23 = .ok (.iload_n 1, 1) := by decide +kernel
theorem dX2_run_24 : decode cX2_run 24 = .ok (.if_icmp .ge 36, 3) := by decide +kernel
theorem dX2_run_27 : decode cX2_run 27 = .ok (.aload_n 0, 1) := by decide +kernel
theorem dX2_run_28 : decode cX2_run 28 = .ok (.getfield 22, 3) := by decide +kernel
theorem dX2_run_31 : decode cX2_run 31 = .ok (.aload_n 0, 1) := by decide +kernel
theorem dX2_run_32 : decode cX2_run 32 = .ok (.getfield 73, 3) := by decide +kernel
theorem dX2_run_35 : decode cX2_run 35 = .ok (.aaload, 1) := by decide +kernel
theorem dX2_run_36 : decode cX2_run 36 = .ok (.astore_n 3, 1) := by decide +kernel
theorem dX2_run_37 : decode cX2_run 37 = .ok (.aload_n 3, 1) := by decide +kernel
theorem dX2_run_38 : decode cX2_run 38 = .ok (.ifnonnull 11, 3) := by decide +kernel
theorem dX2_run_41 : decode cX2_run 41 = .ok (.new 70, 3) := by decide +kernel
theorem dX2_run_44 : decode cX2_run 44 = .ok (.dup, 1) := by decide +kernel
theorem dX2_run_45 : decode cX2_run 45 = .ok (.invokespecial 72, 3) := by decide +kernel
theorem dX2_run_48 : decode cX2_run 48 = .ok (.athrow, 1) := by decide +kernel
theorem dX2_run_49 : decode cX2_run 49 = .ok (.aload_n 0, 1) := by decide +kernel
theorem dX2_run_50 : decode cX2_run 50 = .ok (.aload_n 3, 1) := by decide +kernel
theorem dX2_run_51 : decode cX2_run 51 = .ok (.invokevirtual 83, 3) := by decide +kernel
theorem dX2_run_54 : decode cX2_run 54 = .ok (.iinc 2 1, 3) := by decide +kernel
theorem dX2_run_57 : decode cX2_run 57 = .ok (.goto (-35), 3) := by decide +kernel
theorem dX2_run_60 : decode cX2_run 60 = .ok (.aload_n 0, 1) := by decide +kernel
theorem dX2_run_61 : decode cX2_run 61 = .ok (.getfield 73, 3) := by decide +kernel
theorem dX2_run_64 : decode cX2_run 64 = .ok (.ireturn, 1) := by decide +kernel
theorem dX2_doCycle_0 : decode cX2_doCycle 0 = .ok (.aload_n 0, 1) := by decide +kernel
theorem dX2_doCycle_1 : decode cX2_doCycle 1 = .ok (.aload_n 1, 1) := by decide +kernel
theorem dX2_doCycle_2 : decode cX2_doCycle 2 = .ok (.invokevirtual 124, 3) := by decide +kernel
theorem dX2_doCycle_5 : decode cX2_doCycle 5 = .ok (.istore_n 2, 1) := by decide +kernel
theorem dX2_doCycle_6 : decode cX2_doCycle 6 = .ok (.aload_n 1, 1) := by decide +kernel
theorem dX2_doCycle_7 : decode cX2_doCycle 7 = .ok (.getfield 105, 3) := by decide +kernel
theorem dX2_doCycle_10 : decode cX2_doCycle 10 = .ok (.iload_n 2, 1) := by decide +kernel
theorem dX2_doCycle_11 : decode cX2_doCycle 11 = .ok (.invokestatic 128, 3) := by decide +kernel
theorem dX2_doCycle_14 : decode cX2_doCycle 14 = .ok (.istore_n 3, 1) := by decide +kernel
theorem dX2_doCycle_15 : decode cX2_doCycle 15 = .ok (.aload_n 1, 1) := by decide +kernel
theorem dX2_doCycle_16 : decode cX2_doCycle 16 = .ok (.iconst 0, 1) := by decide +kernel
theorem dX2_doCycle_17 : decode cX2_doCycle 17 = .ok (.invokevirtual 132, 3) := by decide +kernel
theorem dX2_doCycle_20 : decode cX2_doCycle 20 = .ok (.ifCond .eq 7, 3) := by decide +kernel
theorem dX2_doCycle_23 : decode cX2_doCycle 23 = .ok (.iload_n 3, 1) := by decide +kernel
theorem dX2_doCycle_24 : decode cX2_doCycle 24 = .ok (.goto 9, 3) := by decide +kernel
theorem dX2_doCycle_27 : decode cX2_doCycle 27 = .ok (.aload_n 0, 1) := by decide +kernel
theorem dX2_doCycle_28 : decode cX2_doCycle 28 = .ok (.getfield 26, 3) := by decide +kernel
theorem dX2_doCycle_31 : decode cX2_doCycle 31 = .ok (.iconst 0, 1) := by decide +kernel
theorem dX2_doCycle_32 : decode cX2_doCycle 32 = .ok (.iaload, 1) := by decide +kernel
theorem dX2_doCycle_33 : decode cX2_doCycle 33 = .ok (.istore 4, 2) := by decide +kernel
theorem dX2_doCycle_35 : decode cX2_doCycle 35 = .ok (.aload_n 1, 1) := by decide +kernel
theorem dX2_doCycle_36 : decode cX2_doCycle 36 = .ok (.iconst 2, 1) := by decide +kernel
theorem dX2_doCycle_37 : decode cX2_doCycle 37 = .ok (.invokevirtual 132, 3) := by decide +kernel
theorem dX2_doCycle_40 : decode cX2_doCycle 40 = .ok (.ifCond .eq 7, 3) := by decide +kernel
theorem dX2_doCycle_43 : decode cX2_doCycle 43 = .ok (.iload_n 3, 1) := by decide +kernel
theorem dX2_doCycle_44 : decode cX2_doCycle 44 = .ok (.goto 9, 3) := by decide +kernel
theorem dX2_doCycle_47 : decode cX2_doCycle 47 = .ok (.aload_n 0, 1) := by decide +kernel
theorem dX2_doCycle_48 : decode cX2_doCycle 48 = .ok (.getfield 26, 3) := by decide +kernel
theorem dX2_doCycle_51 : decode cX2_doCycle 51 = .ok (.iconst 2, 1) := by decide +kernel
theorem dX2_doCycle_52 : decode cX2_doCycle 52 = .ok (.iaload, 1) := by decide +kernel
theorem dX2_doCycle_53 : decode cX2_doCycle 53 = .ok (.istore 5, 2) := by decide +kernel
theorem dX2_doCycle_55 : decode cX2_doCycle 55 = .ok (.aload_n 1, 1) := by decide +kernel
theorem dX2_doCycle_56 : decode cX2_doCycle 56 = .ok (.getfield 90, 3) := by decide +kernel
theorem dX2_doCycle_59 : decode cX2_doCycle 59 = .ok (.ifCond .eq 13, 3) := by decide +kernel
theorem dX2_doCycle_62 : decode cX2_doCycle 62 = .ok (.iload 4, 2) := by decide +kernel
theorem dX2_doCycle_64 : decode cX2_doCycle 64 = .ok (.bipush 64, 2) := by decide +kernel
theorem dX2_doCycle_66 : decode cX2_doCycle 66 = .ok (.invokestatic 120, 3) := by decide +kernel
theorem dX2_doCycle_69 : decode cX2_doCycle 69 = .ok (.ifCond .ne 20, 3) := by decide +kernel
theorem dX2_doCycle_72 : decode cX2_doCycle 72 = .ok (.aload_n 1, 1) := by decide +kernel
theorem dX2_doCycle_73 : decode cX2_doCycle 73 = .ok (.getfield 93, 3) := by decide +kernel
theorem dX2_doCycle_76 : decode cX2_doCycle 76 = .ok (.ifCond .eq 21, 3) := by decide +kernel
theorem dX2_doCycle_79 : decode cX2_doCycle 79 = .ok (.iload 5, 2) := by decide +kernel
theorem dX2_doCycle_81 : decode cX2_doCycle 81 = .ok (.bipush 64, 2) := by decide +kernel
theorem dX2_doCycle_83 : decode cX2_doCycle 83 = .ok (.invokestatic 120, 3) := by decide +kernel
theorem dX2_doCycle_86 : decode cX2_doCycle 86 = .ok (.ifCond .eq 11, 3) := by decide +kernel
theorem dX2_doCycle_89 : decode cX2_doCycle 89 = .ok (.new 136, 3) := by decide +kernel
theorem dX2_doCycle_92 : decode cX2_doCycle 92 = .ok (.dup, 1) := by decide +kernel
theorem dX2_doCycle_93 : decode cX2_doCycle 93 = .ok (.invokespecial 138, 3) := by decide +kernel
theorem dX2_doCycle_96 : decode cX2_doCycle 96 = .ok (.athrow, 1) := by decide +kernel
theorem dX2_doCycle_97 : decode cX2_doCycle 97 = .ok (.iconst 0, 1) := by decide +kernel
theorem dX2_doCycle_98 : decode cX2_doCycle 98 = .ok (.istore 6, 2) := by decide +kernel
theorem dX2_doCycle_100 : decode cX2_doCycle 100 = .ok (.iload 6, 2) := by decide +kernel
theorem dX2_doCycle_102 : decode cX2_doCycle 102 = .ok (.bipush 8, 2) := by decide +kernel
theorem dX2_doCycle_104 : decode cX2_doCycle 104 = .ok (.if_icmp .gt 26, 3) := by decide +kernel
theorem dX2_doCycle_107 : decode cX2_doCycle 107 = .ok (.aload_n 1, 1) := by decide +kernel
theorem dX2_doCycle_108 : decode cX2_doCycle 108 = .ok (.iload 6, 2) := by decide +kernel
theorem dX2_doCycle_110 : decode cX2_doCycle 110 = .ok (.invokevirtual 132, 3) := by decide +kernel
theorem dX2_doCycle_113 : decode cX2_doCycle 113 = .ok (.ifCond .eq 11, 3) := by decide +kernel
theorem dX2_doCycle_116 : decode cX2_doCycle 116 = .ok (.aload_n 0, 1) := by decide +kernel
theorem dX2_doCycle_117 : decode cX2_doCycle 117 = .ok (.getfield 26, 3) := by decide +kernel
theorem dX2_doCycle_120 : decode cX2_doCycle 120 = .ok (.iload 6, 2) := by decide +kernel
theorem dX2_doCycle_122 : decode cX2_doCycle 122 = .ok (.iload_n 3, 1) := by decide +kernel
theorem dX2_doCycle_123 : decode cX2_doCycle 123 = .ok (.iastore, 1) := by decide +kernel
theorem dX2_doCycle_124 : decode cX2_doCycle 124 = .ok (.iinc 6 1, 3) := by decide +kernel
theorem dX2_doCycle_127 : decode cX2_doCycle 127 = .ok (.goto (-27), 3) := by decide +kernel
theorem dX2_doCycle_130 : decode cX2_doCycle 130 = .ok (.aload_n 0, 1) := by decide +kernel
theorem dX2_doCycle_131 : decode cX2_doCycle 131 = .ok (.aload_n 1, 1) := by decide +kernel
theorem dX2_doCycle_132 : decode cX2_doCycle 132 = .ok (.getfield 90, 3) := by decide +kernel
theorem dX2_doCycle_135 : decode cX2_doCycle 135 = .ok (.iload 4, 2) := by decide +kernel
theorem dX2_doCycle_137 : decode cX2_doCycle 137 = .ok (.invokevirtual 139, 3) := by decide +kernel
theorem dX2_doCycle_140 : decode cX2_doCycle 140 = .ok (.aload_n 0, 1) := by decide +kernel
theorem dX2_doCycle_141 : decode cX2_doCycle 141 = .ok (.aload_n 1, 1) := by decide +kernel
theorem dX2_doCycle_142 : decode cX2_doCycle 142 = .ok (.getfield 93, 3) := by decide +kernel
theorem dX2_doCycle_145 : decode cX2_doCycle 145 = .ok (.iload 5, 2) := by decide +kernel
theorem dX2_doCycle_147 : decode cX2_doCycle 147 = .ok (.invokevirtual 142, 3) := by decide +kernel
theorem dX2_doCycle_150 : decode cX2_doCycle 150 = .ok (.aload_n 0, 1) := by decide +kernel
theorem dX2_doCycle_151 : decode cX2_doCycle 151 = .ok (.aload_n 0, 1) := by decide +kernel
theorem dX2_doCycle_152 : decode cX2_doCycle 152 = .ok (.aload_n 1, 1) := by decide +kernel
theorem dX2_doCycle_153 : decode cX2_doCycle 153 = .ok (.iload_n 2, 1) := by decide +kernel
theorem dX2_doCycle_154 : decode cX2_doCycle 154 = .ok (.invokevirtual 146, 3) := by decide +kernel
theorem dX2_doCycle_157 : decode cX2_doCycle 157 = .ok (.putfield 73, 3) := by decide +kernel
theorem dX2_doCycle_160 : decode cX2_doCycle 160 = .ok (.aload_n 0, 1) := by decide +kernel
theorem dX2_doCycle_161 : decode cX2_doCycle 161 = .ok (.dup, 1) := by decide +kernel
theorem dX2_doCycle_162 : decode cX2_doCycle 162 = .ok (.getfield 108, 3) := by decide +kernel
theorem dX2_doCycle_165 : decode cX2_doCycle 165 = .ok (.iconst 1, 1) := by decide +kernel
theorem dX2_doCycle_166 : decode cX2_doCycle 166 = .ok (.iadd, 1) := by decide +kernel
theorem dX2_doCycle_167 : decode cX2_doCycle 167 = .ok (.putfield 108, 3) := by decide +kernel
theorem dX2_doCycle_170 : decode cX2_doCycle 170 = .ok (.return_, 1) := by decide +kernel
theorem dX2_valueOf_0 : decode cX2_valueOf 0 = .ok (.aload_n 0, 1) := by decide +kernel
theorem dX2_valueOf_1 : decode cX2_valueOf 1 = .ok (.aload_n 1, 1) := by decide +kernel
theorem dX2_valueOf_2 : decode cX2_valueOf 2 = .ok (.getfield 150, 3) := by decide +kernel
theorem dX2_valueOf_5 : decode cX2_valueOf 5 = .ok (.invokevirtual 153, 3) := by decide +kernel
theorem dX2_valueOf_8 : decode cX2_valueOf 8 = .ok (.istore_n 2, 1) := by decide +kernel
theorem dX2_valueOf_9 : decode cX2_valueOf 9 = .ok (.aload_n 0, 1) := by decide +kernel
theorem dX2_valueOf_10 : decode cX2_valueOf 10 = .ok (.getfield 26, 3) := by decide +kernel
theorem dX2_valueOf_13 : decode cX2_valueOf 13 = .ok (.bipush 8, 2) := by decide +kernel
theorem dX2_valueOf_15 : decode cX2_valueOf 15 = .ok (.iaload, 1) := by decide +kernel
theorem dX2_valueOf_16 : decode cX2_valueOf 16 = .ok (.istore_n 3, 1) := by decide +kernel
theorem dX2_valueOf_17 : decode cX2_valueOf 17 = .ok (.aload_n 1, 1) := by decide +kernel
theorem dX2_valueOf_18 : decode cX2_valueOf 18 = .ok (.getfield 157, 3) := by decide +kernel
theorem dX2_valueOf_21 : decode cX2_valueOf 21 = .ok (.tableswitch 128 1 15 #[75, 77, 79, 81, 85, 89, 93, 97, 99, 103, 107, 113, 117, 121, 125], 75) := by decide +kernel
theorem dX2_valueOf_96 : decode cX2_valueOf 96 = .ok (.iconst 1, 1) := by decide +kernel
theorem dX2_valueOf_97 : decode cX2_valueOf 97 = .ok (.ireturn, 1) := by decide +kernel
theorem dX2_valueOf_98 : decode cX2_valueOf 98 = .ok (.iconst (-1), 1) := by decide +kernel
theorem dX2_valueOf_99 : decode cX2_valueOf 99 = .ok (.ireturn, 1) := by decide +kernel
theorem dX2_valueOf_100 : decode cX2_valueOf 100 = .ok (.iload_n 2, 1) := by decide +kernel
theorem dX2_valueOf_101 : decode cX2_valueOf 101 = .ok (.ireturn, 1) := by decide +kernel
theorem dX2_valueOf_102 : decode cX2_valueOf 102 = .ok (.iload_n 2, 1) := by decide +kernel
theorem dX2_valueOf_103 : decode cX2_valueOf 103 = .ok (.iconst 1, 1) := by decide +kernel
theorem dX2_valueOf_104 : decode cX2_valueOf 104 = .ok (.iadd, 1) := by decide +kernel
theorem dX2_valueOf_105 : decode cX2_valueOf 105 = .ok (.ireturn, 1) := by decide +kernel
theorem dX2_valueOf_106 : decode cX2_valueOf 106 = .ok (.iload_n 2, 1) := by decide +kernel
theorem dX2_valueOf_107 : decode cX2_valueOf 107 = .ok (.iconst 1, 1) := by decide +kernel
theorem dX2_valueOf_108 : decode cX2_valueOf 108 = .ok (.isub, 1) := by decide +kernel
theorem dX2_valueOf_109 : decode cX2_valueOf 109 = .ok (.ireturn, 1) := by decide +kernel
theorem dX2_valueOf_110 : decode cX2_valueOf 110 = .ok (.iload_n 2, 1) := by decide +kernel
theorem dX2_valueOf_111 : decode cX2_valueOf 111 = .ok (.iload_n 3, 1) := by decide +kernel
theorem dX2_valueOf_112 : decode cX2_valueOf 112 = .ok (.isub, 1) := by decide +kernel
theorem dX2_valueOf_113 : decode cX2_valueOf 113 = .ok (.ireturn, 1) := by decide +kernel
theorem dX2_valueOf_114 : decode cX2_valueOf 114 = .ok (.iload_n 2, 1) := by decide +kernel
theorem dX2_valueOf_115 : decode cX2_valueOf 115 = .ok (.iconst (-1), 1) := by decide +kernel
theorem dX2_valueOf_116 : decode cX2_valueOf 116 = .ok (.ixor, 1) := by decide +kernel
theorem dX2_valueOf_117 : decode cX2_valueOf 117 = .ok (.ireturn, 1) := by decide +kernel
theorem dX2_valueOf_118 : decode cX2_valueOf 118 = .ok (.iload_n 3, 1) := by decide +kernel
theorem dX2_valueOf_119 : decode cX2_valueOf 119 = .ok (.ireturn, 1) := by decide +kernel
theorem dX2_valueOf_120 : decode cX2_valueOf 120 = .ok (.iload_n 3, 1) := by decide +kernel
theorem dX2_valueOf_121 : decode cX2_valueOf 121 = .ok (.iconst 1, 1) := by decide +kernel
theorem dX2_valueOf_122 : decode cX2_valueOf 122 = .ok (.iadd, 1) := by decide +kernel
theorem dX2_valueOf_123 : decode cX2_valueOf 123 = .ok (.ireturn, 1) := by decide +kernel
theorem dX2_valueOf_124 : decode cX2_valueOf 124 = .ok (.iload_n 3, 1) := by decide +kernel
theorem dX2_valueOf_125 : decode cX2_valueOf 125 = .ok (.iload_n 2, 1) := by decide +kernel
theorem dX2_valueOf_126 : decode cX2_valueOf 126 = .ok (.iadd, 1) := by decide +kernel
theorem dX2_valueOf_127 : decode cX2_valueOf 127 = .ok (.ireturn, 1) := by decide +kernel
theorem dX2_valueOf_128 : decode cX2_valueOf 128 = .ok (.iload_n 3, 1) := by decide +kernel
theorem dX2_valueOf_129 : decode cX2_valueOf 129 = .ok (.iload_n 2, 1) := by decide +kernel
theorem dX2_valueOf_130 : decode cX2_valueOf 130 = .ok (.iadd, 1) := by decide +kernel
theorem dX2_valueOf_131 : decode cX2_valueOf 131 = .ok (.iconst 1, 1) := by decide +kernel
theorem dX2_valueOf_132 : decode cX2_valueOf 132 = .ok (.iadd, 1) := by decide +kernel
theorem dX2_valueOf_133 : decode cX2_valueOf 133 = .ok (.ireturn, 1) := by decide +kernel
theorem dX2_valueOf_134 : decode cX2_valueOf 134 = .ok (.iload_n 3, 1) := by decide +kernel
theorem dX2_valueOf_135 : decode cX2_valueOf 135 = .ok (.iload_n 2, 1) := by decide +kernel
theorem dX2_valueOf_136 : decode cX2_valueOf 136 = .ok (.iand, 1) := by decide +kernel
theorem dX2_valueOf_137 : decode cX2_valueOf 137 = .ok (.ireturn, 1) := by decide +kernel
theorem dX2_valueOf_138 : decode cX2_valueOf 138 = .ok (.iload_n 3, 1) := by decide +kernel
theorem dX2_valueOf_139 : decode cX2_valueOf 139 = .ok (.iload_n 2, 1) := by decide +kernel
theorem dX2_valueOf_140 : decode cX2_valueOf 140 = .ok (.ior, 1) := by decide +kernel
theorem dX2_valueOf_141 : decode cX2_valueOf 141 = .ok (.ireturn, 1) := by decide +kernel
theorem dX2_valueOf_142 : decode cX2_valueOf 142 = .ok (.iload_n 3, 1) := by decide +kernel
theorem dX2_valueOf_143 : decode cX2_valueOf 143 = .ok (.iconst (-1), 1) := by decide +kernel
theorem dX2_valueOf_144 : decode cX2_valueOf 144 = .ok (.ixor, 1) := by decide +kernel
theorem dX2_valueOf_145 : decode cX2_valueOf 145 = .ok (.ireturn, 1) := by decide +kernel
theorem dX2_valueOf_146 : decode cX2_valueOf 146 = .ok (.iload_n 3, 1) := by decide +kernel
theorem dX2_valueOf_147 : decode cX2_valueOf 147 = .ok (.ineg, 1) := by decide +kernel
theorem dX2_valueOf_148 : decode cX2_valueOf 148 = .ok (.ireturn, 1) := by decide +kernel
theorem dX2_valueOf_149 : decode cX2_valueOf 149 = .ok (.iconst 0, 1) := by decide +kernel
theorem dX2_valueOf_150 : decode cX2_valueOf 150 = .ok (.ireturn, 1) := by decide +kernel
theorem dX2_busOf_0 : decode cX2_busOf 0 = .ok (.iload_n 1, 1) := by decide +kernel
theorem dX2_busOf_1 : decode cX2_busOf 1 = .ok (.bipush 9, 2) := by decide +kernel
theorem dX2_busOf_3 : decode cX2_busOf 3 = .ok (.if_icmp .ne 12, 3) := by decide +kernel
theorem dX2_busOf_6 : decode cX2_busOf 6 = .ok (.aload_n 0, 1) := by decide +kernel
theorem dX2_busOf_7 : decode cX2_busOf 7 = .ok (.getfield 26, 3) := by decide +kernel
theorem dX2_busOf_10 : decode cX2_busOf 10 = .ok (.bipush 9, 2) := by decide +kernel
theorem dX2_busOf_12 : decode cX2_busOf 12 = .ok (.iaload, 1) := by decide +kernel
theorem dX2_busOf_13 : decode cX2_busOf 13 = .ok (.i2b, 1) := by decide +kernel
theorem dX2_busOf_14 : decode cX2_busOf 14 = .ok (.ireturn, 1) := by decide +kernel
theorem dX2_busOf_15 : decode cX2_busOf 15 = .ok (.iload_n 1, 1) := by decide +kernel
theorem dX2_busOf_16 : decode cX2_busOf 16 = .ok (.bipush 9, 2) := by decide +kernel
theorem dX2_busOf_18 : decode cX2_busOf 18 = .ok (.if_icmp .le 13, 3) := by decide +kernel
theorem dX2_busOf_21 : decode cX2_busOf 21 = .ok (.aload_n 0, 1) := by decide +kernel
theorem dX2_busOf_22 : decode cX2_busOf 22 = .ok (.getfield 26, 3) := by decide +kernel
theorem dX2_busOf_25 : decode cX2_busOf 25 = .ok (.bipush 9, 2) := by decide +kernel
theorem dX2_busOf_27 : decode cX2_busOf 27 = .ok (.iaload, 1) := by decide +kernel
theorem dX2_busOf_28 : decode cX2_busOf 28 = .ok (.goto 9, 3) := by decide +kernel
theorem dX2_busOf_31 : decode cX2_busOf 31 = .ok (.aload_n 0, 1) := by decide +kernel
theorem dX2_busOf_32 : decode cX2_busOf 32 = .ok (.getfield 26, 3) := by decide +kernel
theorem dX2_busOf_35 : decode cX2_busOf 35 = .ok (.iload_n 1, 1) := by decide +kernel
theorem dX2_busOf_36 : decode cX2_busOf 36 = .ok (.iaload, 1) := by decide +kernel
theorem dX2_busOf_37 : decode cX2_busOf 37 = .ok (.ireturn, 1) := by decide +kernel
theorem dX2_shiftedBy_0 : decode cX2_shiftedBy 0 = .ok (.iload_n 0, 1) := by decide +kernel
theorem dX2_shiftedBy_1 : decode cX2_shiftedBy 1 = .ok (.iconst 1, 1) := by decide +kernel
theorem dX2_shiftedBy_2 : decode cX2_shiftedBy 2 = .ok (.if_icmp .ne 8, 3) := by decide +kernel
theorem dX2_shiftedBy_5 : decode cX2_shiftedBy 5 = .ok (.iload_n 1, 1) := by decide +kernel
theorem dX2_shiftedBy_6 : decode cX2_shiftedBy 6 = .ok (.bipush 8, 2) := by decide +kernel
theorem dX2_shiftedBy_8 : decode cX2_shiftedBy 8 = .ok (.ishl, 1) := by decide +kernel
theorem dX2_shiftedBy_9 : decode cX2_shiftedBy 9 = .ok (.ireturn, 1) := by decide +kernel
theorem dX2_shiftedBy_10 : decode cX2_shiftedBy 10 = .ok (.iload_n 0, 1) := by decide +kernel
theorem dX2_shiftedBy_11 : decode cX2_shiftedBy 11 = .ok (.iconst 2, 1) := by decide +kernel
theorem dX2_shiftedBy_12 : decode cX2_shiftedBy 12 = .ok (.if_icmp .ne 9, 3) := by decide +kernel
theorem dX2_shiftedBy_15 : decode cX2_shiftedBy 15 = .ok (.iload_n 1, 1) := by decide +kernel
theorem dX2_shiftedBy_16 : decode cX2_shiftedBy 16 = .ok (.iconst 1, 1) := by decide +kernel
theorem dX2_shiftedBy_17 : decode cX2_shiftedBy 17 = .ok (.ishr, 1) := by decide +kernel
theorem dX2_shiftedBy_18 : decode cX2_shiftedBy 18 = .ok (.goto 4, 3) := by decide +kernel
theorem dX2_shiftedBy_21 : decode cX2_shiftedBy 21 = .ok (.iload_n 1, 1) := by decide +kernel
theorem dX2_shiftedBy_22 : decode cX2_shiftedBy 22 = .ok (.ireturn, 1) := by decide +kernel
theorem dX2_askForWord_0 : decode cX2_askForWord 0 = .ok (.aload_n 0, 1) := by decide +kernel
theorem dX2_askForWord_1 : decode cX2_askForWord 1 = .ok (.getfield 76, 3) := by decide +kernel
theorem dX2_askForWord_4 : decode cX2_askForWord 4 = .ok (.istore_n 3, 1) := by decide +kernel
theorem dX2_askForWord_5 : decode cX2_askForWord 5 = .ok (.aload_n 0, 1) := by decide +kernel
theorem dX2_askForWord_6 : decode cX2_askForWord 6 = .ok (.getfield 160, 3) := by decide +kernel
theorem dX2_askForWord_9 : decode cX2_askForWord 9 = .ok (.istore 4, 2) := by decide +kernel
theorem dX2_askForWord_11 : decode cX2_askForWord 11 = .ok (.aload_n 0, 1) := by decide +kernel
theorem dX2_askForWord_12 : decode cX2_askForWord 12 = .ok (.iload_n 1, 1) := by decide +kernel
theorem dX2_askForWord_13 : decode cX2_askForWord 13 = .ok (.iconst 1, 1) := by decide +kernel
theorem dX2_askForWord_14 : decode cX2_askForWord 14 = .ok (.if_icmp .ne 7, 3) := by decide +kernel
theorem dX2_askForWord_17 : decode cX2_askForWord 17 = .ok (.iconst 1, 1) := by decide +kernel
theorem dX2_askForWord_18 : decode cX2_askForWord 18 = .ok (.goto 4, 3) := by decide +kernel
theorem dX2_askForWord_21 : decode cX2_askForWord 21 = .ok (.iconst 0, 1) := by decide +kernel
theorem dX2_askForWord_22 : decode cX2_askForWord 22 = .ok (.putfield 76, 3) := by decide +kernel
theorem dX2_askForWord_25 : decode cX2_askForWord 25 = .ok (.iload_n 1, 1) := by decide +kernel
theorem dX2_askForWord_26 : decode cX2_askForWord 26 = .ok (.iconst 1, 1) := by decide +kernel
theorem dX2_askForWord_27 : decode cX2_askForWord 27 = .ok (.if_icmp .ne 26, 3) := by decide +kernel
theorem dX2_askForWord_30 : decode cX2_askForWord 30 = .ok (.aload_n 0, 1) := by decide +kernel
theorem dX2_askForWord_31 : decode cX2_askForWord 31 = .ok (.aload_n 0, 1) := by decide +kernel
theorem dX2_askForWord_32 : decode cX2_askForWord 32 = .ok (.getfield 30, 3) := by decide +kernel
theorem dX2_askForWord_35 : decode cX2_askForWord 35 = .ok (.iload_n 2, 1) := by decide +kernel
theorem dX2_askForWord_36 : decode cX2_askForWord 36 = .ok (.iaload, 1) := by decide +kernel
theorem dX2_askForWord_37 : decode cX2_askForWord 37 = .ok (.putfield 160, 3) := by decide +kernel
theorem dX2_askForWord_40 : decode cX2_askForWord 40 = .ok (.aload_n 0, 1) := by decide +kernel
theorem dX2_askForWord_41 : decode cX2_askForWord 41 = .ok (.dup, 1) := by decide +kernel
theorem dX2_askForWord_42 : decode cX2_askForWord 42 = .ok (.getfield 111, 3) := by decide +kernel
theorem dX2_askForWord_45 : decode cX2_askForWord 45 = .ok (.iconst 1, 1) := by decide +kernel
theorem dX2_askForWord_46 : decode cX2_askForWord 46 = .ok (.iadd, 1) := by decide +kernel
theorem dX2_askForWord_47 : decode cX2_askForWord 47 = .ok (.putfield 111, 3) := by decide +kernel
theorem dX2_askForWord_50 : decode cX2_askForWord 50 = .ok (.goto 30, 3) := by decide +kernel
theorem dX2_askForWord_53 : decode cX2_askForWord 53 = .ok (.iload_n 1, 1) := by decide +kernel
theorem dX2_askForWord_54 : decode cX2_askForWord 54 = .ok (.iconst 2, 1) := by decide +kernel
theorem dX2_askForWord_55 : decode cX2_askForWord 55 = .ok (.if_icmp .ne 25, 3) := by decide +kernel
theorem dX2_askForWord_58 : decode cX2_askForWord 58 = .ok (.aload_n 0, 1) := by decide +kernel
theorem dX2_askForWord_59 : decode cX2_askForWord 59 = .ok (.getfield 30, 3) := by decide +kernel
theorem dX2_askForWord_62 : decode cX2_askForWord 62 = .ok (.iload_n 2, 1) := by decide +kernel
theorem dX2_askForWord_63 : decode cX2_askForWord 63 = .ok (.aload_n 0, 1) := by decide +kernel
theorem dX2_askForWord_64 : decode cX2_askForWord 64 = .ok (.getfield 26, 3) := by decide +kernel
theorem dX2_askForWord_67 : decode cX2_askForWord 67 = .ok (.iconst 1, 1) := by decide +kernel
theorem dX2_askForWord_68 : decode cX2_askForWord 68 = .ok (.iaload, 1) := by decide +kernel
theorem dX2_askForWord_69 : decode cX2_askForWord 69 = .ok (.iastore, 1) := by decide +kernel
theorem dX2_askForWord_70 : decode cX2_askForWord 70 = .ok (.aload_n 0, 1) := by decide +kernel
theorem dX2_askForWord_71 : decode cX2_askForWord 71 = .ok (.dup, 1) := by decide +kernel
theorem dX2_askForWord_72 : decode cX2_askForWord 72 = .ok (.getfield 114, 3) := by decide +kernel
theorem dX2_askForWord_75 : decode cX2_askForWord 75 = .ok (.iconst 1, 1) := by decide +kernel
theorem dX2_askForWord_76 : decode cX2_askForWord 76 = .ok (.iadd, 1) := by decide +kernel
theorem dX2_askForWord_77 : decode cX2_askForWord 77 = .ok (.putfield 114, 3) := by decide +kernel
theorem dX2_askForWord_80 : decode cX2_askForWord 80 = .ok (.iload_n 3, 1) := by decide +kernel
theorem dX2_askForWord_81 : decode cX2_askForWord 81 = .ok (.ifCond .eq 11, 3) := by decide +kernel
theorem dX2_askForWord_84 : decode cX2_askForWord 84 = .ok (.aload_n 0, 1) := by decide +kernel
theorem dX2_askForWord_85 : decode cX2_askForWord 85 = .ok (.getfield 26, 3) := by decide +kernel
theorem dX2_askForWord_88 : decode cX2_askForWord 88 = .ok (.iconst 1, 1) := by decide +kernel
theorem dX2_askForWord_89 : decode cX2_askForWord 89 = .ok (.iload 4, 2) := by decide +kernel
theorem dX2_askForWord_91 : decode cX2_askForWord 91 = .ok (.iastore, 1) := by decide +kernel
theorem dX2_askForWord_92 : decode cX2_askForWord 92 = .ok (.return_, 1) := by decide +kernel
theorem dX2_askForByte_0 : decode cX2_askForByte 0 = .ok (.aload_n 0, 1) := by decide +kernel
theorem dX2_askForByte_1 : decode cX2_askForByte 1 = .ok (.getfield 80, 3) := by decide +kernel
theorem dX2_askForByte_4 : decode cX2_askForByte 4 = .ok (.istore_n 3, 1) := by decide +kernel
theorem dX2_askForByte_5 : decode cX2_askForByte 5 = .ok (.aload_n 0, 1) := by decide +kernel
theorem dX2_askForByte_6 : decode cX2_askForByte 6 = .ok (.getfield 163, 3) := by decide +kernel
theorem dX2_askForByte_9 : decode cX2_askForByte 9 = .ok (.istore 4, 2) := by decide +kernel
theorem dX2_askForByte_11 : decode cX2_askForByte 11 = .ok (.aload_n 0, 1) := by decide +kernel
theorem dX2_askForByte_12 : decode cX2_askForByte 12 = .ok (.iload_n 1, 1) := by decide +kernel
theorem dX2_askForByte_13 : decode cX2_askForByte 13 = .ok (.putfield 80, 3) := by decide +kernel
theorem dX2_askForByte_16 : decode cX2_askForByte 16 = .ok (.iload_n 1, 1) := by decide +kernel
theorem dX2_askForByte_17 : decode cX2_askForByte 17 = .ok (.ifCond .eq 23, 3) := by decide +kernel
theorem dX2_askForByte_20 : decode cX2_askForByte 20 = .ok (.aload_n 0, 1) := by decide +kernel
theorem dX2_askForByte_21 : decode cX2_askForByte 21 = .ok (.aload_n 0, 1) := by decide +kernel
theorem dX2_askForByte_22 : decode cX2_askForByte 22 = .ok (.getfield 33, 3) := by decide +kernel
theorem dX2_askForByte_25 : decode cX2_askForByte 25 = .ok (.iload_n 2, 1) := by decide +kernel
theorem dX2_askForByte_26 : decode cX2_askForByte 26 = .ok (.iaload, 1) := by decide +kernel
theorem dX2_askForByte_27 : decode cX2_askForByte 27 = .ok (.putfield 163, 3) := by decide +kernel
theorem dX2_askForByte_30 : decode cX2_askForByte 30 = .ok (.aload_n 0, 1) := by decide +kernel
theorem dX2_askForByte_31 : decode cX2_askForByte 31 = .ok (.dup, 1) := by decide +kernel
theorem dX2_askForByte_32 : decode cX2_askForByte 32 = .ok (.getfield 117, 3) := by decide +kernel
theorem dX2_askForByte_35 : decode cX2_askForByte 35 = .ok (.iconst 1, 1) := by decide +kernel
theorem dX2_askForByte_36 : decode cX2_askForByte 36 = .ok (.iadd, 1) := by decide +kernel
theorem dX2_askForByte_37 : decode cX2_askForByte 37 = .ok (.putfield 117, 3) := by decide +kernel
theorem dX2_askForByte_40 : decode cX2_askForByte 40 = .ok (.iload_n 3, 1) := by decide +kernel
theorem dX2_askForByte_41 : decode cX2_askForByte 41 = .ok (.ifCond .eq 12, 3) := by decide +kernel
theorem dX2_askForByte_44 : decode cX2_askForByte 44 = .ok (.aload_n 0, 1) := by decide +kernel
theorem dX2_askForByte_45 : decode cX2_askForByte 45 = .ok (.getfield 26, 3) := by decide +kernel
theorem dX2_askForByte_48 : decode cX2_askForByte 48 = .ok (.bipush 9, 2) := by decide +kernel
theorem dX2_askForByte_50 : decode cX2_askForByte 50 = .ok (.iload 4, 2) := by decide +kernel
theorem dX2_askForByte_52 : decode cX2_askForByte 52 = .ok (.iastore, 1) := by decide +kernel
theorem dX2_askForByte_53 : decode cX2_askForByte 53 = .ok (.return_, 1) := by decide +kernel
theorem dX2_wordBehind_0 : decode cX2_wordBehind 0 = .ok (.aload_n 1, 1) := by decide +kernel
theorem dX2_wordBehind_1 : decode cX2_wordBehind 1 = .ok (.getfield 96, 3) := by decide +kernel
theorem dX2_wordBehind_4 : decode cX2_wordBehind 4 = .ok (.tableswitch 89 1 4 #[32, 37, 53, 69], 32) := by decide +kernel
theorem dX2_wordBehind_36 : decode cX2_wordBehind 36 = .ok (.aload_n 1, 1) := by decide +kernel
theorem dX2_wordBehind_37 : decode cX2_wordBehind 37 = .ok (.getfield 99, 3) := by decide +kernel
theorem dX2_wordBehind_40 : decode cX2_wordBehind 40 = .ok (.ireturn, 1) := by decide +kernel
theorem dX2_wordBehind_41 : decode cX2_wordBehind 41 = .ok (.iload_n 2, 1) := by decide +kernel
theorem dX2_wordBehind_42 : decode cX2_wordBehind 42 = .ok (.ifCond .ne 10, 3) := by decide +kernel
theorem dX2_wordBehind_45 : decode cX2_wordBehind 45 = .ok (.aload_n 1, 1) := by decide +kernel
theorem dX2_wordBehind_46 : decode cX2_wordBehind 46 = .ok (.getfield 99, 3) := by decide +kernel
theorem dX2_wordBehind_49 : decode cX2_wordBehind 49 = .ok (.goto 7, 3) := by decide +kernel
theorem dX2_wordBehind_52 : decode cX2_wordBehind 52 = .ok (.aload_n 1, 1) := by decide +kernel
theorem dX2_wordBehind_53 : decode cX2_wordBehind 53 = .ok (.getfield 102, 3) := by decide +kernel
theorem dX2_wordBehind_56 : decode cX2_wordBehind 56 = .ok (.ireturn, 1) := by decide +kernel
theorem dX2_wordBehind_57 : decode cX2_wordBehind 57 = .ok (.iload_n 2, 1) := by decide +kernel
theorem dX2_wordBehind_58 : decode cX2_wordBehind 58 = .ok (.ifCond .ge 10, 3) := by decide +kernel
theorem dX2_wordBehind_61 : decode cX2_wordBehind 61 = .ok (.aload_n 1, 1) := by decide +kernel
theorem dX2_wordBehind_62 : decode cX2_wordBehind 62 = .ok (.getfield 99, 3) := by decide +kernel
theorem dX2_wordBehind_65 : decode cX2_wordBehind 65 = .ok (.goto 7, 3) := by decide +kernel
theorem dX2_wordBehind_68 : decode cX2_wordBehind 68 = .ok (.aload_n 1, 1) := by decide +kernel
theorem dX2_wordBehind_69 : decode cX2_wordBehind 69 = .ok (.getfield 102, 3) := by decide +kernel
theorem dX2_wordBehind_72 : decode cX2_wordBehind 72 = .ok (.ireturn, 1) := by decide +kernel
theorem dX2_wordBehind_73 : decode cX2_wordBehind 73 = .ok (.aload_n 1, 1) := by decide +kernel
theorem dX2_wordBehind_74 : decode cX2_wordBehind 74 = .ok (.getfield 99, 3) := by decide +kernel
theorem dX2_wordBehind_77 : decode cX2_wordBehind 77 = .ok (.iconst 0, 1) := by decide +kernel
theorem dX2_wordBehind_78 : decode cX2_wordBehind 78 = .ok (.invokestatic 166, 3) := by decide +kernel
theorem dX2_wordBehind_81 : decode cX2_wordBehind 81 = .ok (.aload_n 0, 1) := by decide +kernel
theorem dX2_wordBehind_82 : decode cX2_wordBehind 82 = .ok (.getfield 26, 3) := by decide +kernel
theorem dX2_wordBehind_85 : decode cX2_wordBehind 85 = .ok (.bipush 9, 2) := by decide +kernel
theorem dX2_wordBehind_87 : decode cX2_wordBehind 87 = .ok (.iaload, 1) := by decide +kernel
theorem dX2_wordBehind_88 : decode cX2_wordBehind 88 = .ok (.ior, 1) := by decide +kernel
theorem dX2_wordBehind_89 : decode cX2_wordBehind 89 = .ok (.bipush 63, 2) := by decide +kernel
theorem dX2_wordBehind_91 : decode cX2_wordBehind 91 = .ok (.iand, 1) := by decide +kernel
theorem dX2_wordBehind_92 : decode cX2_wordBehind 92 = .ok (.ireturn, 1) := by decide +kernel
theorem dX2_wordBehind_93 : decode cX2_wordBehind 93 = .ok (.aload_n 0, 1) := by decide +kernel
theorem dX2_wordBehind_94 : decode cX2_wordBehind 94 = .ok (.getfield 73, 3) := by decide +kernel
theorem dX2_wordBehind_97 : decode cX2_wordBehind 97 = .ok (.iconst 1, 1) := by decide +kernel
theorem dX2_wordBehind_98 : decode cX2_wordBehind 98 = .ok (.iadd, 1) := by decide +kernel
theorem dX2_wordBehind_99 : decode cX2_wordBehind 99 = .ok (.bipush 63, 2) := by decide +kernel
theorem dX2_wordBehind_101 : decode cX2_wordBehind 101 = .ok (.iand, 1) := by decide +kernel
theorem dX2_wordBehind_102 : decode cX2_wordBehind 102 = .ok (.ireturn, 1) := by decide +kernel
theorem dX2_set_0 : decode cX2_set 0 = .ok (.iload_n 1, 1) := by decide +kernel
theorem dX2_set_1 : decode cX2_set 1 = .ok (.bipush 10, 2) := by decide +kernel
theorem dX2_set_3 : decode cX2_set 3 = .ok (.invokestatic 53, 3) := by decide +kernel
theorem dX2_set_6 : decode cX2_set 6 = .ok (.iload_n 1, 1) := by decide +kernel
theorem dX2_set_7 : decode cX2_set 7 = .ok (.bipush 9, 2) := by decide +kernel
theorem dX2_set_9 : decode cX2_set 9 = .ok (.if_icmp .ne 10, 3) := by decide +kernel
theorem dX2_set_12 : decode cX2_set 12 = .ok (.iload_n 2, 1) := by decide +kernel
theorem dX2_set_13 : decode cX2_set 13 = .ok (.sipush 256, 3) := by decide +kernel
theorem dX2_set_16 : decode cX2_set 16 = .ok (.invokestatic 53, 3) := by decide +kernel
theorem dX2_set_19 : decode cX2_set 19 = .ok (.aload_n 0, 1) := by decide +kernel
theorem dX2_set_20 : decode cX2_set 20 = .ok (.getfield 26, 3) := by decide +kernel
theorem dX2_set_23 : decode cX2_set 23 = .ok (.iload_n 1, 1) := by decide +kernel
theorem dX2_set_24 : decode cX2_set 24 = .ok (.iload_n 2, 1) := by decide +kernel
theorem dX2_set_25 : decode cX2_set 25 = .ok (.iastore, 1) := by decide +kernel
theorem dX2_set_26 : decode cX2_set 26 = .ok (.return_, 1) := by decide +kernel
theorem dX2_register_0 : decode cX2_register 0 = .ok (.iload_n 1, 1) := by decide +kernel
theorem dX2_register_1 : decode cX2_register 1 = .ok (.bipush 10, 2) := by decide +kernel
theorem dX2_register_3 : decode cX2_register 3 = .ok (.invokestatic 53, 3) := by decide +kernel
theorem dX2_register_6 : decode cX2_register 6 = .ok (.aload_n 0, 1) := by decide +kernel
theorem dX2_register_7 : decode cX2_register 7 = .ok (.getfield 26, 3) := by decide +kernel
theorem dX2_register_10 : decode cX2_register 10 = .ok (.iload_n 1, 1) := by decide +kernel
theorem dX2_register_11 : decode cX2_register 11 = .ok (.iaload, 1) := by decide +kernel
theorem dX2_register_12 : decode cX2_register 12 = .ok (.ireturn, 1) := by decide +kernel
theorem dX2_poke_0 : decode cX2_poke 0 = .ok (.iload_n 1, 1) := by decide +kernel
theorem dX2_poke_1 : decode cX2_poke 1 = .ok (.bipush 64, 2) := by decide +kernel
theorem dX2_poke_3 : decode cX2_poke 3 = .ok (.invokestatic 53, 3) := by decide +kernel
theorem dX2_poke_6 : decode cX2_poke 6 = .ok (.aload_n 0, 1) := by decide +kernel
theorem dX2_poke_7 : decode cX2_poke 7 = .ok (.getfield 30, 3) := by decide +kernel
theorem dX2_poke_10 : decode cX2_poke 10 = .ok (.iload_n 1, 1) := by decide +kernel
theorem dX2_poke_11 : decode cX2_poke 11 = .ok (.iload_n 2, 1) := by decide +kernel
theorem dX2_poke_12 : decode cX2_poke 12 = .ok (.iastore, 1) := by decide +kernel
theorem dX2_poke_13 : decode cX2_poke 13 = .ok (.return_, 1) := by decide +kernel
theorem dX2_memory_0 : decode cX2_memory 0 = .ok (.iload_n 1, 1) := by decide +kernel
theorem dX2_memory_1 : decode cX2_memory 1 = .ok (.bipush 64, 2) := by decide +kernel
theorem dX2_memory_3 : decode cX2_memory 3 = .ok (.invokestatic 53, 3) := by decide +kernel
theorem dX2_memory_6 : decode cX2_memory 6 = .ok (.aload_n 0, 1) := by decide +kernel
theorem dX2_memory_7 : decode cX2_memory 7 = .ok (.getfield 30, 3) := by decide +kernel
theorem dX2_memory_10 : decode cX2_memory 10 = .ok (.iload_n 1, 1) := by decide +kernel
theorem dX2_memory_11 : decode cX2_memory 11 = .ok (.iaload, 1) := by decide +kernel
theorem dX2_memory_12 : decode cX2_memory 12 = .ok (.ireturn, 1) := by decide +kernel
theorem dX2_code_0 : decode cX2_code 0 = .ok (.iload_n 1, 1) := by decide +kernel
theorem dX2_code_1 : decode cX2_code 1 = .ok (.bipush 64, 2) := by decide +kernel
theorem dX2_code_3 : decode cX2_code 3 = .ok (.invokestatic 53, 3) := by decide +kernel
theorem dX2_code_6 : decode cX2_code 6 = .ok (.iload_n 2, 1) := by decide +kernel
theorem dX2_code_7 : decode cX2_code 7 = .ok (.sipush 256, 3) := by decide +kernel
theorem dX2_code_10 : decode cX2_code 10 = .ok (.invokestatic 53, 3) := by decide +kernel
theorem dX2_code_13 : decode cX2_code 13 = .ok (.aload_n 0, 1) := by decide +kernel
theorem dX2_code_14 : decode cX2_code 14 = .ok (.getfield 33, 3) := by decide +kernel
theorem dX2_code_17 : decode cX2_code 17 = .ok (.iload_n 1, 1) := by decide +kernel
theorem dX2_code_18 : decode cX2_code 18 = .ok (.iload_n 2, 1) := by decide +kernel
theorem dX2_code_19 : decode cX2_code 19 = .ok (.iastore, 1) := by decide +kernel
theorem dX2_code_20 : decode cX2_code 20 = .ok (.return_, 1) := by decide +kernel
theorem dX2_told_0 : decode cX2_told 0 = .ok (.iload_n 1, 1) := by decide +kernel
theorem dX2_told_1 : decode cX2_told 1 = .ok (.bipush 64, 2) := by decide +kernel
theorem dX2_told_3 : decode cX2_told 3 = .ok (.invokestatic 53, 3) := by decide +kernel
theorem dX2_told_6 : decode cX2_told 6 = .ok (.iload_n 2, 1) := by decide +kernel
theorem dX2_told_7 : decode cX2_told 7 = .ok (.bipush 7, 2) := by decide +kernel
theorem dX2_told_9 : decode cX2_told 9 = .ok (.invokestatic 53, 3) := by decide +kernel
theorem dX2_told_12 : decode cX2_told 12 = .ok (.aload_n 0, 1) := by decide +kernel
theorem dX2_told_13 : decode cX2_told 13 = .ok (.getfield 22, 3) := by decide +kernel
theorem dX2_told_16 : decode cX2_told 16 = .ok (.iload_n 1, 1) := by decide +kernel
theorem dX2_told_17 : decode cX2_told 17 = .ok (.aaload, 1) := by decide +kernel
theorem dX2_told_18 : decode cX2_told 18 = .ok (.astore_n 3, 1) := by decide +kernel
theorem dX2_told_19 : decode cX2_told 19 = .ok (.aload_n 3, 1) := by decide +kernel
theorem dX2_told_20 : decode cX2_told 20 = .ok (.ifnonnull 11, 3) := by decide +kernel
theorem dX2_told_23 : decode cX2_told 23 = .ok (.new 70, 3) := by decide +kernel
theorem dX2_told_26 : decode cX2_told 26 = .ok (.dup, 1) := by decide +kernel
theorem dX2_told_27 : decode cX2_told 27 = .ok (.invokespecial 72, 3) := by decide +kernel
theorem dX2_told_30 : decode cX2_told 30 = .ok (.athrow, 1) := by decide +kernel
theorem dX2_told_31 : decode cX2_told 31 = .ok (.iload_n 2, 1) := by decide +kernel
theorem dX2_told_32 : decode cX2_told 32 = .ok (.tableswitch 78 0 5 #[40, 45, 50, 63, 68, 73], 40) := by decide +kernel
theorem dX2_told_72 : decode cX2_told 72 = .ok (.aload_n 3, 1) := by decide +kernel
theorem dX2_told_73 : decode cX2_told 73 = .ok (.getfield 87, 3) := by decide +kernel
theorem dX2_told_76 : decode cX2_told 76 = .ok (.ireturn, 1) := by decide +kernel
theorem dX2_told_77 : decode cX2_told 77 = .ok (.aload_n 3, 1) := by decide +kernel
theorem dX2_told_78 : decode cX2_told 78 = .ok (.getfield 90, 3) := by decide +kernel
theorem dX2_told_81 : decode cX2_told 81 = .ok (.ireturn, 1) := by decide +kernel
theorem dX2_told_82 : decode cX2_told 82 = .ok (.aload_n 3, 1) := by decide +kernel
theorem dX2_told_83 : decode cX2_told 83 = .ok (.getfield 93, 3) := by decide +kernel
theorem dX2_told_86 : decode cX2_told 86 = .ok (.ifCond .eq 7, 3) := by decide +kernel
theorem dX2_told_89 : decode cX2_told 89 = .ok (.iconst 1, 1) := by decide +kernel
theorem dX2_told_90 : decode cX2_told 90 = .ok (.goto 4, 3) := by decide +kernel
theorem dX2_told_93 : decode cX2_told 93 = .ok (.iconst 0, 1) := by decide +kernel
theorem dX2_told_94 : decode cX2_told 94 = .ok (.ireturn, 1) := by decide +kernel
theorem dX2_told_95 : decode cX2_told 95 = .ok (.aload_n 3, 1) := by decide +kernel
theorem dX2_told_96 : decode cX2_told 96 = .ok (.getfield 96, 3) := by decide +kernel
theorem dX2_told_99 : decode cX2_told 99 = .ok (.ireturn, 1) := by decide +kernel
theorem dX2_told_100 : decode cX2_told 100 = .ok (.aload_n 3, 1) := by decide +kernel
theorem dX2_told_101 : decode cX2_told 101 = .ok (.getfield 99, 3) := by decide +kernel
theorem dX2_told_104 : decode cX2_told 104 = .ok (.ireturn, 1) := by decide +kernel
theorem dX2_told_105 : decode cX2_told 105 = .ok (.aload_n 3, 1) := by decide +kernel
theorem dX2_told_106 : decode cX2_told 106 = .ok (.getfield 102, 3) := by decide +kernel
theorem dX2_told_109 : decode cX2_told 109 = .ok (.ireturn, 1) := by decide +kernel
theorem dX2_told_110 : decode cX2_told 110 = .ok (.aload_n 3, 1) := by decide +kernel
theorem dX2_told_111 : decode cX2_told 111 = .ok (.getfield 105, 3) := by decide +kernel
theorem dX2_told_114 : decode cX2_told 114 = .ok (.ireturn, 1) := by decide +kernel
