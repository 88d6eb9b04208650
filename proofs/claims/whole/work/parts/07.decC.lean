theorem dX3_init_0 : decode cX3_init 0 = .ok (.aload_n 0, 1) := by decide +kernel
theorem dX3_init_1 : decode cX3_init 1 = .ok (.invokespecial 1, 3) := by decide +kernel
theorem dX3_init_4 : decode cX3_init 4 = .ok (.aload_n 0, 1) := by decide +kernel
theorem dX3_init_5 : decode cX3_init 5 = .ok (.bipush 40, 2) := by decide +kernel
theorem dX3_init_7 : decode cX3_init 7 = .ok (.newarray .int, 2) := by decide +kernel
theorem dX3_init_9 : decode cX3_init 9 = .ok (.putfield 7, 3) := by decide +kernel
theorem dX3_init_12 : decode cX3_init 12 = .ok (.aload_n 0, 1) := by decide +kernel
theorem dX3_init_13 : decode cX3_init 13 = .ok (.bipush 10, 2) := by decide +kernel
theorem dX3_init_15 : decode cX3_init 15 = .ok (.newarray .int, 2) := by decide +kernel
theorem dX3_init_17 : decode cX3_init 17 = .ok (.putfield 13, 3) := by decide +kernel
theorem dX3_init_20 : decode cX3_init 20 = .ok (.aload_n 0, 1) := by decide +kernel
theorem dX3_init_21 : decode cX3_init 21 = .ok (.bipush 64, 2) := by decide +kernel
theorem dX3_init_23 : decode cX3_init 23 = .ok (.newarray .int, 2) := by decide +kernel
theorem dX3_init_25 : decode cX3_init 25 = .ok (.putfield 16, 3) := by decide +kernel
theorem dX3_init_28 : decode cX3_init 28 = .ok (.aload_n 0, 1) := by decide +kernel
theorem dX3_init_29 : decode cX3_init 29 = .ok (.bipush 64, 2) := by decide +kernel
theorem dX3_init_31 : decode cX3_init 31 = .ok (.newarray .int, 2) := by decide +kernel
theorem dX3_init_33 : decode cX3_init 33 = .ok (.putfield 19, 3) := by decide +kernel
theorem dX3_init_36 : decode cX3_init 36 = .ok (.aload_n 0, 1) := by decide +kernel
theorem dX3_init_37 : decode cX3_init 37 = .ok (.bipush 65, 2) := by decide +kernel
theorem dX3_init_39 : decode cX3_init 39 = .ok (.newarray .int, 2) := by decide +kernel
theorem dX3_init_41 : decode cX3_init 41 = .ok (.putfield 22, 3) := by decide +kernel
theorem dX3_init_44 : decode cX3_init 44 = .ok (.aload_n 0, 1) := by decide +kernel
theorem dX3_init_45 : decode cX3_init 45 = .ok (.bipush 65, 2) := by decide +kernel
theorem dX3_init_47 : decode cX3_init 47 = .ok (.newarray .int, 2) := by decide +kernel
theorem dX3_init_49 : decode cX3_init 49 = .ok (.putfield 25, 3) := by decide +kernel
theorem dX3_init_52 : decode cX3_init 52 = .ok (.aload_n 0, 1) := by decide +kernel
theorem dX3_init_53 : decode cX3_init 53 = .ok (.bipush 65, 2) := by decide +kernel
theorem dX3_init_55 : decode cX3_init 55 = .ok (.newarray .int, 2) := by decide +kernel
theorem dX3_init_57 : decode cX3_init 57 = .ok (.putfield 28, 3) := by decide +kernel
theorem dX3_init_60 : decode cX3_init 60 = .ok (.aload_n 0, 1) := by decide +kernel
theorem dX3_init_61 : decode cX3_init 61 = .ok (.bipush 65, 2) := by decide +kernel
theorem dX3_init_63 : decode cX3_init 63 = .ok (.newarray .int, 2) := by decide +kernel
theorem dX3_init_65 : decode cX3_init 65 = .ok (.putfield 31, 3) := by decide +kernel
theorem dX3_init_68 : decode cX3_init 68 = .ok (.aload_n 0, 1) := by decide +kernel
theorem dX3_init_69 : decode cX3_init 69 = .ok (.bipush 65, 2) := by decide +kernel
theorem dX3_init_71 : decode cX3_init 71 = .ok (.newarray .int, 2) := by decide +kernel
theorem dX3_init_73 : decode cX3_init 73 = .ok (.putfield 34, 3) := by decide +kernel
theorem dX3_init_76 : decode cX3_init 76 = .ok (.aload_n 0, 1) := by decide +kernel
theorem dX3_init_77 : decode cX3_init 77 = .ok (.bipush 65, 2) := by decide +kernel
theorem dX3_init_79 : decode cX3_init 79 = .ok (.newarray .int, 2) := by decide +kernel
theorem dX3_init_81 : decode cX3_init 81 = .ok (.putfield 37, 3) := by decide +kernel
theorem dX3_init_84 : decode cX3_init 84 = .ok (.aload_n 0, 1) := by decide +kernel
theorem dX3_init_85 : decode cX3_init 85 = .ok (.bipush 65, 2) := by decide +kernel
theorem dX3_init_87 : decode cX3_init 87 = .ok (.newarray .int, 2) := by decide +kernel
theorem dX3_init_89 : decode cX3_init 89 = .ok (.putfield 40, 3) := by decide +kernel
theorem dX3_init_92 : decode cX3_init 92 = .ok (.aload_n 0, 1) := by decide +kernel
theorem dX3_init_93 : decode cX3_init 93 = .ok (.bipush 65, 2) := by decide +kernel
theorem dX3_init_95 : decode cX3_init 95 = .ok (.newarray .int, 2) := by decide +kernel
theorem dX3_init_97 : decode cX3_init 97 = .ok (.putfield 43, 3) := by decide +kernel
theorem dX3_init_100 : decode cX3_init 100 = .ok (.aload_n 0, 1) := by decide +kernel
theorem dX3_init_101 : decode cX3_init 101 = .ok (.bipush 65, 2) := by decide +kernel
theorem dX3_init_103 : decode cX3_init 103 = .ok (.newarray .int, 2) := by decide +kernel
theorem dX3_init_105 : decode cX3_init 105 = .ok (.putfield 46, 3) := by decide +kernel
theorem dX3_init_108 : decode cX3_init 108 = .ok (.aload_n 0, 1) := by decide +kernel
theorem dX3_init_109 : decode cX3_init 109 = .ok (.bipush 64, 2) := by decide +kernel
theorem dX3_init_111 : decode cX3_init 111 = .ok (.newarray .boolean, 2) := by decide +kernel
theorem dX3_init_113 : decode cX3_init 113 = .ok (.putfield 49, 3) := by decide +kernel
theorem dX3_init_116 : decode cX3_init 116 = .ok (.aload_n 0, 1) := by decide +kernel
theorem dX3_init_117 : decode cX3_init 117 = .ok (.iconst (-1), 1) := by decide +kernel
theorem dX3_init_118 : decode cX3_init 118 = .ok (.putfield 53, 3) := by decide +kernel
theorem dX3_init_121 : decode cX3_init 121 = .ok (.return_, 1) := by decide +kernel
theorem dX3_thrown_0 : decode cX3_thrown 0 = .ok (.aload_n 0, 1) := by decide +kernel
theorem dX3_thrown_1 : decode cX3_thrown 1 = .ok (.getfield 57, 3) := by decide +kernel
theorem dX3_thrown_4 : decode cX3_thrown 4 = .ok (.ireturn, 1) := by decide +kernel
theorem dX3_type_0 : decode cX3_type 0 = .ok (.aload_n 0, 1) := by decide +kernel
theorem dX3_type_1 : decode cX3_type 1 = .ok (.iconst 0, 1) := by decide +kernel
theorem dX3_type_2 : decode cX3_type 2 = .ok (.putfield 57, 3) := by decide +kernel
theorem dX3_type_5 : decode cX3_type 5 = .ok (.iconst 0, 1) := by decide +kernel
theorem dX3_type_6 : decode cX3_type 6 = .ok (.istore_n 3, 1) := by decide +kernel
theorem dX3_type_7 : decode cX3_type 7 = .ok (.bipush 56, 2) := by decide +kernel
theorem dX3_type_9 : decode cX3_type 9 = .ok (.istore 4, 2) := by decide +kernel
theorem dX3_type_11 : decode cX3_type 11 = .ok (.iload 4, 2) := by decide +kernel
theorem dX3_type_13 : decode cX3_type 13 = .ok (.ifCond .lt 52, 3) := by decide +kernel
theorem dX3_type_16 : decode cX3_type 16 = .ok (.lload_n 1, 1) := by decide +kernel
theorem dX3_type_17 : decode cX3_type 17 = .ok (.iload 4, 2) := by decide +kernel
theorem dX3_type_19 : decode cX3_type 19 = .ok (.lushr, 1) := by decide +kernel
theorem dX3_type_20 : decode cX3_type 20 = .ok (.l2i, 1) := by decide +kernel
theorem dX3_type_21 : decode cX3_type 21 = .ok (.sipush 255, 3) := by decide +kernel
theorem dX3_type_24 : decode cX3_type 24 = .ok (.iand, 1) := by decide +kernel
theorem dX3_type_25 : decode cX3_type 25 = .ok (.istore 5, 2) := by decide +kernel
theorem dX3_type_27 : decode cX3_type 27 = .ok (.iload 5, 2) := by decide +kernel
theorem dX3_type_29 : decode cX3_type 29 = .ok (.ifCond .eq 6, 3) := by decide +kernel
theorem dX3_type_32 : decode cX3_type 32 = .ok (.iinc 3 1, 3) := by decide +kernel
theorem dX3_type_35 : decode cX3_type 35 = .ok (.iload 5, 2) := by decide +kernel
theorem dX3_type_37 : decode cX3_type 37 = .ok (.ifCond .eq 22, 3) := by decide +kernel
theorem dX3_type_40 : decode cX3_type 40 = .ok (.iload 5, 2) := by decide +kernel
theorem dX3_type_42 : decode cX3_type 42 = .ok (.bipush 33, 2) := by decide +kernel
theorem dX3_type_44 : decode cX3_type 44 = .ok (.if_icmp .lt 10, 3) := by decide +kernel
theorem dX3_type_47 : decode cX3_type 47 = .ok (.iload 5, 2) := by decide +kernel
theorem dX3_type_49 : decode cX3_type 49 = .ok (.bipush 126, 2) := by decide +kernel
theorem dX3_type_51 : decode cX3_type 51 = .ok (.if_icmp .le 8, 3) := by decide +kernel
theorem dX3_type_54 : decode cX3_type 54 = .ok (.aload_n 0, 1) := by decide +kernel
theorem dX3_type_55 : decode cX3_type 55 = .ok (.iconst 1, 1) := by decide +kernel
theorem dX3_type_56 : decode cX3_type 56 = .ok (.putfield 57, 3) := by decide +kernel
theorem dX3_type_59 : decode cX3_type 59 = .ok (.iinc 4 (-8), 3) := by decide +kernel
theorem dX3_type_62 : decode cX3_type 62 = .ok (.goto (-51), 3) := by decide +kernel
theorem dX3_type_65 : decode cX3_type 65 = .ok (.aload_n 0, 1) := by decide +kernel
theorem dX3_type_66 : decode cX3_type 66 = .ok (.getfield 57, 3) := by decide +kernel
theorem dX3_type_69 : decode cX3_type 69 = .ok (.ifCond .ne 19, 3) := by decide +kernel
theorem dX3_type_72 : decode cX3_type 72 = .ok (.aload_n 0, 1) := by decide +kernel
theorem dX3_type_73 : decode cX3_type 73 = .ok (.getfield 60, 3) := by decide +kernel
theorem dX3_type_76 : decode cX3_type 76 = .ok (.iload_n 3, 1) := by decide +kernel
theorem dX3_type_77 : decode cX3_type 77 = .ok (.iadd, 1) := by decide +kernel
theorem dX3_type_78 : decode cX3_type 78 = .ok (.bipush 40, 2) := by decide +kernel
theorem dX3_type_80 : decode cX3_type 80 = .ok (.if_icmp .le 8, 3) := by decide +kernel
theorem dX3_type_83 : decode cX3_type 83 = .ok (.aload_n 0, 1) := by decide +kernel
theorem dX3_type_84 : decode cX3_type 84 = .ok (.iconst 2, 1) := by decide +kernel
theorem dX3_type_85 : decode cX3_type 85 = .ok (.putfield 57, 3) := by decide +kernel
theorem dX3_type_88 : decode cX3_type 88 = .ok (.bipush 56, 2) := by decide +kernel
theorem dX3_type_90 : decode cX3_type 90 = .ok (.istore 4, 2) := by decide +kernel
theorem dX3_type_92 : decode cX3_type 92 = .ok (.iload 4, 2) := by decide +kernel
theorem dX3_type_94 : decode cX3_type 94 = .ok (.ifCond .lt 50, 3) := by decide +kernel
theorem dX3_type_97 : decode cX3_type 97 = .ok (.aload_n 0, 1) := by decide +kernel
theorem dX3_type_98 : decode cX3_type 98 = .ok (.getfield 57, 3) := by decide +kernel
theorem dX3_type_101 : decode cX3_type 101 = .ok (.ifCond .ne 43, 3) := by decide +kernel
theorem dX3_type_104 : decode cX3_type 104 = .ok (.lload_n 1, 1) := by decide +kernel
theorem dX3_type_105 : decode cX3_type 105 = .ok (.iload 4, 2) := by decide +kernel
theorem dX3_type_107 : decode cX3_type 107 = .ok (.lushr, 1) := by decide +kernel
theorem dX3_type_108 : decode cX3_type 108 = .ok (.l2i, 1) := by decide +kernel
theorem dX3_type_109 : decode cX3_type 109 = .ok (.sipush 255, 3) := by decide +kernel
theorem dX3_type_112 : decode cX3_type 112 = .ok (.iand, 1) := by decide +kernel
theorem dX3_type_113 : decode cX3_type 113 = .ok (.istore 5, 2) := by decide +kernel
theorem dX3_type_115 : decode cX3_type 115 = .ok (.iload 5, 2) := by decide +kernel
theorem dX3_type_117 : decode cX3_type 117 = .ok (.ifCond .eq 21, 3) := by decide +kernel
theorem dX3_type_120 : decode cX3_type 120 = .ok (.aload_n 0, 1) := by decide +kernel
theorem dX3_type_121 : decode cX3_type 121 = .ok (.getfield 7, 3) := by decide +kernel
theorem dX3_type_124 : decode cX3_type 124 = .ok (.aload_n 0, 1) := by decide +kernel
theorem dX3_type_125 : decode cX3_type 125 = .ok (.dup, 1) := by decide +kernel
theorem dX3_type_126 : decode cX3_type 126 = .ok (.getfield 60, 3) := by decide +kernel
theorem dX3_type_129 : decode cX3_type 129 = .ok (.dup_x1, 1) := by decide +kernel
theorem dX3_type_130 : decode cX3_type 130 = .ok (.iconst 1, 1) := by decide +kernel
theorem dX3_type_131 : decode cX3_type 131 = .ok (.iadd, 1) := by decide +kernel
theorem dX3_type_132 : decode cX3_type 132 = .ok (.putfield 60, 3) := by decide +kernel
theorem dX3_type_135 : decode cX3_type 135 = .ok (.iload 5, 2) := by decide +kernel
theorem dX3_type_137 : decode cX3_type 137 = .ok (.iastore, 1) := by decide +kernel
theorem dX3_type_138 : decode cX3_type 138 = .ok (.iinc 4 (-8), 3) := by decide +kernel
theorem dX3_type_141 : decode cX3_type 141 = .ok (.goto (-49), 3) := by decide +kernel
theorem dX3_type_144 : decode cX3_type 144 = .ok (.aload_n 0, 1) := by decide +kernel
theorem dX3_type_145 : decode cX3_type 145 = .ok (.getfield 57, 3) := by decide +kernel
theorem dX3_type_148 : decode cX3_type 148 = .ok (.ifCond .ne 10, 3) := by decide +kernel
theorem dX3_type_151 : decode cX3_type 151 = .ok (.aload_n 0, 1) := by decide +kernel
theorem dX3_type_152 : decode cX3_type 152 = .ok (.getfield 60, 3) := by decide +kernel
theorem dX3_type_155 : decode cX3_type 155 = .ok (.goto 4, 3) := by decide +kernel
theorem dX3_type_158 : decode cX3_type 158 = .ok (.iconst 0, 1) := by decide +kernel
theorem dX3_type_159 : decode cX3_type 159 = .ok (.ireturn, 1) := by decide +kernel
theorem dX3_word_0 : decode cX3_word 0 = .ok (.aload_n 0, 1) := by decide +kernel
theorem dX3_word_1 : decode cX3_word 1 = .ok (.iload_n 1, 1) := by decide +kernel
theorem dX3_word_2 : decode cX3_word 2 = .ok (.ifCond .lt 9, 3) := by decide +kernel
theorem dX3_word_5 : decode cX3_word 5 = .ok (.iload_n 1, 1) := by decide +kernel
theorem dX3_word_6 : decode cX3_word 6 = .ok (.bipush 63, 2) := by decide +kernel
theorem dX3_word_8 : decode cX3_word 8 = .ok (.if_icmp .le 7, 3) := by decide +kernel
theorem dX3_word_11 : decode cX3_word 11 = .ok (.iconst 1, 1) := by decide +kernel
theorem dX3_word_12 : decode cX3_word 12 = .ok (.goto 4, 3) := by decide +kernel
theorem dX3_word_15 : decode cX3_word 15 = .ok (.iconst 0, 1) := by decide +kernel
theorem dX3_word_16 : decode cX3_word 16 = .ok (.putfield 57, 3) := by decide +kernel
theorem dX3_word_19 : decode cX3_word 19 = .ok (.aload_n 0, 1) := by decide +kernel
theorem dX3_word_20 : decode cX3_word 20 = .ok (.getfield 57, 3) := by decide +kernel
theorem dX3_word_23 : decode cX3_word 23 = .ok (.ifCond .eq 5, 3) := by decide +kernel
theorem dX3_word_26 : decode cX3_word 26 = .ok (.iconst 0, 1) := by decide +kernel
theorem dX3_word_27 : decode cX3_word 27 = .ok (.ireturn, 1) := by decide +kernel
theorem dX3_word_28 : decode cX3_word 28 = .ok (.aload_n 0, 1) := by decide +kernel
theorem dX3_word_29 : decode cX3_word 29 = .ok (.getfield 22, 3) := by decide +kernel
theorem dX3_word_32 : decode cX3_word 32 = .ok (.bipush 64, 2) := by decide +kernel
theorem dX3_word_34 : decode cX3_word 34 = .ok (.iconst 0, 1) := by decide +kernel
theorem dX3_word_35 : decode cX3_word 35 = .ok (.iastore, 1) := by decide +kernel
theorem dX3_word_36 : decode cX3_word 36 = .ok (.aload_n 0, 1) := by decide +kernel
theorem dX3_word_37 : decode cX3_word 37 = .ok (.getfield 25, 3) := by decide +kernel
theorem dX3_word_40 : decode cX3_word 40 = .ok (.bipush 64, 2) := by decide +kernel
theorem dX3_word_42 : decode cX3_word 42 = .ok (.bipush 13, 2) := by decide +kernel
theorem dX3_word_44 : decode cX3_word 44 = .ok (.iastore, 1) := by decide +kernel
theorem dX3_word_45 : decode cX3_word 45 = .ok (.aload_n 0, 1) := by decide +kernel
theorem dX3_word_46 : decode cX3_word 46 = .ok (.getfield 28, 3) := by decide +kernel
theorem dX3_word_49 : decode cX3_word 49 = .ok (.bipush 64, 2) := by decide +kernel
theorem dX3_word_51 : decode cX3_word 51 = .ok (.iconst 0, 1) := by decide +kernel
theorem dX3_word_52 : decode cX3_word 52 = .ok (.iastore, 1) := by decide +kernel
theorem dX3_word_53 : decode cX3_word 53 = .ok (.aload_n 0, 1) := by decide +kernel
theorem dX3_word_54 : decode cX3_word 54 = .ok (.getfield 31, 3) := by decide +kernel
theorem dX3_word_57 : decode cX3_word 57 = .ok (.bipush 64, 2) := by decide +kernel
theorem dX3_word_59 : decode cX3_word 59 = .ok (.iconst 0, 1) := by decide +kernel
theorem dX3_word_60 : decode cX3_word 60 = .ok (.iastore, 1) := by decide +kernel
theorem dX3_word_61 : decode cX3_word 61 = .ok (.aload_n 0, 1) := by decide +kernel
theorem dX3_word_62 : decode cX3_word 62 = .ok (.getfield 34, 3) := by decide +kernel
theorem dX3_word_65 : decode cX3_word 65 = .ok (.bipush 64, 2) := by decide +kernel
theorem dX3_word_67 : decode cX3_word 67 = .ok (.iconst 0, 1) := by decide +kernel
theorem dX3_word_68 : decode cX3_word 68 = .ok (.iastore, 1) := by decide +kernel
theorem dX3_word_69 : decode cX3_word 69 = .ok (.aload_n 0, 1) := by decide +kernel
theorem dX3_word_70 : decode cX3_word 70 = .ok (.getfield 37, 3) := by decide +kernel
theorem dX3_word_73 : decode cX3_word 73 = .ok (.bipush 64, 2) := by decide +kernel
theorem dX3_word_75 : decode cX3_word 75 = .ok (.iconst 0, 1) := by decide +kernel
theorem dX3_word_76 : decode cX3_word 76 = .ok (.iastore, 1) := by decide +kernel
theorem dX3_word_77 : decode cX3_word 77 = .ok (.aload_n 0, 1) := by decide +kernel
theorem dX3_word_78 : decode cX3_word 78 = .ok (.getfield 40, 3) := by decide +kernel
theorem dX3_word_81 : decode cX3_word 81 = .ok (.bipush 64, 2) := by decide +kernel
theorem dX3_word_83 : decode cX3_word 83 = .ok (.iconst 0, 1) := by decide +kernel
theorem dX3_word_84 : decode cX3_word 84 = .ok (.iastore, 1) := by decide +kernel
theorem dX3_word_85 : decode cX3_word 85 = .ok (.aload_n 0, 1) := by decide +kernel
theorem dX3_word_86 : decode cX3_word 86 = .ok (.getfield 43, 3) := by decide +kernel
theorem dX3_word_89 : decode cX3_word 89 = .ok (.bipush 64, 2) := by decide +kernel
theorem dX3_word_91 : decode cX3_word 91 = .ok (.iconst (-1), 1) := by decide +kernel
theorem dX3_word_92 : decode cX3_word 92 = .ok (.iastore, 1) := by decide +kernel
theorem dX3_word_93 : decode cX3_word 93 = .ok (.aload_n 0, 1) := by decide +kernel
theorem dX3_word_94 : decode cX3_word 94 = .ok (.getfield 46, 3) := by decide +kernel
theorem dX3_word_97 : decode cX3_word 97 = .ok (.bipush 64, 2) := by decide +kernel
theorem dX3_word_99 : decode cX3_word 99 = .ok (.iconst (-1), 1) := by decide +kernel
theorem dX3_word_100 : decode cX3_word 100 = .ok (.iastore, 1) := by decide +kernel
theorem dX3_word_101 : decode cX3_word 101 = .ok (.aload_n 0, 1) := by decide +kernel
theorem dX3_word_102 : decode cX3_word 102 = .ok (.iconst 0, 1) := by decide +kernel
theorem dX3_word_103 : decode cX3_word 103 = .ok (.putfield 91, 3) := by decide +kernel
theorem dX3_word_106 : decode cX3_word 106 = .ok (.aload_n 0, 1) := by decide +kernel
theorem dX3_word_107 : decode cX3_word 107 = .ok (.iconst 0, 1) := by decide +kernel
theorem dX3_word_108 : decode cX3_word 108 = .ok (.putfield 63, 3) := by decide +kernel
theorem dX3_word_111 : decode cX3_word 111 = .ok (.aload_n 0, 1) := by decide +kernel
theorem dX3_word_112 : decode cX3_word 112 = .ok (.invokevirtual 105, 3) := by decide +kernel
theorem dX3_word_115 : decode cX3_word 115 = .ok (.istore_n 2, 1) := by decide +kernel
theorem dX3_word_116 : decode cX3_word 116 = .ok (.aload_n 0, 1) := by decide +kernel
theorem dX3_word_117 : decode cX3_word 117 = .ok (.iconst 0, 1) := by decide +kernel
theorem dX3_word_118 : decode cX3_word 118 = .ok (.putfield 60, 3) := by decide +kernel
theorem dX3_word_121 : decode cX3_word 121 = .ok (.iload_n 2, 1) := by decide +kernel
theorem dX3_word_122 : decode cX3_word 122 = .ok (.ifCond .ne 18, 3) := by decide +kernel
theorem dX3_word_125 : decode cX3_word 125 = .ok (.aload_n 0, 1) := by decide +kernel
theorem dX3_word_126 : decode cX3_word 126 = .ok (.aload_n 0, 1) := by decide +kernel
theorem dX3_word_127 : decode cX3_word 127 = .ok (.getfield 63, 3) := by decide +kernel
theorem dX3_word_130 : decode cX3_word 130 = .ok (.putfield 53, 3) := by decide +kernel
theorem dX3_word_133 : decode cX3_word 133 = .ok (.aload_n 0, 1) := by decide +kernel
theorem dX3_word_134 : decode cX3_word 134 = .ok (.iconst 1, 1) := by decide +kernel
theorem dX3_word_135 : decode cX3_word 135 = .ok (.putfield 57, 3) := by decide +kernel
theorem dX3_word_138 : decode cX3_word 138 = .ok (.iconst 0, 1) := by decide +kernel
theorem dX3_word_139 : decode cX3_word 139 = .ok (.ireturn, 1) := by decide +kernel
theorem dX3_word_140 : decode cX3_word 140 = .ok (.aload_n 0, 1) := by decide +kernel
theorem dX3_word_141 : decode cX3_word 141 = .ok (.getfield 22, 3) := by decide +kernel
theorem dX3_word_144 : decode cX3_word 144 = .ok (.iload_n 1, 1) := by decide +kernel
theorem dX3_word_145 : decode cX3_word 145 = .ok (.aload_n 0, 1) := by decide +kernel
theorem dX3_word_146 : decode cX3_word 146 = .ok (.getfield 22, 3) := by decide +kernel
theorem dX3_word_149 : decode cX3_word 149 = .ok (.bipush 64, 2) := by decide +kernel
theorem dX3_word_151 : decode cX3_word 151 = .ok (.iaload, 1) := by decide +kernel
theorem dX3_word_152 : decode cX3_word 152 = .ok (.iastore, 1) := by decide +kernel
theorem dX3_word_153 : decode cX3_word 153 = .ok (.aload_n 0, 1) := by decide +kernel
theorem dX3_word_154 : decode cX3_word 154 = .ok (.getfield 25, 3) := by decide +kernel
theorem dX3_word_157 : decode cX3_word 157 = .ok (.iload_n 1, 1) := by decide +kernel
theorem dX3_word_158 : decode cX3_word 158 = .ok (.aload_n 0, 1) := by decide +kernel
theorem dX3_word_159 : decode cX3_word 159 = .ok (.getfield 25, 3) := by decide +kernel
theorem dX3_word_162 : decode cX3_word 162 = .ok (.bipush 64, 2) := by decide +kernel
theorem dX3_word_164 : decode cX3_word 164 = .ok (.iaload, 1) := by decide +kernel
theorem dX3_word_165 : decode cX3_word 165 = .ok (.iastore, 1) := by decide +kernel
theorem dX3_word_166 : decode cX3_word 166 = .ok (.aload_n 0, 1) := by decide +kernel
theorem dX3_word_167 : decode cX3_word 167 = .ok (.getfield 28, 3) := by decide +kernel
theorem dX3_word_170 : decode cX3_word 170 = .ok (.iload_n 1, 1) := by decide +kernel
theorem dX3_word_171 : decode cX3_word 171 = .ok (.aload_n 0, 1) := by decide +kernel
theorem dX3_word_172 : decode cX3_word 172 = .ok (.getfield 28, 3) := by decide +kernel
theorem dX3_word_175 : decode cX3_word 175 = .ok (.bipush 64, 2) := by decide +kernel
theorem dX3_word_177 : decode cX3_word 177 = .ok (.iaload, 1) := by decide +kernel
theorem dX3_word_178 : decode cX3_word 178 = .ok (.iastore, 1) := by decide +kernel
theorem dX3_word_179 : decode cX3_word 179 = .ok (.aload_n 0, 1) := by decide +kernel
theorem dX3_word_180 : decode cX3_word 180 = .ok (.getfield 31, 3) := by decide +kernel
theorem dX3_word_183 : decode cX3_word 183 = .ok (.iload_n 1, 1) := by decide +kernel
theorem dX3_word_184 : decode cX3_word 184 = .ok (.aload_n 0, 1) := by decide +kernel
theorem dX3_word_185 : decode cX3_word 185 = .ok (.getfield 31, 3) := by decide +kernel
theorem dX3_word_188 : decode cX3_word 188 = .ok (.bipush 64, 2) := by decide +kernel
theorem dX3_word_190 : decode cX3_word 190 = .ok (.iaload, 1) := by decide +kernel
theorem dX3_word_191 : decode cX3_word 191 = .ok (.iastore, 1) := by decide +kernel
theorem dX3_word_192 : decode cX3_word 192 = .ok (.aload_n 0, 1) := by decide +kernel
theorem dX3_word_193 : decode cX3_word 193 = .ok (.getfield 34, 3) := by decide +kernel
theorem dX3_word_196 : decode cX3_word 196 = .ok (.iload_n 1, 1) := by decide +kernel
theorem dX3_word_197 : decode cX3_word 197 = .ok (.aload_n 0, 1) := by decide +kernel
theorem dX3_word_198 : decode cX3_word 198 = .ok (.getfield 34, 3) := by decide +kernel
theorem dX3_word_201 : decode cX3_word 201 = .ok (.bipush 64, 2) := by decide +kernel
theorem dX3_word_203 : decode cX3_word 203 = .ok (.iaload, 1) := by decide +kernel
theorem dX3_word_204 : decode cX3_word 204 = .ok (.iastore, 1) := by decide +kernel
theorem dX3_word_205 : decode cX3_word 205 = .ok (.aload_n 0, 1) := by decide +kernel
theorem dX3_word_206 : decode cX3_word 206 = .ok (.getfield 37, 3) := by decide +kernel
theorem dX3_word_209 : decode cX3_word 209 = .ok (.iload_n 1, 1) := by decide +kernel
theorem dX3_word_210 : decode cX3_word 210 = .ok (.aload_n 0, 1) := by decide +kernel
theorem dX3_word_211 : decode cX3_word 211 = .ok (.getfield 37, 3) := by decide +kernel
theorem dX3_word_214 : decode cX3_word 214 = .ok (.bipush 64, 2) := by decide +kernel
theorem dX3_word_216 : decode cX3_word 216 = .ok (.iaload, 1) := by decide +kernel
theorem dX3_word_217 : decode cX3_word 217 = .ok (.iastore, 1) := by decide +kernel
theorem dX3_word_218 : decode cX3_word 218 = .ok (.aload_n 0, 1) := by decide +kernel
theorem dX3_word_219 : decode cX3_word 219 = .ok (.getfield 40, 3) := by decide +kernel
theorem dX3_word_222 : decode cX3_word 222 = .ok (.iload_n 1, 1) := by decide +kernel
theorem dX3_word_223 : decode cX3_word 223 = .ok (.aload_n 0, 1) := by decide +kernel
theorem dX3_word_224 : decode cX3_word 224 = .ok (.getfield 40, 3) := by decide +kernel
theorem dX3_word_227 : decode cX3_word 227 = .ok (.bipush 64, 2) := by decide +kernel
theorem dX3_word_229 : decode cX3_word 229 = .ok (.iaload, 1) := by decide +kernel
theorem dX3_word_230 : decode cX3_word 230 = .ok (.iastore, 1) := by decide +kernel
theorem dX3_word_231 : decode cX3_word 231 = .ok (.aload_n 0, 1) := by decide +kernel
theorem dX3_word_232 : decode cX3_word 232 = .ok (.getfield 43, 3) := by decide +kernel
theorem dX3_word_235 : decode cX3_word 235 = .ok (.iload_n 1, 1) := by decide +kernel
theorem dX3_word_236 : decode cX3_word 236 = .ok (.aload_n 0, 1) := by decide +kernel
theorem dX3_word_237 : decode cX3_word 237 = .ok (.getfield 43, 3) := by decide +kernel
theorem dX3_word_240 : decode cX3_word 240 = .ok (.bipush 64, 2) := by decide +kernel
theorem dX3_word_242 : decode cX3_word 242 = .ok (.iaload, 1) := by decide +kernel
theorem dX3_word_243 : decode cX3_word 243 = .ok (.iastore, 1) := by decide +kernel
theorem dX3_word_244 : decode cX3_word 244 = .ok (.aload_n 0, 1) := by decide +kernel
theorem dX3_word_245 : decode cX3_word 245 = .ok (.getfield 46, 3) := by decide +kernel
theorem dX3_word_248 : decode cX3_word 248 = .ok (.iload_n 1, 1) := by decide +kernel
theorem dX3_word_249 : decode cX3_word 249 = .ok (.aload_n 0, 1) := by decide +kernel
theorem dX3_word_250 : decode cX3_word 250 = .ok (.getfield 46, 3) := by decide +kernel
theorem dX3_word_253 : decode cX3_word 253 = .ok (.bipush 64, 2) := by decide +kernel
theorem dX3_word_255 : decode cX3_word 255 = .ok (.iaload, 1) := by decide +kernel
theorem dX3_word_256 : decode cX3_word 256 = .ok (.iastore, 1) := by decide +kernel
theorem dX3_word_257 : decode cX3_word 257 = .ok (.aload_n 0, 1) := by decide +kernel
theorem dX3_word_258 : decode cX3_word 258 = .ok (.getfield 49, 3) := by decide +kernel
theorem dX3_word_261 : decode cX3_word 261 = .ok (.iload_n 1, 1) := by decide +kernel
theorem dX3_word_262 : decode cX3_word 262 = .ok (.iconst 1, 1) := by decide +kernel
theorem dX3_word_263 : decode cX3_word 263 = .ok (.bastore, 1) := by decide +kernel
theorem dX3_word_264 : decode cX3_word 264 = .ok (.aload_n 0, 1) := by decide +kernel
theorem dX3_word_265 : decode cX3_word 265 = .ok (.getfield 91, 3) := by decide +kernel
theorem dX3_word_268 : decode cX3_word 268 = .ok (.ireturn, 1) := by decide +kernel
theorem dX3_reads_0 : decode cX3_reads 0 = .ok (.iconst 0, 1) := by decide +kernel
theorem dX3_reads_1 : decode cX3_reads 1 = .ok (.istore_n 1, 1) := by decide +kernel
theorem dX3_reads_2 : decode cX3_reads 2 = .ok (.iconst 1, 1) := by decide +kernel
theorem dX3_reads_3 : decode cX3_reads 3 = .ok (.istore_n 2, 1) := by decide +kernel
theorem dX3_reads_4 : decode cX3_reads 4 = .ok (.iload_n 2, 1) := by decide +kernel
theorem dX3_reads_5 : decode cX3_reads 5 = .ok (.ifCond .eq 149, 3) := by decide +kernel
theorem dX3_reads_8 : decode cX3_reads 8 = .ok (.aload_n 0, 1) := by decide +kernel
theorem dX3_reads_9 : decode cX3_reads 9 = .ok (.invokevirtual 66, 3) := by decide +kernel
theorem dX3_reads_12 : decode cX3_reads 12 = .ok (.istore_n 3, 1) := by decide +kernel
theorem dX3_reads_13 : decode cX3_reads 13 = .ok (.iconst 0, 1) := by decide +kernel
theorem dX3_reads_14 : decode cX3_reads 14 = .ok (.istore 4, 2) := by decide +kernel
theorem dX3_reads_16 : decode cX3_reads 16 = .ok (.iload_n 1, 1) := by decide +kernel
theorem dX3_reads_17 : decode cX3_reads 17 = .ok (.ifCond .ne 22, 3) := by decide +kernel
theorem dX3_reads_20 : decode cX3_reads 20 = .ok (.aload_n 0, 1) := by decide +kernel
theorem dX3_reads_21 : decode cX3_reads 21 = .ok (.iload_n 3, 1) := by decide +kernel
theorem dX3_reads_22 : decode cX3_reads 22 = .ok (.invokevirtual 70, 3) := by decide +kernel
theorem dX3_reads_25 : decode cX3_reads 25 = .ok (.ifCond .lt 14, 3) := by decide +kernel
theorem dX3_reads_28 : decode cX3_reads 28 = .ok (.aload_n 0, 1) := by decide +kernel
theorem dX3_reads_29 : decode cX3_reads 29 = .ok (.invokevirtual 97, 3) := by decide +kernel
theorem dX3_reads_32 : decode cX3_reads 32 = .ok (.istore 4, 2) := by decide +kernel
theorem dX3_reads_34 : decode cX3_reads 34 = .ok (.iconst 1, 1) := by decide +kernel
theorem dX3_reads_35 : decode cX3_reads 35 = .ok (.istore_n 1, 1) := by decide +kernel
theorem dX3_reads_36 : decode cX3_reads 36 = .ok (.goto 88, 3) := by decide +kernel
theorem dX3_reads_39 : decode cX3_reads 39 = .ok (.iload_n 1, 1) := by decide +kernel
theorem dX3_reads_40 : decode cX3_reads 40 = .ok (.iconst 2, 1) := by decide +kernel
theorem dX3_reads_41 : decode cX3_reads 41 = .ok (.if_icmp .ge 21, 3) := by decide +kernel
theorem dX3_reads_44 : decode cX3_reads 44 = .ok (.iload_n 3, 1) := by decide +kernel
theorem dX3_reads_45 : decode cX3_reads 45 = .ok (.bipush 102, 2) := by decide +kernel
theorem dX3_reads_47 : decode cX3_reads 47 = .ok (.if_icmp .ne 15, 3) := by decide +kernel
theorem dX3_reads_50 : decode cX3_reads 50 = .ok (.aload_n 0, 1) := by decide +kernel
theorem dX3_reads_51 : decode cX3_reads 51 = .ok (.iload_n 3, 1) := by decide +kernel
theorem dX3_reads_52 : decode cX3_reads 52 = .ok (.invokevirtual 100, 3) := by decide +kernel
theorem dX3_reads_55 : decode cX3_reads 55 = .ok (.istore 4, 2) := by decide +kernel
theorem dX3_reads_57 : decode cX3_reads 57 = .ok (.iconst 2, 1) := by decide +kernel
theorem dX3_reads_58 : decode cX3_reads 58 = .ok (.istore_n 1, 1) := by decide +kernel
theorem dX3_reads_59 : decode cX3_reads 59 = .ok (.goto 65, 3) := by decide +kernel
theorem dX3_reads_62 : decode cX3_reads 62 = .ok (.iload_n 1, 1) := by decide +kernel
theorem dX3_reads_63 : decode cX3_reads 63 = .ok (.iconst 3, 1) := by decide +kernel
theorem dX3_reads_64 : decode cX3_reads 64 = .ok (.if_icmp .ge 27, 3) := by decide +kernel
theorem dX3_reads_67 : decode cX3_reads 67 = .ok (.iload_n 3, 1) := by decide +kernel
theorem dX3_reads_68 : decode cX3_reads 68 = .ok (.bipush 114, 2) := by decide +kernel
theorem dX3_reads_70 : decode cX3_reads 70 = .ok (.if_icmp .eq 9, 3) := by decide +kernel
theorem dX3_reads_73 : decode cX3_reads 73 = .ok (.iload_n 3, 1) := by decide +kernel
theorem dX3_reads_74 : decode cX3_reads 74 = .ok (.bipush 119, 2) := by decide +kernel
theorem dX3_reads_76 : decode cX3_reads 76 = .ok (.if_icmp .ne 15, 3) := by decide +kernel
theorem dX3_reads_79 : decode cX3_reads 79 = .ok (.aload_n 0, 1) := by decide +kernel
theorem dX3_reads_80 : decode cX3_reads 80 = .ok (.iload_n 3, 1) := by decide +kernel
theorem dX3_reads_81 : decode cX3_reads 81 = .ok (.invokevirtual 100, 3) := by decide +kernel
theorem dX3_reads_84 : decode cX3_reads 84 = .ok (.istore 4, 2) := by decide +kernel
theorem dX3_reads_86 : decode cX3_reads 86 = .ok (.iconst 3, 1) := by decide +kernel
theorem dX3_reads_87 : decode cX3_reads 87 = .ok (.istore_n 1, 1) := by decide +kernel
theorem dX3_reads_88 : decode cX3_reads 88 = .ok (.goto 36, 3) := by decide +kernel
theorem dX3_reads_91 : decode cX3_reads 91 = .ok (.iload_n 3, 1) := by decide +kernel
theorem dX3_reads_92 : decode cX3_reads 92 = .ok (.bipush 103, 2) := by decide +kernel
theorem dX3_reads_94 : decode cX3_reads 94 = .ok (.if_icmp .eq 21, 3) := by decide +kernel
theorem dX3_reads_97 : decode cX3_reads 97 = .ok (.iload_n 3, 1) := by decide +kernel
theorem dX3_reads_98 : decode cX3_reads 98 = .ok (.bipush 122, 2) := by decide +kernel
theorem dX3_reads_100 : decode cX3_reads 100 = .ok (.if_icmp .eq 15, 3) := by decide +kernel
theorem dX3_reads_103 : decode cX3_reads 103 = .ok (.iload_n 3, 1) := by decide +kernel
theorem dX3_reads_104 : decode cX3_reads 104 = .ok (.bipush 110, 2) := by decide +kernel
theorem dX3_reads_106 : decode cX3_reads 106 = .ok (.if_icmp .eq 9, 3) := by decide +kernel
theorem dX3_reads_109 : decode cX3_reads 109 = .ok (.iload_n 3, 1) := by decide +kernel
theorem dX3_reads_110 : decode cX3_reads 110 = .ok (.bipush 109, 2) := by decide +kernel
theorem dX3_reads_112 : decode cX3_reads 112 = .ok (.if_icmp .ne 12, 3) := by decide +kernel
theorem dX3_reads_115 : decode cX3_reads 115 = .ok (.aload_n 0, 1) := by decide +kernel
theorem dX3_reads_116 : decode cX3_reads 116 = .ok (.iload_n 3, 1) := by decide +kernel
theorem dX3_reads_117 : decode cX3_reads 117 = .ok (.invokevirtual 103, 3) := by decide +kernel
theorem dX3_reads_120 : decode cX3_reads 120 = .ok (.istore 4, 2) := by decide +kernel
theorem dX3_reads_122 : decode cX3_reads 122 = .ok (.iconst 4, 1) := by decide +kernel
theorem dX3_reads_123 : decode cX3_reads 123 = .ok (.istore_n 1, 1) := by decide +kernel
theorem dX3_reads_124 : decode cX3_reads 124 = .ok (.iload 4, 2) := by decide +kernel
theorem dX3_reads_126 : decode cX3_reads 126 = .ok (.ifCond .ne 5, 3) := by decide +kernel
theorem dX3_reads_129 : decode cX3_reads 129 = .ok (.iconst 0, 1) := by decide +kernel
theorem dX3_reads_130 : decode cX3_reads 130 = .ok (.ireturn, 1) := by decide +kernel
theorem dX3_reads_131 : decode cX3_reads 131 = .ok (.iload_n 1, 1) := by decide +kernel
theorem dX3_reads_132 : decode cX3_reads 132 = .ok (.iconst 4, 1) := by decide +kernel
theorem dX3_reads_133 : decode cX3_reads 133 = .ok (.if_icmp .ge 16, 3) := by decide +kernel
theorem dX3_reads_136 : decode cX3_reads 136 = .ok (.aload_n 0, 1) := by decide +kernel
theorem dX3_reads_137 : decode cX3_reads 137 = .ok (.bipush 59, 2) := by decide +kernel
theorem dX3_reads_139 : decode cX3_reads 139 = .ok (.invokevirtual 77, 3) := by decide +kernel
theorem dX3_reads_142 : decode cX3_reads 142 = .ok (.ifCond .eq 7, 3) := by decide +kernel
theorem dX3_reads_145 : decode cX3_reads 145 = .ok (.iconst 1, 1) := by decide +kernel
theorem dX3_reads_146 : decode cX3_reads 146 = .ok (.goto 4, 3) := by decide +kernel
theorem dX3_reads_149 : decode cX3_reads 149 = .ok (.iconst 0, 1) := by decide +kernel
theorem dX3_reads_150 : decode cX3_reads 150 = .ok (.istore_n 2, 1) := by decide +kernel
theorem dX3_reads_151 : decode cX3_reads 151 = .ok (.goto (-147), 3) := by decide +kernel
theorem dX3_reads_154 : decode cX3_reads 154 = .ok (.aload_n 0, 1) := by decide +kernel
theorem dX3_reads_155 : decode cX3_reads 155 = .ok (.getfield 63, 3) := by decide +kernel
theorem dX3_reads_158 : decode cX3_reads 158 = .ok (.aload_n 0, 1) := by decide +kernel
theorem dX3_reads_159 : decode cX3_reads 159 = .ok (.getfield 60, 3) := by decide +kernel
theorem dX3_reads_162 : decode cX3_reads 162 = .ok (.if_icmp .ne 7, 3) := by decide +kernel
theorem dX3_reads_165 : decode cX3_reads 165 = .ok (.iconst 1, 1) := by decide +kernel
theorem dX3_reads_166 : decode cX3_reads 166 = .ok (.goto 4, 3) := by decide +kernel
theorem dX3_reads_169 : decode cX3_reads 169 = .ok (.iconst 0, 1) := by decide +kernel
theorem dX3_reads_170 : decode cX3_reads 170 = .ok (.ireturn, 1) := by decide +kernel
theorem dX3_look_0 : decode cX3_look 0 = .ok (.aload_n 0, 1) := by decide +kernel
theorem dX3_look_1 : decode cX3_look 1 = .ok (.getfield 63, 3) := by decide +kernel
theorem dX3_look_4 : decode cX3_look 4 = .ok (.aload_n 0, 1) := by decide +kernel
theorem dX3_look_5 : decode cX3_look 5 = .ok (.getfield 60, 3) := by decide +kernel
theorem dX3_look_8 : decode cX3_look 8 = .ok (.if_icmp .ge 15, 3) := by decide +kernel
theorem dX3_look_11 : decode cX3_look 11 = .ok (.aload_n 0, 1) := by decide +kernel
theorem dX3_look_12 : decode cX3_look 12 = .ok (.getfield 7, 3) := by decide +kernel
theorem dX3_look_15 : decode cX3_look 15 = .ok (.aload_n 0, 1) := by decide +kernel
theorem dX3_look_16 : decode cX3_look 16 = .ok (.getfield 63, 3) := by decide +kernel
theorem dX3_look_19 : decode cX3_look 19 = .ok (.iaload, 1) := by decide +kernel
theorem dX3_look_20 : decode cX3_look 20 = .ok (.goto 4, 3) := by decide +kernel
theorem dX3_look_23 : decode cX3_look 23 = .ok (.iconst 0, 1) := by decide +kernel
theorem dX3_look_24 : decode cX3_look 24 = .ok (.ireturn, 1) := by decide +kernel
theorem dX3_settable_0 : decode cX3_settable 0 = .ok (.iload_n 1, 1) := by decide +kernel
theorem dX3_settable_1 : decode cX3_settable 1 = .ok (.tableswitch 116 65 84 #[95, 116, 105, 97, 116, 116, 116, 113, 116, 116, 116, 103, 116, 116, 110, 99, 116, 116, 101, 107], 95) := by decide +kernel
theorem dX3_settable_96 : decode cX3_settable 96 = .ok (.iconst 0, 1) := by decide +kernel
theorem dX3_settable_97 : decode cX3_settable 97 = .ok (.ireturn, 1) := by decide +kernel
theorem dX3_settable_98 : decode cX3_settable 98 = .ok (.iconst 1, 1) := by decide +kernel
theorem dX3_settable_99 : decode cX3_settable 99 = .ok (.ireturn, 1) := by decide +kernel
theorem dX3_settable_100 : decode cX3_settable 100 = .ok (.iconst 2, 1) := by decide +kernel
theorem dX3_settable_101 : decode cX3_settable 101 = .ok (.ireturn, 1) := by decide +kernel
theorem dX3_settable_102 : decode cX3_settable 102 = .ok (.iconst 3, 1) := by decide +kernel
theorem dX3_settable_103 : decode cX3_settable 103 = .ok (.ireturn, 1) := by decide +kernel
theorem dX3_settable_104 : decode cX3_settable 104 = .ok (.iconst 4, 1) := by decide +kernel
theorem dX3_settable_105 : decode cX3_settable 105 = .ok (.ireturn, 1) := by decide +kernel
theorem dX3_settable_106 : decode cX3_settable 106 = .ok (.iconst 5, 1) := by decide +kernel
theorem dX3_settable_107 : decode cX3_settable 107 = .ok (.ireturn, 1) := by decide +kernel
theorem dX3_settable_108 : decode cX3_settable 108 = .ok (.bipush 6, 2) := by decide +kernel
theorem dX3_settable_110 : decode cX3_settable 110 = .ok (.ireturn, 1) := by decide +kernel
theorem dX3_settable_111 : decode cX3_settable 111 = .ok (.bipush 7, 2) := by decide +kernel
theorem dX3_settable_113 : decode cX3_settable 113 = .ok (.ireturn, 1) := by decide +kernel
theorem dX3_settable_114 : decode cX3_settable 114 = .ok (.bipush 8, 2) := by decide +kernel
theorem dX3_settable_116 : decode cX3_settable 116 = .ok (.ireturn, 1) := by decide +kernel
theorem dX3_settable_117 : decode cX3_settable 117 = .ok (.iconst (-1), 1) := by decide +kernel
theorem dX3_settable_118 : decode cX3_settable 118 = .ok (.ireturn, 1) := by decide +kernel
theorem dX3_setting_0 : decode cX3_setting 0 = .ok (.iconst 0, 1) := by decide +kernel
theorem dX3_setting_1 : decode cX3_setting 1 = .ok (.istore_n 1, 1) := by decide +kernel
theorem dX3_setting_2 : decode cX3_setting 2 = .ok (.iconst 1, 1) := by decide +kernel
theorem dX3_setting_3 : decode cX3_setting 3 = .ok (.istore_n 2, 1) := by decide +kernel
theorem dX3_setting_4 : decode cX3_setting 4 = .ok (.iload_n 2, 1) := by decide +kernel
theorem dX3_setting_5 : decode cX3_setting 5 = .ok (.ifCond .eq 168, 3) := by decide +kernel
theorem dX3_setting_8 : decode cX3_setting 8 = .ok (.aload_n 0, 1) := by decide +kernel
theorem dX3_setting_9 : decode cX3_setting 9 = .ok (.aload_n 0, 1) := by decide +kernel
theorem dX3_setting_10 : decode cX3_setting 10 = .ok (.invokevirtual 66, 3) := by decide +kernel
theorem dX3_setting_13 : decode cX3_setting 13 = .ok (.invokevirtual 70, 3) := by decide +kernel
theorem dX3_setting_16 : decode cX3_setting 16 = .ok (.istore_n 3, 1) := by decide +kernel
theorem dX3_setting_17 : decode cX3_setting 17 = .ok (.iload_n 3, 1) := by decide +kernel
theorem dX3_setting_18 : decode cX3_setting 18 = .ok (.ifCond .lt 21, 3) := by decide +kernel
theorem dX3_setting_21 : decode cX3_setting 21 = .ok (.aload_n 0, 1) := by decide +kernel
theorem dX3_setting_22 : decode cX3_setting 22 = .ok (.getfield 22, 3) := by decide +kernel
theorem dX3_setting_25 : decode cX3_setting 25 = .ok (.bipush 64, 2) := by decide +kernel
theorem dX3_setting_27 : decode cX3_setting 27 = .ok (.iaload, 1) := by decide +kernel
theorem dX3_setting_28 : decode cX3_setting 28 = .ok (.iload_n 3, 1) := by decide +kernel
theorem dX3_setting_29 : decode cX3_setting 29 = .ok (.ishr, 1) := by decide +kernel
theorem dX3_setting_30 : decode cX3_setting 30 = .ok (.iconst 1, 1) := by decide +kernel
theorem dX3_setting_31 : decode cX3_setting 31 = .ok (.iand, 1) := by decide +kernel
theorem dX3_setting_32 : decode cX3_setting 32 = .ok (.ifCond .eq 7, 3) := by decide +kernel
theorem dX3_setting_35 : decode cX3_setting 35 = .ok (.iconst 1, 1) := by decide +kernel
theorem dX3_setting_36 : decode cX3_setting 36 = .ok (.goto 4, 3) := by decide +kernel
theorem dX3_setting_39 : decode cX3_setting 39 = .ok (.iconst 0, 1) := by decide +kernel
theorem dX3_setting_40 : decode cX3_setting 40 = .ok (.istore 4, 2) := by decide +kernel
theorem dX3_setting_42 : decode cX3_setting 42 = .ok (.aload_n 0, 1) := by decide +kernel
theorem dX3_setting_43 : decode cX3_setting 43 = .ok (.getfield 63, 3) := by decide +kernel
theorem dX3_setting_46 : decode cX3_setting 46 = .ok (.iconst 1, 1) := by decide +kernel
theorem dX3_setting_47 : decode cX3_setting 47 = .ok (.iadd, 1) := by decide +kernel
theorem dX3_setting_48 : decode cX3_setting 48 = .ok (.aload_n 0, 1) := by decide +kernel
theorem dX3_setting_49 : decode cX3_setting 49 = .ok (.getfield 60, 3) := by decide +kernel
theorem dX3_setting_52 : decode cX3_setting 52 = .ok (.if_icmp .ge 23, 3) := by decide +kernel
theorem dX3_setting_55 : decode cX3_setting 55 = .ok (.aload_n 0, 1) := by decide +kernel
theorem dX3_setting_56 : decode cX3_setting 56 = .ok (.getfield 7, 3) := by decide +kernel
theorem dX3_setting_59 : decode cX3_setting 59 = .ok (.aload_n 0, 1) := by decide +kernel
theorem dX3_setting_60 : decode cX3_setting 60 = .ok (.getfield 63, 3) := by decide +kernel
theorem dX3_setting_63 : decode cX3_setting 63 = .ok (.iconst 1, 1) := by decide +kernel
theorem dX3_setting_64 : decode cX3_setting 64 = .ok (.iadd, 1) := by decide +kernel
theorem dX3_setting_65 : decode cX3_setting 65 = .ok (.iaload, 1) := by decide +kernel
theorem dX3_setting_66 : decode cX3_setting 66 = .ok (.bipush 61, 2) := by decide +kernel
theorem dX3_setting_68 : decode cX3_setting 68 = .ok (.if_icmp .ne 7, 3) := by decide +kernel
theorem dX3_setting_71 : decode cX3_setting 71 = .ok (.iconst 1, 1) := by decide +kernel
theorem dX3_setting_72 : decode cX3_setting 72 = .ok (.goto 4, 3) := by decide +kernel
theorem dX3_setting_75 : decode cX3_setting 75 = .ok (.iconst 0, 1) := by decide +kernel
theorem dX3_setting_76 : decode cX3_setting 76 = .ok (.istore 5, 2) := by decide +kernel
theorem dX3_setting_78 : decode cX3_setting 78 = .ok (.iload_n 3, 1) := by decide +kernel
theorem dX3_setting_79 : decode cX3_setting 79 = .ok (.ifCond .lt 17, 3) := by decide +kernel
theorem dX3_setting_82 : decode cX3_setting 82 = .ok (.iload 4, 2) := by decide +kernel
theorem dX3_setting_84 : decode cX3_setting 84 = .ok (.ifCond .ne 12, 3) := by decide +kernel
theorem dX3_setting_87 : decode cX3_setting 87 = .ok (.iload_n 1, 1) := by decide +kernel
theorem dX3_setting_88 : decode cX3_setting 88 = .ok (.iconst 4, 1) := by decide +kernel
theorem dX3_setting_89 : decode cX3_setting 89 = .ok (.if_icmp .ge 7, 3) := by decide +kernel
theorem dX3_setting_92 : decode cX3_setting 92 = .ok (.iconst 1, 1) := by decide +kernel
theorem dX3_setting_93 : decode cX3_setting 93 = .ok (.goto 4, 3) := by decide +kernel
theorem dX3_setting_96 : decode cX3_setting 96 = .ok (.iconst 0, 1) := by decide +kernel
theorem dX3_setting_97 : decode cX3_setting 97 = .ok (.istore 6, 2) := by decide +kernel
theorem dX3_setting_99 : decode cX3_setting 99 = .ok (.iload_n 1, 1) := by decide +kernel
theorem dX3_setting_100 : decode cX3_setting 100 = .ok (.ifCond .ne 10, 3) := by decide +kernel
theorem dX3_setting_103 : decode cX3_setting 103 = .ok (.iload 6, 2) := by decide +kernel
theorem dX3_setting_105 : decode cX3_setting 105 = .ok (.ifCond .ne 5, 3) := by decide +kernel
theorem dX3_setting_108 : decode cX3_setting 108 = .ok (.iconst 0, 1) := by decide +kernel
theorem dX3_setting_109 : decode cX3_setting 109 = .ok (.ireturn, 1) := by decide +kernel
theorem dX3_setting_110 : decode cX3_setting 110 = .ok (.iload 6, 2) := by decide +kernel
theorem dX3_setting_112 : decode cX3_setting 112 = .ok (.ifCond .eq 56, 3) := by decide +kernel
theorem dX3_setting_115 : decode cX3_setting 115 = .ok (.iload 5, 2) := by decide +kernel
theorem dX3_setting_117 : decode cX3_setting 117 = .ok (.ifCond .ne 11, 3) := by decide +kernel
theorem dX3_setting_120 : decode cX3_setting 120 = .ok (.iload_n 1, 1) := by decide +kernel
theorem dX3_setting_121 : decode cX3_setting 121 = .ok (.ifCond .eq 7, 3) := by decide +kernel
theorem dX3_setting_124 : decode cX3_setting 124 = .ok (.iload_n 3, 1) := by decide +kernel
theorem dX3_setting_125 : decode cX3_setting 125 = .ok (.ifCond .ne 43, 3) := by decide +kernel
theorem dX3_setting_128 : decode cX3_setting 128 = .ok (.aload_n 0, 1) := by decide +kernel
theorem dX3_setting_129 : decode cX3_setting 129 = .ok (.dup, 1) := by decide +kernel
theorem dX3_setting_130 : decode cX3_setting 130 = .ok (.getfield 63, 3) := by decide +kernel
theorem dX3_setting_133 : decode cX3_setting 133 = .ok (.iconst 1, 1) := by decide +kernel
theorem dX3_setting_134 : decode cX3_setting 134 = .ok (.iadd, 1) := by decide +kernel
theorem dX3_setting_135 : decode cX3_setting 135 = .ok (.putfield 63, 3) := by decide +kernel
theorem dX3_setting_138 : decode cX3_setting 138 = .ok (.aload_n 0, 1) := by decide +kernel
theorem dX3_setting_139 : decode cX3_setting 139 = .ok (.bipush 61, 2) := by decide +kernel
theorem dX3_setting_141 : decode cX3_setting 141 = .ok (.invokevirtual 77, 3) := by decide +kernel
theorem dX3_setting_144 : decode cX3_setting 144 = .ok (.ifCond .ne 5, 3) := by decide +kernel
theorem dX3_setting_147 : decode cX3_setting 147 = .ok (.iconst 0, 1) := by decide +kernel
theorem dX3_setting_148 : decode cX3_setting 148 = .ok (.ireturn, 1) := by decide +kernel
theorem dX3_setting_149 : decode cX3_setting 149 = .ok (.aload_n 0, 1) := by decide +kernel
theorem dX3_setting_150 : decode cX3_setting 150 = .ok (.getfield 22, 3) := by decide +kernel
theorem dX3_setting_153 : decode cX3_setting 153 = .ok (.bipush 64, 2) := by decide +kernel
theorem dX3_setting_155 : decode cX3_setting 155 = .ok (.dup2, 1) := by decide +kernel
theorem dX3_setting_156 : decode cX3_setting 156 = .ok (.iaload, 1) := by decide +kernel
theorem dX3_setting_157 : decode cX3_setting 157 = .ok (.iconst 1, 1) := by decide +kernel
theorem dX3_setting_158 : decode cX3_setting 158 = .ok (.iload_n 3, 1) := by decide +kernel
theorem dX3_setting_159 : decode cX3_setting 159 = .ok (.ishl, 1) := by decide +kernel
theorem dX3_setting_160 : decode cX3_setting 160 = .ok (.ior, 1) := by decide +kernel
theorem dX3_setting_161 : decode cX3_setting 161 = .ok (.iastore, 1) := by decide +kernel
theorem dX3_setting_162 : decode cX3_setting 162 = .ok (.iinc 1 1, 3) := by decide +kernel
theorem dX3_setting_165 : decode cX3_setting 165 = .ok (.goto 5, 3) := by decide +kernel
theorem dX3_setting_168 : decode cX3_setting 168 = .ok (.iconst 0, 1) := by decide +kernel
theorem dX3_setting_169 : decode cX3_setting 169 = .ok (.istore_n 2, 1) := by decide +kernel
theorem dX3_setting_170 : decode cX3_setting 170 = .ok (.goto (-166), 3) := by decide +kernel
theorem dX3_setting_173 : decode cX3_setting 173 = .ok (.aload_n 0, 1) := by decide +kernel
theorem dX3_setting_174 : decode cX3_setting 174 = .ok (.invokevirtual 87, 3) := by decide +kernel
theorem dX3_setting_177 : decode cX3_setting 177 = .ok (.ifCond .ne 5, 3) := by decide +kernel
theorem dX3_setting_180 : decode cX3_setting 180 = .ok (.iconst 0, 1) := by decide +kernel
theorem dX3_setting_181 : decode cX3_setting 181 = .ok (.ireturn, 1) := by decide +kernel
theorem dX3_setting_182 : decode cX3_setting 182 = .ok (.aload_n 0, 1) := by decide +kernel
theorem dX3_setting_183 : decode cX3_setting 183 = .ok (.bipush 60, 2) := by decide +kernel
theorem dX3_setting_185 : decode cX3_setting 185 = .ok (.invokevirtual 77, 3) := by decide +kernel
theorem dX3_setting_188 : decode cX3_setting 188 = .ok (.ifCond .eq 14, 3) := by decide +kernel
theorem dX3_setting_191 : decode cX3_setting 191 = .ok (.aload_n 0, 1) := by decide +kernel
theorem dX3_setting_192 : decode cX3_setting 192 = .ok (.getfield 31, 3) := by decide +kernel
theorem dX3_setting_195 : decode cX3_setting 195 = .ok (.bipush 64, 2) := by decide +kernel
theorem dX3_setting_197 : decode cX3_setting 197 = .ok (.iconst 1, 1) := by decide +kernel
theorem dX3_setting_198 : decode cX3_setting 198 = .ok (.iastore, 1) := by decide +kernel
theorem dX3_setting_199 : decode cX3_setting 199 = .ok (.goto 20, 3) := by decide +kernel
theorem dX3_setting_202 : decode cX3_setting 202 = .ok (.aload_n 0, 1) := by decide +kernel
theorem dX3_setting_203 : decode cX3_setting 203 = .ok (.bipush 62, 2) := by decide +kernel
theorem dX3_setting_205 : decode cX3_setting 205 = .ok (.invokevirtual 77, 3) := by decide +kernel
theorem dX3_setting_208 : decode cX3_setting 208 = .ok (.ifCond .eq 11, 3) := by decide +kernel
theorem dX3_setting_211 : decode cX3_setting 211 = .ok (.aload_n 0, 1) := by decide +kernel
theorem dX3_setting_212 : decode cX3_setting 212 = .ok (.getfield 31, 3) := by decide +kernel
theorem dX3_setting_215 : decode cX3_setting 215 = .ok (.bipush 64, 2) := by decide +kernel
theorem dX3_setting_217 : decode cX3_setting 217 = .ok (.iconst 2, 1) := by decide +kernel
theorem dX3_setting_218 : decode cX3_setting 218 = .ok (.iastore, 1) := by decide +kernel
theorem dX3_setting_219 : decode cX3_setting 219 = .ok (.aload_n 0, 1) := by decide +kernel
theorem dX3_setting_220 : decode cX3_setting 220 = .ok (.dup, 1) := by decide +kernel
theorem dX3_setting_221 : decode cX3_setting 221 = .ok (.getfield 91, 3) := by decide +kernel
theorem dX3_setting_224 : decode cX3_setting 224 = .ok (.iconst 1, 1) := by decide +kernel
theorem dX3_setting_225 : decode cX3_setting 225 = .ok (.iadd, 1) := by decide +kernel
theorem dX3_setting_226 : decode cX3_setting 226 = .ok (.putfield 91, 3) := by decide +kernel
theorem dX3_setting_229 : decode cX3_setting 229 = .ok (.iconst 1, 1) := by decide +kernel
theorem dX3_setting_230 : decode cX3_setting 230 = .ok (.ireturn, 1) := by decide +kernel
theorem dX3_has_0 : decode cX3_has 0 = .ok (.aload_n 0, 1) := by decide +kernel
theorem dX3_has_1 : decode cX3_has 1 = .ok (.invokevirtual 66, 3) := by decide +kernel
theorem dX3_has_4 : decode cX3_has 4 = .ok (.iload_n 1, 1) := by decide +kernel
theorem dX3_has_5 : decode cX3_has 5 = .ok (.if_icmp .eq 5, 3) := by decide +kernel
theorem dX3_has_8 : decode cX3_has 8 = .ok (.iconst 0, 1) := by decide +kernel
theorem dX3_has_9 : decode cX3_has 9 = .ok (.ireturn, 1) := by decide +kernel
theorem dX3_has_10 : decode cX3_has 10 = .ok (.aload_n 0, 1) := by decide +kernel
theorem dX3_has_11 : decode cX3_has 11 = .ok (.dup, 1) := by decide +kernel
theorem dX3_has_12 : decode cX3_has 12 = .ok (.getfield 63, 3) := by decide +kernel
theorem dX3_has_15 : decode cX3_has 15 = .ok (.iconst 1, 1) := by decide +kernel
theorem dX3_has_16 : decode cX3_has 16 = .ok (.iadd, 1) := by decide +kernel
theorem dX3_has_17 : decode cX3_has 17 = .ok (.putfield 63, 3) := by decide +kernel
theorem dX3_has_20 : decode cX3_has 20 = .ok (.iconst 1, 1) := by decide +kernel
theorem dX3_has_21 : decode cX3_has 21 = .ok (.ireturn, 1) := by decide +kernel
theorem dX3_value_0 : decode cX3_value 0 = .ok (.aload_n 0, 1) := by decide +kernel
theorem dX3_value_1 : decode cX3_value 1 = .ok (.bipush 33, 2) := by decide +kernel
theorem dX3_value_3 : decode cX3_value 3 = .ok (.invokevirtual 77, 3) := by decide +kernel
theorem dX3_value_6 : decode cX3_value 6 = .ok (.ifCond .eq 28, 3) := by decide +kernel
theorem dX3_value_9 : decode cX3_value 9 = .ok (.aload_n 0, 1) := by decide +kernel
theorem dX3_value_10 : decode cX3_value 10 = .ok (.bipush 72, 2) := by decide +kernel
theorem dX3_value_12 : decode cX3_value 12 = .ok (.invokevirtual 77, 3) := by decide +kernel
theorem dX3_value_15 : decode cX3_value 15 = .ok (.ifCond .eq 12, 3) := by decide +kernel
theorem dX3_value_18 : decode cX3_value 18 = .ok (.aload_n 0, 1) := by decide +kernel
theorem dX3_value_19 : decode cX3_value 19 = .ok (.bipush 11, 2) := by decide +kernel
theorem dX3_value_21 : decode cX3_value 21 = .ok (.invokevirtual 81, 3) := by decide +kernel
theorem dX3_value_24 : decode cX3_value 24 = .ok (.goto 9, 3) := by decide +kernel
theorem dX3_value_27 : decode cX3_value 27 = .ok (.aload_n 0, 1) := by decide +kernel
theorem dX3_value_28 : decode cX3_value 28 = .ok (.bipush 10, 2) := by decide +kernel
theorem dX3_value_30 : decode cX3_value 30 = .ok (.invokevirtual 84, 3) := by decide +kernel
theorem dX3_value_33 : decode cX3_value 33 = .ok (.ireturn, 1) := by decide +kernel
theorem dX3_value_34 : decode cX3_value 34 = .ok (.aload_n 0, 1) := by decide +kernel
theorem dX3_value_35 : decode cX3_value 35 = .ok (.bipush 45, 2) := by decide +kernel
theorem dX3_value_37 : decode cX3_value 37 = .ok (.invokevirtual 77, 3) := by decide +kernel
theorem dX3_value_40 : decode cX3_value 40 = .ok (.ifCond .eq 45, 3) := by decide +kernel
theorem dX3_value_43 : decode cX3_value 43 = .ok (.aload_n 0, 1) := by decide +kernel
theorem dX3_value_44 : decode cX3_value 44 = .ok (.bipush 72, 2) := by decide +kernel
theorem dX3_value_46 : decode cX3_value 46 = .ok (.invokevirtual 77, 3) := by decide +kernel
theorem dX3_value_49 : decode cX3_value 49 = .ok (.ifCond .eq 12, 3) := by decide +kernel
theorem dX3_value_52 : decode cX3_value 52 = .ok (.aload_n 0, 1) := by decide +kernel
theorem dX3_value_53 : decode cX3_value 53 = .ok (.bipush 12, 2) := by decide +kernel
theorem dX3_value_55 : decode cX3_value 55 = .ok (.invokevirtual 81, 3) := by decide +kernel
theorem dX3_value_58 : decode cX3_value 58 = .ok (.goto 26, 3) := by decide +kernel
theorem dX3_value_61 : decode cX3_value 61 = .ok (.aload_n 0, 1) := by decide +kernel
theorem dX3_value_62 : decode cX3_value 62 = .ok (.bipush 49, 2) := by decide +kernel
theorem dX3_value_64 : decode cX3_value 64 = .ok (.invokevirtual 77, 3) := by decide +kernel
theorem dX3_value_67 : decode cX3_value 67 = .ok (.ifCond .eq 16, 3) := by decide +kernel
theorem dX3_value_70 : decode cX3_value 70 = .ok (.aload_n 0, 1) := by decide +kernel
theorem dX3_value_71 : decode cX3_value 71 = .ok (.bipush 15, 2) := by decide +kernel
theorem dX3_value_73 : decode cX3_value 73 = .ok (.invokevirtual 81, 3) := by decide +kernel
theorem dX3_value_76 : decode cX3_value 76 = .ok (.ifCond .eq 7, 3) := by decide +kernel
theorem dX3_value_79 : decode cX3_value 79 = .ok (.iconst 1, 1) := by decide +kernel
theorem dX3_value_80 : decode cX3_value 80 = .ok (.goto 4, 3) := by decide +kernel
theorem dX3_value_83 : decode cX3_value 83 = .ok (.iconst 0, 1) := by decide +kernel
theorem dX3_value_84 : decode cX3_value 84 = .ok (.ireturn, 1) := by decide +kernel
theorem dX3_value_85 : decode cX3_value 85 = .ok (.aload_n 0, 1) := by decide +kernel
theorem dX3_value_86 : decode cX3_value 86 = .ok (.bipush 48, 2) := by decide +kernel
theorem dX3_value_88 : decode cX3_value 88 = .ok (.invokevirtual 77, 3) := by decide +kernel
theorem dX3_value_91 : decode cX3_value 91 = .ok (.ifCond .eq 10, 3) := by decide +kernel
theorem dX3_value_94 : decode cX3_value 94 = .ok (.aload_n 0, 1) := by decide +kernel
theorem dX3_value_95 : decode cX3_value 95 = .ok (.bipush 13, 2) := by decide +kernel
theorem dX3_value_97 : decode cX3_value 97 = .ok (.invokevirtual 81, 3) := by decide +kernel
theorem dX3_value_100 : decode cX3_value 100 = .ok (.ireturn, 1) := by decide +kernel
theorem dX3_value_101 : decode cX3_value 101 = .ok (.aload_n 0, 1) := by decide +kernel
theorem dX3_value_102 : decode cX3_value 102 = .ok (.bipush 49, 2) := by decide +kernel
theorem dX3_value_104 : decode cX3_value 104 = .ok (.invokevirtual 77, 3) := by decide +kernel
theorem dX3_value_107 : decode cX3_value 107 = .ok (.ifCond .eq 10, 3) := by decide +kernel
theorem dX3_value_110 : decode cX3_value 110 = .ok (.aload_n 0, 1) := by decide +kernel
theorem dX3_value_111 : decode cX3_value 111 = .ok (.bipush 14, 2) := by decide +kernel
theorem dX3_value_113 : decode cX3_value 113 = .ok (.invokevirtual 81, 3) := by decide +kernel
theorem dX3_value_116 : decode cX3_value 116 = .ok (.ireturn, 1) := by decide +kernel
theorem dX3_value_117 : decode cX3_value 117 = .ok (.aload_n 0, 1) := by decide +kernel
theorem dX3_value_118 : decode cX3_value 118 = .ok (.bipush 72, 2) := by decide +kernel
theorem dX3_value_120 : decode cX3_value 120 = .ok (.invokevirtual 77, 3) := by decide +kernel
theorem dX3_value_123 : decode cX3_value 123 = .ok (.ifCond .eq 108, 3) := by decide +kernel
theorem dX3_value_126 : decode cX3_value 126 = .ok (.aload_n 0, 1) := by decide +kernel
theorem dX3_value_127 : decode cX3_value 127 = .ok (.bipush 38, 2) := by decide +kernel
theorem dX3_value_129 : decode cX3_value 129 = .ok (.invokevirtual 77, 3) := by decide +kernel
theorem dX3_value_132 : decode cX3_value 132 = .ok (.ifCond .eq 10, 3) := by decide +kernel
theorem dX3_value_135 : decode cX3_value 135 = .ok (.aload_n 0, 1) := by decide +kernel
theorem dX3_value_136 : decode cX3_value 136 = .ok (.bipush 8, 2) := by decide +kernel
theorem dX3_value_138 : decode cX3_value 138 = .ok (.invokevirtual 84, 3) := by decide +kernel
theorem dX3_value_141 : decode cX3_value 141 = .ok (.ireturn, 1) := by decide +kernel
theorem dX3_value_142 : decode cX3_value 142 = .ok (.aload_n 0, 1) := by decide +kernel
theorem dX3_value_143 : decode cX3_value 143 = .ok (.bipush 124, 2) := by decide +kernel
theorem dX3_value_145 : decode cX3_value 145 = .ok (.invokevirtual 77, 3) := by decide +kernel
theorem dX3_value_148 : decode cX3_value 148 = .ok (.ifCond .eq 10, 3) := by decide +kernel
theorem dX3_value_151 : decode cX3_value 151 = .ok (.aload_n 0, 1) := by decide +kernel
theorem dX3_value_152 : decode cX3_value 152 = .ok (.bipush 9, 2) := by decide +kernel
theorem dX3_value_154 : decode cX3_value 154 = .ok (.invokevirtual 84, 3) := by decide +kernel
theorem dX3_value_157 : decode cX3_value 157 = .ok (.ireturn, 1) := by decide +kernel
theorem dX3_value_158 : decode cX3_value 158 = .ok (.aload_n 0, 1) := by decide +kernel
theorem dX3_value_159 : decode cX3_value 159 = .ok (.bipush 43, 2) := by decide +kernel
theorem dX3_value_161 : decode cX3_value 161 = .ok (.invokevirtual 77, 3) := by decide +kernel
theorem dX3_value_164 : decode cX3_value 164 = .ok (.ifCond .ne 9, 3) := by decide +kernel
theorem dX3_value_167 : decode cX3_value 167 = .ok (.aload_n 0, 1) := by decide +kernel
theorem dX3_value_168 : decode cX3_value 168 = .ok (.iconst 1, 1) := by decide +kernel
theorem dX3_value_169 : decode cX3_value 169 = .ok (.invokevirtual 81, 3) := by decide +kernel
theorem dX3_value_172 : decode cX3_value 172 = .ok (.ireturn, 1) := by decide +kernel
theorem dX3_value_173 : decode cX3_value 173 = .ok (.aload_n 0, 1) := by decide +kernel
theorem dX3_value_174 : decode cX3_value 174 = .ok (.bipush 49, 2) := by decide +kernel
theorem dX3_value_176 : decode cX3_value 176 = .ok (.invokevirtual 77, 3) := by decide +kernel
theorem dX3_value_179 : decode cX3_value 179 = .ok (.ifCond .eq 9, 3) := by decide +kernel
theorem dX3_value_182 : decode cX3_value 182 = .ok (.aload_n 0, 1) := by decide +kernel
theorem dX3_value_183 : decode cX3_value 183 = .ok (.iconst 4, 1) := by decide +kernel
theorem dX3_value_184 : decode cX3_value 184 = .ok (.invokevirtual 81, 3) := by decide +kernel
theorem dX3_value_187 : decode cX3_value 187 = .ok (.ireturn, 1) := by decide +kernel
theorem dX3_value_188 : decode cX3_value 188 = .ok (.aload_n 0, 1) := by decide +kernel
theorem dX3_value_189 : decode cX3_value 189 = .ok (.iconst 5, 1) := by decide +kernel
theorem dX3_value_190 : decode cX3_value 190 = .ok (.invokevirtual 84, 3) := by decide +kernel
theorem dX3_value_193 : decode cX3_value 193 = .ok (.ifCond .ne 5, 3) := by decide +kernel
theorem dX3_value_196 : decode cX3_value 196 = .ok (.iconst 0, 1) := by decide +kernel
theorem dX3_value_197 : decode cX3_value 197 = .ok (.ireturn, 1) := by decide +kernel
theorem dX3_value_198 : decode cX3_value 198 = .ok (.aload_n 0, 1) := by decide +kernel
theorem dX3_value_199 : decode cX3_value 199 = .ok (.bipush 43, 2) := by decide +kernel
theorem dX3_value_201 : decode cX3_value 201 = .ok (.invokevirtual 77, 3) := by decide +kernel
theorem dX3_value_204 : decode cX3_value 204 = .ok (.ifCond .eq 21, 3) := by decide +kernel
theorem dX3_value_207 : decode cX3_value 207 = .ok (.aload_n 0, 1) := by decide +kernel
theorem dX3_value_208 : decode cX3_value 208 = .ok (.bipush 49, 2) := by decide +kernel
theorem dX3_value_210 : decode cX3_value 210 = .ok (.invokevirtual 77, 3) := by decide +kernel
theorem dX3_value_213 : decode cX3_value 213 = .ok (.ifCond .eq 16, 3) := by decide +kernel
theorem dX3_value_216 : decode cX3_value 216 = .ok (.aload_n 0, 1) := by decide +kernel
theorem dX3_value_217 : decode cX3_value 217 = .ok (.bipush 6, 2) := by decide +kernel
theorem dX3_value_219 : decode cX3_value 219 = .ok (.invokevirtual 81, 3) := by decide +kernel
theorem dX3_value_222 : decode cX3_value 222 = .ok (.ifCond .eq 7, 3) := by decide +kernel
theorem dX3_value_225 : decode cX3_value 225 = .ok (.iconst 1, 1) := by decide +kernel
theorem dX3_value_226 : decode cX3_value 226 = .ok (.goto 4, 3) := by decide +kernel
theorem dX3_value_229 : decode cX3_value 229 = .ok (.iconst 0, 1) := by decide +kernel
theorem dX3_value_230 : decode cX3_value 230 = .ok (.ireturn, 1) := by decide +kernel
theorem dX3_value_231 : decode cX3_value 231 = .ok (.aload_n 0, 1) := by decide +kernel
theorem dX3_value_232 : decode cX3_value 232 = .ok (.iconst 0, 1) := by decide +kernel
theorem dX3_value_233 : decode cX3_value 233 = .ok (.invokevirtual 84, 3) := by decide +kernel
theorem dX3_value_236 : decode cX3_value 236 = .ok (.ifCond .ne 5, 3) := by decide +kernel
theorem dX3_value_239 : decode cX3_value 239 = .ok (.iconst 0, 1) := by decide +kernel
theorem dX3_value_240 : decode cX3_value 240 = .ok (.ireturn, 1) := by decide +kernel
theorem dX3_value_241 : decode cX3_value 241 = .ok (.aload_n 0, 1) := by decide +kernel
theorem dX3_value_242 : decode cX3_value 242 = .ok (.bipush 43, 2) := by decide +kernel
theorem dX3_value_244 : decode cX3_value 244 = .ok (.invokevirtual 77, 3) := by decide +kernel
theorem dX3_value_247 : decode cX3_value 247 = .ok (.ifCond .eq 26, 3) := by decide +kernel
theorem dX3_value_250 : decode cX3_value 250 = .ok (.aload_n 0, 1) := by decide +kernel
theorem dX3_value_251 : decode cX3_value 251 = .ok (.bipush 49, 2) := by decide +kernel
theorem dX3_value_253 : decode cX3_value 253 = .ok (.invokevirtual 77, 3) := by decide +kernel
theorem dX3_value_256 : decode cX3_value 256 = .ok (.ifCond .eq 15, 3) := by decide +kernel
theorem dX3_value_259 : decode cX3_value 259 = .ok (.aload_n 0, 1) := by decide +kernel
theorem dX3_value_260 : decode cX3_value 260 = .ok (.iconst 2, 1) := by decide +kernel
theorem dX3_value_261 : decode cX3_value 261 = .ok (.invokevirtual 81, 3) := by decide +kernel
theorem dX3_value_264 : decode cX3_value 264 = .ok (.ifCond .eq 7, 3) := by decide +kernel
theorem dX3_value_267 : decode cX3_value 267 = .ok (.iconst 1, 1) := by decide +kernel
theorem dX3_value_268 : decode cX3_value 268 = .ok (.goto 4, 3) := by decide +kernel
theorem dX3_value_271 : decode cX3_value 271 = .ok (.iconst 0, 1) := by decide +kernel
theorem dX3_value_272 : decode cX3_value 272 = .ok (.ireturn, 1) := by decide +kernel
theorem dX3_value_273 : decode cX3_value 273 = .ok (.aload_n 0, 1) := by decide +kernel
theorem dX3_value_274 : decode cX3_value 274 = .ok (.bipush 45, 2) := by decide +kernel
theorem dX3_value_276 : decode cX3_value 276 = .ok (.invokevirtual 77, 3) := by decide +kernel
theorem dX3_value_279 : decode cX3_value 279 = .ok (.ifCond .ne 5, 3) := by decide +kernel
theorem dX3_value_282 : decode cX3_value 282 = .ok (.iconst 1, 1) := by decide +kernel
theorem dX3_value_283 : decode cX3_value 283 = .ok (.ireturn, 1) := by decide +kernel
theorem dX3_value_284 : decode cX3_value 284 = .ok (.aload_n 0, 1) := by decide +kernel
theorem dX3_value_285 : decode cX3_value 285 = .ok (.bipush 72, 2) := by decide +kernel
theorem dX3_value_287 : decode cX3_value 287 = .ok (.invokevirtual 77, 3) := by decide +kernel
theorem dX3_value_290 : decode cX3_value 290 = .ok (.ifCond .eq 12, 3) := by decide +kernel
theorem dX3_value_293 : decode cX3_value 293 = .ok (.aload_n 0, 1) := by decide +kernel
theorem dX3_value_294 : decode cX3_value 294 = .ok (.bipush 7, 2) := by decide +kernel
theorem dX3_value_296 : decode cX3_value 296 = .ok (.invokevirtual 81, 3) := by decide +kernel
theorem dX3_value_299 : decode cX3_value 299 = .ok (.goto 25, 3) := by decide +kernel
theorem dX3_value_302 : decode cX3_value 302 = .ok (.aload_n 0, 1) := by decide +kernel
theorem dX3_value_303 : decode cX3_value 303 = .ok (.bipush 49, 2) := by decide +kernel
theorem dX3_value_305 : decode cX3_value 305 = .ok (.invokevirtual 77, 3) := by decide +kernel
theorem dX3_value_308 : decode cX3_value 308 = .ok (.ifCond .eq 15, 3) := by decide +kernel
theorem dX3_value_311 : decode cX3_value 311 = .ok (.aload_n 0, 1) := by decide +kernel
theorem dX3_value_312 : decode cX3_value 312 = .ok (.iconst 3, 1) := by decide +kernel
theorem dX3_value_313 : decode cX3_value 313 = .ok (.invokevirtual 81, 3) := by decide +kernel
theorem dX3_value_316 : decode cX3_value 316 = .ok (.ifCond .eq 7, 3) := by decide +kernel
theorem dX3_value_319 : decode cX3_value 319 = .ok (.iconst 1, 1) := by decide +kernel
theorem dX3_value_320 : decode cX3_value 320 = .ok (.goto 4, 3) := by decide +kernel
theorem dX3_value_323 : decode cX3_value 323 = .ok (.iconst 0, 1) := by decide +kernel
theorem dX3_value_324 : decode cX3_value 324 = .ok (.ireturn, 1) := by decide +kernel
theorem dX3_plain_0 : decode cX3_plain 0 = .ok (.aload_n 0, 1) := by decide +kernel
theorem dX3_plain_1 : decode cX3_plain 1 = .ok (.getfield 25, 3) := by decide +kernel
theorem dX3_plain_4 : decode cX3_plain 4 = .ok (.bipush 64, 2) := by decide +kernel
theorem dX3_plain_6 : decode cX3_plain 6 = .ok (.iload_n 1, 1) := by decide +kernel
theorem dX3_plain_7 : decode cX3_plain 7 = .ok (.iastore, 1) := by decide +kernel
theorem dX3_plain_8 : decode cX3_plain 8 = .ok (.iconst 1, 1) := by decide +kernel
theorem dX3_plain_9 : decode cX3_plain 9 = .ok (.ireturn, 1) := by decide +kernel
theorem dX3_bus_0 : decode cX3_bus 0 = .ok (.aload_n 0, 1) := by decide +kernel
theorem dX3_bus_1 : decode cX3_bus 1 = .ok (.getfield 28, 3) := by decide +kernel
theorem dX3_bus_4 : decode cX3_bus 4 = .ok (.bipush 64, 2) := by decide +kernel
theorem dX3_bus_6 : decode cX3_bus 6 = .ok (.aload_n 0, 1) := by decide +kernel
theorem dX3_bus_7 : decode cX3_bus 7 = .ok (.aload_n 0, 1) := by decide +kernel
theorem dX3_bus_8 : decode cX3_bus 8 = .ok (.invokevirtual 66, 3) := by decide +kernel
theorem dX3_bus_11 : decode cX3_bus 11 = .ok (.invokevirtual 74, 3) := by decide +kernel
theorem dX3_bus_14 : decode cX3_bus 14 = .ok (.iastore, 1) := by decide +kernel
theorem dX3_bus_15 : decode cX3_bus 15 = .ok (.aload_n 0, 1) := by decide +kernel
theorem dX3_bus_16 : decode cX3_bus 16 = .ok (.getfield 28, 3) := by decide +kernel
theorem dX3_bus_19 : decode cX3_bus 19 = .ok (.bipush 64, 2) := by decide +kernel
theorem dX3_bus_21 : decode cX3_bus 21 = .ok (.iaload, 1) := by decide +kernel
theorem dX3_bus_22 : decode cX3_bus 22 = .ok (.ifCond .ge 5, 3) := by decide +kernel
theorem dX3_bus_25 : decode cX3_bus 25 = .ok (.iconst 0, 1) := by decide +kernel
theorem dX3_bus_26 : decode cX3_bus 26 = .ok (.ireturn, 1) := by decide +kernel
theorem dX3_bus_27 : decode cX3_bus 27 = .ok (.aload_n 0, 1) := by decide +kernel
theorem dX3_bus_28 : decode cX3_bus 28 = .ok (.dup, 1) := by decide +kernel
theorem dX3_bus_29 : decode cX3_bus 29 = .ok (.getfield 63, 3) := by decide +kernel
theorem dX3_bus_32 : decode cX3_bus 32 = .ok (.iconst 1, 1) := by decide +kernel
theorem dX3_bus_33 : decode cX3_bus 33 = .ok (.iadd, 1) := by decide +kernel
theorem dX3_bus_34 : decode cX3_bus 34 = .ok (.putfield 63, 3) := by decide +kernel
theorem dX3_bus_37 : decode cX3_bus 37 = .ok (.aload_n 0, 1) := by decide +kernel
theorem dX3_bus_38 : decode cX3_bus 38 = .ok (.getfield 25, 3) := by decide +kernel
theorem dX3_bus_41 : decode cX3_bus 41 = .ok (.bipush 64, 2) := by decide +kernel
theorem dX3_bus_43 : decode cX3_bus 43 = .ok (.iload_n 1, 1) := by decide +kernel
theorem dX3_bus_44 : decode cX3_bus 44 = .ok (.iastore, 1) := by decide +kernel
theorem dX3_bus_45 : decode cX3_bus 45 = .ok (.iconst 1, 1) := by decide +kernel
theorem dX3_bus_46 : decode cX3_bus 46 = .ok (.ireturn, 1) := by decide +kernel
theorem dX3_onBus_0 : decode cX3_onBus 0 = .ok (.iload_n 1, 1) := by decide +kernel
theorem dX3_onBus_1 : decode cX3_onBus 1 = .ok (.bipush 77, 2) := by decide +kernel
theorem dX3_onBus_3 : decode cX3_onBus 3 = .ok (.if_icmp .ne 6, 3) := by decide +kernel
theorem dX3_onBus_6 : decode cX3_onBus 6 = .ok (.bipush 9, 2) := by decide +kernel
theorem dX3_onBus_8 : decode cX3_onBus 8 = .ok (.ireturn, 1) := by decide +kernel
theorem dX3_onBus_9 : decode cX3_onBus 9 = .ok (.iload_n 1, 1) := by decide +kernel
theorem dX3_onBus_10 : decode cX3_onBus 10 = .ok (.bipush 85, 2) := by decide +kernel
theorem dX3_onBus_12 : decode cX3_onBus 12 = .ok (.if_icmp .ne 6, 3) := by decide +kernel
theorem dX3_onBus_15 : decode cX3_onBus 15 = .ok (.bipush 10, 2) := by decide +kernel
theorem dX3_onBus_17 : decode cX3_onBus 17 = .ok (.ireturn, 1) := by decide +kernel
theorem dX3_onBus_18 : decode cX3_onBus 18 = .ok (.iload_n 1, 1) := by decide +kernel
theorem dX3_onBus_19 : decode cX3_onBus 19 = .ok (.bipush 65, 2) := by decide +kernel
theorem dX3_onBus_21 : decode cX3_onBus 21 = .ok (.if_icmp .eq 9, 3) := by decide +kernel
theorem dX3_onBus_24 : decode cX3_onBus 24 = .ok (.iload_n 1, 1) := by decide +kernel
theorem dX3_onBus_25 : decode cX3_onBus 25 = .ok (.bipush 72, 2) := by decide +kernel
theorem dX3_onBus_27 : decode cX3_onBus 27 = .ok (.if_icmp .ne 7, 3) := by decide +kernel
theorem dX3_onBus_30 : decode cX3_onBus 30 = .ok (.iconst (-1), 1) := by decide +kernel
theorem dX3_onBus_31 : decode cX3_onBus 31 = .ok (.goto 8, 3) := by decide +kernel
theorem dX3_onBus_34 : decode cX3_onBus 34 = .ok (.aload_n 0, 1) := by decide +kernel
theorem dX3_onBus_35 : decode cX3_onBus 35 = .ok (.iload_n 1, 1) := by decide +kernel
theorem dX3_onBus_36 : decode cX3_onBus 36 = .ok (.invokevirtual 70, 3) := by decide +kernel
theorem dX3_onBus_39 : decode cX3_onBus 39 = .ok (.ireturn, 1) := by decide +kernel
theorem dX3_asking_0 : decode cX3_asking 0 = .ok (.aload_n 0, 1) := by decide +kernel
theorem dX3_asking_1 : decode cX3_asking 1 = .ok (.dup, 1) := by decide +kernel
theorem dX3_asking_2 : decode cX3_asking 2 = .ok (.getfield 63, 3) := by decide +kernel
theorem dX3_asking_5 : decode cX3_asking 5 = .ok (.iconst 1, 1) := by decide +kernel
theorem dX3_asking_6 : decode cX3_asking 6 = .ok (.iadd, 1) := by decide +kernel
theorem dX3_asking_7 : decode cX3_asking 7 = .ok (.putfield 63, 3) := by decide +kernel
theorem dX3_asking_10 : decode cX3_asking 10 = .ok (.aload_n 0, 1) := by decide +kernel
theorem dX3_asking_11 : decode cX3_asking 11 = .ok (.dup, 1) := by decide +kernel
theorem dX3_asking_12 : decode cX3_asking 12 = .ok (.getfield 91, 3) := by decide +kernel
theorem dX3_asking_15 : decode cX3_asking 15 = .ok (.iconst 1, 1) := by decide +kernel
theorem dX3_asking_16 : decode cX3_asking 16 = .ok (.iadd, 1) := by decide +kernel
theorem dX3_asking_17 : decode cX3_asking 17 = .ok (.putfield 91, 3) := by decide +kernel
theorem dX3_asking_20 : decode cX3_asking 20 = .ok (.iload_n 1, 1) := by decide +kernel
theorem dX3_asking_21 : decode cX3_asking 21 = .ok (.bipush 102, 2) := by decide +kernel
theorem dX3_asking_23 : decode cX3_asking 23 = .ok (.if_icmp .ne 14, 3) := by decide +kernel
theorem dX3_asking_26 : decode cX3_asking 26 = .ok (.aload_n 0, 1) := by decide +kernel
theorem dX3_asking_27 : decode cX3_asking 27 = .ok (.getfield 37, 3) := by decide +kernel
theorem dX3_asking_30 : decode cX3_asking 30 = .ok (.bipush 64, 2) := by decide +kernel
theorem dX3_asking_32 : decode cX3_asking 32 = .ok (.iconst 1, 1) := by decide +kernel
theorem dX3_asking_33 : decode cX3_asking 33 = .ok (.iastore, 1) := by decide +kernel
theorem dX3_asking_34 : decode cX3_asking 34 = .ok (.goto 21, 3) := by decide +kernel
theorem dX3_asking_37 : decode cX3_asking 37 = .ok (.aload_n 0, 1) := by decide +kernel
theorem dX3_asking_38 : decode cX3_asking 38 = .ok (.getfield 34, 3) := by decide +kernel
theorem dX3_asking_41 : decode cX3_asking 41 = .ok (.bipush 64, 2) := by decide +kernel
theorem dX3_asking_43 : decode cX3_asking 43 = .ok (.iload_n 1, 1) := by decide +kernel
theorem dX3_asking_44 : decode cX3_asking 44 = .ok (.bipush 114, 2) := by decide +kernel
theorem dX3_asking_46 : decode cX3_asking 46 = .ok (.if_icmp .ne 7, 3) := by decide +kernel
theorem dX3_asking_49 : decode cX3_asking 49 = .ok (.iconst 1, 1) := by decide +kernel
theorem dX3_asking_50 : decode cX3_asking 50 = .ok (.goto 4, 3) := by decide +kernel
theorem dX3_asking_53 : decode cX3_asking 53 = .ok (.iconst 2, 1) := by decide +kernel
theorem dX3_asking_54 : decode cX3_asking 54 = .ok (.iastore, 1) := by decide +kernel
theorem dX3_asking_55 : decode cX3_asking 55 = .ok (.iconst 1, 1) := by decide +kernel
theorem dX3_asking_56 : decode cX3_asking 56 = .ok (.ireturn, 1) := by decide +kernel
theorem dX3_going_0 : decode cX3_going 0 = .ok (.aload_n 0, 1) := by decide +kernel
theorem dX3_going_1 : decode cX3_going 1 = .ok (.dup, 1) := by decide +kernel
theorem dX3_going_2 : decode cX3_going 2 = .ok (.getfield 63, 3) := by decide +kernel
theorem dX3_going_5 : decode cX3_going 5 = .ok (.iconst 1, 1) := by decide +kernel
theorem dX3_going_6 : decode cX3_going 6 = .ok (.iadd, 1) := by decide +kernel
theorem dX3_going_7 : decode cX3_going 7 = .ok (.putfield 63, 3) := by decide +kernel
theorem dX3_going_10 : decode cX3_going 10 = .ok (.aload_n 0, 1) := by decide +kernel
theorem dX3_going_11 : decode cX3_going 11 = .ok (.dup, 1) := by decide +kernel
theorem dX3_going_12 : decode cX3_going 12 = .ok (.getfield 91, 3) := by decide +kernel
theorem dX3_going_15 : decode cX3_going 15 = .ok (.iconst 1, 1) := by decide +kernel
theorem dX3_going_16 : decode cX3_going 16 = .ok (.iadd, 1) := by decide +kernel
theorem dX3_going_17 : decode cX3_going 17 = .ok (.putfield 91, 3) := by decide +kernel
theorem dX3_going_20 : decode cX3_going 20 = .ok (.aload_n 0, 1) := by decide +kernel
theorem dX3_going_21 : decode cX3_going 21 = .ok (.getfield 40, 3) := by decide +kernel
theorem dX3_going_24 : decode cX3_going 24 = .ok (.bipush 64, 2) := by decide +kernel
theorem dX3_going_26 : decode cX3_going 26 = .ok (.iload_n 1, 1) := by decide +kernel
theorem dX3_going_27 : decode cX3_going 27 = .ok (.bipush 103, 2) := by decide +kernel
theorem dX3_going_29 : decode cX3_going 29 = .ok (.if_icmp .ne 7, 3) := by decide +kernel
theorem dX3_going_32 : decode cX3_going 32 = .ok (.iconst 1, 1) := by decide +kernel
theorem dX3_going_33 : decode cX3_going 33 = .ok (.goto 24, 3) := by decide +kernel
theorem dX3_going_36 : decode cX3_going 36 = .ok (.iload_n 1, 1) := by decide +kernel
theorem dX3_going_37 : decode cX3_going 37 = .ok (.bipush 122, 2) := by decide +kernel
theorem dX3_going_39 : decode cX3_going 39 = .ok (.if_icmp .ne 7, 3) := by decide +kernel
theorem dX3_going_42 : decode cX3_going 42 = .ok (.iconst 2, 1) := by decide +kernel
theorem dX3_going_43 : decode cX3_going 43 = .ok (.goto 14, 3) := by decide +kernel
theorem dX3_going_46 : decode cX3_going 46 = .ok (.iload_n 1, 1) := by decide +kernel
theorem dX3_going_47 : decode cX3_going 47 = .ok (.bipush 110, 2) := by decide +kernel
theorem dX3_going_49 : decode cX3_going 49 = .ok (.if_icmp .ne 7, 3) := by decide +kernel
theorem dX3_going_52 : decode cX3_going 52 = .ok (.iconst 3, 1) := by decide +kernel
theorem dX3_going_53 : decode cX3_going 53 = .ok (.goto 4, 3) := by decide +kernel
theorem dX3_going_56 : decode cX3_going 56 = .ok (.iconst 4, 1) := by decide +kernel
theorem dX3_going_57 : decode cX3_going 57 = .ok (.iastore, 1) := by decide +kernel
theorem dX3_going_58 : decode cX3_going 58 = .ok (.aload_n 0, 1) := by decide +kernel
theorem dX3_going_59 : decode cX3_going 59 = .ok (.getfield 43, 3) := by decide +kernel
theorem dX3_going_62 : decode cX3_going 62 = .ok (.bipush 64, 2) := by decide +kernel
theorem dX3_going_64 : decode cX3_going 64 = .ok (.aload_n 0, 1) := by decide +kernel
theorem dX3_going_65 : decode cX3_going 65 = .ok (.invokevirtual 94, 3) := by decide +kernel
theorem dX3_going_68 : decode cX3_going 68 = .ok (.iastore, 1) := by decide +kernel
theorem dX3_going_69 : decode cX3_going 69 = .ok (.iload_n 1, 1) := by decide +kernel
theorem dX3_going_70 : decode cX3_going 70 = .ok (.bipush 109, 2) := by decide +kernel
theorem dX3_going_72 : decode cX3_going 72 = .ok (.if_icmp .ne 5, 3) := by decide +kernel
theorem dX3_going_75 : decode cX3_going 75 = .ok (.iconst 1, 1) := by decide +kernel
theorem dX3_going_76 : decode cX3_going 76 = .ok (.ireturn, 1) := by decide +kernel
theorem dX3_going_77 : decode cX3_going 77 = .ok (.aload_n 0, 1) := by decide +kernel
theorem dX3_going_78 : decode cX3_going 78 = .ok (.getfield 43, 3) := by decide +kernel
theorem dX3_going_81 : decode cX3_going 81 = .ok (.bipush 64, 2) := by decide +kernel
theorem dX3_going_83 : decode cX3_going 83 = .ok (.iaload, 1) := by decide +kernel
theorem dX3_going_84 : decode cX3_going 84 = .ok (.ifCond .ge 5, 3) := by decide +kernel
theorem dX3_going_87 : decode cX3_going 87 = .ok (.iconst 0, 1) := by decide +kernel
theorem dX3_going_88 : decode cX3_going 88 = .ok (.ireturn, 1) := by decide +kernel
theorem dX3_going_89 : decode cX3_going 89 = .ok (.iload_n 1, 1) := by decide +kernel
theorem dX3_going_90 : decode cX3_going 90 = .ok (.bipush 103, 2) := by decide +kernel
theorem dX3_going_92 : decode cX3_going 92 = .ok (.if_icmp .ne 5, 3) := by decide +kernel
theorem dX3_going_95 : decode cX3_going 95 = .ok (.iconst 1, 1) := by decide +kernel
theorem dX3_going_96 : decode cX3_going 96 = .ok (.ireturn, 1) := by decide +kernel
theorem dX3_going_97 : decode cX3_going 97 = .ok (.aload_n 0, 1) := by decide +kernel
theorem dX3_going_98 : decode cX3_going 98 = .ok (.bipush 44, 2) := by decide +kernel
theorem dX3_going_100 : decode cX3_going 100 = .ok (.invokevirtual 77, 3) := by decide +kernel
theorem dX3_going_103 : decode cX3_going 103 = .ok (.ifCond .ne 5, 3) := by decide +kernel
theorem dX3_going_106 : decode cX3_going 106 = .ok (.iconst 0, 1) := by decide +kernel
theorem dX3_going_107 : decode cX3_going 107 = .ok (.ireturn, 1) := by decide +kernel
theorem dX3_going_108 : decode cX3_going 108 = .ok (.aload_n 0, 1) := by decide +kernel
theorem dX3_going_109 : decode cX3_going 109 = .ok (.getfield 46, 3) := by decide +kernel
theorem dX3_going_112 : decode cX3_going 112 = .ok (.bipush 64, 2) := by decide +kernel
theorem dX3_going_114 : decode cX3_going 114 = .ok (.aload_n 0, 1) := by decide +kernel
theorem dX3_going_115 : decode cX3_going 115 = .ok (.invokevirtual 94, 3) := by decide +kernel
theorem dX3_going_118 : decode cX3_going 118 = .ok (.iastore, 1) := by decide +kernel
theorem dX3_going_119 : decode cX3_going 119 = .ok (.aload_n 0, 1) := by decide +kernel
theorem dX3_going_120 : decode cX3_going 120 = .ok (.getfield 46, 3) := by decide +kernel
theorem dX3_going_123 : decode cX3_going 123 = .ok (.bipush 64, 2) := by decide +kernel
theorem dX3_going_125 : decode cX3_going 125 = .ok (.iaload, 1) := by decide +kernel
theorem dX3_going_126 : decode cX3_going 126 = .ok (.ifCond .lt 7, 3) := by decide +kernel
theorem dX3_going_129 : decode cX3_going 129 = .ok (.iconst 1, 1) := by decide +kernel
theorem dX3_going_130 : decode cX3_going 130 = .ok (.goto 4, 3) := by decide +kernel
theorem dX3_going_133 : decode cX3_going 133 = .ok (.iconst 0, 1) := by decide +kernel
theorem dX3_going_134 : decode cX3_going 134 = .ok (.ireturn, 1) := by decide +kernel
