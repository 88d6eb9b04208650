theorem dX1_init_0 : decode cX1_init 0 = .ok (.aload_n 0, 1) := by decide +kernel
theorem dX1_init_1 : decode cX1_init 1 = .ok (.invokespecial 3, 3) := by decide +kernel
theorem dX1_init_4 : decode cX1_init 4 = .ok (.aload_n 0, 1) := by decide +kernel
theorem dX1_init_5 : decode cX1_init 5 = .ok (.bipush 40, 2) := by decide +kernel
theorem dX1_init_7 : decode cX1_init 7 = .ok (.newarray .char, 2) := by decide +kernel
theorem dX1_init_9 : decode cX1_init 9 = .ok (.putfield 9, 3) := by decide +kernel
theorem dX1_init_12 : decode cX1_init 12 = .ok (.aload_n 0, 1) := by decide +kernel
theorem dX1_init_13 : decode cX1_init 13 = .ok (.new 15, 3) := by decide +kernel
theorem dX1_init_16 : decode cX1_init 16 = .ok (.dup, 1) := by decide +kernel
theorem dX1_init_17 : decode cX1_init 17 = .ok (.invokespecial 17, 3) := by decide +kernel
theorem dX1_init_20 : decode cX1_init 20 = .ok (.putfield 18, 3) := by decide +kernel
theorem dX1_init_23 : decode cX1_init 23 = .ok (.return_, 1) := by decide +kernel
theorem dX0_init_0 : decode cX0_init 0 = .ok (.aload_n 0, 1) := by decide +kernel
theorem dX0_init_1 : decode cX0_init 1 = .ok (.invokespecial 3, 3) := by decide +kernel
theorem dX0_init_4 : decode cX0_init 4 = .ok (.aload_n 0, 1) := by decide +kernel
theorem dX0_init_5 : decode cX0_init 5 = .ok (.iconst 0, 1) := by decide +kernel
theorem dX0_init_6 : decode cX0_init 6 = .ok (.putfield 9, 3) := by decide +kernel
theorem dX0_init_9 : decode cX0_init 9 = .ok (.aload_n 0, 1) := by decide +kernel
theorem dX0_init_10 : decode cX0_init 10 = .ok (.iconst (-1), 1) := by decide +kernel
theorem dX0_init_11 : decode cX0_init 11 = .ok (.putfield 15, 3) := by decide +kernel
theorem dX0_init_14 : decode cX0_init 14 = .ok (.aload_n 0, 1) := by decide +kernel
theorem dX0_init_15 : decode cX0_init 15 = .ok (.iconst (-1), 1) := by decide +kernel
theorem dX0_init_16 : decode cX0_init 16 = .ok (.putfield 18, 3) := by decide +kernel
theorem dX0_init_19 : decode cX0_init 19 = .ok (.return_, 1) := by decide +kernel
theorem dX1_add_0 : decode cX1_add 0 = .ok (.aload_n 0, 1) := by decide +kernel
theorem dX1_add_1 : decode cX1_add 1 = .ok (.getfield 22, 3) := by decide +kernel
theorem dX1_add_4 : decode cX1_add 4 = .ok (.bipush 40, 2) := by decide +kernel
theorem dX1_add_6 : decode cX1_add 6 = .ok (.if_icmp .ge 23, 3) := by decide +kernel
theorem dX1_add_9 : decode cX1_add 9 = .ok (.aload_n 0, 1) := by decide +kernel
theorem dX1_add_10 : decode cX1_add 10 = .ok (.getfield 9, 3) := by decide +kernel
theorem dX1_add_13 : decode cX1_add 13 = .ok (.aload_n 0, 1) := by decide +kernel
theorem dX1_add_14 : decode cX1_add 14 = .ok (.getfield 22, 3) := by decide +kernel
theorem dX1_add_17 : decode cX1_add 17 = .ok (.iload_n 1, 1) := by decide +kernel
theorem dX1_add_18 : decode cX1_add 18 = .ok (.castore, 1) := by decide +kernel
theorem dX1_add_19 : decode cX1_add 19 = .ok (.aload_n 0, 1) := by decide +kernel
theorem dX1_add_20 : decode cX1_add 20 = .ok (.dup, 1) := by decide +kernel
theorem dX1_add_21 : decode cX1_add 21 = .ok (.getfield 22, 3) := by decide +kernel
theorem dX1_add_24 : decode cX1_add 24 = .ok (.iconst 1, 1) := by decide +kernel
theorem dX1_add_25 : decode cX1_add 25 = .ok (.iadd, 1) := by decide +kernel
theorem dX1_add_26 : decode cX1_add 26 = .ok (.putfield 22, 3) := by decide +kernel
theorem dX1_add_29 : decode cX1_add 29 = .ok (.return_, 1) := by decide +kernel
theorem dX1_read_0 : decode cX1_read 0 = .ok (.aload_n 0, 1) := by decide +kernel
theorem dX1_read_1 : decode cX1_read 1 = .ok (.iconst 0, 1) := by decide +kernel
theorem dX1_read_2 : decode cX1_read 2 = .ok (.putfield 26, 3) := by decide +kernel
theorem dX1_read_5 : decode cX1_read 5 = .ok (.aload_n 0, 1) := by decide +kernel
theorem dX1_read_6 : decode cX1_read 6 = .ok (.new 15, 3) := by decide +kernel
theorem dX1_read_9 : decode cX1_read 9 = .ok (.dup, 1) := by decide +kernel
theorem dX1_read_10 : decode cX1_read 10 = .ok (.invokespecial 17, 3) := by decide +kernel
theorem dX1_read_13 : decode cX1_read 13 = .ok (.putfield 18, 3) := by decide +kernel
theorem dX1_read_16 : decode cX1_read 16 = .ok (.iconst 0, 1) := by decide +kernel
theorem dX1_read_17 : decode cX1_read 17 = .ok (.istore_n 1, 1) := by decide +kernel
theorem dX1_read_18 : decode cX1_read 18 = .ok (.iload_n 1, 1) := by decide +kernel
theorem dX1_read_19 : decode cX1_read 19 = .ok (.iconst 3, 1) := by decide +kernel
theorem dX1_read_20 : decode cX1_read 20 = .ok (.if_icmp .gt 77, 3) := by decide +kernel
theorem dX1_read_23 : decode cX1_read 23 = .ok (.aload_n 0, 1) := by decide +kernel
theorem dX1_read_24 : decode cX1_read 24 = .ok (.getfield 26, 3) := by decide +kernel
theorem dX1_read_27 : decode cX1_read 27 = .ok (.istore_n 2, 1) := by decide +kernel
theorem dX1_read_28 : decode cX1_read 28 = .ok (.aload_n 0, 1) := by decide +kernel
theorem dX1_read_29 : decode cX1_read 29 = .ok (.iload_n 1, 1) := by decide +kernel
theorem dX1_read_30 : decode cX1_read 30 = .ok (.invokevirtual 29, 3) := by decide +kernel
theorem dX1_read_33 : decode cX1_read 33 = .ok (.ifCond .ne 5, 3) := by decide +kernel
theorem dX1_read_36 : decode cX1_read 36 = .ok (.aconst_null, 1) := by decide +kernel
theorem dX1_read_37 : decode cX1_read 37 = .ok (.areturn, 1) := by decide +kernel
theorem dX1_read_38 : decode cX1_read 38 = .ok (.aload_n 0, 1) := by decide +kernel
theorem dX1_read_39 : decode cX1_read 39 = .ok (.getfield 26, 3) := by decide +kernel
theorem dX1_read_42 : decode cX1_read 42 = .ok (.iload_n 2, 1) := by decide +kernel
theorem dX1_read_43 : decode cX1_read 43 = .ok (.if_icmp .le 48, 3) := by decide +kernel
theorem dX1_read_46 : decode cX1_read 46 = .ok (.aload_n 0, 1) := by decide +kernel
theorem dX1_read_47 : decode cX1_read 47 = .ok (.getfield 18, 3) := by decide +kernel
theorem dX1_read_50 : decode cX1_read 50 = .ok (.dup, 1) := by decide +kernel
theorem dX1_read_51 : decode cX1_read 51 = .ok (.getfield 33, 3) := by decide +kernel
theorem dX1_read_54 : decode cX1_read 54 = .ok (.iconst 1, 1) := by decide +kernel
theorem dX1_read_55 : decode cX1_read 55 = .ok (.iadd, 1) := by decide +kernel
theorem dX1_read_56 : decode cX1_read 56 = .ok (.putfield 33, 3) := by decide +kernel
theorem dX1_read_59 : decode cX1_read 59 = .ok (.aload_n 0, 1) := by decide +kernel
theorem dX1_read_60 : decode cX1_read 60 = .ok (.getfield 26, 3) := by decide +kernel
theorem dX1_read_63 : decode cX1_read 63 = .ok (.aload_n 0, 1) := by decide +kernel
theorem dX1_read_64 : decode cX1_read 64 = .ok (.getfield 22, 3) := by decide +kernel
theorem dX1_read_67 : decode cX1_read 67 = .ok (.if_icmp .ne 8, 3) := by decide +kernel
theorem dX1_read_70 : decode cX1_read 70 = .ok (.aload_n 0, 1) := by decide +kernel
theorem dX1_read_71 : decode cX1_read 71 = .ok (.getfield 18, 3) := by decide +kernel
theorem dX1_read_74 : decode cX1_read 74 = .ok (.areturn, 1) := by decide +kernel
theorem dX1_read_75 : decode cX1_read 75 = .ok (.iload_n 1, 1) := by decide +kernel
theorem dX1_read_76 : decode cX1_read 76 = .ok (.iconst 3, 1) := by decide +kernel
theorem dX1_read_77 : decode cX1_read 77 = .ok (.if_icmp .eq 12, 3) := by decide +kernel
theorem dX1_read_80 : decode cX1_read 80 = .ok (.aload_n 0, 1) := by decide +kernel
theorem dX1_read_81 : decode cX1_read 81 = .ok (.bipush 59, 2) := by decide +kernel
theorem dX1_read_83 : decode cX1_read 83 = .ok (.invokevirtual 36, 3) := by decide +kernel
theorem dX1_read_86 : decode cX1_read 86 = .ok (.ifCond .ne 5, 3) := by decide +kernel
theorem dX1_read_89 : decode cX1_read 89 = .ok (.aconst_null, 1) := by decide +kernel
theorem dX1_read_90 : decode cX1_read 90 = .ok (.areturn, 1) := by decide +kernel
theorem dX1_read_91 : decode cX1_read 91 = .ok (.iinc 1 1, 3) := by decide +kernel
theorem dX1_read_94 : decode cX1_read 94 = .ok (.goto (-76), 3) := by decide +kernel
theorem dX1_read_97 : decode cX1_read 97 = .ok (.aconst_null, 1) := by decide +kernel
theorem dX1_read_98 : decode cX1_read 98 = .ok (.areturn, 1) := by decide +kernel
theorem dX1_readIfThere_0 : decode cX1_readIfThere 0 = .ok (.iload_n 1, 1) := by decide +kernel
theorem dX1_readIfThere_1 : decode cX1_readIfThere 1 = .ok (.tableswitch 83 0 2 #[27, 32, 47], 27) := by decide +kernel
theorem dX1_readIfThere_28 : decode cX1_readIfThere 28 = .ok (.aload_n 0, 1) := by decide +kernel
theorem dX1_readIfThere_29 : decode cX1_readIfThere 29 = .ok (.invokevirtual 40, 3) := by decide +kernel
theorem dX1_readIfThere_32 : decode cX1_readIfThere 32 = .ok (.ireturn, 1) := by decide +kernel
theorem dX1_readIfThere_33 : decode cX1_readIfThere 33 = .ok (.aload_n 0, 1) := by decide +kernel
theorem dX1_readIfThere_34 : decode cX1_readIfThere 34 = .ok (.getfield 18, 3) := by decide +kernel
theorem dX1_readIfThere_37 : decode cX1_readIfThere 37 = .ok (.aload_n 0, 1) := by decide +kernel
theorem dX1_readIfThere_38 : decode cX1_readIfThere 38 = .ok (.bipush 102, 2) := by decide +kernel
theorem dX1_readIfThere_40 : decode cX1_readIfThere 40 = .ok (.invokevirtual 36, 3) := by decide +kernel
theorem dX1_readIfThere_43 : decode cX1_readIfThere 43 = .ok (.putfield 44, 3) := by decide +kernel
theorem dX1_readIfThere_46 : decode cX1_readIfThere 46 = .ok (.iconst 1, 1) := by decide +kernel
theorem dX1_readIfThere_47 : decode cX1_readIfThere 47 = .ok (.ireturn, 1) := by decide +kernel
theorem dX1_readIfThere_48 : decode cX1_readIfThere 48 = .ok (.aload_n 0, 1) := by decide +kernel
theorem dX1_readIfThere_49 : decode cX1_readIfThere 49 = .ok (.getfield 18, 3) := by decide +kernel
theorem dX1_readIfThere_52 : decode cX1_readIfThere 52 = .ok (.aload_n 0, 1) := by decide +kernel
theorem dX1_readIfThere_53 : decode cX1_readIfThere 53 = .ok (.bipush 114, 2) := by decide +kernel
theorem dX1_readIfThere_55 : decode cX1_readIfThere 55 = .ok (.invokevirtual 36, 3) := by decide +kernel
theorem dX1_readIfThere_58 : decode cX1_readIfThere 58 = .ok (.ifCond .eq 7, 3) := by decide +kernel
theorem dX1_readIfThere_61 : decode cX1_readIfThere 61 = .ok (.iconst 1, 1) := by decide +kernel
theorem dX1_readIfThere_62 : decode cX1_readIfThere 62 = .ok (.goto 17, 3) := by decide +kernel
theorem dX1_readIfThere_65 : decode cX1_readIfThere 65 = .ok (.aload_n 0, 1) := by decide +kernel
theorem dX1_readIfThere_66 : decode cX1_readIfThere 66 = .ok (.bipush 119, 2) := by decide +kernel
theorem dX1_readIfThere_68 : decode cX1_readIfThere 68 = .ok (.invokevirtual 36, 3) := by decide +kernel
theorem dX1_readIfThere_71 : decode cX1_readIfThere 71 = .ok (.ifCond .eq 7, 3) := by decide +kernel
theorem dX1_readIfThere_74 : decode cX1_readIfThere 74 = .ok (.iconst 2, 1) := by decide +kernel
theorem dX1_readIfThere_75 : decode cX1_readIfThere 75 = .ok (.goto 4, 3) := by decide +kernel
theorem dX1_readIfThere_78 : decode cX1_readIfThere 78 = .ok (.iconst 0, 1) := by decide +kernel
theorem dX1_readIfThere_79 : decode cX1_readIfThere 79 = .ok (.putfield 48, 3) := by decide +kernel
theorem dX1_readIfThere_82 : decode cX1_readIfThere 82 = .ok (.iconst 1, 1) := by decide +kernel
theorem dX1_readIfThere_83 : decode cX1_readIfThere 83 = .ok (.ireturn, 1) := by decide +kernel
theorem dX1_readIfThere_84 : decode cX1_readIfThere 84 = .ok (.aload_n 0, 1) := by decide +kernel
theorem dX1_readIfThere_85 : decode cX1_readIfThere 85 = .ok (.invokevirtual 51, 3) := by decide +kernel
theorem dX1_readIfThere_88 : decode cX1_readIfThere 88 = .ok (.ireturn, 1) := by decide +kernel
theorem dX1_readSetting_0 : decode cX1_readSetting 0 = .ok (.iconst 0, 1) := by decide +kernel
theorem dX1_readSetting_1 : decode cX1_readSetting 1 = .ok (.istore_n 1, 1) := by decide +kernel
theorem dX1_readSetting_2 : decode cX1_readSetting 2 = .ok (.iload_n 1, 1) := by decide +kernel
theorem dX1_readSetting_3 : decode cX1_readSetting 3 = .ok (.iconst 4, 1) := by decide +kernel
theorem dX1_readSetting_4 : decode cX1_readSetting 4 = .ok (.if_icmp .ge 65, 3) := by decide +kernel
theorem dX1_readSetting_7 : decode cX1_readSetting 7 = .ok (.aload_n 0, 1) := by decide +kernel
theorem dX1_readSetting_8 : decode cX1_readSetting 8 = .ok (.invokevirtual 54, 3) := by decide +kernel
theorem dX1_readSetting_11 : decode cX1_readSetting 11 = .ok (.ifCond .eq 58, 3) := by decide +kernel
theorem dX1_readSetting_14 : decode cX1_readSetting 14 = .ok (.aload_n 0, 1) := by decide +kernel
theorem dX1_readSetting_15 : decode cX1_readSetting 15 = .ok (.getfield 18, 3) := by decide +kernel
theorem dX1_readSetting_18 : decode cX1_readSetting 18 = .ok (.dup, 1) := by decide +kernel
theorem dX1_readSetting_19 : decode cX1_readSetting 19 = .ok (.getfield 57, 3) := by decide +kernel
theorem dX1_readSetting_22 : decode cX1_readSetting 22 = .ok (.iconst 1, 1) := by decide +kernel
theorem dX1_readSetting_23 : decode cX1_readSetting 23 = .ok (.ldc 60, 2) := by decide +kernel
theorem dX1_readSetting_25 : decode cX1_readSetting 25 = .ok (.aload_n 0, 1) := by decide +kernel
theorem dX1_readSetting_26 : decode cX1_readSetting 26 = .ok (.getfield 9, 3) := by decide +kernel
theorem dX1_readSetting_29 : decode cX1_readSetting 29 = .ok (.aload_n 0, 1) := by decide +kernel
theorem dX1_readSetting_30 : decode cX1_readSetting 30 = .ok (.getfield 26, 3) := by decide +kernel
theorem dX1_readSetting_33 : decode cX1_readSetting 33 = .ok (.caload, 1) := by decide +kernel
theorem dX1_readSetting_34 : decode cX1_readSetting 34 = .ok (.invokevirtual 62, 3) := by decide +kernel
theorem dX1_readSetting_37 : decode cX1_readSetting 37 = .ok (.ishl, 1) := by decide +kernel
theorem dX1_readSetting_38 : decode cX1_readSetting 38 = .ok (.ior, 1) := by decide +kernel
theorem dX1_readSetting_39 : decode cX1_readSetting 39 = .ok (.putfield 57, 3) := by decide +kernel
theorem dX1_readSetting_42 : decode cX1_readSetting 42 = .ok (.aload_n 0, 1) := by decide +kernel
theorem dX1_readSetting_43 : decode cX1_readSetting 43 = .ok (.dup, 1) := by decide +kernel
theorem dX1_readSetting_44 : decode cX1_readSetting 44 = .ok (.getfield 26, 3) := by decide +kernel
theorem dX1_readSetting_47 : decode cX1_readSetting 47 = .ok (.iconst 1, 1) := by decide +kernel
theorem dX1_readSetting_48 : decode cX1_readSetting 48 = .ok (.iadd, 1) := by decide +kernel
theorem dX1_readSetting_49 : decode cX1_readSetting 49 = .ok (.putfield 26, 3) := by decide +kernel
theorem dX1_readSetting_52 : decode cX1_readSetting 52 = .ok (.aload_n 0, 1) := by decide +kernel
theorem dX1_readSetting_53 : decode cX1_readSetting 53 = .ok (.bipush 61, 2) := by decide +kernel
theorem dX1_readSetting_55 : decode cX1_readSetting 55 = .ok (.invokevirtual 36, 3) := by decide +kernel
theorem dX1_readSetting_58 : decode cX1_readSetting 58 = .ok (.ifCond .ne 5, 3) := by decide +kernel
theorem dX1_readSetting_61 : decode cX1_readSetting 61 = .ok (.iconst 0, 1) := by decide +kernel
theorem dX1_readSetting_62 : decode cX1_readSetting 62 = .ok (.ireturn, 1) := by decide +kernel
theorem dX1_readSetting_63 : decode cX1_readSetting 63 = .ok (.iinc 1 1, 3) := by decide +kernel
theorem dX1_readSetting_66 : decode cX1_readSetting 66 = .ok (.goto (-64), 3) := by decide +kernel
theorem dX1_readSetting_69 : decode cX1_readSetting 69 = .ok (.aload_n 0, 1) := by decide +kernel
theorem dX1_readSetting_70 : decode cX1_readSetting 70 = .ok (.getfield 18, 3) := by decide +kernel
theorem dX1_readSetting_73 : decode cX1_readSetting 73 = .ok (.getfield 57, 3) := by decide +kernel
theorem dX1_readSetting_76 : decode cX1_readSetting 76 = .ok (.ifCond .ne 5, 3) := by decide +kernel
theorem dX1_readSetting_79 : decode cX1_readSetting 79 = .ok (.iconst 1, 1) := by decide +kernel
theorem dX1_readSetting_80 : decode cX1_readSetting 80 = .ok (.ireturn, 1) := by decide +kernel
theorem dX1_readSetting_81 : decode cX1_readSetting 81 = .ok (.aload_n 0, 1) := by decide +kernel
theorem dX1_readSetting_82 : decode cX1_readSetting 82 = .ok (.invokevirtual 68, 3) := by decide +kernel
theorem dX1_readSetting_85 : decode cX1_readSetting 85 = .ok (.ifCond .ne 5, 3) := by decide +kernel
theorem dX1_readSetting_88 : decode cX1_readSetting 88 = .ok (.iconst 0, 1) := by decide +kernel
theorem dX1_readSetting_89 : decode cX1_readSetting 89 = .ok (.ireturn, 1) := by decide +kernel
theorem dX1_readSetting_90 : decode cX1_readSetting 90 = .ok (.aload_n 0, 1) := by decide +kernel
theorem dX1_readSetting_91 : decode cX1_readSetting 91 = .ok (.getfield 18, 3) := by decide +kernel
theorem dX1_readSetting_94 : decode cX1_readSetting 94 = .ok (.aload_n 0, 1) := by decide +kernel
theorem dX1_readSetting_95 : decode cX1_readSetting 95 = .ok (.bipush 60, 2) := by decide +kernel
theorem dX1_readSetting_97 : decode cX1_readSetting 97 = .ok (.invokevirtual 36, 3) := by decide +kernel
theorem dX1_readSetting_100 : decode cX1_readSetting 100 = .ok (.ifCond .eq 7, 3) := by decide +kernel
theorem dX1_readSetting_103 : decode cX1_readSetting 103 = .ok (.iconst 1, 1) := by decide +kernel
theorem dX1_readSetting_104 : decode cX1_readSetting 104 = .ok (.goto 17, 3) := by decide +kernel
theorem dX1_readSetting_107 : decode cX1_readSetting 107 = .ok (.aload_n 0, 1) := by decide +kernel
theorem dX1_readSetting_108 : decode cX1_readSetting 108 = .ok (.bipush 62, 2) := by decide +kernel
theorem dX1_readSetting_110 : decode cX1_readSetting 110 = .ok (.invokevirtual 36, 3) := by decide +kernel
theorem dX1_readSetting_113 : decode cX1_readSetting 113 = .ok (.ifCond .eq 7, 3) := by decide +kernel
theorem dX1_readSetting_116 : decode cX1_readSetting 116 = .ok (.iconst 2, 1) := by decide +kernel
theorem dX1_readSetting_117 : decode cX1_readSetting 117 = .ok (.goto 4, 3) := by decide +kernel
theorem dX1_readSetting_120 : decode cX1_readSetting 120 = .ok (.iconst 0, 1) := by decide +kernel
theorem dX1_readSetting_121 : decode cX1_readSetting 121 = .ok (.putfield 71, 3) := by decide +kernel
theorem dX1_readSetting_124 : decode cX1_readSetting 124 = .ok (.iconst 1, 1) := by decide +kernel
theorem dX1_readSetting_125 : decode cX1_readSetting 125 = .ok (.ireturn, 1) := by decide +kernel
theorem dX1_isAtTarget_0 : decode cX1_isAtTarget 0 = .ok (.aload_n 0, 1) := by decide +kernel
theorem dX1_isAtTarget_1 : decode cX1_isAtTarget 1 = .ok (.getfield 26, 3) := by decide +kernel
theorem dX1_isAtTarget_4 : decode cX1_isAtTarget 4 = .ok (.aload_n 0, 1) := by decide +kernel
theorem dX1_isAtTarget_5 : decode cX1_isAtTarget 5 = .ok (.getfield 22, 3) := by decide +kernel
theorem dX1_isAtTarget_8 : decode cX1_isAtTarget 8 = .ok (.if_icmp .ge 20, 3) := by decide +kernel
theorem dX1_isAtTarget_11 : decode cX1_isAtTarget 11 = .ok (.ldc 60, 2) := by decide +kernel
theorem dX1_isAtTarget_13 : decode cX1_isAtTarget 13 = .ok (.aload_n 0, 1) := by decide +kernel
theorem dX1_isAtTarget_14 : decode cX1_isAtTarget 14 = .ok (.getfield 9, 3) := by decide +kernel
theorem dX1_isAtTarget_17 : decode cX1_isAtTarget 17 = .ok (.aload_n 0, 1) := by decide +kernel
theorem dX1_isAtTarget_18 : decode cX1_isAtTarget 18 = .ok (.getfield 26, 3) := by decide +kernel
theorem dX1_isAtTarget_21 : decode cX1_isAtTarget 21 = .ok (.caload, 1) := by decide +kernel
theorem dX1_isAtTarget_22 : decode cX1_isAtTarget 22 = .ok (.invokevirtual 62, 3) := by decide +kernel
theorem dX1_isAtTarget_25 : decode cX1_isAtTarget 25 = .ok (.goto 4, 3) := by decide +kernel
theorem dX1_isAtTarget_28 : decode cX1_isAtTarget 28 = .ok (.iconst (-1), 1) := by decide +kernel
theorem dX1_isAtTarget_29 : decode cX1_isAtTarget 29 = .ok (.istore_n 1, 1) := by decide +kernel
theorem dX1_isAtTarget_30 : decode cX1_isAtTarget 30 = .ok (.iload_n 1, 1) := by decide +kernel
theorem dX1_isAtTarget_31 : decode cX1_isAtTarget 31 = .ok (.ifCond .lt 20, 3) := by decide +kernel
theorem dX1_isAtTarget_34 : decode cX1_isAtTarget 34 = .ok (.iload_n 1, 1) := by decide +kernel
theorem dX1_isAtTarget_35 : decode cX1_isAtTarget 35 = .ok (.bipush 8, 2) := by decide +kernel
theorem dX1_isAtTarget_37 : decode cX1_isAtTarget 37 = .ok (.if_icmp .gt 14, 3) := by decide +kernel
theorem dX1_isAtTarget_40 : decode cX1_isAtTarget 40 = .ok (.aload_n 0, 1) := by decide +kernel
theorem dX1_isAtTarget_41 : decode cX1_isAtTarget 41 = .ok (.getfield 18, 3) := by decide +kernel
theorem dX1_isAtTarget_44 : decode cX1_isAtTarget 44 = .ok (.iload_n 1, 1) := by decide +kernel
theorem dX1_isAtTarget_45 : decode cX1_isAtTarget 45 = .ok (.invokevirtual 74, 3) := by decide +kernel
theorem dX1_isAtTarget_48 : decode cX1_isAtTarget 48 = .ok (.ifCond .eq 5, 3) := by decide +kernel
theorem dX1_isAtTarget_51 : decode cX1_isAtTarget 51 = .ok (.iconst 0, 1) := by decide +kernel
theorem dX1_isAtTarget_52 : decode cX1_isAtTarget 52 = .ok (.ireturn, 1) := by decide +kernel
theorem dX1_isAtTarget_53 : decode cX1_isAtTarget 53 = .ok (.aload_n 0, 1) := by decide +kernel
theorem dX1_isAtTarget_54 : decode cX1_isAtTarget 54 = .ok (.getfield 18, 3) := by decide +kernel
theorem dX1_isAtTarget_57 : decode cX1_isAtTarget 57 = .ok (.getfield 57, 3) := by decide +kernel
theorem dX1_isAtTarget_60 : decode cX1_isAtTarget 60 = .ok (.ifCond .eq 7, 3) := by decide +kernel
theorem dX1_isAtTarget_63 : decode cX1_isAtTarget 63 = .ok (.iload_n 1, 1) := by decide +kernel
theorem dX1_isAtTarget_64 : decode cX1_isAtTarget 64 = .ok (.ifCond .ne 7, 3) := by decide +kernel
theorem dX1_isAtTarget_67 : decode cX1_isAtTarget 67 = .ok (.iconst 1, 1) := by decide +kernel
theorem dX1_isAtTarget_68 : decode cX1_isAtTarget 68 = .ok (.goto 4, 3) := by decide +kernel
theorem dX1_isAtTarget_71 : decode cX1_isAtTarget 71 = .ok (.iconst 0, 1) := by decide +kernel
theorem dX1_isAtTarget_72 : decode cX1_isAtTarget 72 = .ok (.istore_n 2, 1) := by decide +kernel
theorem dX1_isAtTarget_73 : decode cX1_isAtTarget 73 = .ok (.iload_n 2, 1) := by decide +kernel
theorem dX1_isAtTarget_74 : decode cX1_isAtTarget 74 = .ok (.ifCond .ne 32, 3) := by decide +kernel
theorem dX1_isAtTarget_77 : decode cX1_isAtTarget 77 = .ok (.aload_n 0, 1) := by decide +kernel
theorem dX1_isAtTarget_78 : decode cX1_isAtTarget 78 = .ok (.getfield 26, 3) := by decide +kernel
theorem dX1_isAtTarget_81 : decode cX1_isAtTarget 81 = .ok (.iconst 1, 1) := by decide +kernel
theorem dX1_isAtTarget_82 : decode cX1_isAtTarget 82 = .ok (.iadd, 1) := by decide +kernel
theorem dX1_isAtTarget_83 : decode cX1_isAtTarget 83 = .ok (.aload_n 0, 1) := by decide +kernel
theorem dX1_isAtTarget_84 : decode cX1_isAtTarget 84 = .ok (.getfield 22, 3) := by decide +kernel
theorem dX1_isAtTarget_87 : decode cX1_isAtTarget 87 = .ok (.if_icmp .ge 23, 3) := by decide +kernel
theorem dX1_isAtTarget_90 : decode cX1_isAtTarget 90 = .ok (.aload_n 0, 1) := by decide +kernel
theorem dX1_isAtTarget_91 : decode cX1_isAtTarget 91 = .ok (.getfield 9, 3) := by decide +kernel
theorem dX1_isAtTarget_94 : decode cX1_isAtTarget 94 = .ok (.aload_n 0, 1) := by decide +kernel
theorem dX1_isAtTarget_95 : decode cX1_isAtTarget 95 = .ok (.getfield 26, 3) := by decide +kernel
theorem dX1_isAtTarget_98 : decode cX1_isAtTarget 98 = .ok (.iconst 1, 1) := by decide +kernel
theorem dX1_isAtTarget_99 : decode cX1_isAtTarget 99 = .ok (.iadd, 1) := by decide +kernel
theorem dX1_isAtTarget_100 : decode cX1_isAtTarget 100 = .ok (.caload, 1) := by decide +kernel
theorem dX1_isAtTarget_101 : decode cX1_isAtTarget 101 = .ok (.bipush 61, 2) := by decide +kernel
theorem dX1_isAtTarget_103 : decode cX1_isAtTarget 103 = .ok (.if_icmp .ne 7, 3) := by decide +kernel
theorem dX1_isAtTarget_106 : decode cX1_isAtTarget 106 = .ok (.iconst 1, 1) := by decide +kernel
theorem dX1_isAtTarget_107 : decode cX1_isAtTarget 107 = .ok (.goto 4, 3) := by decide +kernel
theorem dX1_isAtTarget_110 : decode cX1_isAtTarget 110 = .ok (.iconst 0, 1) := by decide +kernel
theorem dX1_isAtTarget_111 : decode cX1_isAtTarget 111 = .ok (.ireturn, 1) := by decide +kernel
theorem dX0_sets_0 : decode cX0_sets 0 = .ok (.aload_n 0, 1) := by decide +kernel
theorem dX0_sets_1 : decode cX0_sets 1 = .ok (.getfield 21, 3) := by decide +kernel
theorem dX0_sets_4 : decode cX0_sets 4 = .ok (.iload_n 1, 1) := by decide +kernel
theorem dX0_sets_5 : decode cX0_sets 5 = .ok (.ishr, 1) := by decide +kernel
theorem dX0_sets_6 : decode cX0_sets 6 = .ok (.iconst 1, 1) := by decide +kernel
theorem dX0_sets_7 : decode cX0_sets 7 = .ok (.iand, 1) := by decide +kernel
theorem dX0_sets_8 : decode cX0_sets 8 = .ok (.ifCond .eq 7, 3) := by decide +kernel
theorem dX0_sets_11 : decode cX0_sets 11 = .ok (.iconst 1, 1) := by decide +kernel
theorem dX0_sets_12 : decode cX0_sets 12 = .ok (.goto 4, 3) := by decide +kernel
theorem dX0_sets_15 : decode cX0_sets 15 = .ok (.iconst 0, 1) := by decide +kernel
theorem dX0_sets_16 : decode cX0_sets 16 = .ok (.ireturn, 1) := by decide +kernel
theorem dX1_take_0 : decode cX1_take 0 = .ok (.aload_n 0, 1) := by decide +kernel
theorem dX1_take_1 : decode cX1_take 1 = .ok (.getfield 26, 3) := by decide +kernel
theorem dX1_take_4 : decode cX1_take 4 = .ok (.aload_n 0, 1) := by decide +kernel
theorem dX1_take_5 : decode cX1_take 5 = .ok (.getfield 22, 3) := by decide +kernel
theorem dX1_take_8 : decode cX1_take 8 = .ok (.if_icmp .ge 16, 3) := by decide +kernel
theorem dX1_take_11 : decode cX1_take 11 = .ok (.aload_n 0, 1) := by decide +kernel
theorem dX1_take_12 : decode cX1_take 12 = .ok (.getfield 9, 3) := by decide +kernel
theorem dX1_take_15 : decode cX1_take 15 = .ok (.aload_n 0, 1) := by decide +kernel
theorem dX1_take_16 : decode cX1_take 16 = .ok (.getfield 26, 3) := by decide +kernel
theorem dX1_take_19 : decode cX1_take 19 = .ok (.caload, 1) := by decide +kernel
theorem dX1_take_20 : decode cX1_take 20 = .ok (.iload_n 1, 1) := by decide +kernel
theorem dX1_take_21 : decode cX1_take 21 = .ok (.if_icmp .eq 5, 3) := by decide +kernel
theorem dX1_take_24 : decode cX1_take 24 = .ok (.iconst 0, 1) := by decide +kernel
theorem dX1_take_25 : decode cX1_take 25 = .ok (.ireturn, 1) := by decide +kernel
theorem dX1_take_26 : decode cX1_take 26 = .ok (.aload_n 0, 1) := by decide +kernel
theorem dX1_take_27 : decode cX1_take 27 = .ok (.dup, 1) := by decide +kernel
theorem dX1_take_28 : decode cX1_take 28 = .ok (.getfield 26, 3) := by decide +kernel
theorem dX1_take_31 : decode cX1_take 31 = .ok (.iconst 1, 1) := by decide +kernel
theorem dX1_take_32 : decode cX1_take 32 = .ok (.iadd, 1) := by decide +kernel
theorem dX1_take_33 : decode cX1_take 33 = .ok (.putfield 26, 3) := by decide +kernel
theorem dX1_take_36 : decode cX1_take 36 = .ok (.iconst 1, 1) := by decide +kernel
theorem dX1_take_37 : decode cX1_take 37 = .ok (.ireturn, 1) := by decide +kernel
theorem dX1_readValue_0 : decode cX1_readValue 0 = .ok (.aload_n 0, 1) := by decide +kernel
theorem dX1_readValue_1 : decode cX1_readValue 1 = .ok (.bipush 48, 2) := by decide +kernel
theorem dX1_readValue_3 : decode cX1_readValue 3 = .ok (.invokevirtual 36, 3) := by decide +kernel
theorem dX1_readValue_6 : decode cX1_readValue 6 = .ok (.ifCond .eq 9, 3) := by decide +kernel
theorem dX1_readValue_9 : decode cX1_readValue 9 = .ok (.aload_n 0, 1) := by decide +kernel
theorem dX1_readValue_10 : decode cX1_readValue 10 = .ok (.iconst 0, 1) := by decide +kernel
theorem dX1_readValue_11 : decode cX1_readValue 11 = .ok (.invokevirtual 77, 3) := by decide +kernel
theorem dX1_readValue_14 : decode cX1_readValue 14 = .ok (.ireturn, 1) := by decide +kernel
theorem dX1_readValue_15 : decode cX1_readValue 15 = .ok (.aload_n 0, 1) := by decide +kernel
theorem dX1_readValue_16 : decode cX1_readValue 16 = .ok (.bipush 49, 2) := by decide +kernel
theorem dX1_readValue_18 : decode cX1_readValue 18 = .ok (.invokevirtual 36, 3) := by decide +kernel
theorem dX1_readValue_21 : decode cX1_readValue 21 = .ok (.ifCond .eq 9, 3) := by decide +kernel
theorem dX1_readValue_24 : decode cX1_readValue 24 = .ok (.aload_n 0, 1) := by decide +kernel
theorem dX1_readValue_25 : decode cX1_readValue 25 = .ok (.iconst 1, 1) := by decide +kernel
theorem dX1_readValue_26 : decode cX1_readValue 26 = .ok (.invokevirtual 77, 3) := by decide +kernel
theorem dX1_readValue_29 : decode cX1_readValue 29 = .ok (.ireturn, 1) := by decide +kernel
theorem dX1_readValue_30 : decode cX1_readValue 30 = .ok (.aload_n 0, 1) := by decide +kernel
theorem dX1_readValue_31 : decode cX1_readValue 31 = .ok (.bipush 45, 2) := by decide +kernel
theorem dX1_readValue_33 : decode cX1_readValue 33 = .ok (.invokevirtual 36, 3) := by decide +kernel
theorem dX1_readValue_36 : decode cX1_readValue 36 = .ok (.ifCond .eq 44, 3) := by decide +kernel
theorem dX1_readValue_39 : decode cX1_readValue 39 = .ok (.aload_n 0, 1) := by decide +kernel
theorem dX1_readValue_40 : decode cX1_readValue 40 = .ok (.bipush 49, 2) := by decide +kernel
theorem dX1_readValue_42 : decode cX1_readValue 42 = .ok (.invokevirtual 36, 3) := by decide +kernel
theorem dX1_readValue_45 : decode cX1_readValue 45 = .ok (.ifCond .eq 11, 3) := by decide +kernel
theorem dX1_readValue_48 : decode cX1_readValue 48 = .ok (.aload_n 0, 1) := by decide +kernel
theorem dX1_readValue_49 : decode cX1_readValue 49 = .ok (.iconst 2, 1) := by decide +kernel
theorem dX1_readValue_50 : decode cX1_readValue 50 = .ok (.invokevirtual 77, 3) := by decide +kernel
theorem dX1_readValue_53 : decode cX1_readValue 53 = .ok (.goto 26, 3) := by decide +kernel
theorem dX1_readValue_56 : decode cX1_readValue 56 = .ok (.aload_n 0, 1) := by decide +kernel
theorem dX1_readValue_57 : decode cX1_readValue 57 = .ok (.bipush 72, 2) := by decide +kernel
theorem dX1_readValue_59 : decode cX1_readValue 59 = .ok (.invokevirtual 36, 3) := by decide +kernel
theorem dX1_readValue_62 : decode cX1_readValue 62 = .ok (.ifCond .eq 16, 3) := by decide +kernel
theorem dX1_readValue_65 : decode cX1_readValue 65 = .ok (.aload_n 0, 1) := by decide +kernel
theorem dX1_readValue_66 : decode cX1_readValue 66 = .ok (.bipush 15, 2) := by decide +kernel
theorem dX1_readValue_68 : decode cX1_readValue 68 = .ok (.invokevirtual 77, 3) := by decide +kernel
theorem dX1_readValue_71 : decode cX1_readValue 71 = .ok (.ifCond .eq 7, 3) := by decide +kernel
theorem dX1_readValue_74 : decode cX1_readValue 74 = .ok (.iconst 1, 1) := by decide +kernel
theorem dX1_readValue_75 : decode cX1_readValue 75 = .ok (.goto 4, 3) := by decide +kernel
theorem dX1_readValue_78 : decode cX1_readValue 78 = .ok (.iconst 0, 1) := by decide +kernel
theorem dX1_readValue_79 : decode cX1_readValue 79 = .ok (.ireturn, 1) := by decide +kernel
theorem dX1_readValue_80 : decode cX1_readValue 80 = .ok (.aload_n 0, 1) := by decide +kernel
theorem dX1_readValue_81 : decode cX1_readValue 81 = .ok (.bipush 33, 2) := by decide +kernel
theorem dX1_readValue_83 : decode cX1_readValue 83 = .ok (.invokevirtual 36, 3) := by decide +kernel
theorem dX1_readValue_86 : decode cX1_readValue 86 = .ok (.ifCond .eq 43, 3) := by decide +kernel
theorem dX1_readValue_89 : decode cX1_readValue 89 = .ok (.aload_n 0, 1) := by decide +kernel
theorem dX1_readValue_90 : decode cX1_readValue 90 = .ok (.bipush 72, 2) := by decide +kernel
theorem dX1_readValue_92 : decode cX1_readValue 92 = .ok (.invokevirtual 36, 3) := by decide +kernel
theorem dX1_readValue_95 : decode cX1_readValue 95 = .ok (.ifCond .eq 12, 3) := by decide +kernel
theorem dX1_readValue_98 : decode cX1_readValue 98 = .ok (.aload_n 0, 1) := by decide +kernel
theorem dX1_readValue_99 : decode cX1_readValue 99 = .ok (.bipush 14, 2) := by decide +kernel
theorem dX1_readValue_101 : decode cX1_readValue 101 = .ok (.invokevirtual 77, 3) := by decide +kernel
theorem dX1_readValue_104 : decode cX1_readValue 104 = .ok (.goto 24, 3) := by decide +kernel
theorem dX1_readValue_107 : decode cX1_readValue 107 = .ok (.aload_n 0, 1) := by decide +kernel
theorem dX1_readValue_108 : decode cX1_readValue 108 = .ok (.invokevirtual 80, 3) := by decide +kernel
theorem dX1_readValue_111 : decode cX1_readValue 111 = .ok (.ifCond .eq 16, 3) := by decide +kernel
theorem dX1_readValue_114 : decode cX1_readValue 114 = .ok (.aload_n 0, 1) := by decide +kernel
theorem dX1_readValue_115 : decode cX1_readValue 115 = .ok (.bipush 7, 2) := by decide +kernel
theorem dX1_readValue_117 : decode cX1_readValue 117 = .ok (.invokevirtual 77, 3) := by decide +kernel
theorem dX1_readValue_120 : decode cX1_readValue 120 = .ok (.ifCond .eq 7, 3) := by decide +kernel
theorem dX1_readValue_123 : decode cX1_readValue 123 = .ok (.iconst 1, 1) := by decide +kernel
theorem dX1_readValue_124 : decode cX1_readValue 124 = .ok (.goto 4, 3) := by decide +kernel
theorem dX1_readValue_127 : decode cX1_readValue 127 = .ok (.iconst 0, 1) := by decide +kernel
theorem dX1_readValue_128 : decode cX1_readValue 128 = .ok (.ireturn, 1) := by decide +kernel
theorem dX1_readValue_129 : decode cX1_readValue 129 = .ok (.aload_n 0, 1) := by decide +kernel
theorem dX1_readValue_130 : decode cX1_readValue 130 = .ok (.bipush 72, 2) := by decide +kernel
theorem dX1_readValue_132 : decode cX1_readValue 132 = .ok (.invokevirtual 36, 3) := by decide +kernel
theorem dX1_readValue_135 : decode cX1_readValue 135 = .ok (.ifCond .eq 8, 3) := by decide +kernel
theorem dX1_readValue_138 : decode cX1_readValue 138 = .ok (.aload_n 0, 1) := by decide +kernel
theorem dX1_readValue_139 : decode cX1_readValue 139 = .ok (.invokevirtual 83, 3) := by decide +kernel
theorem dX1_readValue_142 : decode cX1_readValue 142 = .ok (.ireturn, 1) := by decide +kernel
theorem dX1_readValue_143 : decode cX1_readValue 143 = .ok (.aload_n 0, 1) := by decide +kernel
theorem dX1_readValue_144 : decode cX1_readValue 144 = .ok (.invokevirtual 80, 3) := by decide +kernel
theorem dX1_readValue_147 : decode cX1_readValue 147 = .ok (.ifCond .eq 14, 3) := by decide +kernel
theorem dX1_readValue_150 : decode cX1_readValue 150 = .ok (.aload_n 0, 1) := by decide +kernel
theorem dX1_readValue_151 : decode cX1_readValue 151 = .ok (.invokevirtual 86, 3) := by decide +kernel
theorem dX1_readValue_154 : decode cX1_readValue 154 = .ok (.ifCond .eq 7, 3) := by decide +kernel
theorem dX1_readValue_157 : decode cX1_readValue 157 = .ok (.iconst 1, 1) := by decide +kernel
theorem dX1_readValue_158 : decode cX1_readValue 158 = .ok (.goto 4, 3) := by decide +kernel
theorem dX1_readValue_161 : decode cX1_readValue 161 = .ok (.iconst 0, 1) := by decide +kernel
theorem dX1_readValue_162 : decode cX1_readValue 162 = .ok (.ireturn, 1) := by decide +kernel
theorem dX1_does_0 : decode cX1_does 0 = .ok (.aload_n 0, 1) := by decide +kernel
theorem dX1_does_1 : decode cX1_does 1 = .ok (.getfield 18, 3) := by decide +kernel
theorem dX1_does_4 : decode cX1_does 4 = .ok (.iload_n 1, 1) := by decide +kernel
theorem dX1_does_5 : decode cX1_does 5 = .ok (.putfield 89, 3) := by decide +kernel
theorem dX1_does_8 : decode cX1_does 8 = .ok (.iconst 1, 1) := by decide +kernel
theorem dX1_does_9 : decode cX1_does 9 = .ok (.ireturn, 1) := by decide +kernel
theorem dX1_takeSource_0 : decode cX1_takeSource 0 = .ok (.aload_n 0, 1) := by decide +kernel
theorem dX1_takeSource_1 : decode cX1_takeSource 1 = .ok (.getfield 26, 3) := by decide +kernel
theorem dX1_takeSource_4 : decode cX1_takeSource 4 = .ok (.aload_n 0, 1) := by decide +kernel
theorem dX1_takeSource_5 : decode cX1_takeSource 5 = .ok (.getfield 22, 3) := by decide +kernel
theorem dX1_takeSource_8 : decode cX1_takeSource 8 = .ok (.if_icmp .ge 20, 3) := by decide +kernel
theorem dX1_takeSource_11 : decode cX1_takeSource 11 = .ok (.ldc 60, 2) := by decide +kernel
theorem dX1_takeSource_13 : decode cX1_takeSource 13 = .ok (.aload_n 0, 1) := by decide +kernel
theorem dX1_takeSource_14 : decode cX1_takeSource 14 = .ok (.getfield 9, 3) := by decide +kernel
theorem dX1_takeSource_17 : decode cX1_takeSource 17 = .ok (.aload_n 0, 1) := by decide +kernel
theorem dX1_takeSource_18 : decode cX1_takeSource 18 = .ok (.getfield 26, 3) := by decide +kernel
theorem dX1_takeSource_21 : decode cX1_takeSource 21 = .ok (.caload, 1) := by decide +kernel
theorem dX1_takeSource_22 : decode cX1_takeSource 22 = .ok (.invokevirtual 62, 3) := by decide +kernel
theorem dX1_takeSource_25 : decode cX1_takeSource 25 = .ok (.goto 4, 3) := by decide +kernel
theorem dX1_takeSource_28 : decode cX1_takeSource 28 = .ok (.iconst (-1), 1) := by decide +kernel
theorem dX1_takeSource_29 : decode cX1_takeSource 29 = .ok (.istore_n 1, 1) := by decide +kernel
theorem dX1_takeSource_30 : decode cX1_takeSource 30 = .ok (.iload_n 1, 1) := by decide +kernel
theorem dX1_takeSource_31 : decode cX1_takeSource 31 = .ok (.ifCond .le 9, 3) := by decide +kernel
theorem dX1_takeSource_34 : decode cX1_takeSource 34 = .ok (.iload_n 1, 1) := by decide +kernel
theorem dX1_takeSource_35 : decode cX1_takeSource 35 = .ok (.bipush 8, 2) := by decide +kernel
theorem dX1_takeSource_37 : decode cX1_takeSource 37 = .ok (.if_icmp .ne 5, 3) := by decide +kernel
theorem dX1_takeSource_40 : decode cX1_takeSource 40 = .ok (.iconst 0, 1) := by decide +kernel
theorem dX1_takeSource_41 : decode cX1_takeSource 41 = .ok (.ireturn, 1) := by decide +kernel
theorem dX1_takeSource_42 : decode cX1_takeSource 42 = .ok (.aload_n 0, 1) := by decide +kernel
theorem dX1_takeSource_43 : decode cX1_takeSource 43 = .ok (.getfield 18, 3) := by decide +kernel
theorem dX1_takeSource_46 : decode cX1_takeSource 46 = .ok (.iload_n 1, 1) := by decide +kernel
theorem dX1_takeSource_47 : decode cX1_takeSource 47 = .ok (.putfield 110, 3) := by decide +kernel
theorem dX1_takeSource_50 : decode cX1_takeSource 50 = .ok (.aload_n 0, 1) := by decide +kernel
theorem dX1_takeSource_51 : decode cX1_takeSource 51 = .ok (.dup, 1) := by decide +kernel
theorem dX1_takeSource_52 : decode cX1_takeSource 52 = .ok (.getfield 26, 3) := by decide +kernel
theorem dX1_takeSource_55 : decode cX1_takeSource 55 = .ok (.iconst 1, 1) := by decide +kernel
theorem dX1_takeSource_56 : decode cX1_takeSource 56 = .ok (.iadd, 1) := by decide +kernel
theorem dX1_takeSource_57 : decode cX1_takeSource 57 = .ok (.putfield 26, 3) := by decide +kernel
theorem dX1_takeSource_60 : decode cX1_takeSource 60 = .ok (.iconst 1, 1) := by decide +kernel
theorem dX1_takeSource_61 : decode cX1_takeSource 61 = .ok (.ireturn, 1) := by decide +kernel
theorem dX1_readBehindH_0 : decode cX1_readBehindH 0 = .ok (.aload_n 0, 1) := by decide +kernel
theorem dX1_readBehindH_1 : decode cX1_readBehindH 1 = .ok (.bipush 38, 2) := by decide +kernel
theorem dX1_readBehindH_3 : decode cX1_readBehindH 3 = .ok (.invokevirtual 36, 3) := by decide +kernel
theorem dX1_readBehindH_6 : decode cX1_readBehindH 6 = .ok (.ifCond .eq 25, 3) := by decide +kernel
theorem dX1_readBehindH_9 : decode cX1_readBehindH 9 = .ok (.aload_n 0, 1) := by decide +kernel
theorem dX1_readBehindH_10 : decode cX1_readBehindH 10 = .ok (.invokevirtual 80, 3) := by decide +kernel
theorem dX1_readBehindH_13 : decode cX1_readBehindH 13 = .ok (.ifCond .eq 16, 3) := by decide +kernel
theorem dX1_readBehindH_16 : decode cX1_readBehindH 16 = .ok (.aload_n 0, 1) := by decide +kernel
theorem dX1_readBehindH_17 : decode cX1_readBehindH 17 = .ok (.bipush 12, 2) := by decide +kernel
theorem dX1_readBehindH_19 : decode cX1_readBehindH 19 = .ok (.invokevirtual 77, 3) := by decide +kernel
theorem dX1_readBehindH_22 : decode cX1_readBehindH 22 = .ok (.ifCond .eq 7, 3) := by decide +kernel
theorem dX1_readBehindH_25 : decode cX1_readBehindH 25 = .ok (.iconst 1, 1) := by decide +kernel
theorem dX1_readBehindH_26 : decode cX1_readBehindH 26 = .ok (.goto 4, 3) := by decide +kernel
theorem dX1_readBehindH_29 : decode cX1_readBehindH 29 = .ok (.iconst 0, 1) := by decide +kernel
theorem dX1_readBehindH_30 : decode cX1_readBehindH 30 = .ok (.ireturn, 1) := by decide +kernel
theorem dX1_readBehindH_31 : decode cX1_readBehindH 31 = .ok (.aload_n 0, 1) := by decide +kernel
theorem dX1_readBehindH_32 : decode cX1_readBehindH 32 = .ok (.bipush 124, 2) := by decide +kernel
theorem dX1_readBehindH_34 : decode cX1_readBehindH 34 = .ok (.invokevirtual 36, 3) := by decide +kernel
theorem dX1_readBehindH_37 : decode cX1_readBehindH 37 = .ok (.ifCond .eq 25, 3) := by decide +kernel
theorem dX1_readBehindH_40 : decode cX1_readBehindH 40 = .ok (.aload_n 0, 1) := by decide +kernel
theorem dX1_readBehindH_41 : decode cX1_readBehindH 41 = .ok (.invokevirtual 80, 3) := by decide +kernel
theorem dX1_readBehindH_44 : decode cX1_readBehindH 44 = .ok (.ifCond .eq 16, 3) := by decide +kernel
theorem dX1_readBehindH_47 : decode cX1_readBehindH 47 = .ok (.aload_n 0, 1) := by decide +kernel
theorem dX1_readBehindH_48 : decode cX1_readBehindH 48 = .ok (.bipush 13, 2) := by decide +kernel
theorem dX1_readBehindH_50 : decode cX1_readBehindH 50 = .ok (.invokevirtual 77, 3) := by decide +kernel
theorem dX1_readBehindH_53 : decode cX1_readBehindH 53 = .ok (.ifCond .eq 7, 3) := by decide +kernel
theorem dX1_readBehindH_56 : decode cX1_readBehindH 56 = .ok (.iconst 1, 1) := by decide +kernel
theorem dX1_readBehindH_57 : decode cX1_readBehindH 57 = .ok (.goto 4, 3) := by decide +kernel
theorem dX1_readBehindH_60 : decode cX1_readBehindH 60 = .ok (.iconst 0, 1) := by decide +kernel
theorem dX1_readBehindH_61 : decode cX1_readBehindH 61 = .ok (.ireturn, 1) := by decide +kernel
theorem dX1_readBehindH_62 : decode cX1_readBehindH 62 = .ok (.aload_n 0, 1) := by decide +kernel
theorem dX1_readBehindH_63 : decode cX1_readBehindH 63 = .ok (.bipush 43, 2) := by decide +kernel
theorem dX1_readBehindH_65 : decode cX1_readBehindH 65 = .ok (.invokevirtual 36, 3) := by decide +kernel
theorem dX1_readBehindH_68 : decode cX1_readBehindH 68 = .ok (.ifCond .ne 10, 3) := by decide +kernel
theorem dX1_readBehindH_71 : decode cX1_readBehindH 71 = .ok (.aload_n 0, 1) := by decide +kernel
theorem dX1_readBehindH_72 : decode cX1_readBehindH 72 = .ok (.bipush 8, 2) := by decide +kernel
theorem dX1_readBehindH_74 : decode cX1_readBehindH 74 = .ok (.invokevirtual 77, 3) := by decide +kernel
theorem dX1_readBehindH_77 : decode cX1_readBehindH 77 = .ok (.ireturn, 1) := by decide +kernel
theorem dX1_readBehindH_78 : decode cX1_readBehindH 78 = .ok (.aload_n 0, 1) := by decide +kernel
theorem dX1_readBehindH_79 : decode cX1_readBehindH 79 = .ok (.bipush 49, 2) := by decide +kernel
theorem dX1_readBehindH_81 : decode cX1_readBehindH 81 = .ok (.invokevirtual 36, 3) := by decide +kernel
theorem dX1_readBehindH_84 : decode cX1_readBehindH 84 = .ok (.ifCond .eq 10, 3) := by decide +kernel
theorem dX1_readBehindH_87 : decode cX1_readBehindH 87 = .ok (.aload_n 0, 1) := by decide +kernel
theorem dX1_readBehindH_88 : decode cX1_readBehindH 88 = .ok (.bipush 9, 2) := by decide +kernel
theorem dX1_readBehindH_90 : decode cX1_readBehindH 90 = .ok (.invokevirtual 77, 3) := by decide +kernel
theorem dX1_readBehindH_93 : decode cX1_readBehindH 93 = .ok (.ireturn, 1) := by decide +kernel
theorem dX1_readBehindH_94 : decode cX1_readBehindH 94 = .ok (.aload_n 0, 1) := by decide +kernel
theorem dX1_readBehindH_95 : decode cX1_readBehindH 95 = .ok (.invokevirtual 80, 3) := by decide +kernel
theorem dX1_readBehindH_98 : decode cX1_readBehindH 98 = .ok (.ifCond .ne 5, 3) := by decide +kernel
theorem dX1_readBehindH_101 : decode cX1_readBehindH 101 = .ok (.iconst 0, 1) := by decide +kernel
theorem dX1_readBehindH_102 : decode cX1_readBehindH 102 = .ok (.ireturn, 1) := by decide +kernel
theorem dX1_readBehindH_103 : decode cX1_readBehindH 103 = .ok (.aload_n 0, 1) := by decide +kernel
theorem dX1_readBehindH_104 : decode cX1_readBehindH 104 = .ok (.bipush 43, 2) := by decide +kernel
theorem dX1_readBehindH_106 : decode cX1_readBehindH 106 = .ok (.invokevirtual 36, 3) := by decide +kernel
theorem dX1_readBehindH_109 : decode cX1_readBehindH 109 = .ok (.ifCond .eq 29, 3) := by decide +kernel
theorem dX1_readBehindH_112 : decode cX1_readBehindH 112 = .ok (.aload_n 0, 1) := by decide +kernel
theorem dX1_readBehindH_113 : decode cX1_readBehindH 113 = .ok (.bipush 49, 2) := by decide +kernel
theorem dX1_readBehindH_115 : decode cX1_readBehindH 115 = .ok (.invokevirtual 36, 3) := by decide +kernel
theorem dX1_readBehindH_118 : decode cX1_readBehindH 118 = .ok (.ifCond .eq 16, 3) := by decide +kernel
theorem dX1_readBehindH_121 : decode cX1_readBehindH 121 = .ok (.aload_n 0, 1) := by decide +kernel
theorem dX1_readBehindH_122 : decode cX1_readBehindH 122 = .ok (.bipush 11, 2) := by decide +kernel
theorem dX1_readBehindH_124 : decode cX1_readBehindH 124 = .ok (.invokevirtual 77, 3) := by decide +kernel
theorem dX1_readBehindH_127 : decode cX1_readBehindH 127 = .ok (.ifCond .eq 7, 3) := by decide +kernel
theorem dX1_readBehindH_130 : decode cX1_readBehindH 130 = .ok (.iconst 1, 1) := by decide +kernel
theorem dX1_readBehindH_131 : decode cX1_readBehindH 131 = .ok (.goto 13, 3) := by decide +kernel
theorem dX1_readBehindH_134 : decode cX1_readBehindH 134 = .ok (.iconst 0, 1) := by decide +kernel
theorem dX1_readBehindH_135 : decode cX1_readBehindH 135 = .ok (.goto 9, 3) := by decide +kernel
theorem dX1_readBehindH_138 : decode cX1_readBehindH 138 = .ok (.aload_n 0, 1) := by decide +kernel
theorem dX1_readBehindH_139 : decode cX1_readBehindH 139 = .ok (.bipush 10, 2) := by decide +kernel
theorem dX1_readBehindH_141 : decode cX1_readBehindH 141 = .ok (.invokevirtual 77, 3) := by decide +kernel
theorem dX1_readBehindH_144 : decode cX1_readBehindH 144 = .ok (.ireturn, 1) := by decide +kernel
theorem dX1_readBehindSource_0 : decode cX1_readBehindSource 0 = .ok (.aload_n 0, 1) := by decide +kernel
theorem dX1_readBehindSource_1 : decode cX1_readBehindSource 1 = .ok (.bipush 43, 2) := by decide +kernel
theorem dX1_readBehindSource_3 : decode cX1_readBehindSource 3 = .ok (.invokevirtual 36, 3) := by decide +kernel
theorem dX1_readBehindSource_6 : decode cX1_readBehindSource 6 = .ok (.ifCond .eq 26, 3) := by decide +kernel
theorem dX1_readBehindSource_9 : decode cX1_readBehindSource 9 = .ok (.aload_n 0, 1) := by decide +kernel
theorem dX1_readBehindSource_10 : decode cX1_readBehindSource 10 = .ok (.bipush 49, 2) := by decide +kernel
theorem dX1_readBehindSource_12 : decode cX1_readBehindSource 12 = .ok (.invokevirtual 36, 3) := by decide +kernel
theorem dX1_readBehindSource_15 : decode cX1_readBehindSource 15 = .ok (.ifCond .eq 15, 3) := by decide +kernel
theorem dX1_readBehindSource_18 : decode cX1_readBehindSource 18 = .ok (.aload_n 0, 1) := by decide +kernel
theorem dX1_readBehindSource_19 : decode cX1_readBehindSource 19 = .ok (.iconst 4, 1) := by decide +kernel
theorem dX1_readBehindSource_20 : decode cX1_readBehindSource 20 = .ok (.invokevirtual 77, 3) := by decide +kernel
theorem dX1_readBehindSource_23 : decode cX1_readBehindSource 23 = .ok (.ifCond .eq 7, 3) := by decide +kernel
theorem dX1_readBehindSource_26 : decode cX1_readBehindSource 26 = .ok (.iconst 1, 1) := by decide +kernel
theorem dX1_readBehindSource_27 : decode cX1_readBehindSource 27 = .ok (.goto 4, 3) := by decide +kernel
theorem dX1_readBehindSource_30 : decode cX1_readBehindSource 30 = .ok (.iconst 0, 1) := by decide +kernel
theorem dX1_readBehindSource_31 : decode cX1_readBehindSource 31 = .ok (.ireturn, 1) := by decide +kernel
theorem dX1_readBehindSource_32 : decode cX1_readBehindSource 32 = .ok (.aload_n 0, 1) := by decide +kernel
theorem dX1_readBehindSource_33 : decode cX1_readBehindSource 33 = .ok (.bipush 45, 2) := by decide +kernel
theorem dX1_readBehindSource_35 : decode cX1_readBehindSource 35 = .ok (.invokevirtual 36, 3) := by decide +kernel
theorem dX1_readBehindSource_38 : decode cX1_readBehindSource 38 = .ok (.ifCond .eq 44, 3) := by decide +kernel
theorem dX1_readBehindSource_41 : decode cX1_readBehindSource 41 = .ok (.aload_n 0, 1) := by decide +kernel
theorem dX1_readBehindSource_42 : decode cX1_readBehindSource 42 = .ok (.bipush 49, 2) := by decide +kernel
theorem dX1_readBehindSource_44 : decode cX1_readBehindSource 44 = .ok (.invokevirtual 36, 3) := by decide +kernel
theorem dX1_readBehindSource_47 : decode cX1_readBehindSource 47 = .ok (.ifCond .eq 11, 3) := by decide +kernel
theorem dX1_readBehindSource_50 : decode cX1_readBehindSource 50 = .ok (.aload_n 0, 1) := by decide +kernel
theorem dX1_readBehindSource_51 : decode cX1_readBehindSource 51 = .ok (.iconst 5, 1) := by decide +kernel
theorem dX1_readBehindSource_52 : decode cX1_readBehindSource 52 = .ok (.invokevirtual 77, 3) := by decide +kernel
theorem dX1_readBehindSource_55 : decode cX1_readBehindSource 55 = .ok (.goto 26, 3) := by decide +kernel
theorem dX1_readBehindSource_58 : decode cX1_readBehindSource 58 = .ok (.aload_n 0, 1) := by decide +kernel
theorem dX1_readBehindSource_59 : decode cX1_readBehindSource 59 = .ok (.bipush 72, 2) := by decide +kernel
theorem dX1_readBehindSource_61 : decode cX1_readBehindSource 61 = .ok (.invokevirtual 36, 3) := by decide +kernel
theorem dX1_readBehindSource_64 : decode cX1_readBehindSource 64 = .ok (.ifCond .eq 16, 3) := by decide +kernel
theorem dX1_readBehindSource_67 : decode cX1_readBehindSource 67 = .ok (.aload_n 0, 1) := by decide +kernel
theorem dX1_readBehindSource_68 : decode cX1_readBehindSource 68 = .ok (.bipush 6, 2) := by decide +kernel
theorem dX1_readBehindSource_70 : decode cX1_readBehindSource 70 = .ok (.invokevirtual 77, 3) := by decide +kernel
theorem dX1_readBehindSource_73 : decode cX1_readBehindSource 73 = .ok (.ifCond .eq 7, 3) := by decide +kernel
theorem dX1_readBehindSource_76 : decode cX1_readBehindSource 76 = .ok (.iconst 1, 1) := by decide +kernel
theorem dX1_readBehindSource_77 : decode cX1_readBehindSource 77 = .ok (.goto 4, 3) := by decide +kernel
theorem dX1_readBehindSource_80 : decode cX1_readBehindSource 80 = .ok (.iconst 0, 1) := by decide +kernel
theorem dX1_readBehindSource_81 : decode cX1_readBehindSource 81 = .ok (.ireturn, 1) := by decide +kernel
theorem dX1_readBehindSource_82 : decode cX1_readBehindSource 82 = .ok (.aload_n 0, 1) := by decide +kernel
theorem dX1_readBehindSource_83 : decode cX1_readBehindSource 83 = .ok (.iconst 3, 1) := by decide +kernel
theorem dX1_readBehindSource_84 : decode cX1_readBehindSource 84 = .ok (.invokevirtual 77, 3) := by decide +kernel
theorem dX1_readBehindSource_87 : decode cX1_readBehindSource 87 = .ok (.ireturn, 1) := by decide +kernel
theorem dX1_readGoing_0 : decode cX1_readGoing 0 = .ok (.aload_n 0, 1) := by decide +kernel
theorem dX1_readGoing_1 : decode cX1_readGoing 1 = .ok (.getfield 18, 3) := by decide +kernel
theorem dX1_readGoing_4 : decode cX1_readGoing 4 = .ok (.aload_n 0, 1) := by decide +kernel
theorem dX1_readGoing_5 : decode cX1_readGoing 5 = .ok (.getfield 26, 3) := by decide +kernel
theorem dX1_readGoing_8 : decode cX1_readGoing 8 = .ok (.aload_n 0, 1) := by decide +kernel
theorem dX1_readGoing_9 : decode cX1_readGoing 9 = .ok (.getfield 22, 3) := by decide +kernel
theorem dX1_readGoing_12 : decode cX1_readGoing 12 = .ok (.if_icmp .ge 22, 3) := by decide +kernel
theorem dX1_readGoing_15 : decode cX1_readGoing 15 = .ok (.ldc 92, 2) := by decide +kernel
theorem dX1_readGoing_17 : decode cX1_readGoing 17 = .ok (.aload_n 0, 1) := by decide +kernel
theorem dX1_readGoing_18 : decode cX1_readGoing 18 = .ok (.getfield 9, 3) := by decide +kernel
theorem dX1_readGoing_21 : decode cX1_readGoing 21 = .ok (.aload_n 0, 1) := by decide +kernel
theorem dX1_readGoing_22 : decode cX1_readGoing 22 = .ok (.getfield 26, 3) := by decide +kernel
theorem dX1_readGoing_25 : decode cX1_readGoing 25 = .ok (.caload, 1) := by decide +kernel
theorem dX1_readGoing_26 : decode cX1_readGoing 26 = .ok (.invokevirtual 62, 3) := by decide +kernel
theorem dX1_readGoing_29 : decode cX1_readGoing 29 = .ok (.iconst 1, 1) := by decide +kernel
theorem dX1_readGoing_30 : decode cX1_readGoing 30 = .ok (.iadd, 1) := by decide +kernel
theorem dX1_readGoing_31 : decode cX1_readGoing 31 = .ok (.goto 4, 3) := by decide +kernel
theorem dX1_readGoing_34 : decode cX1_readGoing 34 = .ok (.iconst 0, 1) := by decide +kernel
theorem dX1_readGoing_35 : decode cX1_readGoing 35 = .ok (.putfield 94, 3) := by decide +kernel
theorem dX1_readGoing_38 : decode cX1_readGoing 38 = .ok (.aload_n 0, 1) := by decide +kernel
theorem dX1_readGoing_39 : decode cX1_readGoing 39 = .ok (.getfield 18, 3) := by decide +kernel
theorem dX1_readGoing_42 : decode cX1_readGoing 42 = .ok (.getfield 94, 3) := by decide +kernel
theorem dX1_readGoing_45 : decode cX1_readGoing 45 = .ok (.ifCond .ne 5, 3) := by decide +kernel
theorem dX1_readGoing_48 : decode cX1_readGoing 48 = .ok (.iconst 1, 1) := by decide +kernel
theorem dX1_readGoing_49 : decode cX1_readGoing 49 = .ok (.ireturn, 1) := by decide +kernel
theorem dX1_readGoing_50 : decode cX1_readGoing 50 = .ok (.aload_n 0, 1) := by decide +kernel
theorem dX1_readGoing_51 : decode cX1_readGoing 51 = .ok (.dup, 1) := by decide +kernel
theorem dX1_readGoing_52 : decode cX1_readGoing 52 = .ok (.getfield 26, 3) := by decide +kernel
theorem dX1_readGoing_55 : decode cX1_readGoing 55 = .ok (.iconst 1, 1) := by decide +kernel
theorem dX1_readGoing_56 : decode cX1_readGoing 56 = .ok (.iadd, 1) := by decide +kernel
theorem dX1_readGoing_57 : decode cX1_readGoing 57 = .ok (.putfield 26, 3) := by decide +kernel
theorem dX1_readGoing_60 : decode cX1_readGoing 60 = .ok (.aload_n 0, 1) := by decide +kernel
theorem dX1_readGoing_61 : decode cX1_readGoing 61 = .ok (.getfield 18, 3) := by decide +kernel
theorem dX1_readGoing_64 : decode cX1_readGoing 64 = .ok (.getfield 94, 3) := by decide +kernel
theorem dX1_readGoing_67 : decode cX1_readGoing 67 = .ok (.iconst 4, 1) := by decide +kernel
theorem dX1_readGoing_68 : decode cX1_readGoing 68 = .ok (.if_icmp .ne 16, 3) := by decide +kernel
theorem dX1_readGoing_71 : decode cX1_readGoing 71 = .ok (.aload_n 0, 1) := by decide +kernel
theorem dX1_readGoing_72 : decode cX1_readGoing 72 = .ok (.getfield 26, 3) := by decide +kernel
theorem dX1_readGoing_75 : decode cX1_readGoing 75 = .ok (.aload_n 0, 1) := by decide +kernel
theorem dX1_readGoing_76 : decode cX1_readGoing 76 = .ok (.getfield 22, 3) := by decide +kernel
theorem dX1_readGoing_79 : decode cX1_readGoing 79 = .ok (.if_icmp .ne 5, 3) := by decide +kernel
theorem dX1_readGoing_82 : decode cX1_readGoing 82 = .ok (.iconst 1, 1) := by decide +kernel
theorem dX1_readGoing_83 : decode cX1_readGoing 83 = .ok (.ireturn, 1) := by decide +kernel
theorem dX1_readGoing_84 : decode cX1_readGoing 84 = .ok (.aload_n 0, 1) := by decide +kernel
theorem dX1_readGoing_85 : decode cX1_readGoing 85 = .ok (.getfield 18, 3) := by decide +kernel
theorem dX1_readGoing_88 : decode cX1_readGoing 88 = .ok (.aload_n 0, 1) := by decide +kernel
theorem dX1_readGoing_89 : decode cX1_readGoing 89 = .ok (.invokevirtual 97, 3) := by decide +kernel
theorem dX1_readGoing_92 : decode cX1_readGoing 92 = .ok (.putfield 101, 3) := by decide +kernel
theorem dX1_readGoing_95 : decode cX1_readGoing 95 = .ok (.aload_n 0, 1) := by decide +kernel
theorem dX1_readGoing_96 : decode cX1_readGoing 96 = .ok (.getfield 18, 3) := by decide +kernel
theorem dX1_readGoing_99 : decode cX1_readGoing 99 = .ok (.getfield 94, 3) := by decide +kernel
theorem dX1_readGoing_102 : decode cX1_readGoing 102 = .ok (.iconst 1, 1) := by decide +kernel
theorem dX1_readGoing_103 : decode cX1_readGoing 103 = .ok (.if_icmp .eq 14, 3) := by decide +kernel
theorem dX1_readGoing_106 : decode cX1_readGoing 106 = .ok (.aload_n 0, 1) := by decide +kernel
theorem dX1_readGoing_107 : decode cX1_readGoing 107 = .ok (.getfield 18, 3) := by decide +kernel
theorem dX1_readGoing_110 : decode cX1_readGoing 110 = .ok (.getfield 94, 3) := by decide +kernel
theorem dX1_readGoing_113 : decode cX1_readGoing 113 = .ok (.iconst 4, 1) := by decide +kernel
theorem dX1_readGoing_114 : decode cX1_readGoing 114 = .ok (.if_icmp .ne 19, 3) := by decide +kernel
theorem dX1_readGoing_117 : decode cX1_readGoing 117 = .ok (.aload_n 0, 1) := by decide +kernel
theorem dX1_readGoing_118 : decode cX1_readGoing 118 = .ok (.getfield 18, 3) := by decide +kernel
theorem dX1_readGoing_121 : decode cX1_readGoing 121 = .ok (.getfield 101, 3) := by decide +kernel
theorem dX1_readGoing_124 : decode cX1_readGoing 124 = .ok (.ifCond .lt 7, 3) := by decide +kernel
theorem dX1_readGoing_127 : decode cX1_readGoing 127 = .ok (.iconst 1, 1) := by decide +kernel
theorem dX1_readGoing_128 : decode cX1_readGoing 128 = .ok (.goto 4, 3) := by decide +kernel
theorem dX1_readGoing_131 : decode cX1_readGoing 131 = .ok (.iconst 0, 1) := by decide +kernel
theorem dX1_readGoing_132 : decode cX1_readGoing 132 = .ok (.ireturn, 1) := by decide +kernel
theorem dX1_readGoing_133 : decode cX1_readGoing 133 = .ok (.aload_n 0, 1) := by decide +kernel
theorem dX1_readGoing_134 : decode cX1_readGoing 134 = .ok (.getfield 18, 3) := by decide +kernel
theorem dX1_readGoing_137 : decode cX1_readGoing 137 = .ok (.getfield 101, 3) := by decide +kernel
theorem dX1_readGoing_140 : decode cX1_readGoing 140 = .ok (.ifCond .lt 12, 3) := by decide +kernel
theorem dX1_readGoing_143 : decode cX1_readGoing 143 = .ok (.aload_n 0, 1) := by decide +kernel
theorem dX1_readGoing_144 : decode cX1_readGoing 144 = .ok (.bipush 44, 2) := by decide +kernel
theorem dX1_readGoing_146 : decode cX1_readGoing 146 = .ok (.invokevirtual 36, 3) := by decide +kernel
theorem dX1_readGoing_149 : decode cX1_readGoing 149 = .ok (.ifCond .ne 5, 3) := by decide +kernel
theorem dX1_readGoing_152 : decode cX1_readGoing 152 = .ok (.iconst 0, 1) := by decide +kernel
theorem dX1_readGoing_153 : decode cX1_readGoing 153 = .ok (.ireturn, 1) := by decide +kernel
theorem dX1_readGoing_154 : decode cX1_readGoing 154 = .ok (.aload_n 0, 1) := by decide +kernel
theorem dX1_readGoing_155 : decode cX1_readGoing 155 = .ok (.getfield 18, 3) := by decide +kernel
theorem dX1_readGoing_158 : decode cX1_readGoing 158 = .ok (.aload_n 0, 1) := by decide +kernel
theorem dX1_readGoing_159 : decode cX1_readGoing 159 = .ok (.invokevirtual 97, 3) := by decide +kernel
theorem dX1_readGoing_162 : decode cX1_readGoing 162 = .ok (.putfield 104, 3) := by decide +kernel
theorem dX1_readGoing_165 : decode cX1_readGoing 165 = .ok (.aload_n 0, 1) := by decide +kernel
theorem dX1_readGoing_166 : decode cX1_readGoing 166 = .ok (.getfield 18, 3) := by decide +kernel
theorem dX1_readGoing_169 : decode cX1_readGoing 169 = .ok (.getfield 104, 3) := by decide +kernel
theorem dX1_readGoing_172 : decode cX1_readGoing 172 = .ok (.ifCond .lt 7, 3) := by decide +kernel
theorem dX1_readGoing_175 : decode cX1_readGoing 175 = .ok (.iconst 1, 1) := by decide +kernel
theorem dX1_readGoing_176 : decode cX1_readGoing 176 = .ok (.goto 4, 3) := by decide +kernel
theorem dX1_readGoing_179 : decode cX1_readGoing 179 = .ok (.iconst 0, 1) := by decide +kernel
theorem dX1_readGoing_180 : decode cX1_readGoing 180 = .ok (.ireturn, 1) := by decide +kernel
theorem dX1_takeNumber_0 : decode cX1_takeNumber 0 = .ok (.aload_n 0, 1) := by decide +kernel
theorem dX1_takeNumber_1 : decode cX1_takeNumber 1 = .ok (.bipush 9, 2) := by decide +kernel
theorem dX1_takeNumber_3 : decode cX1_takeNumber 3 = .ok (.invokevirtual 107, 3) := by decide +kernel
theorem dX1_takeNumber_6 : decode cX1_takeNumber 6 = .ok (.istore_n 1, 1) := by decide +kernel
theorem dX1_takeNumber_7 : decode cX1_takeNumber 7 = .ok (.iload_n 1, 1) := by decide +kernel
theorem dX1_takeNumber_8 : decode cX1_takeNumber 8 = .ok (.ifCond .ge 5, 3) := by decide +kernel
theorem dX1_takeNumber_11 : decode cX1_takeNumber 11 = .ok (.iconst (-1), 1) := by decide +kernel
theorem dX1_takeNumber_12 : decode cX1_takeNumber 12 = .ok (.ireturn, 1) := by decide +kernel
theorem dX1_takeNumber_13 : decode cX1_takeNumber 13 = .ok (.aload_n 0, 1) := by decide +kernel
theorem dX1_takeNumber_14 : decode cX1_takeNumber 14 = .ok (.bipush 63, 2) := by decide +kernel
theorem dX1_takeNumber_16 : decode cX1_takeNumber 16 = .ok (.bipush 10, 2) := by decide +kernel
theorem dX1_takeNumber_18 : decode cX1_takeNumber 18 = .ok (.iload_n 1, 1) := by decide +kernel
theorem dX1_takeNumber_19 : decode cX1_takeNumber 19 = .ok (.imul, 1) := by decide +kernel
theorem dX1_takeNumber_20 : decode cX1_takeNumber 20 = .ok (.isub, 1) := by decide +kernel
theorem dX1_takeNumber_21 : decode cX1_takeNumber 21 = .ok (.invokevirtual 107, 3) := by decide +kernel
theorem dX1_takeNumber_24 : decode cX1_takeNumber 24 = .ok (.istore_n 2, 1) := by decide +kernel
theorem dX1_takeNumber_25 : decode cX1_takeNumber 25 = .ok (.iload_n 2, 1) := by decide +kernel
theorem dX1_takeNumber_26 : decode cX1_takeNumber 26 = .ok (.ifCond .ge 7, 3) := by decide +kernel
theorem dX1_takeNumber_29 : decode cX1_takeNumber 29 = .ok (.iload_n 1, 1) := by decide +kernel
theorem dX1_takeNumber_30 : decode cX1_takeNumber 30 = .ok (.goto 9, 3) := by decide +kernel
theorem dX1_takeNumber_33 : decode cX1_takeNumber 33 = .ok (.bipush 10, 2) := by decide +kernel
theorem dX1_takeNumber_35 : decode cX1_takeNumber 35 = .ok (.iload_n 1, 1) := by decide +kernel
theorem dX1_takeNumber_36 : decode cX1_takeNumber 36 = .ok (.imul, 1) := by decide +kernel
theorem dX1_takeNumber_37 : decode cX1_takeNumber 37 = .ok (.iload_n 2, 1) := by decide +kernel
theorem dX1_takeNumber_38 : decode cX1_takeNumber 38 = .ok (.iadd, 1) := by decide +kernel
theorem dX1_takeNumber_39 : decode cX1_takeNumber 39 = .ok (.ireturn, 1) := by decide +kernel
theorem dX1_takeDigit_0 : decode cX1_takeDigit 0 = .ok (.aload_n 0, 1) := by decide +kernel
theorem dX1_takeDigit_1 : decode cX1_takeDigit 1 = .ok (.getfield 26, 3) := by decide +kernel
theorem dX1_takeDigit_4 : decode cX1_takeDigit 4 = .ok (.aload_n 0, 1) := by decide +kernel
theorem dX1_takeDigit_5 : decode cX1_takeDigit 5 = .ok (.getfield 22, 3) := by decide +kernel
theorem dX1_takeDigit_8 : decode cX1_takeDigit 8 = .ok (.if_icmp .ge 18, 3) := by decide +kernel
theorem dX1_takeDigit_11 : decode cX1_takeDigit 11 = .ok (.aload_n 0, 1) := by decide +kernel
theorem dX1_takeDigit_12 : decode cX1_takeDigit 12 = .ok (.getfield 9, 3) := by decide +kernel
theorem dX1_takeDigit_15 : decode cX1_takeDigit 15 = .ok (.aload_n 0, 1) := by decide +kernel
theorem dX1_takeDigit_16 : decode cX1_takeDigit 16 = .ok (.getfield 26, 3) := by decide +kernel
theorem dX1_takeDigit_19 : decode cX1_takeDigit 19 = .ok (.caload, 1) := by decide +kernel
theorem dX1_takeDigit_20 : decode cX1_takeDigit 20 = .ok (.bipush 48, 2) := by decide +kernel
theorem dX1_takeDigit_22 : decode cX1_takeDigit 22 = .ok (.isub, 1) := by decide +kernel
theorem dX1_takeDigit_23 : decode cX1_takeDigit 23 = .ok (.goto 4, 3) := by decide +kernel
theorem dX1_takeDigit_26 : decode cX1_takeDigit 26 = .ok (.iconst (-1), 1) := by decide +kernel
theorem dX1_takeDigit_27 : decode cX1_takeDigit 27 = .ok (.istore_n 2, 1) := by decide +kernel
theorem dX1_takeDigit_28 : decode cX1_takeDigit 28 = .ok (.iload_n 2, 1) := by decide +kernel
theorem dX1_takeDigit_29 : decode cX1_takeDigit 29 = .ok (.ifCond .lt 14, 3) := by decide +kernel
theorem dX1_takeDigit_32 : decode cX1_takeDigit 32 = .ok (.iload_n 2, 1) := by decide +kernel
theorem dX1_takeDigit_33 : decode cX1_takeDigit 33 = .ok (.bipush 9, 2) := by decide +kernel
theorem dX1_takeDigit_35 : decode cX1_takeDigit 35 = .ok (.if_icmp .gt 8, 3) := by decide +kernel
theorem dX1_takeDigit_38 : decode cX1_takeDigit 38 = .ok (.iload_n 2, 1) := by decide +kernel
theorem dX1_takeDigit_39 : decode cX1_takeDigit 39 = .ok (.iload_n 1, 1) := by decide +kernel
theorem dX1_takeDigit_40 : decode cX1_takeDigit 40 = .ok (.if_icmp .le 5, 3) := by decide +kernel
theorem dX1_takeDigit_43 : decode cX1_takeDigit 43 = .ok (.iconst (-1), 1) := by decide +kernel
theorem dX1_takeDigit_44 : decode cX1_takeDigit 44 = .ok (.ireturn, 1) := by decide +kernel
theorem dX1_takeDigit_45 : decode cX1_takeDigit 45 = .ok (.aload_n 0, 1) := by decide +kernel
theorem dX1_takeDigit_46 : decode cX1_takeDigit 46 = .ok (.dup, 1) := by decide +kernel
theorem dX1_takeDigit_47 : decode cX1_takeDigit 47 = .ok (.getfield 26, 3) := by decide +kernel
theorem dX1_takeDigit_50 : decode cX1_takeDigit 50 = .ok (.iconst 1, 1) := by decide +kernel
theorem dX1_takeDigit_51 : decode cX1_takeDigit 51 = .ok (.iadd, 1) := by decide +kernel
theorem dX1_takeDigit_52 : decode cX1_takeDigit 52 = .ok (.putfield 26, 3) := by decide +kernel
theorem dX1_takeDigit_55 : decode cX1_takeDigit 55 = .ok (.iload_n 2, 1) := by decide +kernel
theorem dX1_takeDigit_56 : decode cX1_takeDigit 56 = .ok (.ireturn, 1) := by decide +kernel
theorem dJ0_indexOf_0 : decode cJ0_indexOf 0 = .ok (.aload_n 0, 1) := by decide +kernel
theorem dJ0_indexOf_1 : decode cJ0_indexOf 1 = .ok (.iload_n 1, 1) := by decide +kernel
theorem dJ0_indexOf_2 : decode cJ0_indexOf 2 = .ok (.iconst 0, 1) := by decide +kernel
theorem dJ0_indexOf_3 : decode cJ0_indexOf 3 = .ok (.invokevirtual 633, 3) := by decide +kernel
theorem dJ0_indexOf_6 : decode cJ0_indexOf 6 = .ok (.ireturn, 1) := by decide +kernel
theorem dJ0_indexOf2_0 : decode cJ0_indexOf2 0 = .ok (.aload_n 0, 1) := by decide +kernel
theorem dJ0_indexOf2_1 : decode cJ0_indexOf2 1 = .ok (.invokevirtual 492, 3) := by decide +kernel
theorem dJ0_indexOf2_4 : decode cJ0_indexOf2 4 = .ok (.ifCond .eq 19, 3) := by decide +kernel
theorem dJ0_indexOf2_7 : decode cJ0_indexOf2 7 = .ok (.aload_n 0, 1) := by decide +kernel
theorem dJ0_indexOf2_8 : decode cJ0_indexOf2 8 = .ok (.getfield 9, 3) := by decide +kernel
theorem dJ0_indexOf2_11 : decode cJ0_indexOf2 11 = .ok (.iload_n 1, 1) := by decide +kernel
theorem dJ0_indexOf2_12 : decode cJ0_indexOf2 12 = .ok (.iload_n 2, 1) := by decide +kernel
theorem dJ0_indexOf2_13 : decode cJ0_indexOf2 13 = .ok (.aload_n 0, 1) := by decide +kernel
theorem dJ0_indexOf2_14 : decode cJ0_indexOf2 14 = .ok (.invokevirtual 505, 3) := by decide +kernel
theorem dJ0_indexOf2_17 : decode cJ0_indexOf2 17 = .ok (.invokestatic 637, 3) := by decide +kernel
theorem dJ0_indexOf2_20 : decode cJ0_indexOf2 20 = .ok (.goto 16, 3) := by decide +kernel
theorem dJ0_indexOf2_23 : decode cJ0_indexOf2 23 = .ok (.aload_n 0, 1) := by decide +kernel
theorem dJ0_indexOf2_24 : decode cJ0_indexOf2 24 = .ok (.getfield 9, 3) := by decide +kernel
theorem dJ0_indexOf2_27 : decode cJ0_indexOf2 27 = .ok (.iload_n 1, 1) := by decide +kernel
theorem dJ0_indexOf2_28 : decode cJ0_indexOf2 28 = .ok (.iload_n 2, 1) := by decide +kernel
theorem dJ0_indexOf2_29 : decode cJ0_indexOf2 29 = .ok (.aload_n 0, 1) := by decide +kernel
theorem dJ0_indexOf2_30 : decode cJ0_indexOf2 30 = .ok (.invokevirtual 505, 3) := by decide +kernel
theorem dJ0_indexOf2_33 : decode cJ0_indexOf2 33 = .ok (.invokestatic 640, 3) := by decide +kernel
theorem dJ0_indexOf2_36 : decode cJ0_indexOf2 36 = .ok (.ireturn, 1) := by decide +kernel
theorem dJ0_isLatin1_0 : decode cJ0_isLatin1 0 = .ok (.getstatic 38, 3) := by decide +kernel
theorem dJ0_isLatin1_3 : decode cJ0_isLatin1 3 = .ok (.ifCond .eq 14, 3) := by decide +kernel
theorem dJ0_isLatin1_6 : decode cJ0_isLatin1 6 = .ok (.aload_n 0, 1) := by decide +kernel
theorem dJ0_isLatin1_7 : decode cJ0_isLatin1 7 = .ok (.getfield 15, 3) := by decide +kernel
theorem dJ0_isLatin1_10 : decode cJ0_isLatin1 10 = .ok (.ifCond .ne 7, 3) := by decide +kernel
theorem dJ0_isLatin1_13 : decode cJ0_isLatin1 13 = .ok (.iconst 1, 1) := by decide +kernel
theorem dJ0_isLatin1_14 : decode cJ0_isLatin1 14 = .ok (.goto 4, 3) := by decide +kernel
theorem dJ0_isLatin1_17 : decode cJ0_isLatin1 17 = .ok (.iconst 0, 1) := by decide +kernel
theorem dJ0_isLatin1_18 : decode cJ0_isLatin1 18 = .ok (.ireturn, 1) := by decide +kernel
theorem dJ1_indexOf_0 : decode cJ1_indexOf 0 = .ok (.iload_n 1, 1) := by decide +kernel
theorem dJ1_indexOf_1 : decode cJ1_indexOf 1 = .ok (.invokestatic 88, 3) := by decide +kernel
theorem dJ1_indexOf_4 : decode cJ1_indexOf 4 = .ok (.ifCond .ne 5, 3) := by decide +kernel
theorem dJ1_indexOf_7 : decode cJ1_indexOf 7 = .ok (.iconst (-1), 1) := by decide +kernel
theorem dJ1_indexOf_8 : decode cJ1_indexOf 8 = .ok (.ireturn, 1) := by decide +kernel
theorem dJ1_indexOf_9 : decode cJ1_indexOf 9 = .ok (.iload_n 2, 1) := by decide +kernel
theorem dJ1_indexOf_10 : decode cJ1_indexOf 10 = .ok (.iconst 0, 1) := by decide +kernel
theorem dJ1_indexOf_11 : decode cJ1_indexOf 11 = .ok (.invokestatic 92, 3) := by decide +kernel
theorem dJ1_indexOf_14 : decode cJ1_indexOf 14 = .ok (.istore_n 2, 1) := by decide +kernel
theorem dJ1_indexOf_15 : decode cJ1_indexOf 15 = .ok (.iload_n 3, 1) := by decide +kernel
theorem dJ1_indexOf_16 : decode cJ1_indexOf 16 = .ok (.aload_n 0, 1) := by decide +kernel
theorem dJ1_indexOf_17 : decode cJ1_indexOf 17 = .ok (.arraylength, 1) := by decide +kernel
theorem dJ1_indexOf_18 : decode cJ1_indexOf 18 = .ok (.invokestatic 38, 3) := by decide +kernel
theorem dJ1_indexOf_21 : decode cJ1_indexOf 21 = .ok (.istore_n 3, 1) := by decide +kernel
theorem dJ1_indexOf_22 : decode cJ1_indexOf 22 = .ok (.iload_n 2, 1) := by decide +kernel
theorem dJ1_indexOf_23 : decode cJ1_indexOf 23 = .ok (.iload_n 3, 1) := by decide +kernel
theorem dJ1_indexOf_24 : decode cJ1_indexOf 24 = .ok (.if_icmp .lt 5, 3) := by decide +kernel
theorem dJ1_indexOf_27 : decode cJ1_indexOf 27 = .ok (.iconst (-1), 1) := by decide +kernel
theorem dJ1_indexOf_28 : decode cJ1_indexOf 28 = .ok (.ireturn, 1) := by decide +kernel
theorem dJ1_indexOf_29 : decode cJ1_indexOf 29 = .ok (.aload_n 0, 1) := by decide +kernel
theorem dJ1_indexOf_30 : decode cJ1_indexOf 30 = .ok (.iload_n 1, 1) := by decide +kernel
theorem dJ1_indexOf_31 : decode cJ1_indexOf 31 = .ok (.iload_n 2, 1) := by decide +kernel
theorem dJ1_indexOf_32 : decode cJ1_indexOf 32 = .ok (.iload_n 3, 1) := by decide +kernel
theorem dJ1_indexOf_33 : decode cJ1_indexOf 33 = .ok (.invokestatic 95, 3) := by decide +kernel
theorem dJ1_indexOf_36 : decode cJ1_indexOf 36 = .ok (.ireturn, 1) := by decide +kernel
theorem dJ1_canEncode_0 : decode cJ1_canEncode 0 = .ok (.iload_n 0, 1) := by decide +kernel
theorem dJ1_canEncode_1 : decode cJ1_canEncode 1 = .ok (.ifCond .lt 14, 3) := by decide +kernel
theorem dJ1_canEncode_4 : decode cJ1_canEncode 4 = .ok (.iload_n 0, 1) := by decide +kernel
theorem dJ1_canEncode_5 : decode cJ1_canEncode 5 = .ok (.sipush 255, 3) := by decide +kernel
theorem dJ1_canEncode_8 : decode cJ1_canEncode 8 = .ok (.if_icmp .gt 7, 3) := by decide +kernel
theorem dJ1_canEncode_11 : decode cJ1_canEncode 11 = .ok (.iconst 1, 1) := by decide +kernel
theorem dJ1_canEncode_12 : decode cJ1_canEncode 12 = .ok (.goto 4, 3) := by decide +kernel
theorem dJ1_canEncode_15 : decode cJ1_canEncode 15 = .ok (.iconst 0, 1) := by decide +kernel
theorem dJ1_canEncode_16 : decode cJ1_canEncode 16 = .ok (.ireturn, 1) := by decide +kernel
theorem dJ1_indexOfChar_0 : decode cJ1_indexOfChar 0 = .ok (.iload_n 1, 1) := by decide +kernel
theorem dJ1_indexOfChar_1 : decode cJ1_indexOfChar 1 = .ok (.i2b, 1) := by decide +kernel
theorem dJ1_indexOfChar_2 : decode cJ1_indexOfChar 2 = .ok (.istore 4, 2) := by decide +kernel
theorem dJ1_indexOfChar_4 : decode cJ1_indexOfChar 4 = .ok (.iload_n 2, 1) := by decide +kernel
theorem dJ1_indexOfChar_5 : decode cJ1_indexOfChar 5 = .ok (.istore 5, 2) := by decide +kernel
theorem dJ1_indexOfChar_7 : decode cJ1_indexOfChar 7 = .ok (.iload 5, 2) := by decide +kernel
theorem dJ1_indexOfChar_9 : decode cJ1_indexOfChar 9 = .ok (.iload_n 3, 1) := by decide +kernel
theorem dJ1_indexOfChar_10 : decode cJ1_indexOfChar 10 = .ok (.if_icmp .ge 21, 3) := by decide +kernel
theorem dJ1_indexOfChar_13 : decode cJ1_indexOfChar 13 = .ok (.aload_n 0, 1) := by decide +kernel
theorem dJ1_indexOfChar_14 : decode cJ1_indexOfChar 14 = .ok (.iload 5, 2) := by decide +kernel
theorem dJ1_indexOfChar_16 : decode cJ1_indexOfChar 16 = .ok (.baload, 1) := by decide +kernel
theorem dJ1_indexOfChar_17 : decode cJ1_indexOfChar 17 = .ok (.iload 4, 2) := by decide +kernel
theorem dJ1_indexOfChar_19 : decode cJ1_indexOfChar 19 = .ok (.if_icmp .ne 6, 3) := by decide +kernel
theorem dJ1_indexOfChar_22 : decode cJ1_indexOfChar 22 = .ok (.iload 5, 2) := by decide +kernel
theorem dJ1_indexOfChar_24 : decode cJ1_indexOfChar 24 = .ok (.ireturn, 1) := by decide +kernel
theorem dJ1_indexOfChar_25 : decode cJ1_indexOfChar 25 = .ok (.iinc 5 1, 3) := by decide +kernel
theorem dJ1_indexOfChar_28 : decode cJ1_indexOfChar 28 = .ok (.goto (-21), 3) := by decide +kernel
theorem dJ1_indexOfChar_31 : decode cJ1_indexOfChar 31 = .ok (.iconst (-1), 1) := by decide +kernel
theorem dJ1_indexOfChar_32 : decode cJ1_indexOfChar 32 = .ok (.ireturn, 1) := by decide +kernel
