/-! decode rows (by program) -/
theorem d_Mod_init_0 : decode b_Mod_init 0 = .ok (.aload_n 0, 1) := by decide +kernel
theorem d_Mod_init_1 : decode b_Mod_init 1 = .ok (.invokespecial 1, 3) := by decide +kernel
theorem d_Mod_init_4 : decode b_Mod_init 4 = .ok (.aload_n 0, 1) := by decide +kernel
theorem d_Mod_init_5 : decode b_Mod_init 5 = .ok (.sipush 3200, 3) := by decide +kernel
theorem d_Mod_init_8 : decode b_Mod_init 8 = .ok (.newarray .int, 2) := by decide +kernel
theorem d_Mod_init_10 : decode b_Mod_init 10 = .ok (.putfield 7, 3) := by decide +kernel
theorem d_Mod_init_13 : decode b_Mod_init 13 = .ok (.aload_n 0, 1) := by decide +kernel
theorem d_Mod_init_14 : decode b_Mod_init 14 = .ok (.sipush 12800, 3) := by decide +kernel
theorem d_Mod_init_17 : decode b_Mod_init 17 = .ok (.newarray .byte, 2) := by decide +kernel
theorem d_Mod_init_19 : decode b_Mod_init 19 = .ok (.putfield 13, 3) := by decide +kernel
theorem d_Mod_init_22 : decode b_Mod_init 22 = .ok (.aload_n 0, 1) := by decide +kernel
theorem d_Mod_init_23 : decode b_Mod_init 23 = .ok (.bipush 40, 2) := by decide +kernel
theorem d_Mod_init_25 : decode b_Mod_init 25 = .ok (.newarray .int, 2) := by decide +kernel
theorem d_Mod_init_27 : decode b_Mod_init 27 = .ok (.putfield 17, 3) := by decide +kernel
theorem d_Mod_init_30 : decode b_Mod_init 30 = .ok (.aload_n 0, 1) := by decide +kernel
theorem d_Mod_init_31 : decode b_Mod_init 31 = .ok (.bipush 40, 2) := by decide +kernel
theorem d_Mod_init_33 : decode b_Mod_init 33 = .ok (.newarray .int, 2) := by decide +kernel
theorem d_Mod_init_35 : decode b_Mod_init 35 = .ok (.putfield 20, 3) := by decide +kernel
theorem d_Mod_init_38 : decode b_Mod_init 38 = .ok (.aload_n 0, 1) := by decide +kernel
theorem d_Mod_init_39 : decode b_Mod_init 39 = .ok (.sipush 200, 3) := by decide +kernel
theorem d_Mod_init_42 : decode b_Mod_init 42 = .ok (.newarray .int, 2) := by decide +kernel
theorem d_Mod_init_44 : decode b_Mod_init 44 = .ok (.putfield 23, 3) := by decide +kernel
theorem d_Mod_init_47 : decode b_Mod_init 47 = .ok (.aload_n 0, 1) := by decide +kernel
theorem d_Mod_init_48 : decode b_Mod_init 48 = .ok (.bipush 40, 2) := by decide +kernel
theorem d_Mod_init_50 : decode b_Mod_init 50 = .ok (.newarray .boolean, 2) := by decide +kernel
theorem d_Mod_init_52 : decode b_Mod_init 52 = .ok (.putfield 26, 3) := by decide +kernel
theorem d_Mod_init_55 : decode b_Mod_init 55 = .ok (.aload_n 0, 1) := by decide +kernel
theorem d_Mod_init_56 : decode b_Mod_init 56 = .ok (.iconst 1, 1) := by decide +kernel
theorem d_Mod_init_57 : decode b_Mod_init 57 = .ok (.putfield 30, 3) := by decide +kernel
theorem d_Mod_init_60 : decode b_Mod_init 60 = .ok (.aload_n 0, 1) := by decide +kernel
theorem d_Mod_init_61 : decode b_Mod_init 61 = .ok (.sipush 240, 3) := by decide +kernel
theorem d_Mod_init_64 : decode b_Mod_init 64 = .ok (.newarray .int, 2) := by decide +kernel
theorem d_Mod_init_66 : decode b_Mod_init 66 = .ok (.putfield 34, 3) := by decide +kernel
theorem d_Mod_init_69 : decode b_Mod_init 69 = .ok (.aload_n 0, 1) := by decide +kernel
theorem d_Mod_init_70 : decode b_Mod_init 70 = .ok (.sipush 1440, 3) := by decide +kernel
theorem d_Mod_init_73 : decode b_Mod_init 73 = .ok (.newarray .int, 2) := by decide +kernel
theorem d_Mod_init_75 : decode b_Mod_init 75 = .ok (.putfield 37, 3) := by decide +kernel
theorem d_Mod_init_78 : decode b_Mod_init 78 = .ok (.aload_n 0, 1) := by decide +kernel
theorem d_Mod_init_79 : decode b_Mod_init 79 = .ok (.bipush 24, 2) := by decide +kernel
theorem d_Mod_init_81 : decode b_Mod_init 81 = .ok (.newarray .int, 2) := by decide +kernel
theorem d_Mod_init_83 : decode b_Mod_init 83 = .ok (.putfield 40, 3) := by decide +kernel
theorem d_Mod_init_86 : decode b_Mod_init 86 = .ok (.aload_n 0, 1) := by decide +kernel
theorem d_Mod_init_87 : decode b_Mod_init 87 = .ok (.iconst 3, 1) := by decide +kernel
theorem d_Mod_init_88 : decode b_Mod_init 88 = .ok (.newarray .int, 2) := by decide +kernel
theorem d_Mod_init_90 : decode b_Mod_init 90 = .ok (.putfield 43, 3) := by decide +kernel
theorem d_Mod_init_93 : decode b_Mod_init 93 = .ok (.aload_n 0, 1) := by decide +kernel
theorem d_Mod_init_94 : decode b_Mod_init 94 = .ok (.iconst 3, 1) := by decide +kernel
theorem d_Mod_init_95 : decode b_Mod_init 95 = .ok (.newarray .int, 2) := by decide +kernel
theorem d_Mod_init_97 : decode b_Mod_init 97 = .ok (.putfield 46, 3) := by decide +kernel
theorem d_Mod_init_100 : decode b_Mod_init 100 = .ok (.aload_n 0, 1) := by decide +kernel
theorem d_Mod_init_101 : decode b_Mod_init 101 = .ok (.bipush 80, 2) := by decide +kernel
theorem d_Mod_init_103 : decode b_Mod_init 103 = .ok (.newarray .int, 2) := by decide +kernel
theorem d_Mod_init_105 : decode b_Mod_init 105 = .ok (.putfield 49, 3) := by decide +kernel
theorem d_Mod_init_108 : decode b_Mod_init 108 = .ok (.aload_n 0, 1) := by decide +kernel
theorem d_Mod_init_109 : decode b_Mod_init 109 = .ok (.bipush 80, 2) := by decide +kernel
theorem d_Mod_init_111 : decode b_Mod_init 111 = .ok (.newarray .int, 2) := by decide +kernel
theorem d_Mod_init_113 : decode b_Mod_init 113 = .ok (.putfield 52, 3) := by decide +kernel
theorem d_Mod_init_116 : decode b_Mod_init 116 = .ok (.return_, 1) := by decide +kernel
theorem d_Mod_append_0 : decode b_Mod_append 0 = .ok (.aload_n 0, 1) := by decide +kernel
theorem d_Mod_append_1 : decode b_Mod_append 1 = .ok (.iload_n 1, 1) := by decide +kernel
theorem d_Mod_append_2 : decode b_Mod_append 2 = .ok (.iload_n 2, 1) := by decide +kernel
theorem d_Mod_append_3 : decode b_Mod_append 3 = .ok (.iconst 1, 1) := by decide +kernel
theorem d_Mod_append_4 : decode b_Mod_append 4 = .ok (.invokevirtual 100, 3) := by decide +kernel
theorem d_Mod_append_7 : decode b_Mod_append 7 = .ok (.ireturn, 1) := by decide +kernel
theorem d_Mod_grown_0 : decode b_Mod_grown 0 = .ok (.aload_n 0, 1) := by decide +kernel
theorem d_Mod_grown_1 : decode b_Mod_grown 1 = .ok (.iload_n 1, 1) := by decide +kernel
theorem d_Mod_grown_2 : decode b_Mod_grown 2 = .ok (.invokevirtual 86, 3) := by decide +kernel
theorem d_Mod_grown_5 : decode b_Mod_grown 5 = .ok (.ifCond .ne 5, 3) := by decide +kernel
theorem d_Mod_grown_8 : decode b_Mod_grown 8 = .ok (.iconst (-1), 1) := by decide +kernel
theorem d_Mod_grown_9 : decode b_Mod_grown 9 = .ok (.ireturn, 1) := by decide +kernel
theorem d_Mod_grown_10 : decode b_Mod_grown 10 = .ok (.aload_n 0, 1) := by decide +kernel
theorem d_Mod_grown_11 : decode b_Mod_grown 11 = .ok (.getfield 30, 3) := by decide +kernel
theorem d_Mod_grown_14 : decode b_Mod_grown 14 = .ok (.bipush 40, 2) := by decide +kernel
theorem d_Mod_grown_16 : decode b_Mod_grown 16 = .ok (.if_icmp .ne 6, 3) := by decide +kernel
theorem d_Mod_grown_19 : decode b_Mod_grown 19 = .ok (.bipush (-2), 2) := by decide +kernel
theorem d_Mod_grown_21 : decode b_Mod_grown 21 = .ok (.ireturn, 1) := by decide +kernel
theorem d_Mod_grown_22 : decode b_Mod_grown 22 = .ok (.aload_n 0, 1) := by decide +kernel
theorem d_Mod_grown_23 : decode b_Mod_grown 23 = .ok (.getfield 17, 3) := by decide +kernel
theorem d_Mod_grown_26 : decode b_Mod_grown 26 = .ok (.iload_n 1, 1) := by decide +kernel
theorem d_Mod_grown_27 : decode b_Mod_grown 27 = .ok (.iaload, 1) := by decide +kernel
theorem d_Mod_grown_28 : decode b_Mod_grown 28 = .ok (.bipush 80, 2) := by decide +kernel
theorem d_Mod_grown_30 : decode b_Mod_grown 30 = .ok (.if_icmp .ne 6, 3) := by decide +kernel
theorem d_Mod_grown_33 : decode b_Mod_grown 33 = .ok (.bipush (-3), 2) := by decide +kernel
theorem d_Mod_grown_35 : decode b_Mod_grown 35 = .ok (.ireturn, 1) := by decide +kernel
theorem d_Mod_grown_36 : decode b_Mod_grown 36 = .ok (.aload_n 0, 1) := by decide +kernel
theorem d_Mod_grown_37 : decode b_Mod_grown 37 = .ok (.iconst 0, 1) := by decide +kernel
theorem d_Mod_grown_38 : decode b_Mod_grown 38 = .ok (.iload_n 1, 1) := by decide +kernel
theorem d_Mod_grown_39 : decode b_Mod_grown 39 = .ok (.invokevirtual 89, 3) := by decide +kernel
theorem d_Mod_grown_42 : decode b_Mod_grown 42 = .ok (.aload_n 0, 1) := by decide +kernel
theorem d_Mod_grown_43 : decode b_Mod_grown 43 = .ok (.iconst 0, 1) := by decide +kernel
theorem d_Mod_grown_44 : decode b_Mod_grown 44 = .ok (.iload_n 2, 1) := by decide +kernel
theorem d_Mod_grown_45 : decode b_Mod_grown 45 = .ok (.iload_n 3, 1) := by decide +kernel
theorem d_Mod_grown_46 : decode b_Mod_grown 46 = .ok (.invokevirtual 92, 3) := by decide +kernel
theorem d_Mod_grown_49 : decode b_Mod_grown 49 = .ok (.aload_n 0, 1) := by decide +kernel
theorem d_Mod_grown_50 : decode b_Mod_grown 50 = .ok (.iconst 0, 1) := by decide +kernel
theorem d_Mod_grown_51 : decode b_Mod_grown 51 = .ok (.invokevirtual 96, 3) := by decide +kernel
theorem d_Mod_grown_54 : decode b_Mod_grown 54 = .ok (.ireturn, 1) := by decide +kernel
theorem d_Mod_frozen_0 : decode b_Mod_frozen 0 = .ok (.aload_n 0, 1) := by decide +kernel
theorem d_Mod_frozen_1 : decode b_Mod_frozen 1 = .ok (.iload_n 1, 1) := by decide +kernel
theorem d_Mod_frozen_2 : decode b_Mod_frozen 2 = .ok (.invokevirtual 55, 3) := by decide +kernel
theorem d_Mod_frozen_5 : decode b_Mod_frozen 5 = .ok (.ifCond .eq 16, 3) := by decide +kernel
theorem d_Mod_frozen_8 : decode b_Mod_frozen 8 = .ok (.aload_n 0, 1) := by decide +kernel
theorem d_Mod_frozen_9 : decode b_Mod_frozen 9 = .ok (.getfield 26, 3) := by decide +kernel
theorem d_Mod_frozen_12 : decode b_Mod_frozen 12 = .ok (.iload_n 1, 1) := by decide +kernel
theorem d_Mod_frozen_13 : decode b_Mod_frozen 13 = .ok (.baload, 1) := by decide +kernel
theorem d_Mod_frozen_14 : decode b_Mod_frozen 14 = .ok (.ifCond .ne 7, 3) := by decide +kernel
theorem d_Mod_frozen_17 : decode b_Mod_frozen 17 = .ok (.iconst 1, 1) := by decide +kernel
theorem d_Mod_frozen_18 : decode b_Mod_frozen 18 = .ok (.goto 4, 3) := by decide +kernel
theorem d_Mod_frozen_21 : decode b_Mod_frozen 21 = .ok (.iconst 0, 1) := by decide +kernel
theorem d_Mod_frozen_22 : decode b_Mod_frozen 22 = .ok (.ireturn, 1) := by decide +kernel
theorem d_Mod_there_0 : decode b_Mod_there 0 = .ok (.iload_n 1, 1) := by decide +kernel
theorem d_Mod_there_1 : decode b_Mod_there 1 = .ok (.ifCond .lt 15, 3) := by decide +kernel
theorem d_Mod_there_4 : decode b_Mod_there 4 = .ok (.iload_n 1, 1) := by decide +kernel
theorem d_Mod_there_5 : decode b_Mod_there 5 = .ok (.aload_n 0, 1) := by decide +kernel
theorem d_Mod_there_6 : decode b_Mod_there 6 = .ok (.getfield 30, 3) := by decide +kernel
theorem d_Mod_there_9 : decode b_Mod_there 9 = .ok (.if_icmp .ge 7, 3) := by decide +kernel
theorem d_Mod_there_12 : decode b_Mod_there 12 = .ok (.iconst 1, 1) := by decide +kernel
theorem d_Mod_there_13 : decode b_Mod_there 13 = .ok (.goto 4, 3) := by decide +kernel
theorem d_Mod_there_16 : decode b_Mod_there 16 = .ok (.iconst 0, 1) := by decide +kernel
theorem d_Mod_there_17 : decode b_Mod_there 17 = .ok (.ireturn, 1) := by decide +kernel
theorem d_Mod_load_0 : decode b_Mod_load 0 = .ok (.aload_n 0, 1) := by decide +kernel
theorem d_Mod_load_1 : decode b_Mod_load 1 = .ok (.getfield 43, 3) := by decide +kernel
theorem d_Mod_load_4 : decode b_Mod_load 4 = .ok (.iload_n 1, 1) := by decide +kernel
theorem d_Mod_load_5 : decode b_Mod_load 5 = .ok (.aload_n 0, 1) := by decide +kernel
theorem d_Mod_load_6 : decode b_Mod_load 6 = .ok (.getfield 17, 3) := by decide +kernel
theorem d_Mod_load_9 : decode b_Mod_load 9 = .ok (.iload_n 2, 1) := by decide +kernel
theorem d_Mod_load_10 : decode b_Mod_load 10 = .ok (.iaload, 1) := by decide +kernel
theorem d_Mod_load_11 : decode b_Mod_load 11 = .ok (.iastore, 1) := by decide +kernel
theorem d_Mod_load_12 : decode b_Mod_load 12 = .ok (.aload_n 0, 1) := by decide +kernel
theorem d_Mod_load_13 : decode b_Mod_load 13 = .ok (.getfield 46, 3) := by decide +kernel
theorem d_Mod_load_16 : decode b_Mod_load 16 = .ok (.iload_n 1, 1) := by decide +kernel
theorem d_Mod_load_17 : decode b_Mod_load 17 = .ok (.aload_n 0, 1) := by decide +kernel
theorem d_Mod_load_18 : decode b_Mod_load 18 = .ok (.getfield 20, 3) := by decide +kernel
theorem d_Mod_load_21 : decode b_Mod_load 21 = .ok (.iload_n 2, 1) := by decide +kernel
theorem d_Mod_load_22 : decode b_Mod_load 22 = .ok (.iaload, 1) := by decide +kernel
theorem d_Mod_load_23 : decode b_Mod_load 23 = .ok (.iastore, 1) := by decide +kernel
theorem d_Mod_load_24 : decode b_Mod_load 24 = .ok (.iconst 0, 1) := by decide +kernel
theorem d_Mod_load_25 : decode b_Mod_load 25 = .ok (.istore_n 3, 1) := by decide +kernel
theorem d_Mod_load_26 : decode b_Mod_load 26 = .ok (.iload_n 3, 1) := by decide +kernel
theorem d_Mod_load_27 : decode b_Mod_load 27 = .ok (.aload_n 0, 1) := by decide +kernel
theorem d_Mod_load_28 : decode b_Mod_load 28 = .ok (.getfield 17, 3) := by decide +kernel
theorem d_Mod_load_31 : decode b_Mod_load 31 = .ok (.iload_n 2, 1) := by decide +kernel
theorem d_Mod_load_32 : decode b_Mod_load 32 = .ok (.iaload, 1) := by decide +kernel
theorem d_Mod_load_33 : decode b_Mod_load 33 = .ok (.if_icmp .ge 31, 3) := by decide +kernel
theorem d_Mod_load_36 : decode b_Mod_load 36 = .ok (.aload_n 0, 1) := by decide +kernel
theorem d_Mod_load_37 : decode b_Mod_load 37 = .ok (.getfield 34, 3) := by decide +kernel
theorem d_Mod_load_40 : decode b_Mod_load 40 = .ok (.bipush 80, 2) := by decide +kernel
theorem d_Mod_load_42 : decode b_Mod_load 42 = .ok (.iload_n 1, 1) := by decide +kernel
theorem d_Mod_load_43 : decode b_Mod_load 43 = .ok (.imul, 1) := by decide +kernel
theorem d_Mod_load_44 : decode b_Mod_load 44 = .ok (.iload_n 3, 1) := by decide +kernel
theorem d_Mod_load_45 : decode b_Mod_load 45 = .ok (.iadd, 1) := by decide +kernel
theorem d_Mod_load_46 : decode b_Mod_load 46 = .ok (.aload_n 0, 1) := by decide +kernel
theorem d_Mod_load_47 : decode b_Mod_load 47 = .ok (.getfield 7, 3) := by decide +kernel
theorem d_Mod_load_50 : decode b_Mod_load 50 = .ok (.bipush 80, 2) := by decide +kernel
theorem d_Mod_load_52 : decode b_Mod_load 52 = .ok (.iload_n 2, 1) := by decide +kernel
theorem d_Mod_load_53 : decode b_Mod_load 53 = .ok (.imul, 1) := by decide +kernel
theorem d_Mod_load_54 : decode b_Mod_load 54 = .ok (.iload_n 3, 1) := by decide +kernel
theorem d_Mod_load_55 : decode b_Mod_load 55 = .ok (.iadd, 1) := by decide +kernel
theorem d_Mod_load_56 : decode b_Mod_load 56 = .ok (.iaload, 1) := by decide +kernel
theorem d_Mod_load_57 : decode b_Mod_load 57 = .ok (.iastore, 1) := by decide +kernel
theorem d_Mod_load_58 : decode b_Mod_load 58 = .ok (.iinc 3 1, 3) := by decide +kernel
theorem d_Mod_load_61 : decode b_Mod_load 61 = .ok (.goto (-35), 3) := by decide +kernel
theorem d_Mod_load_64 : decode b_Mod_load 64 = .ok (.iconst 1, 1) := by decide +kernel
theorem d_Mod_load_65 : decode b_Mod_load 65 = .ok (.istore_n 3, 1) := by decide +kernel
theorem d_Mod_load_66 : decode b_Mod_load 66 = .ok (.iload_n 3, 1) := by decide +kernel
theorem d_Mod_load_67 : decode b_Mod_load 67 = .ok (.bipush 6, 2) := by decide +kernel
theorem d_Mod_load_69 : decode b_Mod_load 69 = .ok (.if_icmp .gt 91, 3) := by decide +kernel
theorem d_Mod_load_72 : decode b_Mod_load 72 = .ok (.iload_n 3, 1) := by decide +kernel
theorem d_Mod_load_73 : decode b_Mod_load 73 = .ok (.iconst 4, 1) := by decide +kernel
theorem d_Mod_load_74 : decode b_Mod_load 74 = .ok (.if_icmp .gt 16, 3) := by decide +kernel
theorem d_Mod_load_77 : decode b_Mod_load 77 = .ok (.aload_n 0, 1) := by decide +kernel
theorem d_Mod_load_78 : decode b_Mod_load 78 = .ok (.getfield 23, 3) := by decide +kernel
theorem d_Mod_load_81 : decode b_Mod_load 81 = .ok (.iconst 5, 1) := by decide +kernel
theorem d_Mod_load_82 : decode b_Mod_load 82 = .ok (.iload_n 2, 1) := by decide +kernel
theorem d_Mod_load_83 : decode b_Mod_load 83 = .ok (.imul, 1) := by decide +kernel
theorem d_Mod_load_84 : decode b_Mod_load 84 = .ok (.iload_n 3, 1) := by decide +kernel
theorem d_Mod_load_85 : decode b_Mod_load 85 = .ok (.iadd, 1) := by decide +kernel
theorem d_Mod_load_86 : decode b_Mod_load 86 = .ok (.iaload, 1) := by decide +kernel
theorem d_Mod_load_87 : decode b_Mod_load 87 = .ok (.goto 4, 3) := by decide +kernel
theorem d_Mod_load_90 : decode b_Mod_load 90 = .ok (.iconst 0, 1) := by decide +kernel
theorem d_Mod_load_91 : decode b_Mod_load 91 = .ok (.istore 4, 2) := by decide +kernel
theorem d_Mod_load_93 : decode b_Mod_load 93 = .ok (.aload_n 0, 1) := by decide +kernel
theorem d_Mod_load_94 : decode b_Mod_load 94 = .ok (.getfield 40, 3) := by decide +kernel
theorem d_Mod_load_97 : decode b_Mod_load 97 = .ok (.bipush 8, 2) := by decide +kernel
theorem d_Mod_load_99 : decode b_Mod_load 99 = .ok (.iload_n 1, 1) := by decide +kernel
theorem d_Mod_load_100 : decode b_Mod_load 100 = .ok (.imul, 1) := by decide +kernel
theorem d_Mod_load_101 : decode b_Mod_load 101 = .ok (.iload_n 3, 1) := by decide +kernel
theorem d_Mod_load_102 : decode b_Mod_load 102 = .ok (.iadd, 1) := by decide +kernel
theorem d_Mod_load_103 : decode b_Mod_load 103 = .ok (.iload 4, 2) := by decide +kernel
theorem d_Mod_load_105 : decode b_Mod_load 105 = .ok (.iastore, 1) := by decide +kernel
theorem d_Mod_load_106 : decode b_Mod_load 106 = .ok (.iconst 0, 1) := by decide +kernel
theorem d_Mod_load_107 : decode b_Mod_load 107 = .ok (.istore 5, 2) := by decide +kernel
theorem d_Mod_load_109 : decode b_Mod_load 109 = .ok (.iload 5, 2) := by decide +kernel
theorem d_Mod_load_111 : decode b_Mod_load 111 = .ok (.iload 4, 2) := by decide +kernel
theorem d_Mod_load_113 : decode b_Mod_load 113 = .ok (.if_icmp .ge 41, 3) := by decide +kernel
theorem d_Mod_load_116 : decode b_Mod_load 116 = .ok (.aload_n 0, 1) := by decide +kernel
theorem d_Mod_load_117 : decode b_Mod_load 117 = .ok (.getfield 37, 3) := by decide +kernel
theorem d_Mod_load_120 : decode b_Mod_load 120 = .ok (.iload_n 1, 1) := by decide +kernel
theorem d_Mod_load_121 : decode b_Mod_load 121 = .ok (.iload_n 3, 1) := by decide +kernel
theorem d_Mod_load_122 : decode b_Mod_load 122 = .ok (.iload 5, 2) := by decide +kernel
theorem d_Mod_load_124 : decode b_Mod_load 124 = .ok (.invokestatic 59, 3) := by decide +kernel
theorem d_Mod_load_127 : decode b_Mod_load 127 = .ok (.aload_n 0, 1) := by decide +kernel
theorem d_Mod_load_128 : decode b_Mod_load 128 = .ok (.getfield 13, 3) := by decide +kernel
theorem d_Mod_load_131 : decode b_Mod_load 131 = .ok (.sipush 320, 3) := by decide +kernel
theorem d_Mod_load_134 : decode b_Mod_load 134 = .ok (.iload_n 2, 1) := by decide +kernel
theorem d_Mod_load_135 : decode b_Mod_load 135 = .ok (.imul, 1) := by decide +kernel
theorem d_Mod_load_136 : decode b_Mod_load 136 = .ok (.bipush 80, 2) := by decide +kernel
theorem d_Mod_load_138 : decode b_Mod_load 138 = .ok (.iload_n 3, 1) := by decide +kernel
theorem d_Mod_load_139 : decode b_Mod_load 139 = .ok (.iconst 1, 1) := by decide +kernel
theorem d_Mod_load_140 : decode b_Mod_load 140 = .ok (.isub, 1) := by decide +kernel
theorem d_Mod_load_141 : decode b_Mod_load 141 = .ok (.imul, 1) := by decide +kernel
theorem d_Mod_load_142 : decode b_Mod_load 142 = .ok (.iadd, 1) := by decide +kernel
theorem d_Mod_load_143 : decode b_Mod_load 143 = .ok (.iload 5, 2) := by decide +kernel
theorem d_Mod_load_145 : decode b_Mod_load 145 = .ok (.iadd, 1) := by decide +kernel
theorem d_Mod_load_146 : decode b_Mod_load 146 = .ok (.baload, 1) := by decide +kernel
theorem d_Mod_load_147 : decode b_Mod_load 147 = .ok (.iastore, 1) := by decide +kernel
theorem d_Mod_load_148 : decode b_Mod_load 148 = .ok (.iinc 5 1, 3) := by decide +kernel
theorem d_Mod_load_151 : decode b_Mod_load 151 = .ok (.goto (-42), 3) := by decide +kernel
theorem d_Mod_load_154 : decode b_Mod_load 154 = .ok (.iinc 3 1, 3) := by decide +kernel
theorem d_Mod_load_157 : decode b_Mod_load 157 = .ok (.goto (-91), 3) := by decide +kernel
theorem d_Mod_load_160 : decode b_Mod_load 160 = .ok (.return_, 1) := by decide +kernel
theorem d_Mod_cell_0 : decode b_Mod_cell 0 = .ok (.sipush 480, 3) := by decide +kernel
theorem d_Mod_cell_3 : decode b_Mod_cell 3 = .ok (.iload_n 0, 1) := by decide +kernel
theorem d_Mod_cell_4 : decode b_Mod_cell 4 = .ok (.imul, 1) := by decide +kernel
theorem d_Mod_cell_5 : decode b_Mod_cell 5 = .ok (.bipush 80, 2) := by decide +kernel
theorem d_Mod_cell_7 : decode b_Mod_cell 7 = .ok (.iload_n 1, 1) := by decide +kernel
theorem d_Mod_cell_8 : decode b_Mod_cell 8 = .ok (.iconst 1, 1) := by decide +kernel
theorem d_Mod_cell_9 : decode b_Mod_cell 9 = .ok (.isub, 1) := by decide +kernel
theorem d_Mod_cell_10 : decode b_Mod_cell 10 = .ok (.imul, 1) := by decide +kernel
theorem d_Mod_cell_11 : decode b_Mod_cell 11 = .ok (.iadd, 1) := by decide +kernel
theorem d_Mod_cell_12 : decode b_Mod_cell 12 = .ok (.iload_n 2, 1) := by decide +kernel
theorem d_Mod_cell_13 : decode b_Mod_cell 13 = .ok (.iadd, 1) := by decide +kernel
theorem d_Mod_cell_14 : decode b_Mod_cell 14 = .ok (.ireturn, 1) := by decide +kernel
theorem d_Mod_add_0 : decode b_Mod_add 0 = .ok (.aload_n 0, 1) := by decide +kernel
theorem d_Mod_add_1 : decode b_Mod_add 1 = .ok (.getfield 43, 3) := by decide +kernel
theorem d_Mod_add_4 : decode b_Mod_add 4 = .ok (.iload_n 1, 1) := by decide +kernel
theorem d_Mod_add_5 : decode b_Mod_add 5 = .ok (.iaload, 1) := by decide +kernel
theorem d_Mod_add_6 : decode b_Mod_add 6 = .ok (.istore 4, 2) := by decide +kernel
theorem d_Mod_add_8 : decode b_Mod_add 8 = .ok (.iload 4, 2) := by decide +kernel
theorem d_Mod_add_10 : decode b_Mod_add 10 = .ok (.istore 5, 2) := by decide +kernel
theorem d_Mod_add_12 : decode b_Mod_add 12 = .ok (.iload 5, 2) := by decide +kernel
theorem d_Mod_add_14 : decode b_Mod_add 14 = .ok (.ifCond .le 39, 3) := by decide +kernel
theorem d_Mod_add_17 : decode b_Mod_add 17 = .ok (.iload_n 3, 1) := by decide +kernel
theorem d_Mod_add_18 : decode b_Mod_add 18 = .ok (.ifCond .ne 35, 3) := by decide +kernel
theorem d_Mod_add_21 : decode b_Mod_add 21 = .ok (.aload_n 0, 1) := by decide +kernel
theorem d_Mod_add_22 : decode b_Mod_add 22 = .ok (.getfield 34, 3) := by decide +kernel
theorem d_Mod_add_25 : decode b_Mod_add 25 = .ok (.bipush 80, 2) := by decide +kernel
theorem d_Mod_add_27 : decode b_Mod_add 27 = .ok (.iload_n 1, 1) := by decide +kernel
theorem d_Mod_add_28 : decode b_Mod_add 28 = .ok (.imul, 1) := by decide +kernel
theorem d_Mod_add_29 : decode b_Mod_add 29 = .ok (.iload 5, 2) := by decide +kernel
theorem d_Mod_add_31 : decode b_Mod_add 31 = .ok (.iadd, 1) := by decide +kernel
theorem d_Mod_add_32 : decode b_Mod_add 32 = .ok (.aload_n 0, 1) := by decide +kernel
theorem d_Mod_add_33 : decode b_Mod_add 33 = .ok (.getfield 34, 3) := by decide +kernel
theorem d_Mod_add_36 : decode b_Mod_add 36 = .ok (.bipush 80, 2) := by decide +kernel
theorem d_Mod_add_38 : decode b_Mod_add 38 = .ok (.iload_n 1, 1) := by decide +kernel
theorem d_Mod_add_39 : decode b_Mod_add 39 = .ok (.imul, 1) := by decide +kernel
theorem d_Mod_add_40 : decode b_Mod_add 40 = .ok (.iload 5, 2) := by decide +kernel
theorem d_Mod_add_42 : decode b_Mod_add 42 = .ok (.iadd, 1) := by decide +kernel
theorem d_Mod_add_43 : decode b_Mod_add 43 = .ok (.iconst 1, 1) := by decide +kernel
theorem d_Mod_add_44 : decode b_Mod_add 44 = .ok (.isub, 1) := by decide +kernel
theorem d_Mod_add_45 : decode b_Mod_add 45 = .ok (.iaload, 1) := by decide +kernel
theorem d_Mod_add_46 : decode b_Mod_add 46 = .ok (.iastore, 1) := by decide +kernel
theorem d_Mod_add_47 : decode b_Mod_add 47 = .ok (.iinc 5 (-1), 3) := by decide +kernel
theorem d_Mod_add_50 : decode b_Mod_add 50 = .ok (.goto (-38), 3) := by decide +kernel
theorem d_Mod_add_53 : decode b_Mod_add 53 = .ok (.aload_n 0, 1) := by decide +kernel
theorem d_Mod_add_54 : decode b_Mod_add 54 = .ok (.getfield 34, 3) := by decide +kernel
theorem d_Mod_add_57 : decode b_Mod_add 57 = .ok (.bipush 80, 2) := by decide +kernel
theorem d_Mod_add_59 : decode b_Mod_add 59 = .ok (.iload_n 1, 1) := by decide +kernel
theorem d_Mod_add_60 : decode b_Mod_add 60 = .ok (.imul, 1) := by decide +kernel
theorem d_Mod_add_61 : decode b_Mod_add 61 = .ok (.iload_n 3, 1) := by decide +kernel
theorem d_Mod_add_62 : decode b_Mod_add 62 = .ok (.ifCond .eq 8, 3) := by decide +kernel
theorem d_Mod_add_65 : decode b_Mod_add 65 = .ok (.iload 4, 2) := by decide +kernel
theorem d_Mod_add_67 : decode b_Mod_add 67 = .ok (.goto 4, 3) := by decide +kernel
theorem d_Mod_add_70 : decode b_Mod_add 70 = .ok (.iconst 0, 1) := by decide +kernel
theorem d_Mod_add_71 : decode b_Mod_add 71 = .ok (.iadd, 1) := by decide +kernel
theorem d_Mod_add_72 : decode b_Mod_add 72 = .ok (.iload_n 2, 1) := by decide +kernel
theorem d_Mod_add_73 : decode b_Mod_add 73 = .ok (.iastore, 1) := by decide +kernel
theorem d_Mod_add_74 : decode b_Mod_add 74 = .ok (.aload_n 0, 1) := by decide +kernel
theorem d_Mod_add_75 : decode b_Mod_add 75 = .ok (.getfield 43, 3) := by decide +kernel
theorem d_Mod_add_78 : decode b_Mod_add 78 = .ok (.iload_n 1, 1) := by decide +kernel
theorem d_Mod_add_79 : decode b_Mod_add 79 = .ok (.iload 4, 2) := by decide +kernel
theorem d_Mod_add_81 : decode b_Mod_add 81 = .ok (.iconst 1, 1) := by decide +kernel
theorem d_Mod_add_82 : decode b_Mod_add 82 = .ok (.iadd, 1) := by decide +kernel
theorem d_Mod_add_83 : decode b_Mod_add 83 = .ok (.iastore, 1) := by decide +kernel
theorem d_Mod_add_84 : decode b_Mod_add 84 = .ok (.aload_n 0, 1) := by decide +kernel
theorem d_Mod_add_85 : decode b_Mod_add 85 = .ok (.getfield 46, 3) := by decide +kernel
theorem d_Mod_add_88 : decode b_Mod_add 88 = .ok (.iload_n 1, 1) := by decide +kernel
theorem d_Mod_add_89 : decode b_Mod_add 89 = .ok (.iaload, 1) := by decide +kernel
theorem d_Mod_add_90 : decode b_Mod_add 90 = .ok (.istore 5, 2) := by decide +kernel
theorem d_Mod_add_92 : decode b_Mod_add 92 = .ok (.iconst 0, 1) := by decide +kernel
theorem d_Mod_add_93 : decode b_Mod_add 93 = .ok (.istore 6, 2) := by decide +kernel
theorem d_Mod_add_95 : decode b_Mod_add 95 = .ok (.iload 5, 2) := by decide +kernel
theorem d_Mod_add_97 : decode b_Mod_add 97 = .ok (.istore 7, 2) := by decide +kernel
theorem d_Mod_add_99 : decode b_Mod_add 99 = .ok (.iload 7, 2) := by decide +kernel
theorem d_Mod_add_101 : decode b_Mod_add 101 = .ok (.iconst 1, 1) := by decide +kernel
theorem d_Mod_add_102 : decode b_Mod_add 102 = .ok (.if_icmp .lt 54, 3) := by decide +kernel
theorem d_Mod_add_105 : decode b_Mod_add 105 = .ok (.iload_n 3, 1) := by decide +kernel
theorem d_Mod_add_106 : decode b_Mod_add 106 = .ok (.ifCond .eq 20, 3) := by decide +kernel
theorem d_Mod_add_109 : decode b_Mod_add 109 = .ok (.aload_n 0, 1) := by decide +kernel
theorem d_Mod_add_110 : decode b_Mod_add 110 = .ok (.getfield 40, 3) := by decide +kernel
theorem d_Mod_add_113 : decode b_Mod_add 113 = .ok (.bipush 8, 2) := by decide +kernel
theorem d_Mod_add_115 : decode b_Mod_add 115 = .ok (.iload_n 1, 1) := by decide +kernel
theorem d_Mod_add_116 : decode b_Mod_add 116 = .ok (.imul, 1) := by decide +kernel
theorem d_Mod_add_117 : decode b_Mod_add 117 = .ok (.iload 7, 2) := by decide +kernel
theorem d_Mod_add_119 : decode b_Mod_add 119 = .ok (.iadd, 1) := by decide +kernel
theorem d_Mod_add_120 : decode b_Mod_add 120 = .ok (.iaload, 1) := by decide +kernel
theorem d_Mod_add_121 : decode b_Mod_add 121 = .ok (.iconst 1, 1) := by decide +kernel
theorem d_Mod_add_122 : decode b_Mod_add 122 = .ok (.isub, 1) := by decide +kernel
theorem d_Mod_add_123 : decode b_Mod_add 123 = .ok (.goto 4, 3) := by decide +kernel
theorem d_Mod_add_126 : decode b_Mod_add 126 = .ok (.iconst 0, 1) := by decide +kernel
theorem d_Mod_add_127 : decode b_Mod_add 127 = .ok (.istore 8, 2) := by decide +kernel
theorem d_Mod_add_129 : decode b_Mod_add 129 = .ok (.aload_n 0, 1) := by decide +kernel
theorem d_Mod_add_130 : decode b_Mod_add 130 = .ok (.getfield 37, 3) := by decide +kernel
theorem d_Mod_add_133 : decode b_Mod_add 133 = .ok (.iload_n 1, 1) := by decide +kernel
theorem d_Mod_add_134 : decode b_Mod_add 134 = .ok (.iload 7, 2) := by decide +kernel
theorem d_Mod_add_136 : decode b_Mod_add 136 = .ok (.iload 8, 2) := by decide +kernel
theorem d_Mod_add_138 : decode b_Mod_add 138 = .ok (.invokestatic 59, 3) := by decide +kernel
theorem d_Mod_add_141 : decode b_Mod_add 141 = .ok (.iaload, 1) := by decide +kernel
theorem d_Mod_add_142 : decode b_Mod_add 142 = .ok (.iconst 4, 1) := by decide +kernel
theorem d_Mod_add_143 : decode b_Mod_add 143 = .ok (.if_icmp .ge 7, 3) := by decide +kernel
theorem d_Mod_add_146 : decode b_Mod_add 146 = .ok (.iload 7, 2) := by decide +kernel
theorem d_Mod_add_148 : decode b_Mod_add 148 = .ok (.istore 6, 2) := by decide +kernel
theorem d_Mod_add_150 : decode b_Mod_add 150 = .ok (.iinc 7 (-1), 3) := by decide +kernel
theorem d_Mod_add_153 : decode b_Mod_add 153 = .ok (.goto (-54), 3) := by decide +kernel
theorem d_Mod_add_156 : decode b_Mod_add 156 = .ok (.iload 6, 2) := by decide +kernel
theorem d_Mod_add_158 : decode b_Mod_add 158 = .ok (.ifCond .le 47, 3) := by decide +kernel
theorem d_Mod_add_161 : decode b_Mod_add 161 = .ok (.iload_n 3, 1) := by decide +kernel
theorem d_Mod_add_162 : decode b_Mod_add 162 = .ok (.ifCond .eq 20, 3) := by decide +kernel
theorem d_Mod_add_165 : decode b_Mod_add 165 = .ok (.aload_n 0, 1) := by decide +kernel
theorem d_Mod_add_166 : decode b_Mod_add 166 = .ok (.getfield 40, 3) := by decide +kernel
theorem d_Mod_add_169 : decode b_Mod_add 169 = .ok (.bipush 8, 2) := by decide +kernel
theorem d_Mod_add_171 : decode b_Mod_add 171 = .ok (.iload_n 1, 1) := by decide +kernel
theorem d_Mod_add_172 : decode b_Mod_add 172 = .ok (.imul, 1) := by decide +kernel
theorem d_Mod_add_173 : decode b_Mod_add 173 = .ok (.iload 6, 2) := by decide +kernel
theorem d_Mod_add_175 : decode b_Mod_add 175 = .ok (.iadd, 1) := by decide +kernel
theorem d_Mod_add_176 : decode b_Mod_add 176 = .ok (.iaload, 1) := by decide +kernel
theorem d_Mod_add_177 : decode b_Mod_add 177 = .ok (.iconst 1, 1) := by decide +kernel
theorem d_Mod_add_178 : decode b_Mod_add 178 = .ok (.isub, 1) := by decide +kernel
theorem d_Mod_add_179 : decode b_Mod_add 179 = .ok (.goto 4, 3) := by decide +kernel
theorem d_Mod_add_182 : decode b_Mod_add 182 = .ok (.iconst 0, 1) := by decide +kernel
theorem d_Mod_add_183 : decode b_Mod_add 183 = .ok (.istore 7, 2) := by decide +kernel
theorem d_Mod_add_185 : decode b_Mod_add 185 = .ok (.aload_n 0, 1) := by decide +kernel
theorem d_Mod_add_186 : decode b_Mod_add 186 = .ok (.getfield 37, 3) := by decide +kernel
theorem d_Mod_add_189 : decode b_Mod_add 189 = .ok (.iload_n 1, 1) := by decide +kernel
theorem d_Mod_add_190 : decode b_Mod_add 190 = .ok (.iload 6, 2) := by decide +kernel
theorem d_Mod_add_192 : decode b_Mod_add 192 = .ok (.iload 7, 2) := by decide +kernel
theorem d_Mod_add_194 : decode b_Mod_add 194 = .ok (.invokestatic 59, 3) := by decide +kernel
theorem d_Mod_add_197 : decode b_Mod_add 197 = .ok (.dup2, 1) := by decide +kernel
theorem d_Mod_add_198 : decode b_Mod_add 198 = .ok (.iaload, 1) := by decide +kernel
theorem d_Mod_add_199 : decode b_Mod_add 199 = .ok (.iconst 1, 1) := by decide +kernel
theorem d_Mod_add_200 : decode b_Mod_add 200 = .ok (.iadd, 1) := by decide +kernel
theorem d_Mod_add_201 : decode b_Mod_add 201 = .ok (.iastore, 1) := by decide +kernel
theorem d_Mod_add_202 : decode b_Mod_add 202 = .ok (.goto 35, 3) := by decide +kernel
theorem d_Mod_add_205 : decode b_Mod_add 205 = .ok (.iload 5, 2) := by decide +kernel
theorem d_Mod_add_207 : decode b_Mod_add 207 = .ok (.iconst 1, 1) := by decide +kernel
theorem d_Mod_add_208 : decode b_Mod_add 208 = .ok (.iadd, 1) := by decide +kernel
theorem d_Mod_add_209 : decode b_Mod_add 209 = .ok (.istore 6, 2) := by decide +kernel
theorem d_Mod_add_211 : decode b_Mod_add 211 = .ok (.aload_n 0, 1) := by decide +kernel
theorem d_Mod_add_212 : decode b_Mod_add 212 = .ok (.iload_n 1, 1) := by decide +kernel
theorem d_Mod_add_213 : decode b_Mod_add 213 = .ok (.iload 6, 2) := by decide +kernel
theorem d_Mod_add_215 : decode b_Mod_add 215 = .ok (.iconst 0, 1) := by decide +kernel
theorem d_Mod_add_216 : decode b_Mod_add 216 = .ok (.iload 5, 2) := by decide +kernel
theorem d_Mod_add_218 : decode b_Mod_add 218 = .ok (.ifCond .ne 7, 3) := by decide +kernel
theorem d_Mod_add_221 : decode b_Mod_add 221 = .ok (.iconst 1, 1) := by decide +kernel
theorem d_Mod_add_222 : decode b_Mod_add 222 = .ok (.goto 4, 3) := by decide +kernel
theorem d_Mod_add_225 : decode b_Mod_add 225 = .ok (.iconst 2, 1) := by decide +kernel
theorem d_Mod_add_226 : decode b_Mod_add 226 = .ok (.invokevirtual 67, 3) := by decide +kernel
theorem d_Mod_add_229 : decode b_Mod_add 229 = .ok (.aload_n 0, 1) := by decide +kernel
theorem d_Mod_add_230 : decode b_Mod_add 230 = .ok (.getfield 46, 3) := by decide +kernel
theorem d_Mod_add_233 : decode b_Mod_add 233 = .ok (.iload_n 1, 1) := by decide +kernel
theorem d_Mod_add_234 : decode b_Mod_add 234 = .ok (.iload 6, 2) := by decide +kernel
theorem d_Mod_add_236 : decode b_Mod_add 236 = .ok (.iastore, 1) := by decide +kernel
theorem d_Mod_add_237 : decode b_Mod_add 237 = .ok (.iconst 1, 1) := by decide +kernel
theorem d_Mod_add_238 : decode b_Mod_add 238 = .ok (.istore 7, 2) := by decide +kernel
theorem d_Mod_add_240 : decode b_Mod_add 240 = .ok (.iload 7, 2) := by decide +kernel
theorem d_Mod_add_242 : decode b_Mod_add 242 = .ok (.iload 6, 2) := by decide +kernel
theorem d_Mod_add_244 : decode b_Mod_add 244 = .ok (.if_icmp .ge 37, 3) := by decide +kernel
theorem d_Mod_add_247 : decode b_Mod_add 247 = .ok (.aload_n 0, 1) := by decide +kernel
theorem d_Mod_add_248 : decode b_Mod_add 248 = .ok (.iload_n 1, 1) := by decide +kernel
theorem d_Mod_add_249 : decode b_Mod_add 249 = .ok (.iload 7, 2) := by decide +kernel
theorem d_Mod_add_251 : decode b_Mod_add 251 = .ok (.iload_n 3, 1) := by decide +kernel
theorem d_Mod_add_252 : decode b_Mod_add 252 = .ok (.ifCond .eq 18, 3) := by decide +kernel
theorem d_Mod_add_255 : decode b_Mod_add 255 = .ok (.aload_n 0, 1) := by decide +kernel
theorem d_Mod_add_256 : decode b_Mod_add 256 = .ok (.getfield 40, 3) := by decide +kernel
theorem d_Mod_add_259 : decode b_Mod_add 259 = .ok (.bipush 8, 2) := by decide +kernel
theorem d_Mod_add_261 : decode b_Mod_add 261 = .ok (.iload_n 1, 1) := by decide +kernel
theorem d_Mod_add_262 : decode b_Mod_add 262 = .ok (.imul, 1) := by decide +kernel
theorem d_Mod_add_263 : decode b_Mod_add 263 = .ok (.iload 7, 2) := by decide +kernel
theorem d_Mod_add_265 : decode b_Mod_add 265 = .ok (.iadd, 1) := by decide +kernel
theorem d_Mod_add_266 : decode b_Mod_add 266 = .ok (.iaload, 1) := by decide +kernel
theorem d_Mod_add_267 : decode b_Mod_add 267 = .ok (.goto 4, 3) := by decide +kernel
theorem d_Mod_add_270 : decode b_Mod_add 270 = .ok (.iconst 0, 1) := by decide +kernel
theorem d_Mod_add_271 : decode b_Mod_add 271 = .ok (.iconst 1, 1) := by decide +kernel
theorem d_Mod_add_272 : decode b_Mod_add 272 = .ok (.invokevirtual 67, 3) := by decide +kernel
theorem d_Mod_add_275 : decode b_Mod_add 275 = .ok (.iinc 7 1, 3) := by decide +kernel
theorem d_Mod_add_278 : decode b_Mod_add 278 = .ok (.goto (-38), 3) := by decide +kernel
theorem d_Mod_add_281 : decode b_Mod_add 281 = .ok (.return_, 1) := by decide +kernel
theorem d_Mod_enter_0 : decode b_Mod_enter 0 = .ok (.aload_n 0, 1) := by decide +kernel
theorem d_Mod_enter_1 : decode b_Mod_enter 1 = .ok (.getfield 40, 3) := by decide +kernel
theorem d_Mod_enter_4 : decode b_Mod_enter 4 = .ok (.bipush 8, 2) := by decide +kernel
theorem d_Mod_enter_6 : decode b_Mod_enter 6 = .ok (.iload_n 1, 1) := by decide +kernel
theorem d_Mod_enter_7 : decode b_Mod_enter 7 = .ok (.imul, 1) := by decide +kernel
theorem d_Mod_enter_8 : decode b_Mod_enter 8 = .ok (.iload_n 2, 1) := by decide +kernel
theorem d_Mod_enter_9 : decode b_Mod_enter 9 = .ok (.iadd, 1) := by decide +kernel
theorem d_Mod_enter_10 : decode b_Mod_enter 10 = .ok (.iaload, 1) := by decide +kernel
theorem d_Mod_enter_11 : decode b_Mod_enter 11 = .ok (.istore 5, 2) := by decide +kernel
theorem d_Mod_enter_13 : decode b_Mod_enter 13 = .ok (.iload 5, 2) := by decide +kernel
theorem d_Mod_enter_15 : decode b_Mod_enter 15 = .ok (.istore 6, 2) := by decide +kernel
theorem d_Mod_enter_17 : decode b_Mod_enter 17 = .ok (.iload 6, 2) := by decide +kernel
theorem d_Mod_enter_19 : decode b_Mod_enter 19 = .ok (.iload_n 3, 1) := by decide +kernel
theorem d_Mod_enter_20 : decode b_Mod_enter 20 = .ok (.if_icmp .le 35, 3) := by decide +kernel
theorem d_Mod_enter_23 : decode b_Mod_enter 23 = .ok (.aload_n 0, 1) := by decide +kernel
theorem d_Mod_enter_24 : decode b_Mod_enter 24 = .ok (.getfield 37, 3) := by decide +kernel
theorem d_Mod_enter_27 : decode b_Mod_enter 27 = .ok (.iload_n 1, 1) := by decide +kernel
theorem d_Mod_enter_28 : decode b_Mod_enter 28 = .ok (.iload_n 2, 1) := by decide +kernel
theorem d_Mod_enter_29 : decode b_Mod_enter 29 = .ok (.iload 6, 2) := by decide +kernel
theorem d_Mod_enter_31 : decode b_Mod_enter 31 = .ok (.invokestatic 59, 3) := by decide +kernel
theorem d_Mod_enter_34 : decode b_Mod_enter 34 = .ok (.aload_n 0, 1) := by decide +kernel
theorem d_Mod_enter_35 : decode b_Mod_enter 35 = .ok (.getfield 37, 3) := by decide +kernel
theorem d_Mod_enter_38 : decode b_Mod_enter 38 = .ok (.iload_n 1, 1) := by decide +kernel
theorem d_Mod_enter_39 : decode b_Mod_enter 39 = .ok (.iload_n 2, 1) := by decide +kernel
theorem d_Mod_enter_40 : decode b_Mod_enter 40 = .ok (.iload 6, 2) := by decide +kernel
theorem d_Mod_enter_42 : decode b_Mod_enter 42 = .ok (.iconst 1, 1) := by decide +kernel
theorem d_Mod_enter_43 : decode b_Mod_enter 43 = .ok (.isub, 1) := by decide +kernel
theorem d_Mod_enter_44 : decode b_Mod_enter 44 = .ok (.invokestatic 59, 3) := by decide +kernel
theorem d_Mod_enter_47 : decode b_Mod_enter 47 = .ok (.iaload, 1) := by decide +kernel
theorem d_Mod_enter_48 : decode b_Mod_enter 48 = .ok (.iastore, 1) := by decide +kernel
theorem d_Mod_enter_49 : decode b_Mod_enter 49 = .ok (.iinc 6 (-1), 3) := by decide +kernel
theorem d_Mod_enter_52 : decode b_Mod_enter 52 = .ok (.goto (-35), 3) := by decide +kernel
theorem d_Mod_enter_55 : decode b_Mod_enter 55 = .ok (.aload_n 0, 1) := by decide +kernel
theorem d_Mod_enter_56 : decode b_Mod_enter 56 = .ok (.getfield 37, 3) := by decide +kernel
theorem d_Mod_enter_59 : decode b_Mod_enter 59 = .ok (.iload_n 1, 1) := by decide +kernel
theorem d_Mod_enter_60 : decode b_Mod_enter 60 = .ok (.iload_n 2, 1) := by decide +kernel
theorem d_Mod_enter_61 : decode b_Mod_enter 61 = .ok (.iload_n 3, 1) := by decide +kernel
theorem d_Mod_enter_62 : decode b_Mod_enter 62 = .ok (.invokestatic 59, 3) := by decide +kernel
theorem d_Mod_enter_65 : decode b_Mod_enter 65 = .ok (.iload 4, 2) := by decide +kernel
theorem d_Mod_enter_67 : decode b_Mod_enter 67 = .ok (.iastore, 1) := by decide +kernel
theorem d_Mod_enter_68 : decode b_Mod_enter 68 = .ok (.aload_n 0, 1) := by decide +kernel
theorem d_Mod_enter_69 : decode b_Mod_enter 69 = .ok (.getfield 40, 3) := by decide +kernel
theorem d_Mod_enter_72 : decode b_Mod_enter 72 = .ok (.bipush 8, 2) := by decide +kernel
theorem d_Mod_enter_74 : decode b_Mod_enter 74 = .ok (.iload_n 1, 1) := by decide +kernel
theorem d_Mod_enter_75 : decode b_Mod_enter 75 = .ok (.imul, 1) := by decide +kernel
theorem d_Mod_enter_76 : decode b_Mod_enter 76 = .ok (.iload_n 2, 1) := by decide +kernel
theorem d_Mod_enter_77 : decode b_Mod_enter 77 = .ok (.iadd, 1) := by decide +kernel
theorem d_Mod_enter_78 : decode b_Mod_enter 78 = .ok (.iload 5, 2) := by decide +kernel
theorem d_Mod_enter_80 : decode b_Mod_enter 80 = .ok (.iconst 1, 1) := by decide +kernel
theorem d_Mod_enter_81 : decode b_Mod_enter 81 = .ok (.iadd, 1) := by decide +kernel
theorem d_Mod_enter_82 : decode b_Mod_enter 82 = .ok (.iastore, 1) := by decide +kernel
theorem d_Mod_enter_83 : decode b_Mod_enter 83 = .ok (.return_, 1) := by decide +kernel
theorem d_Mod_newVersion_0 : decode b_Mod_newVersion 0 = .ok (.aload_n 0, 1) := by decide +kernel
theorem d_Mod_newVersion_1 : decode b_Mod_newVersion 1 = .ok (.getfield 46, 3) := by decide +kernel
theorem d_Mod_newVersion_4 : decode b_Mod_newVersion 4 = .ok (.iload_n 1, 1) := by decide +kernel
theorem d_Mod_newVersion_5 : decode b_Mod_newVersion 5 = .ok (.iaload, 1) := by decide +kernel
theorem d_Mod_newVersion_6 : decode b_Mod_newVersion 6 = .ok (.iconst 4, 1) := by decide +kernel
theorem d_Mod_newVersion_7 : decode b_Mod_newVersion 7 = .ok (.if_icmp .le 6, 3) := by decide +kernel
theorem d_Mod_newVersion_10 : decode b_Mod_newVersion 10 = .ok (.bipush (-4), 2) := by decide +kernel
theorem d_Mod_newVersion_12 : decode b_Mod_newVersion 12 = .ok (.ireturn, 1) := by decide +kernel
theorem d_Mod_newVersion_13 : decode b_Mod_newVersion 13 = .ok (.aload_n 0, 1) := by decide +kernel
theorem d_Mod_newVersion_14 : decode b_Mod_newVersion 14 = .ok (.iload_n 1, 1) := by decide +kernel
theorem d_Mod_newVersion_15 : decode b_Mod_newVersion 15 = .ok (.aload_n 0, 1) := by decide +kernel
theorem d_Mod_newVersion_16 : decode b_Mod_newVersion 16 = .ok (.getfield 30, 3) := by decide +kernel
theorem d_Mod_newVersion_19 : decode b_Mod_newVersion 19 = .ok (.invokevirtual 63, 3) := by decide +kernel
theorem d_Mod_newVersion_22 : decode b_Mod_newVersion 22 = .ok (.aload_n 0, 1) := by decide +kernel
theorem d_Mod_newVersion_23 : decode b_Mod_newVersion 23 = .ok (.getfield 26, 3) := by decide +kernel
theorem d_Mod_newVersion_26 : decode b_Mod_newVersion 26 = .ok (.aload_n 0, 1) := by decide +kernel
theorem d_Mod_newVersion_27 : decode b_Mod_newVersion 27 = .ok (.getfield 30, 3) := by decide +kernel
theorem d_Mod_newVersion_30 : decode b_Mod_newVersion 30 = .ok (.iconst 0, 1) := by decide +kernel
theorem d_Mod_newVersion_31 : decode b_Mod_newVersion 31 = .ok (.bastore, 1) := by decide +kernel
theorem d_Mod_newVersion_32 : decode b_Mod_newVersion 32 = .ok (.aload_n 0, 1) := by decide +kernel
theorem d_Mod_newVersion_33 : decode b_Mod_newVersion 33 = .ok (.dup, 1) := by decide +kernel
theorem d_Mod_newVersion_34 : decode b_Mod_newVersion 34 = .ok (.getfield 30, 3) := by decide +kernel
theorem d_Mod_newVersion_37 : decode b_Mod_newVersion 37 = .ok (.iconst 1, 1) := by decide +kernel
theorem d_Mod_newVersion_38 : decode b_Mod_newVersion 38 = .ok (.iadd, 1) := by decide +kernel
theorem d_Mod_newVersion_39 : decode b_Mod_newVersion 39 = .ok (.putfield 30, 3) := by decide +kernel
theorem d_Mod_newVersion_42 : decode b_Mod_newVersion 42 = .ok (.aload_n 0, 1) := by decide +kernel
theorem d_Mod_newVersion_43 : decode b_Mod_newVersion 43 = .ok (.getfield 30, 3) := by decide +kernel
theorem d_Mod_newVersion_46 : decode b_Mod_newVersion 46 = .ok (.iconst 1, 1) := by decide +kernel
theorem d_Mod_newVersion_47 : decode b_Mod_newVersion 47 = .ok (.isub, 1) := by decide +kernel
theorem d_Mod_newVersion_48 : decode b_Mod_newVersion 48 = .ok (.ireturn, 1) := by decide +kernel
theorem d_Mod_store_0 : decode b_Mod_store 0 = .ok (.aload_n 0, 1) := by decide +kernel
theorem d_Mod_store_1 : decode b_Mod_store 1 = .ok (.getfield 17, 3) := by decide +kernel
theorem d_Mod_store_4 : decode b_Mod_store 4 = .ok (.iload_n 2, 1) := by decide +kernel
theorem d_Mod_store_5 : decode b_Mod_store 5 = .ok (.aload_n 0, 1) := by decide +kernel
theorem d_Mod_store_6 : decode b_Mod_store 6 = .ok (.getfield 43, 3) := by decide +kernel
theorem d_Mod_store_9 : decode b_Mod_store 9 = .ok (.iload_n 1, 1) := by decide +kernel
theorem d_Mod_store_10 : decode b_Mod_store 10 = .ok (.iaload, 1) := by decide +kernel
theorem d_Mod_store_11 : decode b_Mod_store 11 = .ok (.iastore, 1) := by decide +kernel
theorem d_Mod_store_12 : decode b_Mod_store 12 = .ok (.aload_n 0, 1) := by decide +kernel
theorem d_Mod_store_13 : decode b_Mod_store 13 = .ok (.getfield 20, 3) := by decide +kernel
theorem d_Mod_store_16 : decode b_Mod_store 16 = .ok (.iload_n 2, 1) := by decide +kernel
theorem d_Mod_store_17 : decode b_Mod_store 17 = .ok (.aload_n 0, 1) := by decide +kernel
theorem d_Mod_store_18 : decode b_Mod_store 18 = .ok (.getfield 46, 3) := by decide +kernel
theorem d_Mod_store_21 : decode b_Mod_store 21 = .ok (.iload_n 1, 1) := by decide +kernel
theorem d_Mod_store_22 : decode b_Mod_store 22 = .ok (.iaload, 1) := by decide +kernel
theorem d_Mod_store_23 : decode b_Mod_store 23 = .ok (.iastore, 1) := by decide +kernel
theorem d_Mod_store_24 : decode b_Mod_store 24 = .ok (.iconst 0, 1) := by decide +kernel
theorem d_Mod_store_25 : decode b_Mod_store 25 = .ok (.istore_n 3, 1) := by decide +kernel
theorem d_Mod_store_26 : decode b_Mod_store 26 = .ok (.iload_n 3, 1) := by decide +kernel
theorem d_Mod_store_27 : decode b_Mod_store 27 = .ok (.aload_n 0, 1) := by decide +kernel
theorem d_Mod_store_28 : decode b_Mod_store 28 = .ok (.getfield 43, 3) := by decide +kernel
theorem d_Mod_store_31 : decode b_Mod_store 31 = .ok (.iload_n 1, 1) := by decide +kernel
theorem d_Mod_store_32 : decode b_Mod_store 32 = .ok (.iaload, 1) := by decide +kernel
theorem d_Mod_store_33 : decode b_Mod_store 33 = .ok (.if_icmp .ge 31, 3) := by decide +kernel
theorem d_Mod_store_36 : decode b_Mod_store 36 = .ok (.aload_n 0, 1) := by decide +kernel
theorem d_Mod_store_37 : decode b_Mod_store 37 = .ok (.getfield 7, 3) := by decide +kernel
theorem d_Mod_store_40 : decode b_Mod_store 40 = .ok (.bipush 80, 2) := by decide +kernel
theorem d_Mod_store_42 : decode b_Mod_store 42 = .ok (.iload_n 2, 1) := by decide +kernel
theorem d_Mod_store_43 : decode b_Mod_store 43 = .ok (.imul, 1) := by decide +kernel
theorem d_Mod_store_44 : decode b_Mod_store 44 = .ok (.iload_n 3, 1) := by decide +kernel
theorem d_Mod_store_45 : decode b_Mod_store 45 = .ok (.iadd, 1) := by decide +kernel
theorem d_Mod_store_46 : decode b_Mod_store 46 = .ok (.aload_n 0, 1) := by decide +kernel
theorem d_Mod_store_47 : decode b_Mod_store 47 = .ok (.getfield 34, 3) := by decide +kernel
theorem d_Mod_store_50 : decode b_Mod_store 50 = .ok (.bipush 80, 2) := by decide +kernel
theorem d_Mod_store_52 : decode b_Mod_store 52 = .ok (.iload_n 1, 1) := by decide +kernel
theorem d_Mod_store_53 : decode b_Mod_store 53 = .ok (.imul, 1) := by decide +kernel
theorem d_Mod_store_54 : decode b_Mod_store 54 = .ok (.iload_n 3, 1) := by decide +kernel
theorem d_Mod_store_55 : decode b_Mod_store 55 = .ok (.iadd, 1) := by decide +kernel
theorem d_Mod_store_56 : decode b_Mod_store 56 = .ok (.iaload, 1) := by decide +kernel
theorem d_Mod_store_57 : decode b_Mod_store 57 = .ok (.iastore, 1) := by decide +kernel
theorem d_Mod_store_58 : decode b_Mod_store 58 = .ok (.iinc 3 1, 3) := by decide +kernel
theorem d_Mod_store_61 : decode b_Mod_store 61 = .ok (.goto (-35), 3) := by decide +kernel
theorem d_Mod_store_64 : decode b_Mod_store 64 = .ok (.iconst 1, 1) := by decide +kernel
theorem d_Mod_store_65 : decode b_Mod_store 65 = .ok (.istore_n 3, 1) := by decide +kernel
theorem d_Mod_store_66 : decode b_Mod_store 66 = .ok (.iload_n 3, 1) := by decide +kernel
theorem d_Mod_store_67 : decode b_Mod_store 67 = .ok (.iconst 4, 1) := by decide +kernel
theorem d_Mod_store_68 : decode b_Mod_store 68 = .ok (.if_icmp .gt 83, 3) := by decide +kernel
theorem d_Mod_store_71 : decode b_Mod_store 71 = .ok (.aload_n 0, 1) := by decide +kernel
theorem d_Mod_store_72 : decode b_Mod_store 72 = .ok (.getfield 40, 3) := by decide +kernel
theorem d_Mod_store_75 : decode b_Mod_store 75 = .ok (.bipush 8, 2) := by decide +kernel
theorem d_Mod_store_77 : decode b_Mod_store 77 = .ok (.iload_n 1, 1) := by decide +kernel
theorem d_Mod_store_78 : decode b_Mod_store 78 = .ok (.imul, 1) := by decide +kernel
theorem d_Mod_store_79 : decode b_Mod_store 79 = .ok (.iload_n 3, 1) := by decide +kernel
theorem d_Mod_store_80 : decode b_Mod_store 80 = .ok (.iadd, 1) := by decide +kernel
theorem d_Mod_store_81 : decode b_Mod_store 81 = .ok (.iaload, 1) := by decide +kernel
theorem d_Mod_store_82 : decode b_Mod_store 82 = .ok (.istore 4, 2) := by decide +kernel
theorem d_Mod_store_84 : decode b_Mod_store 84 = .ok (.aload_n 0, 1) := by decide +kernel
theorem d_Mod_store_85 : decode b_Mod_store 85 = .ok (.getfield 23, 3) := by decide +kernel
theorem d_Mod_store_88 : decode b_Mod_store 88 = .ok (.iconst 5, 1) := by decide +kernel
theorem d_Mod_store_89 : decode b_Mod_store 89 = .ok (.iload_n 2, 1) := by decide +kernel
theorem d_Mod_store_90 : decode b_Mod_store 90 = .ok (.imul, 1) := by decide +kernel
theorem d_Mod_store_91 : decode b_Mod_store 91 = .ok (.iload_n 3, 1) := by decide +kernel
theorem d_Mod_store_92 : decode b_Mod_store 92 = .ok (.iadd, 1) := by decide +kernel
theorem d_Mod_store_93 : decode b_Mod_store 93 = .ok (.iload 4, 2) := by decide +kernel
theorem d_Mod_store_95 : decode b_Mod_store 95 = .ok (.iastore, 1) := by decide +kernel
theorem d_Mod_store_96 : decode b_Mod_store 96 = .ok (.iconst 0, 1) := by decide +kernel
theorem d_Mod_store_97 : decode b_Mod_store 97 = .ok (.istore 5, 2) := by decide +kernel
theorem d_Mod_store_99 : decode b_Mod_store 99 = .ok (.iload 5, 2) := by decide +kernel
theorem d_Mod_store_101 : decode b_Mod_store 101 = .ok (.iload 4, 2) := by decide +kernel
theorem d_Mod_store_103 : decode b_Mod_store 103 = .ok (.if_icmp .ge 42, 3) := by decide +kernel
theorem d_Mod_store_106 : decode b_Mod_store 106 = .ok (.aload_n 0, 1) := by decide +kernel
theorem d_Mod_store_107 : decode b_Mod_store 107 = .ok (.getfield 13, 3) := by decide +kernel
theorem d_Mod_store_110 : decode b_Mod_store 110 = .ok (.sipush 320, 3) := by decide +kernel
theorem d_Mod_store_113 : decode b_Mod_store 113 = .ok (.iload_n 2, 1) := by decide +kernel
theorem d_Mod_store_114 : decode b_Mod_store 114 = .ok (.imul, 1) := by decide +kernel
theorem d_Mod_store_115 : decode b_Mod_store 115 = .ok (.bipush 80, 2) := by decide +kernel
theorem d_Mod_store_117 : decode b_Mod_store 117 = .ok (.iload_n 3, 1) := by decide +kernel
theorem d_Mod_store_118 : decode b_Mod_store 118 = .ok (.iconst 1, 1) := by decide +kernel
theorem d_Mod_store_119 : decode b_Mod_store 119 = .ok (.isub, 1) := by decide +kernel
theorem d_Mod_store_120 : decode b_Mod_store 120 = .ok (.imul, 1) := by decide +kernel
theorem d_Mod_store_121 : decode b_Mod_store 121 = .ok (.iadd, 1) := by decide +kernel
theorem d_Mod_store_122 : decode b_Mod_store 122 = .ok (.iload 5, 2) := by decide +kernel
theorem d_Mod_store_124 : decode b_Mod_store 124 = .ok (.iadd, 1) := by decide +kernel
theorem d_Mod_store_125 : decode b_Mod_store 125 = .ok (.aload_n 0, 1) := by decide +kernel
theorem d_Mod_store_126 : decode b_Mod_store 126 = .ok (.getfield 37, 3) := by decide +kernel
theorem d_Mod_store_129 : decode b_Mod_store 129 = .ok (.iload_n 1, 1) := by decide +kernel
theorem d_Mod_store_130 : decode b_Mod_store 130 = .ok (.iload_n 3, 1) := by decide +kernel
theorem d_Mod_store_131 : decode b_Mod_store 131 = .ok (.iload 5, 2) := by decide +kernel
theorem d_Mod_store_133 : decode b_Mod_store 133 = .ok (.invokestatic 59, 3) := by decide +kernel
theorem d_Mod_store_136 : decode b_Mod_store 136 = .ok (.iaload, 1) := by decide +kernel
theorem d_Mod_store_137 : decode b_Mod_store 137 = .ok (.i2b, 1) := by decide +kernel
theorem d_Mod_store_138 : decode b_Mod_store 138 = .ok (.bastore, 1) := by decide +kernel
theorem d_Mod_store_139 : decode b_Mod_store 139 = .ok (.iinc 5 1, 3) := by decide +kernel
theorem d_Mod_store_142 : decode b_Mod_store 142 = .ok (.goto (-43), 3) := by decide +kernel
theorem d_Mod_store_145 : decode b_Mod_store 145 = .ok (.iinc 3 1, 3) := by decide +kernel
theorem d_Mod_store_148 : decode b_Mod_store 148 = .ok (.goto (-82), 3) := by decide +kernel
theorem d_Mod_store_151 : decode b_Mod_store 151 = .ok (.return_, 1) := by decide +kernel
theorem d_Mod_prepend_0 : decode b_Mod_prepend 0 = .ok (.aload_n 0, 1) := by decide +kernel
theorem d_Mod_prepend_1 : decode b_Mod_prepend 1 = .ok (.iload_n 1, 1) := by decide +kernel
theorem d_Mod_prepend_2 : decode b_Mod_prepend 2 = .ok (.iload_n 2, 1) := by decide +kernel
theorem d_Mod_prepend_3 : decode b_Mod_prepend 3 = .ok (.iconst 0, 1) := by decide +kernel
theorem d_Mod_prepend_4 : decode b_Mod_prepend 4 = .ok (.invokevirtual 100, 3) := by decide +kernel
theorem d_Mod_prepend_7 : decode b_Mod_prepend 7 = .ok (.ireturn, 1) := by decide +kernel
theorem d_Mod_set_0 : decode b_Mod_set 0 = .ok (.aload_n 0, 1) := by decide +kernel
theorem d_Mod_set_1 : decode b_Mod_set 1 = .ok (.iload_n 1, 1) := by decide +kernel
theorem d_Mod_set_2 : decode b_Mod_set 2 = .ok (.invokevirtual 86, 3) := by decide +kernel
theorem d_Mod_set_5 : decode b_Mod_set 5 = .ok (.ifCond .eq 17, 3) := by decide +kernel
theorem d_Mod_set_8 : decode b_Mod_set 8 = .ok (.iload_n 2, 1) := by decide +kernel
theorem d_Mod_set_9 : decode b_Mod_set 9 = .ok (.ifCond .lt 13, 3) := by decide +kernel
theorem d_Mod_set_12 : decode b_Mod_set 12 = .ok (.iload_n 2, 1) := by decide +kernel
theorem d_Mod_set_13 : decode b_Mod_set 13 = .ok (.aload_n 0, 1) := by decide +kernel
theorem d_Mod_set_14 : decode b_Mod_set 14 = .ok (.getfield 17, 3) := by decide +kernel
theorem d_Mod_set_17 : decode b_Mod_set 17 = .ok (.iload_n 1, 1) := by decide +kernel
theorem d_Mod_set_18 : decode b_Mod_set 18 = .ok (.iaload, 1) := by decide +kernel
theorem d_Mod_set_19 : decode b_Mod_set 19 = .ok (.if_icmp .lt 5, 3) := by decide +kernel
theorem d_Mod_set_22 : decode b_Mod_set 22 = .ok (.iconst (-1), 1) := by decide +kernel
theorem d_Mod_set_23 : decode b_Mod_set 23 = .ok (.ireturn, 1) := by decide +kernel
theorem d_Mod_set_24 : decode b_Mod_set 24 = .ok (.aload_n 0, 1) := by decide +kernel
theorem d_Mod_set_25 : decode b_Mod_set 25 = .ok (.getfield 30, 3) := by decide +kernel
theorem d_Mod_set_28 : decode b_Mod_set 28 = .ok (.bipush 40, 2) := by decide +kernel
theorem d_Mod_set_30 : decode b_Mod_set 30 = .ok (.if_icmp .ne 6, 3) := by decide +kernel
theorem d_Mod_set_33 : decode b_Mod_set 33 = .ok (.bipush (-2), 2) := by decide +kernel
theorem d_Mod_set_35 : decode b_Mod_set 35 = .ok (.ireturn, 1) := by decide +kernel
theorem d_Mod_set_36 : decode b_Mod_set 36 = .ok (.aload_n 0, 1) := by decide +kernel
theorem d_Mod_set_37 : decode b_Mod_set 37 = .ok (.iconst 0, 1) := by decide +kernel
theorem d_Mod_set_38 : decode b_Mod_set 38 = .ok (.iload_n 1, 1) := by decide +kernel
theorem d_Mod_set_39 : decode b_Mod_set 39 = .ok (.invokevirtual 89, 3) := by decide +kernel
theorem d_Mod_set_42 : decode b_Mod_set 42 = .ok (.aload_n 0, 1) := by decide +kernel
theorem d_Mod_set_43 : decode b_Mod_set 43 = .ok (.getfield 34, 3) := by decide +kernel
theorem d_Mod_set_46 : decode b_Mod_set 46 = .ok (.iload_n 2, 1) := by decide +kernel
theorem d_Mod_set_47 : decode b_Mod_set 47 = .ok (.iload_n 3, 1) := by decide +kernel
theorem d_Mod_set_48 : decode b_Mod_set 48 = .ok (.iastore, 1) := by decide +kernel
theorem d_Mod_set_49 : decode b_Mod_set 49 = .ok (.aload_n 0, 1) := by decide +kernel
theorem d_Mod_set_50 : decode b_Mod_set 50 = .ok (.iconst 0, 1) := by decide +kernel
theorem d_Mod_set_51 : decode b_Mod_set 51 = .ok (.invokevirtual 96, 3) := by decide +kernel
theorem d_Mod_set_54 : decode b_Mod_set 54 = .ok (.ireturn, 1) := by decide +kernel
theorem d_Mod_concat_0 : decode b_Mod_concat 0 = .ok (.aload_n 0, 1) := by decide +kernel
theorem d_Mod_concat_1 : decode b_Mod_concat 1 = .ok (.iload_n 1, 1) := by decide +kernel
theorem d_Mod_concat_2 : decode b_Mod_concat 2 = .ok (.invokevirtual 86, 3) := by decide +kernel
theorem d_Mod_concat_5 : decode b_Mod_concat 5 = .ok (.ifCond .eq 11, 3) := by decide +kernel
theorem d_Mod_concat_8 : decode b_Mod_concat 8 = .ok (.aload_n 0, 1) := by decide +kernel
theorem d_Mod_concat_9 : decode b_Mod_concat 9 = .ok (.iload_n 2, 1) := by decide +kernel
theorem d_Mod_concat_10 : decode b_Mod_concat 10 = .ok (.invokevirtual 86, 3) := by decide +kernel
theorem d_Mod_concat_13 : decode b_Mod_concat 13 = .ok (.ifCond .ne 5, 3) := by decide +kernel
theorem d_Mod_concat_16 : decode b_Mod_concat 16 = .ok (.iconst (-1), 1) := by decide +kernel
theorem d_Mod_concat_17 : decode b_Mod_concat 17 = .ok (.ireturn, 1) := by decide +kernel
theorem d_Mod_concat_18 : decode b_Mod_concat 18 = .ok (.aload_n 0, 1) := by decide +kernel
theorem d_Mod_concat_19 : decode b_Mod_concat 19 = .ok (.getfield 30, 3) := by decide +kernel
theorem d_Mod_concat_22 : decode b_Mod_concat 22 = .ok (.bipush 40, 2) := by decide +kernel
theorem d_Mod_concat_24 : decode b_Mod_concat 24 = .ok (.if_icmp .ne 6, 3) := by decide +kernel
theorem d_Mod_concat_27 : decode b_Mod_concat 27 = .ok (.bipush (-2), 2) := by decide +kernel
theorem d_Mod_concat_29 : decode b_Mod_concat 29 = .ok (.ireturn, 1) := by decide +kernel
theorem d_Mod_concat_30 : decode b_Mod_concat 30 = .ok (.aload_n 0, 1) := by decide +kernel
theorem d_Mod_concat_31 : decode b_Mod_concat 31 = .ok (.getfield 17, 3) := by decide +kernel
theorem d_Mod_concat_34 : decode b_Mod_concat 34 = .ok (.iload_n 1, 1) := by decide +kernel
theorem d_Mod_concat_35 : decode b_Mod_concat 35 = .ok (.iaload, 1) := by decide +kernel
theorem d_Mod_concat_36 : decode b_Mod_concat 36 = .ok (.aload_n 0, 1) := by decide +kernel
theorem d_Mod_concat_37 : decode b_Mod_concat 37 = .ok (.getfield 17, 3) := by decide +kernel
theorem d_Mod_concat_40 : decode b_Mod_concat 40 = .ok (.iload_n 2, 1) := by decide +kernel
theorem d_Mod_concat_41 : decode b_Mod_concat 41 = .ok (.iaload, 1) := by decide +kernel
theorem d_Mod_concat_42 : decode b_Mod_concat 42 = .ok (.iadd, 1) := by decide +kernel
theorem d_Mod_concat_43 : decode b_Mod_concat 43 = .ok (.bipush 80, 2) := by decide +kernel
theorem d_Mod_concat_45 : decode b_Mod_concat 45 = .ok (.if_icmp .le 6, 3) := by decide +kernel
theorem d_Mod_concat_48 : decode b_Mod_concat 48 = .ok (.bipush (-3), 2) := by decide +kernel
theorem d_Mod_concat_50 : decode b_Mod_concat 50 = .ok (.ireturn, 1) := by decide +kernel
theorem d_Mod_concat_51 : decode b_Mod_concat 51 = .ok (.aload_n 0, 1) := by decide +kernel
theorem d_Mod_concat_52 : decode b_Mod_concat 52 = .ok (.iconst 0, 1) := by decide +kernel
theorem d_Mod_concat_53 : decode b_Mod_concat 53 = .ok (.iload_n 1, 1) := by decide +kernel
theorem d_Mod_concat_54 : decode b_Mod_concat 54 = .ok (.invokevirtual 89, 3) := by decide +kernel
theorem d_Mod_concat_57 : decode b_Mod_concat 57 = .ok (.aload_n 0, 1) := by decide +kernel
theorem d_Mod_concat_58 : decode b_Mod_concat 58 = .ok (.iconst 1, 1) := by decide +kernel
theorem d_Mod_concat_59 : decode b_Mod_concat 59 = .ok (.iload_n 2, 1) := by decide +kernel
theorem d_Mod_concat_60 : decode b_Mod_concat 60 = .ok (.invokevirtual 89, 3) := by decide +kernel
theorem d_Mod_concat_63 : decode b_Mod_concat 63 = .ok (.aload_n 0, 1) := by decide +kernel
theorem d_Mod_concat_64 : decode b_Mod_concat 64 = .ok (.invokevirtual 104, 3) := by decide +kernel
theorem d_Mod_concat_67 : decode b_Mod_concat 67 = .ok (.aload_n 0, 1) := by decide +kernel
theorem d_Mod_concat_68 : decode b_Mod_concat 68 = .ok (.iconst 2, 1) := by decide +kernel
theorem d_Mod_concat_69 : decode b_Mod_concat 69 = .ok (.invokevirtual 96, 3) := by decide +kernel
theorem d_Mod_concat_72 : decode b_Mod_concat 72 = .ok (.ireturn, 1) := by decide +kernel
theorem d_Mod_join_0 : decode b_Mod_join 0 = .ok (.aload_n 0, 1) := by decide +kernel
theorem d_Mod_join_1 : decode b_Mod_join 1 = .ok (.getfield 46, 3) := by decide +kernel
theorem d_Mod_join_4 : decode b_Mod_join 4 = .ok (.iconst 0, 1) := by decide +kernel
theorem d_Mod_join_5 : decode b_Mod_join 5 = .ok (.iaload, 1) := by decide +kernel
theorem d_Mod_join_6 : decode b_Mod_join 6 = .ok (.istore_n 1, 1) := by decide +kernel
theorem d_Mod_join_7 : decode b_Mod_join 7 = .ok (.aload_n 0, 1) := by decide +kernel
theorem d_Mod_join_8 : decode b_Mod_join 8 = .ok (.getfield 46, 3) := by decide +kernel
theorem d_Mod_join_11 : decode b_Mod_join 11 = .ok (.iconst 1, 1) := by decide +kernel
theorem d_Mod_join_12 : decode b_Mod_join 12 = .ok (.iaload, 1) := by decide +kernel
theorem d_Mod_join_13 : decode b_Mod_join 13 = .ok (.istore_n 2, 1) := by decide +kernel
theorem d_Mod_join_14 : decode b_Mod_join 14 = .ok (.iload_n 1, 1) := by decide +kernel
theorem d_Mod_join_15 : decode b_Mod_join 15 = .ok (.iload_n 2, 1) := by decide +kernel
theorem d_Mod_join_16 : decode b_Mod_join 16 = .ok (.if_icmp .le 7, 3) := by decide +kernel
theorem d_Mod_join_19 : decode b_Mod_join 19 = .ok (.iload_n 1, 1) := by decide +kernel
theorem d_Mod_join_20 : decode b_Mod_join 20 = .ok (.goto 4, 3) := by decide +kernel
theorem d_Mod_join_23 : decode b_Mod_join 23 = .ok (.iload_n 2, 1) := by decide +kernel
theorem d_Mod_join_24 : decode b_Mod_join 24 = .ok (.istore_n 3, 1) := by decide +kernel
theorem d_Mod_join_25 : decode b_Mod_join 25 = .ok (.aload_n 0, 1) := by decide +kernel
theorem d_Mod_join_26 : decode b_Mod_join 26 = .ok (.getfield 43, 3) := by decide +kernel
theorem d_Mod_join_29 : decode b_Mod_join 29 = .ok (.iconst 2, 1) := by decide +kernel
theorem d_Mod_join_30 : decode b_Mod_join 30 = .ok (.aload_n 0, 1) := by decide +kernel
theorem d_Mod_join_31 : decode b_Mod_join 31 = .ok (.getfield 43, 3) := by decide +kernel
theorem d_Mod_join_34 : decode b_Mod_join 34 = .ok (.iconst 0, 1) := by decide +kernel
theorem d_Mod_join_35 : decode b_Mod_join 35 = .ok (.iaload, 1) := by decide +kernel
theorem d_Mod_join_36 : decode b_Mod_join 36 = .ok (.aload_n 0, 1) := by decide +kernel
theorem d_Mod_join_37 : decode b_Mod_join 37 = .ok (.getfield 43, 3) := by decide +kernel
theorem d_Mod_join_40 : decode b_Mod_join 40 = .ok (.iconst 1, 1) := by decide +kernel
theorem d_Mod_join_41 : decode b_Mod_join 41 = .ok (.iaload, 1) := by decide +kernel
theorem d_Mod_join_42 : decode b_Mod_join 42 = .ok (.iadd, 1) := by decide +kernel
theorem d_Mod_join_43 : decode b_Mod_join 43 = .ok (.iastore, 1) := by decide +kernel
theorem d_Mod_join_44 : decode b_Mod_join 44 = .ok (.iconst 0, 1) := by decide +kernel
theorem d_Mod_join_45 : decode b_Mod_join 45 = .ok (.istore 4, 2) := by decide +kernel
theorem d_Mod_join_47 : decode b_Mod_join 47 = .ok (.iload 4, 2) := by decide +kernel
theorem d_Mod_join_49 : decode b_Mod_join 49 = .ok (.aload_n 0, 1) := by decide +kernel
theorem d_Mod_join_50 : decode b_Mod_join 50 = .ok (.getfield 43, 3) := by decide +kernel
theorem d_Mod_join_53 : decode b_Mod_join 53 = .ok (.iconst 2, 1) := by decide +kernel
theorem d_Mod_join_54 : decode b_Mod_join 54 = .ok (.iaload, 1) := by decide +kernel
theorem d_Mod_join_55 : decode b_Mod_join 55 = .ok (.if_icmp .ge 58, 3) := by decide +kernel
theorem d_Mod_join_58 : decode b_Mod_join 58 = .ok (.aload_n 0, 1) := by decide +kernel
theorem d_Mod_join_59 : decode b_Mod_join 59 = .ok (.getfield 34, 3) := by decide +kernel
theorem d_Mod_join_62 : decode b_Mod_join 62 = .ok (.sipush 160, 3) := by decide +kernel
theorem d_Mod_join_65 : decode b_Mod_join 65 = .ok (.iload 4, 2) := by decide +kernel
theorem d_Mod_join_67 : decode b_Mod_join 67 = .ok (.iadd, 1) := by decide +kernel
theorem d_Mod_join_68 : decode b_Mod_join 68 = .ok (.iload 4, 2) := by decide +kernel
theorem d_Mod_join_70 : decode b_Mod_join 70 = .ok (.aload_n 0, 1) := by decide +kernel
theorem d_Mod_join_71 : decode b_Mod_join 71 = .ok (.getfield 43, 3) := by decide +kernel
theorem d_Mod_join_74 : decode b_Mod_join 74 = .ok (.iconst 0, 1) := by decide +kernel
theorem d_Mod_join_75 : decode b_Mod_join 75 = .ok (.iaload, 1) := by decide +kernel
theorem d_Mod_join_76 : decode b_Mod_join 76 = .ok (.if_icmp .ge 13, 3) := by decide +kernel
theorem d_Mod_join_79 : decode b_Mod_join 79 = .ok (.aload_n 0, 1) := by decide +kernel
theorem d_Mod_join_80 : decode b_Mod_join 80 = .ok (.getfield 34, 3) := by decide +kernel
theorem d_Mod_join_83 : decode b_Mod_join 83 = .ok (.iload 4, 2) := by decide +kernel
theorem d_Mod_join_85 : decode b_Mod_join 85 = .ok (.iaload, 1) := by decide +kernel
theorem d_Mod_join_86 : decode b_Mod_join 86 = .ok (.goto 20, 3) := by decide +kernel
theorem d_Mod_join_89 : decode b_Mod_join 89 = .ok (.aload_n 0, 1) := by decide +kernel
theorem d_Mod_join_90 : decode b_Mod_join 90 = .ok (.getfield 34, 3) := by decide +kernel
theorem d_Mod_join_93 : decode b_Mod_join 93 = .ok (.bipush 80, 2) := by decide +kernel
theorem d_Mod_join_95 : decode b_Mod_join 95 = .ok (.iload 4, 2) := by decide +kernel
theorem d_Mod_join_97 : decode b_Mod_join 97 = .ok (.iadd, 1) := by decide +kernel
theorem d_Mod_join_98 : decode b_Mod_join 98 = .ok (.aload_n 0, 1) := by decide +kernel
theorem d_Mod_join_99 : decode b_Mod_join 99 = .ok (.getfield 43, 3) := by decide +kernel
theorem d_Mod_join_102 : decode b_Mod_join 102 = .ok (.iconst 0, 1) := by decide +kernel
theorem d_Mod_join_103 : decode b_Mod_join 103 = .ok (.iaload, 1) := by decide +kernel
theorem d_Mod_join_104 : decode b_Mod_join 104 = .ok (.isub, 1) := by decide +kernel
theorem d_Mod_join_105 : decode b_Mod_join 105 = .ok (.iaload, 1) := by decide +kernel
theorem d_Mod_join_106 : decode b_Mod_join 106 = .ok (.iastore, 1) := by decide +kernel
theorem d_Mod_join_107 : decode b_Mod_join 107 = .ok (.iinc 4 1, 3) := by decide +kernel
theorem d_Mod_join_110 : decode b_Mod_join 110 = .ok (.goto (-63), 3) := by decide +kernel
theorem d_Mod_join_113 : decode b_Mod_join 113 = .ok (.iconst 1, 1) := by decide +kernel
theorem d_Mod_join_114 : decode b_Mod_join 114 = .ok (.istore 4, 2) := by decide +kernel
theorem d_Mod_join_116 : decode b_Mod_join 116 = .ok (.iload 4, 2) := by decide +kernel
theorem d_Mod_join_118 : decode b_Mod_join 118 = .ok (.bipush 6, 2) := by decide +kernel
theorem d_Mod_join_120 : decode b_Mod_join 120 = .ok (.if_icmp .gt 116, 3) := by decide +kernel
theorem d_Mod_join_123 : decode b_Mod_join 123 = .ok (.aload_n 0, 1) := by decide +kernel
theorem d_Mod_join_124 : decode b_Mod_join 124 = .ok (.getfield 40, 3) := by decide +kernel
theorem d_Mod_join_127 : decode b_Mod_join 127 = .ok (.iload 4, 2) := by decide +kernel
theorem d_Mod_join_129 : decode b_Mod_join 129 = .ok (.iaload, 1) := by decide +kernel
theorem d_Mod_join_130 : decode b_Mod_join 130 = .ok (.istore 5, 2) := by decide +kernel
theorem d_Mod_join_132 : decode b_Mod_join 132 = .ok (.aload_n 0, 1) := by decide +kernel
theorem d_Mod_join_133 : decode b_Mod_join 133 = .ok (.getfield 40, 3) := by decide +kernel
theorem d_Mod_join_136 : decode b_Mod_join 136 = .ok (.bipush 8, 2) := by decide +kernel
theorem d_Mod_join_138 : decode b_Mod_join 138 = .ok (.iload 4, 2) := by decide +kernel
theorem d_Mod_join_140 : decode b_Mod_join 140 = .ok (.iadd, 1) := by decide +kernel
theorem d_Mod_join_141 : decode b_Mod_join 141 = .ok (.iaload, 1) := by decide +kernel
theorem d_Mod_join_142 : decode b_Mod_join 142 = .ok (.istore 6, 2) := by decide +kernel
theorem d_Mod_join_144 : decode b_Mod_join 144 = .ok (.iconst 0, 1) := by decide +kernel
theorem d_Mod_join_145 : decode b_Mod_join 145 = .ok (.istore 7, 2) := by decide +kernel
theorem d_Mod_join_147 : decode b_Mod_join 147 = .ok (.iload 7, 2) := by decide +kernel
theorem d_Mod_join_149 : decode b_Mod_join 149 = .ok (.iload 5, 2) := by decide +kernel
theorem d_Mod_join_151 : decode b_Mod_join 151 = .ok (.iload 6, 2) := by decide +kernel
theorem d_Mod_join_153 : decode b_Mod_join 153 = .ok (.iadd, 1) := by decide +kernel
theorem d_Mod_join_154 : decode b_Mod_join 154 = .ok (.if_icmp .ge 61, 3) := by decide +kernel
theorem d_Mod_join_157 : decode b_Mod_join 157 = .ok (.aload_n 0, 1) := by decide +kernel
theorem d_Mod_join_158 : decode b_Mod_join 158 = .ok (.getfield 37, 3) := by decide +kernel
theorem d_Mod_join_161 : decode b_Mod_join 161 = .ok (.iconst 2, 1) := by decide +kernel
theorem d_Mod_join_162 : decode b_Mod_join 162 = .ok (.iload 4, 2) := by decide +kernel
theorem d_Mod_join_164 : decode b_Mod_join 164 = .ok (.iload 7, 2) := by decide +kernel
theorem d_Mod_join_166 : decode b_Mod_join 166 = .ok (.invokestatic 59, 3) := by decide +kernel
theorem d_Mod_join_169 : decode b_Mod_join 169 = .ok (.iload 7, 2) := by decide +kernel
theorem d_Mod_join_171 : decode b_Mod_join 171 = .ok (.iload 5, 2) := by decide +kernel
theorem d_Mod_join_173 : decode b_Mod_join 173 = .ok (.if_icmp .ge 19, 3) := by decide +kernel
theorem d_Mod_join_176 : decode b_Mod_join 176 = .ok (.aload_n 0, 1) := by decide +kernel
theorem d_Mod_join_177 : decode b_Mod_join 177 = .ok (.getfield 37, 3) := by decide +kernel
theorem d_Mod_join_180 : decode b_Mod_join 180 = .ok (.iconst 0, 1) := by decide +kernel
theorem d_Mod_join_181 : decode b_Mod_join 181 = .ok (.iload 4, 2) := by decide +kernel
theorem d_Mod_join_183 : decode b_Mod_join 183 = .ok (.iload 7, 2) := by decide +kernel
theorem d_Mod_join_185 : decode b_Mod_join 185 = .ok (.invokestatic 59, 3) := by decide +kernel
theorem d_Mod_join_188 : decode b_Mod_join 188 = .ok (.iaload, 1) := by decide +kernel
theorem d_Mod_join_189 : decode b_Mod_join 189 = .ok (.goto 19, 3) := by decide +kernel
theorem d_Mod_join_192 : decode b_Mod_join 192 = .ok (.aload_n 0, 1) := by decide +kernel
theorem d_Mod_join_193 : decode b_Mod_join 193 = .ok (.getfield 37, 3) := by decide +kernel
theorem d_Mod_join_196 : decode b_Mod_join 196 = .ok (.iconst 1, 1) := by decide +kernel
theorem d_Mod_join_197 : decode b_Mod_join 197 = .ok (.iload 4, 2) := by decide +kernel
theorem d_Mod_join_199 : decode b_Mod_join 199 = .ok (.iload 7, 2) := by decide +kernel
theorem d_Mod_join_201 : decode b_Mod_join 201 = .ok (.iload 5, 2) := by decide +kernel
theorem d_Mod_join_203 : decode b_Mod_join 203 = .ok (.isub, 1) := by decide +kernel
theorem d_Mod_join_204 : decode b_Mod_join 204 = .ok (.invokestatic 59, 3) := by decide +kernel
theorem d_Mod_join_207 : decode b_Mod_join 207 = .ok (.iaload, 1) := by decide +kernel
theorem d_Mod_join_208 : decode b_Mod_join 208 = .ok (.iastore, 1) := by decide +kernel
theorem d_Mod_join_209 : decode b_Mod_join 209 = .ok (.iinc 7 1, 3) := by decide +kernel
theorem d_Mod_join_212 : decode b_Mod_join 212 = .ok (.goto (-65), 3) := by decide +kernel
theorem d_Mod_join_215 : decode b_Mod_join 215 = .ok (.aload_n 0, 1) := by decide +kernel
theorem d_Mod_join_216 : decode b_Mod_join 216 = .ok (.getfield 40, 3) := by decide +kernel
theorem d_Mod_join_219 : decode b_Mod_join 219 = .ok (.bipush 16, 2) := by decide +kernel
theorem d_Mod_join_221 : decode b_Mod_join 221 = .ok (.iload 4, 2) := by decide +kernel
theorem d_Mod_join_223 : decode b_Mod_join 223 = .ok (.iadd, 1) := by decide +kernel
theorem d_Mod_join_224 : decode b_Mod_join 224 = .ok (.iload 5, 2) := by decide +kernel
theorem d_Mod_join_226 : decode b_Mod_join 226 = .ok (.iload 6, 2) := by decide +kernel
theorem d_Mod_join_228 : decode b_Mod_join 228 = .ok (.iadd, 1) := by decide +kernel
theorem d_Mod_join_229 : decode b_Mod_join 229 = .ok (.iastore, 1) := by decide +kernel
theorem d_Mod_join_230 : decode b_Mod_join 230 = .ok (.iinc 4 1, 3) := by decide +kernel
theorem d_Mod_join_233 : decode b_Mod_join 233 = .ok (.goto (-117), 3) := by decide +kernel
theorem d_Mod_join_236 : decode b_Mod_join 236 = .ok (.aload_n 0, 1) := by decide +kernel
theorem d_Mod_join_237 : decode b_Mod_join 237 = .ok (.getfield 46, 3) := by decide +kernel
theorem d_Mod_join_240 : decode b_Mod_join 240 = .ok (.iconst 2, 1) := by decide +kernel
theorem d_Mod_join_241 : decode b_Mod_join 241 = .ok (.iload_n 3, 1) := by decide +kernel
theorem d_Mod_join_242 : decode b_Mod_join 242 = .ok (.iastore, 1) := by decide +kernel
theorem d_Mod_join_243 : decode b_Mod_join 243 = .ok (.iload_n 1, 1) := by decide +kernel
theorem d_Mod_join_244 : decode b_Mod_join 244 = .ok (.ifCond .eq 7, 3) := by decide +kernel
theorem d_Mod_join_247 : decode b_Mod_join 247 = .ok (.iload_n 2, 1) := by decide +kernel
theorem d_Mod_join_248 : decode b_Mod_join 248 = .ok (.ifCond .ne 4, 3) := by decide +kernel
theorem d_Mod_join_251 : decode b_Mod_join 251 = .ok (.return_, 1) := by decide +kernel
theorem d_Mod_join_252 : decode b_Mod_join 252 = .ok (.iconst 2, 1) := by decide +kernel
theorem d_Mod_join_253 : decode b_Mod_join 253 = .ok (.istore 4, 2) := by decide +kernel
theorem d_Mod_join_255 : decode b_Mod_join 255 = .ok (.iconst 2, 1) := by decide +kernel
theorem d_Mod_join_256 : decode b_Mod_join 256 = .ok (.istore 5, 2) := by decide +kernel
theorem d_Mod_join_258 : decode b_Mod_join 258 = .ok (.iload 5, 2) := by decide +kernel
theorem d_Mod_join_260 : decode b_Mod_join 260 = .ok (.iload_n 3, 1) := by decide +kernel
theorem d_Mod_join_261 : decode b_Mod_join 261 = .ok (.if_icmp .gt 19, 3) := by decide +kernel
theorem d_Mod_join_264 : decode b_Mod_join 264 = .ok (.aload_n 0, 1) := by decide +kernel
theorem d_Mod_join_265 : decode b_Mod_join 265 = .ok (.iload 5, 2) := by decide +kernel
theorem d_Mod_join_267 : decode b_Mod_join 267 = .ok (.iload 4, 2) := by decide +kernel
theorem d_Mod_join_269 : decode b_Mod_join 269 = .ok (.invokevirtual 79, 3) := by decide +kernel
theorem d_Mod_join_272 : decode b_Mod_join 272 = .ok (.istore 4, 2) := by decide +kernel
theorem d_Mod_join_274 : decode b_Mod_join 274 = .ok (.iinc 5 1, 3) := by decide +kernel
theorem d_Mod_join_277 : decode b_Mod_join 277 = .ok (.goto (-19), 3) := by decide +kernel
theorem d_Mod_join_280 : decode b_Mod_join 280 = .ok (.iload 4, 2) := by decide +kernel
theorem d_Mod_join_282 : decode b_Mod_join 282 = .ok (.iconst 2, 1) := by decide +kernel
theorem d_Mod_join_283 : decode b_Mod_join 283 = .ok (.if_icmp .ne 22, 3) := by decide +kernel
theorem d_Mod_join_286 : decode b_Mod_join 286 = .ok (.aload_n 0, 1) := by decide +kernel
theorem d_Mod_join_287 : decode b_Mod_join 287 = .ok (.iconst 2, 1) := by decide +kernel
theorem d_Mod_join_288 : decode b_Mod_join 288 = .ok (.iload_n 3, 1) := by decide +kernel
theorem d_Mod_join_289 : decode b_Mod_join 289 = .ok (.iconst 1, 1) := by decide +kernel
theorem d_Mod_join_290 : decode b_Mod_join 290 = .ok (.iadd, 1) := by decide +kernel
theorem d_Mod_join_291 : decode b_Mod_join 291 = .ok (.iconst 0, 1) := by decide +kernel
theorem d_Mod_join_292 : decode b_Mod_join 292 = .ok (.iconst 2, 1) := by decide +kernel
theorem d_Mod_join_293 : decode b_Mod_join 293 = .ok (.invokevirtual 67, 3) := by decide +kernel
theorem d_Mod_join_296 : decode b_Mod_join 296 = .ok (.aload_n 0, 1) := by decide +kernel
theorem d_Mod_join_297 : decode b_Mod_join 297 = .ok (.getfield 46, 3) := by decide +kernel
theorem d_Mod_join_300 : decode b_Mod_join 300 = .ok (.iconst 2, 1) := by decide +kernel
theorem d_Mod_join_301 : decode b_Mod_join 301 = .ok (.iload_n 3, 1) := by decide +kernel
theorem d_Mod_join_302 : decode b_Mod_join 302 = .ok (.iconst 1, 1) := by decide +kernel
theorem d_Mod_join_303 : decode b_Mod_join 303 = .ok (.iadd, 1) := by decide +kernel
theorem d_Mod_join_304 : decode b_Mod_join 304 = .ok (.iastore, 1) := by decide +kernel
theorem d_Mod_join_305 : decode b_Mod_join 305 = .ok (.return_, 1) := by decide +kernel
theorem d_Mod_meet_0 : decode b_Mod_meet 0 = .ok (.iload_n 1, 1) := by decide +kernel
theorem d_Mod_meet_1 : decode b_Mod_meet 1 = .ok (.aload_n 0, 1) := by decide +kernel
theorem d_Mod_meet_2 : decode b_Mod_meet 2 = .ok (.getfield 46, 3) := by decide +kernel
theorem d_Mod_meet_5 : decode b_Mod_meet 5 = .ok (.iconst 0, 1) := by decide +kernel
theorem d_Mod_meet_6 : decode b_Mod_meet 6 = .ok (.iaload, 1) := by decide +kernel
theorem d_Mod_meet_7 : decode b_Mod_meet 7 = .ok (.if_icmp .gt 7, 3) := by decide +kernel
theorem d_Mod_meet_10 : decode b_Mod_meet 10 = .ok (.iconst 1, 1) := by decide +kernel
theorem d_Mod_meet_11 : decode b_Mod_meet 11 = .ok (.goto 4, 3) := by decide +kernel
theorem d_Mod_meet_14 : decode b_Mod_meet 14 = .ok (.iconst 0, 1) := by decide +kernel
theorem d_Mod_meet_15 : decode b_Mod_meet 15 = .ok (.istore_n 3, 1) := by decide +kernel
theorem d_Mod_meet_16 : decode b_Mod_meet 16 = .ok (.iload_n 1, 1) := by decide +kernel
theorem d_Mod_meet_17 : decode b_Mod_meet 17 = .ok (.aload_n 0, 1) := by decide +kernel
theorem d_Mod_meet_18 : decode b_Mod_meet 18 = .ok (.getfield 46, 3) := by decide +kernel
theorem d_Mod_meet_21 : decode b_Mod_meet 21 = .ok (.iconst 1, 1) := by decide +kernel
theorem d_Mod_meet_22 : decode b_Mod_meet 22 = .ok (.iaload, 1) := by decide +kernel
theorem d_Mod_meet_23 : decode b_Mod_meet 23 = .ok (.if_icmp .gt 7, 3) := by decide +kernel
theorem d_Mod_meet_26 : decode b_Mod_meet 26 = .ok (.iconst 1, 1) := by decide +kernel
theorem d_Mod_meet_27 : decode b_Mod_meet 27 = .ok (.goto 4, 3) := by decide +kernel
theorem d_Mod_meet_30 : decode b_Mod_meet 30 = .ok (.iconst 0, 1) := by decide +kernel
theorem d_Mod_meet_31 : decode b_Mod_meet 31 = .ok (.istore 4, 2) := by decide +kernel
theorem d_Mod_meet_33 : decode b_Mod_meet 33 = .ok (.aload_n 0, 1) := by decide +kernel
theorem d_Mod_meet_34 : decode b_Mod_meet 34 = .ok (.getfield 40, 3) := by decide +kernel
theorem d_Mod_meet_37 : decode b_Mod_meet 37 = .ok (.iload_n 1, 1) := by decide +kernel
theorem d_Mod_meet_38 : decode b_Mod_meet 38 = .ok (.iaload, 1) := by decide +kernel
theorem d_Mod_meet_39 : decode b_Mod_meet 39 = .ok (.istore 5, 2) := by decide +kernel
theorem d_Mod_meet_41 : decode b_Mod_meet 41 = .ok (.iload_n 3, 1) := by decide +kernel
theorem d_Mod_meet_42 : decode b_Mod_meet 42 = .ok (.ifCond .eq 22, 3) := by decide +kernel
theorem d_Mod_meet_45 : decode b_Mod_meet 45 = .ok (.aload_n 0, 1) := by decide +kernel
theorem d_Mod_meet_46 : decode b_Mod_meet 46 = .ok (.getfield 37, 3) := by decide +kernel
theorem d_Mod_meet_49 : decode b_Mod_meet 49 = .ok (.iconst 0, 1) := by decide +kernel
theorem d_Mod_meet_50 : decode b_Mod_meet 50 = .ok (.iload_n 1, 1) := by decide +kernel
theorem d_Mod_meet_51 : decode b_Mod_meet 51 = .ok (.iload 5, 2) := by decide +kernel
theorem d_Mod_meet_53 : decode b_Mod_meet 53 = .ok (.iconst 1, 1) := by decide +kernel
theorem d_Mod_meet_54 : decode b_Mod_meet 54 = .ok (.isub, 1) := by decide +kernel
theorem d_Mod_meet_55 : decode b_Mod_meet 55 = .ok (.invokestatic 59, 3) := by decide +kernel
theorem d_Mod_meet_58 : decode b_Mod_meet 58 = .ok (.iaload, 1) := by decide +kernel
theorem d_Mod_meet_59 : decode b_Mod_meet 59 = .ok (.iconst 1, 1) := by decide +kernel
theorem d_Mod_meet_60 : decode b_Mod_meet 60 = .ok (.isub, 1) := by decide +kernel
theorem d_Mod_meet_61 : decode b_Mod_meet 61 = .ok (.goto 4, 3) := by decide +kernel
theorem d_Mod_meet_64 : decode b_Mod_meet 64 = .ok (.iconst 0, 1) := by decide +kernel
theorem d_Mod_meet_65 : decode b_Mod_meet 65 = .ok (.istore 6, 2) := by decide +kernel
theorem d_Mod_meet_67 : decode b_Mod_meet 67 = .ok (.iload 4, 2) := by decide +kernel
theorem d_Mod_meet_69 : decode b_Mod_meet 69 = .ok (.ifCond .eq 19, 3) := by decide +kernel
theorem d_Mod_meet_72 : decode b_Mod_meet 72 = .ok (.aload_n 0, 1) := by decide +kernel
theorem d_Mod_meet_73 : decode b_Mod_meet 73 = .ok (.getfield 37, 3) := by decide +kernel
theorem d_Mod_meet_76 : decode b_Mod_meet 76 = .ok (.iconst 1, 1) := by decide +kernel
theorem d_Mod_meet_77 : decode b_Mod_meet 77 = .ok (.iload_n 1, 1) := by decide +kernel
theorem d_Mod_meet_78 : decode b_Mod_meet 78 = .ok (.iconst 0, 1) := by decide +kernel
theorem d_Mod_meet_79 : decode b_Mod_meet 79 = .ok (.invokestatic 59, 3) := by decide +kernel
theorem d_Mod_meet_82 : decode b_Mod_meet 82 = .ok (.iaload, 1) := by decide +kernel
theorem d_Mod_meet_83 : decode b_Mod_meet 83 = .ok (.iconst 1, 1) := by decide +kernel
theorem d_Mod_meet_84 : decode b_Mod_meet 84 = .ok (.isub, 1) := by decide +kernel
theorem d_Mod_meet_85 : decode b_Mod_meet 85 = .ok (.goto 4, 3) := by decide +kernel
theorem d_Mod_meet_88 : decode b_Mod_meet 88 = .ok (.iconst 0, 1) := by decide +kernel
theorem d_Mod_meet_89 : decode b_Mod_meet 89 = .ok (.istore 7, 2) := by decide +kernel
theorem d_Mod_meet_91 : decode b_Mod_meet 91 = .ok (.iload_n 1, 1) := by decide +kernel
theorem d_Mod_meet_92 : decode b_Mod_meet 92 = .ok (.iconst 1, 1) := by decide +kernel
theorem d_Mod_meet_93 : decode b_Mod_meet 93 = .ok (.isub, 1) := by decide +kernel
theorem d_Mod_meet_94 : decode b_Mod_meet 94 = .ok (.aload_n 0, 1) := by decide +kernel
theorem d_Mod_meet_95 : decode b_Mod_meet 95 = .ok (.getfield 46, 3) := by decide +kernel
theorem d_Mod_meet_98 : decode b_Mod_meet 98 = .ok (.iconst 0, 1) := by decide +kernel
theorem d_Mod_meet_99 : decode b_Mod_meet 99 = .ok (.iaload, 1) := by decide +kernel
theorem d_Mod_meet_100 : decode b_Mod_meet 100 = .ok (.if_icmp .gt 16, 3) := by decide +kernel
theorem d_Mod_meet_103 : decode b_Mod_meet 103 = .ok (.aload_n 0, 1) := by decide +kernel
theorem d_Mod_meet_104 : decode b_Mod_meet 104 = .ok (.getfield 40, 3) := by decide +kernel
theorem d_Mod_meet_107 : decode b_Mod_meet 107 = .ok (.iload_n 1, 1) := by decide +kernel
theorem d_Mod_meet_108 : decode b_Mod_meet 108 = .ok (.iconst 1, 1) := by decide +kernel
theorem d_Mod_meet_109 : decode b_Mod_meet 109 = .ok (.isub, 1) := by decide +kernel
theorem d_Mod_meet_110 : decode b_Mod_meet 110 = .ok (.iaload, 1) := by decide +kernel
theorem d_Mod_meet_111 : decode b_Mod_meet 111 = .ok (.iconst 1, 1) := by decide +kernel
theorem d_Mod_meet_112 : decode b_Mod_meet 112 = .ok (.isub, 1) := by decide +kernel
theorem d_Mod_meet_113 : decode b_Mod_meet 113 = .ok (.goto 4, 3) := by decide +kernel
theorem d_Mod_meet_116 : decode b_Mod_meet 116 = .ok (.iconst 0, 1) := by decide +kernel
theorem d_Mod_meet_117 : decode b_Mod_meet 117 = .ok (.istore 8, 2) := by decide +kernel
theorem d_Mod_meet_119 : decode b_Mod_meet 119 = .ok (.aload_n 0, 1) := by decide +kernel
theorem d_Mod_meet_120 : decode b_Mod_meet 120 = .ok (.iload_n 1, 1) := by decide +kernel
theorem d_Mod_meet_121 : decode b_Mod_meet 121 = .ok (.iconst 1, 1) := by decide +kernel
theorem d_Mod_meet_122 : decode b_Mod_meet 122 = .ok (.isub, 1) := by decide +kernel
theorem d_Mod_meet_123 : decode b_Mod_meet 123 = .ok (.iload 8, 2) := by decide +kernel
theorem d_Mod_meet_125 : decode b_Mod_meet 125 = .ok (.iload 6, 2) := by decide +kernel
theorem d_Mod_meet_127 : decode b_Mod_meet 127 = .ok (.isub, 1) := by decide +kernel
theorem d_Mod_meet_128 : decode b_Mod_meet 128 = .ok (.iload 6, 2) := by decide +kernel
theorem d_Mod_meet_130 : decode b_Mod_meet 130 = .ok (.iload_n 2, 1) := by decide +kernel
theorem d_Mod_meet_131 : decode b_Mod_meet 131 = .ok (.iadd, 1) := by decide +kernel
theorem d_Mod_meet_132 : decode b_Mod_meet 132 = .ok (.iload 7, 2) := by decide +kernel
theorem d_Mod_meet_134 : decode b_Mod_meet 134 = .ok (.iadd, 1) := by decide +kernel
theorem d_Mod_meet_135 : decode b_Mod_meet 135 = .ok (.invokevirtual 83, 3) := by decide +kernel
theorem d_Mod_meet_138 : decode b_Mod_meet 138 = .ok (.istore 9, 2) := by decide +kernel
theorem d_Mod_meet_140 : decode b_Mod_meet 140 = .ok (.iload_n 3, 1) := by decide +kernel
theorem d_Mod_meet_141 : decode b_Mod_meet 141 = .ok (.ifCond .eq 10, 3) := by decide +kernel
theorem d_Mod_meet_144 : decode b_Mod_meet 144 = .ok (.iload 5, 2) := by decide +kernel
theorem d_Mod_meet_146 : decode b_Mod_meet 146 = .ok (.iconst 1, 1) := by decide +kernel
theorem d_Mod_meet_147 : decode b_Mod_meet 147 = .ok (.isub, 1) := by decide +kernel
theorem d_Mod_meet_148 : decode b_Mod_meet 148 = .ok (.goto 4, 3) := by decide +kernel
theorem d_Mod_meet_151 : decode b_Mod_meet 151 = .ok (.iconst 0, 1) := by decide +kernel
theorem d_Mod_meet_152 : decode b_Mod_meet 152 = .ok (.istore 10, 2) := by decide +kernel
theorem d_Mod_meet_154 : decode b_Mod_meet 154 = .ok (.iload_n 3, 1) := by decide +kernel
theorem d_Mod_meet_155 : decode b_Mod_meet 155 = .ok (.ifCond .eq 11, 3) := by decide +kernel
theorem d_Mod_meet_158 : decode b_Mod_meet 158 = .ok (.aload_n 0, 1) := by decide +kernel
theorem d_Mod_meet_159 : decode b_Mod_meet 159 = .ok (.iconst 2, 1) := by decide +kernel
theorem d_Mod_meet_160 : decode b_Mod_meet 160 = .ok (.iload_n 1, 1) := by decide +kernel
theorem d_Mod_meet_161 : decode b_Mod_meet 161 = .ok (.iload 10, 2) := by decide +kernel
theorem d_Mod_meet_163 : decode b_Mod_meet 163 = .ok (.invokevirtual 75, 3) := by decide +kernel
theorem d_Mod_meet_166 : decode b_Mod_meet 166 = .ok (.iload 4, 2) := by decide +kernel
theorem d_Mod_meet_168 : decode b_Mod_meet 168 = .ok (.ifCond .eq 11, 3) := by decide +kernel
theorem d_Mod_meet_171 : decode b_Mod_meet 171 = .ok (.aload_n 0, 1) := by decide +kernel
theorem d_Mod_meet_172 : decode b_Mod_meet 172 = .ok (.iconst 2, 1) := by decide +kernel
theorem d_Mod_meet_173 : decode b_Mod_meet 173 = .ok (.iload_n 1, 1) := by decide +kernel
theorem d_Mod_meet_174 : decode b_Mod_meet 174 = .ok (.iload 10, 2) := by decide +kernel
theorem d_Mod_meet_176 : decode b_Mod_meet 176 = .ok (.invokevirtual 75, 3) := by decide +kernel
theorem d_Mod_meet_179 : decode b_Mod_meet 179 = .ok (.iload 9, 2) := by decide +kernel
theorem d_Mod_meet_181 : decode b_Mod_meet 181 = .ok (.iconst 4, 1) := by decide +kernel
theorem d_Mod_meet_182 : decode b_Mod_meet 182 = .ok (.if_icmp .le 15, 3) := by decide +kernel
theorem d_Mod_meet_185 : decode b_Mod_meet 185 = .ok (.aload_n 0, 1) := by decide +kernel
theorem d_Mod_meet_186 : decode b_Mod_meet 186 = .ok (.iconst 2, 1) := by decide +kernel
theorem d_Mod_meet_187 : decode b_Mod_meet 187 = .ok (.iload_n 1, 1) := by decide +kernel
theorem d_Mod_meet_188 : decode b_Mod_meet 188 = .ok (.iload 10, 2) := by decide +kernel
theorem d_Mod_meet_190 : decode b_Mod_meet 190 = .ok (.iload 9, 2) := by decide +kernel
theorem d_Mod_meet_192 : decode b_Mod_meet 192 = .ok (.iconst 4, 1) := by decide +kernel
theorem d_Mod_meet_193 : decode b_Mod_meet 193 = .ok (.isub, 1) := by decide +kernel
theorem d_Mod_meet_194 : decode b_Mod_meet 194 = .ok (.invokevirtual 67, 3) := by decide +kernel
theorem d_Mod_meet_197 : decode b_Mod_meet 197 = .ok (.aload_n 0, 1) := by decide +kernel
theorem d_Mod_meet_198 : decode b_Mod_meet 198 = .ok (.iconst 2, 1) := by decide +kernel
theorem d_Mod_meet_199 : decode b_Mod_meet 199 = .ok (.iload_n 1, 1) := by decide +kernel
theorem d_Mod_meet_200 : decode b_Mod_meet 200 = .ok (.iload 10, 2) := by decide +kernel
theorem d_Mod_meet_202 : decode b_Mod_meet 202 = .ok (.iload 9, 2) := by decide +kernel
theorem d_Mod_meet_204 : decode b_Mod_meet 204 = .ok (.iconst 4, 1) := by decide +kernel
theorem d_Mod_meet_205 : decode b_Mod_meet 205 = .ok (.if_icmp .le 7, 3) := by decide +kernel
theorem d_Mod_meet_208 : decode b_Mod_meet 208 = .ok (.iconst 4, 1) := by decide +kernel
theorem d_Mod_meet_209 : decode b_Mod_meet 209 = .ok (.goto 5, 3) := by decide +kernel
theorem d_Mod_meet_212 : decode b_Mod_meet 212 = .ok (.iload 9, 2) := by decide +kernel
theorem d_Mod_meet_214 : decode b_Mod_meet 214 = .ok (.invokevirtual 67, 3) := by decide +kernel
theorem d_Mod_meet_217 : decode b_Mod_meet 217 = .ok (.iload 9, 2) := by decide +kernel
theorem d_Mod_meet_219 : decode b_Mod_meet 219 = .ok (.iconst 4, 1) := by decide +kernel
theorem d_Mod_meet_220 : decode b_Mod_meet 220 = .ok (.if_icmp .le 7, 3) := by decide +kernel
theorem d_Mod_meet_223 : decode b_Mod_meet 223 = .ok (.iconst 2, 1) := by decide +kernel
theorem d_Mod_meet_224 : decode b_Mod_meet 224 = .ok (.goto 4, 3) := by decide +kernel
theorem d_Mod_meet_227 : decode b_Mod_meet 227 = .ok (.iconst 1, 1) := by decide +kernel
theorem d_Mod_meet_228 : decode b_Mod_meet 228 = .ok (.ireturn, 1) := by decide +kernel
theorem d_Mod_pack_0 : decode b_Mod_pack 0 = .ok (.iconst 0, 1) := by decide +kernel
theorem d_Mod_pack_1 : decode b_Mod_pack 1 = .ok (.istore 4, 2) := by decide +kernel
theorem d_Mod_pack_3 : decode b_Mod_pack 3 = .ok (.iconst 0, 1) := by decide +kernel
theorem d_Mod_pack_4 : decode b_Mod_pack 4 = .ok (.istore 5, 2) := by decide +kernel
theorem d_Mod_pack_6 : decode b_Mod_pack 6 = .ok (.iload 5, 2) := by decide +kernel
theorem d_Mod_pack_8 : decode b_Mod_pack 8 = .ok (.iload_n 3, 1) := by decide +kernel
theorem d_Mod_pack_9 : decode b_Mod_pack 9 = .ok (.if_icmp .ge 28, 3) := by decide +kernel
theorem d_Mod_pack_12 : decode b_Mod_pack 12 = .ok (.iload 4, 2) := by decide +kernel
theorem d_Mod_pack_14 : decode b_Mod_pack 14 = .ok (.aload_n 0, 1) := by decide +kernel
theorem d_Mod_pack_15 : decode b_Mod_pack 15 = .ok (.getfield 37, 3) := by decide +kernel
theorem d_Mod_pack_18 : decode b_Mod_pack 18 = .ok (.iconst 2, 1) := by decide +kernel
theorem d_Mod_pack_19 : decode b_Mod_pack 19 = .ok (.iload_n 1, 1) := by decide +kernel
theorem d_Mod_pack_20 : decode b_Mod_pack 20 = .ok (.iload_n 2, 1) := by decide +kernel
theorem d_Mod_pack_21 : decode b_Mod_pack 21 = .ok (.iload 5, 2) := by decide +kernel
theorem d_Mod_pack_23 : decode b_Mod_pack 23 = .ok (.iadd, 1) := by decide +kernel
theorem d_Mod_pack_24 : decode b_Mod_pack 24 = .ok (.invokestatic 59, 3) := by decide +kernel
theorem d_Mod_pack_27 : decode b_Mod_pack 27 = .ok (.iaload, 1) := by decide +kernel
theorem d_Mod_pack_28 : decode b_Mod_pack 28 = .ok (.iadd, 1) := by decide +kernel
theorem d_Mod_pack_29 : decode b_Mod_pack 29 = .ok (.istore 4, 2) := by decide +kernel
theorem d_Mod_pack_31 : decode b_Mod_pack 31 = .ok (.iinc 5 1, 3) := by decide +kernel
theorem d_Mod_pack_34 : decode b_Mod_pack 34 = .ok (.goto (-28), 3) := by decide +kernel
theorem d_Mod_pack_37 : decode b_Mod_pack 37 = .ok (.iload_n 3, 1) := by decide +kernel
theorem d_Mod_pack_38 : decode b_Mod_pack 38 = .ok (.istore 5, 2) := by decide +kernel
theorem d_Mod_pack_40 : decode b_Mod_pack 40 = .ok (.iload 5, 2) := by decide +kernel
theorem d_Mod_pack_42 : decode b_Mod_pack 42 = .ok (.iload 4, 2) := by decide +kernel
theorem d_Mod_pack_44 : decode b_Mod_pack 44 = .ok (.iconst 3, 1) := by decide +kernel
theorem d_Mod_pack_45 : decode b_Mod_pack 45 = .ok (.iadd, 1) := by decide +kernel
theorem d_Mod_pack_46 : decode b_Mod_pack 46 = .ok (.iconst 4, 1) := by decide +kernel
theorem d_Mod_pack_47 : decode b_Mod_pack 47 = .ok (.idiv, 1) := by decide +kernel
theorem d_Mod_pack_48 : decode b_Mod_pack 48 = .ok (.iconst 1, 1) := by decide +kernel
theorem d_Mod_pack_49 : decode b_Mod_pack 49 = .ok (.iadd, 1) := by decide +kernel
theorem d_Mod_pack_50 : decode b_Mod_pack 50 = .ok (.if_icmp .le 146, 3) := by decide +kernel
theorem d_Mod_pack_53 : decode b_Mod_pack 53 = .ok (.iconst 0, 1) := by decide +kernel
theorem d_Mod_pack_54 : decode b_Mod_pack 54 = .ok (.istore 6, 2) := by decide +kernel
theorem d_Mod_pack_56 : decode b_Mod_pack 56 = .ok (.aload_n 0, 1) := by decide +kernel
theorem d_Mod_pack_57 : decode b_Mod_pack 57 = .ok (.getfield 37, 3) := by decide +kernel
theorem d_Mod_pack_60 : decode b_Mod_pack 60 = .ok (.iconst 2, 1) := by decide +kernel
theorem d_Mod_pack_61 : decode b_Mod_pack 61 = .ok (.iload_n 1, 1) := by decide +kernel
theorem d_Mod_pack_62 : decode b_Mod_pack 62 = .ok (.iload_n 2, 1) := by decide +kernel
theorem d_Mod_pack_63 : decode b_Mod_pack 63 = .ok (.iload 6, 2) := by decide +kernel
theorem d_Mod_pack_65 : decode b_Mod_pack 65 = .ok (.iadd, 1) := by decide +kernel
theorem d_Mod_pack_66 : decode b_Mod_pack 66 = .ok (.invokestatic 59, 3) := by decide +kernel
theorem d_Mod_pack_69 : decode b_Mod_pack 69 = .ok (.iaload, 1) := by decide +kernel
theorem d_Mod_pack_70 : decode b_Mod_pack 70 = .ok (.iconst 4, 1) := by decide +kernel
theorem d_Mod_pack_71 : decode b_Mod_pack 71 = .ok (.if_icmp .ne 9, 3) := by decide +kernel
theorem d_Mod_pack_74 : decode b_Mod_pack 74 = .ok (.iinc 6 1, 3) := by decide +kernel
theorem d_Mod_pack_77 : decode b_Mod_pack 77 = .ok (.goto (-21), 3) := by decide +kernel
theorem d_Mod_pack_80 : decode b_Mod_pack 80 = .ok (.iload 6, 2) := by decide +kernel
theorem d_Mod_pack_82 : decode b_Mod_pack 82 = .ok (.istore 7, 2) := by decide +kernel
theorem d_Mod_pack_84 : decode b_Mod_pack 84 = .ok (.aload_n 0, 1) := by decide +kernel
theorem d_Mod_pack_85 : decode b_Mod_pack 85 = .ok (.getfield 37, 3) := by decide +kernel
theorem d_Mod_pack_88 : decode b_Mod_pack 88 = .ok (.iconst 2, 1) := by decide +kernel
theorem d_Mod_pack_89 : decode b_Mod_pack 89 = .ok (.iload_n 1, 1) := by decide +kernel
theorem d_Mod_pack_90 : decode b_Mod_pack 90 = .ok (.iload_n 2, 1) := by decide +kernel
theorem d_Mod_pack_91 : decode b_Mod_pack 91 = .ok (.iload 6, 2) := by decide +kernel
theorem d_Mod_pack_93 : decode b_Mod_pack 93 = .ok (.iadd, 1) := by decide +kernel
theorem d_Mod_pack_94 : decode b_Mod_pack 94 = .ok (.invokestatic 59, 3) := by decide +kernel
theorem d_Mod_pack_97 : decode b_Mod_pack 97 = .ok (.iaload, 1) := by decide +kernel
theorem d_Mod_pack_98 : decode b_Mod_pack 98 = .ok (.istore 8, 2) := by decide +kernel
theorem d_Mod_pack_100 : decode b_Mod_pack 100 = .ok (.iinc 7 1, 3) := by decide +kernel
theorem d_Mod_pack_103 : decode b_Mod_pack 103 = .ok (.iload 8, 2) := by decide +kernel
theorem d_Mod_pack_105 : decode b_Mod_pack 105 = .ok (.aload_n 0, 1) := by decide +kernel
theorem d_Mod_pack_106 : decode b_Mod_pack 106 = .ok (.getfield 37, 3) := by decide +kernel
theorem d_Mod_pack_109 : decode b_Mod_pack 109 = .ok (.iconst 2, 1) := by decide +kernel
theorem d_Mod_pack_110 : decode b_Mod_pack 110 = .ok (.iload_n 1, 1) := by decide +kernel
theorem d_Mod_pack_111 : decode b_Mod_pack 111 = .ok (.iload_n 2, 1) := by decide +kernel
theorem d_Mod_pack_112 : decode b_Mod_pack 112 = .ok (.iload 7, 2) := by decide +kernel
theorem d_Mod_pack_114 : decode b_Mod_pack 114 = .ok (.iadd, 1) := by decide +kernel
theorem d_Mod_pack_115 : decode b_Mod_pack 115 = .ok (.invokestatic 59, 3) := by decide +kernel
theorem d_Mod_pack_118 : decode b_Mod_pack 118 = .ok (.iaload, 1) := by decide +kernel
theorem d_Mod_pack_119 : decode b_Mod_pack 119 = .ok (.iadd, 1) := by decide +kernel
theorem d_Mod_pack_120 : decode b_Mod_pack 120 = .ok (.istore 8, 2) := by decide +kernel
theorem d_Mod_pack_122 : decode b_Mod_pack 122 = .ok (.iload 8, 2) := by decide +kernel
theorem d_Mod_pack_124 : decode b_Mod_pack 124 = .ok (.iconst 4, 1) := by decide +kernel
theorem d_Mod_pack_125 : decode b_Mod_pack 125 = .ok (.iload 7, 2) := by decide +kernel
theorem d_Mod_pack_127 : decode b_Mod_pack 127 = .ok (.iload 6, 2) := by decide +kernel
theorem d_Mod_pack_129 : decode b_Mod_pack 129 = .ok (.isub, 1) := by decide +kernel
theorem d_Mod_pack_130 : decode b_Mod_pack 130 = .ok (.imul, 1) := by decide +kernel
theorem d_Mod_pack_131 : decode b_Mod_pack 131 = .ok (.if_icmp .gt (-31), 3) := by decide +kernel
theorem d_Mod_pack_134 : decode b_Mod_pack 134 = .ok (.iload 6, 2) := by decide +kernel
theorem d_Mod_pack_136 : decode b_Mod_pack 136 = .ok (.istore 9, 2) := by decide +kernel
theorem d_Mod_pack_138 : decode b_Mod_pack 138 = .ok (.iload 9, 2) := by decide +kernel
theorem d_Mod_pack_140 : decode b_Mod_pack 140 = .ok (.iload 7, 2) := by decide +kernel
theorem d_Mod_pack_142 : decode b_Mod_pack 142 = .ok (.if_icmp .ge 38, 3) := by decide +kernel
theorem d_Mod_pack_145 : decode b_Mod_pack 145 = .ok (.aload_n 0, 1) := by decide +kernel
theorem d_Mod_pack_146 : decode b_Mod_pack 146 = .ok (.getfield 37, 3) := by decide +kernel
theorem d_Mod_pack_149 : decode b_Mod_pack 149 = .ok (.iconst 2, 1) := by decide +kernel
theorem d_Mod_pack_150 : decode b_Mod_pack 150 = .ok (.iload_n 1, 1) := by decide +kernel
theorem d_Mod_pack_151 : decode b_Mod_pack 151 = .ok (.iload_n 2, 1) := by decide +kernel
theorem d_Mod_pack_152 : decode b_Mod_pack 152 = .ok (.iload 9, 2) := by decide +kernel
theorem d_Mod_pack_154 : decode b_Mod_pack 154 = .ok (.iadd, 1) := by decide +kernel
theorem d_Mod_pack_155 : decode b_Mod_pack 155 = .ok (.invokestatic 59, 3) := by decide +kernel
theorem d_Mod_pack_158 : decode b_Mod_pack 158 = .ok (.iload 8, 2) := by decide +kernel
theorem d_Mod_pack_160 : decode b_Mod_pack 160 = .ok (.iconst 4, 1) := by decide +kernel
theorem d_Mod_pack_161 : decode b_Mod_pack 161 = .ok (.if_icmp .ge 8, 3) := by decide +kernel
theorem d_Mod_pack_164 : decode b_Mod_pack 164 = .ok (.iload 8, 2) := by decide +kernel
theorem d_Mod_pack_166 : decode b_Mod_pack 166 = .ok (.goto 4, 3) := by decide +kernel
theorem d_Mod_pack_169 : decode b_Mod_pack 169 = .ok (.iconst 4, 1) := by decide +kernel
theorem d_Mod_pack_170 : decode b_Mod_pack 170 = .ok (.iastore, 1) := by decide +kernel
theorem d_Mod_pack_171 : decode b_Mod_pack 171 = .ok (.iinc 8 (-4), 3) := by decide +kernel
theorem d_Mod_pack_174 : decode b_Mod_pack 174 = .ok (.iinc 9 1, 3) := by decide +kernel
theorem d_Mod_pack_177 : decode b_Mod_pack 177 = .ok (.goto (-39), 3) := by decide +kernel
theorem d_Mod_pack_180 : decode b_Mod_pack 180 = .ok (.aload_n 0, 1) := by decide +kernel
theorem d_Mod_pack_181 : decode b_Mod_pack 181 = .ok (.iconst 2, 1) := by decide +kernel
theorem d_Mod_pack_182 : decode b_Mod_pack 182 = .ok (.iload_n 1, 1) := by decide +kernel
theorem d_Mod_pack_183 : decode b_Mod_pack 183 = .ok (.iload_n 2, 1) := by decide +kernel
theorem d_Mod_pack_184 : decode b_Mod_pack 184 = .ok (.iload 7, 2) := by decide +kernel
theorem d_Mod_pack_186 : decode b_Mod_pack 186 = .ok (.iadd, 1) := by decide +kernel
theorem d_Mod_pack_187 : decode b_Mod_pack 187 = .ok (.invokevirtual 75, 3) := by decide +kernel
theorem d_Mod_pack_190 : decode b_Mod_pack 190 = .ok (.iinc 5 (-1), 3) := by decide +kernel
theorem d_Mod_pack_193 : decode b_Mod_pack 193 = .ok (.goto (-153), 3) := by decide +kernel
theorem d_Mod_pack_196 : decode b_Mod_pack 196 = .ok (.iload 5, 2) := by decide +kernel
theorem d_Mod_pack_198 : decode b_Mod_pack 198 = .ok (.ireturn, 1) := by decide +kernel
theorem d_Mod_leave_0 : decode b_Mod_leave 0 = .ok (.aload_n 0, 1) := by decide +kernel
theorem d_Mod_leave_1 : decode b_Mod_leave 1 = .ok (.getfield 40, 3) := by decide +kernel
theorem d_Mod_leave_4 : decode b_Mod_leave 4 = .ok (.bipush 8, 2) := by decide +kernel
theorem d_Mod_leave_6 : decode b_Mod_leave 6 = .ok (.iload_n 1, 1) := by decide +kernel
theorem d_Mod_leave_7 : decode b_Mod_leave 7 = .ok (.imul, 1) := by decide +kernel
theorem d_Mod_leave_8 : decode b_Mod_leave 8 = .ok (.iload_n 2, 1) := by decide +kernel
theorem d_Mod_leave_9 : decode b_Mod_leave 9 = .ok (.iadd, 1) := by decide +kernel
theorem d_Mod_leave_10 : decode b_Mod_leave 10 = .ok (.iaload, 1) := by decide +kernel
theorem d_Mod_leave_11 : decode b_Mod_leave 11 = .ok (.iconst 1, 1) := by decide +kernel
theorem d_Mod_leave_12 : decode b_Mod_leave 12 = .ok (.isub, 1) := by decide +kernel
theorem d_Mod_leave_13 : decode b_Mod_leave 13 = .ok (.istore 4, 2) := by decide +kernel
theorem d_Mod_leave_15 : decode b_Mod_leave 15 = .ok (.iload_n 3, 1) := by decide +kernel
theorem d_Mod_leave_16 : decode b_Mod_leave 16 = .ok (.istore 5, 2) := by decide +kernel
theorem d_Mod_leave_18 : decode b_Mod_leave 18 = .ok (.iload 5, 2) := by decide +kernel
theorem d_Mod_leave_20 : decode b_Mod_leave 20 = .ok (.iload 4, 2) := by decide +kernel
theorem d_Mod_leave_22 : decode b_Mod_leave 22 = .ok (.if_icmp .ge 35, 3) := by decide +kernel
theorem d_Mod_leave_25 : decode b_Mod_leave 25 = .ok (.aload_n 0, 1) := by decide +kernel
theorem d_Mod_leave_26 : decode b_Mod_leave 26 = .ok (.getfield 37, 3) := by decide +kernel
theorem d_Mod_leave_29 : decode b_Mod_leave 29 = .ok (.iload_n 1, 1) := by decide +kernel
theorem d_Mod_leave_30 : decode b_Mod_leave 30 = .ok (.iload_n 2, 1) := by decide +kernel
theorem d_Mod_leave_31 : decode b_Mod_leave 31 = .ok (.iload 5, 2) := by decide +kernel
theorem d_Mod_leave_33 : decode b_Mod_leave 33 = .ok (.invokestatic 59, 3) := by decide +kernel
theorem d_Mod_leave_36 : decode b_Mod_leave 36 = .ok (.aload_n 0, 1) := by decide +kernel
theorem d_Mod_leave_37 : decode b_Mod_leave 37 = .ok (.getfield 37, 3) := by decide +kernel
theorem d_Mod_leave_40 : decode b_Mod_leave 40 = .ok (.iload_n 1, 1) := by decide +kernel
theorem d_Mod_leave_41 : decode b_Mod_leave 41 = .ok (.iload_n 2, 1) := by decide +kernel
theorem d_Mod_leave_42 : decode b_Mod_leave 42 = .ok (.iload 5, 2) := by decide +kernel
theorem d_Mod_leave_44 : decode b_Mod_leave 44 = .ok (.iconst 1, 1) := by decide +kernel
theorem d_Mod_leave_45 : decode b_Mod_leave 45 = .ok (.iadd, 1) := by decide +kernel
theorem d_Mod_leave_46 : decode b_Mod_leave 46 = .ok (.invokestatic 59, 3) := by decide +kernel
theorem d_Mod_leave_49 : decode b_Mod_leave 49 = .ok (.iaload, 1) := by decide +kernel
theorem d_Mod_leave_50 : decode b_Mod_leave 50 = .ok (.iastore, 1) := by decide +kernel
theorem d_Mod_leave_51 : decode b_Mod_leave 51 = .ok (.iinc 5 1, 3) := by decide +kernel
theorem d_Mod_leave_54 : decode b_Mod_leave 54 = .ok (.goto (-36), 3) := by decide +kernel
theorem d_Mod_leave_57 : decode b_Mod_leave 57 = .ok (.aload_n 0, 1) := by decide +kernel
theorem d_Mod_leave_58 : decode b_Mod_leave 58 = .ok (.getfield 40, 3) := by decide +kernel
theorem d_Mod_leave_61 : decode b_Mod_leave 61 = .ok (.bipush 8, 2) := by decide +kernel
theorem d_Mod_leave_63 : decode b_Mod_leave 63 = .ok (.iload_n 1, 1) := by decide +kernel
theorem d_Mod_leave_64 : decode b_Mod_leave 64 = .ok (.imul, 1) := by decide +kernel
theorem d_Mod_leave_65 : decode b_Mod_leave 65 = .ok (.iload_n 2, 1) := by decide +kernel
theorem d_Mod_leave_66 : decode b_Mod_leave 66 = .ok (.iadd, 1) := by decide +kernel
theorem d_Mod_leave_67 : decode b_Mod_leave 67 = .ok (.iload 4, 2) := by decide +kernel
theorem d_Mod_leave_69 : decode b_Mod_leave 69 = .ok (.iastore, 1) := by decide +kernel
theorem d_Mod_leave_70 : decode b_Mod_leave 70 = .ok (.return_, 1) := by decide +kernel
