/-! decode rows (by program) -/
theorem d_Cls_init_0 : decode b_Cls_init 0 = .ok (.aload_n 0, 1) := by decide +kernel
theorem d_Cls_init_1 : decode b_Cls_init 1 = .ok (.invokespecial 3, 3) := by decide +kernel
theorem d_Cls_init_4 : decode b_Cls_init 4 = .ok (.aload_n 0, 1) := by decide +kernel
theorem d_Cls_init_5 : decode b_Cls_init 5 = .ok (.new 9, 3) := by decide +kernel
theorem d_Cls_init_8 : decode b_Cls_init 8 = .ok (.dup, 1) := by decide +kernel
theorem d_Cls_init_9 : decode b_Cls_init 9 = .ok (.invokespecial 11, 3) := by decide +kernel
theorem d_Cls_init_12 : decode b_Cls_init 12 = .ok (.putfield 12, 3) := by decide +kernel
theorem d_Cls_init_15 : decode b_Cls_init 15 = .ok (.aload_n 0, 1) := by decide +kernel
theorem d_Cls_init_16 : decode b_Cls_init 16 = .ok (.getfield 12, 3) := by decide +kernel
theorem d_Cls_init_19 : decode b_Cls_init 19 = .ok (.new 16, 3) := by decide +kernel
theorem d_Cls_init_22 : decode b_Cls_init 22 = .ok (.dup, 1) := by decide +kernel
theorem d_Cls_init_23 : decode b_Cls_init 23 = .ok (.invokespecial 18, 3) := by decide +kernel
theorem d_Cls_init_26 : decode b_Cls_init 26 = .ok (.invokevirtual 19, 3) := by decide +kernel
theorem d_Cls_init_29 : decode b_Cls_init 29 = .ok (.pop, 1) := by decide +kernel
theorem d_Cls_init_30 : decode b_Cls_init 30 = .ok (.aload_n 0, 1) := by decide +kernel
theorem d_Cls_init_31 : decode b_Cls_init 31 = .ok (.bipush 40, 2) := by decide +kernel
theorem d_Cls_init_33 : decode b_Cls_init 33 = .ok (.newarray .boolean, 2) := by decide +kernel
theorem d_Cls_init_35 : decode b_Cls_init 35 = .ok (.putfield 23, 3) := by decide +kernel
theorem d_Cls_init_38 : decode b_Cls_init 38 = .ok (.aload_n 0, 1) := by decide +kernel
theorem d_Cls_init_39 : decode b_Cls_init 39 = .ok (.new 16, 3) := by decide +kernel
theorem d_Cls_init_42 : decode b_Cls_init 42 = .ok (.dup, 1) := by decide +kernel
theorem d_Cls_init_43 : decode b_Cls_init 43 = .ok (.invokespecial 18, 3) := by decide +kernel
theorem d_Cls_init_46 : decode b_Cls_init 46 = .ok (.putfield 27, 3) := by decide +kernel
theorem d_Cls_init_49 : decode b_Cls_init 49 = .ok (.aload_n 0, 1) := by decide +kernel
theorem d_Cls_init_50 : decode b_Cls_init 50 = .ok (.new 16, 3) := by decide +kernel
theorem d_Cls_init_53 : decode b_Cls_init 53 = .ok (.dup, 1) := by decide +kernel
theorem d_Cls_init_54 : decode b_Cls_init 54 = .ok (.invokespecial 18, 3) := by decide +kernel
theorem d_Cls_init_57 : decode b_Cls_init 57 = .ok (.putfield 31, 3) := by decide +kernel
theorem d_Cls_init_60 : decode b_Cls_init 60 = .ok (.aload_n 0, 1) := by decide +kernel
theorem d_Cls_init_61 : decode b_Cls_init 61 = .ok (.new 16, 3) := by decide +kernel
theorem d_Cls_init_64 : decode b_Cls_init 64 = .ok (.dup, 1) := by decide +kernel
theorem d_Cls_init_65 : decode b_Cls_init 65 = .ok (.invokespecial 18, 3) := by decide +kernel
theorem d_Cls_init_68 : decode b_Cls_init 68 = .ok (.putfield 34, 3) := by decide +kernel
theorem d_Cls_init_71 : decode b_Cls_init 71 = .ok (.return_, 1) := by decide +kernel
theorem d_AL_init_0 : decode b_AL_init 0 = .ok (.aload_n 0, 1) := by decide +kernel
theorem d_AL_init_1 : decode b_AL_init 1 = .ok (.invokespecial 1, 3) := by decide +kernel
theorem d_AL_init_4 : decode b_AL_init 4 = .ok (.aload_n 0, 1) := by decide +kernel
theorem d_AL_init_5 : decode b_AL_init 5 = .ok (.getstatic 39, 3) := by decide +kernel
theorem d_AL_init_8 : decode b_AL_init 8 = .ok (.putfield 9, 3) := by decide +kernel
theorem d_AL_init_11 : decode b_AL_init 11 = .ok (.return_, 1) := by decide +kernel
theorem d_ALa_init_0 : decode b_ALa_init 0 = .ok (.aload_n 0, 1) := by decide +kernel
theorem d_ALa_init_1 : decode b_ALa_init 1 = .ok (.invokespecial 1, 3) := by decide +kernel
theorem d_ALa_init_4 : decode b_ALa_init 4 = .ok (.aload_n 0, 1) := by decide +kernel
theorem d_ALa_init_5 : decode b_ALa_init 5 = .ok (.iconst 0, 1) := by decide +kernel
theorem d_ALa_init_6 : decode b_ALa_init 6 = .ok (.putfield 7, 3) := by decide +kernel
theorem d_ALa_init_9 : decode b_ALa_init 9 = .ok (.return_, 1) := by decide +kernel
theorem d_AC_init_0 : decode b_AC_init 0 = .ok (.aload_n 0, 1) := by decide +kernel
theorem d_AC_init_1 : decode b_AC_init 1 = .ok (.invokespecial 1, 3) := by decide +kernel
theorem d_AC_init_4 : decode b_AC_init 4 = .ok (.return_, 1) := by decide +kernel
theorem d_AL_add_0 : decode b_AL_add 0 = .ok (.aload_n 0, 1) := by decide +kernel
theorem d_AL_add_1 : decode b_AL_add 1 = .ok (.dup, 1) := by decide +kernel
theorem d_AL_add_2 : decode b_AL_add 2 = .ok (.getfield 63, 3) := by decide +kernel
theorem d_AL_add_5 : decode b_AL_add 5 = .ok (.iconst 1, 1) := by decide +kernel
theorem d_AL_add_6 : decode b_AL_add 6 = .ok (.iadd, 1) := by decide +kernel
theorem d_AL_add_7 : decode b_AL_add 7 = .ok (.putfield 63, 3) := by decide +kernel
theorem d_AL_add_10 : decode b_AL_add 10 = .ok (.aload_n 0, 1) := by decide +kernel
theorem d_AL_add_11 : decode b_AL_add 11 = .ok (.aload_n 1, 1) := by decide +kernel
theorem d_AL_add_12 : decode b_AL_add 12 = .ok (.aload_n 0, 1) := by decide +kernel
theorem d_AL_add_13 : decode b_AL_add 13 = .ok (.getfield 9, 3) := by decide +kernel
theorem d_AL_add_16 : decode b_AL_add 16 = .ok (.aload_n 0, 1) := by decide +kernel
theorem d_AL_add_17 : decode b_AL_add 17 = .ok (.getfield 48, 3) := by decide +kernel
theorem d_AL_add_20 : decode b_AL_add 20 = .ok (.invokevirtual 131, 3) := by decide +kernel
theorem d_AL_add_23 : decode b_AL_add 23 = .ok (.iconst 1, 1) := by decide +kernel
theorem d_AL_add_24 : decode b_AL_add 24 = .ok (.ireturn, 1) := by decide +kernel
theorem d_AL_add3_0 : decode b_AL_add3 0 = .ok (.iload_n 3, 1) := by decide +kernel
theorem d_AL_add3_1 : decode b_AL_add3 1 = .ok (.aload_n 2, 1) := by decide +kernel
theorem d_AL_add3_2 : decode b_AL_add3 2 = .ok (.arraylength, 1) := by decide +kernel
theorem d_AL_add3_3 : decode b_AL_add3 3 = .ok (.if_icmp .ne 8, 3) := by decide +kernel
theorem d_AL_add3_6 : decode b_AL_add3 6 = .ok (.aload_n 0, 1) := by decide +kernel
theorem d_AL_add3_7 : decode b_AL_add3 7 = .ok (.invokevirtual 129, 3) := by decide +kernel
theorem d_AL_add3_10 : decode b_AL_add3 10 = .ok (.astore_n 2, 1) := by decide +kernel
theorem d_AL_add3_11 : decode b_AL_add3 11 = .ok (.aload_n 2, 1) := by decide +kernel
theorem d_AL_add3_12 : decode b_AL_add3 12 = .ok (.iload_n 3, 1) := by decide +kernel
theorem d_AL_add3_13 : decode b_AL_add3 13 = .ok (.aload_n 1, 1) := by decide +kernel
theorem d_AL_add3_14 : decode b_AL_add3 14 = .ok (.aastore, 1) := by decide +kernel
theorem d_AL_add3_15 : decode b_AL_add3 15 = .ok (.aload_n 0, 1) := by decide +kernel
theorem d_AL_add3_16 : decode b_AL_add3 16 = .ok (.iload_n 3, 1) := by decide +kernel
theorem d_AL_add3_17 : decode b_AL_add3 17 = .ok (.iconst 1, 1) := by decide +kernel
theorem d_AL_add3_18 : decode b_AL_add3 18 = .ok (.iadd, 1) := by decide +kernel
theorem d_AL_add3_19 : decode b_AL_add3 19 = .ok (.putfield 48, 3) := by decide +kernel
theorem d_AL_add3_22 : decode b_AL_add3 22 = .ok (.return_, 1) := by decide +kernel
theorem d_AL_grow0_0 : decode b_AL_grow0 0 = .ok (.aload_n 0, 1) := by decide +kernel
theorem d_AL_grow0_1 : decode b_AL_grow0 1 = .ok (.aload_n 0, 1) := by decide +kernel
theorem d_AL_grow0_2 : decode b_AL_grow0 2 = .ok (.getfield 48, 3) := by decide +kernel
theorem d_AL_grow0_5 : decode b_AL_grow0 5 = .ok (.iconst 1, 1) := by decide +kernel
theorem d_AL_grow0_6 : decode b_AL_grow0 6 = .ok (.iadd, 1) := by decide +kernel
theorem d_AL_grow0_7 : decode b_AL_grow0 7 = .ok (.invokevirtual 69, 3) := by decide +kernel
theorem d_AL_grow0_10 : decode b_AL_grow0 10 = .ok (.areturn, 1) := by decide +kernel
theorem d_AL_grow1_0 : decode b_AL_grow1 0 = .ok (.aload_n 0, 1) := by decide +kernel
theorem d_AL_grow1_1 : decode b_AL_grow1 1 = .ok (.getfield 9, 3) := by decide +kernel
theorem d_AL_grow1_4 : decode b_AL_grow1 4 = .ok (.arraylength, 1) := by decide +kernel
theorem d_AL_grow1_5 : decode b_AL_grow1 5 = .ok (.istore_n 2, 1) := by decide +kernel
theorem d_AL_grow1_6 : decode b_AL_grow1 6 = .ok (.iload_n 2, 1) := by decide +kernel
theorem d_AL_grow1_7 : decode b_AL_grow1 7 = .ok (.ifCond .gt 13, 3) := by decide +kernel
theorem d_AL_grow1_10 : decode b_AL_grow1 10 = .ok (.aload_n 0, 1) := by decide +kernel
theorem d_AL_grow1_11 : decode b_AL_grow1 11 = .ok (.getfield 9, 3) := by decide +kernel
theorem d_AL_grow1_14 : decode b_AL_grow1 14 = .ok (.getstatic 39, 3) := by decide +kernel
theorem d_AL_grow1_17 : decode b_AL_grow1 17 = .ok (.if_acmp .eq 28, 3) := by decide +kernel
theorem d_AL_grow1_20 : decode b_AL_grow1 20 = .ok (.iload_n 2, 1) := by decide +kernel
theorem d_AL_grow1_21 : decode b_AL_grow1 21 = .ok (.iload_n 1, 1) := by decide +kernel
theorem d_AL_grow1_22 : decode b_AL_grow1 22 = .ok (.iload_n 2, 1) := by decide +kernel
theorem d_AL_grow1_23 : decode b_AL_grow1 23 = .ok (.isub, 1) := by decide +kernel
theorem d_AL_grow1_24 : decode b_AL_grow1 24 = .ok (.iload_n 2, 1) := by decide +kernel
theorem d_AL_grow1_25 : decode b_AL_grow1 25 = .ok (.iconst 1, 1) := by decide +kernel
theorem d_AL_grow1_26 : decode b_AL_grow1 26 = .ok (.ishr, 1) := by decide +kernel
theorem d_AL_grow1_27 : decode b_AL_grow1 27 = .ok (.invokestatic 73, 3) := by decide +kernel
theorem d_AL_grow1_30 : decode b_AL_grow1 30 = .ok (.istore_n 3, 1) := by decide +kernel
theorem d_AL_grow1_31 : decode b_AL_grow1 31 = .ok (.aload_n 0, 1) := by decide +kernel
theorem d_AL_grow1_32 : decode b_AL_grow1 32 = .ok (.aload_n 0, 1) := by decide +kernel
theorem d_AL_grow1_33 : decode b_AL_grow1 33 = .ok (.getfield 9, 3) := by decide +kernel
theorem d_AL_grow1_36 : decode b_AL_grow1 36 = .ok (.iload_n 3, 1) := by decide +kernel
theorem d_AL_grow1_37 : decode b_AL_grow1 37 = .ok (.invokestatic 66, 3) := by decide +kernel
theorem d_AL_grow1_40 : decode b_AL_grow1 40 = .ok (.dup_x1, 1) := by decide +kernel
theorem d_AL_grow1_41 : decode b_AL_grow1 41 = .ok (.putfield 9, 3) := by decide +kernel
theorem d_AL_grow1_44 : decode b_AL_grow1 44 = .ok (.areturn, 1) := by decide +kernel
theorem d_AL_grow1_45 : decode b_AL_grow1 45 = .ok (.aload_n 0, 1) := by decide +kernel
theorem d_AL_grow1_46 : decode b_AL_grow1 46 = .ok (.bipush 10, 2) := by decide +kernel
theorem d_AL_grow1_48 : decode b_AL_grow1 48 = .ok (.iload_n 1, 1) := by decide +kernel
theorem d_AL_grow1_49 : decode b_AL_grow1 49 = .ok (.invokestatic 79, 3) := by decide +kernel
theorem d_AL_grow1_52 : decode b_AL_grow1 52 = .ok (.anewarray 7, 3) := by decide +kernel
theorem d_AL_grow1_55 : decode b_AL_grow1 55 = .ok (.dup_x1, 1) := by decide +kernel
theorem d_AL_grow1_56 : decode b_AL_grow1 56 = .ok (.putfield 9, 3) := by decide +kernel
theorem d_AL_grow1_59 : decode b_AL_grow1 59 = .ok (.areturn, 1) := by decide +kernel
theorem d_AS_newLength_0 : decode b_AS_newLength 0 = .ok (.iload_n 0, 1) := by decide +kernel
theorem d_AS_newLength_1 : decode b_AS_newLength 1 = .ok (.iload_n 1, 1) := by decide +kernel
theorem d_AS_newLength_2 : decode b_AS_newLength 2 = .ok (.iload_n 2, 1) := by decide +kernel
theorem d_AS_newLength_3 : decode b_AS_newLength 3 = .ok (.invokestatic 194, 3) := by decide +kernel
theorem d_AS_newLength_6 : decode b_AS_newLength 6 = .ok (.iadd, 1) := by decide +kernel
theorem d_AS_newLength_7 : decode b_AS_newLength 7 = .ok (.istore_n 3, 1) := by decide +kernel
theorem d_AS_newLength_8 : decode b_AS_newLength 8 = .ok (.iconst 0, 1) := by decide +kernel
theorem d_AS_newLength_9 : decode b_AS_newLength 9 = .ok (.iload_n 3, 1) := by decide +kernel
theorem d_AS_newLength_10 : decode b_AS_newLength 10 = .ok (.if_icmp .ge 11, 3) := by decide +kernel
theorem d_AS_newLength_13 : decode b_AS_newLength 13 = .ok (.iload_n 3, 1) := by decide +kernel
theorem d_AS_newLength_14 : decode b_AS_newLength 14 = .ok (.ldc 200, 2) := by decide +kernel
theorem d_AS_newLength_16 : decode b_AS_newLength 16 = .ok (.if_icmp .gt 5, 3) := by decide +kernel
theorem d_AS_newLength_19 : decode b_AS_newLength 19 = .ok (.iload_n 3, 1) := by decide +kernel
theorem d_AS_newLength_20 : decode b_AS_newLength 20 = .ok (.ireturn, 1) := by decide +kernel
theorem d_AS_newLength_21 : decode b_AS_newLength 21 = .ok (.iload_n 0, 1) := by decide +kernel
theorem d_AS_newLength_22 : decode b_AS_newLength 22 = .ok (.iload_n 1, 1) := by decide +kernel
theorem d_AS_newLength_23 : decode b_AS_newLength 23 = .ok (.invokestatic 201, 3) := by decide +kernel
theorem d_AS_newLength_26 : decode b_AS_newLength 26 = .ok (.ireturn, 1) := by decide +kernel
theorem d_Arr_copyOf2_0 : decode b_Arr_copyOf2 0 = .ok (.aload_n 0, 1) := by decide +kernel
theorem d_Arr_copyOf2_1 : decode b_Arr_copyOf2 1 = .ok (.iload_n 1, 1) := by decide +kernel
theorem d_Arr_copyOf2_2 : decode b_Arr_copyOf2 2 = .ok (.aload_n 0, 1) := by decide +kernel
theorem d_Arr_copyOf2_3 : decode b_Arr_copyOf2 3 = .ok (.invokevirtual 86, 3) := by decide +kernel
theorem d_Arr_copyOf2_6 : decode b_Arr_copyOf2 6 = .ok (.invokestatic 300, 3) := by decide +kernel
theorem d_Arr_copyOf2_9 : decode b_Arr_copyOf2 9 = .ok (.areturn, 1) := by decide +kernel
theorem d_Arr_copyOf3_0 : decode b_Arr_copyOf3 0 = .ok (.aload_n 2, 1) := by decide +kernel
theorem d_Arr_copyOf3_1 : decode b_Arr_copyOf3 1 = .ok (.ldc 110, 2) := by decide +kernel
theorem d_Arr_copyOf3_3 : decode b_Arr_copyOf3 3 = .ok (.if_acmp .ne 10, 3) := by decide +kernel
theorem d_Arr_copyOf3_6 : decode b_Arr_copyOf3 6 = .ok (.iload_n 1, 1) := by decide +kernel
theorem d_Arr_copyOf3_7 : decode b_Arr_copyOf3 7 = .ok (.anewarray 2, 3) := by decide +kernel
theorem d_Arr_copyOf3_10 : decode b_Arr_copyOf3 10 = .ok (.goto 14, 3) := by decide +kernel
theorem d_Arr_copyOf3_13 : decode b_Arr_copyOf3 13 = .ok (.aload_n 2, 1) := by decide +kernel
theorem d_Arr_copyOf3_14 : decode b_Arr_copyOf3 14 = .ok (.invokevirtual 90, 3) := by decide +kernel
theorem d_Arr_copyOf3_17 : decode b_Arr_copyOf3 17 = .ok (.iload_n 1, 1) := by decide +kernel
theorem d_Arr_copyOf3_18 : decode b_Arr_copyOf3 18 = .ok (.invokestatic 95, 3) := by decide +kernel
theorem d_Arr_copyOf3_21 : decode b_Arr_copyOf3 21 = .ok (.checkcast 110, 3) := by decide +kernel
theorem d_Arr_copyOf3_24 : decode b_Arr_copyOf3 24 = .ok (.astore_n 3, 1) := by decide +kernel
theorem d_Arr_copyOf3_25 : decode b_Arr_copyOf3 25 = .ok (.aload_n 0, 1) := by decide +kernel
theorem d_Arr_copyOf3_26 : decode b_Arr_copyOf3 26 = .ok (.iconst 0, 1) := by decide +kernel
theorem d_Arr_copyOf3_27 : decode b_Arr_copyOf3 27 = .ok (.aload_n 3, 1) := by decide +kernel
theorem d_Arr_copyOf3_28 : decode b_Arr_copyOf3 28 = .ok (.iconst 0, 1) := by decide +kernel
theorem d_Arr_copyOf3_29 : decode b_Arr_copyOf3 29 = .ok (.aload_n 0, 1) := by decide +kernel
theorem d_Arr_copyOf3_30 : decode b_Arr_copyOf3 30 = .ok (.arraylength, 1) := by decide +kernel
theorem d_Arr_copyOf3_31 : decode b_Arr_copyOf3 31 = .ok (.iload_n 1, 1) := by decide +kernel
theorem d_Arr_copyOf3_32 : decode b_Arr_copyOf3 32 = .ok (.invokestatic 304, 3) := by decide +kernel
theorem d_Arr_copyOf3_35 : decode b_Arr_copyOf3 35 = .ok (.invokestatic 150, 3) := by decide +kernel
theorem d_Arr_copyOf3_38 : decode b_Arr_copyOf3 38 = .ok (.aload_n 3, 1) := by decide +kernel
theorem d_Arr_copyOf3_39 : decode b_Arr_copyOf3 39 = .ok (.areturn, 1) := by decide +kernel
theorem d_Cls_append_0 : decode b_Cls_append 0 = .ok (.aload_n 0, 1) := by decide +kernel
theorem d_Cls_append_1 : decode b_Cls_append 1 = .ok (.iload_n 1, 1) := by decide +kernel
theorem d_Cls_append_2 : decode b_Cls_append 2 = .ok (.iconst 1, 1) := by decide +kernel
theorem d_Cls_append_3 : decode b_Cls_append 3 = .ok (.invokevirtual 37, 3) := by decide +kernel
theorem d_Cls_append_6 : decode b_Cls_append 6 = .ok (.istore_n 3, 1) := by decide +kernel
theorem d_Cls_append_7 : decode b_Cls_append 7 = .ok (.iload_n 3, 1) := by decide +kernel
theorem d_Cls_append_8 : decode b_Cls_append 8 = .ok (.ifCond .eq 5, 3) := by decide +kernel
theorem d_Cls_append_11 : decode b_Cls_append 11 = .ok (.iload_n 3, 1) := by decide +kernel
theorem d_Cls_append_12 : decode b_Cls_append 12 = .ok (.ireturn, 1) := by decide +kernel
theorem d_Cls_append_13 : decode b_Cls_append 13 = .ok (.aload_n 0, 1) := by decide +kernel
theorem d_Cls_append_14 : decode b_Cls_append 14 = .ok (.getfield 34, 3) := by decide +kernel
theorem d_Cls_append_17 : decode b_Cls_append 17 = .ok (.aload_n 0, 1) := by decide +kernel
theorem d_Cls_append_18 : decode b_Cls_append 18 = .ok (.getfield 12, 3) := by decide +kernel
theorem d_Cls_append_21 : decode b_Cls_append 21 = .ok (.iload_n 1, 1) := by decide +kernel
theorem d_Cls_append_22 : decode b_Cls_append 22 = .ok (.invokevirtual 41, 3) := by decide +kernel
theorem d_Cls_append_25 : decode b_Cls_append 25 = .ok (.checkcast 16, 3) := by decide +kernel
theorem d_Cls_append_28 : decode b_Cls_append 28 = .ok (.invokevirtual 45, 3) := by decide +kernel
theorem d_Cls_append_31 : decode b_Cls_append 31 = .ok (.aload_n 0, 1) := by decide +kernel
theorem d_Cls_append_32 : decode b_Cls_append 32 = .ok (.getfield 34, 3) := by decide +kernel
theorem d_Cls_append_35 : decode b_Cls_append 35 = .ok (.iload_n 2, 1) := by decide +kernel
theorem d_Cls_append_36 : decode b_Cls_append 36 = .ok (.invokevirtual 49, 3) := by decide +kernel
theorem d_Cls_append_39 : decode b_Cls_append 39 = .ok (.aload_n 0, 1) := by decide +kernel
theorem d_Cls_append_40 : decode b_Cls_append 40 = .ok (.invokevirtual 53, 3) := by decide +kernel
theorem d_Cls_append_43 : decode b_Cls_append 43 = .ok (.ireturn, 1) := by decide +kernel
theorem d_Cls_refusalToGrow_0 : decode b_Cls_refusalToGrow 0 = .ok (.aload_n 0, 1) := by decide +kernel
theorem d_Cls_refusalToGrow_1 : decode b_Cls_refusalToGrow 1 = .ok (.iload_n 1, 1) := by decide +kernel
theorem d_Cls_refusalToGrow_2 : decode b_Cls_refusalToGrow 2 = .ok (.invokevirtual 60, 3) := by decide +kernel
theorem d_Cls_refusalToGrow_5 : decode b_Cls_refusalToGrow 5 = .ok (.ifCond .ne 5, 3) := by decide +kernel
theorem d_Cls_refusalToGrow_8 : decode b_Cls_refusalToGrow 8 = .ok (.iconst (-1), 1) := by decide +kernel
theorem d_Cls_refusalToGrow_9 : decode b_Cls_refusalToGrow 9 = .ok (.ireturn, 1) := by decide +kernel
theorem d_Cls_refusalToGrow_10 : decode b_Cls_refusalToGrow 10 = .ok (.aload_n 0, 1) := by decide +kernel
theorem d_Cls_refusalToGrow_11 : decode b_Cls_refusalToGrow 11 = .ok (.invokevirtual 68, 3) := by decide +kernel
theorem d_Cls_refusalToGrow_14 : decode b_Cls_refusalToGrow 14 = .ok (.ifCond .eq 6, 3) := by decide +kernel
theorem d_Cls_refusalToGrow_17 : decode b_Cls_refusalToGrow 17 = .ok (.bipush (-2), 2) := by decide +kernel
theorem d_Cls_refusalToGrow_19 : decode b_Cls_refusalToGrow 19 = .ok (.ireturn, 1) := by decide +kernel
theorem d_Cls_refusalToGrow_20 : decode b_Cls_refusalToGrow 20 = .ok (.aload_n 0, 1) := by decide +kernel
theorem d_Cls_refusalToGrow_21 : decode b_Cls_refusalToGrow 21 = .ok (.getfield 12, 3) := by decide +kernel
theorem d_Cls_refusalToGrow_24 : decode b_Cls_refusalToGrow 24 = .ok (.iload_n 1, 1) := by decide +kernel
theorem d_Cls_refusalToGrow_25 : decode b_Cls_refusalToGrow 25 = .ok (.invokevirtual 41, 3) := by decide +kernel
theorem d_Cls_refusalToGrow_28 : decode b_Cls_refusalToGrow 28 = .ok (.checkcast 16, 3) := by decide +kernel
theorem d_Cls_refusalToGrow_31 : decode b_Cls_refusalToGrow 31 = .ok (.invokevirtual 76, 3) := by decide +kernel
theorem d_Cls_refusalToGrow_34 : decode b_Cls_refusalToGrow 34 = .ok (.iload_n 2, 1) := by decide +kernel
theorem d_Cls_refusalToGrow_35 : decode b_Cls_refusalToGrow 35 = .ok (.iadd, 1) := by decide +kernel
theorem d_Cls_refusalToGrow_36 : decode b_Cls_refusalToGrow 36 = .ok (.bipush 80, 2) := by decide +kernel
theorem d_Cls_refusalToGrow_38 : decode b_Cls_refusalToGrow 38 = .ok (.if_icmp .le 8, 3) := by decide +kernel
theorem d_Cls_refusalToGrow_41 : decode b_Cls_refusalToGrow 41 = .ok (.bipush (-3), 2) := by decide +kernel
theorem d_Cls_refusalToGrow_43 : decode b_Cls_refusalToGrow 43 = .ok (.goto 4, 3) := by decide +kernel
theorem d_Cls_refusalToGrow_46 : decode b_Cls_refusalToGrow 46 = .ok (.iconst 0, 1) := by decide +kernel
theorem d_Cls_refusalToGrow_47 : decode b_Cls_refusalToGrow 47 = .ok (.ireturn, 1) := by decide +kernel
theorem d_Cls_isFrozen_0 : decode b_Cls_isFrozen 0 = .ok (.aload_n 0, 1) := by decide +kernel
theorem d_Cls_isFrozen_1 : decode b_Cls_isFrozen 1 = .ok (.iload_n 1, 1) := by decide +kernel
theorem d_Cls_isFrozen_2 : decode b_Cls_isFrozen 2 = .ok (.invokevirtual 97, 3) := by decide +kernel
theorem d_Cls_isFrozen_5 : decode b_Cls_isFrozen 5 = .ok (.ifCond .eq 16, 3) := by decide +kernel
theorem d_Cls_isFrozen_8 : decode b_Cls_isFrozen 8 = .ok (.aload_n 0, 1) := by decide +kernel
theorem d_Cls_isFrozen_9 : decode b_Cls_isFrozen 9 = .ok (.getfield 23, 3) := by decide +kernel
theorem d_Cls_isFrozen_12 : decode b_Cls_isFrozen 12 = .ok (.iload_n 1, 1) := by decide +kernel
theorem d_Cls_isFrozen_13 : decode b_Cls_isFrozen 13 = .ok (.baload, 1) := by decide +kernel
theorem d_Cls_isFrozen_14 : decode b_Cls_isFrozen 14 = .ok (.ifCond .ne 7, 3) := by decide +kernel
theorem d_Cls_isFrozen_17 : decode b_Cls_isFrozen 17 = .ok (.iconst 1, 1) := by decide +kernel
theorem d_Cls_isFrozen_18 : decode b_Cls_isFrozen 18 = .ok (.goto 4, 3) := by decide +kernel
theorem d_Cls_isFrozen_21 : decode b_Cls_isFrozen 21 = .ok (.iconst 0, 1) := by decide +kernel
theorem d_Cls_isFrozen_22 : decode b_Cls_isFrozen 22 = .ok (.ireturn, 1) := by decide +kernel
theorem d_Cls_isVersion_0 : decode b_Cls_isVersion 0 = .ok (.iload_n 1, 1) := by decide +kernel
theorem d_Cls_isVersion_1 : decode b_Cls_isVersion 1 = .ok (.ifCond .lt 24, 3) := by decide +kernel
theorem d_Cls_isVersion_4 : decode b_Cls_isVersion 4 = .ok (.iload_n 1, 1) := by decide +kernel
theorem d_Cls_isVersion_5 : decode b_Cls_isVersion 5 = .ok (.aload_n 0, 1) := by decide +kernel
theorem d_Cls_isVersion_6 : decode b_Cls_isVersion 6 = .ok (.getfield 12, 3) := by decide +kernel
theorem d_Cls_isVersion_9 : decode b_Cls_isVersion 9 = .ok (.invokevirtual 94, 3) := by decide +kernel
theorem d_Cls_isVersion_12 : decode b_Cls_isVersion 12 = .ok (.if_icmp .ge 13, 3) := by decide +kernel
theorem d_Cls_isVersion_15 : decode b_Cls_isVersion 15 = .ok (.iload_n 1, 1) := by decide +kernel
theorem d_Cls_isVersion_16 : decode b_Cls_isVersion 16 = .ok (.bipush 40, 2) := by decide +kernel
theorem d_Cls_isVersion_18 : decode b_Cls_isVersion 18 = .ok (.if_icmp .ge 7, 3) := by decide +kernel
theorem d_Cls_isVersion_21 : decode b_Cls_isVersion 21 = .ok (.iconst 1, 1) := by decide +kernel
theorem d_Cls_isVersion_22 : decode b_Cls_isVersion 22 = .ok (.goto 4, 3) := by decide +kernel
theorem d_Cls_isVersion_25 : decode b_Cls_isVersion 25 = .ok (.iconst 0, 1) := by decide +kernel
theorem d_Cls_isVersion_26 : decode b_Cls_isVersion 26 = .ok (.ireturn, 1) := by decide +kernel
theorem d_AL_size_0 : decode b_AL_size 0 = .ok (.aload_n 0, 1) := by decide +kernel
theorem d_AL_size_1 : decode b_AL_size 1 = .ok (.getfield 48, 3) := by decide +kernel
theorem d_AL_size_4 : decode b_AL_size 4 = .ok (.ireturn, 1) := by decide +kernel
theorem d_Cls_isFull_0 : decode b_Cls_isFull 0 = .ok (.aload_n 0, 1) := by decide +kernel
theorem d_Cls_isFull_1 : decode b_Cls_isFull 1 = .ok (.getfield 12, 3) := by decide +kernel
theorem d_Cls_isFull_4 : decode b_Cls_isFull 4 = .ok (.invokevirtual 94, 3) := by decide +kernel
theorem d_Cls_isFull_7 : decode b_Cls_isFull 7 = .ok (.bipush 40, 2) := by decide +kernel
theorem d_Cls_isFull_9 : decode b_Cls_isFull 9 = .ok (.if_icmp .lt 7, 3) := by decide +kernel
theorem d_Cls_isFull_12 : decode b_Cls_isFull 12 = .ok (.iconst 1, 1) := by decide +kernel
theorem d_Cls_isFull_13 : decode b_Cls_isFull 13 = .ok (.goto 4, 3) := by decide +kernel
theorem d_Cls_isFull_16 : decode b_Cls_isFull 16 = .ok (.iconst 0, 1) := by decide +kernel
theorem d_Cls_isFull_17 : decode b_Cls_isFull 17 = .ok (.ireturn, 1) := by decide +kernel
theorem d_AL_get_0 : decode b_AL_get 0 = .ok (.iload_n 1, 1) := by decide +kernel
theorem d_AL_get_1 : decode b_AL_get 1 = .ok (.aload_n 0, 1) := by decide +kernel
theorem d_AL_get_2 : decode b_AL_get 2 = .ok (.getfield 48, 3) := by decide +kernel
theorem d_AL_get_5 : decode b_AL_get 5 = .ok (.invokestatic 118, 3) := by decide +kernel
theorem d_AL_get_8 : decode b_AL_get 8 = .ok (.pop, 1) := by decide +kernel
theorem d_AL_get_9 : decode b_AL_get 9 = .ok (.aload_n 0, 1) := by decide +kernel
theorem d_AL_get_10 : decode b_AL_get 10 = .ok (.iload_n 1, 1) := by decide +kernel
theorem d_AL_get_11 : decode b_AL_get 11 = .ok (.invokevirtual 123, 3) := by decide +kernel
theorem d_AL_get_14 : decode b_AL_get 14 = .ok (.areturn, 1) := by decide +kernel
theorem d_Obs_checkIndex_0 : decode b_Obs_checkIndex 0 = .ok (.iload_n 0, 1) := by decide +kernel
theorem d_Obs_checkIndex_1 : decode b_Obs_checkIndex 1 = .ok (.iload_n 1, 1) := by decide +kernel
theorem d_Obs_checkIndex_2 : decode b_Obs_checkIndex 2 = .ok (.aconst_null, 1) := by decide +kernel
theorem d_Obs_checkIndex_3 : decode b_Obs_checkIndex 3 = .ok (.invokestatic 105, 3) := by decide +kernel
theorem d_Obs_checkIndex_6 : decode b_Obs_checkIndex 6 = .ok (.ireturn, 1) := by decide +kernel
theorem d_Prc_checkIndex_0 : decode b_Prc_checkIndex 0 = .ok (.iload_n 0, 1) := by decide +kernel
theorem d_Prc_checkIndex_1 : decode b_Prc_checkIndex 1 = .ok (.ifCond .lt 8, 3) := by decide +kernel
theorem d_Prc_checkIndex_4 : decode b_Prc_checkIndex 4 = .ok (.iload_n 0, 1) := by decide +kernel
theorem d_Prc_checkIndex_5 : decode b_Prc_checkIndex 5 = .ok (.iload_n 1, 1) := by decide +kernel
theorem d_Prc_checkIndex_6 : decode b_Prc_checkIndex 6 = .ok (.if_icmp .lt 10, 3) := by decide +kernel
theorem d_Prc_checkIndex_9 : decode b_Prc_checkIndex 9 = .ok (.aload_n 2, 1) := by decide +kernel
theorem d_Prc_checkIndex_10 : decode b_Prc_checkIndex 10 = .ok (.iload_n 0, 1) := by decide +kernel
theorem d_Prc_checkIndex_11 : decode b_Prc_checkIndex 11 = .ok (.iload_n 1, 1) := by decide +kernel
theorem d_Prc_checkIndex_12 : decode b_Prc_checkIndex 12 = .ok (.invokestatic 95, 3) := by decide +kernel
theorem d_Prc_checkIndex_15 : decode b_Prc_checkIndex 15 = .ok (.athrow, 1) := by decide +kernel
theorem d_Prc_checkIndex_16 : decode b_Prc_checkIndex 16 = .ok (.iload_n 0, 1) := by decide +kernel
theorem d_Prc_checkIndex_17 : decode b_Prc_checkIndex 17 = .ok (.ireturn, 1) := by decide +kernel
theorem d_AL_elementData_0 : decode b_AL_elementData 0 = .ok (.aload_n 0, 1) := by decide +kernel
theorem d_AL_elementData_1 : decode b_AL_elementData 1 = .ok (.getfield 9, 3) := by decide +kernel
theorem d_AL_elementData_4 : decode b_AL_elementData 4 = .ok (.iload_n 1, 1) := by decide +kernel
theorem d_AL_elementData_5 : decode b_AL_elementData 5 = .ok (.aaload, 1) := by decide +kernel
theorem d_AL_elementData_6 : decode b_AL_elementData 6 = .ok (.areturn, 1) := by decide +kernel
theorem d_Cls_keepResult_0 : decode b_Cls_keepResult 0 = .ok (.aload_n 0, 1) := by decide +kernel
theorem d_Cls_keepResult_1 : decode b_Cls_keepResult 1 = .ok (.getfield 34, 3) := by decide +kernel
theorem d_Cls_keepResult_4 : decode b_Cls_keepResult 4 = .ok (.getfield 90, 3) := by decide +kernel
theorem d_Cls_keepResult_7 : decode b_Cls_keepResult 7 = .ok (.iconst 4, 1) := by decide +kernel
theorem d_Cls_keepResult_8 : decode b_Cls_keepResult 8 = .ok (.if_icmp .le 6, 3) := by decide +kernel
theorem d_Cls_keepResult_11 : decode b_Cls_keepResult 11 = .ok (.bipush (-4), 2) := by decide +kernel
theorem d_Cls_keepResult_13 : decode b_Cls_keepResult 13 = .ok (.ireturn, 1) := by decide +kernel
theorem d_Cls_keepResult_14 : decode b_Cls_keepResult 14 = .ok (.new 16, 3) := by decide +kernel
theorem d_Cls_keepResult_17 : decode b_Cls_keepResult 17 = .ok (.dup, 1) := by decide +kernel
theorem d_Cls_keepResult_18 : decode b_Cls_keepResult 18 = .ok (.invokespecial 18, 3) := by decide +kernel
theorem d_Cls_keepResult_21 : decode b_Cls_keepResult 21 = .ok (.astore_n 1, 1) := by decide +kernel
theorem d_Cls_keepResult_22 : decode b_Cls_keepResult 22 = .ok (.aload_n 1, 1) := by decide +kernel
theorem d_Cls_keepResult_23 : decode b_Cls_keepResult 23 = .ok (.aload_n 0, 1) := by decide +kernel
theorem d_Cls_keepResult_24 : decode b_Cls_keepResult 24 = .ok (.getfield 34, 3) := by decide +kernel
theorem d_Cls_keepResult_27 : decode b_Cls_keepResult 27 = .ok (.invokevirtual 45, 3) := by decide +kernel
theorem d_Cls_keepResult_30 : decode b_Cls_keepResult 30 = .ok (.aload_n 0, 1) := by decide +kernel
theorem d_Cls_keepResult_31 : decode b_Cls_keepResult 31 = .ok (.getfield 12, 3) := by decide +kernel
theorem d_Cls_keepResult_34 : decode b_Cls_keepResult 34 = .ok (.aload_n 1, 1) := by decide +kernel
theorem d_Cls_keepResult_35 : decode b_Cls_keepResult 35 = .ok (.invokevirtual 19, 3) := by decide +kernel
theorem d_Cls_keepResult_38 : decode b_Cls_keepResult 38 = .ok (.pop, 1) := by decide +kernel
theorem d_Cls_keepResult_39 : decode b_Cls_keepResult 39 = .ok (.aload_n 0, 1) := by decide +kernel
theorem d_Cls_keepResult_40 : decode b_Cls_keepResult 40 = .ok (.getfield 12, 3) := by decide +kernel
theorem d_Cls_keepResult_43 : decode b_Cls_keepResult 43 = .ok (.invokevirtual 94, 3) := by decide +kernel
theorem d_Cls_keepResult_46 : decode b_Cls_keepResult 46 = .ok (.iconst 1, 1) := by decide +kernel
theorem d_Cls_keepResult_47 : decode b_Cls_keepResult 47 = .ok (.isub, 1) := by decide +kernel
theorem d_Cls_keepResult_48 : decode b_Cls_keepResult 48 = .ok (.ireturn, 1) := by decide +kernel
theorem d_Cls_prepend_0 : decode b_Cls_prepend 0 = .ok (.aload_n 0, 1) := by decide +kernel
theorem d_Cls_prepend_1 : decode b_Cls_prepend 1 = .ok (.iload_n 1, 1) := by decide +kernel
theorem d_Cls_prepend_2 : decode b_Cls_prepend 2 = .ok (.iconst 1, 1) := by decide +kernel
theorem d_Cls_prepend_3 : decode b_Cls_prepend 3 = .ok (.invokevirtual 37, 3) := by decide +kernel
theorem d_Cls_prepend_6 : decode b_Cls_prepend 6 = .ok (.istore_n 3, 1) := by decide +kernel
theorem d_Cls_prepend_7 : decode b_Cls_prepend 7 = .ok (.iload_n 3, 1) := by decide +kernel
theorem d_Cls_prepend_8 : decode b_Cls_prepend 8 = .ok (.ifCond .eq 5, 3) := by decide +kernel
theorem d_Cls_prepend_11 : decode b_Cls_prepend 11 = .ok (.iload_n 3, 1) := by decide +kernel
theorem d_Cls_prepend_12 : decode b_Cls_prepend 12 = .ok (.ireturn, 1) := by decide +kernel
theorem d_Cls_prepend_13 : decode b_Cls_prepend 13 = .ok (.aload_n 0, 1) := by decide +kernel
theorem d_Cls_prepend_14 : decode b_Cls_prepend 14 = .ok (.getfield 34, 3) := by decide +kernel
theorem d_Cls_prepend_17 : decode b_Cls_prepend 17 = .ok (.aload_n 0, 1) := by decide +kernel
theorem d_Cls_prepend_18 : decode b_Cls_prepend 18 = .ok (.getfield 12, 3) := by decide +kernel
theorem d_Cls_prepend_21 : decode b_Cls_prepend 21 = .ok (.iload_n 1, 1) := by decide +kernel
theorem d_Cls_prepend_22 : decode b_Cls_prepend 22 = .ok (.invokevirtual 41, 3) := by decide +kernel
theorem d_Cls_prepend_25 : decode b_Cls_prepend 25 = .ok (.checkcast 16, 3) := by decide +kernel
theorem d_Cls_prepend_28 : decode b_Cls_prepend 28 = .ok (.invokevirtual 45, 3) := by decide +kernel
theorem d_Cls_prepend_31 : decode b_Cls_prepend 31 = .ok (.aload_n 0, 1) := by decide +kernel
theorem d_Cls_prepend_32 : decode b_Cls_prepend 32 = .ok (.getfield 34, 3) := by decide +kernel
theorem d_Cls_prepend_35 : decode b_Cls_prepend 35 = .ok (.iload_n 2, 1) := by decide +kernel
theorem d_Cls_prepend_36 : decode b_Cls_prepend 36 = .ok (.invokevirtual 57, 3) := by decide +kernel
theorem d_Cls_prepend_39 : decode b_Cls_prepend 39 = .ok (.aload_n 0, 1) := by decide +kernel
theorem d_Cls_prepend_40 : decode b_Cls_prepend 40 = .ok (.invokevirtual 53, 3) := by decide +kernel
theorem d_Cls_prepend_43 : decode b_Cls_prepend 43 = .ok (.ireturn, 1) := by decide +kernel
theorem d_Cls_set_0 : decode b_Cls_set 0 = .ok (.aload_n 0, 1) := by decide +kernel
theorem d_Cls_set_1 : decode b_Cls_set 1 = .ok (.iload_n 1, 1) := by decide +kernel
theorem d_Cls_set_2 : decode b_Cls_set 2 = .ok (.invokevirtual 60, 3) := by decide +kernel
theorem d_Cls_set_5 : decode b_Cls_set 5 = .ok (.ifCond .eq 12, 3) := by decide +kernel
theorem d_Cls_set_8 : decode b_Cls_set 8 = .ok (.aload_n 0, 1) := by decide +kernel
theorem d_Cls_set_9 : decode b_Cls_set 9 = .ok (.iload_n 1, 1) := by decide +kernel
theorem d_Cls_set_10 : decode b_Cls_set 10 = .ok (.iload_n 2, 1) := by decide +kernel
theorem d_Cls_set_11 : decode b_Cls_set 11 = .ok (.invokevirtual 64, 3) := by decide +kernel
theorem d_Cls_set_14 : decode b_Cls_set 14 = .ok (.ifCond .ne 5, 3) := by decide +kernel
theorem d_Cls_set_17 : decode b_Cls_set 17 = .ok (.iconst (-1), 1) := by decide +kernel
theorem d_Cls_set_18 : decode b_Cls_set 18 = .ok (.ireturn, 1) := by decide +kernel
theorem d_Cls_set_19 : decode b_Cls_set 19 = .ok (.aload_n 0, 1) := by decide +kernel
theorem d_Cls_set_20 : decode b_Cls_set 20 = .ok (.invokevirtual 68, 3) := by decide +kernel
theorem d_Cls_set_23 : decode b_Cls_set 23 = .ok (.ifCond .eq 6, 3) := by decide +kernel
theorem d_Cls_set_26 : decode b_Cls_set 26 = .ok (.bipush (-2), 2) := by decide +kernel
theorem d_Cls_set_28 : decode b_Cls_set 28 = .ok (.ireturn, 1) := by decide +kernel
theorem d_Cls_set_29 : decode b_Cls_set 29 = .ok (.aload_n 0, 1) := by decide +kernel
theorem d_Cls_set_30 : decode b_Cls_set 30 = .ok (.getfield 34, 3) := by decide +kernel
theorem d_Cls_set_33 : decode b_Cls_set 33 = .ok (.aload_n 0, 1) := by decide +kernel
theorem d_Cls_set_34 : decode b_Cls_set 34 = .ok (.getfield 12, 3) := by decide +kernel
theorem d_Cls_set_37 : decode b_Cls_set 37 = .ok (.iload_n 1, 1) := by decide +kernel
theorem d_Cls_set_38 : decode b_Cls_set 38 = .ok (.invokevirtual 41, 3) := by decide +kernel
theorem d_Cls_set_41 : decode b_Cls_set 41 = .ok (.checkcast 16, 3) := by decide +kernel
theorem d_Cls_set_44 : decode b_Cls_set 44 = .ok (.invokevirtual 45, 3) := by decide +kernel
theorem d_Cls_set_47 : decode b_Cls_set 47 = .ok (.aload_n 0, 1) := by decide +kernel
theorem d_Cls_set_48 : decode b_Cls_set 48 = .ok (.getfield 34, 3) := by decide +kernel
theorem d_Cls_set_51 : decode b_Cls_set 51 = .ok (.iload_n 2, 1) := by decide +kernel
theorem d_Cls_set_52 : decode b_Cls_set 52 = .ok (.iload_n 3, 1) := by decide +kernel
theorem d_Cls_set_53 : decode b_Cls_set 53 = .ok (.invokevirtual 72, 3) := by decide +kernel
theorem d_Cls_set_56 : decode b_Cls_set 56 = .ok (.aload_n 0, 1) := by decide +kernel
theorem d_Cls_set_57 : decode b_Cls_set 57 = .ok (.invokevirtual 53, 3) := by decide +kernel
theorem d_Cls_set_60 : decode b_Cls_set 60 = .ok (.ireturn, 1) := by decide +kernel
theorem d_Cls_isPlace_0 : decode b_Cls_isPlace 0 = .ok (.aload_n 0, 1) := by decide +kernel
theorem d_Cls_isPlace_1 : decode b_Cls_isPlace 1 = .ok (.iload_n 1, 1) := by decide +kernel
theorem d_Cls_isPlace_2 : decode b_Cls_isPlace 2 = .ok (.invokevirtual 97, 3) := by decide +kernel
theorem d_Cls_isPlace_5 : decode b_Cls_isPlace 5 = .ok (.ifCond .eq 29, 3) := by decide +kernel
theorem d_Cls_isPlace_8 : decode b_Cls_isPlace 8 = .ok (.iload_n 2, 1) := by decide +kernel
theorem d_Cls_isPlace_9 : decode b_Cls_isPlace 9 = .ok (.ifCond .lt 25, 3) := by decide +kernel
theorem d_Cls_isPlace_12 : decode b_Cls_isPlace 12 = .ok (.iload_n 2, 1) := by decide +kernel
theorem d_Cls_isPlace_13 : decode b_Cls_isPlace 13 = .ok (.aload_n 0, 1) := by decide +kernel
theorem d_Cls_isPlace_14 : decode b_Cls_isPlace 14 = .ok (.getfield 12, 3) := by decide +kernel
theorem d_Cls_isPlace_17 : decode b_Cls_isPlace 17 = .ok (.iload_n 1, 1) := by decide +kernel
theorem d_Cls_isPlace_18 : decode b_Cls_isPlace 18 = .ok (.invokevirtual 41, 3) := by decide +kernel
theorem d_Cls_isPlace_21 : decode b_Cls_isPlace 21 = .ok (.checkcast 16, 3) := by decide +kernel
theorem d_Cls_isPlace_24 : decode b_Cls_isPlace 24 = .ok (.invokevirtual 76, 3) := by decide +kernel
theorem d_Cls_isPlace_27 : decode b_Cls_isPlace 27 = .ok (.if_icmp .ge 7, 3) := by decide +kernel
theorem d_Cls_isPlace_30 : decode b_Cls_isPlace 30 = .ok (.iconst 1, 1) := by decide +kernel
theorem d_Cls_isPlace_31 : decode b_Cls_isPlace 31 = .ok (.goto 4, 3) := by decide +kernel
theorem d_Cls_isPlace_34 : decode b_Cls_isPlace 34 = .ok (.iconst 0, 1) := by decide +kernel
theorem d_Cls_isPlace_35 : decode b_Cls_isPlace 35 = .ok (.ireturn, 1) := by decide +kernel
theorem d_Cls_concat_0 : decode b_Cls_concat 0 = .ok (.aload_n 0, 1) := by decide +kernel
theorem d_Cls_concat_1 : decode b_Cls_concat 1 = .ok (.iload_n 2, 1) := by decide +kernel
theorem d_Cls_concat_2 : decode b_Cls_concat 2 = .ok (.invokevirtual 60, 3) := by decide +kernel
theorem d_Cls_concat_5 : decode b_Cls_concat 5 = .ok (.ifCond .ne 5, 3) := by decide +kernel
theorem d_Cls_concat_8 : decode b_Cls_concat 8 = .ok (.iconst (-1), 1) := by decide +kernel
theorem d_Cls_concat_9 : decode b_Cls_concat 9 = .ok (.ireturn, 1) := by decide +kernel
theorem d_Cls_concat_10 : decode b_Cls_concat 10 = .ok (.aload_n 0, 1) := by decide +kernel
theorem d_Cls_concat_11 : decode b_Cls_concat 11 = .ok (.iload_n 1, 1) := by decide +kernel
theorem d_Cls_concat_12 : decode b_Cls_concat 12 = .ok (.aload_n 0, 1) := by decide +kernel
theorem d_Cls_concat_13 : decode b_Cls_concat 13 = .ok (.getfield 12, 3) := by decide +kernel
theorem d_Cls_concat_16 : decode b_Cls_concat 16 = .ok (.iload_n 2, 1) := by decide +kernel
theorem d_Cls_concat_17 : decode b_Cls_concat 17 = .ok (.invokevirtual 41, 3) := by decide +kernel
theorem d_Cls_concat_20 : decode b_Cls_concat 20 = .ok (.checkcast 16, 3) := by decide +kernel
theorem d_Cls_concat_23 : decode b_Cls_concat 23 = .ok (.invokevirtual 76, 3) := by decide +kernel
theorem d_Cls_concat_26 : decode b_Cls_concat 26 = .ok (.invokevirtual 37, 3) := by decide +kernel
theorem d_Cls_concat_29 : decode b_Cls_concat 29 = .ok (.istore_n 3, 1) := by decide +kernel
theorem d_Cls_concat_30 : decode b_Cls_concat 30 = .ok (.iload_n 3, 1) := by decide +kernel
theorem d_Cls_concat_31 : decode b_Cls_concat 31 = .ok (.ifCond .eq 5, 3) := by decide +kernel
theorem d_Cls_concat_34 : decode b_Cls_concat 34 = .ok (.iload_n 3, 1) := by decide +kernel
theorem d_Cls_concat_35 : decode b_Cls_concat 35 = .ok (.ireturn, 1) := by decide +kernel
theorem d_Cls_concat_36 : decode b_Cls_concat 36 = .ok (.aload_n 0, 1) := by decide +kernel
theorem d_Cls_concat_37 : decode b_Cls_concat 37 = .ok (.getfield 34, 3) := by decide +kernel
theorem d_Cls_concat_40 : decode b_Cls_concat 40 = .ok (.aload_n 0, 1) := by decide +kernel
theorem d_Cls_concat_41 : decode b_Cls_concat 41 = .ok (.getfield 12, 3) := by decide +kernel
theorem d_Cls_concat_44 : decode b_Cls_concat 44 = .ok (.iload_n 1, 1) := by decide +kernel
theorem d_Cls_concat_45 : decode b_Cls_concat 45 = .ok (.invokevirtual 41, 3) := by decide +kernel
theorem d_Cls_concat_48 : decode b_Cls_concat 48 = .ok (.checkcast 16, 3) := by decide +kernel
theorem d_Cls_concat_51 : decode b_Cls_concat 51 = .ok (.aload_n 0, 1) := by decide +kernel
theorem d_Cls_concat_52 : decode b_Cls_concat 52 = .ok (.getfield 12, 3) := by decide +kernel
theorem d_Cls_concat_55 : decode b_Cls_concat 55 = .ok (.iload_n 2, 1) := by decide +kernel
theorem d_Cls_concat_56 : decode b_Cls_concat 56 = .ok (.invokevirtual 41, 3) := by decide +kernel
theorem d_Cls_concat_59 : decode b_Cls_concat 59 = .ok (.checkcast 16, 3) := by decide +kernel
theorem d_Cls_concat_62 : decode b_Cls_concat 62 = .ok (.invokevirtual 79, 3) := by decide +kernel
theorem d_Cls_concat_65 : decode b_Cls_concat 65 = .ok (.aload_n 0, 1) := by decide +kernel
theorem d_Cls_concat_66 : decode b_Cls_concat 66 = .ok (.invokevirtual 53, 3) := by decide +kernel
theorem d_Cls_concat_69 : decode b_Cls_concat 69 = .ok (.ireturn, 1) := by decide +kernel
theorem d_Cls_slice_0 : decode b_Cls_slice 0 = .ok (.aload_n 0, 1) := by decide +kernel
theorem d_Cls_slice_1 : decode b_Cls_slice 1 = .ok (.iload_n 1, 1) := by decide +kernel
theorem d_Cls_slice_2 : decode b_Cls_slice 2 = .ok (.invokevirtual 60, 3) := by decide +kernel
theorem d_Cls_slice_5 : decode b_Cls_slice 5 = .ok (.ifCond .eq 30, 3) := by decide +kernel
theorem d_Cls_slice_8 : decode b_Cls_slice 8 = .ok (.iload_n 2, 1) := by decide +kernel
theorem d_Cls_slice_9 : decode b_Cls_slice 9 = .ok (.ifCond .lt 26, 3) := by decide +kernel
theorem d_Cls_slice_12 : decode b_Cls_slice 12 = .ok (.iload_n 2, 1) := by decide +kernel
theorem d_Cls_slice_13 : decode b_Cls_slice 13 = .ok (.iload_n 3, 1) := by decide +kernel
theorem d_Cls_slice_14 : decode b_Cls_slice 14 = .ok (.if_icmp .gt 21, 3) := by decide +kernel
theorem d_Cls_slice_17 : decode b_Cls_slice 17 = .ok (.iload_n 3, 1) := by decide +kernel
theorem d_Cls_slice_18 : decode b_Cls_slice 18 = .ok (.aload_n 0, 1) := by decide +kernel
theorem d_Cls_slice_19 : decode b_Cls_slice 19 = .ok (.getfield 12, 3) := by decide +kernel
theorem d_Cls_slice_22 : decode b_Cls_slice 22 = .ok (.iload_n 1, 1) := by decide +kernel
theorem d_Cls_slice_23 : decode b_Cls_slice 23 = .ok (.invokevirtual 41, 3) := by decide +kernel
theorem d_Cls_slice_26 : decode b_Cls_slice 26 = .ok (.checkcast 16, 3) := by decide +kernel
theorem d_Cls_slice_29 : decode b_Cls_slice 29 = .ok (.invokevirtual 76, 3) := by decide +kernel
theorem d_Cls_slice_32 : decode b_Cls_slice 32 = .ok (.if_icmp .le 5, 3) := by decide +kernel
theorem d_Cls_slice_35 : decode b_Cls_slice 35 = .ok (.iconst (-1), 1) := by decide +kernel
theorem d_Cls_slice_36 : decode b_Cls_slice 36 = .ok (.ireturn, 1) := by decide +kernel
theorem d_Cls_slice_37 : decode b_Cls_slice 37 = .ok (.aload_n 0, 1) := by decide +kernel
theorem d_Cls_slice_38 : decode b_Cls_slice 38 = .ok (.invokevirtual 68, 3) := by decide +kernel
theorem d_Cls_slice_41 : decode b_Cls_slice 41 = .ok (.ifCond .eq 6, 3) := by decide +kernel
theorem d_Cls_slice_44 : decode b_Cls_slice 44 = .ok (.bipush (-2), 2) := by decide +kernel
theorem d_Cls_slice_46 : decode b_Cls_slice 46 = .ok (.ireturn, 1) := by decide +kernel
theorem d_Cls_slice_47 : decode b_Cls_slice 47 = .ok (.aload_n 0, 1) := by decide +kernel
theorem d_Cls_slice_48 : decode b_Cls_slice 48 = .ok (.getfield 34, 3) := by decide +kernel
theorem d_Cls_slice_51 : decode b_Cls_slice 51 = .ok (.aload_n 0, 1) := by decide +kernel
theorem d_Cls_slice_52 : decode b_Cls_slice 52 = .ok (.getfield 12, 3) := by decide +kernel
theorem d_Cls_slice_55 : decode b_Cls_slice 55 = .ok (.iload_n 1, 1) := by decide +kernel
theorem d_Cls_slice_56 : decode b_Cls_slice 56 = .ok (.invokevirtual 41, 3) := by decide +kernel
theorem d_Cls_slice_59 : decode b_Cls_slice 59 = .ok (.checkcast 16, 3) := by decide +kernel
theorem d_Cls_slice_62 : decode b_Cls_slice 62 = .ok (.iload_n 2, 1) := by decide +kernel
theorem d_Cls_slice_63 : decode b_Cls_slice 63 = .ok (.iload_n 3, 1) := by decide +kernel
theorem d_Cls_slice_64 : decode b_Cls_slice 64 = .ok (.invokevirtual 83, 3) := by decide +kernel
theorem d_Cls_slice_67 : decode b_Cls_slice 67 = .ok (.aload_n 0, 1) := by decide +kernel
theorem d_Cls_slice_68 : decode b_Cls_slice 68 = .ok (.invokevirtual 53, 3) := by decide +kernel
theorem d_Cls_slice_71 : decode b_Cls_slice 71 = .ok (.ireturn, 1) := by decide +kernel
theorem d_Cls_insertAt_0 : decode b_Cls_insertAt 0 = .ok (.aload_n 0, 1) := by decide +kernel
theorem d_Cls_insertAt_1 : decode b_Cls_insertAt 1 = .ok (.iload_n 1, 1) := by decide +kernel
theorem d_Cls_insertAt_2 : decode b_Cls_insertAt 2 = .ok (.invokevirtual 60, 3) := by decide +kernel
theorem d_Cls_insertAt_5 : decode b_Cls_insertAt 5 = .ok (.ifCond .eq 25, 3) := by decide +kernel
theorem d_Cls_insertAt_8 : decode b_Cls_insertAt 8 = .ok (.iload_n 2, 1) := by decide +kernel
theorem d_Cls_insertAt_9 : decode b_Cls_insertAt 9 = .ok (.ifCond .lt 21, 3) := by decide +kernel
theorem d_Cls_insertAt_12 : decode b_Cls_insertAt 12 = .ok (.iload_n 2, 1) := by decide +kernel
theorem d_Cls_insertAt_13 : decode b_Cls_insertAt 13 = .ok (.aload_n 0, 1) := by decide +kernel
theorem d_Cls_insertAt_14 : decode b_Cls_insertAt 14 = .ok (.getfield 12, 3) := by decide +kernel
theorem d_Cls_insertAt_17 : decode b_Cls_insertAt 17 = .ok (.iload_n 1, 1) := by decide +kernel
theorem d_Cls_insertAt_18 : decode b_Cls_insertAt 18 = .ok (.invokevirtual 41, 3) := by decide +kernel
theorem d_Cls_insertAt_21 : decode b_Cls_insertAt 21 = .ok (.checkcast 16, 3) := by decide +kernel
theorem d_Cls_insertAt_24 : decode b_Cls_insertAt 24 = .ok (.invokevirtual 76, 3) := by decide +kernel
theorem d_Cls_insertAt_27 : decode b_Cls_insertAt 27 = .ok (.if_icmp .le 5, 3) := by decide +kernel
theorem d_Cls_insertAt_30 : decode b_Cls_insertAt 30 = .ok (.iconst (-1), 1) := by decide +kernel
theorem d_Cls_insertAt_31 : decode b_Cls_insertAt 31 = .ok (.ireturn, 1) := by decide +kernel
theorem d_Cls_insertAt_32 : decode b_Cls_insertAt 32 = .ok (.aload_n 0, 1) := by decide +kernel
theorem d_Cls_insertAt_33 : decode b_Cls_insertAt 33 = .ok (.iload_n 1, 1) := by decide +kernel
theorem d_Cls_insertAt_34 : decode b_Cls_insertAt 34 = .ok (.iconst 1, 1) := by decide +kernel
theorem d_Cls_insertAt_35 : decode b_Cls_insertAt 35 = .ok (.invokevirtual 37, 3) := by decide +kernel
theorem d_Cls_insertAt_38 : decode b_Cls_insertAt 38 = .ok (.istore 4, 2) := by decide +kernel
theorem d_Cls_insertAt_40 : decode b_Cls_insertAt 40 = .ok (.iload 4, 2) := by decide +kernel
theorem d_Cls_insertAt_42 : decode b_Cls_insertAt 42 = .ok (.ifCond .eq 6, 3) := by decide +kernel
theorem d_Cls_insertAt_45 : decode b_Cls_insertAt 45 = .ok (.iload 4, 2) := by decide +kernel
theorem d_Cls_insertAt_47 : decode b_Cls_insertAt 47 = .ok (.ireturn, 1) := by decide +kernel
theorem d_Cls_insertAt_48 : decode b_Cls_insertAt 48 = .ok (.aload_n 0, 1) := by decide +kernel
theorem d_Cls_insertAt_49 : decode b_Cls_insertAt 49 = .ok (.getfield 12, 3) := by decide +kernel
theorem d_Cls_insertAt_52 : decode b_Cls_insertAt 52 = .ok (.iload_n 1, 1) := by decide +kernel
theorem d_Cls_insertAt_53 : decode b_Cls_insertAt 53 = .ok (.invokevirtual 41, 3) := by decide +kernel
theorem d_Cls_insertAt_56 : decode b_Cls_insertAt 56 = .ok (.checkcast 16, 3) := by decide +kernel
theorem d_Cls_insertAt_59 : decode b_Cls_insertAt 59 = .ok (.astore 5, 2) := by decide +kernel
theorem d_Cls_insertAt_61 : decode b_Cls_insertAt 61 = .ok (.aload_n 0, 1) := by decide +kernel
theorem d_Cls_insertAt_62 : decode b_Cls_insertAt 62 = .ok (.getfield 27, 3) := by decide +kernel
theorem d_Cls_insertAt_65 : decode b_Cls_insertAt 65 = .ok (.aload 5, 2) := by decide +kernel
theorem d_Cls_insertAt_67 : decode b_Cls_insertAt 67 = .ok (.iconst 0, 1) := by decide +kernel
theorem d_Cls_insertAt_68 : decode b_Cls_insertAt 68 = .ok (.iload_n 2, 1) := by decide +kernel
theorem d_Cls_insertAt_69 : decode b_Cls_insertAt 69 = .ok (.invokevirtual 83, 3) := by decide +kernel
theorem d_Cls_insertAt_72 : decode b_Cls_insertAt 72 = .ok (.aload_n 0, 1) := by decide +kernel
theorem d_Cls_insertAt_73 : decode b_Cls_insertAt 73 = .ok (.getfield 27, 3) := by decide +kernel
theorem d_Cls_insertAt_76 : decode b_Cls_insertAt 76 = .ok (.iload_n 3, 1) := by decide +kernel
theorem d_Cls_insertAt_77 : decode b_Cls_insertAt 77 = .ok (.invokevirtual 49, 3) := by decide +kernel
theorem d_Cls_insertAt_80 : decode b_Cls_insertAt 80 = .ok (.aload_n 0, 1) := by decide +kernel
theorem d_Cls_insertAt_81 : decode b_Cls_insertAt 81 = .ok (.getfield 31, 3) := by decide +kernel
theorem d_Cls_insertAt_84 : decode b_Cls_insertAt 84 = .ok (.aload 5, 2) := by decide +kernel
theorem d_Cls_insertAt_86 : decode b_Cls_insertAt 86 = .ok (.iload_n 2, 1) := by decide +kernel
theorem d_Cls_insertAt_87 : decode b_Cls_insertAt 87 = .ok (.aload 5, 2) := by decide +kernel
theorem d_Cls_insertAt_89 : decode b_Cls_insertAt 89 = .ok (.invokevirtual 76, 3) := by decide +kernel
theorem d_Cls_insertAt_92 : decode b_Cls_insertAt 92 = .ok (.invokevirtual 83, 3) := by decide +kernel
theorem d_Cls_insertAt_95 : decode b_Cls_insertAt 95 = .ok (.aload_n 0, 1) := by decide +kernel
theorem d_Cls_insertAt_96 : decode b_Cls_insertAt 96 = .ok (.getfield 34, 3) := by decide +kernel
theorem d_Cls_insertAt_99 : decode b_Cls_insertAt 99 = .ok (.aload_n 0, 1) := by decide +kernel
theorem d_Cls_insertAt_100 : decode b_Cls_insertAt 100 = .ok (.getfield 27, 3) := by decide +kernel
theorem d_Cls_insertAt_103 : decode b_Cls_insertAt 103 = .ok (.aload_n 0, 1) := by decide +kernel
theorem d_Cls_insertAt_104 : decode b_Cls_insertAt 104 = .ok (.getfield 31, 3) := by decide +kernel
theorem d_Cls_insertAt_107 : decode b_Cls_insertAt 107 = .ok (.invokevirtual 79, 3) := by decide +kernel
theorem d_Cls_insertAt_110 : decode b_Cls_insertAt 110 = .ok (.aload_n 0, 1) := by decide +kernel
theorem d_Cls_insertAt_111 : decode b_Cls_insertAt 111 = .ok (.invokevirtual 53, 3) := by decide +kernel
theorem d_Cls_insertAt_114 : decode b_Cls_insertAt 114 = .ok (.ireturn, 1) := by decide +kernel
theorem d_Cls_removeAt_0 : decode b_Cls_removeAt 0 = .ok (.aload_n 0, 1) := by decide +kernel
theorem d_Cls_removeAt_1 : decode b_Cls_removeAt 1 = .ok (.iload_n 1, 1) := by decide +kernel
theorem d_Cls_removeAt_2 : decode b_Cls_removeAt 2 = .ok (.invokevirtual 60, 3) := by decide +kernel
theorem d_Cls_removeAt_5 : decode b_Cls_removeAt 5 = .ok (.ifCond .eq 12, 3) := by decide +kernel
theorem d_Cls_removeAt_8 : decode b_Cls_removeAt 8 = .ok (.aload_n 0, 1) := by decide +kernel
theorem d_Cls_removeAt_9 : decode b_Cls_removeAt 9 = .ok (.iload_n 1, 1) := by decide +kernel
theorem d_Cls_removeAt_10 : decode b_Cls_removeAt 10 = .ok (.iload_n 2, 1) := by decide +kernel
theorem d_Cls_removeAt_11 : decode b_Cls_removeAt 11 = .ok (.invokevirtual 64, 3) := by decide +kernel
theorem d_Cls_removeAt_14 : decode b_Cls_removeAt 14 = .ok (.ifCond .ne 5, 3) := by decide +kernel
theorem d_Cls_removeAt_17 : decode b_Cls_removeAt 17 = .ok (.iconst (-1), 1) := by decide +kernel
theorem d_Cls_removeAt_18 : decode b_Cls_removeAt 18 = .ok (.ireturn, 1) := by decide +kernel
theorem d_Cls_removeAt_19 : decode b_Cls_removeAt 19 = .ok (.aload_n 0, 1) := by decide +kernel
theorem d_Cls_removeAt_20 : decode b_Cls_removeAt 20 = .ok (.invokevirtual 68, 3) := by decide +kernel
theorem d_Cls_removeAt_23 : decode b_Cls_removeAt 23 = .ok (.ifCond .eq 6, 3) := by decide +kernel
theorem d_Cls_removeAt_26 : decode b_Cls_removeAt 26 = .ok (.bipush (-2), 2) := by decide +kernel
theorem d_Cls_removeAt_28 : decode b_Cls_removeAt 28 = .ok (.ireturn, 1) := by decide +kernel
theorem d_Cls_removeAt_29 : decode b_Cls_removeAt 29 = .ok (.aload_n 0, 1) := by decide +kernel
theorem d_Cls_removeAt_30 : decode b_Cls_removeAt 30 = .ok (.getfield 12, 3) := by decide +kernel
theorem d_Cls_removeAt_33 : decode b_Cls_removeAt 33 = .ok (.iload_n 1, 1) := by decide +kernel
theorem d_Cls_removeAt_34 : decode b_Cls_removeAt 34 = .ok (.invokevirtual 41, 3) := by decide +kernel
theorem d_Cls_removeAt_37 : decode b_Cls_removeAt 37 = .ok (.checkcast 16, 3) := by decide +kernel
theorem d_Cls_removeAt_40 : decode b_Cls_removeAt 40 = .ok (.astore_n 3, 1) := by decide +kernel
theorem d_Cls_removeAt_41 : decode b_Cls_removeAt 41 = .ok (.aload_n 0, 1) := by decide +kernel
theorem d_Cls_removeAt_42 : decode b_Cls_removeAt 42 = .ok (.getfield 27, 3) := by decide +kernel
theorem d_Cls_removeAt_45 : decode b_Cls_removeAt 45 = .ok (.aload_n 3, 1) := by decide +kernel
theorem d_Cls_removeAt_46 : decode b_Cls_removeAt 46 = .ok (.iconst 0, 1) := by decide +kernel
theorem d_Cls_removeAt_47 : decode b_Cls_removeAt 47 = .ok (.iload_n 2, 1) := by decide +kernel
theorem d_Cls_removeAt_48 : decode b_Cls_removeAt 48 = .ok (.invokevirtual 83, 3) := by decide +kernel
theorem d_Cls_removeAt_51 : decode b_Cls_removeAt 51 = .ok (.aload_n 0, 1) := by decide +kernel
theorem d_Cls_removeAt_52 : decode b_Cls_removeAt 52 = .ok (.getfield 31, 3) := by decide +kernel
theorem d_Cls_removeAt_55 : decode b_Cls_removeAt 55 = .ok (.aload_n 3, 1) := by decide +kernel
theorem d_Cls_removeAt_56 : decode b_Cls_removeAt 56 = .ok (.iload_n 2, 1) := by decide +kernel
theorem d_Cls_removeAt_57 : decode b_Cls_removeAt 57 = .ok (.iconst 1, 1) := by decide +kernel
theorem d_Cls_removeAt_58 : decode b_Cls_removeAt 58 = .ok (.iadd, 1) := by decide +kernel
theorem d_Cls_removeAt_59 : decode b_Cls_removeAt 59 = .ok (.aload_n 3, 1) := by decide +kernel
theorem d_Cls_removeAt_60 : decode b_Cls_removeAt 60 = .ok (.invokevirtual 76, 3) := by decide +kernel
theorem d_Cls_removeAt_63 : decode b_Cls_removeAt 63 = .ok (.invokevirtual 83, 3) := by decide +kernel
theorem d_Cls_removeAt_66 : decode b_Cls_removeAt 66 = .ok (.aload_n 0, 1) := by decide +kernel
theorem d_Cls_removeAt_67 : decode b_Cls_removeAt 67 = .ok (.getfield 34, 3) := by decide +kernel
theorem d_Cls_removeAt_70 : decode b_Cls_removeAt 70 = .ok (.aload_n 0, 1) := by decide +kernel
theorem d_Cls_removeAt_71 : decode b_Cls_removeAt 71 = .ok (.getfield 27, 3) := by decide +kernel
theorem d_Cls_removeAt_74 : decode b_Cls_removeAt 74 = .ok (.aload_n 0, 1) := by decide +kernel
theorem d_Cls_removeAt_75 : decode b_Cls_removeAt 75 = .ok (.getfield 31, 3) := by decide +kernel
theorem d_Cls_removeAt_78 : decode b_Cls_removeAt 78 = .ok (.invokevirtual 79, 3) := by decide +kernel
theorem d_Cls_removeAt_81 : decode b_Cls_removeAt 81 = .ok (.aload_n 0, 1) := by decide +kernel
theorem d_Cls_removeAt_82 : decode b_Cls_removeAt 82 = .ok (.invokevirtual 53, 3) := by decide +kernel
theorem d_Cls_removeAt_85 : decode b_Cls_removeAt 85 = .ok (.ireturn, 1) := by decide +kernel
theorem d_Cls_thaw_0 : decode b_Cls_thaw 0 = .ok (.aload_n 0, 1) := by decide +kernel
theorem d_Cls_thaw_1 : decode b_Cls_thaw 1 = .ok (.iload_n 1, 1) := by decide +kernel
theorem d_Cls_thaw_2 : decode b_Cls_thaw 2 = .ok (.invokevirtual 60, 3) := by decide +kernel
theorem d_Cls_thaw_5 : decode b_Cls_thaw 5 = .ok (.ifCond .ne 5, 3) := by decide +kernel
theorem d_Cls_thaw_8 : decode b_Cls_thaw 8 = .ok (.iconst (-1), 1) := by decide +kernel
theorem d_Cls_thaw_9 : decode b_Cls_thaw 9 = .ok (.ireturn, 1) := by decide +kernel
theorem d_Cls_thaw_10 : decode b_Cls_thaw 10 = .ok (.aload_n 0, 1) := by decide +kernel
theorem d_Cls_thaw_11 : decode b_Cls_thaw 11 = .ok (.invokevirtual 68, 3) := by decide +kernel
theorem d_Cls_thaw_14 : decode b_Cls_thaw 14 = .ok (.ifCond .eq 6, 3) := by decide +kernel
theorem d_Cls_thaw_17 : decode b_Cls_thaw 17 = .ok (.bipush (-2), 2) := by decide +kernel
theorem d_Cls_thaw_19 : decode b_Cls_thaw 19 = .ok (.ireturn, 1) := by decide +kernel
theorem d_Cls_thaw_20 : decode b_Cls_thaw 20 = .ok (.aload_n 0, 1) := by decide +kernel
theorem d_Cls_thaw_21 : decode b_Cls_thaw 21 = .ok (.getfield 34, 3) := by decide +kernel
theorem d_Cls_thaw_24 : decode b_Cls_thaw 24 = .ok (.aload_n 0, 1) := by decide +kernel
theorem d_Cls_thaw_25 : decode b_Cls_thaw 25 = .ok (.getfield 12, 3) := by decide +kernel
theorem d_Cls_thaw_28 : decode b_Cls_thaw 28 = .ok (.iload_n 1, 1) := by decide +kernel
theorem d_Cls_thaw_29 : decode b_Cls_thaw 29 = .ok (.invokevirtual 41, 3) := by decide +kernel
theorem d_Cls_thaw_32 : decode b_Cls_thaw 32 = .ok (.checkcast 16, 3) := by decide +kernel
theorem d_Cls_thaw_35 : decode b_Cls_thaw 35 = .ok (.invokevirtual 45, 3) := by decide +kernel
theorem d_Cls_thaw_38 : decode b_Cls_thaw 38 = .ok (.aload_n 0, 1) := by decide +kernel
theorem d_Cls_thaw_39 : decode b_Cls_thaw 39 = .ok (.invokevirtual 53, 3) := by decide +kernel
theorem d_Cls_thaw_42 : decode b_Cls_thaw 42 = .ok (.istore_n 2, 1) := by decide +kernel
theorem d_Cls_thaw_43 : decode b_Cls_thaw 43 = .ok (.iload_n 2, 1) := by decide +kernel
theorem d_Cls_thaw_44 : decode b_Cls_thaw 44 = .ok (.ifCond .lt 10, 3) := by decide +kernel
theorem d_Cls_thaw_47 : decode b_Cls_thaw 47 = .ok (.aload_n 0, 1) := by decide +kernel
theorem d_Cls_thaw_48 : decode b_Cls_thaw 48 = .ok (.getfield 23, 3) := by decide +kernel
theorem d_Cls_thaw_51 : decode b_Cls_thaw 51 = .ok (.iload_n 2, 1) := by decide +kernel
theorem d_Cls_thaw_52 : decode b_Cls_thaw 52 = .ok (.iconst 1, 1) := by decide +kernel
theorem d_Cls_thaw_53 : decode b_Cls_thaw 53 = .ok (.bastore, 1) := by decide +kernel
theorem d_Cls_thaw_54 : decode b_Cls_thaw 54 = .ok (.iload_n 2, 1) := by decide +kernel
theorem d_Cls_thaw_55 : decode b_Cls_thaw 55 = .ok (.ireturn, 1) := by decide +kernel
theorem d_Cls_push_0 : decode b_Cls_push 0 = .ok (.aload_n 0, 1) := by decide +kernel
theorem d_Cls_push_1 : decode b_Cls_push 1 = .ok (.iload_n 1, 1) := by decide +kernel
theorem d_Cls_push_2 : decode b_Cls_push 2 = .ok (.invokevirtual 87, 3) := by decide +kernel
theorem d_Cls_push_5 : decode b_Cls_push 5 = .ok (.ifCond .eq 22, 3) := by decide +kernel
theorem d_Cls_push_8 : decode b_Cls_push 8 = .ok (.aload_n 0, 1) := by decide +kernel
theorem d_Cls_push_9 : decode b_Cls_push 9 = .ok (.getfield 12, 3) := by decide +kernel
theorem d_Cls_push_12 : decode b_Cls_push 12 = .ok (.iload_n 1, 1) := by decide +kernel
theorem d_Cls_push_13 : decode b_Cls_push 13 = .ok (.invokevirtual 41, 3) := by decide +kernel
theorem d_Cls_push_16 : decode b_Cls_push 16 = .ok (.checkcast 16, 3) := by decide +kernel
theorem d_Cls_push_19 : decode b_Cls_push 19 = .ok (.invokevirtual 76, 3) := by decide +kernel
theorem d_Cls_push_22 : decode b_Cls_push 22 = .ok (.bipush 80, 2) := by decide +kernel
theorem d_Cls_push_24 : decode b_Cls_push 24 = .ok (.if_icmp .lt 5, 3) := by decide +kernel
theorem d_Cls_push_27 : decode b_Cls_push 27 = .ok (.iconst 0, 1) := by decide +kernel
theorem d_Cls_push_28 : decode b_Cls_push 28 = .ok (.ireturn, 1) := by decide +kernel
theorem d_Cls_push_29 : decode b_Cls_push 29 = .ok (.aload_n 0, 1) := by decide +kernel
theorem d_Cls_push_30 : decode b_Cls_push 30 = .ok (.getfield 34, 3) := by decide +kernel
theorem d_Cls_push_33 : decode b_Cls_push 33 = .ok (.aload_n 0, 1) := by decide +kernel
theorem d_Cls_push_34 : decode b_Cls_push 34 = .ok (.getfield 12, 3) := by decide +kernel
theorem d_Cls_push_37 : decode b_Cls_push 37 = .ok (.iload_n 1, 1) := by decide +kernel
theorem d_Cls_push_38 : decode b_Cls_push 38 = .ok (.invokevirtual 41, 3) := by decide +kernel
theorem d_Cls_push_41 : decode b_Cls_push 41 = .ok (.checkcast 16, 3) := by decide +kernel
theorem d_Cls_push_44 : decode b_Cls_push 44 = .ok (.invokevirtual 45, 3) := by decide +kernel
theorem d_Cls_push_47 : decode b_Cls_push 47 = .ok (.aload_n 0, 1) := by decide +kernel
theorem d_Cls_push_48 : decode b_Cls_push 48 = .ok (.getfield 34, 3) := by decide +kernel
theorem d_Cls_push_51 : decode b_Cls_push 51 = .ok (.iload_n 2, 1) := by decide +kernel
theorem d_Cls_push_52 : decode b_Cls_push 52 = .ok (.invokevirtual 49, 3) := by decide +kernel
theorem d_Cls_push_55 : decode b_Cls_push 55 = .ok (.aload_n 0, 1) := by decide +kernel
theorem d_Cls_push_56 : decode b_Cls_push 56 = .ok (.getfield 34, 3) := by decide +kernel
theorem d_Cls_push_59 : decode b_Cls_push 59 = .ok (.getfield 90, 3) := by decide +kernel
theorem d_Cls_push_62 : decode b_Cls_push 62 = .ok (.iconst 4, 1) := by decide +kernel
theorem d_Cls_push_63 : decode b_Cls_push 63 = .ok (.if_icmp .le 5, 3) := by decide +kernel
theorem d_Cls_push_66 : decode b_Cls_push 66 = .ok (.iconst 0, 1) := by decide +kernel
theorem d_Cls_push_67 : decode b_Cls_push 67 = .ok (.ireturn, 1) := by decide +kernel
theorem d_Cls_push_68 : decode b_Cls_push 68 = .ok (.aload_n 0, 1) := by decide +kernel
theorem d_Cls_push_69 : decode b_Cls_push 69 = .ok (.getfield 12, 3) := by decide +kernel
theorem d_Cls_push_72 : decode b_Cls_push 72 = .ok (.iload_n 1, 1) := by decide +kernel
theorem d_Cls_push_73 : decode b_Cls_push 73 = .ok (.invokevirtual 41, 3) := by decide +kernel
theorem d_Cls_push_76 : decode b_Cls_push 76 = .ok (.checkcast 16, 3) := by decide +kernel
theorem d_Cls_push_79 : decode b_Cls_push 79 = .ok (.aload_n 0, 1) := by decide +kernel
theorem d_Cls_push_80 : decode b_Cls_push 80 = .ok (.getfield 34, 3) := by decide +kernel
theorem d_Cls_push_83 : decode b_Cls_push 83 = .ok (.invokevirtual 45, 3) := by decide +kernel
theorem d_Cls_push_86 : decode b_Cls_push 86 = .ok (.iconst 1, 1) := by decide +kernel
theorem d_Cls_push_87 : decode b_Cls_push 87 = .ok (.ireturn, 1) := by decide +kernel
theorem d_Cls_isOpen_0 : decode b_Cls_isOpen 0 = .ok (.aload_n 0, 1) := by decide +kernel
theorem d_Cls_isOpen_1 : decode b_Cls_isOpen 1 = .ok (.iload_n 1, 1) := by decide +kernel
theorem d_Cls_isOpen_2 : decode b_Cls_isOpen 2 = .ok (.invokevirtual 97, 3) := by decide +kernel
theorem d_Cls_isOpen_5 : decode b_Cls_isOpen 5 = .ok (.ifCond .eq 16, 3) := by decide +kernel
theorem d_Cls_isOpen_8 : decode b_Cls_isOpen 8 = .ok (.aload_n 0, 1) := by decide +kernel
theorem d_Cls_isOpen_9 : decode b_Cls_isOpen 9 = .ok (.getfield 23, 3) := by decide +kernel
theorem d_Cls_isOpen_12 : decode b_Cls_isOpen 12 = .ok (.iload_n 1, 1) := by decide +kernel
theorem d_Cls_isOpen_13 : decode b_Cls_isOpen 13 = .ok (.baload, 1) := by decide +kernel
theorem d_Cls_isOpen_14 : decode b_Cls_isOpen 14 = .ok (.ifCond .eq 7, 3) := by decide +kernel
theorem d_Cls_isOpen_17 : decode b_Cls_isOpen 17 = .ok (.iconst 1, 1) := by decide +kernel
theorem d_Cls_isOpen_18 : decode b_Cls_isOpen 18 = .ok (.goto 4, 3) := by decide +kernel
theorem d_Cls_isOpen_21 : decode b_Cls_isOpen 21 = .ok (.iconst 0, 1) := by decide +kernel
theorem d_Cls_isOpen_22 : decode b_Cls_isOpen 22 = .ok (.ireturn, 1) := by decide +kernel
theorem d_Cls_put_0 : decode b_Cls_put 0 = .ok (.aload_n 0, 1) := by decide +kernel
theorem d_Cls_put_1 : decode b_Cls_put 1 = .ok (.iload_n 1, 1) := by decide +kernel
theorem d_Cls_put_2 : decode b_Cls_put 2 = .ok (.invokevirtual 87, 3) := by decide +kernel
theorem d_Cls_put_5 : decode b_Cls_put 5 = .ok (.ifCond .eq 12, 3) := by decide +kernel
theorem d_Cls_put_8 : decode b_Cls_put 8 = .ok (.aload_n 0, 1) := by decide +kernel
theorem d_Cls_put_9 : decode b_Cls_put 9 = .ok (.iload_n 1, 1) := by decide +kernel
theorem d_Cls_put_10 : decode b_Cls_put 10 = .ok (.iload_n 2, 1) := by decide +kernel
theorem d_Cls_put_11 : decode b_Cls_put 11 = .ok (.invokevirtual 64, 3) := by decide +kernel
theorem d_Cls_put_14 : decode b_Cls_put 14 = .ok (.ifCond .ne 5, 3) := by decide +kernel
theorem d_Cls_put_17 : decode b_Cls_put 17 = .ok (.iconst 0, 1) := by decide +kernel
theorem d_Cls_put_18 : decode b_Cls_put 18 = .ok (.ireturn, 1) := by decide +kernel
theorem d_Cls_put_19 : decode b_Cls_put 19 = .ok (.aload_n 0, 1) := by decide +kernel
theorem d_Cls_put_20 : decode b_Cls_put 20 = .ok (.getfield 12, 3) := by decide +kernel
theorem d_Cls_put_23 : decode b_Cls_put 23 = .ok (.iload_n 1, 1) := by decide +kernel
theorem d_Cls_put_24 : decode b_Cls_put 24 = .ok (.invokevirtual 41, 3) := by decide +kernel
theorem d_Cls_put_27 : decode b_Cls_put 27 = .ok (.checkcast 16, 3) := by decide +kernel
theorem d_Cls_put_30 : decode b_Cls_put 30 = .ok (.iload_n 2, 1) := by decide +kernel
theorem d_Cls_put_31 : decode b_Cls_put 31 = .ok (.iload_n 3, 1) := by decide +kernel
theorem d_Cls_put_32 : decode b_Cls_put 32 = .ok (.invokevirtual 72, 3) := by decide +kernel
theorem d_Cls_put_35 : decode b_Cls_put 35 = .ok (.iconst 1, 1) := by decide +kernel
theorem d_Cls_put_36 : decode b_Cls_put 36 = .ok (.ireturn, 1) := by decide +kernel
theorem d_Cls_freeze_0 : decode b_Cls_freeze 0 = .ok (.aload_n 0, 1) := by decide +kernel
theorem d_Cls_freeze_1 : decode b_Cls_freeze 1 = .ok (.iload_n 1, 1) := by decide +kernel
theorem d_Cls_freeze_2 : decode b_Cls_freeze 2 = .ok (.invokevirtual 87, 3) := by decide +kernel
theorem d_Cls_freeze_5 : decode b_Cls_freeze 5 = .ok (.ifCond .ne 5, 3) := by decide +kernel
theorem d_Cls_freeze_8 : decode b_Cls_freeze 8 = .ok (.iconst 0, 1) := by decide +kernel
theorem d_Cls_freeze_9 : decode b_Cls_freeze 9 = .ok (.ireturn, 1) := by decide +kernel
theorem d_Cls_freeze_10 : decode b_Cls_freeze 10 = .ok (.aload_n 0, 1) := by decide +kernel
theorem d_Cls_freeze_11 : decode b_Cls_freeze 11 = .ok (.getfield 23, 3) := by decide +kernel
theorem d_Cls_freeze_14 : decode b_Cls_freeze 14 = .ok (.iload_n 1, 1) := by decide +kernel
theorem d_Cls_freeze_15 : decode b_Cls_freeze 15 = .ok (.iconst 0, 1) := by decide +kernel
theorem d_Cls_freeze_16 : decode b_Cls_freeze 16 = .ok (.bastore, 1) := by decide +kernel
theorem d_Cls_freeze_17 : decode b_Cls_freeze 17 = .ok (.iconst 1, 1) := by decide +kernel
theorem d_Cls_freeze_18 : decode b_Cls_freeze 18 = .ok (.ireturn, 1) := by decide +kernel
theorem d_Cls_versions_0 : decode b_Cls_versions 0 = .ok (.aload_n 0, 1) := by decide +kernel
theorem d_Cls_versions_1 : decode b_Cls_versions 1 = .ok (.getfield 12, 3) := by decide +kernel
theorem d_Cls_versions_4 : decode b_Cls_versions 4 = .ok (.invokevirtual 94, 3) := by decide +kernel
theorem d_Cls_versions_7 : decode b_Cls_versions 7 = .ok (.ireturn, 1) := by decide +kernel
theorem d_Cls_size_0 : decode b_Cls_size 0 = .ok (.aload_n 0, 1) := by decide +kernel
theorem d_Cls_size_1 : decode b_Cls_size 1 = .ok (.iload_n 1, 1) := by decide +kernel
theorem d_Cls_size_2 : decode b_Cls_size 2 = .ok (.invokevirtual 97, 3) := by decide +kernel
theorem d_Cls_size_5 : decode b_Cls_size 5 = .ok (.ifCond .eq 20, 3) := by decide +kernel
theorem d_Cls_size_8 : decode b_Cls_size 8 = .ok (.aload_n 0, 1) := by decide +kernel
theorem d_Cls_size_9 : decode b_Cls_size 9 = .ok (.getfield 12, 3) := by decide +kernel
theorem d_Cls_size_12 : decode b_Cls_size 12 = .ok (.iload_n 1, 1) := by decide +kernel
theorem d_Cls_size_13 : decode b_Cls_size 13 = .ok (.invokevirtual 41, 3) := by decide +kernel
theorem d_Cls_size_16 : decode b_Cls_size 16 = .ok (.checkcast 16, 3) := by decide +kernel
theorem d_Cls_size_19 : decode b_Cls_size 19 = .ok (.invokevirtual 76, 3) := by decide +kernel
theorem d_Cls_size_22 : decode b_Cls_size 22 = .ok (.goto 4, 3) := by decide +kernel
theorem d_Cls_size_25 : decode b_Cls_size 25 = .ok (.iconst (-1), 1) := by decide +kernel
theorem d_Cls_size_26 : decode b_Cls_size 26 = .ok (.ireturn, 1) := by decide +kernel
theorem d_Cls_get_0 : decode b_Cls_get 0 = .ok (.aload_n 0, 1) := by decide +kernel
theorem d_Cls_get_1 : decode b_Cls_get 1 = .ok (.iload_n 1, 1) := by decide +kernel
theorem d_Cls_get_2 : decode b_Cls_get 2 = .ok (.invokevirtual 97, 3) := by decide +kernel
theorem d_Cls_get_5 : decode b_Cls_get 5 = .ok (.ifCond .eq 31, 3) := by decide +kernel
theorem d_Cls_get_8 : decode b_Cls_get 8 = .ok (.aload_n 0, 1) := by decide +kernel
theorem d_Cls_get_9 : decode b_Cls_get 9 = .ok (.iload_n 1, 1) := by decide +kernel
theorem d_Cls_get_10 : decode b_Cls_get 10 = .ok (.iload_n 2, 1) := by decide +kernel
theorem d_Cls_get_11 : decode b_Cls_get 11 = .ok (.invokevirtual 64, 3) := by decide +kernel
theorem d_Cls_get_14 : decode b_Cls_get 14 = .ok (.ifCond .eq 22, 3) := by decide +kernel
theorem d_Cls_get_17 : decode b_Cls_get 17 = .ok (.aload_n 0, 1) := by decide +kernel
theorem d_Cls_get_18 : decode b_Cls_get 18 = .ok (.getfield 12, 3) := by decide +kernel
theorem d_Cls_get_21 : decode b_Cls_get 21 = .ok (.iload_n 1, 1) := by decide +kernel
theorem d_Cls_get_22 : decode b_Cls_get 22 = .ok (.invokevirtual 41, 3) := by decide +kernel
theorem d_Cls_get_25 : decode b_Cls_get 25 = .ok (.checkcast 16, 3) := by decide +kernel
theorem d_Cls_get_28 : decode b_Cls_get 28 = .ok (.iload_n 2, 1) := by decide +kernel
theorem d_Cls_get_29 : decode b_Cls_get 29 = .ok (.invokevirtual 100, 3) := by decide +kernel
theorem d_Cls_get_32 : decode b_Cls_get 32 = .ok (.i2l, 1) := by decide +kernel
theorem d_Cls_get_33 : decode b_Cls_get 33 = .ok (.goto 6, 3) := by decide +kernel
theorem d_Cls_get_36 : decode b_Cls_get 36 = .ok (.ldc2_w 104, 3) := by decide +kernel
theorem d_Cls_get_39 : decode b_Cls_get 39 = .ok (.lreturn, 1) := by decide +kernel
theorem d_Cls_hash_0 : decode b_Cls_hash 0 = .ok (.aload_n 0, 1) := by decide +kernel
theorem d_Cls_hash_1 : decode b_Cls_hash 1 = .ok (.iload_n 1, 1) := by decide +kernel
theorem d_Cls_hash_2 : decode b_Cls_hash 2 = .ok (.invokevirtual 97, 3) := by decide +kernel
theorem d_Cls_hash_5 : decode b_Cls_hash 5 = .ok (.ifCond .ne 5, 3) := by decide +kernel
theorem d_Cls_hash_8 : decode b_Cls_hash 8 = .ok (.iconst 0, 1) := by decide +kernel
theorem d_Cls_hash_9 : decode b_Cls_hash 9 = .ok (.ireturn, 1) := by decide +kernel
theorem d_Cls_hash_10 : decode b_Cls_hash 10 = .ok (.aload_n 0, 1) := by decide +kernel
theorem d_Cls_hash_11 : decode b_Cls_hash 11 = .ok (.getfield 12, 3) := by decide +kernel
theorem d_Cls_hash_14 : decode b_Cls_hash 14 = .ok (.iload_n 1, 1) := by decide +kernel
theorem d_Cls_hash_15 : decode b_Cls_hash 15 = .ok (.invokevirtual 41, 3) := by decide +kernel
theorem d_Cls_hash_18 : decode b_Cls_hash 18 = .ok (.checkcast 16, 3) := by decide +kernel
theorem d_Cls_hash_21 : decode b_Cls_hash 21 = .ok (.astore_n 2, 1) := by decide +kernel
theorem d_Cls_hash_22 : decode b_Cls_hash 22 = .ok (.iconst 1, 1) := by decide +kernel
theorem d_Cls_hash_23 : decode b_Cls_hash 23 = .ok (.istore_n 3, 1) := by decide +kernel
theorem d_Cls_hash_24 : decode b_Cls_hash 24 = .ok (.iconst 0, 1) := by decide +kernel
theorem d_Cls_hash_25 : decode b_Cls_hash 25 = .ok (.istore 4, 2) := by decide +kernel
theorem d_Cls_hash_27 : decode b_Cls_hash 27 = .ok (.iload 4, 2) := by decide +kernel
theorem d_Cls_hash_29 : decode b_Cls_hash 29 = .ok (.aload_n 2, 1) := by decide +kernel
theorem d_Cls_hash_30 : decode b_Cls_hash 30 = .ok (.invokevirtual 76, 3) := by decide +kernel
theorem d_Cls_hash_33 : decode b_Cls_hash 33 = .ok (.if_icmp .ge 21, 3) := by decide +kernel
theorem d_Cls_hash_36 : decode b_Cls_hash 36 = .ok (.bipush 31, 2) := by decide +kernel
theorem d_Cls_hash_38 : decode b_Cls_hash 38 = .ok (.iload_n 3, 1) := by decide +kernel
theorem d_Cls_hash_39 : decode b_Cls_hash 39 = .ok (.imul, 1) := by decide +kernel
theorem d_Cls_hash_40 : decode b_Cls_hash 40 = .ok (.aload_n 2, 1) := by decide +kernel
theorem d_Cls_hash_41 : decode b_Cls_hash 41 = .ok (.iload 4, 2) := by decide +kernel
theorem d_Cls_hash_43 : decode b_Cls_hash 43 = .ok (.invokevirtual 100, 3) := by decide +kernel
theorem d_Cls_hash_46 : decode b_Cls_hash 46 = .ok (.iadd, 1) := by decide +kernel
theorem d_Cls_hash_47 : decode b_Cls_hash 47 = .ok (.istore_n 3, 1) := by decide +kernel
theorem d_Cls_hash_48 : decode b_Cls_hash 48 = .ok (.iinc 4 1, 3) := by decide +kernel
theorem d_Cls_hash_51 : decode b_Cls_hash 51 = .ok (.goto (-24), 3) := by decide +kernel
theorem d_Cls_hash_54 : decode b_Cls_hash 54 = .ok (.iload_n 3, 1) := by decide +kernel
theorem d_Cls_hash_55 : decode b_Cls_hash 55 = .ok (.ireturn, 1) := by decide +kernel
theorem d_Cls_compare_0 : decode b_Cls_compare 0 = .ok (.aload_n 0, 1) := by decide +kernel
theorem d_Cls_compare_1 : decode b_Cls_compare 1 = .ok (.iload_n 1, 1) := by decide +kernel
theorem d_Cls_compare_2 : decode b_Cls_compare 2 = .ok (.invokevirtual 97, 3) := by decide +kernel
theorem d_Cls_compare_5 : decode b_Cls_compare 5 = .ok (.ifCond .eq 11, 3) := by decide +kernel
theorem d_Cls_compare_8 : decode b_Cls_compare 8 = .ok (.aload_n 0, 1) := by decide +kernel
theorem d_Cls_compare_9 : decode b_Cls_compare 9 = .ok (.iload_n 2, 1) := by decide +kernel
theorem d_Cls_compare_10 : decode b_Cls_compare 10 = .ok (.invokevirtual 97, 3) := by decide +kernel
theorem d_Cls_compare_13 : decode b_Cls_compare 13 = .ok (.ifCond .ne 5, 3) := by decide +kernel
theorem d_Cls_compare_16 : decode b_Cls_compare 16 = .ok (.iconst 2, 1) := by decide +kernel
theorem d_Cls_compare_17 : decode b_Cls_compare 17 = .ok (.ireturn, 1) := by decide +kernel
theorem d_Cls_compare_18 : decode b_Cls_compare 18 = .ok (.aload_n 0, 1) := by decide +kernel
theorem d_Cls_compare_19 : decode b_Cls_compare 19 = .ok (.getfield 12, 3) := by decide +kernel
theorem d_Cls_compare_22 : decode b_Cls_compare 22 = .ok (.iload_n 1, 1) := by decide +kernel
theorem d_Cls_compare_23 : decode b_Cls_compare 23 = .ok (.invokevirtual 41, 3) := by decide +kernel
theorem d_Cls_compare_26 : decode b_Cls_compare 26 = .ok (.checkcast 16, 3) := by decide +kernel
theorem d_Cls_compare_29 : decode b_Cls_compare 29 = .ok (.astore_n 3, 1) := by decide +kernel
theorem d_Cls_compare_30 : decode b_Cls_compare 30 = .ok (.aload_n 0, 1) := by decide +kernel
theorem d_Cls_compare_31 : decode b_Cls_compare 31 = .ok (.getfield 12, 3) := by decide +kernel
theorem d_Cls_compare_34 : decode b_Cls_compare 34 = .ok (.iload_n 2, 1) := by decide +kernel
theorem d_Cls_compare_35 : decode b_Cls_compare 35 = .ok (.invokevirtual 41, 3) := by decide +kernel
theorem d_Cls_compare_38 : decode b_Cls_compare 38 = .ok (.checkcast 16, 3) := by decide +kernel
theorem d_Cls_compare_41 : decode b_Cls_compare 41 = .ok (.astore 4, 2) := by decide +kernel
theorem d_Cls_compare_43 : decode b_Cls_compare 43 = .ok (.aload_n 3, 1) := by decide +kernel
theorem d_Cls_compare_44 : decode b_Cls_compare 44 = .ok (.invokevirtual 76, 3) := by decide +kernel
theorem d_Cls_compare_47 : decode b_Cls_compare 47 = .ok (.aload 4, 2) := by decide +kernel
theorem d_Cls_compare_49 : decode b_Cls_compare 49 = .ok (.invokevirtual 76, 3) := by decide +kernel
theorem d_Cls_compare_52 : decode b_Cls_compare 52 = .ok (.invokestatic 106, 3) := by decide +kernel
theorem d_Cls_compare_55 : decode b_Cls_compare 55 = .ok (.istore 5, 2) := by decide +kernel
theorem d_Cls_compare_57 : decode b_Cls_compare 57 = .ok (.iconst 0, 1) := by decide +kernel
theorem d_Cls_compare_58 : decode b_Cls_compare 58 = .ok (.istore 6, 2) := by decide +kernel
theorem d_Cls_compare_60 : decode b_Cls_compare 60 = .ok (.iload 6, 2) := by decide +kernel
theorem d_Cls_compare_62 : decode b_Cls_compare 62 = .ok (.iload 5, 2) := by decide +kernel
theorem d_Cls_compare_64 : decode b_Cls_compare 64 = .ok (.if_icmp .ge 47, 3) := by decide +kernel
theorem d_Cls_compare_67 : decode b_Cls_compare 67 = .ok (.aload_n 3, 1) := by decide +kernel
theorem d_Cls_compare_68 : decode b_Cls_compare 68 = .ok (.iload 6, 2) := by decide +kernel
theorem d_Cls_compare_70 : decode b_Cls_compare 70 = .ok (.invokevirtual 100, 3) := by decide +kernel
theorem d_Cls_compare_73 : decode b_Cls_compare 73 = .ok (.aload 4, 2) := by decide +kernel
theorem d_Cls_compare_75 : decode b_Cls_compare 75 = .ok (.iload 6, 2) := by decide +kernel
theorem d_Cls_compare_77 : decode b_Cls_compare 77 = .ok (.invokevirtual 100, 3) := by decide +kernel
theorem d_Cls_compare_80 : decode b_Cls_compare 80 = .ok (.if_icmp .eq 25, 3) := by decide +kernel
theorem d_Cls_compare_83 : decode b_Cls_compare 83 = .ok (.aload_n 3, 1) := by decide +kernel
theorem d_Cls_compare_84 : decode b_Cls_compare 84 = .ok (.iload 6, 2) := by decide +kernel
theorem d_Cls_compare_86 : decode b_Cls_compare 86 = .ok (.invokevirtual 100, 3) := by decide +kernel
theorem d_Cls_compare_89 : decode b_Cls_compare 89 = .ok (.aload 4, 2) := by decide +kernel
theorem d_Cls_compare_91 : decode b_Cls_compare 91 = .ok (.iload 6, 2) := by decide +kernel
theorem d_Cls_compare_93 : decode b_Cls_compare 93 = .ok (.invokevirtual 100, 3) := by decide +kernel
theorem d_Cls_compare_96 : decode b_Cls_compare 96 = .ok (.if_icmp .ge 7, 3) := by decide +kernel
theorem d_Cls_compare_99 : decode b_Cls_compare 99 = .ok (.iconst (-1), 1) := by decide +kernel
theorem d_Cls_compare_100 : decode b_Cls_compare 100 = .ok (.goto 4, 3) := by decide +kernel
theorem d_Cls_compare_103 : decode b_Cls_compare 103 = .ok (.iconst 1, 1) := by decide +kernel
theorem d_Cls_compare_104 : decode b_Cls_compare 104 = .ok (.ireturn, 1) := by decide +kernel
theorem d_Cls_compare_105 : decode b_Cls_compare 105 = .ok (.iinc 6 1, 3) := by decide +kernel
theorem d_Cls_compare_108 : decode b_Cls_compare 108 = .ok (.goto (-48), 3) := by decide +kernel
theorem d_Cls_compare_111 : decode b_Cls_compare 111 = .ok (.aload_n 3, 1) := by decide +kernel
theorem d_Cls_compare_112 : decode b_Cls_compare 112 = .ok (.invokevirtual 76, 3) := by decide +kernel
theorem d_Cls_compare_115 : decode b_Cls_compare 115 = .ok (.aload 4, 2) := by decide +kernel
theorem d_Cls_compare_117 : decode b_Cls_compare 117 = .ok (.invokevirtual 76, 3) := by decide +kernel
theorem d_Cls_compare_120 : decode b_Cls_compare 120 = .ok (.if_icmp .ne 5, 3) := by decide +kernel
theorem d_Cls_compare_123 : decode b_Cls_compare 123 = .ok (.iconst 0, 1) := by decide +kernel
theorem d_Cls_compare_124 : decode b_Cls_compare 124 = .ok (.ireturn, 1) := by decide +kernel
theorem d_Cls_compare_125 : decode b_Cls_compare 125 = .ok (.aload_n 3, 1) := by decide +kernel
theorem d_Cls_compare_126 : decode b_Cls_compare 126 = .ok (.invokevirtual 76, 3) := by decide +kernel
theorem d_Cls_compare_129 : decode b_Cls_compare 129 = .ok (.aload 4, 2) := by decide +kernel
theorem d_Cls_compare_131 : decode b_Cls_compare 131 = .ok (.invokevirtual 76, 3) := by decide +kernel
theorem d_Cls_compare_134 : decode b_Cls_compare 134 = .ok (.if_icmp .ge 7, 3) := by decide +kernel
theorem d_Cls_compare_137 : decode b_Cls_compare 137 = .ok (.iconst (-1), 1) := by decide +kernel
theorem d_Cls_compare_138 : decode b_Cls_compare 138 = .ok (.goto 4, 3) := by decide +kernel
theorem d_Cls_compare_141 : decode b_Cls_compare 141 = .ok (.iconst 1, 1) := by decide +kernel
theorem d_Cls_compare_142 : decode b_Cls_compare 142 = .ok (.ireturn, 1) := by decide +kernel
theorem d_Cls_height_0 : decode b_Cls_height 0 = .ok (.aload_n 0, 1) := by decide +kernel
theorem d_Cls_height_1 : decode b_Cls_height 1 = .ok (.iload_n 1, 1) := by decide +kernel
theorem d_Cls_height_2 : decode b_Cls_height 2 = .ok (.invokevirtual 97, 3) := by decide +kernel
theorem d_Cls_height_5 : decode b_Cls_height 5 = .ok (.ifCond .eq 20, 3) := by decide +kernel
theorem d_Cls_height_8 : decode b_Cls_height 8 = .ok (.aload_n 0, 1) := by decide +kernel
theorem d_Cls_height_9 : decode b_Cls_height 9 = .ok (.getfield 12, 3) := by decide +kernel
theorem d_Cls_height_12 : decode b_Cls_height 12 = .ok (.iload_n 1, 1) := by decide +kernel
theorem d_Cls_height_13 : decode b_Cls_height 13 = .ok (.invokevirtual 41, 3) := by decide +kernel
theorem d_Cls_height_16 : decode b_Cls_height 16 = .ok (.checkcast 16, 3) := by decide +kernel
theorem d_Cls_height_19 : decode b_Cls_height 19 = .ok (.getfield 90, 3) := by decide +kernel
theorem d_Cls_height_22 : decode b_Cls_height 22 = .ok (.goto 4, 3) := by decide +kernel
theorem d_Cls_height_25 : decode b_Cls_height 25 = .ok (.iconst (-1), 1) := by decide +kernel
theorem d_Cls_height_26 : decode b_Cls_height 26 = .ok (.ireturn, 1) := by decide +kernel
theorem d_Cls_nodes_0 : decode b_Cls_nodes 0 = .ok (.aload_n 0, 1) := by decide +kernel
theorem d_Cls_nodes_1 : decode b_Cls_nodes 1 = .ok (.iload_n 1, 1) := by decide +kernel
theorem d_Cls_nodes_2 : decode b_Cls_nodes 2 = .ok (.invokevirtual 97, 3) := by decide +kernel
theorem d_Cls_nodes_5 : decode b_Cls_nodes 5 = .ok (.ifCond .eq 20, 3) := by decide +kernel
theorem d_Cls_nodes_8 : decode b_Cls_nodes 8 = .ok (.aload_n 0, 1) := by decide +kernel
theorem d_Cls_nodes_9 : decode b_Cls_nodes 9 = .ok (.getfield 12, 3) := by decide +kernel
theorem d_Cls_nodes_12 : decode b_Cls_nodes 12 = .ok (.iload_n 1, 1) := by decide +kernel
theorem d_Cls_nodes_13 : decode b_Cls_nodes 13 = .ok (.invokevirtual 41, 3) := by decide +kernel
theorem d_Cls_nodes_16 : decode b_Cls_nodes 16 = .ok (.checkcast 16, 3) := by decide +kernel
theorem d_Cls_nodes_19 : decode b_Cls_nodes 19 = .ok (.invokevirtual 111, 3) := by decide +kernel
theorem d_Cls_nodes_22 : decode b_Cls_nodes 22 = .ok (.goto 4, 3) := by decide +kernel
theorem d_Cls_nodes_25 : decode b_Cls_nodes 25 = .ok (.iconst (-1), 1) := by decide +kernel
theorem d_Cls_nodes_26 : decode b_Cls_nodes 26 = .ok (.ireturn, 1) := by decide +kernel
theorem d_Cls_row_0 : decode b_Cls_row 0 = .ok (.aload_n 0, 1) := by decide +kernel
theorem d_Cls_row_1 : decode b_Cls_row 1 = .ok (.iload_n 1, 1) := by decide +kernel
theorem d_Cls_row_2 : decode b_Cls_row 2 = .ok (.invokevirtual 97, 3) := by decide +kernel
theorem d_Cls_row_5 : decode b_Cls_row 5 = .ok (.ifCond .eq 22, 3) := by decide +kernel
theorem d_Cls_row_8 : decode b_Cls_row 8 = .ok (.aload_n 0, 1) := by decide +kernel
theorem d_Cls_row_9 : decode b_Cls_row 9 = .ok (.getfield 12, 3) := by decide +kernel
theorem d_Cls_row_12 : decode b_Cls_row 12 = .ok (.iload_n 1, 1) := by decide +kernel
theorem d_Cls_row_13 : decode b_Cls_row 13 = .ok (.invokevirtual 41, 3) := by decide +kernel
theorem d_Cls_row_16 : decode b_Cls_row 16 = .ok (.checkcast 16, 3) := by decide +kernel
theorem d_Cls_row_19 : decode b_Cls_row 19 = .ok (.iload_n 2, 1) := by decide +kernel
theorem d_Cls_row_20 : decode b_Cls_row 20 = .ok (.iload_n 3, 1) := by decide +kernel
theorem d_Cls_row_21 : decode b_Cls_row 21 = .ok (.invokevirtual 114, 3) := by decide +kernel
theorem d_Cls_row_24 : decode b_Cls_row 24 = .ok (.goto 4, 3) := by decide +kernel
theorem d_Cls_row_27 : decode b_Cls_row 27 = .ok (.iconst (-1), 1) := by decide +kernel
theorem d_Cls_row_28 : decode b_Cls_row 28 = .ok (.ireturn, 1) := by decide +kernel
theorem d_Cls_probes_0 : decode b_Cls_probes 0 = .ok (.aload_n 0, 1) := by decide +kernel
theorem d_Cls_probes_1 : decode b_Cls_probes 1 = .ok (.iload_n 1, 1) := by decide +kernel
theorem d_Cls_probes_2 : decode b_Cls_probes 2 = .ok (.invokevirtual 97, 3) := by decide +kernel
theorem d_Cls_probes_5 : decode b_Cls_probes 5 = .ok (.ifCond .eq 30, 3) := by decide +kernel
theorem d_Cls_probes_8 : decode b_Cls_probes 8 = .ok (.aload_n 0, 1) := by decide +kernel
theorem d_Cls_probes_9 : decode b_Cls_probes 9 = .ok (.iload_n 1, 1) := by decide +kernel
theorem d_Cls_probes_10 : decode b_Cls_probes 10 = .ok (.iload_n 2, 1) := by decide +kernel
theorem d_Cls_probes_11 : decode b_Cls_probes 11 = .ok (.invokevirtual 64, 3) := by decide +kernel
theorem d_Cls_probes_14 : decode b_Cls_probes 14 = .ok (.ifCond .eq 21, 3) := by decide +kernel
theorem d_Cls_probes_17 : decode b_Cls_probes 17 = .ok (.aload_n 0, 1) := by decide +kernel
theorem d_Cls_probes_18 : decode b_Cls_probes 18 = .ok (.getfield 12, 3) := by decide +kernel
theorem d_Cls_probes_21 : decode b_Cls_probes 21 = .ok (.iload_n 1, 1) := by decide +kernel
theorem d_Cls_probes_22 : decode b_Cls_probes 22 = .ok (.invokevirtual 41, 3) := by decide +kernel
theorem d_Cls_probes_25 : decode b_Cls_probes 25 = .ok (.checkcast 16, 3) := by decide +kernel
theorem d_Cls_probes_28 : decode b_Cls_probes 28 = .ok (.iload_n 2, 1) := by decide +kernel
theorem d_Cls_probes_29 : decode b_Cls_probes 29 = .ok (.invokevirtual 117, 3) := by decide +kernel
theorem d_Cls_probes_32 : decode b_Cls_probes 32 = .ok (.goto 4, 3) := by decide +kernel
theorem d_Cls_probes_35 : decode b_Cls_probes 35 = .ok (.iconst (-1), 1) := by decide +kernel
theorem d_Cls_probes_36 : decode b_Cls_probes 36 = .ok (.ireturn, 1) := by decide +kernel
