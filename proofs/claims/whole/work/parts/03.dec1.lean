/-! decode rows (by program) -/
theorem d_Tree_init_0 : decode b_Tree_init 0 = .ok (.aload_n 0, 1) := by decide +kernel
theorem d_Tree_init_1 : decode b_Tree_init 1 = .ok (.invokespecial 3, 3) := by decide +kernel
theorem d_Tree_init_4 : decode b_Tree_init 4 = .ok (.aload_n 0, 1) := by decide +kernel
theorem d_Tree_init_5 : decode b_Tree_init 5 = .ok (.bipush 7, 2) := by decide +kernel
theorem d_Tree_init_7 : decode b_Tree_init 7 = .ok (.anewarray 9, 3) := by decide +kernel
theorem d_Tree_init_10 : decode b_Tree_init 10 = .ok (.putfield 11, 3) := by decide +kernel
theorem d_Tree_init_13 : decode b_Tree_init 13 = .ok (.iconst 0, 1) := by decide +kernel
theorem d_Tree_init_14 : decode b_Tree_init 14 = .ok (.istore_n 1, 1) := by decide +kernel
theorem d_Tree_init_15 : decode b_Tree_init 15 = .ok (.iload_n 1, 1) := by decide +kernel
theorem d_Tree_init_16 : decode b_Tree_init 16 = .ok (.aload_n 0, 1) := by decide +kernel
theorem d_Tree_init_17 : decode b_Tree_init 17 = .ok (.getfield 11, 3) := by decide +kernel
theorem d_Tree_init_20 : decode b_Tree_init 20 = .ok (.arraylength, 1) := by decide +kernel
theorem d_Tree_init_21 : decode b_Tree_init 21 = .ok (.if_icmp .ge 22, 3) := by decide +kernel
theorem d_Tree_init_24 : decode b_Tree_init 24 = .ok (.aload_n 0, 1) := by decide +kernel
theorem d_Tree_init_25 : decode b_Tree_init 25 = .ok (.getfield 11, 3) := by decide +kernel
theorem d_Tree_init_28 : decode b_Tree_init 28 = .ok (.iload_n 1, 1) := by decide +kernel
theorem d_Tree_init_29 : decode b_Tree_init 29 = .ok (.new 9, 3) := by decide +kernel
theorem d_Tree_init_32 : decode b_Tree_init 32 = .ok (.dup, 1) := by decide +kernel
theorem d_Tree_init_33 : decode b_Tree_init 33 = .ok (.invokespecial 17, 3) := by decide +kernel
theorem d_Tree_init_36 : decode b_Tree_init 36 = .ok (.aastore, 1) := by decide +kernel
theorem d_Tree_init_37 : decode b_Tree_init 37 = .ok (.iinc 1 1, 3) := by decide +kernel
theorem d_Tree_init_40 : decode b_Tree_init 40 = .ok (.goto (-25), 3) := by decide +kernel
theorem d_Tree_init_43 : decode b_Tree_init 43 = .ok (.aload_n 0, 1) := by decide +kernel
theorem d_Tree_init_44 : decode b_Tree_init 44 = .ok (.iconst 0, 1) := by decide +kernel
theorem d_Tree_init_45 : decode b_Tree_init 45 = .ok (.putfield 18, 3) := by decide +kernel
theorem d_Tree_init_48 : decode b_Tree_init 48 = .ok (.return_, 1) := by decide +kernel
theorem d_Row_init_0 : decode b_Row_init 0 = .ok (.aload_n 0, 1) := by decide +kernel
theorem d_Row_init_1 : decode b_Row_init 1 = .ok (.invokespecial 3, 3) := by decide +kernel
theorem d_Row_init_4 : decode b_Row_init 4 = .ok (.aload_n 0, 1) := by decide +kernel
theorem d_Row_init_5 : decode b_Row_init 5 = .ok (.bipush 80, 2) := by decide +kernel
theorem d_Row_init_7 : decode b_Row_init 7 = .ok (.newarray .int, 2) := by decide +kernel
theorem d_Row_init_9 : decode b_Row_init 9 = .ok (.putfield 9, 3) := by decide +kernel
theorem d_Row_init_12 : decode b_Row_init 12 = .ok (.aload_n 0, 1) := by decide +kernel
theorem d_Row_init_13 : decode b_Row_init 13 = .ok (.iconst 0, 1) := by decide +kernel
theorem d_Row_init_14 : decode b_Row_init 14 = .ok (.putfield 15, 3) := by decide +kernel
theorem d_Row_init_17 : decode b_Row_init 17 = .ok (.return_, 1) := by decide +kernel
theorem d_Tree_length_0 : decode b_Tree_length 0 = .ok (.aload_n 0, 1) := by decide +kernel
theorem d_Tree_length_1 : decode b_Tree_length 1 = .ok (.getfield 11, 3) := by decide +kernel
theorem d_Tree_length_4 : decode b_Tree_length 4 = .ok (.iconst 0, 1) := by decide +kernel
theorem d_Tree_length_5 : decode b_Tree_length 5 = .ok (.aaload, 1) := by decide +kernel
theorem d_Tree_length_6 : decode b_Tree_length 6 = .ok (.getfield 22, 3) := by decide +kernel
theorem d_Tree_length_9 : decode b_Tree_length 9 = .ok (.ireturn, 1) := by decide +kernel
theorem d_Tree_become_0 : decode b_Tree_become 0 = .ok (.iconst 0, 1) := by decide +kernel
theorem d_Tree_become_1 : decode b_Tree_become 1 = .ok (.istore_n 2, 1) := by decide +kernel
theorem d_Tree_become_2 : decode b_Tree_become 2 = .ok (.iload_n 2, 1) := by decide +kernel
theorem d_Tree_become_3 : decode b_Tree_become 3 = .ok (.aload_n 0, 1) := by decide +kernel
theorem d_Tree_become_4 : decode b_Tree_become 4 = .ok (.getfield 11, 3) := by decide +kernel
theorem d_Tree_become_7 : decode b_Tree_become 7 = .ok (.arraylength, 1) := by decide +kernel
theorem d_Tree_become_8 : decode b_Tree_become 8 = .ok (.if_icmp .ge 43, 3) := by decide +kernel
theorem d_Tree_become_11 : decode b_Tree_become 11 = .ok (.aload_n 0, 1) := by decide +kernel
theorem d_Tree_become_12 : decode b_Tree_become 12 = .ok (.getfield 11, 3) := by decide +kernel
theorem d_Tree_become_15 : decode b_Tree_become 15 = .ok (.iload_n 2, 1) := by decide +kernel
theorem d_Tree_become_16 : decode b_Tree_become 16 = .ok (.aaload, 1) := by decide +kernel
theorem d_Tree_become_17 : decode b_Tree_become 17 = .ok (.invokevirtual 33, 3) := by decide +kernel
theorem d_Tree_become_20 : decode b_Tree_become 20 = .ok (.aload_n 0, 1) := by decide +kernel
theorem d_Tree_become_21 : decode b_Tree_become 21 = .ok (.getfield 11, 3) := by decide +kernel
theorem d_Tree_become_24 : decode b_Tree_become 24 = .ok (.iload_n 2, 1) := by decide +kernel
theorem d_Tree_become_25 : decode b_Tree_become 25 = .ok (.aaload, 1) := by decide +kernel
theorem d_Tree_become_26 : decode b_Tree_become 26 = .ok (.aload_n 1, 1) := by decide +kernel
theorem d_Tree_become_27 : decode b_Tree_become 27 = .ok (.getfield 11, 3) := by decide +kernel
theorem d_Tree_become_30 : decode b_Tree_become 30 = .ok (.iload_n 2, 1) := by decide +kernel
theorem d_Tree_become_31 : decode b_Tree_become 31 = .ok (.aaload, 1) := by decide +kernel
theorem d_Tree_become_32 : decode b_Tree_become 32 = .ok (.iconst 0, 1) := by decide +kernel
theorem d_Tree_become_33 : decode b_Tree_become 33 = .ok (.aload_n 1, 1) := by decide +kernel
theorem d_Tree_become_34 : decode b_Tree_become 34 = .ok (.getfield 11, 3) := by decide +kernel
theorem d_Tree_become_37 : decode b_Tree_become 37 = .ok (.iload_n 2, 1) := by decide +kernel
theorem d_Tree_become_38 : decode b_Tree_become 38 = .ok (.aaload, 1) := by decide +kernel
theorem d_Tree_become_39 : decode b_Tree_become 39 = .ok (.getfield 22, 3) := by decide +kernel
theorem d_Tree_become_42 : decode b_Tree_become 42 = .ok (.invokevirtual 36, 3) := by decide +kernel
theorem d_Tree_become_45 : decode b_Tree_become 45 = .ok (.iinc 2 1, 3) := by decide +kernel
theorem d_Tree_become_48 : decode b_Tree_become 48 = .ok (.goto (-46), 3) := by decide +kernel
theorem d_Tree_become_51 : decode b_Tree_become 51 = .ok (.aload_n 0, 1) := by decide +kernel
theorem d_Tree_become_52 : decode b_Tree_become 52 = .ok (.aload_n 1, 1) := by decide +kernel
theorem d_Tree_become_53 : decode b_Tree_become 53 = .ok (.getfield 18, 3) := by decide +kernel
theorem d_Tree_become_56 : decode b_Tree_become 56 = .ok (.putfield 18, 3) := by decide +kernel
theorem d_Tree_become_59 : decode b_Tree_become 59 = .ok (.return_, 1) := by decide +kernel
theorem d_Row_clear_0 : decode b_Row_clear 0 = .ok (.aload_n 0, 1) := by decide +kernel
theorem d_Row_clear_1 : decode b_Row_clear 1 = .ok (.iconst 0, 1) := by decide +kernel
theorem d_Row_clear_2 : decode b_Row_clear 2 = .ok (.putfield 15, 3) := by decide +kernel
theorem d_Row_clear_5 : decode b_Row_clear 5 = .ok (.return_, 1) := by decide +kernel
theorem d_Row_addRange_0 : decode b_Row_addRange 0 = .ok (.iload_n 2, 1) := by decide +kernel
theorem d_Row_addRange_1 : decode b_Row_addRange 1 = .ok (.iconst 0, 1) := by decide +kernel
theorem d_Row_addRange_2 : decode b_Row_addRange 2 = .ok (.invokestatic 25, 3) := by decide +kernel
theorem d_Row_addRange_5 : decode b_Row_addRange 5 = .ok (.istore 4, 2) := by decide +kernel
theorem d_Row_addRange_7 : decode b_Row_addRange 7 = .ok (.iload 4, 2) := by decide +kernel
theorem d_Row_addRange_9 : decode b_Row_addRange 9 = .ok (.iload_n 3, 1) := by decide +kernel
theorem d_Row_addRange_10 : decode b_Row_addRange 10 = .ok (.if_icmp .ge 29, 3) := by decide +kernel
theorem d_Row_addRange_13 : decode b_Row_addRange 13 = .ok (.iload 4, 2) := by decide +kernel
theorem d_Row_addRange_15 : decode b_Row_addRange 15 = .ok (.aload_n 1, 1) := by decide +kernel
theorem d_Row_addRange_16 : decode b_Row_addRange 16 = .ok (.getfield 15, 3) := by decide +kernel
theorem d_Row_addRange_19 : decode b_Row_addRange 19 = .ok (.if_icmp .ge 20, 3) := by decide +kernel
theorem d_Row_addRange_22 : decode b_Row_addRange 22 = .ok (.aload_n 0, 1) := by decide +kernel
theorem d_Row_addRange_23 : decode b_Row_addRange 23 = .ok (.aload_n 1, 1) := by decide +kernel
theorem d_Row_addRange_24 : decode b_Row_addRange 24 = .ok (.getfield 9, 3) := by decide +kernel
theorem d_Row_addRange_27 : decode b_Row_addRange 27 = .ok (.iload 4, 2) := by decide +kernel
theorem d_Row_addRange_29 : decode b_Row_addRange 29 = .ok (.iaload, 1) := by decide +kernel
theorem d_Row_addRange_30 : decode b_Row_addRange 30 = .ok (.invokevirtual 31, 3) := by decide +kernel
theorem d_Row_addRange_33 : decode b_Row_addRange 33 = .ok (.iinc 4 1, 3) := by decide +kernel
theorem d_Row_addRange_36 : decode b_Row_addRange 36 = .ok (.goto (-29), 3) := by decide +kernel
theorem d_Row_addRange_39 : decode b_Row_addRange 39 = .ok (.return_, 1) := by decide +kernel
theorem d_Row_addLast_0 : decode b_Row_addLast 0 = .ok (.aload_n 0, 1) := by decide +kernel
theorem d_Row_addLast_1 : decode b_Row_addLast 1 = .ok (.getfield 15, 3) := by decide +kernel
theorem d_Row_addLast_4 : decode b_Row_addLast 4 = .ok (.aload_n 0, 1) := by decide +kernel
theorem d_Row_addLast_5 : decode b_Row_addLast 5 = .ok (.getfield 9, 3) := by decide +kernel
theorem d_Row_addLast_8 : decode b_Row_addLast 8 = .ok (.arraylength, 1) := by decide +kernel
theorem d_Row_addLast_9 : decode b_Row_addLast 9 = .ok (.if_icmp .ge 23, 3) := by decide +kernel
theorem d_Row_addLast_12 : decode b_Row_addLast 12 = .ok (.aload_n 0, 1) := by decide +kernel
theorem d_Row_addLast_13 : decode b_Row_addLast 13 = .ok (.getfield 9, 3) := by decide +kernel
theorem d_Row_addLast_16 : decode b_Row_addLast 16 = .ok (.aload_n 0, 1) := by decide +kernel
theorem d_Row_addLast_17 : decode b_Row_addLast 17 = .ok (.getfield 15, 3) := by decide +kernel
theorem d_Row_addLast_20 : decode b_Row_addLast 20 = .ok (.iload_n 1, 1) := by decide +kernel
theorem d_Row_addLast_21 : decode b_Row_addLast 21 = .ok (.iastore, 1) := by decide +kernel
theorem d_Row_addLast_22 : decode b_Row_addLast 22 = .ok (.aload_n 0, 1) := by decide +kernel
theorem d_Row_addLast_23 : decode b_Row_addLast 23 = .ok (.dup, 1) := by decide +kernel
theorem d_Row_addLast_24 : decode b_Row_addLast 24 = .ok (.getfield 15, 3) := by decide +kernel
theorem d_Row_addLast_27 : decode b_Row_addLast 27 = .ok (.iconst 1, 1) := by decide +kernel
theorem d_Row_addLast_28 : decode b_Row_addLast 28 = .ok (.iadd, 1) := by decide +kernel
theorem d_Row_addLast_29 : decode b_Row_addLast 29 = .ok (.putfield 15, 3) := by decide +kernel
theorem d_Row_addLast_32 : decode b_Row_addLast 32 = .ok (.return_, 1) := by decide +kernel
theorem d_Tree_addLast_0 : decode b_Tree_addLast 0 = .ok (.aload_n 0, 1) := by decide +kernel
theorem d_Tree_addLast_1 : decode b_Tree_addLast 1 = .ok (.getfield 11, 3) := by decide +kernel
theorem d_Tree_addLast_4 : decode b_Tree_addLast 4 = .ok (.iconst 0, 1) := by decide +kernel
theorem d_Tree_addLast_5 : decode b_Tree_addLast 5 = .ok (.aaload, 1) := by decide +kernel
theorem d_Tree_addLast_6 : decode b_Tree_addLast 6 = .ok (.iload_n 1, 1) := by decide +kernel
theorem d_Tree_addLast_7 : decode b_Tree_addLast 7 = .ok (.invokevirtual 40, 3) := by decide +kernel
theorem d_Tree_addLast_10 : decode b_Tree_addLast 10 = .ok (.iconst 1, 1) := by decide +kernel
theorem d_Tree_addLast_11 : decode b_Tree_addLast 11 = .ok (.istore_n 2, 1) := by decide +kernel
theorem d_Tree_addLast_12 : decode b_Tree_addLast 12 = .ok (.iload_n 2, 1) := by decide +kernel
theorem d_Tree_addLast_13 : decode b_Tree_addLast 13 = .ok (.aload_n 0, 1) := by decide +kernel
theorem d_Tree_addLast_14 : decode b_Tree_addLast 14 = .ok (.getfield 18, 3) := by decide +kernel
theorem d_Tree_addLast_17 : decode b_Tree_addLast 17 = .ok (.if_icmp .gt 68, 3) := by decide +kernel
theorem d_Tree_addLast_20 : decode b_Tree_addLast 20 = .ok (.aload_n 0, 1) := by decide +kernel
theorem d_Tree_addLast_21 : decode b_Tree_addLast 21 = .ok (.getfield 11, 3) := by decide +kernel
theorem d_Tree_addLast_24 : decode b_Tree_addLast 24 = .ok (.iload_n 2, 1) := by decide +kernel
theorem d_Tree_addLast_25 : decode b_Tree_addLast 25 = .ok (.aaload, 1) := by decide +kernel
theorem d_Tree_addLast_26 : decode b_Tree_addLast 26 = .ok (.getfield 22, 3) := by decide +kernel
theorem d_Tree_addLast_29 : decode b_Tree_addLast 29 = .ok (.iconst 1, 1) := by decide +kernel
theorem d_Tree_addLast_30 : decode b_Tree_addLast 30 = .ok (.isub, 1) := by decide +kernel
theorem d_Tree_addLast_31 : decode b_Tree_addLast 31 = .ok (.istore_n 3, 1) := by decide +kernel
theorem d_Tree_addLast_32 : decode b_Tree_addLast 32 = .ok (.aload_n 0, 1) := by decide +kernel
theorem d_Tree_addLast_33 : decode b_Tree_addLast 33 = .ok (.getfield 11, 3) := by decide +kernel
theorem d_Tree_addLast_36 : decode b_Tree_addLast 36 = .ok (.iload_n 2, 1) := by decide +kernel
theorem d_Tree_addLast_37 : decode b_Tree_addLast 37 = .ok (.aaload, 1) := by decide +kernel
theorem d_Tree_addLast_38 : decode b_Tree_addLast 38 = .ok (.iload_n 3, 1) := by decide +kernel
theorem d_Tree_addLast_39 : decode b_Tree_addLast 39 = .ok (.invokevirtual 25, 3) := by decide +kernel
theorem d_Tree_addLast_42 : decode b_Tree_addLast 42 = .ok (.iconst 4, 1) := by decide +kernel
theorem d_Tree_addLast_43 : decode b_Tree_addLast 43 = .ok (.if_icmp .ge 26, 3) := by decide +kernel
theorem d_Tree_addLast_46 : decode b_Tree_addLast 46 = .ok (.aload_n 0, 1) := by decide +kernel
theorem d_Tree_addLast_47 : decode b_Tree_addLast 47 = .ok (.getfield 11, 3) := by decide +kernel
theorem d_Tree_addLast_50 : decode b_Tree_addLast 50 = .ok (.iload_n 2, 1) := by decide +kernel
theorem d_Tree_addLast_51 : decode b_Tree_addLast 51 = .ok (.aaload, 1) := by decide +kernel
theorem d_Tree_addLast_52 : decode b_Tree_addLast 52 = .ok (.iload_n 3, 1) := by decide +kernel
theorem d_Tree_addLast_53 : decode b_Tree_addLast 53 = .ok (.aload_n 0, 1) := by decide +kernel
theorem d_Tree_addLast_54 : decode b_Tree_addLast 54 = .ok (.getfield 11, 3) := by decide +kernel
theorem d_Tree_addLast_57 : decode b_Tree_addLast 57 = .ok (.iload_n 2, 1) := by decide +kernel
theorem d_Tree_addLast_58 : decode b_Tree_addLast 58 = .ok (.aaload, 1) := by decide +kernel
theorem d_Tree_addLast_59 : decode b_Tree_addLast 59 = .ok (.iload_n 3, 1) := by decide +kernel
theorem d_Tree_addLast_60 : decode b_Tree_addLast 60 = .ok (.invokevirtual 25, 3) := by decide +kernel
theorem d_Tree_addLast_63 : decode b_Tree_addLast 63 = .ok (.iconst 1, 1) := by decide +kernel
theorem d_Tree_addLast_64 : decode b_Tree_addLast 64 = .ok (.iadd, 1) := by decide +kernel
theorem d_Tree_addLast_65 : decode b_Tree_addLast 65 = .ok (.invokevirtual 29, 3) := by decide +kernel
theorem d_Tree_addLast_68 : decode b_Tree_addLast 68 = .ok (.return_, 1) := by decide +kernel
theorem d_Tree_addLast_69 : decode b_Tree_addLast 69 = .ok (.aload_n 0, 1) := by decide +kernel
theorem d_Tree_addLast_70 : decode b_Tree_addLast 70 = .ok (.getfield 11, 3) := by decide +kernel
theorem d_Tree_addLast_73 : decode b_Tree_addLast 73 = .ok (.iload_n 2, 1) := by decide +kernel
theorem d_Tree_addLast_74 : decode b_Tree_addLast 74 = .ok (.aaload, 1) := by decide +kernel
theorem d_Tree_addLast_75 : decode b_Tree_addLast 75 = .ok (.iconst 1, 1) := by decide +kernel
theorem d_Tree_addLast_76 : decode b_Tree_addLast 76 = .ok (.invokevirtual 40, 3) := by decide +kernel
theorem d_Tree_addLast_79 : decode b_Tree_addLast 79 = .ok (.iinc 2 1, 3) := by decide +kernel
theorem d_Tree_addLast_82 : decode b_Tree_addLast 82 = .ok (.goto (-70), 3) := by decide +kernel
theorem d_Tree_addLast_85 : decode b_Tree_addLast 85 = .ok (.aload_n 0, 1) := by decide +kernel
theorem d_Tree_addLast_86 : decode b_Tree_addLast 86 = .ok (.invokevirtual 44, 3) := by decide +kernel
theorem d_Tree_addLast_89 : decode b_Tree_addLast 89 = .ok (.return_, 1) := by decide +kernel
theorem d_Row_cell_0 : decode b_Row_cell 0 = .ok (.iload_n 1, 1) := by decide +kernel
theorem d_Row_cell_1 : decode b_Row_cell 1 = .ok (.ifCond .lt 20, 3) := by decide +kernel
theorem d_Row_cell_4 : decode b_Row_cell 4 = .ok (.iload_n 1, 1) := by decide +kernel
theorem d_Row_cell_5 : decode b_Row_cell 5 = .ok (.aload_n 0, 1) := by decide +kernel
theorem d_Row_cell_6 : decode b_Row_cell 6 = .ok (.getfield 15, 3) := by decide +kernel
theorem d_Row_cell_9 : decode b_Row_cell 9 = .ok (.if_icmp .ge 12, 3) := by decide +kernel
theorem d_Row_cell_12 : decode b_Row_cell 12 = .ok (.aload_n 0, 1) := by decide +kernel
theorem d_Row_cell_13 : decode b_Row_cell 13 = .ok (.getfield 9, 3) := by decide +kernel
theorem d_Row_cell_16 : decode b_Row_cell 16 = .ok (.iload_n 1, 1) := by decide +kernel
theorem d_Row_cell_17 : decode b_Row_cell 17 = .ok (.iaload, 1) := by decide +kernel
theorem d_Row_cell_18 : decode b_Row_cell 18 = .ok (.goto 4, 3) := by decide +kernel
theorem d_Row_cell_21 : decode b_Row_cell 21 = .ok (.iconst 0, 1) := by decide +kernel
theorem d_Row_cell_22 : decode b_Row_cell 22 = .ok (.ireturn, 1) := by decide +kernel
theorem d_Row_write_0 : decode b_Row_write 0 = .ok (.iload_n 1, 1) := by decide +kernel
theorem d_Row_write_1 : decode b_Row_write 1 = .ok (.ifCond .lt 18, 3) := by decide +kernel
theorem d_Row_write_4 : decode b_Row_write 4 = .ok (.iload_n 1, 1) := by decide +kernel
theorem d_Row_write_5 : decode b_Row_write 5 = .ok (.aload_n 0, 1) := by decide +kernel
theorem d_Row_write_6 : decode b_Row_write 6 = .ok (.getfield 15, 3) := by decide +kernel
theorem d_Row_write_9 : decode b_Row_write 9 = .ok (.if_icmp .ge 10, 3) := by decide +kernel
theorem d_Row_write_12 : decode b_Row_write 12 = .ok (.aload_n 0, 1) := by decide +kernel
theorem d_Row_write_13 : decode b_Row_write 13 = .ok (.getfield 9, 3) := by decide +kernel
theorem d_Row_write_16 : decode b_Row_write 16 = .ok (.iload_n 1, 1) := by decide +kernel
theorem d_Row_write_17 : decode b_Row_write 17 = .ok (.iload_n 2, 1) := by decide +kernel
theorem d_Row_write_18 : decode b_Row_write 18 = .ok (.iastore, 1) := by decide +kernel
theorem d_Row_write_19 : decode b_Row_write 19 = .ok (.return_, 1) := by decide +kernel
theorem d_Tree_setRootOnTop_0 : decode b_Tree_setRootOnTop 0 = .ok (.aload_n 0, 1) := by decide +kernel
theorem d_Tree_setRootOnTop_1 : decode b_Tree_setRootOnTop 1 = .ok (.getfield 18, 3) := by decide +kernel
theorem d_Tree_setRootOnTop_4 : decode b_Tree_setRootOnTop 4 = .ok (.bipush 6, 2) := by decide +kernel
theorem d_Tree_setRootOnTop_6 : decode b_Tree_setRootOnTop 6 = .ok (.if_icmp .ge 39, 3) := by decide +kernel
theorem d_Tree_setRootOnTop_9 : decode b_Tree_setRootOnTop 9 = .ok (.aload_n 0, 1) := by decide +kernel
theorem d_Tree_setRootOnTop_10 : decode b_Tree_setRootOnTop 10 = .ok (.getfield 11, 3) := by decide +kernel
theorem d_Tree_setRootOnTop_13 : decode b_Tree_setRootOnTop 13 = .ok (.aload_n 0, 1) := by decide +kernel
theorem d_Tree_setRootOnTop_14 : decode b_Tree_setRootOnTop 14 = .ok (.getfield 18, 3) := by decide +kernel
theorem d_Tree_setRootOnTop_17 : decode b_Tree_setRootOnTop 17 = .ok (.iconst 1, 1) := by decide +kernel
theorem d_Tree_setRootOnTop_18 : decode b_Tree_setRootOnTop 18 = .ok (.iadd, 1) := by decide +kernel
theorem d_Tree_setRootOnTop_19 : decode b_Tree_setRootOnTop 19 = .ok (.aaload, 1) := by decide +kernel
theorem d_Tree_setRootOnTop_20 : decode b_Tree_setRootOnTop 20 = .ok (.aload_n 0, 1) := by decide +kernel
theorem d_Tree_setRootOnTop_21 : decode b_Tree_setRootOnTop 21 = .ok (.getfield 11, 3) := by decide +kernel
theorem d_Tree_setRootOnTop_24 : decode b_Tree_setRootOnTop 24 = .ok (.aload_n 0, 1) := by decide +kernel
theorem d_Tree_setRootOnTop_25 : decode b_Tree_setRootOnTop 25 = .ok (.getfield 18, 3) := by decide +kernel
theorem d_Tree_setRootOnTop_28 : decode b_Tree_setRootOnTop 28 = .ok (.aaload, 1) := by decide +kernel
theorem d_Tree_setRootOnTop_29 : decode b_Tree_setRootOnTop 29 = .ok (.getfield 22, 3) := by decide +kernel
theorem d_Tree_setRootOnTop_32 : decode b_Tree_setRootOnTop 32 = .ok (.invokevirtual 40, 3) := by decide +kernel
theorem d_Tree_setRootOnTop_35 : decode b_Tree_setRootOnTop 35 = .ok (.aload_n 0, 1) := by decide +kernel
theorem d_Tree_setRootOnTop_36 : decode b_Tree_setRootOnTop 36 = .ok (.dup, 1) := by decide +kernel
theorem d_Tree_setRootOnTop_37 : decode b_Tree_setRootOnTop 37 = .ok (.getfield 18, 3) := by decide +kernel
theorem d_Tree_setRootOnTop_40 : decode b_Tree_setRootOnTop 40 = .ok (.iconst 1, 1) := by decide +kernel
theorem d_Tree_setRootOnTop_41 : decode b_Tree_setRootOnTop 41 = .ok (.iadd, 1) := by decide +kernel
theorem d_Tree_setRootOnTop_42 : decode b_Tree_setRootOnTop 42 = .ok (.putfield 18, 3) := by decide +kernel
theorem d_Tree_setRootOnTop_45 : decode b_Tree_setRootOnTop 45 = .ok (.return_, 1) := by decide +kernel
theorem d_Tree_addFirst_0 : decode b_Tree_addFirst 0 = .ok (.aload_n 0, 1) := by decide +kernel
theorem d_Tree_addFirst_1 : decode b_Tree_addFirst 1 = .ok (.getfield 11, 3) := by decide +kernel
theorem d_Tree_addFirst_4 : decode b_Tree_addFirst 4 = .ok (.iconst 0, 1) := by decide +kernel
theorem d_Tree_addFirst_5 : decode b_Tree_addFirst 5 = .ok (.aaload, 1) := by decide +kernel
theorem d_Tree_addFirst_6 : decode b_Tree_addFirst 6 = .ok (.iload_n 1, 1) := by decide +kernel
theorem d_Tree_addFirst_7 : decode b_Tree_addFirst 7 = .ok (.invokevirtual 47, 3) := by decide +kernel
theorem d_Tree_addFirst_10 : decode b_Tree_addFirst 10 = .ok (.iconst 1, 1) := by decide +kernel
theorem d_Tree_addFirst_11 : decode b_Tree_addFirst 11 = .ok (.istore_n 2, 1) := by decide +kernel
theorem d_Tree_addFirst_12 : decode b_Tree_addFirst 12 = .ok (.iload_n 2, 1) := by decide +kernel
theorem d_Tree_addFirst_13 : decode b_Tree_addFirst 13 = .ok (.aload_n 0, 1) := by decide +kernel
theorem d_Tree_addFirst_14 : decode b_Tree_addFirst 14 = .ok (.getfield 18, 3) := by decide +kernel
theorem d_Tree_addFirst_17 : decode b_Tree_addFirst 17 = .ok (.if_icmp .gt 56, 3) := by decide +kernel
theorem d_Tree_addFirst_20 : decode b_Tree_addFirst 20 = .ok (.aload_n 0, 1) := by decide +kernel
theorem d_Tree_addFirst_21 : decode b_Tree_addFirst 21 = .ok (.getfield 11, 3) := by decide +kernel
theorem d_Tree_addFirst_24 : decode b_Tree_addFirst 24 = .ok (.iload_n 2, 1) := by decide +kernel
theorem d_Tree_addFirst_25 : decode b_Tree_addFirst 25 = .ok (.aaload, 1) := by decide +kernel
theorem d_Tree_addFirst_26 : decode b_Tree_addFirst 26 = .ok (.iconst 0, 1) := by decide +kernel
theorem d_Tree_addFirst_27 : decode b_Tree_addFirst 27 = .ok (.invokevirtual 25, 3) := by decide +kernel
theorem d_Tree_addFirst_30 : decode b_Tree_addFirst 30 = .ok (.iconst 4, 1) := by decide +kernel
theorem d_Tree_addFirst_31 : decode b_Tree_addFirst 31 = .ok (.if_icmp .ge 26, 3) := by decide +kernel
theorem d_Tree_addFirst_34 : decode b_Tree_addFirst 34 = .ok (.aload_n 0, 1) := by decide +kernel
theorem d_Tree_addFirst_35 : decode b_Tree_addFirst 35 = .ok (.getfield 11, 3) := by decide +kernel
theorem d_Tree_addFirst_38 : decode b_Tree_addFirst 38 = .ok (.iload_n 2, 1) := by decide +kernel
theorem d_Tree_addFirst_39 : decode b_Tree_addFirst 39 = .ok (.aaload, 1) := by decide +kernel
theorem d_Tree_addFirst_40 : decode b_Tree_addFirst 40 = .ok (.iconst 0, 1) := by decide +kernel
theorem d_Tree_addFirst_41 : decode b_Tree_addFirst 41 = .ok (.aload_n 0, 1) := by decide +kernel
theorem d_Tree_addFirst_42 : decode b_Tree_addFirst 42 = .ok (.getfield 11, 3) := by decide +kernel
theorem d_Tree_addFirst_45 : decode b_Tree_addFirst 45 = .ok (.iload_n 2, 1) := by decide +kernel
theorem d_Tree_addFirst_46 : decode b_Tree_addFirst 46 = .ok (.aaload, 1) := by decide +kernel
theorem d_Tree_addFirst_47 : decode b_Tree_addFirst 47 = .ok (.iconst 0, 1) := by decide +kernel
theorem d_Tree_addFirst_48 : decode b_Tree_addFirst 48 = .ok (.invokevirtual 25, 3) := by decide +kernel
theorem d_Tree_addFirst_51 : decode b_Tree_addFirst 51 = .ok (.iconst 1, 1) := by decide +kernel
theorem d_Tree_addFirst_52 : decode b_Tree_addFirst 52 = .ok (.iadd, 1) := by decide +kernel
theorem d_Tree_addFirst_53 : decode b_Tree_addFirst 53 = .ok (.invokevirtual 29, 3) := by decide +kernel
theorem d_Tree_addFirst_56 : decode b_Tree_addFirst 56 = .ok (.return_, 1) := by decide +kernel
theorem d_Tree_addFirst_57 : decode b_Tree_addFirst 57 = .ok (.aload_n 0, 1) := by decide +kernel
theorem d_Tree_addFirst_58 : decode b_Tree_addFirst 58 = .ok (.getfield 11, 3) := by decide +kernel
theorem d_Tree_addFirst_61 : decode b_Tree_addFirst 61 = .ok (.iload_n 2, 1) := by decide +kernel
theorem d_Tree_addFirst_62 : decode b_Tree_addFirst 62 = .ok (.aaload, 1) := by decide +kernel
theorem d_Tree_addFirst_63 : decode b_Tree_addFirst 63 = .ok (.iconst 1, 1) := by decide +kernel
theorem d_Tree_addFirst_64 : decode b_Tree_addFirst 64 = .ok (.invokevirtual 47, 3) := by decide +kernel
theorem d_Tree_addFirst_67 : decode b_Tree_addFirst 67 = .ok (.iinc 2 1, 3) := by decide +kernel
theorem d_Tree_addFirst_70 : decode b_Tree_addFirst 70 = .ok (.goto (-58), 3) := by decide +kernel
theorem d_Tree_addFirst_73 : decode b_Tree_addFirst 73 = .ok (.aload_n 0, 1) := by decide +kernel
theorem d_Tree_addFirst_74 : decode b_Tree_addFirst 74 = .ok (.invokevirtual 44, 3) := by decide +kernel
theorem d_Tree_addFirst_77 : decode b_Tree_addFirst 77 = .ok (.return_, 1) := by decide +kernel
theorem d_Row_addFirst_0 : decode b_Row_addFirst 0 = .ok (.aload_n 0, 1) := by decide +kernel
theorem d_Row_addFirst_1 : decode b_Row_addFirst 1 = .ok (.getfield 15, 3) := by decide +kernel
theorem d_Row_addFirst_4 : decode b_Row_addFirst 4 = .ok (.aload_n 0, 1) := by decide +kernel
theorem d_Row_addFirst_5 : decode b_Row_addFirst 5 = .ok (.getfield 9, 3) := by decide +kernel
theorem d_Row_addFirst_8 : decode b_Row_addFirst 8 = .ok (.arraylength, 1) := by decide +kernel
theorem d_Row_addFirst_9 : decode b_Row_addFirst 9 = .ok (.if_icmp .ge 37, 3) := by decide +kernel
theorem d_Row_addFirst_12 : decode b_Row_addFirst 12 = .ok (.aload_n 0, 1) := by decide +kernel
theorem d_Row_addFirst_13 : decode b_Row_addFirst 13 = .ok (.getfield 9, 3) := by decide +kernel
theorem d_Row_addFirst_16 : decode b_Row_addFirst 16 = .ok (.iconst 0, 1) := by decide +kernel
theorem d_Row_addFirst_17 : decode b_Row_addFirst 17 = .ok (.aload_n 0, 1) := by decide +kernel
theorem d_Row_addFirst_18 : decode b_Row_addFirst 18 = .ok (.getfield 9, 3) := by decide +kernel
theorem d_Row_addFirst_21 : decode b_Row_addFirst 21 = .ok (.iconst 1, 1) := by decide +kernel
theorem d_Row_addFirst_22 : decode b_Row_addFirst 22 = .ok (.aload_n 0, 1) := by decide +kernel
theorem d_Row_addFirst_23 : decode b_Row_addFirst 23 = .ok (.getfield 15, 3) := by decide +kernel
theorem d_Row_addFirst_26 : decode b_Row_addFirst 26 = .ok (.invokestatic 19, 3) := by decide +kernel
theorem d_Row_addFirst_29 : decode b_Row_addFirst 29 = .ok (.aload_n 0, 1) := by decide +kernel
theorem d_Row_addFirst_30 : decode b_Row_addFirst 30 = .ok (.getfield 9, 3) := by decide +kernel
theorem d_Row_addFirst_33 : decode b_Row_addFirst 33 = .ok (.iconst 0, 1) := by decide +kernel
theorem d_Row_addFirst_34 : decode b_Row_addFirst 34 = .ok (.iload_n 1, 1) := by decide +kernel
theorem d_Row_addFirst_35 : decode b_Row_addFirst 35 = .ok (.iastore, 1) := by decide +kernel
theorem d_Row_addFirst_36 : decode b_Row_addFirst 36 = .ok (.aload_n 0, 1) := by decide +kernel
theorem d_Row_addFirst_37 : decode b_Row_addFirst 37 = .ok (.dup, 1) := by decide +kernel
theorem d_Row_addFirst_38 : decode b_Row_addFirst 38 = .ok (.getfield 15, 3) := by decide +kernel
theorem d_Row_addFirst_41 : decode b_Row_addFirst 41 = .ok (.iconst 1, 1) := by decide +kernel
theorem d_Row_addFirst_42 : decode b_Row_addFirst 42 = .ok (.iadd, 1) := by decide +kernel
theorem d_Row_addFirst_43 : decode b_Row_addFirst 43 = .ok (.putfield 15, 3) := by decide +kernel
theorem d_Row_addFirst_46 : decode b_Row_addFirst 46 = .ok (.return_, 1) := by decide +kernel
theorem d_Tree_replace_0 : decode b_Tree_replace 0 = .ok (.aload_n 0, 1) := by decide +kernel
theorem d_Tree_replace_1 : decode b_Tree_replace 1 = .ok (.getfield 11, 3) := by decide +kernel
theorem d_Tree_replace_4 : decode b_Tree_replace 4 = .ok (.iconst 0, 1) := by decide +kernel
theorem d_Tree_replace_5 : decode b_Tree_replace 5 = .ok (.aaload, 1) := by decide +kernel
theorem d_Tree_replace_6 : decode b_Tree_replace 6 = .ok (.iload_n 1, 1) := by decide +kernel
theorem d_Tree_replace_7 : decode b_Tree_replace 7 = .ok (.iload_n 2, 1) := by decide +kernel
theorem d_Tree_replace_8 : decode b_Tree_replace 8 = .ok (.invokevirtual 29, 3) := by decide +kernel
theorem d_Tree_replace_11 : decode b_Tree_replace 11 = .ok (.return_, 1) := by decide +kernel
theorem d_Tree_join_0 : decode b_Tree_join 0 = .ok (.aload_n 1, 1) := by decide +kernel
theorem d_Tree_join_1 : decode b_Tree_join 1 = .ok (.invokevirtual 56, 3) := by decide +kernel
theorem d_Tree_join_4 : decode b_Tree_join 4 = .ok (.ifCond .ne 11, 3) := by decide +kernel
theorem d_Tree_join_7 : decode b_Tree_join 7 = .ok (.aload_n 0, 1) := by decide +kernel
theorem d_Tree_join_8 : decode b_Tree_join 8 = .ok (.aload_n 2, 1) := by decide +kernel
theorem d_Tree_join_9 : decode b_Tree_join 9 = .ok (.invokevirtual 60, 3) := by decide +kernel
theorem d_Tree_join_12 : decode b_Tree_join 12 = .ok (.goto 24, 3) := by decide +kernel
theorem d_Tree_join_15 : decode b_Tree_join 15 = .ok (.aload_n 2, 1) := by decide +kernel
theorem d_Tree_join_16 : decode b_Tree_join 16 = .ok (.invokevirtual 56, 3) := by decide +kernel
theorem d_Tree_join_19 : decode b_Tree_join 19 = .ok (.ifCond .ne 11, 3) := by decide +kernel
theorem d_Tree_join_22 : decode b_Tree_join 22 = .ok (.aload_n 0, 1) := by decide +kernel
theorem d_Tree_join_23 : decode b_Tree_join 23 = .ok (.aload_n 1, 1) := by decide +kernel
theorem d_Tree_join_24 : decode b_Tree_join 24 = .ok (.invokevirtual 60, 3) := by decide +kernel
theorem d_Tree_join_27 : decode b_Tree_join 27 = .ok (.goto 9, 3) := by decide +kernel
theorem d_Tree_join_30 : decode b_Tree_join 30 = .ok (.aload_n 0, 1) := by decide +kernel
theorem d_Tree_join_31 : decode b_Tree_join 31 = .ok (.aload_n 1, 1) := by decide +kernel
theorem d_Tree_join_32 : decode b_Tree_join 32 = .ok (.aload_n 2, 1) := by decide +kernel
theorem d_Tree_join_33 : decode b_Tree_join 33 = .ok (.invokevirtual 64, 3) := by decide +kernel
theorem d_Tree_join_36 : decode b_Tree_join 36 = .ok (.return_, 1) := by decide +kernel
theorem d_Tree_meetRoots_0 : decode b_Tree_meetRoots 0 = .ok (.iconst 0, 1) := by decide +kernel
theorem d_Tree_meetRoots_1 : decode b_Tree_meetRoots 1 = .ok (.istore_n 3, 1) := by decide +kernel
theorem d_Tree_meetRoots_2 : decode b_Tree_meetRoots 2 = .ok (.iload_n 3, 1) := by decide +kernel
theorem d_Tree_meetRoots_3 : decode b_Tree_meetRoots 3 = .ok (.aload_n 0, 1) := by decide +kernel
theorem d_Tree_meetRoots_4 : decode b_Tree_meetRoots 4 = .ok (.getfield 11, 3) := by decide +kernel
theorem d_Tree_meetRoots_7 : decode b_Tree_meetRoots 7 = .ok (.arraylength, 1) := by decide +kernel
theorem d_Tree_meetRoots_8 : decode b_Tree_meetRoots 8 = .ok (.if_icmp .ge 18, 3) := by decide +kernel
theorem d_Tree_meetRoots_11 : decode b_Tree_meetRoots 11 = .ok (.aload_n 0, 1) := by decide +kernel
theorem d_Tree_meetRoots_12 : decode b_Tree_meetRoots 12 = .ok (.getfield 11, 3) := by decide +kernel
theorem d_Tree_meetRoots_15 : decode b_Tree_meetRoots 15 = .ok (.iload_n 3, 1) := by decide +kernel
theorem d_Tree_meetRoots_16 : decode b_Tree_meetRoots 16 = .ok (.aaload, 1) := by decide +kernel
theorem d_Tree_meetRoots_17 : decode b_Tree_meetRoots 17 = .ok (.invokevirtual 33, 3) := by decide +kernel
theorem d_Tree_meetRoots_20 : decode b_Tree_meetRoots 20 = .ok (.iinc 3 1, 3) := by decide +kernel
theorem d_Tree_meetRoots_23 : decode b_Tree_meetRoots 23 = .ok (.goto (-21), 3) := by decide +kernel
theorem d_Tree_meetRoots_26 : decode b_Tree_meetRoots 26 = .ok (.aload_n 0, 1) := by decide +kernel
theorem d_Tree_meetRoots_27 : decode b_Tree_meetRoots 27 = .ok (.getfield 11, 3) := by decide +kernel
theorem d_Tree_meetRoots_30 : decode b_Tree_meetRoots 30 = .ok (.iconst 0, 1) := by decide +kernel
theorem d_Tree_meetRoots_31 : decode b_Tree_meetRoots 31 = .ok (.aaload, 1) := by decide +kernel
theorem d_Tree_meetRoots_32 : decode b_Tree_meetRoots 32 = .ok (.aload_n 1, 1) := by decide +kernel
theorem d_Tree_meetRoots_33 : decode b_Tree_meetRoots 33 = .ok (.getfield 11, 3) := by decide +kernel
theorem d_Tree_meetRoots_36 : decode b_Tree_meetRoots 36 = .ok (.iconst 0, 1) := by decide +kernel
theorem d_Tree_meetRoots_37 : decode b_Tree_meetRoots 37 = .ok (.aaload, 1) := by decide +kernel
theorem d_Tree_meetRoots_38 : decode b_Tree_meetRoots 38 = .ok (.iconst 0, 1) := by decide +kernel
theorem d_Tree_meetRoots_39 : decode b_Tree_meetRoots 39 = .ok (.aload_n 1, 1) := by decide +kernel
theorem d_Tree_meetRoots_40 : decode b_Tree_meetRoots 40 = .ok (.getfield 11, 3) := by decide +kernel
theorem d_Tree_meetRoots_43 : decode b_Tree_meetRoots 43 = .ok (.iconst 0, 1) := by decide +kernel
theorem d_Tree_meetRoots_44 : decode b_Tree_meetRoots 44 = .ok (.aaload, 1) := by decide +kernel
theorem d_Tree_meetRoots_45 : decode b_Tree_meetRoots 45 = .ok (.getfield 22, 3) := by decide +kernel
theorem d_Tree_meetRoots_48 : decode b_Tree_meetRoots 48 = .ok (.invokevirtual 36, 3) := by decide +kernel
theorem d_Tree_meetRoots_51 : decode b_Tree_meetRoots 51 = .ok (.aload_n 0, 1) := by decide +kernel
theorem d_Tree_meetRoots_52 : decode b_Tree_meetRoots 52 = .ok (.getfield 11, 3) := by decide +kernel
theorem d_Tree_meetRoots_55 : decode b_Tree_meetRoots 55 = .ok (.iconst 0, 1) := by decide +kernel
theorem d_Tree_meetRoots_56 : decode b_Tree_meetRoots 56 = .ok (.aaload, 1) := by decide +kernel
theorem d_Tree_meetRoots_57 : decode b_Tree_meetRoots 57 = .ok (.aload_n 2, 1) := by decide +kernel
theorem d_Tree_meetRoots_58 : decode b_Tree_meetRoots 58 = .ok (.getfield 11, 3) := by decide +kernel
theorem d_Tree_meetRoots_61 : decode b_Tree_meetRoots 61 = .ok (.iconst 0, 1) := by decide +kernel
theorem d_Tree_meetRoots_62 : decode b_Tree_meetRoots 62 = .ok (.aaload, 1) := by decide +kernel
theorem d_Tree_meetRoots_63 : decode b_Tree_meetRoots 63 = .ok (.iconst 0, 1) := by decide +kernel
theorem d_Tree_meetRoots_64 : decode b_Tree_meetRoots 64 = .ok (.aload_n 2, 1) := by decide +kernel
theorem d_Tree_meetRoots_65 : decode b_Tree_meetRoots 65 = .ok (.getfield 11, 3) := by decide +kernel
theorem d_Tree_meetRoots_68 : decode b_Tree_meetRoots 68 = .ok (.iconst 0, 1) := by decide +kernel
theorem d_Tree_meetRoots_69 : decode b_Tree_meetRoots 69 = .ok (.aaload, 1) := by decide +kernel
theorem d_Tree_meetRoots_70 : decode b_Tree_meetRoots 70 = .ok (.getfield 22, 3) := by decide +kernel
theorem d_Tree_meetRoots_73 : decode b_Tree_meetRoots 73 = .ok (.invokevirtual 36, 3) := by decide +kernel
theorem d_Tree_meetRoots_76 : decode b_Tree_meetRoots 76 = .ok (.aload_n 0, 1) := by decide +kernel
theorem d_Tree_meetRoots_77 : decode b_Tree_meetRoots 77 = .ok (.getfield 11, 3) := by decide +kernel
theorem d_Tree_meetRoots_80 : decode b_Tree_meetRoots 80 = .ok (.iconst 1, 1) := by decide +kernel
theorem d_Tree_meetRoots_81 : decode b_Tree_meetRoots 81 = .ok (.aaload, 1) := by decide +kernel
theorem d_Tree_meetRoots_82 : decode b_Tree_meetRoots 82 = .ok (.aload_n 1, 1) := by decide +kernel
theorem d_Tree_meetRoots_83 : decode b_Tree_meetRoots 83 = .ok (.getfield 11, 3) := by decide +kernel
theorem d_Tree_meetRoots_86 : decode b_Tree_meetRoots 86 = .ok (.iconst 1, 1) := by decide +kernel
theorem d_Tree_meetRoots_87 : decode b_Tree_meetRoots 87 = .ok (.aaload, 1) := by decide +kernel
theorem d_Tree_meetRoots_88 : decode b_Tree_meetRoots 88 = .ok (.iconst 0, 1) := by decide +kernel
theorem d_Tree_meetRoots_89 : decode b_Tree_meetRoots 89 = .ok (.aload_n 1, 1) := by decide +kernel
theorem d_Tree_meetRoots_90 : decode b_Tree_meetRoots 90 = .ok (.getfield 11, 3) := by decide +kernel
theorem d_Tree_meetRoots_93 : decode b_Tree_meetRoots 93 = .ok (.iconst 1, 1) := by decide +kernel
theorem d_Tree_meetRoots_94 : decode b_Tree_meetRoots 94 = .ok (.aaload, 1) := by decide +kernel
theorem d_Tree_meetRoots_95 : decode b_Tree_meetRoots 95 = .ok (.getfield 22, 3) := by decide +kernel
theorem d_Tree_meetRoots_98 : decode b_Tree_meetRoots 98 = .ok (.invokevirtual 36, 3) := by decide +kernel
theorem d_Tree_meetRoots_101 : decode b_Tree_meetRoots 101 = .ok (.aload_n 0, 1) := by decide +kernel
theorem d_Tree_meetRoots_102 : decode b_Tree_meetRoots 102 = .ok (.getfield 11, 3) := by decide +kernel
theorem d_Tree_meetRoots_105 : decode b_Tree_meetRoots 105 = .ok (.iconst 1, 1) := by decide +kernel
theorem d_Tree_meetRoots_106 : decode b_Tree_meetRoots 106 = .ok (.aaload, 1) := by decide +kernel
theorem d_Tree_meetRoots_107 : decode b_Tree_meetRoots 107 = .ok (.aload_n 2, 1) := by decide +kernel
theorem d_Tree_meetRoots_108 : decode b_Tree_meetRoots 108 = .ok (.getfield 11, 3) := by decide +kernel
theorem d_Tree_meetRoots_111 : decode b_Tree_meetRoots 111 = .ok (.iconst 1, 1) := by decide +kernel
theorem d_Tree_meetRoots_112 : decode b_Tree_meetRoots 112 = .ok (.aaload, 1) := by decide +kernel
theorem d_Tree_meetRoots_113 : decode b_Tree_meetRoots 113 = .ok (.iconst 0, 1) := by decide +kernel
theorem d_Tree_meetRoots_114 : decode b_Tree_meetRoots 114 = .ok (.aload_n 2, 1) := by decide +kernel
theorem d_Tree_meetRoots_115 : decode b_Tree_meetRoots 115 = .ok (.getfield 11, 3) := by decide +kernel
theorem d_Tree_meetRoots_118 : decode b_Tree_meetRoots 118 = .ok (.iconst 1, 1) := by decide +kernel
theorem d_Tree_meetRoots_119 : decode b_Tree_meetRoots 119 = .ok (.aaload, 1) := by decide +kernel
theorem d_Tree_meetRoots_120 : decode b_Tree_meetRoots 120 = .ok (.getfield 22, 3) := by decide +kernel
theorem d_Tree_meetRoots_123 : decode b_Tree_meetRoots 123 = .ok (.invokevirtual 36, 3) := by decide +kernel
theorem d_Tree_meetRoots_126 : decode b_Tree_meetRoots 126 = .ok (.aload_n 1, 1) := by decide +kernel
theorem d_Tree_meetRoots_127 : decode b_Tree_meetRoots 127 = .ok (.getfield 11, 3) := by decide +kernel
theorem d_Tree_meetRoots_130 : decode b_Tree_meetRoots 130 = .ok (.iconst 1, 1) := by decide +kernel
theorem d_Tree_meetRoots_131 : decode b_Tree_meetRoots 131 = .ok (.aaload, 1) := by decide +kernel
theorem d_Tree_meetRoots_132 : decode b_Tree_meetRoots 132 = .ok (.getfield 22, 3) := by decide +kernel
theorem d_Tree_meetRoots_135 : decode b_Tree_meetRoots 135 = .ok (.iconst 1, 1) := by decide +kernel
theorem d_Tree_meetRoots_136 : decode b_Tree_meetRoots 136 = .ok (.isub, 1) := by decide +kernel
theorem d_Tree_meetRoots_137 : decode b_Tree_meetRoots 137 = .ok (.istore_n 3, 1) := by decide +kernel
theorem d_Tree_meetRoots_138 : decode b_Tree_meetRoots 138 = .ok (.iconst 2, 1) := by decide +kernel
theorem d_Tree_meetRoots_139 : decode b_Tree_meetRoots 139 = .ok (.istore 4, 2) := by decide +kernel
theorem d_Tree_meetRoots_141 : decode b_Tree_meetRoots 141 = .ok (.aload_n 0, 1) := by decide +kernel
theorem d_Tree_meetRoots_142 : decode b_Tree_meetRoots 142 = .ok (.aload_n 1, 1) := by decide +kernel
theorem d_Tree_meetRoots_143 : decode b_Tree_meetRoots 143 = .ok (.getfield 18, 3) := by decide +kernel
theorem d_Tree_meetRoots_146 : decode b_Tree_meetRoots 146 = .ok (.aload_n 2, 1) := by decide +kernel
theorem d_Tree_meetRoots_147 : decode b_Tree_meetRoots 147 = .ok (.getfield 18, 3) := by decide +kernel
theorem d_Tree_meetRoots_150 : decode b_Tree_meetRoots 150 = .ok (.invokestatic 68, 3) := by decide +kernel
theorem d_Tree_meetRoots_153 : decode b_Tree_meetRoots 153 = .ok (.putfield 18, 3) := by decide +kernel
theorem d_Tree_meetRoots_156 : decode b_Tree_meetRoots 156 = .ok (.iconst 2, 1) := by decide +kernel
theorem d_Tree_meetRoots_157 : decode b_Tree_meetRoots 157 = .ok (.istore 5, 2) := by decide +kernel
theorem d_Tree_meetRoots_159 : decode b_Tree_meetRoots 159 = .ok (.iload 5, 2) := by decide +kernel
theorem d_Tree_meetRoots_161 : decode b_Tree_meetRoots 161 = .ok (.aload_n 0, 1) := by decide +kernel
theorem d_Tree_meetRoots_162 : decode b_Tree_meetRoots 162 = .ok (.getfield 18, 3) := by decide +kernel
theorem d_Tree_meetRoots_165 : decode b_Tree_meetRoots 165 = .ok (.if_icmp .gt 170, 3) := by decide +kernel
theorem d_Tree_meetRoots_168 : decode b_Tree_meetRoots 168 = .ok (.aload_n 1, 1) := by decide +kernel
theorem d_Tree_meetRoots_169 : decode b_Tree_meetRoots 169 = .ok (.getfield 11, 3) := by decide +kernel
theorem d_Tree_meetRoots_172 : decode b_Tree_meetRoots 172 = .ok (.iload 5, 2) := by decide +kernel
theorem d_Tree_meetRoots_174 : decode b_Tree_meetRoots 174 = .ok (.aaload, 1) := by decide +kernel
theorem d_Tree_meetRoots_175 : decode b_Tree_meetRoots 175 = .ok (.astore 6, 2) := by decide +kernel
theorem d_Tree_meetRoots_177 : decode b_Tree_meetRoots 177 = .ok (.aload_n 2, 1) := by decide +kernel
theorem d_Tree_meetRoots_178 : decode b_Tree_meetRoots 178 = .ok (.getfield 11, 3) := by decide +kernel
theorem d_Tree_meetRoots_181 : decode b_Tree_meetRoots 181 = .ok (.iload 5, 2) := by decide +kernel
theorem d_Tree_meetRoots_183 : decode b_Tree_meetRoots 183 = .ok (.aaload, 1) := by decide +kernel
theorem d_Tree_meetRoots_184 : decode b_Tree_meetRoots 184 = .ok (.astore 7, 2) := by decide +kernel
theorem d_Tree_meetRoots_186 : decode b_Tree_meetRoots 186 = .ok (.iload_n 3, 1) := by decide +kernel
theorem d_Tree_meetRoots_187 : decode b_Tree_meetRoots 187 = .ok (.aload 6, 2) := by decide +kernel
theorem d_Tree_meetRoots_189 : decode b_Tree_meetRoots 189 = .ok (.aload 6, 2) := by decide +kernel
theorem d_Tree_meetRoots_191 : decode b_Tree_meetRoots 191 = .ok (.getfield 22, 3) := by decide +kernel
theorem d_Tree_meetRoots_194 : decode b_Tree_meetRoots 194 = .ok (.iconst 1, 1) := by decide +kernel
theorem d_Tree_meetRoots_195 : decode b_Tree_meetRoots 195 = .ok (.isub, 1) := by decide +kernel
theorem d_Tree_meetRoots_196 : decode b_Tree_meetRoots 196 = .ok (.invokevirtual 25, 3) := by decide +kernel
theorem d_Tree_meetRoots_199 : decode b_Tree_meetRoots 199 = .ok (.invokestatic 74, 3) := by decide +kernel
theorem d_Tree_meetRoots_202 : decode b_Tree_meetRoots 202 = .ok (.isub, 1) := by decide +kernel
theorem d_Tree_meetRoots_203 : decode b_Tree_meetRoots 203 = .ok (.istore 8, 2) := by decide +kernel
theorem d_Tree_meetRoots_205 : decode b_Tree_meetRoots 205 = .ok (.iload_n 3, 1) := by decide +kernel
theorem d_Tree_meetRoots_206 : decode b_Tree_meetRoots 206 = .ok (.iload 4, 2) := by decide +kernel
theorem d_Tree_meetRoots_208 : decode b_Tree_meetRoots 208 = .ok (.iadd, 1) := by decide +kernel
theorem d_Tree_meetRoots_209 : decode b_Tree_meetRoots 209 = .ok (.aload 7, 2) := by decide +kernel
theorem d_Tree_meetRoots_211 : decode b_Tree_meetRoots 211 = .ok (.iconst 0, 1) := by decide +kernel
theorem d_Tree_meetRoots_212 : decode b_Tree_meetRoots 212 = .ok (.invokevirtual 25, 3) := by decide +kernel
theorem d_Tree_meetRoots_215 : decode b_Tree_meetRoots 215 = .ok (.invokestatic 74, 3) := by decide +kernel
theorem d_Tree_meetRoots_218 : decode b_Tree_meetRoots 218 = .ok (.iadd, 1) := by decide +kernel
theorem d_Tree_meetRoots_219 : decode b_Tree_meetRoots 219 = .ok (.istore 9, 2) := by decide +kernel
theorem d_Tree_meetRoots_221 : decode b_Tree_meetRoots 221 = .ok (.aload_n 0, 1) := by decide +kernel
theorem d_Tree_meetRoots_222 : decode b_Tree_meetRoots 222 = .ok (.getfield 11, 3) := by decide +kernel
theorem d_Tree_meetRoots_225 : decode b_Tree_meetRoots 225 = .ok (.iload 5, 2) := by decide +kernel
theorem d_Tree_meetRoots_227 : decode b_Tree_meetRoots 227 = .ok (.iconst 1, 1) := by decide +kernel
theorem d_Tree_meetRoots_228 : decode b_Tree_meetRoots 228 = .ok (.isub, 1) := by decide +kernel
theorem d_Tree_meetRoots_229 : decode b_Tree_meetRoots 229 = .ok (.aaload, 1) := by decide +kernel
theorem d_Tree_meetRoots_230 : decode b_Tree_meetRoots 230 = .ok (.iload 8, 2) := by decide +kernel
theorem d_Tree_meetRoots_232 : decode b_Tree_meetRoots 232 = .ok (.iload 9, 2) := by decide +kernel
theorem d_Tree_meetRoots_234 : decode b_Tree_meetRoots 234 = .ok (.invokevirtual 77, 3) := by decide +kernel
theorem d_Tree_meetRoots_237 : decode b_Tree_meetRoots 237 = .ok (.istore 10, 2) := by decide +kernel
theorem d_Tree_meetRoots_239 : decode b_Tree_meetRoots 239 = .ok (.aload 6, 2) := by decide +kernel
theorem d_Tree_meetRoots_241 : decode b_Tree_meetRoots 241 = .ok (.getfield 22, 3) := by decide +kernel
theorem d_Tree_meetRoots_244 : decode b_Tree_meetRoots 244 = .ok (.invokestatic 74, 3) := by decide +kernel
theorem d_Tree_meetRoots_247 : decode b_Tree_meetRoots 247 = .ok (.istore_n 3, 1) := by decide +kernel
theorem d_Tree_meetRoots_248 : decode b_Tree_meetRoots 248 = .ok (.iload 10, 2) := by decide +kernel
theorem d_Tree_meetRoots_250 : decode b_Tree_meetRoots 250 = .ok (.iconst 4, 1) := by decide +kernel
theorem d_Tree_meetRoots_251 : decode b_Tree_meetRoots 251 = .ok (.if_icmp .le 7, 3) := by decide +kernel
theorem d_Tree_meetRoots_254 : decode b_Tree_meetRoots 254 = .ok (.iconst 2, 1) := by decide +kernel
theorem d_Tree_meetRoots_255 : decode b_Tree_meetRoots 255 = .ok (.goto 4, 3) := by decide +kernel
theorem d_Tree_meetRoots_258 : decode b_Tree_meetRoots 258 = .ok (.iconst 1, 1) := by decide +kernel
theorem d_Tree_meetRoots_259 : decode b_Tree_meetRoots 259 = .ok (.istore 4, 2) := by decide +kernel
theorem d_Tree_meetRoots_261 : decode b_Tree_meetRoots 261 = .ok (.aload_n 0, 1) := by decide +kernel
theorem d_Tree_meetRoots_262 : decode b_Tree_meetRoots 262 = .ok (.getfield 11, 3) := by decide +kernel
theorem d_Tree_meetRoots_265 : decode b_Tree_meetRoots 265 = .ok (.iload 5, 2) := by decide +kernel
theorem d_Tree_meetRoots_267 : decode b_Tree_meetRoots 267 = .ok (.aaload, 1) := by decide +kernel
theorem d_Tree_meetRoots_268 : decode b_Tree_meetRoots 268 = .ok (.aload 6, 2) := by decide +kernel
theorem d_Tree_meetRoots_270 : decode b_Tree_meetRoots 270 = .ok (.iconst 0, 1) := by decide +kernel
theorem d_Tree_meetRoots_271 : decode b_Tree_meetRoots 271 = .ok (.iload_n 3, 1) := by decide +kernel
theorem d_Tree_meetRoots_272 : decode b_Tree_meetRoots 272 = .ok (.invokevirtual 36, 3) := by decide +kernel
theorem d_Tree_meetRoots_275 : decode b_Tree_meetRoots 275 = .ok (.aload_n 0, 1) := by decide +kernel
theorem d_Tree_meetRoots_276 : decode b_Tree_meetRoots 276 = .ok (.getfield 11, 3) := by decide +kernel
theorem d_Tree_meetRoots_279 : decode b_Tree_meetRoots 279 = .ok (.iload 5, 2) := by decide +kernel
theorem d_Tree_meetRoots_281 : decode b_Tree_meetRoots 281 = .ok (.aaload, 1) := by decide +kernel
theorem d_Tree_meetRoots_282 : decode b_Tree_meetRoots 282 = .ok (.iload 10, 2) := by decide +kernel
theorem d_Tree_meetRoots_284 : decode b_Tree_meetRoots 284 = .ok (.iconst 4, 1) := by decide +kernel
theorem d_Tree_meetRoots_285 : decode b_Tree_meetRoots 285 = .ok (.invokestatic 80, 3) := by decide +kernel
theorem d_Tree_meetRoots_288 : decode b_Tree_meetRoots 288 = .ok (.invokevirtual 40, 3) := by decide +kernel
theorem d_Tree_meetRoots_291 : decode b_Tree_meetRoots 291 = .ok (.iload 4, 2) := by decide +kernel
theorem d_Tree_meetRoots_293 : decode b_Tree_meetRoots 293 = .ok (.iconst 2, 1) := by decide +kernel
theorem d_Tree_meetRoots_294 : decode b_Tree_meetRoots 294 = .ok (.if_icmp .ne 17, 3) := by decide +kernel
theorem d_Tree_meetRoots_297 : decode b_Tree_meetRoots 297 = .ok (.aload_n 0, 1) := by decide +kernel
theorem d_Tree_meetRoots_298 : decode b_Tree_meetRoots 298 = .ok (.getfield 11, 3) := by decide +kernel
theorem d_Tree_meetRoots_301 : decode b_Tree_meetRoots 301 = .ok (.iload 5, 2) := by decide +kernel
theorem d_Tree_meetRoots_303 : decode b_Tree_meetRoots 303 = .ok (.aaload, 1) := by decide +kernel
theorem d_Tree_meetRoots_304 : decode b_Tree_meetRoots 304 = .ok (.iload 10, 2) := by decide +kernel
theorem d_Tree_meetRoots_306 : decode b_Tree_meetRoots 306 = .ok (.iconst 4, 1) := by decide +kernel
theorem d_Tree_meetRoots_307 : decode b_Tree_meetRoots 307 = .ok (.isub, 1) := by decide +kernel
theorem d_Tree_meetRoots_308 : decode b_Tree_meetRoots 308 = .ok (.invokevirtual 40, 3) := by decide +kernel
theorem d_Tree_meetRoots_311 : decode b_Tree_meetRoots 311 = .ok (.aload_n 0, 1) := by decide +kernel
theorem d_Tree_meetRoots_312 : decode b_Tree_meetRoots 312 = .ok (.getfield 11, 3) := by decide +kernel
theorem d_Tree_meetRoots_315 : decode b_Tree_meetRoots 315 = .ok (.iload 5, 2) := by decide +kernel
theorem d_Tree_meetRoots_317 : decode b_Tree_meetRoots 317 = .ok (.aaload, 1) := by decide +kernel
theorem d_Tree_meetRoots_318 : decode b_Tree_meetRoots 318 = .ok (.aload 7, 2) := by decide +kernel
theorem d_Tree_meetRoots_320 : decode b_Tree_meetRoots 320 = .ok (.iconst 1, 1) := by decide +kernel
theorem d_Tree_meetRoots_321 : decode b_Tree_meetRoots 321 = .ok (.aload 7, 2) := by decide +kernel
theorem d_Tree_meetRoots_323 : decode b_Tree_meetRoots 323 = .ok (.getfield 22, 3) := by decide +kernel
theorem d_Tree_meetRoots_326 : decode b_Tree_meetRoots 326 = .ok (.invokevirtual 36, 3) := by decide +kernel
theorem d_Tree_meetRoots_329 : decode b_Tree_meetRoots 329 = .ok (.iinc 5 1, 3) := by decide +kernel
theorem d_Tree_meetRoots_332 : decode b_Tree_meetRoots 332 = .ok (.goto (-173), 3) := by decide +kernel
theorem d_Tree_meetRoots_335 : decode b_Tree_meetRoots 335 = .ok (.iload 4, 2) := by decide +kernel
theorem d_Tree_meetRoots_337 : decode b_Tree_meetRoots 337 = .ok (.iconst 2, 1) := by decide +kernel
theorem d_Tree_meetRoots_338 : decode b_Tree_meetRoots 338 = .ok (.if_icmp .ne 7, 3) := by decide +kernel
theorem d_Tree_meetRoots_341 : decode b_Tree_meetRoots 341 = .ok (.aload_n 0, 1) := by decide +kernel
theorem d_Tree_meetRoots_342 : decode b_Tree_meetRoots 342 = .ok (.invokevirtual 44, 3) := by decide +kernel
theorem d_Tree_meetRoots_345 : decode b_Tree_meetRoots 345 = .ok (.return_, 1) := by decide +kernel
theorem d_Tree_allButOne_0 : decode b_Tree_allButOne 0 = .ok (.iload_n 0, 1) := by decide +kernel
theorem d_Tree_allButOne_1 : decode b_Tree_allButOne 1 = .ok (.iconst 1, 1) := by decide +kernel
theorem d_Tree_allButOne_2 : decode b_Tree_allButOne 2 = .ok (.isub, 1) := by decide +kernel
theorem d_Tree_allButOne_3 : decode b_Tree_allButOne 3 = .ok (.iconst 0, 1) := by decide +kernel
theorem d_Tree_allButOne_4 : decode b_Tree_allButOne 4 = .ok (.invokestatic 68, 3) := by decide +kernel
theorem d_Tree_allButOne_7 : decode b_Tree_allButOne 7 = .ok (.ireturn, 1) := by decide +kernel
theorem d_Row_pack_0 : decode b_Row_pack 0 = .ok (.aload_n 0, 1) := by decide +kernel
theorem d_Row_pack_1 : decode b_Row_pack 1 = .ok (.iload_n 2, 1) := by decide +kernel
theorem d_Row_pack_2 : decode b_Row_pack 2 = .ok (.invokevirtual 38, 3) := by decide +kernel
theorem d_Row_pack_5 : decode b_Row_pack 5 = .ok (.aload_n 0, 1) := by decide +kernel
theorem d_Row_pack_6 : decode b_Row_pack 6 = .ok (.iload_n 1, 1) := by decide +kernel
theorem d_Row_pack_7 : decode b_Row_pack 7 = .ok (.invokevirtual 38, 3) := by decide +kernel
theorem d_Row_pack_10 : decode b_Row_pack 10 = .ok (.isub, 1) := by decide +kernel
theorem d_Row_pack_11 : decode b_Row_pack 11 = .ok (.istore_n 3, 1) := by decide +kernel
theorem d_Row_pack_12 : decode b_Row_pack 12 = .ok (.iload_n 2, 1) := by decide +kernel
theorem d_Row_pack_13 : decode b_Row_pack 13 = .ok (.iload_n 1, 1) := by decide +kernel
theorem d_Row_pack_14 : decode b_Row_pack 14 = .ok (.isub, 1) := by decide +kernel
theorem d_Row_pack_15 : decode b_Row_pack 15 = .ok (.istore 4, 2) := by decide +kernel
theorem d_Row_pack_17 : decode b_Row_pack 17 = .ok (.iload 4, 2) := by decide +kernel
theorem d_Row_pack_19 : decode b_Row_pack 19 = .ok (.iload_n 3, 1) := by decide +kernel
theorem d_Row_pack_20 : decode b_Row_pack 20 = .ok (.iconst 4, 1) := by decide +kernel
theorem d_Row_pack_21 : decode b_Row_pack 21 = .ok (.iadd, 1) := by decide +kernel
theorem d_Row_pack_22 : decode b_Row_pack 22 = .ok (.iconst 1, 1) := by decide +kernel
theorem d_Row_pack_23 : decode b_Row_pack 23 = .ok (.isub, 1) := by decide +kernel
theorem d_Row_pack_24 : decode b_Row_pack 24 = .ok (.iconst 4, 1) := by decide +kernel
theorem d_Row_pack_25 : decode b_Row_pack 25 = .ok (.idiv, 1) := by decide +kernel
theorem d_Row_pack_26 : decode b_Row_pack 26 = .ok (.iconst 1, 1) := by decide +kernel
theorem d_Row_pack_27 : decode b_Row_pack 27 = .ok (.iadd, 1) := by decide +kernel
theorem d_Row_pack_28 : decode b_Row_pack 28 = .ok (.if_icmp .le 18, 3) := by decide +kernel
theorem d_Row_pack_31 : decode b_Row_pack 31 = .ok (.aload_n 0, 1) := by decide +kernel
theorem d_Row_pack_32 : decode b_Row_pack 32 = .ok (.iload_n 1, 1) := by decide +kernel
theorem d_Row_pack_33 : decode b_Row_pack 33 = .ok (.iload_n 1, 1) := by decide +kernel
theorem d_Row_pack_34 : decode b_Row_pack 34 = .ok (.iload 4, 2) := by decide +kernel
theorem d_Row_pack_36 : decode b_Row_pack 36 = .ok (.iadd, 1) := by decide +kernel
theorem d_Row_pack_37 : decode b_Row_pack 37 = .ok (.invokevirtual 42, 3) := by decide +kernel
theorem d_Row_pack_40 : decode b_Row_pack 40 = .ok (.iinc 4 (-1), 3) := by decide +kernel
theorem d_Row_pack_43 : decode b_Row_pack 43 = .ok (.goto (-26), 3) := by decide +kernel
theorem d_Row_pack_46 : decode b_Row_pack 46 = .ok (.iload 4, 2) := by decide +kernel
theorem d_Row_pack_48 : decode b_Row_pack 48 = .ok (.ireturn, 1) := by decide +kernel
theorem d_Row_sumBefore_0 : decode b_Row_sumBefore 0 = .ok (.iconst 0, 1) := by decide +kernel
theorem d_Row_sumBefore_1 : decode b_Row_sumBefore 1 = .ok (.istore_n 2, 1) := by decide +kernel
theorem d_Row_sumBefore_2 : decode b_Row_sumBefore 2 = .ok (.iconst 0, 1) := by decide +kernel
theorem d_Row_sumBefore_3 : decode b_Row_sumBefore 3 = .ok (.istore_n 3, 1) := by decide +kernel
theorem d_Row_sumBefore_4 : decode b_Row_sumBefore 4 = .ok (.iload_n 3, 1) := by decide +kernel
theorem d_Row_sumBefore_5 : decode b_Row_sumBefore 5 = .ok (.iload_n 1, 1) := by decide +kernel
theorem d_Row_sumBefore_6 : decode b_Row_sumBefore 6 = .ok (.if_icmp .ge 26, 3) := by decide +kernel
theorem d_Row_sumBefore_9 : decode b_Row_sumBefore 9 = .ok (.iload_n 3, 1) := by decide +kernel
theorem d_Row_sumBefore_10 : decode b_Row_sumBefore 10 = .ok (.aload_n 0, 1) := by decide +kernel
theorem d_Row_sumBefore_11 : decode b_Row_sumBefore 11 = .ok (.getfield 15, 3) := by decide +kernel
theorem d_Row_sumBefore_14 : decode b_Row_sumBefore 14 = .ok (.if_icmp .ge 18, 3) := by decide +kernel
theorem d_Row_sumBefore_17 : decode b_Row_sumBefore 17 = .ok (.iload_n 2, 1) := by decide +kernel
theorem d_Row_sumBefore_18 : decode b_Row_sumBefore 18 = .ok (.aload_n 0, 1) := by decide +kernel
theorem d_Row_sumBefore_19 : decode b_Row_sumBefore 19 = .ok (.getfield 9, 3) := by decide +kernel
theorem d_Row_sumBefore_22 : decode b_Row_sumBefore 22 = .ok (.iload_n 3, 1) := by decide +kernel
theorem d_Row_sumBefore_23 : decode b_Row_sumBefore 23 = .ok (.iaload, 1) := by decide +kernel
theorem d_Row_sumBefore_24 : decode b_Row_sumBefore 24 = .ok (.iadd, 1) := by decide +kernel
theorem d_Row_sumBefore_25 : decode b_Row_sumBefore 25 = .ok (.istore_n 2, 1) := by decide +kernel
theorem d_Row_sumBefore_26 : decode b_Row_sumBefore 26 = .ok (.iinc 3 1, 3) := by decide +kernel
theorem d_Row_sumBefore_29 : decode b_Row_sumBefore 29 = .ok (.goto (-25), 3) := by decide +kernel
theorem d_Row_sumBefore_32 : decode b_Row_sumBefore 32 = .ok (.iload_n 2, 1) := by decide +kernel
theorem d_Row_sumBefore_33 : decode b_Row_sumBefore 33 = .ok (.ireturn, 1) := by decide +kernel
theorem d_Row_saveOneNode_0 : decode b_Row_saveOneNode 0 = .ok (.iload_n 1, 1) := by decide +kernel
theorem d_Row_saveOneNode_1 : decode b_Row_saveOneNode 1 = .ok (.istore_n 3, 1) := by decide +kernel
theorem d_Row_saveOneNode_2 : decode b_Row_saveOneNode 2 = .ok (.iload_n 3, 1) := by decide +kernel
theorem d_Row_saveOneNode_3 : decode b_Row_saveOneNode 3 = .ok (.iload_n 2, 1) := by decide +kernel
theorem d_Row_saveOneNode_4 : decode b_Row_saveOneNode 4 = .ok (.iconst 2, 1) := by decide +kernel
theorem d_Row_saveOneNode_5 : decode b_Row_saveOneNode 5 = .ok (.isub, 1) := by decide +kernel
theorem d_Row_saveOneNode_6 : decode b_Row_saveOneNode 6 = .ok (.if_icmp .ge 18, 3) := by decide +kernel
theorem d_Row_saveOneNode_9 : decode b_Row_saveOneNode 9 = .ok (.aload_n 0, 1) := by decide +kernel
theorem d_Row_saveOneNode_10 : decode b_Row_saveOneNode 10 = .ok (.iload_n 3, 1) := by decide +kernel
theorem d_Row_saveOneNode_11 : decode b_Row_saveOneNode 11 = .ok (.invokevirtual 46, 3) := by decide +kernel
theorem d_Row_saveOneNode_14 : decode b_Row_saveOneNode 14 = .ok (.iconst 4, 1) := by decide +kernel
theorem d_Row_saveOneNode_15 : decode b_Row_saveOneNode 15 = .ok (.if_icmp .lt 9, 3) := by decide +kernel
theorem d_Row_saveOneNode_18 : decode b_Row_saveOneNode 18 = .ok (.iinc 3 1, 3) := by decide +kernel
theorem d_Row_saveOneNode_21 : decode b_Row_saveOneNode 21 = .ok (.goto (-19), 3) := by decide +kernel
theorem d_Row_saveOneNode_24 : decode b_Row_saveOneNode 24 = .ok (.iload_n 3, 1) := by decide +kernel
theorem d_Row_saveOneNode_25 : decode b_Row_saveOneNode 25 = .ok (.iconst 1, 1) := by decide +kernel
theorem d_Row_saveOneNode_26 : decode b_Row_saveOneNode 26 = .ok (.iadd, 1) := by decide +kernel
theorem d_Row_saveOneNode_27 : decode b_Row_saveOneNode 27 = .ok (.istore 4, 2) := by decide +kernel
theorem d_Row_saveOneNode_29 : decode b_Row_saveOneNode 29 = .ok (.aload_n 0, 1) := by decide +kernel
theorem d_Row_saveOneNode_30 : decode b_Row_saveOneNode 30 = .ok (.iload_n 3, 1) := by decide +kernel
theorem d_Row_saveOneNode_31 : decode b_Row_saveOneNode 31 = .ok (.invokevirtual 46, 3) := by decide +kernel
theorem d_Row_saveOneNode_34 : decode b_Row_saveOneNode 34 = .ok (.aload_n 0, 1) := by decide +kernel
theorem d_Row_saveOneNode_35 : decode b_Row_saveOneNode 35 = .ok (.iload 4, 2) := by decide +kernel
theorem d_Row_saveOneNode_37 : decode b_Row_saveOneNode 37 = .ok (.invokevirtual 46, 3) := by decide +kernel
theorem d_Row_saveOneNode_40 : decode b_Row_saveOneNode 40 = .ok (.iadd, 1) := by decide +kernel
theorem d_Row_saveOneNode_41 : decode b_Row_saveOneNode 41 = .ok (.istore 5, 2) := by decide +kernel
theorem d_Row_saveOneNode_43 : decode b_Row_saveOneNode 43 = .ok (.iload 4, 2) := by decide +kernel
theorem d_Row_saveOneNode_45 : decode b_Row_saveOneNode 45 = .ok (.iload_n 2, 1) := by decide +kernel
theorem d_Row_saveOneNode_46 : decode b_Row_saveOneNode 46 = .ok (.iconst 1, 1) := by decide +kernel
theorem d_Row_saveOneNode_47 : decode b_Row_saveOneNode 47 = .ok (.isub, 1) := by decide +kernel
theorem d_Row_saveOneNode_48 : decode b_Row_saveOneNode 48 = .ok (.if_icmp .ge 31, 3) := by decide +kernel
theorem d_Row_saveOneNode_51 : decode b_Row_saveOneNode 51 = .ok (.iload 5, 2) := by decide +kernel
theorem d_Row_saveOneNode_53 : decode b_Row_saveOneNode 53 = .ok (.iconst 4, 1) := by decide +kernel
theorem d_Row_saveOneNode_54 : decode b_Row_saveOneNode 54 = .ok (.iload 4, 2) := by decide +kernel
theorem d_Row_saveOneNode_56 : decode b_Row_saveOneNode 56 = .ok (.iload_n 3, 1) := by decide +kernel
theorem d_Row_saveOneNode_57 : decode b_Row_saveOneNode 57 = .ok (.isub, 1) := by decide +kernel
theorem d_Row_saveOneNode_58 : decode b_Row_saveOneNode 58 = .ok (.imul, 1) := by decide +kernel
theorem d_Row_saveOneNode_59 : decode b_Row_saveOneNode 59 = .ok (.if_icmp .le 20, 3) := by decide +kernel
theorem d_Row_saveOneNode_62 : decode b_Row_saveOneNode 62 = .ok (.iinc 4 1, 3) := by decide +kernel
theorem d_Row_saveOneNode_65 : decode b_Row_saveOneNode 65 = .ok (.iload 5, 2) := by decide +kernel
theorem d_Row_saveOneNode_67 : decode b_Row_saveOneNode 67 = .ok (.aload_n 0, 1) := by decide +kernel
theorem d_Row_saveOneNode_68 : decode b_Row_saveOneNode 68 = .ok (.iload 4, 2) := by decide +kernel
theorem d_Row_saveOneNode_70 : decode b_Row_saveOneNode 70 = .ok (.invokevirtual 46, 3) := by decide +kernel
theorem d_Row_saveOneNode_73 : decode b_Row_saveOneNode 73 = .ok (.iadd, 1) := by decide +kernel
theorem d_Row_saveOneNode_74 : decode b_Row_saveOneNode 74 = .ok (.istore 5, 2) := by decide +kernel
theorem d_Row_saveOneNode_76 : decode b_Row_saveOneNode 76 = .ok (.goto (-33), 3) := by decide +kernel
theorem d_Row_saveOneNode_79 : decode b_Row_saveOneNode 79 = .ok (.aload_n 0, 1) := by decide +kernel
theorem d_Row_saveOneNode_80 : decode b_Row_saveOneNode 80 = .ok (.iload 4, 2) := by decide +kernel
theorem d_Row_saveOneNode_82 : decode b_Row_saveOneNode 82 = .ok (.invokevirtual 49, 3) := by decide +kernel
theorem d_Row_saveOneNode_85 : decode b_Row_saveOneNode 85 = .ok (.iload_n 3, 1) := by decide +kernel
theorem d_Row_saveOneNode_86 : decode b_Row_saveOneNode 86 = .ok (.istore 6, 2) := by decide +kernel
theorem d_Row_saveOneNode_88 : decode b_Row_saveOneNode 88 = .ok (.iload 6, 2) := by decide +kernel
theorem d_Row_saveOneNode_90 : decode b_Row_saveOneNode 90 = .ok (.iload 4, 2) := by decide +kernel
theorem d_Row_saveOneNode_92 : decode b_Row_saveOneNode 92 = .ok (.if_icmp .ge 41, 3) := by decide +kernel
theorem d_Row_saveOneNode_95 : decode b_Row_saveOneNode 95 = .ok (.iload 6, 2) := by decide +kernel
theorem d_Row_saveOneNode_97 : decode b_Row_saveOneNode 97 = .ok (.iload 4, 2) := by decide +kernel
theorem d_Row_saveOneNode_99 : decode b_Row_saveOneNode 99 = .ok (.iconst 1, 1) := by decide +kernel
theorem d_Row_saveOneNode_100 : decode b_Row_saveOneNode 100 = .ok (.isub, 1) := by decide +kernel
theorem d_Row_saveOneNode_101 : decode b_Row_saveOneNode 101 = .ok (.if_icmp .ge 7, 3) := by decide +kernel
theorem d_Row_saveOneNode_104 : decode b_Row_saveOneNode 104 = .ok (.iconst 4, 1) := by decide +kernel
theorem d_Row_saveOneNode_105 : decode b_Row_saveOneNode 105 = .ok (.goto 5, 3) := by decide +kernel
theorem d_Row_saveOneNode_108 : decode b_Row_saveOneNode 108 = .ok (.iload 5, 2) := by decide +kernel
theorem d_Row_saveOneNode_110 : decode b_Row_saveOneNode 110 = .ok (.istore 7, 2) := by decide +kernel
theorem d_Row_saveOneNode_112 : decode b_Row_saveOneNode 112 = .ok (.aload_n 0, 1) := by decide +kernel
theorem d_Row_saveOneNode_113 : decode b_Row_saveOneNode 113 = .ok (.iload 6, 2) := by decide +kernel
theorem d_Row_saveOneNode_115 : decode b_Row_saveOneNode 115 = .ok (.iload 7, 2) := by decide +kernel
theorem d_Row_saveOneNode_117 : decode b_Row_saveOneNode 117 = .ok (.invokevirtual 52, 3) := by decide +kernel
theorem d_Row_saveOneNode_120 : decode b_Row_saveOneNode 120 = .ok (.iload 5, 2) := by decide +kernel
theorem d_Row_saveOneNode_122 : decode b_Row_saveOneNode 122 = .ok (.iload 7, 2) := by decide +kernel
theorem d_Row_saveOneNode_124 : decode b_Row_saveOneNode 124 = .ok (.isub, 1) := by decide +kernel
theorem d_Row_saveOneNode_125 : decode b_Row_saveOneNode 125 = .ok (.istore 5, 2) := by decide +kernel
theorem d_Row_saveOneNode_127 : decode b_Row_saveOneNode 127 = .ok (.iinc 6 1, 3) := by decide +kernel
theorem d_Row_saveOneNode_130 : decode b_Row_saveOneNode 130 = .ok (.goto (-42), 3) := by decide +kernel
theorem d_Row_saveOneNode_133 : decode b_Row_saveOneNode 133 = .ok (.return_, 1) := by decide +kernel
theorem d_Row_remove_0 : decode b_Row_remove 0 = .ok (.iload_n 1, 1) := by decide +kernel
theorem d_Row_remove_1 : decode b_Row_remove 1 = .ok (.ifCond .lt 44, 3) := by decide +kernel
theorem d_Row_remove_4 : decode b_Row_remove 4 = .ok (.iload_n 1, 1) := by decide +kernel
theorem d_Row_remove_5 : decode b_Row_remove 5 = .ok (.aload_n 0, 1) := by decide +kernel
theorem d_Row_remove_6 : decode b_Row_remove 6 = .ok (.getfield 15, 3) := by decide +kernel
theorem d_Row_remove_9 : decode b_Row_remove 9 = .ok (.if_icmp .ge 36, 3) := by decide +kernel
theorem d_Row_remove_12 : decode b_Row_remove 12 = .ok (.aload_n 0, 1) := by decide +kernel
theorem d_Row_remove_13 : decode b_Row_remove 13 = .ok (.getfield 9, 3) := by decide +kernel
theorem d_Row_remove_16 : decode b_Row_remove 16 = .ok (.iload_n 1, 1) := by decide +kernel
theorem d_Row_remove_17 : decode b_Row_remove 17 = .ok (.iconst 1, 1) := by decide +kernel
theorem d_Row_remove_18 : decode b_Row_remove 18 = .ok (.iadd, 1) := by decide +kernel
theorem d_Row_remove_19 : decode b_Row_remove 19 = .ok (.aload_n 0, 1) := by decide +kernel
theorem d_Row_remove_20 : decode b_Row_remove 20 = .ok (.getfield 9, 3) := by decide +kernel
theorem d_Row_remove_23 : decode b_Row_remove 23 = .ok (.iload_n 1, 1) := by decide +kernel
theorem d_Row_remove_24 : decode b_Row_remove 24 = .ok (.aload_n 0, 1) := by decide +kernel
theorem d_Row_remove_25 : decode b_Row_remove 25 = .ok (.getfield 15, 3) := by decide +kernel
theorem d_Row_remove_28 : decode b_Row_remove 28 = .ok (.iload_n 1, 1) := by decide +kernel
theorem d_Row_remove_29 : decode b_Row_remove 29 = .ok (.isub, 1) := by decide +kernel
theorem d_Row_remove_30 : decode b_Row_remove 30 = .ok (.iconst 1, 1) := by decide +kernel
theorem d_Row_remove_31 : decode b_Row_remove 31 = .ok (.isub, 1) := by decide +kernel
theorem d_Row_remove_32 : decode b_Row_remove 32 = .ok (.invokestatic 19, 3) := by decide +kernel
theorem d_Row_remove_35 : decode b_Row_remove 35 = .ok (.aload_n 0, 1) := by decide +kernel
theorem d_Row_remove_36 : decode b_Row_remove 36 = .ok (.dup, 1) := by decide +kernel
theorem d_Row_remove_37 : decode b_Row_remove 37 = .ok (.getfield 15, 3) := by decide +kernel
theorem d_Row_remove_40 : decode b_Row_remove 40 = .ok (.iconst 1, 1) := by decide +kernel
theorem d_Row_remove_41 : decode b_Row_remove 41 = .ok (.isub, 1) := by decide +kernel
theorem d_Row_remove_42 : decode b_Row_remove 42 = .ok (.putfield 15, 3) := by decide +kernel
theorem d_Row_remove_45 : decode b_Row_remove 45 = .ok (.return_, 1) := by decide +kernel
theorem d_Tree_cut_0 : decode b_Tree_cut 0 = .ok (.aload_n 0, 1) := by decide +kernel
theorem d_Tree_cut_1 : decode b_Tree_cut 1 = .ok (.getfield 11, 3) := by decide +kernel
theorem d_Tree_cut_4 : decode b_Tree_cut 4 = .ok (.iconst 0, 1) := by decide +kernel
theorem d_Tree_cut_5 : decode b_Tree_cut 5 = .ok (.aaload, 1) := by decide +kernel
theorem d_Tree_cut_6 : decode b_Tree_cut 6 = .ok (.invokevirtual 33, 3) := by decide +kernel
theorem d_Tree_cut_9 : decode b_Tree_cut 9 = .ok (.aload_n 0, 1) := by decide +kernel
theorem d_Tree_cut_10 : decode b_Tree_cut 10 = .ok (.getfield 11, 3) := by decide +kernel
theorem d_Tree_cut_13 : decode b_Tree_cut 13 = .ok (.iconst 0, 1) := by decide +kernel
theorem d_Tree_cut_14 : decode b_Tree_cut 14 = .ok (.aaload, 1) := by decide +kernel
theorem d_Tree_cut_15 : decode b_Tree_cut 15 = .ok (.aload_n 1, 1) := by decide +kernel
theorem d_Tree_cut_16 : decode b_Tree_cut 16 = .ok (.getfield 11, 3) := by decide +kernel
theorem d_Tree_cut_19 : decode b_Tree_cut 19 = .ok (.iconst 0, 1) := by decide +kernel
theorem d_Tree_cut_20 : decode b_Tree_cut 20 = .ok (.aaload, 1) := by decide +kernel
theorem d_Tree_cut_21 : decode b_Tree_cut 21 = .ok (.iload_n 2, 1) := by decide +kernel
theorem d_Tree_cut_22 : decode b_Tree_cut 22 = .ok (.iload_n 3, 1) := by decide +kernel
theorem d_Tree_cut_23 : decode b_Tree_cut 23 = .ok (.invokevirtual 36, 3) := by decide +kernel
theorem d_Tree_cut_26 : decode b_Tree_cut 26 = .ok (.iload_n 2, 1) := by decide +kernel
theorem d_Tree_cut_27 : decode b_Tree_cut 27 = .ok (.istore 4, 2) := by decide +kernel
theorem d_Tree_cut_29 : decode b_Tree_cut 29 = .ok (.iload_n 3, 1) := by decide +kernel
theorem d_Tree_cut_30 : decode b_Tree_cut 30 = .ok (.istore 5, 2) := by decide +kernel
theorem d_Tree_cut_32 : decode b_Tree_cut 32 = .ok (.iconst 1, 1) := by decide +kernel
theorem d_Tree_cut_33 : decode b_Tree_cut 33 = .ok (.istore 6, 2) := by decide +kernel
theorem d_Tree_cut_35 : decode b_Tree_cut 35 = .ok (.iload 6, 2) := by decide +kernel
theorem d_Tree_cut_37 : decode b_Tree_cut 37 = .ok (.aload_n 0, 1) := by decide +kernel
theorem d_Tree_cut_38 : decode b_Tree_cut 38 = .ok (.getfield 11, 3) := by decide +kernel
theorem d_Tree_cut_41 : decode b_Tree_cut 41 = .ok (.arraylength, 1) := by decide +kernel
theorem d_Tree_cut_42 : decode b_Tree_cut 42 = .ok (.if_icmp .ge 68, 3) := by decide +kernel
theorem d_Tree_cut_45 : decode b_Tree_cut 45 = .ok (.aload_n 1, 1) := by decide +kernel
theorem d_Tree_cut_46 : decode b_Tree_cut 46 = .ok (.getfield 11, 3) := by decide +kernel
theorem d_Tree_cut_49 : decode b_Tree_cut 49 = .ok (.iload 6, 2) := by decide +kernel
theorem d_Tree_cut_51 : decode b_Tree_cut 51 = .ok (.aaload, 1) := by decide +kernel
theorem d_Tree_cut_52 : decode b_Tree_cut 52 = .ok (.astore 7, 2) := by decide +kernel
theorem d_Tree_cut_54 : decode b_Tree_cut 54 = .ok (.aload_n 0, 1) := by decide +kernel
theorem d_Tree_cut_55 : decode b_Tree_cut 55 = .ok (.getfield 11, 3) := by decide +kernel
theorem d_Tree_cut_58 : decode b_Tree_cut 58 = .ok (.iload 6, 2) := by decide +kernel
theorem d_Tree_cut_60 : decode b_Tree_cut 60 = .ok (.aaload, 1) := by decide +kernel
theorem d_Tree_cut_61 : decode b_Tree_cut 61 = .ok (.invokevirtual 33, 3) := by decide +kernel
theorem d_Tree_cut_64 : decode b_Tree_cut 64 = .ok (.aload_n 0, 1) := by decide +kernel
theorem d_Tree_cut_65 : decode b_Tree_cut 65 = .ok (.getfield 11, 3) := by decide +kernel
theorem d_Tree_cut_68 : decode b_Tree_cut 68 = .ok (.iload 6, 2) := by decide +kernel
theorem d_Tree_cut_70 : decode b_Tree_cut 70 = .ok (.aaload, 1) := by decide +kernel
theorem d_Tree_cut_71 : decode b_Tree_cut 71 = .ok (.aload 7, 2) := by decide +kernel
theorem d_Tree_cut_73 : decode b_Tree_cut 73 = .ok (.iload 4, 2) := by decide +kernel
theorem d_Tree_cut_75 : decode b_Tree_cut 75 = .ok (.iload 5, 2) := by decide +kernel
theorem d_Tree_cut_77 : decode b_Tree_cut 77 = .ok (.invokevirtual 50, 3) := by decide +kernel
theorem d_Tree_cut_80 : decode b_Tree_cut 80 = .ok (.aload 7, 2) := by decide +kernel
theorem d_Tree_cut_82 : decode b_Tree_cut 82 = .ok (.iload 4, 2) := by decide +kernel
theorem d_Tree_cut_84 : decode b_Tree_cut 84 = .ok (.invokevirtual 53, 3) := by decide +kernel
theorem d_Tree_cut_87 : decode b_Tree_cut 87 = .ok (.istore 4, 2) := by decide +kernel
theorem d_Tree_cut_89 : decode b_Tree_cut 89 = .ok (.iload 4, 2) := by decide +kernel
theorem d_Tree_cut_91 : decode b_Tree_cut 91 = .ok (.aload_n 0, 1) := by decide +kernel
theorem d_Tree_cut_92 : decode b_Tree_cut 92 = .ok (.getfield 11, 3) := by decide +kernel
theorem d_Tree_cut_95 : decode b_Tree_cut 95 = .ok (.iload 6, 2) := by decide +kernel
theorem d_Tree_cut_97 : decode b_Tree_cut 97 = .ok (.aaload, 1) := by decide +kernel
theorem d_Tree_cut_98 : decode b_Tree_cut 98 = .ok (.getfield 22, 3) := by decide +kernel
theorem d_Tree_cut_101 : decode b_Tree_cut 101 = .ok (.iadd, 1) := by decide +kernel
theorem d_Tree_cut_102 : decode b_Tree_cut 102 = .ok (.istore 5, 2) := by decide +kernel
theorem d_Tree_cut_104 : decode b_Tree_cut 104 = .ok (.iinc 6 1, 3) := by decide +kernel
theorem d_Tree_cut_107 : decode b_Tree_cut 107 = .ok (.goto (-72), 3) := by decide +kernel
theorem d_Tree_cut_110 : decode b_Tree_cut 110 = .ok (.aload_n 0, 1) := by decide +kernel
theorem d_Tree_cut_111 : decode b_Tree_cut 111 = .ok (.aload_n 0, 1) := by decide +kernel
theorem d_Tree_cut_112 : decode b_Tree_cut 112 = .ok (.getfield 11, 3) := by decide +kernel
theorem d_Tree_cut_115 : decode b_Tree_cut 115 = .ok (.iconst 0, 1) := by decide +kernel
theorem d_Tree_cut_116 : decode b_Tree_cut 116 = .ok (.aaload, 1) := by decide +kernel
theorem d_Tree_cut_117 : decode b_Tree_cut 117 = .ok (.getfield 22, 3) := by decide +kernel
theorem d_Tree_cut_120 : decode b_Tree_cut 120 = .ok (.ifCond .ne 7, 3) := by decide +kernel
theorem d_Tree_cut_123 : decode b_Tree_cut 123 = .ok (.iconst 0, 1) := by decide +kernel
theorem d_Tree_cut_124 : decode b_Tree_cut 124 = .ok (.goto 7, 3) := by decide +kernel
theorem d_Tree_cut_127 : decode b_Tree_cut 127 = .ok (.aload_n 1, 1) := by decide +kernel
theorem d_Tree_cut_128 : decode b_Tree_cut 128 = .ok (.getfield 18, 3) := by decide +kernel
theorem d_Tree_cut_131 : decode b_Tree_cut 131 = .ok (.putfield 18, 3) := by decide +kernel
theorem d_Tree_cut_134 : decode b_Tree_cut 134 = .ok (.aload_n 0, 1) := by decide +kernel
theorem d_Tree_cut_135 : decode b_Tree_cut 135 = .ok (.getfield 18, 3) := by decide +kernel
theorem d_Tree_cut_138 : decode b_Tree_cut 138 = .ok (.iconst 1, 1) := by decide +kernel
theorem d_Tree_cut_139 : decode b_Tree_cut 139 = .ok (.if_icmp .le 45, 3) := by decide +kernel
theorem d_Tree_cut_142 : decode b_Tree_cut 142 = .ok (.aload_n 0, 1) := by decide +kernel
theorem d_Tree_cut_143 : decode b_Tree_cut 143 = .ok (.getfield 11, 3) := by decide +kernel
theorem d_Tree_cut_146 : decode b_Tree_cut 146 = .ok (.aload_n 0, 1) := by decide +kernel
theorem d_Tree_cut_147 : decode b_Tree_cut 147 = .ok (.getfield 18, 3) := by decide +kernel
theorem d_Tree_cut_150 : decode b_Tree_cut 150 = .ok (.aaload, 1) := by decide +kernel
theorem d_Tree_cut_151 : decode b_Tree_cut 151 = .ok (.iconst 0, 1) := by decide +kernel
theorem d_Tree_cut_152 : decode b_Tree_cut 152 = .ok (.invokevirtual 25, 3) := by decide +kernel
theorem d_Tree_cut_155 : decode b_Tree_cut 155 = .ok (.iconst 1, 1) := by decide +kernel
theorem d_Tree_cut_156 : decode b_Tree_cut 156 = .ok (.if_icmp .ne 28, 3) := by decide +kernel
theorem d_Tree_cut_159 : decode b_Tree_cut 159 = .ok (.aload_n 0, 1) := by decide +kernel
theorem d_Tree_cut_160 : decode b_Tree_cut 160 = .ok (.getfield 11, 3) := by decide +kernel
theorem d_Tree_cut_163 : decode b_Tree_cut 163 = .ok (.aload_n 0, 1) := by decide +kernel
theorem d_Tree_cut_164 : decode b_Tree_cut 164 = .ok (.getfield 18, 3) := by decide +kernel
theorem d_Tree_cut_167 : decode b_Tree_cut 167 = .ok (.aaload, 1) := by decide +kernel
theorem d_Tree_cut_168 : decode b_Tree_cut 168 = .ok (.invokevirtual 33, 3) := by decide +kernel
theorem d_Tree_cut_171 : decode b_Tree_cut 171 = .ok (.aload_n 0, 1) := by decide +kernel
theorem d_Tree_cut_172 : decode b_Tree_cut 172 = .ok (.dup, 1) := by decide +kernel
theorem d_Tree_cut_173 : decode b_Tree_cut 173 = .ok (.getfield 18, 3) := by decide +kernel
theorem d_Tree_cut_176 : decode b_Tree_cut 176 = .ok (.iconst 1, 1) := by decide +kernel
theorem d_Tree_cut_177 : decode b_Tree_cut 177 = .ok (.isub, 1) := by decide +kernel
theorem d_Tree_cut_178 : decode b_Tree_cut 178 = .ok (.putfield 18, 3) := by decide +kernel
theorem d_Tree_cut_181 : decode b_Tree_cut 181 = .ok (.goto (-47), 3) := by decide +kernel
theorem d_Tree_cut_184 : decode b_Tree_cut 184 = .ok (.return_, 1) := by decide +kernel
theorem d_Row_addClipped_0 : decode b_Row_addClipped 0 = .ok (.iconst 0, 1) := by decide +kernel
theorem d_Row_addClipped_1 : decode b_Row_addClipped 1 = .ok (.istore 4, 2) := by decide +kernel
theorem d_Row_addClipped_3 : decode b_Row_addClipped 3 = .ok (.iconst 0, 1) := by decide +kernel
theorem d_Row_addClipped_4 : decode b_Row_addClipped 4 = .ok (.istore 5, 2) := by decide +kernel
theorem d_Row_addClipped_6 : decode b_Row_addClipped 6 = .ok (.iload 5, 2) := by decide +kernel
theorem d_Row_addClipped_8 : decode b_Row_addClipped 8 = .ok (.aload_n 1, 1) := by decide +kernel
theorem d_Row_addClipped_9 : decode b_Row_addClipped 9 = .ok (.getfield 15, 3) := by decide +kernel
theorem d_Row_addClipped_12 : decode b_Row_addClipped 12 = .ok (.if_icmp .ge 51, 3) := by decide +kernel
theorem d_Row_addClipped_15 : decode b_Row_addClipped 15 = .ok (.iload 4, 2) := by decide +kernel
theorem d_Row_addClipped_17 : decode b_Row_addClipped 17 = .ok (.aload_n 1, 1) := by decide +kernel
theorem d_Row_addClipped_18 : decode b_Row_addClipped 18 = .ok (.getfield 9, 3) := by decide +kernel
theorem d_Row_addClipped_21 : decode b_Row_addClipped 21 = .ok (.iload 5, 2) := by decide +kernel
theorem d_Row_addClipped_23 : decode b_Row_addClipped 23 = .ok (.iaload, 1) := by decide +kernel
theorem d_Row_addClipped_24 : decode b_Row_addClipped 24 = .ok (.iadd, 1) := by decide +kernel
theorem d_Row_addClipped_25 : decode b_Row_addClipped 25 = .ok (.istore 6, 2) := by decide +kernel
theorem d_Row_addClipped_27 : decode b_Row_addClipped 27 = .ok (.iload 6, 2) := by decide +kernel
theorem d_Row_addClipped_29 : decode b_Row_addClipped 29 = .ok (.iload_n 3, 1) := by decide +kernel
theorem d_Row_addClipped_30 : decode b_Row_addClipped 30 = .ok (.invokestatic 35, 3) := by decide +kernel
theorem d_Row_addClipped_33 : decode b_Row_addClipped 33 = .ok (.iload 4, 2) := by decide +kernel
theorem d_Row_addClipped_35 : decode b_Row_addClipped 35 = .ok (.iload_n 2, 1) := by decide +kernel
theorem d_Row_addClipped_36 : decode b_Row_addClipped 36 = .ok (.invokestatic 25, 3) := by decide +kernel
theorem d_Row_addClipped_39 : decode b_Row_addClipped 39 = .ok (.isub, 1) := by decide +kernel
theorem d_Row_addClipped_40 : decode b_Row_addClipped 40 = .ok (.istore 7, 2) := by decide +kernel
theorem d_Row_addClipped_42 : decode b_Row_addClipped 42 = .ok (.iload 7, 2) := by decide +kernel
theorem d_Row_addClipped_44 : decode b_Row_addClipped 44 = .ok (.ifCond .le 9, 3) := by decide +kernel
theorem d_Row_addClipped_47 : decode b_Row_addClipped 47 = .ok (.aload_n 0, 1) := by decide +kernel
theorem d_Row_addClipped_48 : decode b_Row_addClipped 48 = .ok (.iload 7, 2) := by decide +kernel
theorem d_Row_addClipped_50 : decode b_Row_addClipped 50 = .ok (.invokevirtual 31, 3) := by decide +kernel
theorem d_Row_addClipped_53 : decode b_Row_addClipped 53 = .ok (.iload 6, 2) := by decide +kernel
theorem d_Row_addClipped_55 : decode b_Row_addClipped 55 = .ok (.istore 4, 2) := by decide +kernel
theorem d_Row_addClipped_57 : decode b_Row_addClipped 57 = .ok (.iinc 5 1, 3) := by decide +kernel
theorem d_Row_addClipped_60 : decode b_Row_addClipped 60 = .ok (.goto (-54), 3) := by decide +kernel
theorem d_Row_addClipped_63 : decode b_Row_addClipped 63 = .ok (.return_, 1) := by decide +kernel
theorem d_Row_holderOf_0 : decode b_Row_holderOf 0 = .ok (.iconst 0, 1) := by decide +kernel
theorem d_Row_holderOf_1 : decode b_Row_holderOf 1 = .ok (.istore_n 2, 1) := by decide +kernel
theorem d_Row_holderOf_2 : decode b_Row_holderOf 2 = .ok (.iconst 0, 1) := by decide +kernel
theorem d_Row_holderOf_3 : decode b_Row_holderOf 3 = .ok (.istore_n 3, 1) := by decide +kernel
theorem d_Row_holderOf_4 : decode b_Row_holderOf 4 = .ok (.iload_n 3, 1) := by decide +kernel
theorem d_Row_holderOf_5 : decode b_Row_holderOf 5 = .ok (.aload_n 0, 1) := by decide +kernel
theorem d_Row_holderOf_6 : decode b_Row_holderOf 6 = .ok (.getfield 15, 3) := by decide +kernel
theorem d_Row_holderOf_9 : decode b_Row_holderOf 9 = .ok (.if_icmp .ge 25, 3) := by decide +kernel
theorem d_Row_holderOf_12 : decode b_Row_holderOf 12 = .ok (.iload_n 2, 1) := by decide +kernel
theorem d_Row_holderOf_13 : decode b_Row_holderOf 13 = .ok (.aload_n 0, 1) := by decide +kernel
theorem d_Row_holderOf_14 : decode b_Row_holderOf 14 = .ok (.getfield 9, 3) := by decide +kernel
theorem d_Row_holderOf_17 : decode b_Row_holderOf 17 = .ok (.iload_n 3, 1) := by decide +kernel
theorem d_Row_holderOf_18 : decode b_Row_holderOf 18 = .ok (.iaload, 1) := by decide +kernel
theorem d_Row_holderOf_19 : decode b_Row_holderOf 19 = .ok (.iadd, 1) := by decide +kernel
theorem d_Row_holderOf_20 : decode b_Row_holderOf 20 = .ok (.istore_n 2, 1) := by decide +kernel
theorem d_Row_holderOf_21 : decode b_Row_holderOf 21 = .ok (.iload_n 1, 1) := by decide +kernel
theorem d_Row_holderOf_22 : decode b_Row_holderOf 22 = .ok (.iload_n 2, 1) := by decide +kernel
theorem d_Row_holderOf_23 : decode b_Row_holderOf 23 = .ok (.if_icmp .ge 5, 3) := by decide +kernel
theorem d_Row_holderOf_26 : decode b_Row_holderOf 26 = .ok (.iload_n 3, 1) := by decide +kernel
theorem d_Row_holderOf_27 : decode b_Row_holderOf 27 = .ok (.ireturn, 1) := by decide +kernel
theorem d_Row_holderOf_28 : decode b_Row_holderOf 28 = .ok (.iinc 3 1, 3) := by decide +kernel
theorem d_Row_holderOf_31 : decode b_Row_holderOf 31 = .ok (.goto (-27), 3) := by decide +kernel
theorem d_Row_holderOf_34 : decode b_Row_holderOf 34 = .ok (.aload_n 0, 1) := by decide +kernel
theorem d_Row_holderOf_35 : decode b_Row_holderOf 35 = .ok (.getfield 15, 3) := by decide +kernel
theorem d_Row_holderOf_38 : decode b_Row_holderOf 38 = .ok (.ireturn, 1) := by decide +kernel
theorem d_Tree_element_0 : decode b_Tree_element 0 = .ok (.aload_n 0, 1) := by decide +kernel
theorem d_Tree_element_1 : decode b_Tree_element 1 = .ok (.getfield 11, 3) := by decide +kernel
theorem d_Tree_element_4 : decode b_Tree_element 4 = .ok (.iconst 0, 1) := by decide +kernel
theorem d_Tree_element_5 : decode b_Tree_element 5 = .ok (.aaload, 1) := by decide +kernel
theorem d_Tree_element_6 : decode b_Tree_element 6 = .ok (.iload_n 1, 1) := by decide +kernel
theorem d_Tree_element_7 : decode b_Tree_element 7 = .ok (.invokevirtual 25, 3) := by decide +kernel
theorem d_Tree_element_10 : decode b_Tree_element 10 = .ok (.ireturn, 1) := by decide +kernel
theorem d_Tree_countNodes_0 : decode b_Tree_countNodes 0 = .ok (.iconst 0, 1) := by decide +kernel
theorem d_Tree_countNodes_1 : decode b_Tree_countNodes 1 = .ok (.istore_n 1, 1) := by decide +kernel
theorem d_Tree_countNodes_2 : decode b_Tree_countNodes 2 = .ok (.iconst 1, 1) := by decide +kernel
theorem d_Tree_countNodes_3 : decode b_Tree_countNodes 3 = .ok (.istore_n 2, 1) := by decide +kernel
theorem d_Tree_countNodes_4 : decode b_Tree_countNodes 4 = .ok (.iload_n 2, 1) := by decide +kernel
theorem d_Tree_countNodes_5 : decode b_Tree_countNodes 5 = .ok (.aload_n 0, 1) := by decide +kernel
theorem d_Tree_countNodes_6 : decode b_Tree_countNodes 6 = .ok (.getfield 18, 3) := by decide +kernel
theorem d_Tree_countNodes_9 : decode b_Tree_countNodes 9 = .ok (.if_icmp .gt 21, 3) := by decide +kernel
theorem d_Tree_countNodes_12 : decode b_Tree_countNodes 12 = .ok (.iload_n 1, 1) := by decide +kernel
theorem d_Tree_countNodes_13 : decode b_Tree_countNodes 13 = .ok (.aload_n 0, 1) := by decide +kernel
theorem d_Tree_countNodes_14 : decode b_Tree_countNodes 14 = .ok (.getfield 11, 3) := by decide +kernel
theorem d_Tree_countNodes_17 : decode b_Tree_countNodes 17 = .ok (.iload_n 2, 1) := by decide +kernel
theorem d_Tree_countNodes_18 : decode b_Tree_countNodes 18 = .ok (.aaload, 1) := by decide +kernel
theorem d_Tree_countNodes_19 : decode b_Tree_countNodes 19 = .ok (.getfield 22, 3) := by decide +kernel
theorem d_Tree_countNodes_22 : decode b_Tree_countNodes 22 = .ok (.iadd, 1) := by decide +kernel
theorem d_Tree_countNodes_23 : decode b_Tree_countNodes 23 = .ok (.istore_n 1, 1) := by decide +kernel
theorem d_Tree_countNodes_24 : decode b_Tree_countNodes 24 = .ok (.iinc 2 1, 3) := by decide +kernel
theorem d_Tree_countNodes_27 : decode b_Tree_countNodes 27 = .ok (.goto (-23), 3) := by decide +kernel
theorem d_Tree_countNodes_30 : decode b_Tree_countNodes 30 = .ok (.iload_n 1, 1) := by decide +kernel
theorem d_Tree_countNodes_31 : decode b_Tree_countNodes 31 = .ok (.ireturn, 1) := by decide +kernel
theorem d_Tree_slotsOf_0 : decode b_Tree_slotsOf 0 = .ok (.iload_n 1, 1) := by decide +kernel
theorem d_Tree_slotsOf_1 : decode b_Tree_slotsOf 1 = .ok (.iconst 1, 1) := by decide +kernel
theorem d_Tree_slotsOf_2 : decode b_Tree_slotsOf 2 = .ok (.if_icmp .lt 28, 3) := by decide +kernel
theorem d_Tree_slotsOf_5 : decode b_Tree_slotsOf 5 = .ok (.iload_n 1, 1) := by decide +kernel
theorem d_Tree_slotsOf_6 : decode b_Tree_slotsOf 6 = .ok (.aload_n 0, 1) := by decide +kernel
theorem d_Tree_slotsOf_7 : decode b_Tree_slotsOf 7 = .ok (.getfield 18, 3) := by decide +kernel
theorem d_Tree_slotsOf_10 : decode b_Tree_slotsOf 10 = .ok (.if_icmp .gt 20, 3) := by decide +kernel
theorem d_Tree_slotsOf_13 : decode b_Tree_slotsOf 13 = .ok (.iload_n 2, 1) := by decide +kernel
theorem d_Tree_slotsOf_14 : decode b_Tree_slotsOf 14 = .ok (.ifCond .lt 16, 3) := by decide +kernel
theorem d_Tree_slotsOf_17 : decode b_Tree_slotsOf 17 = .ok (.iload_n 2, 1) := by decide +kernel
theorem d_Tree_slotsOf_18 : decode b_Tree_slotsOf 18 = .ok (.aload_n 0, 1) := by decide +kernel
theorem d_Tree_slotsOf_19 : decode b_Tree_slotsOf 19 = .ok (.getfield 11, 3) := by decide +kernel
theorem d_Tree_slotsOf_22 : decode b_Tree_slotsOf 22 = .ok (.iload_n 1, 1) := by decide +kernel
theorem d_Tree_slotsOf_23 : decode b_Tree_slotsOf 23 = .ok (.aaload, 1) := by decide +kernel
theorem d_Tree_slotsOf_24 : decode b_Tree_slotsOf 24 = .ok (.getfield 22, 3) := by decide +kernel
theorem d_Tree_slotsOf_27 : decode b_Tree_slotsOf 27 = .ok (.if_icmp .lt 5, 3) := by decide +kernel
theorem d_Tree_slotsOf_30 : decode b_Tree_slotsOf 30 = .ok (.iconst (-1), 1) := by decide +kernel
theorem d_Tree_slotsOf_31 : decode b_Tree_slotsOf 31 = .ok (.ireturn, 1) := by decide +kernel
theorem d_Tree_slotsOf_32 : decode b_Tree_slotsOf 32 = .ok (.aload_n 0, 1) := by decide +kernel
theorem d_Tree_slotsOf_33 : decode b_Tree_slotsOf 33 = .ok (.getfield 11, 3) := by decide +kernel
theorem d_Tree_slotsOf_36 : decode b_Tree_slotsOf 36 = .ok (.iload_n 1, 1) := by decide +kernel
theorem d_Tree_slotsOf_37 : decode b_Tree_slotsOf 37 = .ok (.aaload, 1) := by decide +kernel
theorem d_Tree_slotsOf_38 : decode b_Tree_slotsOf 38 = .ok (.iload_n 2, 1) := by decide +kernel
theorem d_Tree_slotsOf_39 : decode b_Tree_slotsOf 39 = .ok (.invokevirtual 25, 3) := by decide +kernel
theorem d_Tree_slotsOf_42 : decode b_Tree_slotsOf 42 = .ok (.ireturn, 1) := by decide +kernel
theorem d_Tree_missesOnTheWayTo_0 : decode b_Tree_missesOnTheWayTo 0 = .ok (.iconst 0, 1) := by decide +kernel
theorem d_Tree_missesOnTheWayTo_1 : decode b_Tree_missesOnTheWayTo 1 = .ok (.istore_n 2, 1) := by decide +kernel
theorem d_Tree_missesOnTheWayTo_2 : decode b_Tree_missesOnTheWayTo 2 = .ok (.iload_n 1, 1) := by decide +kernel
theorem d_Tree_missesOnTheWayTo_3 : decode b_Tree_missesOnTheWayTo 3 = .ok (.istore_n 3, 1) := by decide +kernel
theorem d_Tree_missesOnTheWayTo_4 : decode b_Tree_missesOnTheWayTo 4 = .ok (.iconst 1, 1) := by decide +kernel
theorem d_Tree_missesOnTheWayTo_5 : decode b_Tree_missesOnTheWayTo 5 = .ok (.istore 4, 2) := by decide +kernel
theorem d_Tree_missesOnTheWayTo_7 : decode b_Tree_missesOnTheWayTo 7 = .ok (.iconst 1, 1) := by decide +kernel
theorem d_Tree_missesOnTheWayTo_8 : decode b_Tree_missesOnTheWayTo 8 = .ok (.istore 5, 2) := by decide +kernel
theorem d_Tree_missesOnTheWayTo_10 : decode b_Tree_missesOnTheWayTo 10 = .ok (.iload 5, 2) := by decide +kernel
theorem d_Tree_missesOnTheWayTo_12 : decode b_Tree_missesOnTheWayTo 12 = .ok (.aload_n 0, 1) := by decide +kernel
theorem d_Tree_missesOnTheWayTo_13 : decode b_Tree_missesOnTheWayTo 13 = .ok (.getfield 18, 3) := by decide +kernel
theorem d_Tree_missesOnTheWayTo_16 : decode b_Tree_missesOnTheWayTo 16 = .ok (.if_icmp .gt 70, 3) := by decide +kernel
theorem d_Tree_missesOnTheWayTo_19 : decode b_Tree_missesOnTheWayTo 19 = .ok (.aload_n 0, 1) := by decide +kernel
theorem d_Tree_missesOnTheWayTo_20 : decode b_Tree_missesOnTheWayTo 20 = .ok (.getfield 11, 3) := by decide +kernel
theorem d_Tree_missesOnTheWayTo_23 : decode b_Tree_missesOnTheWayTo 23 = .ok (.iload 5, 2) := by decide +kernel
theorem d_Tree_missesOnTheWayTo_25 : decode b_Tree_missesOnTheWayTo 25 = .ok (.aaload, 1) := by decide +kernel
theorem d_Tree_missesOnTheWayTo_26 : decode b_Tree_missesOnTheWayTo 26 = .ok (.iload_n 3, 1) := by decide +kernel
theorem d_Tree_missesOnTheWayTo_27 : decode b_Tree_missesOnTheWayTo 27 = .ok (.invokevirtual 53, 3) := by decide +kernel
theorem d_Tree_missesOnTheWayTo_30 : decode b_Tree_missesOnTheWayTo 30 = .ok (.istore 6, 2) := by decide +kernel
theorem d_Tree_missesOnTheWayTo_32 : decode b_Tree_missesOnTheWayTo 32 = .ok (.iload_n 3, 1) := by decide +kernel
theorem d_Tree_missesOnTheWayTo_33 : decode b_Tree_missesOnTheWayTo 33 = .ok (.aload_n 0, 1) := by decide +kernel
theorem d_Tree_missesOnTheWayTo_34 : decode b_Tree_missesOnTheWayTo 34 = .ok (.getfield 11, 3) := by decide +kernel
theorem d_Tree_missesOnTheWayTo_37 : decode b_Tree_missesOnTheWayTo 37 = .ok (.iload 5, 2) := by decide +kernel
theorem d_Tree_missesOnTheWayTo_39 : decode b_Tree_missesOnTheWayTo 39 = .ok (.aaload, 1) := by decide +kernel
theorem d_Tree_missesOnTheWayTo_40 : decode b_Tree_missesOnTheWayTo 40 = .ok (.iload 6, 2) := by decide +kernel
theorem d_Tree_missesOnTheWayTo_42 : decode b_Tree_missesOnTheWayTo 42 = .ok (.invokevirtual 83, 3) := by decide +kernel
theorem d_Tree_missesOnTheWayTo_45 : decode b_Tree_missesOnTheWayTo 45 = .ok (.isub, 1) := by decide +kernel
theorem d_Tree_missesOnTheWayTo_46 : decode b_Tree_missesOnTheWayTo 46 = .ok (.istore 7, 2) := by decide +kernel
theorem d_Tree_missesOnTheWayTo_48 : decode b_Tree_missesOnTheWayTo 48 = .ok (.iload_n 1, 1) := by decide +kernel
theorem d_Tree_missesOnTheWayTo_49 : decode b_Tree_missesOnTheWayTo 49 = .ok (.aload_n 0, 1) := by decide +kernel
theorem d_Tree_missesOnTheWayTo_50 : decode b_Tree_missesOnTheWayTo 50 = .ok (.iload 5, 2) := by decide +kernel
theorem d_Tree_missesOnTheWayTo_52 : decode b_Tree_missesOnTheWayTo 52 = .ok (.iload 6, 2) := by decide +kernel
theorem d_Tree_missesOnTheWayTo_54 : decode b_Tree_missesOnTheWayTo 54 = .ok (.invokevirtual 86, 3) := by decide +kernel
theorem d_Tree_missesOnTheWayTo_57 : decode b_Tree_missesOnTheWayTo 57 = .ok (.isub, 1) := by decide +kernel
theorem d_Tree_missesOnTheWayTo_58 : decode b_Tree_missesOnTheWayTo 58 = .ok (.istore 8, 2) := by decide +kernel
theorem d_Tree_missesOnTheWayTo_60 : decode b_Tree_missesOnTheWayTo 60 = .ok (.iload_n 2, 1) := by decide +kernel
theorem d_Tree_missesOnTheWayTo_61 : decode b_Tree_missesOnTheWayTo 61 = .ok (.iload 7, 2) := by decide +kernel
theorem d_Tree_missesOnTheWayTo_63 : decode b_Tree_missesOnTheWayTo 63 = .ok (.iload 8, 2) := by decide +kernel
theorem d_Tree_missesOnTheWayTo_65 : decode b_Tree_missesOnTheWayTo 65 = .ok (.iload 4, 2) := by decide +kernel
theorem d_Tree_missesOnTheWayTo_67 : decode b_Tree_missesOnTheWayTo 67 = .ok (.idiv, 1) := by decide +kernel
theorem d_Tree_missesOnTheWayTo_68 : decode b_Tree_missesOnTheWayTo 68 = .ok (.isub, 1) := by decide +kernel
theorem d_Tree_missesOnTheWayTo_69 : decode b_Tree_missesOnTheWayTo 69 = .ok (.iadd, 1) := by decide +kernel
theorem d_Tree_missesOnTheWayTo_70 : decode b_Tree_missesOnTheWayTo 70 = .ok (.istore_n 2, 1) := by decide +kernel
theorem d_Tree_missesOnTheWayTo_71 : decode b_Tree_missesOnTheWayTo 71 = .ok (.iload 6, 2) := by decide +kernel
theorem d_Tree_missesOnTheWayTo_73 : decode b_Tree_missesOnTheWayTo 73 = .ok (.istore_n 3, 1) := by decide +kernel
theorem d_Tree_missesOnTheWayTo_74 : decode b_Tree_missesOnTheWayTo 74 = .ok (.iload 4, 2) := by decide +kernel
theorem d_Tree_missesOnTheWayTo_76 : decode b_Tree_missesOnTheWayTo 76 = .ok (.iconst 4, 1) := by decide +kernel
theorem d_Tree_missesOnTheWayTo_77 : decode b_Tree_missesOnTheWayTo 77 = .ok (.imul, 1) := by decide +kernel
theorem d_Tree_missesOnTheWayTo_78 : decode b_Tree_missesOnTheWayTo 78 = .ok (.istore 4, 2) := by decide +kernel
theorem d_Tree_missesOnTheWayTo_80 : decode b_Tree_missesOnTheWayTo 80 = .ok (.iinc 5 1, 3) := by decide +kernel
theorem d_Tree_missesOnTheWayTo_83 : decode b_Tree_missesOnTheWayTo 83 = .ok (.goto (-73), 3) := by decide +kernel
theorem d_Tree_missesOnTheWayTo_86 : decode b_Tree_missesOnTheWayTo 86 = .ok (.iload_n 2, 1) := by decide +kernel
theorem d_Tree_missesOnTheWayTo_87 : decode b_Tree_missesOnTheWayTo 87 = .ok (.ireturn, 1) := by decide +kernel
theorem d_Tree_firstPlaceUnder_0 : decode b_Tree_firstPlaceUnder 0 = .ok (.iload_n 2, 1) := by decide +kernel
theorem d_Tree_firstPlaceUnder_1 : decode b_Tree_firstPlaceUnder 1 = .ok (.istore_n 3, 1) := by decide +kernel
theorem d_Tree_firstPlaceUnder_2 : decode b_Tree_firstPlaceUnder 2 = .ok (.iload_n 1, 1) := by decide +kernel
theorem d_Tree_firstPlaceUnder_3 : decode b_Tree_firstPlaceUnder 3 = .ok (.istore 4, 2) := by decide +kernel
theorem d_Tree_firstPlaceUnder_5 : decode b_Tree_firstPlaceUnder 5 = .ok (.iload 4, 2) := by decide +kernel
theorem d_Tree_firstPlaceUnder_7 : decode b_Tree_firstPlaceUnder 7 = .ok (.iconst 1, 1) := by decide +kernel
theorem d_Tree_firstPlaceUnder_8 : decode b_Tree_firstPlaceUnder 8 = .ok (.if_icmp .lt 21, 3) := by decide +kernel
theorem d_Tree_firstPlaceUnder_11 : decode b_Tree_firstPlaceUnder 11 = .ok (.aload_n 0, 1) := by decide +kernel
theorem d_Tree_firstPlaceUnder_12 : decode b_Tree_firstPlaceUnder 12 = .ok (.getfield 11, 3) := by decide +kernel
theorem d_Tree_firstPlaceUnder_15 : decode b_Tree_firstPlaceUnder 15 = .ok (.iload 4, 2) := by decide +kernel
theorem d_Tree_firstPlaceUnder_17 : decode b_Tree_firstPlaceUnder 17 = .ok (.aaload, 1) := by decide +kernel
theorem d_Tree_firstPlaceUnder_18 : decode b_Tree_firstPlaceUnder 18 = .ok (.iload_n 3, 1) := by decide +kernel
theorem d_Tree_firstPlaceUnder_19 : decode b_Tree_firstPlaceUnder 19 = .ok (.invokevirtual 83, 3) := by decide +kernel
theorem d_Tree_firstPlaceUnder_22 : decode b_Tree_firstPlaceUnder 22 = .ok (.istore_n 3, 1) := by decide +kernel
theorem d_Tree_firstPlaceUnder_23 : decode b_Tree_firstPlaceUnder 23 = .ok (.iinc 4 (-1), 3) := by decide +kernel
theorem d_Tree_firstPlaceUnder_26 : decode b_Tree_firstPlaceUnder 26 = .ok (.goto (-21), 3) := by decide +kernel
theorem d_Tree_firstPlaceUnder_29 : decode b_Tree_firstPlaceUnder 29 = .ok (.iload_n 3, 1) := by decide +kernel
theorem d_Tree_firstPlaceUnder_30 : decode b_Tree_firstPlaceUnder 30 = .ok (.ireturn, 1) := by decide +kernel
