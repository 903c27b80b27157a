theorem eX7_init_0 : decode (zYb kX7_init) 0 = .ok (.aload_n 0, 1) := by decide +kernel
theorem eX7_init_1 : decode (zYb kX7_init) 1 = .ok (.invokespecial 1, 3) := by decide +kernel
theorem eX7_init_4 : decode (zYb kX7_init) 4 = .ok (.aload_n 0, 1) := by decide +kernel
theorem eX7_init_5 : decode (zYb kX7_init) 5 = .ok (.sipush 336, 3) := by decide +kernel
theorem eX7_init_8 : decode (zYb kX7_init) 8 = .ok (.newarray .int, 2) := by decide +kernel
theorem eX7_init_10 : decode (zYb kX7_init) 10 = .ok (.putfield 7, 3) := by decide +kernel
theorem eX7_init_13 : decode (zYb kX7_init) 13 = .ok (.aload_n 0, 1) := by decide +kernel
theorem eX7_init_14 : decode (zYb kX7_init) 14 = .ok (.sipush 2016, 3) := by decide +kernel
theorem eX7_init_17 : decode (zYb kX7_init) 17 = .ok (.newarray .int, 2) := by decide +kernel
theorem eX7_init_19 : decode (zYb kX7_init) 19 = .ok (.putfield 13, 3) := by decide +kernel
theorem eX7_init_22 : decode (zYb kX7_init) 22 = .ok (.aload_n 0, 1) := by decide +kernel
theorem eX7_init_23 : decode (zYb kX7_init) 23 = .ok (.sipush 672, 3) := by decide +kernel
theorem eX7_init_26 : decode (zYb kX7_init) 26 = .ok (.newarray .int, 2) := by decide +kernel
theorem eX7_init_28 : decode (zYb kX7_init) 28 = .ok (.putfield 16, 3) := by decide +kernel
theorem eX7_init_31 : decode (zYb kX7_init) 31 = .ok (.aload_n 0, 1) := by decide +kernel
theorem eX7_init_32 : decode (zYb kX7_init) 32 = .ok (.iconst 2, 1) := by decide +kernel
theorem eX7_init_33 : decode (zYb kX7_init) 33 = .ok (.newarray .int, 2) := by decide +kernel
theorem eX7_init_35 : decode (zYb kX7_init) 35 = .ok (.putfield 19, 3) := by decide +kernel
theorem eX7_init_38 : decode (zYb kX7_init) 38 = .ok (.aload_n 0, 1) := by decide +kernel
theorem eX7_init_39 : decode (zYb kX7_init) 39 = .ok (.bipush 64, 2) := by decide +kernel
theorem eX7_init_41 : decode (zYb kX7_init) 41 = .ok (.newarray .int, 2) := by decide +kernel
theorem eX7_init_43 : decode (zYb kX7_init) 43 = .ok (.putfield 22, 3) := by decide +kernel
theorem eX7_init_46 : decode (zYb kX7_init) 46 = .ok (.aload_n 0, 1) := by decide +kernel
theorem eX7_init_47 : decode (zYb kX7_init) 47 = .ok (.bipush 8, 2) := by decide +kernel
theorem eX7_init_49 : decode (zYb kX7_init) 49 = .ok (.newarray .int, 2) := by decide +kernel
theorem eX7_init_51 : decode (zYb kX7_init) 51 = .ok (.putfield 25, 3) := by decide +kernel
theorem eX7_init_54 : decode (zYb kX7_init) 54 = .ok (.aload_n 0, 1) := by decide +kernel
theorem eX7_init_55 : decode (zYb kX7_init) 55 = .ok (.bipush 60, 2) := by decide +kernel
theorem eX7_init_57 : decode (zYb kX7_init) 57 = .ok (.newarray .int, 2) := by decide +kernel
theorem eX7_init_59 : decode (zYb kX7_init) 59 = .ok (.putfield 28, 3) := by decide +kernel
theorem eX7_init_62 : decode (zYb kX7_init) 62 = .ok (.aload_n 0, 1) := by decide +kernel
theorem eX7_init_63 : decode (zYb kX7_init) 63 = .ok (.sipush 7680, 3) := by decide +kernel
theorem eX7_init_66 : decode (zYb kX7_init) 66 = .ok (.newarray .int, 2) := by decide +kernel
theorem eX7_init_68 : decode (zYb kX7_init) 68 = .ok (.putfield 31, 3) := by decide +kernel
theorem eX7_init_71 : decode (zYb kX7_init) 71 = .ok (.aload_n 0, 1) := by decide +kernel
theorem eX7_init_72 : decode (zYb kX7_init) 72 = .ok (.sipush 128, 3) := by decide +kernel
theorem eX7_init_75 : decode (zYb kX7_init) 75 = .ok (.newarray .int, 2) := by decide +kernel
theorem eX7_init_77 : decode (zYb kX7_init) 77 = .ok (.putfield 34, 3) := by decide +kernel
theorem eX7_init_80 : decode (zYb kX7_init) 80 = .ok (.aload_n 0, 1) := by decide +kernel
theorem eX7_init_81 : decode (zYb kX7_init) 81 = .ok (.sipush 128, 3) := by decide +kernel
theorem eX7_init_84 : decode (zYb kX7_init) 84 = .ok (.newarray .int, 2) := by decide +kernel
theorem eX7_init_86 : decode (zYb kX7_init) 86 = .ok (.putfield 37, 3) := by decide +kernel
theorem eX7_init_89 : decode (zYb kX7_init) 89 = .ok (.aload_n 0, 1) := by decide +kernel
theorem eX7_init_90 : decode (zYb kX7_init) 90 = .ok (.sipush 7680, 3) := by decide +kernel
theorem eX7_init_93 : decode (zYb kX7_init) 93 = .ok (.newarray .int, 2) := by decide +kernel
theorem eX7_init_95 : decode (zYb kX7_init) 95 = .ok (.putfield 40, 3) := by decide +kernel
theorem eX7_init_98 : decode (zYb kX7_init) 98 = .ok (.aload_n 0, 1) := by decide +kernel
theorem eX7_init_99 : decode (zYb kX7_init) 99 = .ok (.sipush 128, 3) := by decide +kernel
theorem eX7_init_102 : decode (zYb kX7_init) 102 = .ok (.newarray .int, 2) := by decide +kernel
theorem eX7_init_104 : decode (zYb kX7_init) 104 = .ok (.putfield 43, 3) := by decide +kernel
theorem eX7_init_107 : decode (zYb kX7_init) 107 = .ok (.aload_n 0, 1) := by decide +kernel
theorem eX7_init_108 : decode (zYb kX7_init) 108 = .ok (.getfield 7, 3) := by decide +kernel
theorem eX7_init_111 : decode (zYb kX7_init) 111 = .ok (.iconst 0, 1) := by decide +kernel
theorem eX7_init_112 : decode (zYb kX7_init) 112 = .ok (.iconst 0, 1) := by decide +kernel
theorem eX7_init_113 : decode (zYb kX7_init) 113 = .ok (.iastore, 1) := by decide +kernel
theorem eX7_init_114 : decode (zYb kX7_init) 114 = .ok (.return_, 1) := by decide +kernel
theorem eX7_moves_0 : decode (zYb kX7_moves) 0 = .ok (.iconst 0, 1) := by decide +kernel
theorem eX7_moves_1 : decode (zYb kX7_moves) 1 = .ok (.istore 4, 2) := by decide +kernel
theorem eX7_moves_3 : decode (zYb kX7_moves) 3 = .ok (.iload 4, 2) := by decide +kernel
theorem eX7_moves_5 : decode (zYb kX7_moves) 5 = .ok (.sipush 336, 3) := by decide +kernel
theorem eX7_moves_8 : decode (zYb kX7_moves) 8 = .ok (.if_icmp .ge 21, 3) := by decide +kernel
theorem eX7_moves_11 : decode (zYb kX7_moves) 11 = .ok (.aload_n 2, 1) := by decide +kernel
theorem eX7_moves_12 : decode (zYb kX7_moves) 12 = .ok (.iload_n 3, 1) := by decide +kernel
theorem eX7_moves_13 : decode (zYb kX7_moves) 13 = .ok (.iload 4, 2) := by decide +kernel
theorem eX7_moves_15 : decode (zYb kX7_moves) 15 = .ok (.iadd, 1) := by decide +kernel
theorem eX7_moves_16 : decode (zYb kX7_moves) 16 = .ok (.aload_n 0, 1) := by decide +kernel
theorem eX7_moves_17 : decode (zYb kX7_moves) 17 = .ok (.iload_n 1, 1) := by decide +kernel
theorem eX7_moves_18 : decode (zYb kX7_moves) 18 = .ok (.iload 4, 2) := by decide +kernel
theorem eX7_moves_20 : decode (zYb kX7_moves) 20 = .ok (.iadd, 1) := by decide +kernel
theorem eX7_moves_21 : decode (zYb kX7_moves) 21 = .ok (.iaload, 1) := by decide +kernel
theorem eX7_moves_22 : decode (zYb kX7_moves) 22 = .ok (.iastore, 1) := by decide +kernel
theorem eX7_moves_23 : decode (zYb kX7_moves) 23 = .ok (.iinc 4 1, 3) := by decide +kernel
theorem eX7_moves_26 : decode (zYb kX7_moves) 26 = .ok (.goto (-23), 3) := by decide +kernel
theorem eX7_moves_29 : decode (zYb kX7_moves) 29 = .ok (.return_, 1) := by decide +kernel
theorem eX7_within_0 : decode (zYb kX7_within) 0 = .ok (.iload_n 0, 1) := by decide +kernel
theorem eX7_within_1 : decode (zYb kX7_within) 1 = .ok (.iload_n 1, 1) := by decide +kernel
theorem eX7_within_2 : decode (zYb kX7_within) 2 = .ok (.if_icmp .lt 12, 3) := by decide +kernel
theorem eX7_within_5 : decode (zYb kX7_within) 5 = .ok (.iload_n 0, 1) := by decide +kernel
theorem eX7_within_6 : decode (zYb kX7_within) 6 = .ok (.iload_n 2, 1) := by decide +kernel
theorem eX7_within_7 : decode (zYb kX7_within) 7 = .ok (.if_icmp .gt 7, 3) := by decide +kernel
theorem eX7_within_10 : decode (zYb kX7_within) 10 = .ok (.iconst 1, 1) := by decide +kernel
theorem eX7_within_11 : decode (zYb kX7_within) 11 = .ok (.goto 4, 3) := by decide +kernel
theorem eX7_within_14 : decode (zYb kX7_within) 14 = .ok (.iconst 0, 1) := by decide +kernel
theorem eX7_within_15 : decode (zYb kX7_within) 15 = .ok (.ireturn, 1) := by decide +kernel
theorem eX7_record_0 : decode (zYb kX7_record) 0 = .ok (.aload_n 0, 1) := by decide +kernel
theorem eX7_record_1 : decode (zYb kX7_record) 1 = .ok (.getfield 46, 3) := by decide +kernel
theorem eX7_record_4 : decode (zYb kX7_record) 4 = .ok (.bipush 6, 2) := by decide +kernel
theorem eX7_record_6 : decode (zYb kX7_record) 6 = .ok (.if_icmp .ne 44, 3) := by decide +kernel
theorem eX7_record_9 : decode (zYb kX7_record) 9 = .ok (.iconst 0, 1) := by decide +kernel
theorem eX7_record_10 : decode (zYb kX7_record) 10 = .ok (.istore_n 1, 1) := by decide +kernel
theorem eX7_record_11 : decode (zYb kX7_record) 11 = .ok (.iload_n 1, 1) := by decide +kernel
theorem eX7_record_12 : decode (zYb kX7_record) 12 = .ok (.sipush 1680, 3) := by decide +kernel
theorem eX7_record_15 : decode (zYb kX7_record) 15 = .ok (.if_icmp .ge 25, 3) := by decide +kernel
theorem eX7_record_18 : decode (zYb kX7_record) 18 = .ok (.aload_n 0, 1) := by decide +kernel
theorem eX7_record_19 : decode (zYb kX7_record) 19 = .ok (.getfield 13, 3) := by decide +kernel
theorem eX7_record_22 : decode (zYb kX7_record) 22 = .ok (.iload_n 1, 1) := by decide +kernel
theorem eX7_record_23 : decode (zYb kX7_record) 23 = .ok (.aload_n 0, 1) := by decide +kernel
theorem eX7_record_24 : decode (zYb kX7_record) 24 = .ok (.getfield 13, 3) := by decide +kernel
theorem eX7_record_27 : decode (zYb kX7_record) 27 = .ok (.iload_n 1, 1) := by decide +kernel
theorem eX7_record_28 : decode (zYb kX7_record) 28 = .ok (.sipush 336, 3) := by decide +kernel
theorem eX7_record_31 : decode (zYb kX7_record) 31 = .ok (.iadd, 1) := by decide +kernel
theorem eX7_record_32 : decode (zYb kX7_record) 32 = .ok (.iaload, 1) := by decide +kernel
theorem eX7_record_33 : decode (zYb kX7_record) 33 = .ok (.iastore, 1) := by decide +kernel
theorem eX7_record_34 : decode (zYb kX7_record) 34 = .ok (.iinc 1 1, 3) := by decide +kernel
theorem eX7_record_37 : decode (zYb kX7_record) 37 = .ok (.goto (-26), 3) := by decide +kernel
theorem eX7_record_40 : decode (zYb kX7_record) 40 = .ok (.aload_n 0, 1) := by decide +kernel
theorem eX7_record_41 : decode (zYb kX7_record) 41 = .ok (.dup, 1) := by decide +kernel
theorem eX7_record_42 : decode (zYb kX7_record) 42 = .ok (.getfield 46, 3) := by decide +kernel
theorem eX7_record_45 : decode (zYb kX7_record) 45 = .ok (.iconst 1, 1) := by decide +kernel
theorem eX7_record_46 : decode (zYb kX7_record) 46 = .ok (.isub, 1) := by decide +kernel
theorem eX7_record_47 : decode (zYb kX7_record) 47 = .ok (.putfield 46, 3) := by decide +kernel
theorem eX7_record_50 : decode (zYb kX7_record) 50 = .ok (.aload_n 0, 1) := by decide +kernel
theorem eX7_record_51 : decode (zYb kX7_record) 51 = .ok (.getfield 7, 3) := by decide +kernel
theorem eX7_record_54 : decode (zYb kX7_record) 54 = .ok (.iconst 0, 1) := by decide +kernel
theorem eX7_record_55 : decode (zYb kX7_record) 55 = .ok (.aload_n 0, 1) := by decide +kernel
theorem eX7_record_56 : decode (zYb kX7_record) 56 = .ok (.getfield 13, 3) := by decide +kernel
theorem eX7_record_59 : decode (zYb kX7_record) 59 = .ok (.aload_n 0, 1) := by decide +kernel
theorem eX7_record_60 : decode (zYb kX7_record) 60 = .ok (.getfield 46, 3) := by decide +kernel
theorem eX7_record_63 : decode (zYb kX7_record) 63 = .ok (.sipush 336, 3) := by decide +kernel
theorem eX7_record_66 : decode (zYb kX7_record) 66 = .ok (.imul, 1) := by decide +kernel
theorem eX7_record_67 : decode (zYb kX7_record) 67 = .ok (.invokestatic 50, 3) := by decide +kernel
theorem eX7_record_70 : decode (zYb kX7_record) 70 = .ok (.aload_n 0, 1) := by decide +kernel
theorem eX7_record_71 : decode (zYb kX7_record) 71 = .ok (.dup, 1) := by decide +kernel
theorem eX7_record_72 : decode (zYb kX7_record) 72 = .ok (.getfield 46, 3) := by decide +kernel
theorem eX7_record_75 : decode (zYb kX7_record) 75 = .ok (.iconst 1, 1) := by decide +kernel
theorem eX7_record_76 : decode (zYb kX7_record) 76 = .ok (.iadd, 1) := by decide +kernel
theorem eX7_record_77 : decode (zYb kX7_record) 77 = .ok (.putfield 46, 3) := by decide +kernel
theorem eX7_record_80 : decode (zYb kX7_record) 80 = .ok (.return_, 1) := by decide +kernel
theorem eX7_isScroll_0 : decode (zYb kX7_isScroll) 0 = .ok (.iload_n 1, 1) := by decide +kernel
theorem eX7_isScroll_1 : decode (zYb kX7_isScroll) 1 = .ok (.iconst 0, 1) := by decide +kernel
theorem eX7_isScroll_2 : decode (zYb kX7_isScroll) 2 = .ok (.aload_n 0, 1) := by decide +kernel
theorem eX7_isScroll_3 : decode (zYb kX7_isScroll) 3 = .ok (.getfield 7, 3) := by decide +kernel
theorem eX7_isScroll_6 : decode (zYb kX7_isScroll) 6 = .ok (.iconst 0, 1) := by decide +kernel
theorem eX7_isScroll_7 : decode (zYb kX7_isScroll) 7 = .ok (.iaload, 1) := by decide +kernel
theorem eX7_isScroll_8 : decode (zYb kX7_isScroll) 8 = .ok (.iconst 1, 1) := by decide +kernel
theorem eX7_isScroll_9 : decode (zYb kX7_isScroll) 9 = .ok (.isub, 1) := by decide +kernel
theorem eX7_isScroll_10 : decode (zYb kX7_isScroll) 10 = .ok (.invokestatic 54, 3) := by decide +kernel
theorem eX7_isScroll_13 : decode (zYb kX7_isScroll) 13 = .ok (.ireturn, 1) := by decide +kernel
theorem eX7_part_0 : decode (zYb kX7_part) 0 = .ok (.aload_n 0, 1) := by decide +kernel
theorem eX7_part_1 : decode (zYb kX7_part) 1 = .ok (.getfield 7, 3) := by decide +kernel
theorem eX7_part_4 : decode (zYb kX7_part) 4 = .ok (.iconst 1, 1) := by decide +kernel
theorem eX7_part_5 : decode (zYb kX7_part) 5 = .ok (.bipush 67, 2) := by decide +kernel
theorem eX7_part_7 : decode (zYb kX7_part) 7 = .ok (.iload_n 1, 1) := by decide +kernel
theorem eX7_part_8 : decode (zYb kX7_part) 8 = .ok (.imul, 1) := by decide +kernel
theorem eX7_part_9 : decode (zYb kX7_part) 9 = .ok (.iadd, 1) := by decide +kernel
theorem eX7_part_10 : decode (zYb kX7_part) 10 = .ok (.iload_n 2, 1) := by decide +kernel
theorem eX7_part_11 : decode (zYb kX7_part) 11 = .ok (.iadd, 1) := by decide +kernel
theorem eX7_part_12 : decode (zYb kX7_part) 12 = .ok (.iaload, 1) := by decide +kernel
theorem eX7_part_13 : decode (zYb kX7_part) 13 = .ok (.ireturn, 1) := by decide +kernel
theorem eX7_isPatch_0 : decode (zYb kX7_isPatch) 0 = .ok (.aload_n 0, 1) := by decide +kernel
theorem eX7_isPatch_1 : decode (zYb kX7_isPatch) 1 = .ok (.iload_n 1, 1) := by decide +kernel
theorem eX7_isPatch_2 : decode (zYb kX7_isPatch) 2 = .ok (.invokevirtual 58, 3) := by decide +kernel
theorem eX7_isPatch_5 : decode (zYb kX7_isPatch) 5 = .ok (.ifCond .eq 23, 3) := by decide +kernel
theorem eX7_isPatch_8 : decode (zYb kX7_isPatch) 8 = .ok (.iload_n 2, 1) := by decide +kernel
theorem eX7_isPatch_9 : decode (zYb kX7_isPatch) 9 = .ok (.iconst 0, 1) := by decide +kernel
theorem eX7_isPatch_10 : decode (zYb kX7_isPatch) 10 = .ok (.aload_n 0, 1) := by decide +kernel
theorem eX7_isPatch_11 : decode (zYb kX7_isPatch) 11 = .ok (.iload_n 1, 1) := by decide +kernel
theorem eX7_isPatch_12 : decode (zYb kX7_isPatch) 12 = .ok (.iconst 0, 1) := by decide +kernel
theorem eX7_isPatch_13 : decode (zYb kX7_isPatch) 13 = .ok (.invokevirtual 62, 3) := by decide +kernel
theorem eX7_isPatch_16 : decode (zYb kX7_isPatch) 16 = .ok (.iconst 1, 1) := by decide +kernel
theorem eX7_isPatch_17 : decode (zYb kX7_isPatch) 17 = .ok (.isub, 1) := by decide +kernel
theorem eX7_isPatch_18 : decode (zYb kX7_isPatch) 18 = .ok (.invokestatic 54, 3) := by decide +kernel
theorem eX7_isPatch_21 : decode (zYb kX7_isPatch) 21 = .ok (.ifCond .eq 7, 3) := by decide +kernel
theorem eX7_isPatch_24 : decode (zYb kX7_isPatch) 24 = .ok (.iconst 1, 1) := by decide +kernel
theorem eX7_isPatch_25 : decode (zYb kX7_isPatch) 25 = .ok (.goto 4, 3) := by decide +kernel
theorem eX7_isPatch_28 : decode (zYb kX7_isPatch) 28 = .ok (.iconst 0, 1) := by decide +kernel
theorem eX7_isPatch_29 : decode (zYb kX7_isPatch) 29 = .ok (.ireturn, 1) := by decide +kernel
theorem eX7_isSeam_0 : decode (zYb kX7_isSeam) 0 = .ok (.aload_n 0, 1) := by decide +kernel
theorem eX7_isSeam_1 : decode (zYb kX7_isSeam) 1 = .ok (.iload_n 1, 1) := by decide +kernel
theorem eX7_isSeam_2 : decode (zYb kX7_isSeam) 2 = .ok (.invokevirtual 58, 3) := by decide +kernel
theorem eX7_isSeam_5 : decode (zYb kX7_isSeam) 5 = .ok (.ifCond .eq 23, 3) := by decide +kernel
theorem eX7_isSeam_8 : decode (zYb kX7_isSeam) 8 = .ok (.iload_n 2, 1) := by decide +kernel
theorem eX7_isSeam_9 : decode (zYb kX7_isSeam) 9 = .ok (.iconst 0, 1) := by decide +kernel
theorem eX7_isSeam_10 : decode (zYb kX7_isSeam) 10 = .ok (.aload_n 0, 1) := by decide +kernel
theorem eX7_isSeam_11 : decode (zYb kX7_isSeam) 11 = .ok (.iload_n 1, 1) := by decide +kernel
theorem eX7_isSeam_12 : decode (zYb kX7_isSeam) 12 = .ok (.iconst 0, 1) := by decide +kernel
theorem eX7_isSeam_13 : decode (zYb kX7_isSeam) 13 = .ok (.invokevirtual 62, 3) := by decide +kernel
theorem eX7_isSeam_16 : decode (zYb kX7_isSeam) 16 = .ok (.iconst 2, 1) := by decide +kernel
theorem eX7_isSeam_17 : decode (zYb kX7_isSeam) 17 = .ok (.isub, 1) := by decide +kernel
theorem eX7_isSeam_18 : decode (zYb kX7_isSeam) 18 = .ok (.invokestatic 54, 3) := by decide +kernel
theorem eX7_isSeam_21 : decode (zYb kX7_isSeam) 21 = .ok (.ifCond .eq 7, 3) := by decide +kernel
theorem eX7_isSeam_24 : decode (zYb kX7_isSeam) 24 = .ok (.iconst 1, 1) := by decide +kernel
theorem eX7_isSeam_25 : decode (zYb kX7_isSeam) 25 = .ok (.goto 4, 3) := by decide +kernel
theorem eX7_isSeam_28 : decode (zYb kX7_isSeam) 28 = .ok (.iconst 0, 1) := by decide +kernel
theorem eX7_isSeam_29 : decode (zYb kX7_isSeam) 29 = .ok (.ireturn, 1) := by decide +kernel
theorem eX7_sizeOf_0 : decode (zYb kX7_sizeOf) 0 = .ok (.aload_n 0, 1) := by decide +kernel
theorem eX7_sizeOf_1 : decode (zYb kX7_sizeOf) 1 = .ok (.iload_n 1, 1) := by decide +kernel
theorem eX7_sizeOf_2 : decode (zYb kX7_sizeOf) 2 = .ok (.iconst 1, 1) := by decide +kernel
theorem eX7_sizeOf_3 : decode (zYb kX7_sizeOf) 3 = .ok (.iload_n 2, 1) := by decide +kernel
theorem eX7_sizeOf_4 : decode (zYb kX7_sizeOf) 4 = .ok (.iadd, 1) := by decide +kernel
theorem eX7_sizeOf_5 : decode (zYb kX7_sizeOf) 5 = .ok (.iconst 1, 1) := by decide +kernel
theorem eX7_sizeOf_6 : decode (zYb kX7_sizeOf) 6 = .ok (.iadd, 1) := by decide +kernel
theorem eX7_sizeOf_7 : decode (zYb kX7_sizeOf) 7 = .ok (.invokevirtual 62, 3) := by decide +kernel
theorem eX7_sizeOf_10 : decode (zYb kX7_sizeOf) 10 = .ok (.aload_n 0, 1) := by decide +kernel
theorem eX7_sizeOf_11 : decode (zYb kX7_sizeOf) 11 = .ok (.iload_n 1, 1) := by decide +kernel
theorem eX7_sizeOf_12 : decode (zYb kX7_sizeOf) 12 = .ok (.iconst 1, 1) := by decide +kernel
theorem eX7_sizeOf_13 : decode (zYb kX7_sizeOf) 13 = .ok (.iload_n 2, 1) := by decide +kernel
theorem eX7_sizeOf_14 : decode (zYb kX7_sizeOf) 14 = .ok (.iadd, 1) := by decide +kernel
theorem eX7_sizeOf_15 : decode (zYb kX7_sizeOf) 15 = .ok (.invokevirtual 62, 3) := by decide +kernel
theorem eX7_sizeOf_18 : decode (zYb kX7_sizeOf) 18 = .ok (.isub, 1) := by decide +kernel
theorem eX7_sizeOf_19 : decode (zYb kX7_sizeOf) 19 = .ok (.ireturn, 1) := by decide +kernel
theorem eX7_lettersOf_0 : decode (zYb kX7_lettersOf) 0 = .ok (.aload_n 0, 1) := by decide +kernel
theorem eX7_lettersOf_1 : decode (zYb kX7_lettersOf) 1 = .ok (.iload_n 1, 1) := by decide +kernel
theorem eX7_lettersOf_2 : decode (zYb kX7_lettersOf) 2 = .ok (.iconst 1, 1) := by decide +kernel
theorem eX7_lettersOf_3 : decode (zYb kX7_lettersOf) 3 = .ok (.aload_n 0, 1) := by decide +kernel
theorem eX7_lettersOf_4 : decode (zYb kX7_lettersOf) 4 = .ok (.iload_n 1, 1) := by decide +kernel
theorem eX7_lettersOf_5 : decode (zYb kX7_lettersOf) 5 = .ok (.iconst 0, 1) := by decide +kernel
theorem eX7_lettersOf_6 : decode (zYb kX7_lettersOf) 6 = .ok (.invokevirtual 62, 3) := by decide +kernel
theorem eX7_lettersOf_9 : decode (zYb kX7_lettersOf) 9 = .ok (.iadd, 1) := by decide +kernel
theorem eX7_lettersOf_10 : decode (zYb kX7_lettersOf) 10 = .ok (.invokevirtual 62, 3) := by decide +kernel
theorem eX7_lettersOf_13 : decode (zYb kX7_lettersOf) 13 = .ok (.ireturn, 1) := by decide +kernel
theorem eX7_take_0 : decode (zYb kX7_take) 0 = .ok (.aload_n 0, 1) := by decide +kernel
theorem eX7_take_1 : decode (zYb kX7_take) 1 = .ok (.aload_n 0, 1) := by decide +kernel
theorem eX7_take_2 : decode (zYb kX7_take) 2 = .ok (.iload_n 1, 1) := by decide +kernel
theorem eX7_take_3 : decode (zYb kX7_take) 3 = .ok (.iconst 0, 1) := by decide +kernel
theorem eX7_take_4 : decode (zYb kX7_take) 4 = .ok (.invokevirtual 62, 3) := by decide +kernel
theorem eX7_take_7 : decode (zYb kX7_take) 7 = .ok (.putfield 66, 3) := by decide +kernel
theorem eX7_take_10 : decode (zYb kX7_take) 10 = .ok (.iconst 0, 1) := by decide +kernel
theorem eX7_take_11 : decode (zYb kX7_take) 11 = .ok (.istore_n 2, 1) := by decide +kernel
theorem eX7_take_12 : decode (zYb kX7_take) 12 = .ok (.iload_n 2, 1) := by decide +kernel
theorem eX7_take_13 : decode (zYb kX7_take) 13 = .ok (.aload_n 0, 1) := by decide +kernel
theorem eX7_take_14 : decode (zYb kX7_take) 14 = .ok (.getfield 66, 3) := by decide +kernel
theorem eX7_take_17 : decode (zYb kX7_take) 17 = .ok (.if_icmp .gt 23, 3) := by decide +kernel
theorem eX7_take_20 : decode (zYb kX7_take) 20 = .ok (.aload_n 0, 1) := by decide +kernel
theorem eX7_take_21 : decode (zYb kX7_take) 21 = .ok (.getfield 25, 3) := by decide +kernel
theorem eX7_take_24 : decode (zYb kX7_take) 24 = .ok (.iload_n 2, 1) := by decide +kernel
theorem eX7_take_25 : decode (zYb kX7_take) 25 = .ok (.aload_n 0, 1) := by decide +kernel
theorem eX7_take_26 : decode (zYb kX7_take) 26 = .ok (.iload_n 1, 1) := by decide +kernel
theorem eX7_take_27 : decode (zYb kX7_take) 27 = .ok (.iconst 1, 1) := by decide +kernel
theorem eX7_take_28 : decode (zYb kX7_take) 28 = .ok (.iload_n 2, 1) := by decide +kernel
theorem eX7_take_29 : decode (zYb kX7_take) 29 = .ok (.iadd, 1) := by decide +kernel
theorem eX7_take_30 : decode (zYb kX7_take) 30 = .ok (.invokevirtual 62, 3) := by decide +kernel
theorem eX7_take_33 : decode (zYb kX7_take) 33 = .ok (.iastore, 1) := by decide +kernel
theorem eX7_take_34 : decode (zYb kX7_take) 34 = .ok (.iinc 2 1, 3) := by decide +kernel
theorem eX7_take_37 : decode (zYb kX7_take) 37 = .ok (.goto (-25), 3) := by decide +kernel
theorem eX7_take_40 : decode (zYb kX7_take) 40 = .ok (.iconst 0, 1) := by decide +kernel
theorem eX7_take_41 : decode (zYb kX7_take) 41 = .ok (.istore_n 2, 1) := by decide +kernel
theorem eX7_take_42 : decode (zYb kX7_take) 42 = .ok (.iload_n 2, 1) := by decide +kernel
theorem eX7_take_43 : decode (zYb kX7_take) 43 = .ok (.bipush 60, 2) := by decide +kernel
theorem eX7_take_45 : decode (zYb kX7_take) 45 = .ok (.if_icmp .ge 24, 3) := by decide +kernel
theorem eX7_take_48 : decode (zYb kX7_take) 48 = .ok (.aload_n 0, 1) := by decide +kernel
theorem eX7_take_49 : decode (zYb kX7_take) 49 = .ok (.getfield 28, 3) := by decide +kernel
theorem eX7_take_52 : decode (zYb kX7_take) 52 = .ok (.iload_n 2, 1) := by decide +kernel
theorem eX7_take_53 : decode (zYb kX7_take) 53 = .ok (.aload_n 0, 1) := by decide +kernel
theorem eX7_take_54 : decode (zYb kX7_take) 54 = .ok (.iload_n 1, 1) := by decide +kernel
theorem eX7_take_55 : decode (zYb kX7_take) 55 = .ok (.bipush 7, 2) := by decide +kernel
theorem eX7_take_57 : decode (zYb kX7_take) 57 = .ok (.iload_n 2, 1) := by decide +kernel
theorem eX7_take_58 : decode (zYb kX7_take) 58 = .ok (.iadd, 1) := by decide +kernel
theorem eX7_take_59 : decode (zYb kX7_take) 59 = .ok (.invokevirtual 62, 3) := by decide +kernel
theorem eX7_take_62 : decode (zYb kX7_take) 62 = .ok (.iastore, 1) := by decide +kernel
theorem eX7_take_63 : decode (zYb kX7_take) 63 = .ok (.iinc 2 1, 3) := by decide +kernel
theorem eX7_take_66 : decode (zYb kX7_take) 66 = .ok (.goto (-24), 3) := by decide +kernel
theorem eX7_take_69 : decode (zYb kX7_take) 69 = .ok (.return_, 1) := by decide +kernel
theorem eX7_give_0 : decode (zYb kX7_give) 0 = .ok (.iconst 1, 1) := by decide +kernel
theorem eX7_give_1 : decode (zYb kX7_give) 1 = .ok (.bipush 67, 2) := by decide +kernel
theorem eX7_give_3 : decode (zYb kX7_give) 3 = .ok (.iload_n 1, 1) := by decide +kernel
theorem eX7_give_4 : decode (zYb kX7_give) 4 = .ok (.imul, 1) := by decide +kernel
theorem eX7_give_5 : decode (zYb kX7_give) 5 = .ok (.iadd, 1) := by decide +kernel
theorem eX7_give_6 : decode (zYb kX7_give) 6 = .ok (.istore_n 2, 1) := by decide +kernel
theorem eX7_give_7 : decode (zYb kX7_give) 7 = .ok (.aload_n 0, 1) := by decide +kernel
theorem eX7_give_8 : decode (zYb kX7_give) 8 = .ok (.getfield 7, 3) := by decide +kernel
theorem eX7_give_11 : decode (zYb kX7_give) 11 = .ok (.iload_n 2, 1) := by decide +kernel
theorem eX7_give_12 : decode (zYb kX7_give) 12 = .ok (.aload_n 0, 1) := by decide +kernel
theorem eX7_give_13 : decode (zYb kX7_give) 13 = .ok (.getfield 66, 3) := by decide +kernel
theorem eX7_give_16 : decode (zYb kX7_give) 16 = .ok (.iastore, 1) := by decide +kernel
theorem eX7_give_17 : decode (zYb kX7_give) 17 = .ok (.iconst 0, 1) := by decide +kernel
theorem eX7_give_18 : decode (zYb kX7_give) 18 = .ok (.istore_n 3, 1) := by decide +kernel
theorem eX7_give_19 : decode (zYb kX7_give) 19 = .ok (.iload_n 3, 1) := by decide +kernel
theorem eX7_give_20 : decode (zYb kX7_give) 20 = .ok (.iconst 5, 1) := by decide +kernel
theorem eX7_give_21 : decode (zYb kX7_give) 21 = .ok (.if_icmp .gt 37, 3) := by decide +kernel
theorem eX7_give_24 : decode (zYb kX7_give) 24 = .ok (.aload_n 0, 1) := by decide +kernel
theorem eX7_give_25 : decode (zYb kX7_give) 25 = .ok (.getfield 7, 3) := by decide +kernel
theorem eX7_give_28 : decode (zYb kX7_give) 28 = .ok (.iload_n 2, 1) := by decide +kernel
theorem eX7_give_29 : decode (zYb kX7_give) 29 = .ok (.iconst 1, 1) := by decide +kernel
theorem eX7_give_30 : decode (zYb kX7_give) 30 = .ok (.iadd, 1) := by decide +kernel
theorem eX7_give_31 : decode (zYb kX7_give) 31 = .ok (.iload_n 3, 1) := by decide +kernel
theorem eX7_give_32 : decode (zYb kX7_give) 32 = .ok (.iadd, 1) := by decide +kernel
theorem eX7_give_33 : decode (zYb kX7_give) 33 = .ok (.iload_n 3, 1) := by decide +kernel
theorem eX7_give_34 : decode (zYb kX7_give) 34 = .ok (.aload_n 0, 1) := by decide +kernel
theorem eX7_give_35 : decode (zYb kX7_give) 35 = .ok (.getfield 66, 3) := by decide +kernel
theorem eX7_give_38 : decode (zYb kX7_give) 38 = .ok (.if_icmp .gt 12, 3) := by decide +kernel
theorem eX7_give_41 : decode (zYb kX7_give) 41 = .ok (.aload_n 0, 1) := by decide +kernel
theorem eX7_give_42 : decode (zYb kX7_give) 42 = .ok (.getfield 25, 3) := by decide +kernel
theorem eX7_give_45 : decode (zYb kX7_give) 45 = .ok (.iload_n 3, 1) := by decide +kernel
theorem eX7_give_46 : decode (zYb kX7_give) 46 = .ok (.iaload, 1) := by decide +kernel
theorem eX7_give_47 : decode (zYb kX7_give) 47 = .ok (.goto 4, 3) := by decide +kernel
theorem eX7_give_50 : decode (zYb kX7_give) 50 = .ok (.iconst 0, 1) := by decide +kernel
theorem eX7_give_51 : decode (zYb kX7_give) 51 = .ok (.iastore, 1) := by decide +kernel
theorem eX7_give_52 : decode (zYb kX7_give) 52 = .ok (.iinc 3 1, 3) := by decide +kernel
theorem eX7_give_55 : decode (zYb kX7_give) 55 = .ok (.goto (-36), 3) := by decide +kernel
theorem eX7_give_58 : decode (zYb kX7_give) 58 = .ok (.iconst 0, 1) := by decide +kernel
theorem eX7_give_59 : decode (zYb kX7_give) 59 = .ok (.istore_n 3, 1) := by decide +kernel
theorem eX7_give_60 : decode (zYb kX7_give) 60 = .ok (.iload_n 3, 1) := by decide +kernel
theorem eX7_give_61 : decode (zYb kX7_give) 61 = .ok (.bipush 60, 2) := by decide +kernel
theorem eX7_give_63 : decode (zYb kX7_give) 63 = .ok (.if_icmp .ge 43, 3) := by decide +kernel
theorem eX7_give_66 : decode (zYb kX7_give) 66 = .ok (.aload_n 0, 1) := by decide +kernel
theorem eX7_give_67 : decode (zYb kX7_give) 67 = .ok (.getfield 7, 3) := by decide +kernel
theorem eX7_give_70 : decode (zYb kX7_give) 70 = .ok (.iload_n 2, 1) := by decide +kernel
theorem eX7_give_71 : decode (zYb kX7_give) 71 = .ok (.bipush 7, 2) := by decide +kernel
theorem eX7_give_73 : decode (zYb kX7_give) 73 = .ok (.iadd, 1) := by decide +kernel
theorem eX7_give_74 : decode (zYb kX7_give) 74 = .ok (.iload_n 3, 1) := by decide +kernel
theorem eX7_give_75 : decode (zYb kX7_give) 75 = .ok (.iadd, 1) := by decide +kernel
theorem eX7_give_76 : decode (zYb kX7_give) 76 = .ok (.iload_n 3, 1) := by decide +kernel
theorem eX7_give_77 : decode (zYb kX7_give) 77 = .ok (.aload_n 0, 1) := by decide +kernel
theorem eX7_give_78 : decode (zYb kX7_give) 78 = .ok (.getfield 25, 3) := by decide +kernel
theorem eX7_give_81 : decode (zYb kX7_give) 81 = .ok (.aload_n 0, 1) := by decide +kernel
theorem eX7_give_82 : decode (zYb kX7_give) 82 = .ok (.getfield 66, 3) := by decide +kernel
theorem eX7_give_85 : decode (zYb kX7_give) 85 = .ok (.iaload, 1) := by decide +kernel
theorem eX7_give_86 : decode (zYb kX7_give) 86 = .ok (.if_icmp .ge 12, 3) := by decide +kernel
theorem eX7_give_89 : decode (zYb kX7_give) 89 = .ok (.aload_n 0, 1) := by decide +kernel
theorem eX7_give_90 : decode (zYb kX7_give) 90 = .ok (.getfield 28, 3) := by decide +kernel
theorem eX7_give_93 : decode (zYb kX7_give) 93 = .ok (.iload_n 3, 1) := by decide +kernel
theorem eX7_give_94 : decode (zYb kX7_give) 94 = .ok (.iaload, 1) := by decide +kernel
theorem eX7_give_95 : decode (zYb kX7_give) 95 = .ok (.goto 4, 3) := by decide +kernel
theorem eX7_give_98 : decode (zYb kX7_give) 98 = .ok (.iconst 0, 1) := by decide +kernel
theorem eX7_give_99 : decode (zYb kX7_give) 99 = .ok (.iastore, 1) := by decide +kernel
theorem eX7_give_100 : decode (zYb kX7_give) 100 = .ok (.iinc 3 1, 3) := by decide +kernel
theorem eX7_give_103 : decode (zYb kX7_give) 103 = .ok (.goto (-43), 3) := by decide +kernel
theorem eX7_give_106 : decode (zYb kX7_give) 106 = .ok (.return_, 1) := by decide +kernel
theorem eX7_goes_0 : decode (zYb kX7_goes) 0 = .ok (.aload_n 0, 1) := by decide +kernel
theorem eX7_goes_1 : decode (zYb kX7_goes) 1 = .ok (.getfield 7, 3) := by decide +kernel
theorem eX7_goes_4 : decode (zYb kX7_goes) 4 = .ok (.iconst 0, 1) := by decide +kernel
theorem eX7_goes_5 : decode (zYb kX7_goes) 5 = .ok (.dup2, 1) := by decide +kernel
theorem eX7_goes_6 : decode (zYb kX7_goes) 6 = .ok (.iaload, 1) := by decide +kernel
theorem eX7_goes_7 : decode (zYb kX7_goes) 7 = .ok (.iconst 1, 1) := by decide +kernel
theorem eX7_goes_8 : decode (zYb kX7_goes) 8 = .ok (.isub, 1) := by decide +kernel
theorem eX7_goes_9 : decode (zYb kX7_goes) 9 = .ok (.iastore, 1) := by decide +kernel
theorem eX7_goes_10 : decode (zYb kX7_goes) 10 = .ok (.iconst 1, 1) := by decide +kernel
theorem eX7_goes_11 : decode (zYb kX7_goes) 11 = .ok (.bipush 67, 2) := by decide +kernel
theorem eX7_goes_13 : decode (zYb kX7_goes) 13 = .ok (.iload_n 1, 1) := by decide +kernel
theorem eX7_goes_14 : decode (zYb kX7_goes) 14 = .ok (.imul, 1) := by decide +kernel
theorem eX7_goes_15 : decode (zYb kX7_goes) 15 = .ok (.iadd, 1) := by decide +kernel
theorem eX7_goes_16 : decode (zYb kX7_goes) 16 = .ok (.istore_n 2, 1) := by decide +kernel
theorem eX7_goes_17 : decode (zYb kX7_goes) 17 = .ok (.iload_n 2, 1) := by decide +kernel
theorem eX7_goes_18 : decode (zYb kX7_goes) 18 = .ok (.iconst 1, 1) := by decide +kernel
theorem eX7_goes_19 : decode (zYb kX7_goes) 19 = .ok (.bipush 67, 2) := by decide +kernel
theorem eX7_goes_21 : decode (zYb kX7_goes) 21 = .ok (.aload_n 0, 1) := by decide +kernel
theorem eX7_goes_22 : decode (zYb kX7_goes) 22 = .ok (.getfield 7, 3) := by decide +kernel
theorem eX7_goes_25 : decode (zYb kX7_goes) 25 = .ok (.iconst 0, 1) := by decide +kernel
theorem eX7_goes_26 : decode (zYb kX7_goes) 26 = .ok (.iaload, 1) := by decide +kernel
theorem eX7_goes_27 : decode (zYb kX7_goes) 27 = .ok (.imul, 1) := by decide +kernel
theorem eX7_goes_28 : decode (zYb kX7_goes) 28 = .ok (.iadd, 1) := by decide +kernel
theorem eX7_goes_29 : decode (zYb kX7_goes) 29 = .ok (.if_icmp .ge 24, 3) := by decide +kernel
theorem eX7_goes_32 : decode (zYb kX7_goes) 32 = .ok (.aload_n 0, 1) := by decide +kernel
theorem eX7_goes_33 : decode (zYb kX7_goes) 33 = .ok (.getfield 7, 3) := by decide +kernel
theorem eX7_goes_36 : decode (zYb kX7_goes) 36 = .ok (.iload_n 2, 1) := by decide +kernel
theorem eX7_goes_37 : decode (zYb kX7_goes) 37 = .ok (.aload_n 0, 1) := by decide +kernel
theorem eX7_goes_38 : decode (zYb kX7_goes) 38 = .ok (.getfield 7, 3) := by decide +kernel
theorem eX7_goes_41 : decode (zYb kX7_goes) 41 = .ok (.iload_n 2, 1) := by decide +kernel
theorem eX7_goes_42 : decode (zYb kX7_goes) 42 = .ok (.bipush 67, 2) := by decide +kernel
theorem eX7_goes_44 : decode (zYb kX7_goes) 44 = .ok (.iadd, 1) := by decide +kernel
theorem eX7_goes_45 : decode (zYb kX7_goes) 45 = .ok (.iaload, 1) := by decide +kernel
theorem eX7_goes_46 : decode (zYb kX7_goes) 46 = .ok (.iastore, 1) := by decide +kernel
theorem eX7_goes_47 : decode (zYb kX7_goes) 47 = .ok (.iinc 2 1, 3) := by decide +kernel
theorem eX7_goes_50 : decode (zYb kX7_goes) 50 = .ok (.goto (-33), 3) := by decide +kernel
theorem eX7_goes_53 : decode (zYb kX7_goes) 53 = .ok (.return_, 1) := by decide +kernel
theorem eX7_cutNow_0 : decode (zYb kX7_cutNow) 0 = .ok (.aload_n 0, 1) := by decide +kernel
theorem eX7_cutNow_1 : decode (zYb kX7_cutNow) 1 = .ok (.getfield 66, 3) := by decide +kernel
theorem eX7_cutNow_4 : decode (zYb kX7_cutNow) 4 = .ok (.istore_n 3, 1) := by decide +kernel
theorem eX7_cutNow_5 : decode (zYb kX7_cutNow) 5 = .ok (.iload_n 3, 1) := by decide +kernel
theorem eX7_cutNow_6 : decode (zYb kX7_cutNow) 6 = .ok (.iload_n 1, 1) := by decide +kernel
theorem eX7_cutNow_7 : decode (zYb kX7_cutNow) 7 = .ok (.if_icmp .le 23, 3) := by decide +kernel
theorem eX7_cutNow_10 : decode (zYb kX7_cutNow) 10 = .ok (.aload_n 0, 1) := by decide +kernel
theorem eX7_cutNow_11 : decode (zYb kX7_cutNow) 11 = .ok (.getfield 25, 3) := by decide +kernel
theorem eX7_cutNow_14 : decode (zYb kX7_cutNow) 14 = .ok (.iload_n 3, 1) := by decide +kernel
theorem eX7_cutNow_15 : decode (zYb kX7_cutNow) 15 = .ok (.iconst 1, 1) := by decide +kernel
theorem eX7_cutNow_16 : decode (zYb kX7_cutNow) 16 = .ok (.iadd, 1) := by decide +kernel
theorem eX7_cutNow_17 : decode (zYb kX7_cutNow) 17 = .ok (.aload_n 0, 1) := by decide +kernel
theorem eX7_cutNow_18 : decode (zYb kX7_cutNow) 18 = .ok (.getfield 25, 3) := by decide +kernel
theorem eX7_cutNow_21 : decode (zYb kX7_cutNow) 21 = .ok (.iload_n 3, 1) := by decide +kernel
theorem eX7_cutNow_22 : decode (zYb kX7_cutNow) 22 = .ok (.iaload, 1) := by decide +kernel
theorem eX7_cutNow_23 : decode (zYb kX7_cutNow) 23 = .ok (.iastore, 1) := by decide +kernel
theorem eX7_cutNow_24 : decode (zYb kX7_cutNow) 24 = .ok (.iinc 3 (-1), 3) := by decide +kernel
theorem eX7_cutNow_27 : decode (zYb kX7_cutNow) 27 = .ok (.goto (-22), 3) := by decide +kernel
theorem eX7_cutNow_30 : decode (zYb kX7_cutNow) 30 = .ok (.aload_n 0, 1) := by decide +kernel
theorem eX7_cutNow_31 : decode (zYb kX7_cutNow) 31 = .ok (.getfield 25, 3) := by decide +kernel
theorem eX7_cutNow_34 : decode (zYb kX7_cutNow) 34 = .ok (.iload_n 1, 1) := by decide +kernel
theorem eX7_cutNow_35 : decode (zYb kX7_cutNow) 35 = .ok (.iconst 1, 1) := by decide +kernel
theorem eX7_cutNow_36 : decode (zYb kX7_cutNow) 36 = .ok (.iadd, 1) := by decide +kernel
theorem eX7_cutNow_37 : decode (zYb kX7_cutNow) 37 = .ok (.aload_n 0, 1) := by decide +kernel
theorem eX7_cutNow_38 : decode (zYb kX7_cutNow) 38 = .ok (.getfield 25, 3) := by decide +kernel
theorem eX7_cutNow_41 : decode (zYb kX7_cutNow) 41 = .ok (.iload_n 1, 1) := by decide +kernel
theorem eX7_cutNow_42 : decode (zYb kX7_cutNow) 42 = .ok (.iaload, 1) := by decide +kernel
theorem eX7_cutNow_43 : decode (zYb kX7_cutNow) 43 = .ok (.iload_n 2, 1) := by decide +kernel
theorem eX7_cutNow_44 : decode (zYb kX7_cutNow) 44 = .ok (.iadd, 1) := by decide +kernel
theorem eX7_cutNow_45 : decode (zYb kX7_cutNow) 45 = .ok (.iastore, 1) := by decide +kernel
theorem eX7_cutNow_46 : decode (zYb kX7_cutNow) 46 = .ok (.aload_n 0, 1) := by decide +kernel
theorem eX7_cutNow_47 : decode (zYb kX7_cutNow) 47 = .ok (.dup, 1) := by decide +kernel
theorem eX7_cutNow_48 : decode (zYb kX7_cutNow) 48 = .ok (.getfield 66, 3) := by decide +kernel
theorem eX7_cutNow_51 : decode (zYb kX7_cutNow) 51 = .ok (.iconst 1, 1) := by decide +kernel
theorem eX7_cutNow_52 : decode (zYb kX7_cutNow) 52 = .ok (.iadd, 1) := by decide +kernel
theorem eX7_cutNow_53 : decode (zYb kX7_cutNow) 53 = .ok (.putfield 66, 3) := by decide +kernel
theorem eX7_cutNow_56 : decode (zYb kX7_cutNow) 56 = .ok (.return_, 1) := by decide +kernel
theorem eX7_undoNow_0 : decode (zYb kX7_undoNow) 0 = .ok (.iload_n 1, 1) := by decide +kernel
theorem eX7_undoNow_1 : decode (zYb kX7_undoNow) 1 = .ok (.iconst 1, 1) := by decide +kernel
theorem eX7_undoNow_2 : decode (zYb kX7_undoNow) 2 = .ok (.iadd, 1) := by decide +kernel
theorem eX7_undoNow_3 : decode (zYb kX7_undoNow) 3 = .ok (.istore_n 2, 1) := by decide +kernel
theorem eX7_undoNow_4 : decode (zYb kX7_undoNow) 4 = .ok (.iload_n 2, 1) := by decide +kernel
theorem eX7_undoNow_5 : decode (zYb kX7_undoNow) 5 = .ok (.aload_n 0, 1) := by decide +kernel
theorem eX7_undoNow_6 : decode (zYb kX7_undoNow) 6 = .ok (.getfield 66, 3) := by decide +kernel
theorem eX7_undoNow_9 : decode (zYb kX7_undoNow) 9 = .ok (.if_icmp .ge 23, 3) := by decide +kernel
theorem eX7_undoNow_12 : decode (zYb kX7_undoNow) 12 = .ok (.aload_n 0, 1) := by decide +kernel
theorem eX7_undoNow_13 : decode (zYb kX7_undoNow) 13 = .ok (.getfield 25, 3) := by decide +kernel
theorem eX7_undoNow_16 : decode (zYb kX7_undoNow) 16 = .ok (.iload_n 2, 1) := by decide +kernel
theorem eX7_undoNow_17 : decode (zYb kX7_undoNow) 17 = .ok (.aload_n 0, 1) := by decide +kernel
theorem eX7_undoNow_18 : decode (zYb kX7_undoNow) 18 = .ok (.getfield 25, 3) := by decide +kernel
theorem eX7_undoNow_21 : decode (zYb kX7_undoNow) 21 = .ok (.iload_n 2, 1) := by decide +kernel
theorem eX7_undoNow_22 : decode (zYb kX7_undoNow) 22 = .ok (.iconst 1, 1) := by decide +kernel
theorem eX7_undoNow_23 : decode (zYb kX7_undoNow) 23 = .ok (.iadd, 1) := by decide +kernel
theorem eX7_undoNow_24 : decode (zYb kX7_undoNow) 24 = .ok (.iaload, 1) := by decide +kernel
theorem eX7_undoNow_25 : decode (zYb kX7_undoNow) 25 = .ok (.iastore, 1) := by decide +kernel
theorem eX7_undoNow_26 : decode (zYb kX7_undoNow) 26 = .ok (.iinc 2 1, 3) := by decide +kernel
theorem eX7_undoNow_29 : decode (zYb kX7_undoNow) 29 = .ok (.goto (-25), 3) := by decide +kernel
theorem eX7_undoNow_32 : decode (zYb kX7_undoNow) 32 = .ok (.aload_n 0, 1) := by decide +kernel
theorem eX7_undoNow_33 : decode (zYb kX7_undoNow) 33 = .ok (.dup, 1) := by decide +kernel
theorem eX7_undoNow_34 : decode (zYb kX7_undoNow) 34 = .ok (.getfield 66, 3) := by decide +kernel
theorem eX7_undoNow_37 : decode (zYb kX7_undoNow) 37 = .ok (.iconst 1, 1) := by decide +kernel
theorem eX7_undoNow_38 : decode (zYb kX7_undoNow) 38 = .ok (.isub, 1) := by decide +kernel
theorem eX7_undoNow_39 : decode (zYb kX7_undoNow) 39 = .ok (.putfield 66, 3) := by decide +kernel
theorem eX7_undoNow_42 : decode (zYb kX7_undoNow) 42 = .ok (.return_, 1) := by decide +kernel
theorem eX7_layDown_0 : decode (zYb kX7_layDown) 0 = .ok (.bipush 60, 2) := by decide +kernel
theorem eX7_layDown_2 : decode (zYb kX7_layDown) 2 = .ok (.iload_n 1, 1) := by decide +kernel
theorem eX7_layDown_3 : decode (zYb kX7_layDown) 3 = .ok (.imul, 1) := by decide +kernel
theorem eX7_layDown_4 : decode (zYb kX7_layDown) 4 = .ok (.istore_n 2, 1) := by decide +kernel
theorem eX7_layDown_5 : decode (zYb kX7_layDown) 5 = .ok (.iload_n 1, 1) := by decide +kernel
theorem eX7_layDown_6 : decode (zYb kX7_layDown) 6 = .ok (.aload_n 0, 1) := by decide +kernel
theorem eX7_layDown_7 : decode (zYb kX7_layDown) 7 = .ok (.getfield 66, 3) := by decide +kernel
theorem eX7_layDown_10 : decode (zYb kX7_layDown) 10 = .ok (.ishr, 1) := by decide +kernel
theorem eX7_layDown_11 : decode (zYb kX7_layDown) 11 = .ok (.iconst 1, 1) := by decide +kernel
theorem eX7_layDown_12 : decode (zYb kX7_layDown) 12 = .ok (.iand, 1) := by decide +kernel
theorem eX7_layDown_13 : decode (zYb kX7_layDown) 13 = .ok (.iconst 1, 1) := by decide +kernel
theorem eX7_layDown_14 : decode (zYb kX7_layDown) 14 = .ok (.if_icmp .ne 7, 3) := by decide +kernel
theorem eX7_layDown_17 : decode (zYb kX7_layDown) 17 = .ok (.iconst 1, 1) := by decide +kernel
theorem eX7_layDown_18 : decode (zYb kX7_layDown) 18 = .ok (.goto 4, 3) := by decide +kernel
theorem eX7_layDown_21 : decode (zYb kX7_layDown) 21 = .ok (.iconst 0, 1) := by decide +kernel
theorem eX7_layDown_22 : decode (zYb kX7_layDown) 22 = .ok (.istore_n 3, 1) := by decide +kernel
theorem eX7_layDown_23 : decode (zYb kX7_layDown) 23 = .ok (.iconst 0, 1) := by decide +kernel
theorem eX7_layDown_24 : decode (zYb kX7_layDown) 24 = .ok (.istore 4, 2) := by decide +kernel
theorem eX7_layDown_26 : decode (zYb kX7_layDown) 26 = .ok (.iload 4, 2) := by decide +kernel
theorem eX7_layDown_28 : decode (zYb kX7_layDown) 28 = .ok (.aload_n 0, 1) := by decide +kernel
theorem eX7_layDown_29 : decode (zYb kX7_layDown) 29 = .ok (.getfield 66, 3) := by decide +kernel
theorem eX7_layDown_32 : decode (zYb kX7_layDown) 32 = .ok (.if_icmp .ge 123, 3) := by decide +kernel
theorem eX7_layDown_35 : decode (zYb kX7_layDown) 35 = .ok (.iload_n 3, 1) := by decide +kernel
theorem eX7_layDown_36 : decode (zYb kX7_layDown) 36 = .ok (.ifCond .eq 15, 3) := by decide +kernel
theorem eX7_layDown_39 : decode (zYb kX7_layDown) 39 = .ok (.aload_n 0, 1) := by decide +kernel
theorem eX7_layDown_40 : decode (zYb kX7_layDown) 40 = .ok (.getfield 66, 3) := by decide +kernel
theorem eX7_layDown_43 : decode (zYb kX7_layDown) 43 = .ok (.iconst 1, 1) := by decide +kernel
theorem eX7_layDown_44 : decode (zYb kX7_layDown) 44 = .ok (.isub, 1) := by decide +kernel
theorem eX7_layDown_45 : decode (zYb kX7_layDown) 45 = .ok (.iload 4, 2) := by decide +kernel
theorem eX7_layDown_47 : decode (zYb kX7_layDown) 47 = .ok (.isub, 1) := by decide +kernel
theorem eX7_layDown_48 : decode (zYb kX7_layDown) 48 = .ok (.goto 5, 3) := by decide +kernel
theorem eX7_layDown_51 : decode (zYb kX7_layDown) 51 = .ok (.iload 4, 2) := by decide +kernel
theorem eX7_layDown_53 : decode (zYb kX7_layDown) 53 = .ok (.istore 5, 2) := by decide +kernel
theorem eX7_layDown_55 : decode (zYb kX7_layDown) 55 = .ok (.iload_n 1, 1) := by decide +kernel
theorem eX7_layDown_56 : decode (zYb kX7_layDown) 56 = .ok (.iload 5, 2) := by decide +kernel
theorem eX7_layDown_58 : decode (zYb kX7_layDown) 58 = .ok (.ishr, 1) := by decide +kernel
theorem eX7_layDown_59 : decode (zYb kX7_layDown) 59 = .ok (.iconst 1, 1) := by decide +kernel
theorem eX7_layDown_60 : decode (zYb kX7_layDown) 60 = .ok (.iand, 1) := by decide +kernel
theorem eX7_layDown_61 : decode (zYb kX7_layDown) 61 = .ok (.iconst 1, 1) := by decide +kernel
theorem eX7_layDown_62 : decode (zYb kX7_layDown) 62 = .ok (.if_icmp .ne 7, 3) := by decide +kernel
theorem eX7_layDown_65 : decode (zYb kX7_layDown) 65 = .ok (.iconst 1, 1) := by decide +kernel
theorem eX7_layDown_66 : decode (zYb kX7_layDown) 66 = .ok (.goto 4, 3) := by decide +kernel
theorem eX7_layDown_69 : decode (zYb kX7_layDown) 69 = .ok (.iconst 0, 1) := by decide +kernel
theorem eX7_layDown_70 : decode (zYb kX7_layDown) 70 = .ok (.istore 6, 2) := by decide +kernel
theorem eX7_layDown_72 : decode (zYb kX7_layDown) 72 = .ok (.iconst 0, 1) := by decide +kernel
theorem eX7_layDown_73 : decode (zYb kX7_layDown) 73 = .ok (.istore 7, 2) := by decide +kernel
theorem eX7_layDown_75 : decode (zYb kX7_layDown) 75 = .ok (.iload 7, 2) := by decide +kernel
theorem eX7_layDown_77 : decode (zYb kX7_layDown) 77 = .ok (.aload_n 0, 1) := by decide +kernel
theorem eX7_layDown_78 : decode (zYb kX7_layDown) 78 = .ok (.getfield 25, 3) := by decide +kernel
theorem eX7_layDown_81 : decode (zYb kX7_layDown) 81 = .ok (.iload 5, 2) := by decide +kernel
theorem eX7_layDown_83 : decode (zYb kX7_layDown) 83 = .ok (.iconst 1, 1) := by decide +kernel
theorem eX7_layDown_84 : decode (zYb kX7_layDown) 84 = .ok (.iadd, 1) := by decide +kernel
theorem eX7_layDown_85 : decode (zYb kX7_layDown) 85 = .ok (.iaload, 1) := by decide +kernel
theorem eX7_layDown_86 : decode (zYb kX7_layDown) 86 = .ok (.aload_n 0, 1) := by decide +kernel
theorem eX7_layDown_87 : decode (zYb kX7_layDown) 87 = .ok (.getfield 25, 3) := by decide +kernel
theorem eX7_layDown_90 : decode (zYb kX7_layDown) 90 = .ok (.iload 5, 2) := by decide +kernel
theorem eX7_layDown_92 : decode (zYb kX7_layDown) 92 = .ok (.iaload, 1) := by decide +kernel
theorem eX7_layDown_93 : decode (zYb kX7_layDown) 93 = .ok (.isub, 1) := by decide +kernel
theorem eX7_layDown_94 : decode (zYb kX7_layDown) 94 = .ok (.if_icmp .ge 55, 3) := by decide +kernel
theorem eX7_layDown_97 : decode (zYb kX7_layDown) 97 = .ok (.aload_n 0, 1) := by decide +kernel
theorem eX7_layDown_98 : decode (zYb kX7_layDown) 98 = .ok (.getfield 31, 3) := by decide +kernel
theorem eX7_layDown_101 : decode (zYb kX7_layDown) 101 = .ok (.iload_n 2, 1) := by decide +kernel
theorem eX7_layDown_102 : decode (zYb kX7_layDown) 102 = .ok (.aload_n 0, 1) := by decide +kernel
theorem eX7_layDown_103 : decode (zYb kX7_layDown) 103 = .ok (.getfield 28, 3) := by decide +kernel
theorem eX7_layDown_106 : decode (zYb kX7_layDown) 106 = .ok (.iload 6, 2) := by decide +kernel
theorem eX7_layDown_108 : decode (zYb kX7_layDown) 108 = .ok (.ifCond .eq 20, 3) := by decide +kernel
theorem eX7_layDown_111 : decode (zYb kX7_layDown) 111 = .ok (.aload_n 0, 1) := by decide +kernel
theorem eX7_layDown_112 : decode (zYb kX7_layDown) 112 = .ok (.getfield 25, 3) := by decide +kernel
theorem eX7_layDown_115 : decode (zYb kX7_layDown) 115 = .ok (.iload 5, 2) := by decide +kernel
theorem eX7_layDown_117 : decode (zYb kX7_layDown) 117 = .ok (.iconst 1, 1) := by decide +kernel
theorem eX7_layDown_118 : decode (zYb kX7_layDown) 118 = .ok (.iadd, 1) := by decide +kernel
theorem eX7_layDown_119 : decode (zYb kX7_layDown) 119 = .ok (.iaload, 1) := by decide +kernel
theorem eX7_layDown_120 : decode (zYb kX7_layDown) 120 = .ok (.iconst 1, 1) := by decide +kernel
theorem eX7_layDown_121 : decode (zYb kX7_layDown) 121 = .ok (.isub, 1) := by decide +kernel
theorem eX7_layDown_122 : decode (zYb kX7_layDown) 122 = .ok (.iload 7, 2) := by decide +kernel
theorem eX7_layDown_124 : decode (zYb kX7_layDown) 124 = .ok (.isub, 1) := by decide +kernel
theorem eX7_layDown_125 : decode (zYb kX7_layDown) 125 = .ok (.goto 13, 3) := by decide +kernel
theorem eX7_layDown_128 : decode (zYb kX7_layDown) 128 = .ok (.aload_n 0, 1) := by decide +kernel
theorem eX7_layDown_129 : decode (zYb kX7_layDown) 129 = .ok (.getfield 25, 3) := by decide +kernel
theorem eX7_layDown_132 : decode (zYb kX7_layDown) 132 = .ok (.iload 5, 2) := by decide +kernel
theorem eX7_layDown_134 : decode (zYb kX7_layDown) 134 = .ok (.iaload, 1) := by decide +kernel
theorem eX7_layDown_135 : decode (zYb kX7_layDown) 135 = .ok (.iload 7, 2) := by decide +kernel
theorem eX7_layDown_137 : decode (zYb kX7_layDown) 137 = .ok (.iadd, 1) := by decide +kernel
theorem eX7_layDown_138 : decode (zYb kX7_layDown) 138 = .ok (.iaload, 1) := by decide +kernel
theorem eX7_layDown_139 : decode (zYb kX7_layDown) 139 = .ok (.iastore, 1) := by decide +kernel
theorem eX7_layDown_140 : decode (zYb kX7_layDown) 140 = .ok (.iinc 2 1, 3) := by decide +kernel
theorem eX7_layDown_143 : decode (zYb kX7_layDown) 143 = .ok (.iinc 7 1, 3) := by decide +kernel
theorem eX7_layDown_146 : decode (zYb kX7_layDown) 146 = .ok (.goto (-71), 3) := by decide +kernel
theorem eX7_layDown_149 : decode (zYb kX7_layDown) 149 = .ok (.iinc 4 1, 3) := by decide +kernel
theorem eX7_layDown_152 : decode (zYb kX7_layDown) 152 = .ok (.goto (-126), 3) := by decide +kernel
theorem eX7_layDown_155 : decode (zYb kX7_layDown) 155 = .ok (.return_, 1) := by decide +kernel
theorem eX7_compared_0 : decode (zYb kX7_compared) 0 = .ok (.iconst 0, 1) := by decide +kernel
theorem eX7_compared_1 : decode (zYb kX7_compared) 1 = .ok (.istore 5, 2) := by decide +kernel
theorem eX7_compared_3 : decode (zYb kX7_compared) 3 = .ok (.iload 5, 2) := by decide +kernel
theorem eX7_compared_5 : decode (zYb kX7_compared) 5 = .ok (.iload 4, 2) := by decide +kernel
theorem eX7_compared_7 : decode (zYb kX7_compared) 7 = .ok (.if_icmp .ge 38, 3) := by decide +kernel
theorem eX7_compared_10 : decode (zYb kX7_compared) 10 = .ok (.aload_n 0, 1) := by decide +kernel
theorem eX7_compared_11 : decode (zYb kX7_compared) 11 = .ok (.iload_n 1, 1) := by decide +kernel
theorem eX7_compared_12 : decode (zYb kX7_compared) 12 = .ok (.iload 5, 2) := by decide +kernel
theorem eX7_compared_14 : decode (zYb kX7_compared) 14 = .ok (.iadd, 1) := by decide +kernel
theorem eX7_compared_15 : decode (zYb kX7_compared) 15 = .ok (.iaload, 1) := by decide +kernel
theorem eX7_compared_16 : decode (zYb kX7_compared) 16 = .ok (.aload_n 2, 1) := by decide +kernel
theorem eX7_compared_17 : decode (zYb kX7_compared) 17 = .ok (.iload_n 3, 1) := by decide +kernel
theorem eX7_compared_18 : decode (zYb kX7_compared) 18 = .ok (.iload 5, 2) := by decide +kernel
theorem eX7_compared_20 : decode (zYb kX7_compared) 20 = .ok (.iadd, 1) := by decide +kernel
theorem eX7_compared_21 : decode (zYb kX7_compared) 21 = .ok (.iaload, 1) := by decide +kernel
theorem eX7_compared_22 : decode (zYb kX7_compared) 22 = .ok (.if_icmp .eq 17, 3) := by decide +kernel
theorem eX7_compared_25 : decode (zYb kX7_compared) 25 = .ok (.aload_n 0, 1) := by decide +kernel
theorem eX7_compared_26 : decode (zYb kX7_compared) 26 = .ok (.iload_n 1, 1) := by decide +kernel
theorem eX7_compared_27 : decode (zYb kX7_compared) 27 = .ok (.iload 5, 2) := by decide +kernel
theorem eX7_compared_29 : decode (zYb kX7_compared) 29 = .ok (.iadd, 1) := by decide +kernel
theorem eX7_compared_30 : decode (zYb kX7_compared) 30 = .ok (.iaload, 1) := by decide +kernel
theorem eX7_compared_31 : decode (zYb kX7_compared) 31 = .ok (.aload_n 2, 1) := by decide +kernel
theorem eX7_compared_32 : decode (zYb kX7_compared) 32 = .ok (.iload_n 3, 1) := by decide +kernel
theorem eX7_compared_33 : decode (zYb kX7_compared) 33 = .ok (.iload 5, 2) := by decide +kernel
theorem eX7_compared_35 : decode (zYb kX7_compared) 35 = .ok (.iadd, 1) := by decide +kernel
theorem eX7_compared_36 : decode (zYb kX7_compared) 36 = .ok (.iaload, 1) := by decide +kernel
theorem eX7_compared_37 : decode (zYb kX7_compared) 37 = .ok (.isub, 1) := by decide +kernel
theorem eX7_compared_38 : decode (zYb kX7_compared) 38 = .ok (.ireturn, 1) := by decide +kernel
theorem eX7_compared_39 : decode (zYb kX7_compared) 39 = .ok (.iinc 5 1, 3) := by decide +kernel
theorem eX7_compared_42 : decode (zYb kX7_compared) 42 = .ok (.goto (-39), 3) := by decide +kernel
theorem eX7_compared_45 : decode (zYb kX7_compared) 45 = .ok (.iconst 0, 1) := by decide +kernel
theorem eX7_compared_46 : decode (zYb kX7_compared) 46 = .ok (.ireturn, 1) := by decide +kernel
theorem eX7_takeIn_0 : decode (zYb kX7_takeIn) 0 = .ok (.aload_n 0, 1) := by decide +kernel
theorem eX7_takeIn_1 : decode (zYb kX7_takeIn) 1 = .ok (.getfield 69, 3) := by decide +kernel
theorem eX7_takeIn_4 : decode (zYb kX7_takeIn) 4 = .ok (.istore_n 2, 1) := by decide +kernel
theorem eX7_takeIn_5 : decode (zYb kX7_takeIn) 5 = .ok (.iconst 1, 1) := by decide +kernel
theorem eX7_takeIn_6 : decode (zYb kX7_takeIn) 6 = .ok (.istore_n 3, 1) := by decide +kernel
theorem eX7_takeIn_7 : decode (zYb kX7_takeIn) 7 = .ok (.iload_n 2, 1) := by decide +kernel
theorem eX7_takeIn_8 : decode (zYb kX7_takeIn) 8 = .ok (.ifCond .le 53, 3) := by decide +kernel
theorem eX7_takeIn_11 : decode (zYb kX7_takeIn) 11 = .ok (.iload_n 3, 1) := by decide +kernel
theorem eX7_takeIn_12 : decode (zYb kX7_takeIn) 12 = .ok (.ifCond .le 49, 3) := by decide +kernel
theorem eX7_takeIn_15 : decode (zYb kX7_takeIn) 15 = .ok (.aload_n 0, 1) := by decide +kernel
theorem eX7_takeIn_16 : decode (zYb kX7_takeIn) 16 = .ok (.getfield 31, 3) := by decide +kernel
theorem eX7_takeIn_19 : decode (zYb kX7_takeIn) 19 = .ok (.bipush 60, 2) := by decide +kernel
theorem eX7_takeIn_21 : decode (zYb kX7_takeIn) 21 = .ok (.aload_n 0, 1) := by decide +kernel
theorem eX7_takeIn_22 : decode (zYb kX7_takeIn) 22 = .ok (.getfield 34, 3) := by decide +kernel
theorem eX7_takeIn_25 : decode (zYb kX7_takeIn) 25 = .ok (.iload_n 2, 1) := by decide +kernel
theorem eX7_takeIn_26 : decode (zYb kX7_takeIn) 26 = .ok (.iconst 1, 1) := by decide +kernel
theorem eX7_takeIn_27 : decode (zYb kX7_takeIn) 27 = .ok (.isub, 1) := by decide +kernel
theorem eX7_takeIn_28 : decode (zYb kX7_takeIn) 28 = .ok (.iaload, 1) := by decide +kernel
theorem eX7_takeIn_29 : decode (zYb kX7_takeIn) 29 = .ok (.imul, 1) := by decide +kernel
theorem eX7_takeIn_30 : decode (zYb kX7_takeIn) 30 = .ok (.aload_n 0, 1) := by decide +kernel
theorem eX7_takeIn_31 : decode (zYb kX7_takeIn) 31 = .ok (.getfield 31, 3) := by decide +kernel
theorem eX7_takeIn_34 : decode (zYb kX7_takeIn) 34 = .ok (.bipush 60, 2) := by decide +kernel
theorem eX7_takeIn_36 : decode (zYb kX7_takeIn) 36 = .ok (.iload_n 1, 1) := by decide +kernel
theorem eX7_takeIn_37 : decode (zYb kX7_takeIn) 37 = .ok (.imul, 1) := by decide +kernel
theorem eX7_takeIn_38 : decode (zYb kX7_takeIn) 38 = .ok (.aload_n 0, 1) := by decide +kernel
theorem eX7_takeIn_39 : decode (zYb kX7_takeIn) 39 = .ok (.getfield 72, 3) := by decide +kernel
theorem eX7_takeIn_42 : decode (zYb kX7_takeIn) 42 = .ok (.invokestatic 75, 3) := by decide +kernel
theorem eX7_takeIn_45 : decode (zYb kX7_takeIn) 45 = .ok (.istore_n 3, 1) := by decide +kernel
theorem eX7_takeIn_46 : decode (zYb kX7_takeIn) 46 = .ok (.iload_n 2, 1) := by decide +kernel
theorem eX7_takeIn_47 : decode (zYb kX7_takeIn) 47 = .ok (.iload_n 3, 1) := by decide +kernel
theorem eX7_takeIn_48 : decode (zYb kX7_takeIn) 48 = .ok (.ifCond .le 7, 3) := by decide +kernel
theorem eX7_takeIn_51 : decode (zYb kX7_takeIn) 51 = .ok (.iconst 1, 1) := by decide +kernel
theorem eX7_takeIn_52 : decode (zYb kX7_takeIn) 52 = .ok (.goto 4, 3) := by decide +kernel
theorem eX7_takeIn_55 : decode (zYb kX7_takeIn) 55 = .ok (.iconst 0, 1) := by decide +kernel
theorem eX7_takeIn_56 : decode (zYb kX7_takeIn) 56 = .ok (.isub, 1) := by decide +kernel
theorem eX7_takeIn_57 : decode (zYb kX7_takeIn) 57 = .ok (.istore_n 2, 1) := by decide +kernel
theorem eX7_takeIn_58 : decode (zYb kX7_takeIn) 58 = .ok (.goto (-51), 3) := by decide +kernel
theorem eX7_takeIn_61 : decode (zYb kX7_takeIn) 61 = .ok (.iload_n 2, 1) := by decide +kernel
theorem eX7_takeIn_62 : decode (zYb kX7_takeIn) 62 = .ok (.ifCond .le 8, 3) := by decide +kernel
theorem eX7_takeIn_65 : decode (zYb kX7_takeIn) 65 = .ok (.iload_n 3, 1) := by decide +kernel
theorem eX7_takeIn_66 : decode (zYb kX7_takeIn) 66 = .ok (.ifCond .ne 4, 3) := by decide +kernel
theorem eX7_takeIn_69 : decode (zYb kX7_takeIn) 69 = .ok (.return_, 1) := by decide +kernel
theorem eX7_takeIn_70 : decode (zYb kX7_takeIn) 70 = .ok (.aload_n 0, 1) := by decide +kernel
theorem eX7_takeIn_71 : decode (zYb kX7_takeIn) 71 = .ok (.getfield 69, 3) := by decide +kernel
theorem eX7_takeIn_74 : decode (zYb kX7_takeIn) 74 = .ok (.istore 4, 2) := by decide +kernel
theorem eX7_takeIn_76 : decode (zYb kX7_takeIn) 76 = .ok (.iload 4, 2) := by decide +kernel
theorem eX7_takeIn_78 : decode (zYb kX7_takeIn) 78 = .ok (.iload_n 2, 1) := by decide +kernel
theorem eX7_takeIn_79 : decode (zYb kX7_takeIn) 79 = .ok (.if_icmp .le 25, 3) := by decide +kernel
theorem eX7_takeIn_82 : decode (zYb kX7_takeIn) 82 = .ok (.aload_n 0, 1) := by decide +kernel
theorem eX7_takeIn_83 : decode (zYb kX7_takeIn) 83 = .ok (.getfield 34, 3) := by decide +kernel
theorem eX7_takeIn_86 : decode (zYb kX7_takeIn) 86 = .ok (.iload 4, 2) := by decide +kernel
theorem eX7_takeIn_88 : decode (zYb kX7_takeIn) 88 = .ok (.aload_n 0, 1) := by decide +kernel
theorem eX7_takeIn_89 : decode (zYb kX7_takeIn) 89 = .ok (.getfield 34, 3) := by decide +kernel
theorem eX7_takeIn_92 : decode (zYb kX7_takeIn) 92 = .ok (.iload 4, 2) := by decide +kernel
theorem eX7_takeIn_94 : decode (zYb kX7_takeIn) 94 = .ok (.iconst 1, 1) := by decide +kernel
theorem eX7_takeIn_95 : decode (zYb kX7_takeIn) 95 = .ok (.isub, 1) := by decide +kernel
theorem eX7_takeIn_96 : decode (zYb kX7_takeIn) 96 = .ok (.iaload, 1) := by decide +kernel
theorem eX7_takeIn_97 : decode (zYb kX7_takeIn) 97 = .ok (.iastore, 1) := by decide +kernel
theorem eX7_takeIn_98 : decode (zYb kX7_takeIn) 98 = .ok (.iinc 4 (-1), 3) := by decide +kernel
theorem eX7_takeIn_101 : decode (zYb kX7_takeIn) 101 = .ok (.goto (-25), 3) := by decide +kernel
theorem eX7_takeIn_104 : decode (zYb kX7_takeIn) 104 = .ok (.aload_n 0, 1) := by decide +kernel
theorem eX7_takeIn_105 : decode (zYb kX7_takeIn) 105 = .ok (.getfield 34, 3) := by decide +kernel
theorem eX7_takeIn_108 : decode (zYb kX7_takeIn) 108 = .ok (.iload_n 2, 1) := by decide +kernel
theorem eX7_takeIn_109 : decode (zYb kX7_takeIn) 109 = .ok (.iload_n 1, 1) := by decide +kernel
theorem eX7_takeIn_110 : decode (zYb kX7_takeIn) 110 = .ok (.iastore, 1) := by decide +kernel
theorem eX7_takeIn_111 : decode (zYb kX7_takeIn) 111 = .ok (.aload_n 0, 1) := by decide +kernel
theorem eX7_takeIn_112 : decode (zYb kX7_takeIn) 112 = .ok (.dup, 1) := by decide +kernel
theorem eX7_takeIn_113 : decode (zYb kX7_takeIn) 113 = .ok (.getfield 69, 3) := by decide +kernel
theorem eX7_takeIn_116 : decode (zYb kX7_takeIn) 116 = .ok (.iconst 1, 1) := by decide +kernel
theorem eX7_takeIn_117 : decode (zYb kX7_takeIn) 117 = .ok (.iadd, 1) := by decide +kernel
theorem eX7_takeIn_118 : decode (zYb kX7_takeIn) 118 = .ok (.putfield 69, 3) := by decide +kernel
theorem eX7_takeIn_121 : decode (zYb kX7_takeIn) 121 = .ok (.return_, 1) := by decide +kernel
theorem eX7_search_0 : decode (zYb kX7_search) 0 = .ok (.aload_n 0, 1) := by decide +kernel
theorem eX7_search_1 : decode (zYb kX7_search) 1 = .ok (.iconst 0, 1) := by decide +kernel
theorem eX7_search_2 : decode (zYb kX7_search) 2 = .ok (.putfield 69, 3) := by decide +kernel
theorem eX7_search_5 : decode (zYb kX7_search) 5 = .ok (.aload_n 0, 1) := by decide +kernel
theorem eX7_search_6 : decode (zYb kX7_search) 6 = .ok (.aload_n 0, 1) := by decide +kernel
theorem eX7_search_7 : decode (zYb kX7_search) 7 = .ok (.getfield 25, 3) := by decide +kernel
theorem eX7_search_10 : decode (zYb kX7_search) 10 = .ok (.aload_n 0, 1) := by decide +kernel
theorem eX7_search_11 : decode (zYb kX7_search) 11 = .ok (.getfield 66, 3) := by decide +kernel
theorem eX7_search_14 : decode (zYb kX7_search) 14 = .ok (.iaload, 1) := by decide +kernel
theorem eX7_search_15 : decode (zYb kX7_search) 15 = .ok (.putfield 72, 3) := by decide +kernel
theorem eX7_search_18 : decode (zYb kX7_search) 18 = .ok (.iconst 1, 1) := by decide +kernel
theorem eX7_search_19 : decode (zYb kX7_search) 19 = .ok (.aload_n 0, 1) := by decide +kernel
theorem eX7_search_20 : decode (zYb kX7_search) 20 = .ok (.getfield 66, 3) := by decide +kernel
theorem eX7_search_23 : decode (zYb kX7_search) 23 = .ok (.ishl, 1) := by decide +kernel
theorem eX7_search_24 : decode (zYb kX7_search) 24 = .ok (.istore_n 2, 1) := by decide +kernel
theorem eX7_search_25 : decode (zYb kX7_search) 25 = .ok (.iconst 0, 1) := by decide +kernel
theorem eX7_search_26 : decode (zYb kX7_search) 26 = .ok (.istore_n 3, 1) := by decide +kernel
theorem eX7_search_27 : decode (zYb kX7_search) 27 = .ok (.iload_n 3, 1) := by decide +kernel
theorem eX7_search_28 : decode (zYb kX7_search) 28 = .ok (.iload_n 1, 1) := by decide +kernel
theorem eX7_search_29 : decode (zYb kX7_search) 29 = .ok (.ifCond .eq 9, 3) := by decide +kernel
theorem eX7_search_32 : decode (zYb kX7_search) 32 = .ok (.iconst 2, 1) := by decide +kernel
theorem eX7_search_33 : decode (zYb kX7_search) 33 = .ok (.iload_n 2, 1) := by decide +kernel
theorem eX7_search_34 : decode (zYb kX7_search) 34 = .ok (.imul, 1) := by decide +kernel
theorem eX7_search_35 : decode (zYb kX7_search) 35 = .ok (.goto 4, 3) := by decide +kernel
theorem eX7_search_38 : decode (zYb kX7_search) 38 = .ok (.iload_n 2, 1) := by decide +kernel
theorem eX7_search_39 : decode (zYb kX7_search) 39 = .ok (.if_icmp .ge 19, 3) := by decide +kernel
theorem eX7_search_42 : decode (zYb kX7_search) 42 = .ok (.aload_n 0, 1) := by decide +kernel
theorem eX7_search_43 : decode (zYb kX7_search) 43 = .ok (.iload_n 3, 1) := by decide +kernel
theorem eX7_search_44 : decode (zYb kX7_search) 44 = .ok (.invokevirtual 79, 3) := by decide +kernel
theorem eX7_search_47 : decode (zYb kX7_search) 47 = .ok (.aload_n 0, 1) := by decide +kernel
theorem eX7_search_48 : decode (zYb kX7_search) 48 = .ok (.iload_n 3, 1) := by decide +kernel
theorem eX7_search_49 : decode (zYb kX7_search) 49 = .ok (.invokevirtual 83, 3) := by decide +kernel
theorem eX7_search_52 : decode (zYb kX7_search) 52 = .ok (.iinc 3 1, 3) := by decide +kernel
theorem eX7_search_55 : decode (zYb kX7_search) 55 = .ok (.goto (-28), 3) := by decide +kernel
theorem eX7_search_58 : decode (zYb kX7_search) 58 = .ok (.return_, 1) := by decide +kernel
theorem eX7_findOf_0 : decode (zYb kX7_findOf) 0 = .ok (.aload_n 0, 1) := by decide +kernel
theorem eX7_findOf_1 : decode (zYb kX7_findOf) 1 = .ok (.iload_n 1, 1) := by decide +kernel
theorem eX7_findOf_2 : decode (zYb kX7_findOf) 2 = .ok (.invokevirtual 86, 3) := by decide +kernel
theorem eX7_findOf_5 : decode (zYb kX7_findOf) 5 = .ok (.aload_n 0, 1) := by decide +kernel
theorem eX7_findOf_6 : decode (zYb kX7_findOf) 6 = .ok (.iconst 1, 1) := by decide +kernel
theorem eX7_findOf_7 : decode (zYb kX7_findOf) 7 = .ok (.invokevirtual 89, 3) := by decide +kernel
theorem eX7_findOf_10 : decode (zYb kX7_findOf) 10 = .ok (.return_, 1) := by decide +kernel
theorem eX7_keepOther_0 : decode (zYb kX7_keepOther) 0 = .ok (.iconst 0, 1) := by decide +kernel
theorem eX7_keepOther_1 : decode (zYb kX7_keepOther) 1 = .ok (.istore_n 1, 1) := by decide +kernel
theorem eX7_keepOther_2 : decode (zYb kX7_keepOther) 2 = .ok (.iload_n 1, 1) := by decide +kernel
theorem eX7_keepOther_3 : decode (zYb kX7_keepOther) 3 = .ok (.aload_n 0, 1) := by decide +kernel
theorem eX7_keepOther_4 : decode (zYb kX7_keepOther) 4 = .ok (.getfield 69, 3) := by decide +kernel
theorem eX7_keepOther_7 : decode (zYb kX7_keepOther) 7 = .ok (.if_icmp .ge 69, 3) := by decide +kernel
theorem eX7_keepOther_10 : decode (zYb kX7_keepOther) 10 = .ok (.aload_n 0, 1) := by decide +kernel
theorem eX7_keepOther_11 : decode (zYb kX7_keepOther) 11 = .ok (.getfield 43, 3) := by decide +kernel
theorem eX7_keepOther_14 : decode (zYb kX7_keepOther) 14 = .ok (.iload_n 1, 1) := by decide +kernel
theorem eX7_keepOther_15 : decode (zYb kX7_keepOther) 15 = .ok (.aload_n 0, 1) := by decide +kernel
theorem eX7_keepOther_16 : decode (zYb kX7_keepOther) 16 = .ok (.getfield 34, 3) := by decide +kernel
theorem eX7_keepOther_19 : decode (zYb kX7_keepOther) 19 = .ok (.iload_n 1, 1) := by decide +kernel
theorem eX7_keepOther_20 : decode (zYb kX7_keepOther) 20 = .ok (.iaload, 1) := by decide +kernel
theorem eX7_keepOther_21 : decode (zYb kX7_keepOther) 21 = .ok (.iastore, 1) := by decide +kernel
theorem eX7_keepOther_22 : decode (zYb kX7_keepOther) 22 = .ok (.iconst 0, 1) := by decide +kernel
theorem eX7_keepOther_23 : decode (zYb kX7_keepOther) 23 = .ok (.istore_n 2, 1) := by decide +kernel
theorem eX7_keepOther_24 : decode (zYb kX7_keepOther) 24 = .ok (.iload_n 2, 1) := by decide +kernel
theorem eX7_keepOther_25 : decode (zYb kX7_keepOther) 25 = .ok (.aload_n 0, 1) := by decide +kernel
theorem eX7_keepOther_26 : decode (zYb kX7_keepOther) 26 = .ok (.getfield 72, 3) := by decide +kernel
theorem eX7_keepOther_29 : decode (zYb kX7_keepOther) 29 = .ok (.if_icmp .ge 41, 3) := by decide +kernel
theorem eX7_keepOther_32 : decode (zYb kX7_keepOther) 32 = .ok (.aload_n 0, 1) := by decide +kernel
theorem eX7_keepOther_33 : decode (zYb kX7_keepOther) 33 = .ok (.getfield 40, 3) := by decide +kernel
theorem eX7_keepOther_36 : decode (zYb kX7_keepOther) 36 = .ok (.bipush 60, 2) := by decide +kernel
theorem eX7_keepOther_38 : decode (zYb kX7_keepOther) 38 = .ok (.aload_n 0, 1) := by decide +kernel
theorem eX7_keepOther_39 : decode (zYb kX7_keepOther) 39 = .ok (.getfield 34, 3) := by decide +kernel
theorem eX7_keepOther_42 : decode (zYb kX7_keepOther) 42 = .ok (.iload_n 1, 1) := by decide +kernel
theorem eX7_keepOther_43 : decode (zYb kX7_keepOther) 43 = .ok (.iaload, 1) := by decide +kernel
theorem eX7_keepOther_44 : decode (zYb kX7_keepOther) 44 = .ok (.imul, 1) := by decide +kernel
theorem eX7_keepOther_45 : decode (zYb kX7_keepOther) 45 = .ok (.iload_n 2, 1) := by decide +kernel
theorem eX7_keepOther_46 : decode (zYb kX7_keepOther) 46 = .ok (.iadd, 1) := by decide +kernel
theorem eX7_keepOther_47 : decode (zYb kX7_keepOther) 47 = .ok (.aload_n 0, 1) := by decide +kernel
theorem eX7_keepOther_48 : decode (zYb kX7_keepOther) 48 = .ok (.getfield 31, 3) := by decide +kernel
theorem eX7_keepOther_51 : decode (zYb kX7_keepOther) 51 = .ok (.bipush 60, 2) := by decide +kernel
theorem eX7_keepOther_53 : decode (zYb kX7_keepOther) 53 = .ok (.aload_n 0, 1) := by decide +kernel
theorem eX7_keepOther_54 : decode (zYb kX7_keepOther) 54 = .ok (.getfield 34, 3) := by decide +kernel
theorem eX7_keepOther_57 : decode (zYb kX7_keepOther) 57 = .ok (.iload_n 1, 1) := by decide +kernel
theorem eX7_keepOther_58 : decode (zYb kX7_keepOther) 58 = .ok (.iaload, 1) := by decide +kernel
theorem eX7_keepOther_59 : decode (zYb kX7_keepOther) 59 = .ok (.imul, 1) := by decide +kernel
theorem eX7_keepOther_60 : decode (zYb kX7_keepOther) 60 = .ok (.iload_n 2, 1) := by decide +kernel
theorem eX7_keepOther_61 : decode (zYb kX7_keepOther) 61 = .ok (.iadd, 1) := by decide +kernel
theorem eX7_keepOther_62 : decode (zYb kX7_keepOther) 62 = .ok (.iaload, 1) := by decide +kernel
theorem eX7_keepOther_63 : decode (zYb kX7_keepOther) 63 = .ok (.iastore, 1) := by decide +kernel
theorem eX7_keepOther_64 : decode (zYb kX7_keepOther) 64 = .ok (.iinc 2 1, 3) := by decide +kernel
theorem eX7_keepOther_67 : decode (zYb kX7_keepOther) 67 = .ok (.goto (-43), 3) := by decide +kernel
theorem eX7_keepOther_70 : decode (zYb kX7_keepOther) 70 = .ok (.iinc 1 1, 3) := by decide +kernel
theorem eX7_keepOther_73 : decode (zYb kX7_keepOther) 73 = .ok (.goto (-71), 3) := by decide +kernel
theorem eX7_keepOther_76 : decode (zYb kX7_keepOther) 76 = .ok (.aload_n 0, 1) := by decide +kernel
theorem eX7_keepOther_77 : decode (zYb kX7_keepOther) 77 = .ok (.aload_n 0, 1) := by decide +kernel
theorem eX7_keepOther_78 : decode (zYb kX7_keepOther) 78 = .ok (.getfield 69, 3) := by decide +kernel
theorem eX7_keepOther_81 : decode (zYb kX7_keepOther) 81 = .ok (.putfield 93, 3) := by decide +kernel
theorem eX7_keepOther_84 : decode (zYb kX7_keepOther) 84 = .ok (.aload_n 0, 1) := by decide +kernel
theorem eX7_keepOther_85 : decode (zYb kX7_keepOther) 85 = .ok (.aload_n 0, 1) := by decide +kernel
theorem eX7_keepOther_86 : decode (zYb kX7_keepOther) 86 = .ok (.getfield 72, 3) := by decide +kernel
theorem eX7_keepOther_89 : decode (zYb kX7_keepOther) 89 = .ok (.putfield 96, 3) := by decide +kernel
theorem eX7_keepOther_92 : decode (zYb kX7_keepOther) 92 = .ok (.return_, 1) := by decide +kernel
theorem eX7_meet_0 : decode (zYb kX7_meet) 0 = .ok (.iconst 0, 1) := by decide +kernel
theorem eX7_meet_1 : decode (zYb kX7_meet) 1 = .ok (.istore_n 1, 1) := by decide +kernel
theorem eX7_meet_2 : decode (zYb kX7_meet) 2 = .ok (.iconst 0, 1) := by decide +kernel
theorem eX7_meet_3 : decode (zYb kX7_meet) 3 = .ok (.istore_n 2, 1) := by decide +kernel
theorem eX7_meet_4 : decode (zYb kX7_meet) 4 = .ok (.iload_n 2, 1) := by decide +kernel
theorem eX7_meet_5 : decode (zYb kX7_meet) 5 = .ok (.aload_n 0, 1) := by decide +kernel
theorem eX7_meet_6 : decode (zYb kX7_meet) 6 = .ok (.getfield 69, 3) := by decide +kernel
theorem eX7_meet_9 : decode (zYb kX7_meet) 9 = .ok (.if_icmp .ge 119, 3) := by decide +kernel
theorem eX7_meet_12 : decode (zYb kX7_meet) 12 = .ok (.iconst 0, 1) := by decide +kernel
theorem eX7_meet_13 : decode (zYb kX7_meet) 13 = .ok (.istore_n 3, 1) := by decide +kernel
theorem eX7_meet_14 : decode (zYb kX7_meet) 14 = .ok (.iconst 0, 1) := by decide +kernel
theorem eX7_meet_15 : decode (zYb kX7_meet) 15 = .ok (.istore 4, 2) := by decide +kernel
theorem eX7_meet_17 : decode (zYb kX7_meet) 17 = .ok (.iload 4, 2) := by decide +kernel
theorem eX7_meet_19 : decode (zYb kX7_meet) 19 = .ok (.aload_n 0, 1) := by decide +kernel
theorem eX7_meet_20 : decode (zYb kX7_meet) 20 = .ok (.getfield 93, 3) := by decide +kernel
theorem eX7_meet_23 : decode (zYb kX7_meet) 23 = .ok (.if_icmp .ge 67, 3) := by decide +kernel
theorem eX7_meet_26 : decode (zYb kX7_meet) 26 = .ok (.aload_n 0, 1) := by decide +kernel
theorem eX7_meet_27 : decode (zYb kX7_meet) 27 = .ok (.getfield 72, 3) := by decide +kernel
theorem eX7_meet_30 : decode (zYb kX7_meet) 30 = .ok (.aload_n 0, 1) := by decide +kernel
theorem eX7_meet_31 : decode (zYb kX7_meet) 31 = .ok (.getfield 96, 3) := by decide +kernel
theorem eX7_meet_34 : decode (zYb kX7_meet) 34 = .ok (.if_icmp .ne 56, 3) := by decide +kernel
theorem eX7_meet_37 : decode (zYb kX7_meet) 37 = .ok (.iload_n 3, 1) := by decide +kernel
theorem eX7_meet_38 : decode (zYb kX7_meet) 38 = .ok (.ifCond .ne 52, 3) := by decide +kernel
theorem eX7_meet_41 : decode (zYb kX7_meet) 41 = .ok (.aload_n 0, 1) := by decide +kernel
theorem eX7_meet_42 : decode (zYb kX7_meet) 42 = .ok (.getfield 31, 3) := by decide +kernel
theorem eX7_meet_45 : decode (zYb kX7_meet) 45 = .ok (.bipush 60, 2) := by decide +kernel
theorem eX7_meet_47 : decode (zYb kX7_meet) 47 = .ok (.aload_n 0, 1) := by decide +kernel
theorem eX7_meet_48 : decode (zYb kX7_meet) 48 = .ok (.getfield 34, 3) := by decide +kernel
theorem eX7_meet_51 : decode (zYb kX7_meet) 51 = .ok (.iload_n 2, 1) := by decide +kernel
theorem eX7_meet_52 : decode (zYb kX7_meet) 52 = .ok (.iaload, 1) := by decide +kernel
theorem eX7_meet_53 : decode (zYb kX7_meet) 53 = .ok (.imul, 1) := by decide +kernel
theorem eX7_meet_54 : decode (zYb kX7_meet) 54 = .ok (.aload_n 0, 1) := by decide +kernel
theorem eX7_meet_55 : decode (zYb kX7_meet) 55 = .ok (.getfield 40, 3) := by decide +kernel
theorem eX7_meet_58 : decode (zYb kX7_meet) 58 = .ok (.bipush 60, 2) := by decide +kernel
theorem eX7_meet_60 : decode (zYb kX7_meet) 60 = .ok (.aload_n 0, 1) := by decide +kernel
theorem eX7_meet_61 : decode (zYb kX7_meet) 61 = .ok (.getfield 43, 3) := by decide +kernel
theorem eX7_meet_64 : decode (zYb kX7_meet) 64 = .ok (.iload 4, 2) := by decide +kernel
theorem eX7_meet_66 : decode (zYb kX7_meet) 66 = .ok (.iaload, 1) := by decide +kernel
theorem eX7_meet_67 : decode (zYb kX7_meet) 67 = .ok (.imul, 1) := by decide +kernel
theorem eX7_meet_68 : decode (zYb kX7_meet) 68 = .ok (.aload_n 0, 1) := by decide +kernel
theorem eX7_meet_69 : decode (zYb kX7_meet) 69 = .ok (.getfield 72, 3) := by decide +kernel
theorem eX7_meet_72 : decode (zYb kX7_meet) 72 = .ok (.invokestatic 75, 3) := by decide +kernel
theorem eX7_meet_75 : decode (zYb kX7_meet) 75 = .ok (.ifCond .ne 7, 3) := by decide +kernel
theorem eX7_meet_78 : decode (zYb kX7_meet) 78 = .ok (.iconst 1, 1) := by decide +kernel
theorem eX7_meet_79 : decode (zYb kX7_meet) 79 = .ok (.goto 4, 3) := by decide +kernel
theorem eX7_meet_82 : decode (zYb kX7_meet) 82 = .ok (.iconst 0, 1) := by decide +kernel
theorem eX7_meet_83 : decode (zYb kX7_meet) 83 = .ok (.istore_n 3, 1) := by decide +kernel
theorem eX7_meet_84 : decode (zYb kX7_meet) 84 = .ok (.iinc 4 1, 3) := by decide +kernel
theorem eX7_meet_87 : decode (zYb kX7_meet) 87 = .ok (.goto (-70), 3) := by decide +kernel
theorem eX7_meet_90 : decode (zYb kX7_meet) 90 = .ok (.aload_n 0, 1) := by decide +kernel
theorem eX7_meet_91 : decode (zYb kX7_meet) 91 = .ok (.getfield 37, 3) := by decide +kernel
theorem eX7_meet_94 : decode (zYb kX7_meet) 94 = .ok (.iload_n 2, 1) := by decide +kernel
theorem eX7_meet_95 : decode (zYb kX7_meet) 95 = .ok (.iload_n 3, 1) := by decide +kernel
theorem eX7_meet_96 : decode (zYb kX7_meet) 96 = .ok (.ifCond .eq 7, 3) := by decide +kernel
theorem eX7_meet_99 : decode (zYb kX7_meet) 99 = .ok (.iconst 1, 1) := by decide +kernel
theorem eX7_meet_100 : decode (zYb kX7_meet) 100 = .ok (.goto 9, 3) := by decide +kernel
theorem eX7_meet_103 : decode (zYb kX7_meet) 103 = .ok (.aload_n 0, 1) := by decide +kernel
theorem eX7_meet_104 : decode (zYb kX7_meet) 104 = .ok (.getfield 37, 3) := by decide +kernel
theorem eX7_meet_107 : decode (zYb kX7_meet) 107 = .ok (.iload_n 2, 1) := by decide +kernel
theorem eX7_meet_108 : decode (zYb kX7_meet) 108 = .ok (.iaload, 1) := by decide +kernel
theorem eX7_meet_109 : decode (zYb kX7_meet) 109 = .ok (.iastore, 1) := by decide +kernel
theorem eX7_meet_110 : decode (zYb kX7_meet) 110 = .ok (.iload_n 1, 1) := by decide +kernel
theorem eX7_meet_111 : decode (zYb kX7_meet) 111 = .ok (.iload_n 3, 1) := by decide +kernel
theorem eX7_meet_112 : decode (zYb kX7_meet) 112 = .ok (.ifCond .eq 7, 3) := by decide +kernel
theorem eX7_meet_115 : decode (zYb kX7_meet) 115 = .ok (.iconst 1, 1) := by decide +kernel
theorem eX7_meet_116 : decode (zYb kX7_meet) 116 = .ok (.goto 4, 3) := by decide +kernel
theorem eX7_meet_119 : decode (zYb kX7_meet) 119 = .ok (.iconst 0, 1) := by decide +kernel
theorem eX7_meet_120 : decode (zYb kX7_meet) 120 = .ok (.iadd, 1) := by decide +kernel
theorem eX7_meet_121 : decode (zYb kX7_meet) 121 = .ok (.istore_n 1, 1) := by decide +kernel
theorem eX7_meet_122 : decode (zYb kX7_meet) 122 = .ok (.iinc 2 1, 3) := by decide +kernel
theorem eX7_meet_125 : decode (zYb kX7_meet) 125 = .ok (.goto (-121), 3) := by decide +kernel
theorem eX7_meet_128 : decode (zYb kX7_meet) 128 = .ok (.iload_n 1, 1) := by decide +kernel
theorem eX7_meet_129 : decode (zYb kX7_meet) 129 = .ok (.ireturn, 1) := by decide +kernel
theorem eX7_sharedBy_0 : decode (zYb kX7_sharedBy) 0 = .ok (.aload_n 0, 1) := by decide +kernel
theorem eX7_sharedBy_1 : decode (zYb kX7_sharedBy) 1 = .ok (.iload_n 2, 1) := by decide +kernel
theorem eX7_sharedBy_2 : decode (zYb kX7_sharedBy) 2 = .ok (.invokevirtual 99, 3) := by decide +kernel
theorem eX7_sharedBy_5 : decode (zYb kX7_sharedBy) 5 = .ok (.aload_n 0, 1) := by decide +kernel
theorem eX7_sharedBy_6 : decode (zYb kX7_sharedBy) 6 = .ok (.invokevirtual 102, 3) := by decide +kernel
theorem eX7_sharedBy_9 : decode (zYb kX7_sharedBy) 9 = .ok (.aload_n 0, 1) := by decide +kernel
theorem eX7_sharedBy_10 : decode (zYb kX7_sharedBy) 10 = .ok (.iload_n 1, 1) := by decide +kernel
theorem eX7_sharedBy_11 : decode (zYb kX7_sharedBy) 11 = .ok (.invokevirtual 99, 3) := by decide +kernel
theorem eX7_sharedBy_14 : decode (zYb kX7_sharedBy) 14 = .ok (.aload_n 0, 1) := by decide +kernel
theorem eX7_sharedBy_15 : decode (zYb kX7_sharedBy) 15 = .ok (.invokevirtual 105, 3) := by decide +kernel
theorem eX7_sharedBy_18 : decode (zYb kX7_sharedBy) 18 = .ok (.ireturn, 1) := by decide +kernel
theorem eX7_letterOf_0 : decode (zYb kX7_letterOf) 0 = .ok (.aload_n 0, 1) := by decide +kernel
theorem eX7_letterOf_1 : decode (zYb kX7_letterOf) 1 = .ok (.getfield 31, 3) := by decide +kernel
theorem eX7_letterOf_4 : decode (zYb kX7_letterOf) 4 = .ok (.bipush 60, 2) := by decide +kernel
theorem eX7_letterOf_6 : decode (zYb kX7_letterOf) 6 = .ok (.aload_n 0, 1) := by decide +kernel
theorem eX7_letterOf_7 : decode (zYb kX7_letterOf) 7 = .ok (.getfield 34, 3) := by decide +kernel
theorem eX7_letterOf_10 : decode (zYb kX7_letterOf) 10 = .ok (.iload_n 1, 1) := by decide +kernel
theorem eX7_letterOf_11 : decode (zYb kX7_letterOf) 11 = .ok (.iaload, 1) := by decide +kernel
theorem eX7_letterOf_12 : decode (zYb kX7_letterOf) 12 = .ok (.imul, 1) := by decide +kernel
theorem eX7_letterOf_13 : decode (zYb kX7_letterOf) 13 = .ok (.iload_n 2, 1) := by decide +kernel
theorem eX7_letterOf_14 : decode (zYb kX7_letterOf) 14 = .ok (.iadd, 1) := by decide +kernel
theorem eX7_letterOf_15 : decode (zYb kX7_letterOf) 15 = .ok (.iaload, 1) := by decide +kernel
theorem eX7_letterOf_16 : decode (zYb kX7_letterOf) 16 = .ok (.ireturn, 1) := by decide +kernel
theorem eX7_toldMany_0 : decode (zYb kX7_toldMany) 0 = .ok (.iconst 1, 1) := by decide +kernel
theorem eX7_toldMany_1 : decode (zYb kX7_toldMany) 1 = .ok (.istore_n 1, 1) := by decide +kernel
theorem eX7_toldMany_2 : decode (zYb kX7_toldMany) 2 = .ok (.iconst 0, 1) := by decide +kernel
theorem eX7_toldMany_3 : decode (zYb kX7_toldMany) 3 = .ok (.istore_n 2, 1) := by decide +kernel
theorem eX7_toldMany_4 : decode (zYb kX7_toldMany) 4 = .ok (.iload_n 2, 1) := by decide +kernel
theorem eX7_toldMany_5 : decode (zYb kX7_toldMany) 5 = .ok (.aload_n 0, 1) := by decide +kernel
theorem eX7_toldMany_6 : decode (zYb kX7_toldMany) 6 = .ok (.getfield 109, 3) := by decide +kernel
theorem eX7_toldMany_9 : decode (zYb kX7_toldMany) 9 = .ok (.if_icmp .ge 28, 3) := by decide +kernel
theorem eX7_toldMany_12 : decode (zYb kX7_toldMany) 12 = .ok (.iload_n 1, 1) := by decide +kernel
theorem eX7_toldMany_13 : decode (zYb kX7_toldMany) 13 = .ok (.aload_n 0, 1) := by decide +kernel
theorem eX7_toldMany_14 : decode (zYb kX7_toldMany) 14 = .ok (.getfield 22, 3) := by decide +kernel
theorem eX7_toldMany_17 : decode (zYb kX7_toldMany) 17 = .ok (.iload_n 2, 1) := by decide +kernel
theorem eX7_toldMany_18 : decode (zYb kX7_toldMany) 18 = .ok (.iaload, 1) := by decide +kernel
theorem eX7_toldMany_19 : decode (zYb kX7_toldMany) 19 = .ok (.bipush 59, 2) := by decide +kernel
theorem eX7_toldMany_21 : decode (zYb kX7_toldMany) 21 = .ok (.if_icmp .ne 7, 3) := by decide +kernel
theorem eX7_toldMany_24 : decode (zYb kX7_toldMany) 24 = .ok (.iconst 1, 1) := by decide +kernel
theorem eX7_toldMany_25 : decode (zYb kX7_toldMany) 25 = .ok (.goto 4, 3) := by decide +kernel
theorem eX7_toldMany_28 : decode (zYb kX7_toldMany) 28 = .ok (.iconst 0, 1) := by decide +kernel
theorem eX7_toldMany_29 : decode (zYb kX7_toldMany) 29 = .ok (.iadd, 1) := by decide +kernel
theorem eX7_toldMany_30 : decode (zYb kX7_toldMany) 30 = .ok (.istore_n 1, 1) := by decide +kernel
theorem eX7_toldMany_31 : decode (zYb kX7_toldMany) 31 = .ok (.iinc 2 1, 3) := by decide +kernel
theorem eX7_toldMany_34 : decode (zYb kX7_toldMany) 34 = .ok (.goto (-30), 3) := by decide +kernel
theorem eX7_toldMany_37 : decode (zYb kX7_toldMany) 37 = .ok (.iload_n 1, 1) := by decide +kernel
theorem eX7_toldMany_38 : decode (zYb kX7_toldMany) 38 = .ok (.ireturn, 1) := by decide +kernel
theorem eX7_readScroll_0 : decode (zYb kX7_readScroll) 0 = .ok (.iload_n 1, 1) := by decide +kernel
theorem eX7_readScroll_1 : decode (zYb kX7_readScroll) 1 = .ok (.istore_n 2, 1) := by decide +kernel
theorem eX7_readScroll_2 : decode (zYb kX7_readScroll) 2 = .ok (.aload_n 0, 1) := by decide +kernel
theorem eX7_readScroll_3 : decode (zYb kX7_readScroll) 3 = .ok (.iconst 0, 1) := by decide +kernel
theorem eX7_readScroll_4 : decode (zYb kX7_readScroll) 4 = .ok (.putfield 66, 3) := by decide +kernel
theorem eX7_readScroll_7 : decode (zYb kX7_readScroll) 7 = .ok (.aload_n 0, 1) := by decide +kernel
theorem eX7_readScroll_8 : decode (zYb kX7_readScroll) 8 = .ok (.getfield 25, 3) := by decide +kernel
theorem eX7_readScroll_11 : decode (zYb kX7_readScroll) 11 = .ok (.iconst 0, 1) := by decide +kernel
theorem eX7_readScroll_12 : decode (zYb kX7_readScroll) 12 = .ok (.iconst 0, 1) := by decide +kernel
theorem eX7_readScroll_13 : decode (zYb kX7_readScroll) 13 = .ok (.iastore, 1) := by decide +kernel
theorem eX7_readScroll_14 : decode (zYb kX7_readScroll) 14 = .ok (.iconst 0, 1) := by decide +kernel
theorem eX7_readScroll_15 : decode (zYb kX7_readScroll) 15 = .ok (.istore_n 3, 1) := by decide +kernel
theorem eX7_readScroll_16 : decode (zYb kX7_readScroll) 16 = .ok (.iload_n 2, 1) := by decide +kernel
theorem eX7_readScroll_17 : decode (zYb kX7_readScroll) 17 = .ok (.aload_n 0, 1) := by decide +kernel
theorem eX7_readScroll_18 : decode (zYb kX7_readScroll) 18 = .ok (.getfield 109, 3) := by decide +kernel
theorem eX7_readScroll_21 : decode (zYb kX7_readScroll) 21 = .ok (.if_icmp .ge 72, 3) := by decide +kernel
theorem eX7_readScroll_24 : decode (zYb kX7_readScroll) 24 = .ok (.aload_n 0, 1) := by decide +kernel
theorem eX7_readScroll_25 : decode (zYb kX7_readScroll) 25 = .ok (.getfield 22, 3) := by decide +kernel
theorem eX7_readScroll_28 : decode (zYb kX7_readScroll) 28 = .ok (.iload_n 2, 1) := by decide +kernel
theorem eX7_readScroll_29 : decode (zYb kX7_readScroll) 29 = .ok (.iaload, 1) := by decide +kernel
theorem eX7_readScroll_30 : decode (zYb kX7_readScroll) 30 = .ok (.bipush 59, 2) := by decide +kernel
theorem eX7_readScroll_32 : decode (zYb kX7_readScroll) 32 = .ok (.if_icmp .eq 61, 3) := by decide +kernel
theorem eX7_readScroll_35 : decode (zYb kX7_readScroll) 35 = .ok (.aload_n 0, 1) := by decide +kernel
theorem eX7_readScroll_36 : decode (zYb kX7_readScroll) 36 = .ok (.getfield 22, 3) := by decide +kernel
theorem eX7_readScroll_39 : decode (zYb kX7_readScroll) 39 = .ok (.iload_n 2, 1) := by decide +kernel
theorem eX7_readScroll_40 : decode (zYb kX7_readScroll) 40 = .ok (.iaload, 1) := by decide +kernel
theorem eX7_readScroll_41 : decode (zYb kX7_readScroll) 41 = .ok (.bipush 124, 2) := by decide +kernel
theorem eX7_readScroll_43 : decode (zYb kX7_readScroll) 43 = .ok (.if_icmp .ne 26, 3) := by decide +kernel
theorem eX7_readScroll_46 : decode (zYb kX7_readScroll) 46 = .ok (.aload_n 0, 1) := by decide +kernel
theorem eX7_readScroll_47 : decode (zYb kX7_readScroll) 47 = .ok (.dup, 1) := by decide +kernel
theorem eX7_readScroll_48 : decode (zYb kX7_readScroll) 48 = .ok (.getfield 66, 3) := by decide +kernel
theorem eX7_readScroll_51 : decode (zYb kX7_readScroll) 51 = .ok (.iconst 1, 1) := by decide +kernel
theorem eX7_readScroll_52 : decode (zYb kX7_readScroll) 52 = .ok (.iadd, 1) := by decide +kernel
theorem eX7_readScroll_53 : decode (zYb kX7_readScroll) 53 = .ok (.putfield 66, 3) := by decide +kernel
theorem eX7_readScroll_56 : decode (zYb kX7_readScroll) 56 = .ok (.aload_n 0, 1) := by decide +kernel
theorem eX7_readScroll_57 : decode (zYb kX7_readScroll) 57 = .ok (.getfield 25, 3) := by decide +kernel
theorem eX7_readScroll_60 : decode (zYb kX7_readScroll) 60 = .ok (.aload_n 0, 1) := by decide +kernel
theorem eX7_readScroll_61 : decode (zYb kX7_readScroll) 61 = .ok (.getfield 66, 3) := by decide +kernel
theorem eX7_readScroll_64 : decode (zYb kX7_readScroll) 64 = .ok (.iload_n 3, 1) := by decide +kernel
theorem eX7_readScroll_65 : decode (zYb kX7_readScroll) 65 = .ok (.iastore, 1) := by decide +kernel
theorem eX7_readScroll_66 : decode (zYb kX7_readScroll) 66 = .ok (.goto 21, 3) := by decide +kernel
theorem eX7_readScroll_69 : decode (zYb kX7_readScroll) 69 = .ok (.aload_n 0, 1) := by decide +kernel
theorem eX7_readScroll_70 : decode (zYb kX7_readScroll) 70 = .ok (.getfield 28, 3) := by decide +kernel
theorem eX7_readScroll_73 : decode (zYb kX7_readScroll) 73 = .ok (.iload_n 3, 1) := by decide +kernel
theorem eX7_readScroll_74 : decode (zYb kX7_readScroll) 74 = .ok (.aload_n 0, 1) := by decide +kernel
theorem eX7_readScroll_75 : decode (zYb kX7_readScroll) 75 = .ok (.getfield 22, 3) := by decide +kernel
theorem eX7_readScroll_78 : decode (zYb kX7_readScroll) 78 = .ok (.iload_n 2, 1) := by decide +kernel
theorem eX7_readScroll_79 : decode (zYb kX7_readScroll) 79 = .ok (.iaload, 1) := by decide +kernel
theorem eX7_readScroll_80 : decode (zYb kX7_readScroll) 80 = .ok (.bipush 97, 2) := by decide +kernel
theorem eX7_readScroll_82 : decode (zYb kX7_readScroll) 82 = .ok (.isub, 1) := by decide +kernel
theorem eX7_readScroll_83 : decode (zYb kX7_readScroll) 83 = .ok (.iastore, 1) := by decide +kernel
theorem eX7_readScroll_84 : decode (zYb kX7_readScroll) 84 = .ok (.iinc 3 1, 3) := by decide +kernel
theorem eX7_readScroll_87 : decode (zYb kX7_readScroll) 87 = .ok (.iinc 2 1, 3) := by decide +kernel
theorem eX7_readScroll_90 : decode (zYb kX7_readScroll) 90 = .ok (.goto (-74), 3) := by decide +kernel
theorem eX7_readScroll_93 : decode (zYb kX7_readScroll) 93 = .ok (.aload_n 0, 1) := by decide +kernel
theorem eX7_readScroll_94 : decode (zYb kX7_readScroll) 94 = .ok (.dup, 1) := by decide +kernel
theorem eX7_readScroll_95 : decode (zYb kX7_readScroll) 95 = .ok (.getfield 66, 3) := by decide +kernel
theorem eX7_readScroll_98 : decode (zYb kX7_readScroll) 98 = .ok (.iconst 1, 1) := by decide +kernel
theorem eX7_readScroll_99 : decode (zYb kX7_readScroll) 99 = .ok (.iadd, 1) := by decide +kernel
theorem eX7_readScroll_100 : decode (zYb kX7_readScroll) 100 = .ok (.putfield 66, 3) := by decide +kernel
theorem eX7_readScroll_103 : decode (zYb kX7_readScroll) 103 = .ok (.aload_n 0, 1) := by decide +kernel
theorem eX7_readScroll_104 : decode (zYb kX7_readScroll) 104 = .ok (.getfield 25, 3) := by decide +kernel
theorem eX7_readScroll_107 : decode (zYb kX7_readScroll) 107 = .ok (.aload_n 0, 1) := by decide +kernel
theorem eX7_readScroll_108 : decode (zYb kX7_readScroll) 108 = .ok (.getfield 66, 3) := by decide +kernel
theorem eX7_readScroll_111 : decode (zYb kX7_readScroll) 111 = .ok (.iload_n 3, 1) := by decide +kernel
theorem eX7_readScroll_112 : decode (zYb kX7_readScroll) 112 = .ok (.iastore, 1) := by decide +kernel
theorem eX7_readScroll_113 : decode (zYb kX7_readScroll) 113 = .ok (.iload_n 2, 1) := by decide +kernel
theorem eX7_readScroll_114 : decode (zYb kX7_readScroll) 114 = .ok (.iconst 1, 1) := by decide +kernel
theorem eX7_readScroll_115 : decode (zYb kX7_readScroll) 115 = .ok (.iadd, 1) := by decide +kernel
theorem eX7_readScroll_116 : decode (zYb kX7_readScroll) 116 = .ok (.ireturn, 1) := by decide +kernel
theorem eX7_sew_0 : decode (zYb kX7_sew) 0 = .ok (.aload_n 0, 1) := by decide +kernel
theorem eX7_sew_1 : decode (zYb kX7_sew) 1 = .ok (.invokevirtual 112, 3) := by decide +kernel
theorem eX7_sew_4 : decode (zYb kX7_sew) 4 = .ok (.bipush (-6), 2) := by decide +kernel
theorem eX7_sew_6 : decode (zYb kX7_sew) 6 = .ok (.if_icmp .eq 6, 3) := by decide +kernel
theorem eX7_sew_9 : decode (zYb kX7_sew) 9 = .ok (.bipush (-3), 2) := by decide +kernel
theorem eX7_sew_11 : decode (zYb kX7_sew) 11 = .ok (.ireturn, 1) := by decide +kernel
theorem eX7_sew_12 : decode (zYb kX7_sew) 12 = .ok (.aload_n 0, 1) := by decide +kernel
theorem eX7_sew_13 : decode (zYb kX7_sew) 13 = .ok (.getfield 7, 3) := by decide +kernel
theorem eX7_sew_16 : decode (zYb kX7_sew) 16 = .ok (.iconst 0, 1) := by decide +kernel
theorem eX7_sew_17 : decode (zYb kX7_sew) 17 = .ok (.iaload, 1) := by decide +kernel
theorem eX7_sew_18 : decode (zYb kX7_sew) 18 = .ok (.aload_n 0, 1) := by decide +kernel
theorem eX7_sew_19 : decode (zYb kX7_sew) 19 = .ok (.invokevirtual 115, 3) := by decide +kernel
theorem eX7_sew_22 : decode (zYb kX7_sew) 22 = .ok (.iadd, 1) := by decide +kernel
theorem eX7_sew_23 : decode (zYb kX7_sew) 23 = .ok (.iconst 5, 1) := by decide +kernel
theorem eX7_sew_24 : decode (zYb kX7_sew) 24 = .ok (.if_icmp .le 6, 3) := by decide +kernel
theorem eX7_sew_27 : decode (zYb kX7_sew) 27 = .ok (.bipush (-4), 2) := by decide +kernel
theorem eX7_sew_29 : decode (zYb kX7_sew) 29 = .ok (.ireturn, 1) := by decide +kernel
theorem eX7_sew_30 : decode (zYb kX7_sew) 30 = .ok (.aload_n 0, 1) := by decide +kernel
theorem eX7_sew_31 : decode (zYb kX7_sew) 31 = .ok (.invokevirtual 118, 3) := by decide +kernel
theorem eX7_sew_34 : decode (zYb kX7_sew) 34 = .ok (.iconst 0, 1) := by decide +kernel
theorem eX7_sew_35 : decode (zYb kX7_sew) 35 = .ok (.istore_n 1, 1) := by decide +kernel
theorem eX7_sew_36 : decode (zYb kX7_sew) 36 = .ok (.iload_n 1, 1) := by decide +kernel
theorem eX7_sew_37 : decode (zYb kX7_sew) 37 = .ok (.aload_n 0, 1) := by decide +kernel
theorem eX7_sew_38 : decode (zYb kX7_sew) 38 = .ok (.getfield 109, 3) := by decide +kernel
theorem eX7_sew_41 : decode (zYb kX7_sew) 41 = .ok (.if_icmp .ge 32, 3) := by decide +kernel
theorem eX7_sew_44 : decode (zYb kX7_sew) 44 = .ok (.aload_n 0, 1) := by decide +kernel
theorem eX7_sew_45 : decode (zYb kX7_sew) 45 = .ok (.iload_n 1, 1) := by decide +kernel
theorem eX7_sew_46 : decode (zYb kX7_sew) 46 = .ok (.invokevirtual 121, 3) := by decide +kernel
theorem eX7_sew_49 : decode (zYb kX7_sew) 49 = .ok (.istore_n 1, 1) := by decide +kernel
theorem eX7_sew_50 : decode (zYb kX7_sew) 50 = .ok (.aload_n 0, 1) := by decide +kernel
theorem eX7_sew_51 : decode (zYb kX7_sew) 51 = .ok (.aload_n 0, 1) := by decide +kernel
theorem eX7_sew_52 : decode (zYb kX7_sew) 52 = .ok (.getfield 7, 3) := by decide +kernel
theorem eX7_sew_55 : decode (zYb kX7_sew) 55 = .ok (.iconst 0, 1) := by decide +kernel
theorem eX7_sew_56 : decode (zYb kX7_sew) 56 = .ok (.iaload, 1) := by decide +kernel
theorem eX7_sew_57 : decode (zYb kX7_sew) 57 = .ok (.invokevirtual 125, 3) := by decide +kernel
theorem eX7_sew_60 : decode (zYb kX7_sew) 60 = .ok (.aload_n 0, 1) := by decide +kernel
theorem eX7_sew_61 : decode (zYb kX7_sew) 61 = .ok (.getfield 7, 3) := by decide +kernel
theorem eX7_sew_64 : decode (zYb kX7_sew) 64 = .ok (.iconst 0, 1) := by decide +kernel
theorem eX7_sew_65 : decode (zYb kX7_sew) 65 = .ok (.dup2, 1) := by decide +kernel
theorem eX7_sew_66 : decode (zYb kX7_sew) 66 = .ok (.iaload, 1) := by decide +kernel
theorem eX7_sew_67 : decode (zYb kX7_sew) 67 = .ok (.iconst 1, 1) := by decide +kernel
theorem eX7_sew_68 : decode (zYb kX7_sew) 68 = .ok (.iadd, 1) := by decide +kernel
theorem eX7_sew_69 : decode (zYb kX7_sew) 69 = .ok (.iastore, 1) := by decide +kernel
theorem eX7_sew_70 : decode (zYb kX7_sew) 70 = .ok (.goto (-34), 3) := by decide +kernel
theorem eX7_sew_73 : decode (zYb kX7_sew) 73 = .ok (.aload_n 0, 1) := by decide +kernel
theorem eX7_sew_74 : decode (zYb kX7_sew) 74 = .ok (.iconst 0, 1) := by decide +kernel
theorem eX7_sew_75 : decode (zYb kX7_sew) 75 = .ok (.putfield 109, 3) := by decide +kernel
theorem eX7_sew_78 : decode (zYb kX7_sew) 78 = .ok (.aload_n 0, 1) := by decide +kernel
theorem eX7_sew_79 : decode (zYb kX7_sew) 79 = .ok (.getfield 7, 3) := by decide +kernel
theorem eX7_sew_82 : decode (zYb kX7_sew) 82 = .ok (.iconst 0, 1) := by decide +kernel
theorem eX7_sew_83 : decode (zYb kX7_sew) 83 = .ok (.iaload, 1) := by decide +kernel
theorem eX7_sew_84 : decode (zYb kX7_sew) 84 = .ok (.ireturn, 1) := by decide +kernel
theorem eX7_burn_0 : decode (zYb kX7_burn) 0 = .ok (.aload_n 0, 1) := by decide +kernel
theorem eX7_burn_1 : decode (zYb kX7_burn) 1 = .ok (.iload_n 1, 1) := by decide +kernel
theorem eX7_burn_2 : decode (zYb kX7_burn) 2 = .ok (.invokevirtual 58, 3) := by decide +kernel
theorem eX7_burn_5 : decode (zYb kX7_burn) 5 = .ok (.ifCond .ne 5, 3) := by decide +kernel
theorem eX7_burn_8 : decode (zYb kX7_burn) 8 = .ok (.iconst (-1), 1) := by decide +kernel
theorem eX7_burn_9 : decode (zYb kX7_burn) 9 = .ok (.ireturn, 1) := by decide +kernel
theorem eX7_burn_10 : decode (zYb kX7_burn) 10 = .ok (.aload_n 0, 1) := by decide +kernel
theorem eX7_burn_11 : decode (zYb kX7_burn) 11 = .ok (.invokevirtual 118, 3) := by decide +kernel
theorem eX7_burn_14 : decode (zYb kX7_burn) 14 = .ok (.aload_n 0, 1) := by decide +kernel
theorem eX7_burn_15 : decode (zYb kX7_burn) 15 = .ok (.iload_n 1, 1) := by decide +kernel
theorem eX7_burn_16 : decode (zYb kX7_burn) 16 = .ok (.invokevirtual 128, 3) := by decide +kernel
theorem eX7_burn_19 : decode (zYb kX7_burn) 19 = .ok (.istore_n 2, 1) := by decide +kernel
theorem eX7_burn_20 : decode (zYb kX7_burn) 20 = .ok (.aload_n 0, 1) := by decide +kernel
theorem eX7_burn_21 : decode (zYb kX7_burn) 21 = .ok (.iload_n 1, 1) := by decide +kernel
theorem eX7_burn_22 : decode (zYb kX7_burn) 22 = .ok (.invokevirtual 131, 3) := by decide +kernel
theorem eX7_burn_25 : decode (zYb kX7_burn) 25 = .ok (.iload_n 2, 1) := by decide +kernel
theorem eX7_burn_26 : decode (zYb kX7_burn) 26 = .ok (.ireturn, 1) := by decide +kernel
theorem eX7_cut_0 : decode (zYb kX7_cut) 0 = .ok (.aload_n 0, 1) := by decide +kernel
theorem eX7_cut_1 : decode (zYb kX7_cut) 1 = .ok (.iload_n 1, 1) := by decide +kernel
theorem eX7_cut_2 : decode (zYb kX7_cut) 2 = .ok (.iload_n 2, 1) := by decide +kernel
theorem eX7_cut_3 : decode (zYb kX7_cut) 3 = .ok (.invokevirtual 134, 3) := by decide +kernel
theorem eX7_cut_6 : decode (zYb kX7_cut) 6 = .ok (.ifCond .ne 5, 3) := by decide +kernel
theorem eX7_cut_9 : decode (zYb kX7_cut) 9 = .ok (.iconst (-1), 1) := by decide +kernel
theorem eX7_cut_10 : decode (zYb kX7_cut) 10 = .ok (.ireturn, 1) := by decide +kernel
theorem eX7_cut_11 : decode (zYb kX7_cut) 11 = .ok (.iload_n 3, 1) := by decide +kernel
theorem eX7_cut_12 : decode (zYb kX7_cut) 12 = .ok (.iconst 1, 1) := by decide +kernel
theorem eX7_cut_13 : decode (zYb kX7_cut) 13 = .ok (.aload_n 0, 1) := by decide +kernel
theorem eX7_cut_14 : decode (zYb kX7_cut) 14 = .ok (.iload_n 1, 1) := by decide +kernel
theorem eX7_cut_15 : decode (zYb kX7_cut) 15 = .ok (.iload_n 2, 1) := by decide +kernel
theorem eX7_cut_16 : decode (zYb kX7_cut) 16 = .ok (.invokevirtual 138, 3) := by decide +kernel
theorem eX7_cut_19 : decode (zYb kX7_cut) 19 = .ok (.iconst 1, 1) := by decide +kernel
theorem eX7_cut_20 : decode (zYb kX7_cut) 20 = .ok (.isub, 1) := by decide +kernel
theorem eX7_cut_21 : decode (zYb kX7_cut) 21 = .ok (.invokestatic 54, 3) := by decide +kernel
theorem eX7_cut_24 : decode (zYb kX7_cut) 24 = .ok (.ifCond .ne 6, 3) := by decide +kernel
theorem eX7_cut_27 : decode (zYb kX7_cut) 27 = .ok (.bipush (-2), 2) := by decide +kernel
theorem eX7_cut_29 : decode (zYb kX7_cut) 29 = .ok (.ireturn, 1) := by decide +kernel
theorem eX7_cut_30 : decode (zYb kX7_cut) 30 = .ok (.aload_n 0, 1) := by decide +kernel
theorem eX7_cut_31 : decode (zYb kX7_cut) 31 = .ok (.iload_n 1, 1) := by decide +kernel
theorem eX7_cut_32 : decode (zYb kX7_cut) 32 = .ok (.iconst 0, 1) := by decide +kernel
theorem eX7_cut_33 : decode (zYb kX7_cut) 33 = .ok (.invokevirtual 62, 3) := by decide +kernel
theorem eX7_cut_36 : decode (zYb kX7_cut) 36 = .ok (.iconst 5, 1) := by decide +kernel
theorem eX7_cut_37 : decode (zYb kX7_cut) 37 = .ok (.if_icmp .ne 6, 3) := by decide +kernel
theorem eX7_cut_40 : decode (zYb kX7_cut) 40 = .ok (.bipush (-4), 2) := by decide +kernel
theorem eX7_cut_42 : decode (zYb kX7_cut) 42 = .ok (.ireturn, 1) := by decide +kernel
theorem eX7_cut_43 : decode (zYb kX7_cut) 43 = .ok (.aload_n 0, 1) := by decide +kernel
theorem eX7_cut_44 : decode (zYb kX7_cut) 44 = .ok (.invokevirtual 118, 3) := by decide +kernel
theorem eX7_cut_47 : decode (zYb kX7_cut) 47 = .ok (.aload_n 0, 1) := by decide +kernel
theorem eX7_cut_48 : decode (zYb kX7_cut) 48 = .ok (.iload_n 1, 1) := by decide +kernel
theorem eX7_cut_49 : decode (zYb kX7_cut) 49 = .ok (.invokevirtual 86, 3) := by decide +kernel
theorem eX7_cut_52 : decode (zYb kX7_cut) 52 = .ok (.aload_n 0, 1) := by decide +kernel
theorem eX7_cut_53 : decode (zYb kX7_cut) 53 = .ok (.iload_n 2, 1) := by decide +kernel
theorem eX7_cut_54 : decode (zYb kX7_cut) 54 = .ok (.iload_n 3, 1) := by decide +kernel
theorem eX7_cut_55 : decode (zYb kX7_cut) 55 = .ok (.invokevirtual 141, 3) := by decide +kernel
theorem eX7_cut_58 : decode (zYb kX7_cut) 58 = .ok (.aload_n 0, 1) := by decide +kernel
theorem eX7_cut_59 : decode (zYb kX7_cut) 59 = .ok (.iload_n 1, 1) := by decide +kernel
theorem eX7_cut_60 : decode (zYb kX7_cut) 60 = .ok (.invokevirtual 125, 3) := by decide +kernel
theorem eX7_cut_63 : decode (zYb kX7_cut) 63 = .ok (.aload_n 0, 1) := by decide +kernel
theorem eX7_cut_64 : decode (zYb kX7_cut) 64 = .ok (.getfield 66, 3) := by decide +kernel
theorem eX7_cut_67 : decode (zYb kX7_cut) 67 = .ok (.ireturn, 1) := by decide +kernel
theorem eX7_undoSeam_0 : decode (zYb kX7_undoSeam) 0 = .ok (.aload_n 0, 1) := by decide +kernel
theorem eX7_undoSeam_1 : decode (zYb kX7_undoSeam) 1 = .ok (.iload_n 1, 1) := by decide +kernel
theorem eX7_undoSeam_2 : decode (zYb kX7_undoSeam) 2 = .ok (.iload_n 2, 1) := by decide +kernel
theorem eX7_undoSeam_3 : decode (zYb kX7_undoSeam) 3 = .ok (.invokevirtual 145, 3) := by decide +kernel
theorem eX7_undoSeam_6 : decode (zYb kX7_undoSeam) 6 = .ok (.ifCond .ne 5, 3) := by decide +kernel
theorem eX7_undoSeam_9 : decode (zYb kX7_undoSeam) 9 = .ok (.iconst (-1), 1) := by decide +kernel
theorem eX7_undoSeam_10 : decode (zYb kX7_undoSeam) 10 = .ok (.ireturn, 1) := by decide +kernel
theorem eX7_undoSeam_11 : decode (zYb kX7_undoSeam) 11 = .ok (.aload_n 0, 1) := by decide +kernel
theorem eX7_undoSeam_12 : decode (zYb kX7_undoSeam) 12 = .ok (.iload_n 1, 1) := by decide +kernel
theorem eX7_undoSeam_13 : decode (zYb kX7_undoSeam) 13 = .ok (.iload_n 2, 1) := by decide +kernel
theorem eX7_undoSeam_14 : decode (zYb kX7_undoSeam) 14 = .ok (.invokevirtual 138, 3) := by decide +kernel
theorem eX7_undoSeam_17 : decode (zYb kX7_undoSeam) 17 = .ok (.aload_n 0, 1) := by decide +kernel
theorem eX7_undoSeam_18 : decode (zYb kX7_undoSeam) 18 = .ok (.iload_n 1, 1) := by decide +kernel
theorem eX7_undoSeam_19 : decode (zYb kX7_undoSeam) 19 = .ok (.iload_n 2, 1) := by decide +kernel
theorem eX7_undoSeam_20 : decode (zYb kX7_undoSeam) 20 = .ok (.iconst 1, 1) := by decide +kernel
theorem eX7_undoSeam_21 : decode (zYb kX7_undoSeam) 21 = .ok (.iadd, 1) := by decide +kernel
theorem eX7_undoSeam_22 : decode (zYb kX7_undoSeam) 22 = .ok (.invokevirtual 138, 3) := by decide +kernel
theorem eX7_undoSeam_25 : decode (zYb kX7_undoSeam) 25 = .ok (.iadd, 1) := by decide +kernel
theorem eX7_undoSeam_26 : decode (zYb kX7_undoSeam) 26 = .ok (.bipush 12, 2) := by decide +kernel
theorem eX7_undoSeam_28 : decode (zYb kX7_undoSeam) 28 = .ok (.if_icmp .le 6, 3) := by decide +kernel
theorem eX7_undoSeam_31 : decode (zYb kX7_undoSeam) 31 = .ok (.bipush (-4), 2) := by decide +kernel
theorem eX7_undoSeam_33 : decode (zYb kX7_undoSeam) 33 = .ok (.ireturn, 1) := by decide +kernel
theorem eX7_undoSeam_34 : decode (zYb kX7_undoSeam) 34 = .ok (.aload_n 0, 1) := by decide +kernel
theorem eX7_undoSeam_35 : decode (zYb kX7_undoSeam) 35 = .ok (.invokevirtual 118, 3) := by decide +kernel
theorem eX7_undoSeam_38 : decode (zYb kX7_undoSeam) 38 = .ok (.aload_n 0, 1) := by decide +kernel
theorem eX7_undoSeam_39 : decode (zYb kX7_undoSeam) 39 = .ok (.iload_n 1, 1) := by decide +kernel
theorem eX7_undoSeam_40 : decode (zYb kX7_undoSeam) 40 = .ok (.invokevirtual 86, 3) := by decide +kernel
theorem eX7_undoSeam_43 : decode (zYb kX7_undoSeam) 43 = .ok (.aload_n 0, 1) := by decide +kernel
theorem eX7_undoSeam_44 : decode (zYb kX7_undoSeam) 44 = .ok (.iload_n 2, 1) := by decide +kernel
theorem eX7_undoSeam_45 : decode (zYb kX7_undoSeam) 45 = .ok (.invokevirtual 148, 3) := by decide +kernel
theorem eX7_undoSeam_48 : decode (zYb kX7_undoSeam) 48 = .ok (.aload_n 0, 1) := by decide +kernel
theorem eX7_undoSeam_49 : decode (zYb kX7_undoSeam) 49 = .ok (.iload_n 1, 1) := by decide +kernel
theorem eX7_undoSeam_50 : decode (zYb kX7_undoSeam) 50 = .ok (.invokevirtual 125, 3) := by decide +kernel
theorem eX7_undoSeam_53 : decode (zYb kX7_undoSeam) 53 = .ok (.aload_n 0, 1) := by decide +kernel
theorem eX7_undoSeam_54 : decode (zYb kX7_undoSeam) 54 = .ok (.getfield 66, 3) := by decide +kernel
theorem eX7_undoSeam_57 : decode (zYb kX7_undoSeam) 57 = .ok (.ireturn, 1) := by decide +kernel
theorem eX7_turn_0 : decode (zYb kX7_turn) 0 = .ok (.aload_n 0, 1) := by decide +kernel
theorem eX7_turn_1 : decode (zYb kX7_turn) 1 = .ok (.iload_n 1, 1) := by decide +kernel
theorem eX7_turn_2 : decode (zYb kX7_turn) 2 = .ok (.iload_n 2, 1) := by decide +kernel
theorem eX7_turn_3 : decode (zYb kX7_turn) 3 = .ok (.invokevirtual 134, 3) := by decide +kernel
theorem eX7_turn_6 : decode (zYb kX7_turn) 6 = .ok (.ifCond .ne 5, 3) := by decide +kernel
theorem eX7_turn_9 : decode (zYb kX7_turn) 9 = .ok (.iconst (-1), 1) := by decide +kernel
theorem eX7_turn_10 : decode (zYb kX7_turn) 10 = .ok (.ireturn, 1) := by decide +kernel
theorem eX7_turn_11 : decode (zYb kX7_turn) 11 = .ok (.aload_n 0, 1) := by decide +kernel
theorem eX7_turn_12 : decode (zYb kX7_turn) 12 = .ok (.invokevirtual 118, 3) := by decide +kernel
theorem eX7_turn_15 : decode (zYb kX7_turn) 15 = .ok (.aload_n 0, 1) := by decide +kernel
theorem eX7_turn_16 : decode (zYb kX7_turn) 16 = .ok (.iload_n 1, 1) := by decide +kernel
theorem eX7_turn_17 : decode (zYb kX7_turn) 17 = .ok (.invokevirtual 86, 3) := by decide +kernel
theorem eX7_turn_20 : decode (zYb kX7_turn) 20 = .ok (.iconst 0, 1) := by decide +kernel
theorem eX7_turn_21 : decode (zYb kX7_turn) 21 = .ok (.istore_n 3, 1) := by decide +kernel
theorem eX7_turn_22 : decode (zYb kX7_turn) 22 = .ok (.aload_n 0, 1) := by decide +kernel
theorem eX7_turn_23 : decode (zYb kX7_turn) 23 = .ok (.getfield 25, 3) := by decide +kernel
theorem eX7_turn_26 : decode (zYb kX7_turn) 26 = .ok (.iload_n 2, 1) := by decide +kernel
theorem eX7_turn_27 : decode (zYb kX7_turn) 27 = .ok (.iaload, 1) := by decide +kernel
theorem eX7_turn_28 : decode (zYb kX7_turn) 28 = .ok (.aload_n 0, 1) := by decide +kernel
theorem eX7_turn_29 : decode (zYb kX7_turn) 29 = .ok (.getfield 25, 3) := by decide +kernel
theorem eX7_turn_32 : decode (zYb kX7_turn) 32 = .ok (.iload_n 2, 1) := by decide +kernel
theorem eX7_turn_33 : decode (zYb kX7_turn) 33 = .ok (.iconst 1, 1) := by decide +kernel
theorem eX7_turn_34 : decode (zYb kX7_turn) 34 = .ok (.iadd, 1) := by decide +kernel
theorem eX7_turn_35 : decode (zYb kX7_turn) 35 = .ok (.iaload, 1) := by decide +kernel
theorem eX7_turn_36 : decode (zYb kX7_turn) 36 = .ok (.iadd, 1) := by decide +kernel
theorem eX7_turn_37 : decode (zYb kX7_turn) 37 = .ok (.iconst 1, 1) := by decide +kernel
theorem eX7_turn_38 : decode (zYb kX7_turn) 38 = .ok (.isub, 1) := by decide +kernel
theorem eX7_turn_39 : decode (zYb kX7_turn) 39 = .ok (.istore 4, 2) := by decide +kernel
theorem eX7_turn_41 : decode (zYb kX7_turn) 41 = .ok (.aload_n 0, 1) := by decide +kernel
theorem eX7_turn_42 : decode (zYb kX7_turn) 42 = .ok (.getfield 25, 3) := by decide +kernel
theorem eX7_turn_45 : decode (zYb kX7_turn) 45 = .ok (.iload_n 2, 1) := by decide +kernel
theorem eX7_turn_46 : decode (zYb kX7_turn) 46 = .ok (.iaload, 1) := by decide +kernel
theorem eX7_turn_47 : decode (zYb kX7_turn) 47 = .ok (.istore 5, 2) := by decide +kernel
theorem eX7_turn_49 : decode (zYb kX7_turn) 49 = .ok (.iload 5, 2) := by decide +kernel
theorem eX7_turn_51 : decode (zYb kX7_turn) 51 = .ok (.aload_n 0, 1) := by decide +kernel
theorem eX7_turn_52 : decode (zYb kX7_turn) 52 = .ok (.getfield 25, 3) := by decide +kernel
theorem eX7_turn_55 : decode (zYb kX7_turn) 55 = .ok (.iload_n 2, 1) := by decide +kernel
theorem eX7_turn_56 : decode (zYb kX7_turn) 56 = .ok (.iconst 1, 1) := by decide +kernel
theorem eX7_turn_57 : decode (zYb kX7_turn) 57 = .ok (.iadd, 1) := by decide +kernel
theorem eX7_turn_58 : decode (zYb kX7_turn) 58 = .ok (.iaload, 1) := by decide +kernel
theorem eX7_turn_59 : decode (zYb kX7_turn) 59 = .ok (.if_icmp .ge 57, 3) := by decide +kernel
theorem eX7_turn_62 : decode (zYb kX7_turn) 62 = .ok (.aload_n 0, 1) := by decide +kernel
theorem eX7_turn_63 : decode (zYb kX7_turn) 63 = .ok (.getfield 28, 3) := by decide +kernel
theorem eX7_turn_66 : decode (zYb kX7_turn) 66 = .ok (.iload 5, 2) := by decide +kernel
theorem eX7_turn_68 : decode (zYb kX7_turn) 68 = .ok (.aload_n 0, 1) := by decide +kernel
theorem eX7_turn_69 : decode (zYb kX7_turn) 69 = .ok (.iload_n 1, 1) := by decide +kernel
theorem eX7_turn_70 : decode (zYb kX7_turn) 70 = .ok (.bipush 7, 2) := by decide +kernel
theorem eX7_turn_72 : decode (zYb kX7_turn) 72 = .ok (.iload 4, 2) := by decide +kernel
theorem eX7_turn_74 : decode (zYb kX7_turn) 74 = .ok (.iadd, 1) := by decide +kernel
theorem eX7_turn_75 : decode (zYb kX7_turn) 75 = .ok (.iload 5, 2) := by decide +kernel
theorem eX7_turn_77 : decode (zYb kX7_turn) 77 = .ok (.isub, 1) := by decide +kernel
theorem eX7_turn_78 : decode (zYb kX7_turn) 78 = .ok (.invokevirtual 62, 3) := by decide +kernel
theorem eX7_turn_81 : decode (zYb kX7_turn) 81 = .ok (.iastore, 1) := by decide +kernel
theorem eX7_turn_82 : decode (zYb kX7_turn) 82 = .ok (.iload_n 3, 1) := by decide +kernel
theorem eX7_turn_83 : decode (zYb kX7_turn) 83 = .ok (.aload_n 0, 1) := by decide +kernel
theorem eX7_turn_84 : decode (zYb kX7_turn) 84 = .ok (.getfield 28, 3) := by decide +kernel
theorem eX7_turn_87 : decode (zYb kX7_turn) 87 = .ok (.iload 5, 2) := by decide +kernel
theorem eX7_turn_89 : decode (zYb kX7_turn) 89 = .ok (.iaload, 1) := by decide +kernel
theorem eX7_turn_90 : decode (zYb kX7_turn) 90 = .ok (.aload_n 0, 1) := by decide +kernel
theorem eX7_turn_91 : decode (zYb kX7_turn) 91 = .ok (.iload_n 1, 1) := by decide +kernel
theorem eX7_turn_92 : decode (zYb kX7_turn) 92 = .ok (.bipush 7, 2) := by decide +kernel
theorem eX7_turn_94 : decode (zYb kX7_turn) 94 = .ok (.iload 5, 2) := by decide +kernel
theorem eX7_turn_96 : decode (zYb kX7_turn) 96 = .ok (.iadd, 1) := by decide +kernel
theorem eX7_turn_97 : decode (zYb kX7_turn) 97 = .ok (.invokevirtual 62, 3) := by decide +kernel
theorem eX7_turn_100 : decode (zYb kX7_turn) 100 = .ok (.if_icmp .eq 7, 3) := by decide +kernel
theorem eX7_turn_103 : decode (zYb kX7_turn) 103 = .ok (.iconst 1, 1) := by decide +kernel
theorem eX7_turn_104 : decode (zYb kX7_turn) 104 = .ok (.goto 4, 3) := by decide +kernel
theorem eX7_turn_107 : decode (zYb kX7_turn) 107 = .ok (.iconst 0, 1) := by decide +kernel
theorem eX7_turn_108 : decode (zYb kX7_turn) 108 = .ok (.iadd, 1) := by decide +kernel
theorem eX7_turn_109 : decode (zYb kX7_turn) 109 = .ok (.istore_n 3, 1) := by decide +kernel
theorem eX7_turn_110 : decode (zYb kX7_turn) 110 = .ok (.iinc 5 1, 3) := by decide +kernel
theorem eX7_turn_113 : decode (zYb kX7_turn) 113 = .ok (.goto (-64), 3) := by decide +kernel
theorem eX7_turn_116 : decode (zYb kX7_turn) 116 = .ok (.aload_n 0, 1) := by decide +kernel
theorem eX7_turn_117 : decode (zYb kX7_turn) 117 = .ok (.iload_n 1, 1) := by decide +kernel
theorem eX7_turn_118 : decode (zYb kX7_turn) 118 = .ok (.invokevirtual 125, 3) := by decide +kernel
theorem eX7_turn_121 : decode (zYb kX7_turn) 121 = .ok (.iload_n 3, 1) := by decide +kernel
theorem eX7_turn_122 : decode (zYb kX7_turn) 122 = .ok (.ireturn, 1) := by decide +kernel
theorem eX7_exchange_0 : decode (zYb kX7_exchange) 0 = .ok (.aload_n 0, 1) := by decide +kernel
theorem eX7_exchange_1 : decode (zYb kX7_exchange) 1 = .ok (.iload_n 1, 1) := by decide +kernel
theorem eX7_exchange_2 : decode (zYb kX7_exchange) 2 = .ok (.iload_n 2, 1) := by decide +kernel
theorem eX7_exchange_3 : decode (zYb kX7_exchange) 3 = .ok (.invokevirtual 145, 3) := by decide +kernel
theorem eX7_exchange_6 : decode (zYb kX7_exchange) 6 = .ok (.ifCond .ne 5, 3) := by decide +kernel
theorem eX7_exchange_9 : decode (zYb kX7_exchange) 9 = .ok (.iconst (-1), 1) := by decide +kernel
theorem eX7_exchange_10 : decode (zYb kX7_exchange) 10 = .ok (.ireturn, 1) := by decide +kernel
theorem eX7_exchange_11 : decode (zYb kX7_exchange) 11 = .ok (.aload_n 0, 1) := by decide +kernel
theorem eX7_exchange_12 : decode (zYb kX7_exchange) 12 = .ok (.invokevirtual 118, 3) := by decide +kernel
theorem eX7_exchange_15 : decode (zYb kX7_exchange) 15 = .ok (.aload_n 0, 1) := by decide +kernel
theorem eX7_exchange_16 : decode (zYb kX7_exchange) 16 = .ok (.iload_n 1, 1) := by decide +kernel
theorem eX7_exchange_17 : decode (zYb kX7_exchange) 17 = .ok (.invokevirtual 86, 3) := by decide +kernel
theorem eX7_exchange_20 : decode (zYb kX7_exchange) 20 = .ok (.aload_n 0, 1) := by decide +kernel
theorem eX7_exchange_21 : decode (zYb kX7_exchange) 21 = .ok (.getfield 25, 3) := by decide +kernel
theorem eX7_exchange_24 : decode (zYb kX7_exchange) 24 = .ok (.iload_n 2, 1) := by decide +kernel
theorem eX7_exchange_25 : decode (zYb kX7_exchange) 25 = .ok (.iaload, 1) := by decide +kernel
theorem eX7_exchange_26 : decode (zYb kX7_exchange) 26 = .ok (.istore_n 3, 1) := by decide +kernel
theorem eX7_exchange_27 : decode (zYb kX7_exchange) 27 = .ok (.aload_n 0, 1) := by decide +kernel
theorem eX7_exchange_28 : decode (zYb kX7_exchange) 28 = .ok (.iload_n 1, 1) := by decide +kernel
theorem eX7_exchange_29 : decode (zYb kX7_exchange) 29 = .ok (.iload_n 2, 1) := by decide +kernel
theorem eX7_exchange_30 : decode (zYb kX7_exchange) 30 = .ok (.invokevirtual 138, 3) := by decide +kernel
theorem eX7_exchange_33 : decode (zYb kX7_exchange) 33 = .ok (.istore 4, 2) := by decide +kernel
theorem eX7_exchange_35 : decode (zYb kX7_exchange) 35 = .ok (.aload_n 0, 1) := by decide +kernel
theorem eX7_exchange_36 : decode (zYb kX7_exchange) 36 = .ok (.iload_n 1, 1) := by decide +kernel
theorem eX7_exchange_37 : decode (zYb kX7_exchange) 37 = .ok (.iload_n 2, 1) := by decide +kernel
theorem eX7_exchange_38 : decode (zYb kX7_exchange) 38 = .ok (.iconst 1, 1) := by decide +kernel
theorem eX7_exchange_39 : decode (zYb kX7_exchange) 39 = .ok (.iadd, 1) := by decide +kernel
theorem eX7_exchange_40 : decode (zYb kX7_exchange) 40 = .ok (.invokevirtual 138, 3) := by decide +kernel
theorem eX7_exchange_43 : decode (zYb kX7_exchange) 43 = .ok (.istore 5, 2) := by decide +kernel
theorem eX7_exchange_45 : decode (zYb kX7_exchange) 45 = .ok (.iconst 0, 1) := by decide +kernel
theorem eX7_exchange_46 : decode (zYb kX7_exchange) 46 = .ok (.istore 6, 2) := by decide +kernel
theorem eX7_exchange_48 : decode (zYb kX7_exchange) 48 = .ok (.iload 6, 2) := by decide +kernel
theorem eX7_exchange_50 : decode (zYb kX7_exchange) 50 = .ok (.iload 4, 2) := by decide +kernel
theorem eX7_exchange_52 : decode (zYb kX7_exchange) 52 = .ok (.iload 5, 2) := by decide +kernel
theorem eX7_exchange_54 : decode (zYb kX7_exchange) 54 = .ok (.iadd, 1) := by decide +kernel
theorem eX7_exchange_55 : decode (zYb kX7_exchange) 55 = .ok (.if_icmp .ge 48, 3) := by decide +kernel
theorem eX7_exchange_58 : decode (zYb kX7_exchange) 58 = .ok (.aload_n 0, 1) := by decide +kernel
theorem eX7_exchange_59 : decode (zYb kX7_exchange) 59 = .ok (.getfield 28, 3) := by decide +kernel
theorem eX7_exchange_62 : decode (zYb kX7_exchange) 62 = .ok (.iload_n 3, 1) := by decide +kernel
theorem eX7_exchange_63 : decode (zYb kX7_exchange) 63 = .ok (.iload 6, 2) := by decide +kernel
theorem eX7_exchange_65 : decode (zYb kX7_exchange) 65 = .ok (.iadd, 1) := by decide +kernel
theorem eX7_exchange_66 : decode (zYb kX7_exchange) 66 = .ok (.aload_n 0, 1) := by decide +kernel
theorem eX7_exchange_67 : decode (zYb kX7_exchange) 67 = .ok (.iload_n 1, 1) := by decide +kernel
theorem eX7_exchange_68 : decode (zYb kX7_exchange) 68 = .ok (.bipush 7, 2) := by decide +kernel
theorem eX7_exchange_70 : decode (zYb kX7_exchange) 70 = .ok (.iload_n 3, 1) := by decide +kernel
theorem eX7_exchange_71 : decode (zYb kX7_exchange) 71 = .ok (.iadd, 1) := by decide +kernel
theorem eX7_exchange_72 : decode (zYb kX7_exchange) 72 = .ok (.iload 6, 2) := by decide +kernel
theorem eX7_exchange_74 : decode (zYb kX7_exchange) 74 = .ok (.iload 5, 2) := by decide +kernel
theorem eX7_exchange_76 : decode (zYb kX7_exchange) 76 = .ok (.if_icmp .ge 11, 3) := by decide +kernel
theorem eX7_exchange_79 : decode (zYb kX7_exchange) 79 = .ok (.iload 4, 2) := by decide +kernel
theorem eX7_exchange_81 : decode (zYb kX7_exchange) 81 = .ok (.iload 6, 2) := by decide +kernel
theorem eX7_exchange_83 : decode (zYb kX7_exchange) 83 = .ok (.iadd, 1) := by decide +kernel
theorem eX7_exchange_84 : decode (zYb kX7_exchange) 84 = .ok (.goto 8, 3) := by decide +kernel
theorem eX7_exchange_87 : decode (zYb kX7_exchange) 87 = .ok (.iload 6, 2) := by decide +kernel
theorem eX7_exchange_89 : decode (zYb kX7_exchange) 89 = .ok (.iload 5, 2) := by decide +kernel
theorem eX7_exchange_91 : decode (zYb kX7_exchange) 91 = .ok (.isub, 1) := by decide +kernel
theorem eX7_exchange_92 : decode (zYb kX7_exchange) 92 = .ok (.iadd, 1) := by decide +kernel
theorem eX7_exchange_93 : decode (zYb kX7_exchange) 93 = .ok (.invokevirtual 62, 3) := by decide +kernel
theorem eX7_exchange_96 : decode (zYb kX7_exchange) 96 = .ok (.iastore, 1) := by decide +kernel
theorem eX7_exchange_97 : decode (zYb kX7_exchange) 97 = .ok (.iinc 6 1, 3) := by decide +kernel
theorem eX7_exchange_100 : decode (zYb kX7_exchange) 100 = .ok (.goto (-52), 3) := by decide +kernel
theorem eX7_exchange_103 : decode (zYb kX7_exchange) 103 = .ok (.aload_n 0, 1) := by decide +kernel
theorem eX7_exchange_104 : decode (zYb kX7_exchange) 104 = .ok (.getfield 25, 3) := by decide +kernel
theorem eX7_exchange_107 : decode (zYb kX7_exchange) 107 = .ok (.iload_n 2, 1) := by decide +kernel
theorem eX7_exchange_108 : decode (zYb kX7_exchange) 108 = .ok (.iconst 1, 1) := by decide +kernel
theorem eX7_exchange_109 : decode (zYb kX7_exchange) 109 = .ok (.iadd, 1) := by decide +kernel
theorem eX7_exchange_110 : decode (zYb kX7_exchange) 110 = .ok (.iload_n 3, 1) := by decide +kernel
theorem eX7_exchange_111 : decode (zYb kX7_exchange) 111 = .ok (.iload 5, 2) := by decide +kernel
theorem eX7_exchange_113 : decode (zYb kX7_exchange) 113 = .ok (.iadd, 1) := by decide +kernel
theorem eX7_exchange_114 : decode (zYb kX7_exchange) 114 = .ok (.iastore, 1) := by decide +kernel
theorem eX7_exchange_115 : decode (zYb kX7_exchange) 115 = .ok (.aload_n 0, 1) := by decide +kernel
theorem eX7_exchange_116 : decode (zYb kX7_exchange) 116 = .ok (.iload_n 1, 1) := by decide +kernel
theorem eX7_exchange_117 : decode (zYb kX7_exchange) 117 = .ok (.invokevirtual 125, 3) := by decide +kernel
theorem eX7_exchange_120 : decode (zYb kX7_exchange) 120 = .ok (.aload_n 0, 1) := by decide +kernel
theorem eX7_exchange_121 : decode (zYb kX7_exchange) 121 = .ok (.iconst 1, 1) := by decide +kernel
theorem eX7_exchange_122 : decode (zYb kX7_exchange) 122 = .ok (.invokevirtual 89, 3) := by decide +kernel
theorem eX7_exchange_125 : decode (zYb kX7_exchange) 125 = .ok (.aload_n 0, 1) := by decide +kernel
theorem eX7_exchange_126 : decode (zYb kX7_exchange) 126 = .ok (.getfield 69, 3) := by decide +kernel
theorem eX7_exchange_129 : decode (zYb kX7_exchange) 129 = .ok (.ireturn, 1) := by decide +kernel
theorem eX7_join_0 : decode (zYb kX7_join) 0 = .ok (.aload_n 0, 1) := by decide +kernel
theorem eX7_join_1 : decode (zYb kX7_join) 1 = .ok (.iload_n 1, 1) := by decide +kernel
theorem eX7_join_2 : decode (zYb kX7_join) 2 = .ok (.invokevirtual 58, 3) := by decide +kernel
theorem eX7_join_5 : decode (zYb kX7_join) 5 = .ok (.ifCond .eq 11, 3) := by decide +kernel
theorem eX7_join_8 : decode (zYb kX7_join) 8 = .ok (.aload_n 0, 1) := by decide +kernel
theorem eX7_join_9 : decode (zYb kX7_join) 9 = .ok (.iload_n 2, 1) := by decide +kernel
theorem eX7_join_10 : decode (zYb kX7_join) 10 = .ok (.invokevirtual 58, 3) := by decide +kernel
theorem eX7_join_13 : decode (zYb kX7_join) 13 = .ok (.ifCond .ne 5, 3) := by decide +kernel
theorem eX7_join_16 : decode (zYb kX7_join) 16 = .ok (.iconst (-1), 1) := by decide +kernel
theorem eX7_join_17 : decode (zYb kX7_join) 17 = .ok (.ireturn, 1) := by decide +kernel
theorem eX7_join_18 : decode (zYb kX7_join) 18 = .ok (.iload_n 1, 1) := by decide +kernel
theorem eX7_join_19 : decode (zYb kX7_join) 19 = .ok (.iload_n 2, 1) := by decide +kernel
theorem eX7_join_20 : decode (zYb kX7_join) 20 = .ok (.if_icmp .ne 6, 3) := by decide +kernel
theorem eX7_join_23 : decode (zYb kX7_join) 23 = .ok (.bipush (-2), 2) := by decide +kernel
theorem eX7_join_25 : decode (zYb kX7_join) 25 = .ok (.ireturn, 1) := by decide +kernel
theorem eX7_join_26 : decode (zYb kX7_join) 26 = .ok (.aload_n 0, 1) := by decide +kernel
theorem eX7_join_27 : decode (zYb kX7_join) 27 = .ok (.iload_n 1, 1) := by decide +kernel
theorem eX7_join_28 : decode (zYb kX7_join) 28 = .ok (.iconst 0, 1) := by decide +kernel
theorem eX7_join_29 : decode (zYb kX7_join) 29 = .ok (.invokevirtual 62, 3) := by decide +kernel
theorem eX7_join_32 : decode (zYb kX7_join) 32 = .ok (.aload_n 0, 1) := by decide +kernel
theorem eX7_join_33 : decode (zYb kX7_join) 33 = .ok (.iload_n 2, 1) := by decide +kernel
theorem eX7_join_34 : decode (zYb kX7_join) 34 = .ok (.iconst 0, 1) := by decide +kernel
theorem eX7_join_35 : decode (zYb kX7_join) 35 = .ok (.invokevirtual 62, 3) := by decide +kernel
theorem eX7_join_38 : decode (zYb kX7_join) 38 = .ok (.iadd, 1) := by decide +kernel
theorem eX7_join_39 : decode (zYb kX7_join) 39 = .ok (.iconst 5, 1) := by decide +kernel
theorem eX7_join_40 : decode (zYb kX7_join) 40 = .ok (.if_icmp .le 6, 3) := by decide +kernel
theorem eX7_join_43 : decode (zYb kX7_join) 43 = .ok (.bipush (-4), 2) := by decide +kernel
theorem eX7_join_45 : decode (zYb kX7_join) 45 = .ok (.ireturn, 1) := by decide +kernel
theorem eX7_join_46 : decode (zYb kX7_join) 46 = .ok (.aload_n 0, 1) := by decide +kernel
theorem eX7_join_47 : decode (zYb kX7_join) 47 = .ok (.invokevirtual 118, 3) := by decide +kernel
theorem eX7_join_50 : decode (zYb kX7_join) 50 = .ok (.aload_n 0, 1) := by decide +kernel
theorem eX7_join_51 : decode (zYb kX7_join) 51 = .ok (.iload_n 2, 1) := by decide +kernel
theorem eX7_join_52 : decode (zYb kX7_join) 52 = .ok (.invokevirtual 86, 3) := by decide +kernel
theorem eX7_join_55 : decode (zYb kX7_join) 55 = .ok (.aload_n 0, 1) := by decide +kernel
theorem eX7_join_56 : decode (zYb kX7_join) 56 = .ok (.getfield 25, 3) := by decide +kernel
theorem eX7_join_59 : decode (zYb kX7_join) 59 = .ok (.aload_n 0, 1) := by decide +kernel
theorem eX7_join_60 : decode (zYb kX7_join) 60 = .ok (.getfield 66, 3) := by decide +kernel
theorem eX7_join_63 : decode (zYb kX7_join) 63 = .ok (.iaload, 1) := by decide +kernel
theorem eX7_join_64 : decode (zYb kX7_join) 64 = .ok (.istore_n 3, 1) := by decide +kernel
theorem eX7_join_65 : decode (zYb kX7_join) 65 = .ok (.iconst 0, 1) := by decide +kernel
theorem eX7_join_66 : decode (zYb kX7_join) 66 = .ok (.istore 4, 2) := by decide +kernel
theorem eX7_join_68 : decode (zYb kX7_join) 68 = .ok (.iload 4, 2) := by decide +kernel
theorem eX7_join_70 : decode (zYb kX7_join) 70 = .ok (.aload_n 0, 1) := by decide +kernel
theorem eX7_join_71 : decode (zYb kX7_join) 71 = .ok (.iload_n 1, 1) := by decide +kernel
theorem eX7_join_72 : decode (zYb kX7_join) 72 = .ok (.invokevirtual 128, 3) := by decide +kernel
theorem eX7_join_75 : decode (zYb kX7_join) 75 = .ok (.if_icmp .ge 28, 3) := by decide +kernel
theorem eX7_join_78 : decode (zYb kX7_join) 78 = .ok (.aload_n 0, 1) := by decide +kernel
theorem eX7_join_79 : decode (zYb kX7_join) 79 = .ok (.getfield 28, 3) := by decide +kernel
theorem eX7_join_82 : decode (zYb kX7_join) 82 = .ok (.iload_n 3, 1) := by decide +kernel
theorem eX7_join_83 : decode (zYb kX7_join) 83 = .ok (.iload 4, 2) := by decide +kernel
theorem eX7_join_85 : decode (zYb kX7_join) 85 = .ok (.iadd, 1) := by decide +kernel
theorem eX7_join_86 : decode (zYb kX7_join) 86 = .ok (.aload_n 0, 1) := by decide +kernel
theorem eX7_join_87 : decode (zYb kX7_join) 87 = .ok (.iload_n 1, 1) := by decide +kernel
theorem eX7_join_88 : decode (zYb kX7_join) 88 = .ok (.bipush 7, 2) := by decide +kernel
theorem eX7_join_90 : decode (zYb kX7_join) 90 = .ok (.iload 4, 2) := by decide +kernel
theorem eX7_join_92 : decode (zYb kX7_join) 92 = .ok (.iadd, 1) := by decide +kernel
theorem eX7_join_93 : decode (zYb kX7_join) 93 = .ok (.invokevirtual 62, 3) := by decide +kernel
theorem eX7_join_96 : decode (zYb kX7_join) 96 = .ok (.iastore, 1) := by decide +kernel
theorem eX7_join_97 : decode (zYb kX7_join) 97 = .ok (.iinc 4 1, 3) := by decide +kernel
theorem eX7_join_100 : decode (zYb kX7_join) 100 = .ok (.goto (-32), 3) := by decide +kernel
theorem eX7_join_103 : decode (zYb kX7_join) 103 = .ok (.iconst 1, 1) := by decide +kernel
theorem eX7_join_104 : decode (zYb kX7_join) 104 = .ok (.istore 4, 2) := by decide +kernel
theorem eX7_join_106 : decode (zYb kX7_join) 106 = .ok (.iload 4, 2) := by decide +kernel
theorem eX7_join_108 : decode (zYb kX7_join) 108 = .ok (.aload_n 0, 1) := by decide +kernel
theorem eX7_join_109 : decode (zYb kX7_join) 109 = .ok (.iload_n 1, 1) := by decide +kernel
theorem eX7_join_110 : decode (zYb kX7_join) 110 = .ok (.iconst 0, 1) := by decide +kernel
theorem eX7_join_111 : decode (zYb kX7_join) 111 = .ok (.invokevirtual 62, 3) := by decide +kernel
theorem eX7_join_114 : decode (zYb kX7_join) 114 = .ok (.if_icmp .gt 32, 3) := by decide +kernel
theorem eX7_join_117 : decode (zYb kX7_join) 117 = .ok (.aload_n 0, 1) := by decide +kernel
theorem eX7_join_118 : decode (zYb kX7_join) 118 = .ok (.getfield 25, 3) := by decide +kernel
theorem eX7_join_121 : decode (zYb kX7_join) 121 = .ok (.aload_n 0, 1) := by decide +kernel
theorem eX7_join_122 : decode (zYb kX7_join) 122 = .ok (.getfield 66, 3) := by decide +kernel
theorem eX7_join_125 : decode (zYb kX7_join) 125 = .ok (.iload 4, 2) := by decide +kernel
theorem eX7_join_127 : decode (zYb kX7_join) 127 = .ok (.iadd, 1) := by decide +kernel
theorem eX7_join_128 : decode (zYb kX7_join) 128 = .ok (.iload_n 3, 1) := by decide +kernel
theorem eX7_join_129 : decode (zYb kX7_join) 129 = .ok (.aload_n 0, 1) := by decide +kernel
theorem eX7_join_130 : decode (zYb kX7_join) 130 = .ok (.iload_n 1, 1) := by decide +kernel
theorem eX7_join_131 : decode (zYb kX7_join) 131 = .ok (.iconst 1, 1) := by decide +kernel
theorem eX7_join_132 : decode (zYb kX7_join) 132 = .ok (.iload 4, 2) := by decide +kernel
theorem eX7_join_134 : decode (zYb kX7_join) 134 = .ok (.iadd, 1) := by decide +kernel
theorem eX7_join_135 : decode (zYb kX7_join) 135 = .ok (.invokevirtual 62, 3) := by decide +kernel
theorem eX7_join_138 : decode (zYb kX7_join) 138 = .ok (.iadd, 1) := by decide +kernel
theorem eX7_join_139 : decode (zYb kX7_join) 139 = .ok (.iastore, 1) := by decide +kernel
theorem eX7_join_140 : decode (zYb kX7_join) 140 = .ok (.iinc 4 1, 3) := by decide +kernel
theorem eX7_join_143 : decode (zYb kX7_join) 143 = .ok (.goto (-37), 3) := by decide +kernel
theorem eX7_join_146 : decode (zYb kX7_join) 146 = .ok (.aload_n 0, 1) := by decide +kernel
theorem eX7_join_147 : decode (zYb kX7_join) 147 = .ok (.dup, 1) := by decide +kernel
theorem eX7_join_148 : decode (zYb kX7_join) 148 = .ok (.getfield 66, 3) := by decide +kernel
theorem eX7_join_151 : decode (zYb kX7_join) 151 = .ok (.aload_n 0, 1) := by decide +kernel
theorem eX7_join_152 : decode (zYb kX7_join) 152 = .ok (.iload_n 1, 1) := by decide +kernel
theorem eX7_join_153 : decode (zYb kX7_join) 153 = .ok (.iconst 0, 1) := by decide +kernel
theorem eX7_join_154 : decode (zYb kX7_join) 154 = .ok (.invokevirtual 62, 3) := by decide +kernel
theorem eX7_join_157 : decode (zYb kX7_join) 157 = .ok (.iadd, 1) := by decide +kernel
theorem eX7_join_158 : decode (zYb kX7_join) 158 = .ok (.putfield 66, 3) := by decide +kernel
theorem eX7_join_161 : decode (zYb kX7_join) 161 = .ok (.aload_n 0, 1) := by decide +kernel
theorem eX7_join_162 : decode (zYb kX7_join) 162 = .ok (.iload_n 2, 1) := by decide +kernel
theorem eX7_join_163 : decode (zYb kX7_join) 163 = .ok (.invokevirtual 125, 3) := by decide +kernel
theorem eX7_join_166 : decode (zYb kX7_join) 166 = .ok (.aload_n 0, 1) := by decide +kernel
theorem eX7_join_167 : decode (zYb kX7_join) 167 = .ok (.iload_n 1, 1) := by decide +kernel
theorem eX7_join_168 : decode (zYb kX7_join) 168 = .ok (.invokevirtual 131, 3) := by decide +kernel
theorem eX7_join_171 : decode (zYb kX7_join) 171 = .ok (.iload_n 1, 1) := by decide +kernel
theorem eX7_join_172 : decode (zYb kX7_join) 172 = .ok (.iload_n 2, 1) := by decide +kernel
theorem eX7_join_173 : decode (zYb kX7_join) 173 = .ok (.if_icmp .ge 9, 3) := by decide +kernel
theorem eX7_join_176 : decode (zYb kX7_join) 176 = .ok (.iload_n 2, 1) := by decide +kernel
theorem eX7_join_177 : decode (zYb kX7_join) 177 = .ok (.iconst 1, 1) := by decide +kernel
theorem eX7_join_178 : decode (zYb kX7_join) 178 = .ok (.isub, 1) := by decide +kernel
theorem eX7_join_179 : decode (zYb kX7_join) 179 = .ok (.goto 4, 3) := by decide +kernel
theorem eX7_join_182 : decode (zYb kX7_join) 182 = .ok (.iload_n 2, 1) := by decide +kernel
theorem eX7_join_183 : decode (zYb kX7_join) 183 = .ok (.ireturn, 1) := by decide +kernel
theorem eX7_sameBothWays_0 : decode (zYb kX7_sameBothWays) 0 = .ok (.iconst 0, 1) := by decide +kernel
theorem eX7_sameBothWays_1 : decode (zYb kX7_sameBothWays) 1 = .ok (.istore_n 2, 1) := by decide +kernel
theorem eX7_sameBothWays_2 : decode (zYb kX7_sameBothWays) 2 = .ok (.iconst 0, 1) := by decide +kernel
theorem eX7_sameBothWays_3 : decode (zYb kX7_sameBothWays) 3 = .ok (.istore_n 3, 1) := by decide +kernel
theorem eX7_sameBothWays_4 : decode (zYb kX7_sameBothWays) 4 = .ok (.iload_n 3, 1) := by decide +kernel
theorem eX7_sameBothWays_5 : decode (zYb kX7_sameBothWays) 5 = .ok (.aload_n 0, 1) := by decide +kernel
theorem eX7_sameBothWays_6 : decode (zYb kX7_sameBothWays) 6 = .ok (.iload_n 1, 1) := by decide +kernel
theorem eX7_sameBothWays_7 : decode (zYb kX7_sameBothWays) 7 = .ok (.iconst 0, 1) := by decide +kernel
theorem eX7_sameBothWays_8 : decode (zYb kX7_sameBothWays) 8 = .ok (.invokevirtual 62, 3) := by decide +kernel
theorem eX7_sameBothWays_11 : decode (zYb kX7_sameBothWays) 11 = .ok (.if_icmp .ge 117, 3) := by decide +kernel
theorem eX7_sameBothWays_14 : decode (zYb kX7_sameBothWays) 14 = .ok (.aload_n 0, 1) := by decide +kernel
theorem eX7_sameBothWays_15 : decode (zYb kX7_sameBothWays) 15 = .ok (.iload_n 1, 1) := by decide +kernel
theorem eX7_sameBothWays_16 : decode (zYb kX7_sameBothWays) 16 = .ok (.iconst 1, 1) := by decide +kernel
theorem eX7_sameBothWays_17 : decode (zYb kX7_sameBothWays) 17 = .ok (.iload_n 3, 1) := by decide +kernel
theorem eX7_sameBothWays_18 : decode (zYb kX7_sameBothWays) 18 = .ok (.iadd, 1) := by decide +kernel
theorem eX7_sameBothWays_19 : decode (zYb kX7_sameBothWays) 19 = .ok (.invokevirtual 62, 3) := by decide +kernel
theorem eX7_sameBothWays_22 : decode (zYb kX7_sameBothWays) 22 = .ok (.aload_n 0, 1) := by decide +kernel
theorem eX7_sameBothWays_23 : decode (zYb kX7_sameBothWays) 23 = .ok (.iload_n 1, 1) := by decide +kernel
theorem eX7_sameBothWays_24 : decode (zYb kX7_sameBothWays) 24 = .ok (.iconst 1, 1) := by decide +kernel
theorem eX7_sameBothWays_25 : decode (zYb kX7_sameBothWays) 25 = .ok (.iload_n 3, 1) := by decide +kernel
theorem eX7_sameBothWays_26 : decode (zYb kX7_sameBothWays) 26 = .ok (.iadd, 1) := by decide +kernel
theorem eX7_sameBothWays_27 : decode (zYb kX7_sameBothWays) 27 = .ok (.iconst 1, 1) := by decide +kernel
theorem eX7_sameBothWays_28 : decode (zYb kX7_sameBothWays) 28 = .ok (.iadd, 1) := by decide +kernel
theorem eX7_sameBothWays_29 : decode (zYb kX7_sameBothWays) 29 = .ok (.invokevirtual 62, 3) := by decide +kernel
theorem eX7_sameBothWays_32 : decode (zYb kX7_sameBothWays) 32 = .ok (.iadd, 1) := by decide +kernel
theorem eX7_sameBothWays_33 : decode (zYb kX7_sameBothWays) 33 = .ok (.iconst 1, 1) := by decide +kernel
theorem eX7_sameBothWays_34 : decode (zYb kX7_sameBothWays) 34 = .ok (.isub, 1) := by decide +kernel
theorem eX7_sameBothWays_35 : decode (zYb kX7_sameBothWays) 35 = .ok (.istore 4, 2) := by decide +kernel
theorem eX7_sameBothWays_37 : decode (zYb kX7_sameBothWays) 37 = .ok (.iconst 1, 1) := by decide +kernel
theorem eX7_sameBothWays_38 : decode (zYb kX7_sameBothWays) 38 = .ok (.istore 5, 2) := by decide +kernel
theorem eX7_sameBothWays_40 : decode (zYb kX7_sameBothWays) 40 = .ok (.aload_n 0, 1) := by decide +kernel
theorem eX7_sameBothWays_41 : decode (zYb kX7_sameBothWays) 41 = .ok (.iload_n 1, 1) := by decide +kernel
theorem eX7_sameBothWays_42 : decode (zYb kX7_sameBothWays) 42 = .ok (.iconst 1, 1) := by decide +kernel
theorem eX7_sameBothWays_43 : decode (zYb kX7_sameBothWays) 43 = .ok (.iload_n 3, 1) := by decide +kernel
theorem eX7_sameBothWays_44 : decode (zYb kX7_sameBothWays) 44 = .ok (.iadd, 1) := by decide +kernel
theorem eX7_sameBothWays_45 : decode (zYb kX7_sameBothWays) 45 = .ok (.invokevirtual 62, 3) := by decide +kernel
theorem eX7_sameBothWays_48 : decode (zYb kX7_sameBothWays) 48 = .ok (.istore 6, 2) := by decide +kernel
theorem eX7_sameBothWays_50 : decode (zYb kX7_sameBothWays) 50 = .ok (.iload 6, 2) := by decide +kernel
theorem eX7_sameBothWays_52 : decode (zYb kX7_sameBothWays) 52 = .ok (.aload_n 0, 1) := by decide +kernel
theorem eX7_sameBothWays_53 : decode (zYb kX7_sameBothWays) 53 = .ok (.iload_n 1, 1) := by decide +kernel
theorem eX7_sameBothWays_54 : decode (zYb kX7_sameBothWays) 54 = .ok (.iconst 1, 1) := by decide +kernel
theorem eX7_sameBothWays_55 : decode (zYb kX7_sameBothWays) 55 = .ok (.iload_n 3, 1) := by decide +kernel
theorem eX7_sameBothWays_56 : decode (zYb kX7_sameBothWays) 56 = .ok (.iadd, 1) := by decide +kernel
theorem eX7_sameBothWays_57 : decode (zYb kX7_sameBothWays) 57 = .ok (.iconst 1, 1) := by decide +kernel
theorem eX7_sameBothWays_58 : decode (zYb kX7_sameBothWays) 58 = .ok (.iadd, 1) := by decide +kernel
theorem eX7_sameBothWays_59 : decode (zYb kX7_sameBothWays) 59 = .ok (.invokevirtual 62, 3) := by decide +kernel
theorem eX7_sameBothWays_62 : decode (zYb kX7_sameBothWays) 62 = .ok (.if_icmp .ge 47, 3) := by decide +kernel
theorem eX7_sameBothWays_65 : decode (zYb kX7_sameBothWays) 65 = .ok (.iload 5, 2) := by decide +kernel
theorem eX7_sameBothWays_67 : decode (zYb kX7_sameBothWays) 67 = .ok (.ifCond .eq 33, 3) := by decide +kernel
theorem eX7_sameBothWays_70 : decode (zYb kX7_sameBothWays) 70 = .ok (.aload_n 0, 1) := by decide +kernel
theorem eX7_sameBothWays_71 : decode (zYb kX7_sameBothWays) 71 = .ok (.iload_n 1, 1) := by decide +kernel
theorem eX7_sameBothWays_72 : decode (zYb kX7_sameBothWays) 72 = .ok (.bipush 7, 2) := by decide +kernel
theorem eX7_sameBothWays_74 : decode (zYb kX7_sameBothWays) 74 = .ok (.iload 6, 2) := by decide +kernel
theorem eX7_sameBothWays_76 : decode (zYb kX7_sameBothWays) 76 = .ok (.iadd, 1) := by decide +kernel
theorem eX7_sameBothWays_77 : decode (zYb kX7_sameBothWays) 77 = .ok (.invokevirtual 62, 3) := by decide +kernel
theorem eX7_sameBothWays_80 : decode (zYb kX7_sameBothWays) 80 = .ok (.aload_n 0, 1) := by decide +kernel
theorem eX7_sameBothWays_81 : decode (zYb kX7_sameBothWays) 81 = .ok (.iload_n 1, 1) := by decide +kernel
theorem eX7_sameBothWays_82 : decode (zYb kX7_sameBothWays) 82 = .ok (.bipush 7, 2) := by decide +kernel
theorem eX7_sameBothWays_84 : decode (zYb kX7_sameBothWays) 84 = .ok (.iload 4, 2) := by decide +kernel
theorem eX7_sameBothWays_86 : decode (zYb kX7_sameBothWays) 86 = .ok (.iadd, 1) := by decide +kernel
theorem eX7_sameBothWays_87 : decode (zYb kX7_sameBothWays) 87 = .ok (.iload 6, 2) := by decide +kernel
theorem eX7_sameBothWays_89 : decode (zYb kX7_sameBothWays) 89 = .ok (.isub, 1) := by decide +kernel
theorem eX7_sameBothWays_90 : decode (zYb kX7_sameBothWays) 90 = .ok (.invokevirtual 62, 3) := by decide +kernel
theorem eX7_sameBothWays_93 : decode (zYb kX7_sameBothWays) 93 = .ok (.if_icmp .ne 7, 3) := by decide +kernel
theorem eX7_sameBothWays_96 : decode (zYb kX7_sameBothWays) 96 = .ok (.iconst 1, 1) := by decide +kernel
theorem eX7_sameBothWays_97 : decode (zYb kX7_sameBothWays) 97 = .ok (.goto 4, 3) := by decide +kernel
theorem eX7_sameBothWays_100 : decode (zYb kX7_sameBothWays) 100 = .ok (.iconst 0, 1) := by decide +kernel
theorem eX7_sameBothWays_101 : decode (zYb kX7_sameBothWays) 101 = .ok (.istore 5, 2) := by decide +kernel
theorem eX7_sameBothWays_103 : decode (zYb kX7_sameBothWays) 103 = .ok (.iinc 6 1, 3) := by decide +kernel
theorem eX7_sameBothWays_106 : decode (zYb kX7_sameBothWays) 106 = .ok (.goto (-56), 3) := by decide +kernel
theorem eX7_sameBothWays_109 : decode (zYb kX7_sameBothWays) 109 = .ok (.iload_n 2, 1) := by decide +kernel
theorem eX7_sameBothWays_110 : decode (zYb kX7_sameBothWays) 110 = .ok (.iload 5, 2) := by decide +kernel
theorem eX7_sameBothWays_112 : decode (zYb kX7_sameBothWays) 112 = .ok (.ifCond .eq 7, 3) := by decide +kernel
theorem eX7_sameBothWays_115 : decode (zYb kX7_sameBothWays) 115 = .ok (.iconst 1, 1) := by decide +kernel
theorem eX7_sameBothWays_116 : decode (zYb kX7_sameBothWays) 116 = .ok (.goto 4, 3) := by decide +kernel
theorem eX7_sameBothWays_119 : decode (zYb kX7_sameBothWays) 119 = .ok (.iconst 0, 1) := by decide +kernel
theorem eX7_sameBothWays_120 : decode (zYb kX7_sameBothWays) 120 = .ok (.iadd, 1) := by decide +kernel
theorem eX7_sameBothWays_121 : decode (zYb kX7_sameBothWays) 121 = .ok (.istore_n 2, 1) := by decide +kernel
theorem eX7_sameBothWays_122 : decode (zYb kX7_sameBothWays) 122 = .ok (.iinc 3 1, 3) := by decide +kernel
theorem eX7_sameBothWays_125 : decode (zYb kX7_sameBothWays) 125 = .ok (.goto (-121), 3) := by decide +kernel
theorem eX7_sameBothWays_128 : decode (zYb kX7_sameBothWays) 128 = .ok (.iload_n 2, 1) := by decide +kernel
theorem eX7_sameBothWays_129 : decode (zYb kX7_sameBothWays) 129 = .ok (.ireturn, 1) := by decide +kernel
theorem eX7_sameFromEnds_0 : decode (zYb kX7_sameFromEnds) 0 = .ok (.iconst 0, 1) := by decide +kernel
theorem eX7_sameFromEnds_1 : decode (zYb kX7_sameFromEnds) 1 = .ok (.istore_n 1, 1) := by decide +kernel
theorem eX7_sameFromEnds_2 : decode (zYb kX7_sameFromEnds) 2 = .ok (.iconst 0, 1) := by decide +kernel
theorem eX7_sameFromEnds_3 : decode (zYb kX7_sameFromEnds) 3 = .ok (.istore_n 2, 1) := by decide +kernel
theorem eX7_sameFromEnds_4 : decode (zYb kX7_sameFromEnds) 4 = .ok (.iload_n 2, 1) := by decide +kernel
theorem eX7_sameFromEnds_5 : decode (zYb kX7_sameFromEnds) 5 = .ok (.aload_n 0, 1) := by decide +kernel
theorem eX7_sameFromEnds_6 : decode (zYb kX7_sameFromEnds) 6 = .ok (.getfield 69, 3) := by decide +kernel
theorem eX7_sameFromEnds_9 : decode (zYb kX7_sameFromEnds) 9 = .ok (.if_icmp .ge 75, 3) := by decide +kernel
theorem eX7_sameFromEnds_12 : decode (zYb kX7_sameFromEnds) 12 = .ok (.iconst 1, 1) := by decide +kernel
theorem eX7_sameFromEnds_13 : decode (zYb kX7_sameFromEnds) 13 = .ok (.istore_n 3, 1) := by decide +kernel
theorem eX7_sameFromEnds_14 : decode (zYb kX7_sameFromEnds) 14 = .ok (.iconst 0, 1) := by decide +kernel
theorem eX7_sameFromEnds_15 : decode (zYb kX7_sameFromEnds) 15 = .ok (.istore 4, 2) := by decide +kernel
theorem eX7_sameFromEnds_17 : decode (zYb kX7_sameFromEnds) 17 = .ok (.iload 4, 2) := by decide +kernel
theorem eX7_sameFromEnds_19 : decode (zYb kX7_sameFromEnds) 19 = .ok (.aload_n 0, 1) := by decide +kernel
theorem eX7_sameFromEnds_20 : decode (zYb kX7_sameFromEnds) 20 = .ok (.getfield 72, 3) := by decide +kernel
theorem eX7_sameFromEnds_23 : decode (zYb kX7_sameFromEnds) 23 = .ok (.if_icmp .ge 43, 3) := by decide +kernel
theorem eX7_sameFromEnds_26 : decode (zYb kX7_sameFromEnds) 26 = .ok (.iload_n 3, 1) := by decide +kernel
theorem eX7_sameFromEnds_27 : decode (zYb kX7_sameFromEnds) 27 = .ok (.ifCond .eq 31, 3) := by decide +kernel
theorem eX7_sameFromEnds_30 : decode (zYb kX7_sameFromEnds) 30 = .ok (.aload_n 0, 1) := by decide +kernel
theorem eX7_sameFromEnds_31 : decode (zYb kX7_sameFromEnds) 31 = .ok (.iload_n 2, 1) := by decide +kernel
theorem eX7_sameFromEnds_32 : decode (zYb kX7_sameFromEnds) 32 = .ok (.iload 4, 2) := by decide +kernel
theorem eX7_sameFromEnds_34 : decode (zYb kX7_sameFromEnds) 34 = .ok (.invokevirtual 151, 3) := by decide +kernel
theorem eX7_sameFromEnds_37 : decode (zYb kX7_sameFromEnds) 37 = .ok (.aload_n 0, 1) := by decide +kernel
theorem eX7_sameFromEnds_38 : decode (zYb kX7_sameFromEnds) 38 = .ok (.iload_n 2, 1) := by decide +kernel
theorem eX7_sameFromEnds_39 : decode (zYb kX7_sameFromEnds) 39 = .ok (.aload_n 0, 1) := by decide +kernel
theorem eX7_sameFromEnds_40 : decode (zYb kX7_sameFromEnds) 40 = .ok (.getfield 72, 3) := by decide +kernel
theorem eX7_sameFromEnds_43 : decode (zYb kX7_sameFromEnds) 43 = .ok (.iconst 1, 1) := by decide +kernel
theorem eX7_sameFromEnds_44 : decode (zYb kX7_sameFromEnds) 44 = .ok (.isub, 1) := by decide +kernel
theorem eX7_sameFromEnds_45 : decode (zYb kX7_sameFromEnds) 45 = .ok (.iload 4, 2) := by decide +kernel
theorem eX7_sameFromEnds_47 : decode (zYb kX7_sameFromEnds) 47 = .ok (.isub, 1) := by decide +kernel
theorem eX7_sameFromEnds_48 : decode (zYb kX7_sameFromEnds) 48 = .ok (.invokevirtual 151, 3) := by decide +kernel
theorem eX7_sameFromEnds_51 : decode (zYb kX7_sameFromEnds) 51 = .ok (.if_icmp .ne 7, 3) := by decide +kernel
theorem eX7_sameFromEnds_54 : decode (zYb kX7_sameFromEnds) 54 = .ok (.iconst 1, 1) := by decide +kernel
theorem eX7_sameFromEnds_55 : decode (zYb kX7_sameFromEnds) 55 = .ok (.goto 4, 3) := by decide +kernel
theorem eX7_sameFromEnds_58 : decode (zYb kX7_sameFromEnds) 58 = .ok (.iconst 0, 1) := by decide +kernel
theorem eX7_sameFromEnds_59 : decode (zYb kX7_sameFromEnds) 59 = .ok (.istore_n 3, 1) := by decide +kernel
theorem eX7_sameFromEnds_60 : decode (zYb kX7_sameFromEnds) 60 = .ok (.iinc 4 1, 3) := by decide +kernel
theorem eX7_sameFromEnds_63 : decode (zYb kX7_sameFromEnds) 63 = .ok (.goto (-46), 3) := by decide +kernel
theorem eX7_sameFromEnds_66 : decode (zYb kX7_sameFromEnds) 66 = .ok (.iload_n 1, 1) := by decide +kernel
theorem eX7_sameFromEnds_67 : decode (zYb kX7_sameFromEnds) 67 = .ok (.iload_n 3, 1) := by decide +kernel
theorem eX7_sameFromEnds_68 : decode (zYb kX7_sameFromEnds) 68 = .ok (.ifCond .eq 7, 3) := by decide +kernel
theorem eX7_sameFromEnds_71 : decode (zYb kX7_sameFromEnds) 71 = .ok (.iconst 1, 1) := by decide +kernel
theorem eX7_sameFromEnds_72 : decode (zYb kX7_sameFromEnds) 72 = .ok (.goto 4, 3) := by decide +kernel
theorem eX7_sameFromEnds_75 : decode (zYb kX7_sameFromEnds) 75 = .ok (.iconst 0, 1) := by decide +kernel
theorem eX7_sameFromEnds_76 : decode (zYb kX7_sameFromEnds) 76 = .ok (.iadd, 1) := by decide +kernel
theorem eX7_sameFromEnds_77 : decode (zYb kX7_sameFromEnds) 77 = .ok (.istore_n 1, 1) := by decide +kernel
theorem eX7_sameFromEnds_78 : decode (zYb kX7_sameFromEnds) 78 = .ok (.iinc 2 1, 3) := by decide +kernel
theorem eX7_sameFromEnds_81 : decode (zYb kX7_sameFromEnds) 81 = .ok (.goto (-77), 3) := by decide +kernel
theorem eX7_sameFromEnds_84 : decode (zYb kX7_sameFromEnds) 84 = .ok (.iload_n 1, 1) := by decide +kernel
theorem eX7_sameFromEnds_85 : decode (zYb kX7_sameFromEnds) 85 = .ok (.ireturn, 1) := by decide +kernel
theorem eX7_needlessSeams_0 : decode (zYb kX7_needlessSeams) 0 = .ok (.iconst 0, 1) := by decide +kernel
theorem eX7_needlessSeams_1 : decode (zYb kX7_needlessSeams) 1 = .ok (.istore_n 2, 1) := by decide +kernel
theorem eX7_needlessSeams_2 : decode (zYb kX7_needlessSeams) 2 = .ok (.aload_n 0, 1) := by decide +kernel
theorem eX7_needlessSeams_3 : decode (zYb kX7_needlessSeams) 3 = .ok (.iload_n 1, 1) := by decide +kernel
theorem eX7_needlessSeams_4 : decode (zYb kX7_needlessSeams) 4 = .ok (.invokevirtual 99, 3) := by decide +kernel
theorem eX7_needlessSeams_7 : decode (zYb kX7_needlessSeams) 7 = .ok (.aload_n 0, 1) := by decide +kernel
theorem eX7_needlessSeams_8 : decode (zYb kX7_needlessSeams) 8 = .ok (.invokevirtual 102, 3) := by decide +kernel
theorem eX7_needlessSeams_11 : decode (zYb kX7_needlessSeams) 11 = .ok (.iconst 0, 1) := by decide +kernel
theorem eX7_needlessSeams_12 : decode (zYb kX7_needlessSeams) 12 = .ok (.istore_n 3, 1) := by decide +kernel
theorem eX7_needlessSeams_13 : decode (zYb kX7_needlessSeams) 13 = .ok (.iload_n 3, 1) := by decide +kernel
theorem eX7_needlessSeams_14 : decode (zYb kX7_needlessSeams) 14 = .ok (.aload_n 0, 1) := by decide +kernel
theorem eX7_needlessSeams_15 : decode (zYb kX7_needlessSeams) 15 = .ok (.iload_n 1, 1) := by decide +kernel
theorem eX7_needlessSeams_16 : decode (zYb kX7_needlessSeams) 16 = .ok (.iconst 0, 1) := by decide +kernel
theorem eX7_needlessSeams_17 : decode (zYb kX7_needlessSeams) 17 = .ok (.invokevirtual 62, 3) := by decide +kernel
theorem eX7_needlessSeams_20 : decode (zYb kX7_needlessSeams) 20 = .ok (.iconst 1, 1) := by decide +kernel
theorem eX7_needlessSeams_21 : decode (zYb kX7_needlessSeams) 21 = .ok (.isub, 1) := by decide +kernel
theorem eX7_needlessSeams_22 : decode (zYb kX7_needlessSeams) 22 = .ok (.if_icmp .ge 54, 3) := by decide +kernel
theorem eX7_needlessSeams_25 : decode (zYb kX7_needlessSeams) 25 = .ok (.aload_n 0, 1) := by decide +kernel
theorem eX7_needlessSeams_26 : decode (zYb kX7_needlessSeams) 26 = .ok (.iload_n 1, 1) := by decide +kernel
theorem eX7_needlessSeams_27 : decode (zYb kX7_needlessSeams) 27 = .ok (.invokevirtual 86, 3) := by decide +kernel
theorem eX7_needlessSeams_30 : decode (zYb kX7_needlessSeams) 30 = .ok (.aload_n 0, 1) := by decide +kernel
theorem eX7_needlessSeams_31 : decode (zYb kX7_needlessSeams) 31 = .ok (.iload_n 3, 1) := by decide +kernel
theorem eX7_needlessSeams_32 : decode (zYb kX7_needlessSeams) 32 = .ok (.invokevirtual 148, 3) := by decide +kernel
theorem eX7_needlessSeams_35 : decode (zYb kX7_needlessSeams) 35 = .ok (.aload_n 0, 1) := by decide +kernel
theorem eX7_needlessSeams_36 : decode (zYb kX7_needlessSeams) 36 = .ok (.iconst 1, 1) := by decide +kernel
theorem eX7_needlessSeams_37 : decode (zYb kX7_needlessSeams) 37 = .ok (.invokevirtual 89, 3) := by decide +kernel
theorem eX7_needlessSeams_40 : decode (zYb kX7_needlessSeams) 40 = .ok (.iload_n 2, 1) := by decide +kernel
theorem eX7_needlessSeams_41 : decode (zYb kX7_needlessSeams) 41 = .ok (.aload_n 0, 1) := by decide +kernel
theorem eX7_needlessSeams_42 : decode (zYb kX7_needlessSeams) 42 = .ok (.getfield 69, 3) := by decide +kernel
theorem eX7_needlessSeams_45 : decode (zYb kX7_needlessSeams) 45 = .ok (.aload_n 0, 1) := by decide +kernel
theorem eX7_needlessSeams_46 : decode (zYb kX7_needlessSeams) 46 = .ok (.getfield 93, 3) := by decide +kernel
theorem eX7_needlessSeams_49 : decode (zYb kX7_needlessSeams) 49 = .ok (.if_icmp .ne 18, 3) := by decide +kernel
theorem eX7_needlessSeams_52 : decode (zYb kX7_needlessSeams) 52 = .ok (.aload_n 0, 1) := by decide +kernel
theorem eX7_needlessSeams_53 : decode (zYb kX7_needlessSeams) 53 = .ok (.invokevirtual 105, 3) := by decide +kernel
theorem eX7_needlessSeams_56 : decode (zYb kX7_needlessSeams) 56 = .ok (.aload_n 0, 1) := by decide +kernel
theorem eX7_needlessSeams_57 : decode (zYb kX7_needlessSeams) 57 = .ok (.getfield 69, 3) := by decide +kernel
theorem eX7_needlessSeams_60 : decode (zYb kX7_needlessSeams) 60 = .ok (.if_icmp .ne 7, 3) := by decide +kernel
theorem eX7_needlessSeams_63 : decode (zYb kX7_needlessSeams) 63 = .ok (.iconst 1, 1) := by decide +kernel
theorem eX7_needlessSeams_64 : decode (zYb kX7_needlessSeams) 64 = .ok (.goto 4, 3) := by decide +kernel
theorem eX7_needlessSeams_67 : decode (zYb kX7_needlessSeams) 67 = .ok (.iconst 0, 1) := by decide +kernel
theorem eX7_needlessSeams_68 : decode (zYb kX7_needlessSeams) 68 = .ok (.iadd, 1) := by decide +kernel
theorem eX7_needlessSeams_69 : decode (zYb kX7_needlessSeams) 69 = .ok (.istore_n 2, 1) := by decide +kernel
theorem eX7_needlessSeams_70 : decode (zYb kX7_needlessSeams) 70 = .ok (.iinc 3 1, 3) := by decide +kernel
theorem eX7_needlessSeams_73 : decode (zYb kX7_needlessSeams) 73 = .ok (.goto (-60), 3) := by decide +kernel
theorem eX7_needlessSeams_76 : decode (zYb kX7_needlessSeams) 76 = .ok (.iload_n 2, 1) := by decide +kernel
theorem eX7_needlessSeams_77 : decode (zYb kX7_needlessSeams) 77 = .ok (.ireturn, 1) := by decide +kernel
theorem eX7_scroll_0 : decode (zYb kX7_scroll) 0 = .ok (.aload_n 0, 1) := by decide +kernel
theorem eX7_scroll_1 : decode (zYb kX7_scroll) 1 = .ok (.iload_n 1, 1) := by decide +kernel
theorem eX7_scroll_2 : decode (zYb kX7_scroll) 2 = .ok (.invokevirtual 58, 3) := by decide +kernel
theorem eX7_scroll_5 : decode (zYb kX7_scroll) 5 = .ok (.ifCond .ne 5, 3) := by decide +kernel
theorem eX7_scroll_8 : decode (zYb kX7_scroll) 8 = .ok (.iconst (-1), 1) := by decide +kernel
theorem eX7_scroll_9 : decode (zYb kX7_scroll) 9 = .ok (.ireturn, 1) := by decide +kernel
theorem eX7_scroll_10 : decode (zYb kX7_scroll) 10 = .ok (.iload_n 2, 1) := by decide +kernel
theorem eX7_scroll_11 : decode (zYb kX7_scroll) 11 = .ok (.tableswitch 101 0 6 #[41, 48, 54, 64, 79, 85, 95], 41) := by decide +kernel
theorem eX7_scroll_52 : decode (zYb kX7_scroll) 52 = .ok (.aload_n 0, 1) := by decide +kernel
theorem eX7_scroll_53 : decode (zYb kX7_scroll) 53 = .ok (.iload_n 1, 1) := by decide +kernel
theorem eX7_scroll_54 : decode (zYb kX7_scroll) 54 = .ok (.iconst 0, 1) := by decide +kernel
theorem eX7_scroll_55 : decode (zYb kX7_scroll) 55 = .ok (.invokevirtual 62, 3) := by decide +kernel
theorem eX7_scroll_58 : decode (zYb kX7_scroll) 58 = .ok (.ireturn, 1) := by decide +kernel
theorem eX7_scroll_59 : decode (zYb kX7_scroll) 59 = .ok (.aload_n 0, 1) := by decide +kernel
theorem eX7_scroll_60 : decode (zYb kX7_scroll) 60 = .ok (.iload_n 1, 1) := by decide +kernel
theorem eX7_scroll_61 : decode (zYb kX7_scroll) 61 = .ok (.invokevirtual 128, 3) := by decide +kernel
theorem eX7_scroll_64 : decode (zYb kX7_scroll) 64 = .ok (.ireturn, 1) := by decide +kernel
theorem eX7_scroll_65 : decode (zYb kX7_scroll) 65 = .ok (.aload_n 0, 1) := by decide +kernel
theorem eX7_scroll_66 : decode (zYb kX7_scroll) 66 = .ok (.iload_n 1, 1) := by decide +kernel
theorem eX7_scroll_67 : decode (zYb kX7_scroll) 67 = .ok (.invokevirtual 99, 3) := by decide +kernel
theorem eX7_scroll_70 : decode (zYb kX7_scroll) 70 = .ok (.aload_n 0, 1) := by decide +kernel
theorem eX7_scroll_71 : decode (zYb kX7_scroll) 71 = .ok (.getfield 69, 3) := by decide +kernel
theorem eX7_scroll_74 : decode (zYb kX7_scroll) 74 = .ok (.ireturn, 1) := by decide +kernel
theorem eX7_scroll_75 : decode (zYb kX7_scroll) 75 = .ok (.aload_n 0, 1) := by decide +kernel
theorem eX7_scroll_76 : decode (zYb kX7_scroll) 76 = .ok (.iload_n 1, 1) := by decide +kernel
theorem eX7_scroll_77 : decode (zYb kX7_scroll) 77 = .ok (.invokevirtual 86, 3) := by decide +kernel
theorem eX7_scroll_80 : decode (zYb kX7_scroll) 80 = .ok (.aload_n 0, 1) := by decide +kernel
theorem eX7_scroll_81 : decode (zYb kX7_scroll) 81 = .ok (.iconst 0, 1) := by decide +kernel
theorem eX7_scroll_82 : decode (zYb kX7_scroll) 82 = .ok (.invokevirtual 89, 3) := by decide +kernel
theorem eX7_scroll_85 : decode (zYb kX7_scroll) 85 = .ok (.aload_n 0, 1) := by decide +kernel
theorem eX7_scroll_86 : decode (zYb kX7_scroll) 86 = .ok (.getfield 69, 3) := by decide +kernel
theorem eX7_scroll_89 : decode (zYb kX7_scroll) 89 = .ok (.ireturn, 1) := by decide +kernel
theorem eX7_scroll_90 : decode (zYb kX7_scroll) 90 = .ok (.aload_n 0, 1) := by decide +kernel
theorem eX7_scroll_91 : decode (zYb kX7_scroll) 91 = .ok (.iload_n 1, 1) := by decide +kernel
theorem eX7_scroll_92 : decode (zYb kX7_scroll) 92 = .ok (.invokevirtual 154, 3) := by decide +kernel
theorem eX7_scroll_95 : decode (zYb kX7_scroll) 95 = .ok (.ireturn, 1) := by decide +kernel
theorem eX7_scroll_96 : decode (zYb kX7_scroll) 96 = .ok (.aload_n 0, 1) := by decide +kernel
theorem eX7_scroll_97 : decode (zYb kX7_scroll) 97 = .ok (.iload_n 1, 1) := by decide +kernel
theorem eX7_scroll_98 : decode (zYb kX7_scroll) 98 = .ok (.invokevirtual 99, 3) := by decide +kernel
theorem eX7_scroll_101 : decode (zYb kX7_scroll) 101 = .ok (.aload_n 0, 1) := by decide +kernel
theorem eX7_scroll_102 : decode (zYb kX7_scroll) 102 = .ok (.invokevirtual 157, 3) := by decide +kernel
theorem eX7_scroll_105 : decode (zYb kX7_scroll) 105 = .ok (.ireturn, 1) := by decide +kernel
theorem eX7_scroll_106 : decode (zYb kX7_scroll) 106 = .ok (.aload_n 0, 1) := by decide +kernel
theorem eX7_scroll_107 : decode (zYb kX7_scroll) 107 = .ok (.iload_n 1, 1) := by decide +kernel
theorem eX7_scroll_108 : decode (zYb kX7_scroll) 108 = .ok (.invokevirtual 160, 3) := by decide +kernel
theorem eX7_scroll_111 : decode (zYb kX7_scroll) 111 = .ok (.ireturn, 1) := by decide +kernel
theorem eX7_scroll_112 : decode (zYb kX7_scroll) 112 = .ok (.bipush (-2), 2) := by decide +kernel
theorem eX7_scroll_114 : decode (zYb kX7_scroll) 114 = .ok (.ireturn, 1) := by decide +kernel
theorem eX7_patch_0 : decode (zYb kX7_patch) 0 = .ok (.aload_n 0, 1) := by decide +kernel
theorem eX7_patch_1 : decode (zYb kX7_patch) 1 = .ok (.iload_n 1, 1) := by decide +kernel
theorem eX7_patch_2 : decode (zYb kX7_patch) 2 = .ok (.iload_n 2, 1) := by decide +kernel
theorem eX7_patch_3 : decode (zYb kX7_patch) 3 = .ok (.invokevirtual 134, 3) := by decide +kernel
theorem eX7_patch_6 : decode (zYb kX7_patch) 6 = .ok (.ifCond .eq 12, 3) := by decide +kernel
theorem eX7_patch_9 : decode (zYb kX7_patch) 9 = .ok (.aload_n 0, 1) := by decide +kernel
theorem eX7_patch_10 : decode (zYb kX7_patch) 10 = .ok (.iload_n 1, 1) := by decide +kernel
theorem eX7_patch_11 : decode (zYb kX7_patch) 11 = .ok (.iload_n 2, 1) := by decide +kernel
theorem eX7_patch_12 : decode (zYb kX7_patch) 12 = .ok (.invokevirtual 138, 3) := by decide +kernel
theorem eX7_patch_15 : decode (zYb kX7_patch) 15 = .ok (.goto 4, 3) := by decide +kernel
theorem eX7_patch_18 : decode (zYb kX7_patch) 18 = .ok (.iconst (-1), 1) := by decide +kernel
theorem eX7_patch_19 : decode (zYb kX7_patch) 19 = .ok (.ireturn, 1) := by decide +kernel
theorem eX7_letter_0 : decode (zYb kX7_letter) 0 = .ok (.aload_n 0, 1) := by decide +kernel
theorem eX7_letter_1 : decode (zYb kX7_letter) 1 = .ok (.iload_n 1, 1) := by decide +kernel
theorem eX7_letter_2 : decode (zYb kX7_letter) 2 = .ok (.iload_n 2, 1) := by decide +kernel
theorem eX7_letter_3 : decode (zYb kX7_letter) 3 = .ok (.invokevirtual 134, 3) := by decide +kernel
theorem eX7_letter_6 : decode (zYb kX7_letter) 6 = .ok (.ifCond .eq 40, 3) := by decide +kernel
theorem eX7_letter_9 : decode (zYb kX7_letter) 9 = .ok (.iload_n 3, 1) := by decide +kernel
theorem eX7_letter_10 : decode (zYb kX7_letter) 10 = .ok (.iconst 0, 1) := by decide +kernel
theorem eX7_letter_11 : decode (zYb kX7_letter) 11 = .ok (.aload_n 0, 1) := by decide +kernel
theorem eX7_letter_12 : decode (zYb kX7_letter) 12 = .ok (.iload_n 1, 1) := by decide +kernel
theorem eX7_letter_13 : decode (zYb kX7_letter) 13 = .ok (.iload_n 2, 1) := by decide +kernel
theorem eX7_letter_14 : decode (zYb kX7_letter) 14 = .ok (.invokevirtual 138, 3) := by decide +kernel
theorem eX7_letter_17 : decode (zYb kX7_letter) 17 = .ok (.iconst 1, 1) := by decide +kernel
theorem eX7_letter_18 : decode (zYb kX7_letter) 18 = .ok (.isub, 1) := by decide +kernel
theorem eX7_letter_19 : decode (zYb kX7_letter) 19 = .ok (.invokestatic 54, 3) := by decide +kernel
theorem eX7_letter_22 : decode (zYb kX7_letter) 22 = .ok (.ifCond .eq 24, 3) := by decide +kernel
theorem eX7_letter_25 : decode (zYb kX7_letter) 25 = .ok (.aload_n 0, 1) := by decide +kernel
theorem eX7_letter_26 : decode (zYb kX7_letter) 26 = .ok (.iload_n 1, 1) := by decide +kernel
theorem eX7_letter_27 : decode (zYb kX7_letter) 27 = .ok (.bipush 7, 2) := by decide +kernel
theorem eX7_letter_29 : decode (zYb kX7_letter) 29 = .ok (.aload_n 0, 1) := by decide +kernel
theorem eX7_letter_30 : decode (zYb kX7_letter) 30 = .ok (.iload_n 1, 1) := by decide +kernel
theorem eX7_letter_31 : decode (zYb kX7_letter) 31 = .ok (.iconst 1, 1) := by decide +kernel
theorem eX7_letter_32 : decode (zYb kX7_letter) 32 = .ok (.iload_n 2, 1) := by decide +kernel
theorem eX7_letter_33 : decode (zYb kX7_letter) 33 = .ok (.iadd, 1) := by decide +kernel
theorem eX7_letter_34 : decode (zYb kX7_letter) 34 = .ok (.invokevirtual 62, 3) := by decide +kernel
theorem eX7_letter_37 : decode (zYb kX7_letter) 37 = .ok (.iadd, 1) := by decide +kernel
theorem eX7_letter_38 : decode (zYb kX7_letter) 38 = .ok (.iload_n 3, 1) := by decide +kernel
theorem eX7_letter_39 : decode (zYb kX7_letter) 39 = .ok (.iadd, 1) := by decide +kernel
theorem eX7_letter_40 : decode (zYb kX7_letter) 40 = .ok (.invokevirtual 62, 3) := by decide +kernel
theorem eX7_letter_43 : decode (zYb kX7_letter) 43 = .ok (.goto 4, 3) := by decide +kernel
theorem eX7_letter_46 : decode (zYb kX7_letter) 46 = .ok (.iconst (-1), 1) := by decide +kernel
theorem eX7_letter_47 : decode (zYb kX7_letter) 47 = .ok (.ireturn, 1) := by decide +kernel
theorem eX7_reading_0 : decode (zYb kX7_reading) 0 = .ok (.aload_n 0, 1) := by decide +kernel
theorem eX7_reading_1 : decode (zYb kX7_reading) 1 = .ok (.iload_n 1, 1) := by decide +kernel
theorem eX7_reading_2 : decode (zYb kX7_reading) 2 = .ok (.invokevirtual 58, 3) := by decide +kernel
theorem eX7_reading_5 : decode (zYb kX7_reading) 5 = .ok (.ifCond .ne 5, 3) := by decide +kernel
theorem eX7_reading_8 : decode (zYb kX7_reading) 8 = .ok (.iconst (-1), 1) := by decide +kernel
theorem eX7_reading_9 : decode (zYb kX7_reading) 9 = .ok (.ireturn, 1) := by decide +kernel
theorem eX7_reading_10 : decode (zYb kX7_reading) 10 = .ok (.aload_n 0, 1) := by decide +kernel
theorem eX7_reading_11 : decode (zYb kX7_reading) 11 = .ok (.iload_n 1, 1) := by decide +kernel
theorem eX7_reading_12 : decode (zYb kX7_reading) 12 = .ok (.invokevirtual 99, 3) := by decide +kernel
theorem eX7_reading_15 : decode (zYb kX7_reading) 15 = .ok (.iload_n 2, 1) := by decide +kernel
theorem eX7_reading_16 : decode (zYb kX7_reading) 16 = .ok (.iconst 0, 1) := by decide +kernel
theorem eX7_reading_17 : decode (zYb kX7_reading) 17 = .ok (.aload_n 0, 1) := by decide +kernel
theorem eX7_reading_18 : decode (zYb kX7_reading) 18 = .ok (.getfield 69, 3) := by decide +kernel
theorem eX7_reading_21 : decode (zYb kX7_reading) 21 = .ok (.iconst 1, 1) := by decide +kernel
theorem eX7_reading_22 : decode (zYb kX7_reading) 22 = .ok (.isub, 1) := by decide +kernel
theorem eX7_reading_23 : decode (zYb kX7_reading) 23 = .ok (.invokestatic 54, 3) := by decide +kernel
theorem eX7_reading_26 : decode (zYb kX7_reading) 26 = .ok (.ifCond .eq 26, 3) := by decide +kernel
theorem eX7_reading_29 : decode (zYb kX7_reading) 29 = .ok (.iload_n 3, 1) := by decide +kernel
theorem eX7_reading_30 : decode (zYb kX7_reading) 30 = .ok (.iconst 0, 1) := by decide +kernel
theorem eX7_reading_31 : decode (zYb kX7_reading) 31 = .ok (.aload_n 0, 1) := by decide +kernel
theorem eX7_reading_32 : decode (zYb kX7_reading) 32 = .ok (.getfield 72, 3) := by decide +kernel
theorem eX7_reading_35 : decode (zYb kX7_reading) 35 = .ok (.iconst 1, 1) := by decide +kernel
theorem eX7_reading_36 : decode (zYb kX7_reading) 36 = .ok (.isub, 1) := by decide +kernel
theorem eX7_reading_37 : decode (zYb kX7_reading) 37 = .ok (.invokestatic 54, 3) := by decide +kernel
theorem eX7_reading_40 : decode (zYb kX7_reading) 40 = .ok (.ifCond .eq 12, 3) := by decide +kernel
theorem eX7_reading_43 : decode (zYb kX7_reading) 43 = .ok (.aload_n 0, 1) := by decide +kernel
theorem eX7_reading_44 : decode (zYb kX7_reading) 44 = .ok (.iload_n 2, 1) := by decide +kernel
theorem eX7_reading_45 : decode (zYb kX7_reading) 45 = .ok (.iload_n 3, 1) := by decide +kernel
theorem eX7_reading_46 : decode (zYb kX7_reading) 46 = .ok (.invokevirtual 151, 3) := by decide +kernel
theorem eX7_reading_49 : decode (zYb kX7_reading) 49 = .ok (.goto 4, 3) := by decide +kernel
theorem eX7_reading_52 : decode (zYb kX7_reading) 52 = .ok (.iconst (-1), 1) := by decide +kernel
theorem eX7_reading_53 : decode (zYb kX7_reading) 53 = .ok (.ireturn, 1) := by decide +kernel
theorem eX7_isWord_0 : decode (zYb kX7_isWord) 0 = .ok (.aload_n 0, 1) := by decide +kernel
theorem eX7_isWord_1 : decode (zYb kX7_isWord) 1 = .ok (.getfield 109, 3) := by decide +kernel
theorem eX7_isWord_4 : decode (zYb kX7_isWord) 4 = .ok (.iconst 1, 1) := by decide +kernel
theorem eX7_isWord_5 : decode (zYb kX7_isWord) 5 = .ok (.bipush 12, 2) := by decide +kernel
theorem eX7_isWord_7 : decode (zYb kX7_isWord) 7 = .ok (.invokestatic 54, 3) := by decide +kernel
theorem eX7_isWord_10 : decode (zYb kX7_isWord) 10 = .ok (.istore_n 1, 1) := by decide +kernel
theorem eX7_isWord_11 : decode (zYb kX7_isWord) 11 = .ok (.iconst 0, 1) := by decide +kernel
theorem eX7_isWord_12 : decode (zYb kX7_isWord) 12 = .ok (.istore_n 2, 1) := by decide +kernel
theorem eX7_isWord_13 : decode (zYb kX7_isWord) 13 = .ok (.iload_n 2, 1) := by decide +kernel
theorem eX7_isWord_14 : decode (zYb kX7_isWord) 14 = .ok (.aload_n 0, 1) := by decide +kernel
theorem eX7_isWord_15 : decode (zYb kX7_isWord) 15 = .ok (.getfield 109, 3) := by decide +kernel
theorem eX7_isWord_18 : decode (zYb kX7_isWord) 18 = .ok (.if_icmp .ge 35, 3) := by decide +kernel
theorem eX7_isWord_21 : decode (zYb kX7_isWord) 21 = .ok (.iload_n 1, 1) := by decide +kernel
theorem eX7_isWord_22 : decode (zYb kX7_isWord) 22 = .ok (.ifCond .eq 23, 3) := by decide +kernel
theorem eX7_isWord_25 : decode (zYb kX7_isWord) 25 = .ok (.aload_n 0, 1) := by decide +kernel
theorem eX7_isWord_26 : decode (zYb kX7_isWord) 26 = .ok (.getfield 22, 3) := by decide +kernel
theorem eX7_isWord_29 : decode (zYb kX7_isWord) 29 = .ok (.iload_n 2, 1) := by decide +kernel
theorem eX7_isWord_30 : decode (zYb kX7_isWord) 30 = .ok (.iaload, 1) := by decide +kernel
theorem eX7_isWord_31 : decode (zYb kX7_isWord) 31 = .ok (.bipush 97, 2) := by decide +kernel
theorem eX7_isWord_33 : decode (zYb kX7_isWord) 33 = .ok (.bipush 122, 2) := by decide +kernel
theorem eX7_isWord_35 : decode (zYb kX7_isWord) 35 = .ok (.invokestatic 54, 3) := by decide +kernel
theorem eX7_isWord_38 : decode (zYb kX7_isWord) 38 = .ok (.ifCond .eq 7, 3) := by decide +kernel
theorem eX7_isWord_41 : decode (zYb kX7_isWord) 41 = .ok (.iconst 1, 1) := by decide +kernel
theorem eX7_isWord_42 : decode (zYb kX7_isWord) 42 = .ok (.goto 4, 3) := by decide +kernel
theorem eX7_isWord_45 : decode (zYb kX7_isWord) 45 = .ok (.iconst 0, 1) := by decide +kernel
theorem eX7_isWord_46 : decode (zYb kX7_isWord) 46 = .ok (.istore_n 1, 1) := by decide +kernel
theorem eX7_isWord_47 : decode (zYb kX7_isWord) 47 = .ok (.iinc 2 1, 3) := by decide +kernel
theorem eX7_isWord_50 : decode (zYb kX7_isWord) 50 = .ok (.goto (-37), 3) := by decide +kernel
theorem eX7_isWord_53 : decode (zYb kX7_isWord) 53 = .ok (.iload_n 1, 1) := by decide +kernel
theorem eX7_isWord_54 : decode (zYb kX7_isWord) 54 = .ok (.ireturn, 1) := by decide +kernel
theorem eX7_placeIn_0 : decode (zYb kX7_placeIn) 0 = .ok (.iconst 0, 1) := by decide +kernel
theorem eX7_placeIn_1 : decode (zYb kX7_placeIn) 1 = .ok (.istore_n 2, 1) := by decide +kernel
theorem eX7_placeIn_2 : decode (zYb kX7_placeIn) 2 = .ok (.iload_n 2, 1) := by decide +kernel
theorem eX7_placeIn_3 : decode (zYb kX7_placeIn) 3 = .ok (.aload_n 0, 1) := by decide +kernel
theorem eX7_placeIn_4 : decode (zYb kX7_placeIn) 4 = .ok (.getfield 109, 3) := by decide +kernel
theorem eX7_placeIn_7 : decode (zYb kX7_placeIn) 7 = .ok (.iadd, 1) := by decide +kernel
theorem eX7_placeIn_8 : decode (zYb kX7_placeIn) 8 = .ok (.aload_n 0, 1) := by decide +kernel
theorem eX7_placeIn_9 : decode (zYb kX7_placeIn) 9 = .ok (.getfield 72, 3) := by decide +kernel
theorem eX7_placeIn_12 : decode (zYb kX7_placeIn) 12 = .ok (.if_icmp .gt 67, 3) := by decide +kernel
theorem eX7_placeIn_15 : decode (zYb kX7_placeIn) 15 = .ok (.iconst 1, 1) := by decide +kernel
theorem eX7_placeIn_16 : decode (zYb kX7_placeIn) 16 = .ok (.istore_n 3, 1) := by decide +kernel
theorem eX7_placeIn_17 : decode (zYb kX7_placeIn) 17 = .ok (.iconst 0, 1) := by decide +kernel
theorem eX7_placeIn_18 : decode (zYb kX7_placeIn) 18 = .ok (.istore 4, 2) := by decide +kernel
theorem eX7_placeIn_20 : decode (zYb kX7_placeIn) 20 = .ok (.iload 4, 2) := by decide +kernel
theorem eX7_placeIn_22 : decode (zYb kX7_placeIn) 22 = .ok (.aload_n 0, 1) := by decide +kernel
theorem eX7_placeIn_23 : decode (zYb kX7_placeIn) 23 = .ok (.getfield 109, 3) := by decide +kernel
theorem eX7_placeIn_26 : decode (zYb kX7_placeIn) 26 = .ok (.if_icmp .ge 41, 3) := by decide +kernel
theorem eX7_placeIn_29 : decode (zYb kX7_placeIn) 29 = .ok (.iload_n 3, 1) := by decide +kernel
theorem eX7_placeIn_30 : decode (zYb kX7_placeIn) 30 = .ok (.ifCond .eq 29, 3) := by decide +kernel
theorem eX7_placeIn_33 : decode (zYb kX7_placeIn) 33 = .ok (.aload_n 0, 1) := by decide +kernel
theorem eX7_placeIn_34 : decode (zYb kX7_placeIn) 34 = .ok (.iload_n 1, 1) := by decide +kernel
theorem eX7_placeIn_35 : decode (zYb kX7_placeIn) 35 = .ok (.iload_n 2, 1) := by decide +kernel
theorem eX7_placeIn_36 : decode (zYb kX7_placeIn) 36 = .ok (.iload 4, 2) := by decide +kernel
theorem eX7_placeIn_38 : decode (zYb kX7_placeIn) 38 = .ok (.iadd, 1) := by decide +kernel
theorem eX7_placeIn_39 : decode (zYb kX7_placeIn) 39 = .ok (.invokevirtual 151, 3) := by decide +kernel
theorem eX7_placeIn_42 : decode (zYb kX7_placeIn) 42 = .ok (.aload_n 0, 1) := by decide +kernel
theorem eX7_placeIn_43 : decode (zYb kX7_placeIn) 43 = .ok (.getfield 22, 3) := by decide +kernel
theorem eX7_placeIn_46 : decode (zYb kX7_placeIn) 46 = .ok (.iload 4, 2) := by decide +kernel
theorem eX7_placeIn_48 : decode (zYb kX7_placeIn) 48 = .ok (.iaload, 1) := by decide +kernel
theorem eX7_placeIn_49 : decode (zYb kX7_placeIn) 49 = .ok (.bipush 97, 2) := by decide +kernel
theorem eX7_placeIn_51 : decode (zYb kX7_placeIn) 51 = .ok (.isub, 1) := by decide +kernel
theorem eX7_placeIn_52 : decode (zYb kX7_placeIn) 52 = .ok (.if_icmp .ne 7, 3) := by decide +kernel
theorem eX7_placeIn_55 : decode (zYb kX7_placeIn) 55 = .ok (.iconst 1, 1) := by decide +kernel
theorem eX7_placeIn_56 : decode (zYb kX7_placeIn) 56 = .ok (.goto 4, 3) := by decide +kernel
theorem eX7_placeIn_59 : decode (zYb kX7_placeIn) 59 = .ok (.iconst 0, 1) := by decide +kernel
theorem eX7_placeIn_60 : decode (zYb kX7_placeIn) 60 = .ok (.istore_n 3, 1) := by decide +kernel
theorem eX7_placeIn_61 : decode (zYb kX7_placeIn) 61 = .ok (.iinc 4 1, 3) := by decide +kernel
theorem eX7_placeIn_64 : decode (zYb kX7_placeIn) 64 = .ok (.goto (-44), 3) := by decide +kernel
theorem eX7_placeIn_67 : decode (zYb kX7_placeIn) 67 = .ok (.iload_n 3, 1) := by decide +kernel
theorem eX7_placeIn_68 : decode (zYb kX7_placeIn) 68 = .ok (.ifCond .eq 5, 3) := by decide +kernel
theorem eX7_placeIn_71 : decode (zYb kX7_placeIn) 71 = .ok (.iload_n 2, 1) := by decide +kernel
theorem eX7_placeIn_72 : decode (zYb kX7_placeIn) 72 = .ok (.ireturn, 1) := by decide +kernel
theorem eX7_placeIn_73 : decode (zYb kX7_placeIn) 73 = .ok (.iinc 2 1, 3) := by decide +kernel
theorem eX7_placeIn_76 : decode (zYb kX7_placeIn) 76 = .ok (.goto (-74), 3) := by decide +kernel
theorem eX7_placeIn_79 : decode (zYb kX7_placeIn) 79 = .ok (.bipush (-6), 2) := by decide +kernel
theorem eX7_placeIn_81 : decode (zYb kX7_placeIn) 81 = .ok (.ireturn, 1) := by decide +kernel
theorem eX7_find_0 : decode (zYb kX7_find) 0 = .ok (.aload_n 0, 1) := by decide +kernel
theorem eX7_find_1 : decode (zYb kX7_find) 1 = .ok (.iload_n 1, 1) := by decide +kernel
theorem eX7_find_2 : decode (zYb kX7_find) 2 = .ok (.invokevirtual 58, 3) := by decide +kernel
theorem eX7_find_5 : decode (zYb kX7_find) 5 = .ok (.ifCond .ne 5, 3) := by decide +kernel
theorem eX7_find_8 : decode (zYb kX7_find) 8 = .ok (.iconst (-1), 1) := by decide +kernel
theorem eX7_find_9 : decode (zYb kX7_find) 9 = .ok (.ireturn, 1) := by decide +kernel
theorem eX7_find_10 : decode (zYb kX7_find) 10 = .ok (.iload_n 2, 1) := by decide +kernel
theorem eX7_find_11 : decode (zYb kX7_find) 11 = .ok (.iconst 0, 1) := by decide +kernel
theorem eX7_find_12 : decode (zYb kX7_find) 12 = .ok (.iconst 3, 1) := by decide +kernel
theorem eX7_find_13 : decode (zYb kX7_find) 13 = .ok (.invokestatic 54, 3) := by decide +kernel
theorem eX7_find_16 : decode (zYb kX7_find) 16 = .ok (.ifCond .ne 6, 3) := by decide +kernel
theorem eX7_find_19 : decode (zYb kX7_find) 19 = .ok (.bipush (-2), 2) := by decide +kernel
theorem eX7_find_21 : decode (zYb kX7_find) 21 = .ok (.ireturn, 1) := by decide +kernel
theorem eX7_find_22 : decode (zYb kX7_find) 22 = .ok (.aload_n 0, 1) := by decide +kernel
theorem eX7_find_23 : decode (zYb kX7_find) 23 = .ok (.invokevirtual 163, 3) := by decide +kernel
theorem eX7_find_26 : decode (zYb kX7_find) 26 = .ok (.ifCond .ne 6, 3) := by decide +kernel
theorem eX7_find_29 : decode (zYb kX7_find) 29 = .ok (.bipush (-3), 2) := by decide +kernel
theorem eX7_find_31 : decode (zYb kX7_find) 31 = .ok (.ireturn, 1) := by decide +kernel
theorem eX7_find_32 : decode (zYb kX7_find) 32 = .ok (.aload_n 0, 1) := by decide +kernel
theorem eX7_find_33 : decode (zYb kX7_find) 33 = .ok (.iload_n 1, 1) := by decide +kernel
theorem eX7_find_34 : decode (zYb kX7_find) 34 = .ok (.invokevirtual 99, 3) := by decide +kernel
theorem eX7_find_37 : decode (zYb kX7_find) 37 = .ok (.iconst 0, 1) := by decide +kernel
theorem eX7_find_38 : decode (zYb kX7_find) 38 = .ok (.istore_n 3, 1) := by decide +kernel
theorem eX7_find_39 : decode (zYb kX7_find) 39 = .ok (.bipush (-6), 2) := by decide +kernel
theorem eX7_find_41 : decode (zYb kX7_find) 41 = .ok (.istore 4, 2) := by decide +kernel
theorem eX7_find_43 : decode (zYb kX7_find) 43 = .ok (.aload_n 0, 1) := by decide +kernel
theorem eX7_find_44 : decode (zYb kX7_find) 44 = .ok (.getfield 69, 3) := by decide +kernel
theorem eX7_find_47 : decode (zYb kX7_find) 47 = .ok (.iconst 1, 1) := by decide +kernel
theorem eX7_find_48 : decode (zYb kX7_find) 48 = .ok (.isub, 1) := by decide +kernel
theorem eX7_find_49 : decode (zYb kX7_find) 49 = .ok (.istore 5, 2) := by decide +kernel
theorem eX7_find_51 : decode (zYb kX7_find) 51 = .ok (.iload 5, 2) := by decide +kernel
theorem eX7_find_53 : decode (zYb kX7_find) 53 = .ok (.ifCond .lt 54, 3) := by decide +kernel
theorem eX7_find_56 : decode (zYb kX7_find) 56 = .ok (.aload_n 0, 1) := by decide +kernel
theorem eX7_find_57 : decode (zYb kX7_find) 57 = .ok (.iload 5, 2) := by decide +kernel
theorem eX7_find_59 : decode (zYb kX7_find) 59 = .ok (.invokevirtual 167, 3) := by decide +kernel
theorem eX7_find_62 : decode (zYb kX7_find) 62 = .ok (.bipush (-6), 2) := by decide +kernel
theorem eX7_find_64 : decode (zYb kX7_find) 64 = .ok (.if_icmp .eq 7, 3) := by decide +kernel
theorem eX7_find_67 : decode (zYb kX7_find) 67 = .ok (.iconst 1, 1) := by decide +kernel
theorem eX7_find_68 : decode (zYb kX7_find) 68 = .ok (.goto 4, 3) := by decide +kernel
theorem eX7_find_71 : decode (zYb kX7_find) 71 = .ok (.iconst 0, 1) := by decide +kernel
theorem eX7_find_72 : decode (zYb kX7_find) 72 = .ok (.istore 6, 2) := by decide +kernel
theorem eX7_find_74 : decode (zYb kX7_find) 74 = .ok (.iload_n 3, 1) := by decide +kernel
theorem eX7_find_75 : decode (zYb kX7_find) 75 = .ok (.iload 6, 2) := by decide +kernel
theorem eX7_find_77 : decode (zYb kX7_find) 77 = .ok (.ifCond .eq 7, 3) := by decide +kernel
theorem eX7_find_80 : decode (zYb kX7_find) 80 = .ok (.iconst 1, 1) := by decide +kernel
theorem eX7_find_81 : decode (zYb kX7_find) 81 = .ok (.goto 4, 3) := by decide +kernel
theorem eX7_find_84 : decode (zYb kX7_find) 84 = .ok (.iconst 0, 1) := by decide +kernel
theorem eX7_find_85 : decode (zYb kX7_find) 85 = .ok (.iadd, 1) := by decide +kernel
theorem eX7_find_86 : decode (zYb kX7_find) 86 = .ok (.istore_n 3, 1) := by decide +kernel
theorem eX7_find_87 : decode (zYb kX7_find) 87 = .ok (.iload 6, 2) := by decide +kernel
theorem eX7_find_89 : decode (zYb kX7_find) 89 = .ok (.ifCond .eq 8, 3) := by decide +kernel
theorem eX7_find_92 : decode (zYb kX7_find) 92 = .ok (.iload 5, 2) := by decide +kernel
theorem eX7_find_94 : decode (zYb kX7_find) 94 = .ok (.goto 5, 3) := by decide +kernel
theorem eX7_find_97 : decode (zYb kX7_find) 97 = .ok (.iload 4, 2) := by decide +kernel
theorem eX7_find_99 : decode (zYb kX7_find) 99 = .ok (.istore 4, 2) := by decide +kernel
theorem eX7_find_101 : decode (zYb kX7_find) 101 = .ok (.iinc 5 (-1), 3) := by decide +kernel
theorem eX7_find_104 : decode (zYb kX7_find) 104 = .ok (.goto (-53), 3) := by decide +kernel
theorem eX7_find_107 : decode (zYb kX7_find) 107 = .ok (.iload_n 2, 1) := by decide +kernel
theorem eX7_find_108 : decode (zYb kX7_find) 108 = .ok (.ifCond .ne 7, 3) := by decide +kernel
theorem eX7_find_111 : decode (zYb kX7_find) 111 = .ok (.iload_n 3, 1) := by decide +kernel
theorem eX7_find_112 : decode (zYb kX7_find) 112 = .ok (.goto 52, 3) := by decide +kernel
theorem eX7_find_115 : decode (zYb kX7_find) 115 = .ok (.iload_n 2, 1) := by decide +kernel
theorem eX7_find_116 : decode (zYb kX7_find) 116 = .ok (.iconst 1, 1) := by decide +kernel
theorem eX7_find_117 : decode (zYb kX7_find) 117 = .ok (.if_icmp .ne 8, 3) := by decide +kernel
theorem eX7_find_120 : decode (zYb kX7_find) 120 = .ok (.iload 4, 2) := by decide +kernel
theorem eX7_find_122 : decode (zYb kX7_find) 122 = .ok (.goto 42, 3) := by decide +kernel
theorem eX7_find_125 : decode (zYb kX7_find) 125 = .ok (.iload_n 2, 1) := by decide +kernel
theorem eX7_find_126 : decode (zYb kX7_find) 126 = .ok (.iconst 2, 1) := by decide +kernel
theorem eX7_find_127 : decode (zYb kX7_find) 127 = .ok (.if_icmp .ne 24, 3) := by decide +kernel
theorem eX7_find_130 : decode (zYb kX7_find) 130 = .ok (.iload 4, 2) := by decide +kernel
theorem eX7_find_132 : decode (zYb kX7_find) 132 = .ok (.bipush (-6), 2) := by decide +kernel
theorem eX7_find_134 : decode (zYb kX7_find) 134 = .ok (.if_icmp .ne 8, 3) := by decide +kernel
theorem eX7_find_137 : decode (zYb kX7_find) 137 = .ok (.bipush (-6), 2) := by decide +kernel
theorem eX7_find_139 : decode (zYb kX7_find) 139 = .ok (.goto 25, 3) := by decide +kernel
theorem eX7_find_142 : decode (zYb kX7_find) 142 = .ok (.aload_n 0, 1) := by decide +kernel
theorem eX7_find_143 : decode (zYb kX7_find) 143 = .ok (.iload 4, 2) := by decide +kernel
theorem eX7_find_145 : decode (zYb kX7_find) 145 = .ok (.invokevirtual 167, 3) := by decide +kernel
theorem eX7_find_148 : decode (zYb kX7_find) 148 = .ok (.goto 16, 3) := by decide +kernel
theorem eX7_find_151 : decode (zYb kX7_find) 151 = .ok (.iload_n 3, 1) := by decide +kernel
theorem eX7_find_152 : decode (zYb kX7_find) 152 = .ok (.aload_n 0, 1) := by decide +kernel
theorem eX7_find_153 : decode (zYb kX7_find) 153 = .ok (.getfield 69, 3) := by decide +kernel
theorem eX7_find_156 : decode (zYb kX7_find) 156 = .ok (.if_icmp .ne 7, 3) := by decide +kernel
theorem eX7_find_159 : decode (zYb kX7_find) 159 = .ok (.iconst 1, 1) := by decide +kernel
theorem eX7_find_160 : decode (zYb kX7_find) 160 = .ok (.goto 4, 3) := by decide +kernel
theorem eX7_find_163 : decode (zYb kX7_find) 163 = .ok (.iconst 0, 1) := by decide +kernel
theorem eX7_find_164 : decode (zYb kX7_find) 164 = .ok (.ireturn, 1) := by decide +kernel
theorem eX7_shared_0 : decode (zYb kX7_shared) 0 = .ok (.aload_n 0, 1) := by decide +kernel
theorem eX7_shared_1 : decode (zYb kX7_shared) 1 = .ok (.iload_n 1, 1) := by decide +kernel
theorem eX7_shared_2 : decode (zYb kX7_shared) 2 = .ok (.invokevirtual 58, 3) := by decide +kernel
theorem eX7_shared_5 : decode (zYb kX7_shared) 5 = .ok (.ifCond .eq 20, 3) := by decide +kernel
theorem eX7_shared_8 : decode (zYb kX7_shared) 8 = .ok (.aload_n 0, 1) := by decide +kernel
theorem eX7_shared_9 : decode (zYb kX7_shared) 9 = .ok (.iload_n 2, 1) := by decide +kernel
theorem eX7_shared_10 : decode (zYb kX7_shared) 10 = .ok (.invokevirtual 58, 3) := by decide +kernel
theorem eX7_shared_13 : decode (zYb kX7_shared) 13 = .ok (.ifCond .eq 12, 3) := by decide +kernel
theorem eX7_shared_16 : decode (zYb kX7_shared) 16 = .ok (.aload_n 0, 1) := by decide +kernel
theorem eX7_shared_17 : decode (zYb kX7_shared) 17 = .ok (.iload_n 1, 1) := by decide +kernel
theorem eX7_shared_18 : decode (zYb kX7_shared) 18 = .ok (.iload_n 2, 1) := by decide +kernel
theorem eX7_shared_19 : decode (zYb kX7_shared) 19 = .ok (.invokevirtual 170, 3) := by decide +kernel
theorem eX7_shared_22 : decode (zYb kX7_shared) 22 = .ok (.goto 4, 3) := by decide +kernel
theorem eX7_shared_25 : decode (zYb kX7_shared) 25 = .ok (.iconst (-1), 1) := by decide +kernel
theorem eX7_shared_26 : decode (zYb kX7_shared) 26 = .ok (.ireturn, 1) := by decide +kernel
theorem eX7_howTheyStand_0 : decode (zYb kX7_howTheyStand) 0 = .ok (.aload_n 0, 1) := by decide +kernel
theorem eX7_howTheyStand_1 : decode (zYb kX7_howTheyStand) 1 = .ok (.iload_n 1, 1) := by decide +kernel
theorem eX7_howTheyStand_2 : decode (zYb kX7_howTheyStand) 2 = .ok (.iload_n 2, 1) := by decide +kernel
theorem eX7_howTheyStand_3 : decode (zYb kX7_howTheyStand) 3 = .ok (.invokevirtual 170, 3) := by decide +kernel
theorem eX7_howTheyStand_6 : decode (zYb kX7_howTheyStand) 6 = .ok (.istore_n 3, 1) := by decide +kernel
theorem eX7_howTheyStand_7 : decode (zYb kX7_howTheyStand) 7 = .ok (.iload_n 3, 1) := by decide +kernel
theorem eX7_howTheyStand_8 : decode (zYb kX7_howTheyStand) 8 = .ok (.ifCond .ne 5, 3) := by decide +kernel
theorem eX7_howTheyStand_11 : decode (zYb kX7_howTheyStand) 11 = .ok (.iconst 0, 1) := by decide +kernel
theorem eX7_howTheyStand_12 : decode (zYb kX7_howTheyStand) 12 = .ok (.ireturn, 1) := by decide +kernel
theorem eX7_howTheyStand_13 : decode (zYb kX7_howTheyStand) 13 = .ok (.iload_n 3, 1) := by decide +kernel
theorem eX7_howTheyStand_14 : decode (zYb kX7_howTheyStand) 14 = .ok (.aload_n 0, 1) := by decide +kernel
theorem eX7_howTheyStand_15 : decode (zYb kX7_howTheyStand) 15 = .ok (.getfield 69, 3) := by decide +kernel
theorem eX7_howTheyStand_18 : decode (zYb kX7_howTheyStand) 18 = .ok (.if_icmp .ne 19, 3) := by decide +kernel
theorem eX7_howTheyStand_21 : decode (zYb kX7_howTheyStand) 21 = .ok (.iload_n 3, 1) := by decide +kernel
theorem eX7_howTheyStand_22 : decode (zYb kX7_howTheyStand) 22 = .ok (.aload_n 0, 1) := by decide +kernel
theorem eX7_howTheyStand_23 : decode (zYb kX7_howTheyStand) 23 = .ok (.getfield 93, 3) := by decide +kernel
theorem eX7_howTheyStand_26 : decode (zYb kX7_howTheyStand) 26 = .ok (.if_icmp .ne 7, 3) := by decide +kernel
theorem eX7_howTheyStand_29 : decode (zYb kX7_howTheyStand) 29 = .ok (.iconst 4, 1) := by decide +kernel
theorem eX7_howTheyStand_30 : decode (zYb kX7_howTheyStand) 30 = .ok (.goto 20, 3) := by decide +kernel
theorem eX7_howTheyStand_33 : decode (zYb kX7_howTheyStand) 33 = .ok (.iconst 2, 1) := by decide +kernel
theorem eX7_howTheyStand_34 : decode (zYb kX7_howTheyStand) 34 = .ok (.goto 16, 3) := by decide +kernel
theorem eX7_howTheyStand_37 : decode (zYb kX7_howTheyStand) 37 = .ok (.iload_n 3, 1) := by decide +kernel
theorem eX7_howTheyStand_38 : decode (zYb kX7_howTheyStand) 38 = .ok (.aload_n 0, 1) := by decide +kernel
theorem eX7_howTheyStand_39 : decode (zYb kX7_howTheyStand) 39 = .ok (.getfield 93, 3) := by decide +kernel
theorem eX7_howTheyStand_42 : decode (zYb kX7_howTheyStand) 42 = .ok (.if_icmp .ne 7, 3) := by decide +kernel
theorem eX7_howTheyStand_45 : decode (zYb kX7_howTheyStand) 45 = .ok (.iconst 3, 1) := by decide +kernel
theorem eX7_howTheyStand_46 : decode (zYb kX7_howTheyStand) 46 = .ok (.goto 4, 3) := by decide +kernel
theorem eX7_howTheyStand_49 : decode (zYb kX7_howTheyStand) 49 = .ok (.iconst 1, 1) := by decide +kernel
theorem eX7_howTheyStand_50 : decode (zYb kX7_howTheyStand) 50 = .ok (.ireturn, 1) := by decide +kernel
theorem eX7_compare_0 : decode (zYb kX7_compare) 0 = .ok (.aload_n 0, 1) := by decide +kernel
theorem eX7_compare_1 : decode (zYb kX7_compare) 1 = .ok (.iload_n 1, 1) := by decide +kernel
theorem eX7_compare_2 : decode (zYb kX7_compare) 2 = .ok (.invokevirtual 58, 3) := by decide +kernel
theorem eX7_compare_5 : decode (zYb kX7_compare) 5 = .ok (.ifCond .eq 20, 3) := by decide +kernel
theorem eX7_compare_8 : decode (zYb kX7_compare) 8 = .ok (.aload_n 0, 1) := by decide +kernel
theorem eX7_compare_9 : decode (zYb kX7_compare) 9 = .ok (.iload_n 2, 1) := by decide +kernel
theorem eX7_compare_10 : decode (zYb kX7_compare) 10 = .ok (.invokevirtual 58, 3) := by decide +kernel
theorem eX7_compare_13 : decode (zYb kX7_compare) 13 = .ok (.ifCond .eq 12, 3) := by decide +kernel
theorem eX7_compare_16 : decode (zYb kX7_compare) 16 = .ok (.aload_n 0, 1) := by decide +kernel
theorem eX7_compare_17 : decode (zYb kX7_compare) 17 = .ok (.iload_n 1, 1) := by decide +kernel
theorem eX7_compare_18 : decode (zYb kX7_compare) 18 = .ok (.iload_n 2, 1) := by decide +kernel
theorem eX7_compare_19 : decode (zYb kX7_compare) 19 = .ok (.invokevirtual 173, 3) := by decide +kernel
theorem eX7_compare_22 : decode (zYb kX7_compare) 22 = .ok (.goto 4, 3) := by decide +kernel
theorem eX7_compare_25 : decode (zYb kX7_compare) 25 = .ok (.iconst (-1), 1) := by decide +kernel
theorem eX7_compare_26 : decode (zYb kX7_compare) 26 = .ok (.ireturn, 1) := by decide +kernel
theorem eX7_allPatches_0 : decode (zYb kX7_allPatches) 0 = .ok (.iconst 0, 1) := by decide +kernel
theorem eX7_allPatches_1 : decode (zYb kX7_allPatches) 1 = .ok (.istore_n 1, 1) := by decide +kernel
theorem eX7_allPatches_2 : decode (zYb kX7_allPatches) 2 = .ok (.iconst 0, 1) := by decide +kernel
theorem eX7_allPatches_3 : decode (zYb kX7_allPatches) 3 = .ok (.istore_n 2, 1) := by decide +kernel
theorem eX7_allPatches_4 : decode (zYb kX7_allPatches) 4 = .ok (.iload_n 2, 1) := by decide +kernel
theorem eX7_allPatches_5 : decode (zYb kX7_allPatches) 5 = .ok (.aload_n 0, 1) := by decide +kernel
theorem eX7_allPatches_6 : decode (zYb kX7_allPatches) 6 = .ok (.getfield 7, 3) := by decide +kernel
theorem eX7_allPatches_9 : decode (zYb kX7_allPatches) 9 = .ok (.iconst 0, 1) := by decide +kernel
theorem eX7_allPatches_10 : decode (zYb kX7_allPatches) 10 = .ok (.iaload, 1) := by decide +kernel
theorem eX7_allPatches_11 : decode (zYb kX7_allPatches) 11 = .ok (.if_icmp .ge 18, 3) := by decide +kernel
theorem eX7_allPatches_14 : decode (zYb kX7_allPatches) 14 = .ok (.iload_n 1, 1) := by decide +kernel
theorem eX7_allPatches_15 : decode (zYb kX7_allPatches) 15 = .ok (.aload_n 0, 1) := by decide +kernel
theorem eX7_allPatches_16 : decode (zYb kX7_allPatches) 16 = .ok (.iload_n 2, 1) := by decide +kernel
theorem eX7_allPatches_17 : decode (zYb kX7_allPatches) 17 = .ok (.iconst 0, 1) := by decide +kernel
theorem eX7_allPatches_18 : decode (zYb kX7_allPatches) 18 = .ok (.invokevirtual 62, 3) := by decide +kernel
theorem eX7_allPatches_21 : decode (zYb kX7_allPatches) 21 = .ok (.iadd, 1) := by decide +kernel
theorem eX7_allPatches_22 : decode (zYb kX7_allPatches) 22 = .ok (.istore_n 1, 1) := by decide +kernel
theorem eX7_allPatches_23 : decode (zYb kX7_allPatches) 23 = .ok (.iinc 2 1, 3) := by decide +kernel
theorem eX7_allPatches_26 : decode (zYb kX7_allPatches) 26 = .ok (.goto (-22), 3) := by decide +kernel
theorem eX7_allPatches_29 : decode (zYb kX7_allPatches) 29 = .ok (.iload_n 1, 1) := by decide +kernel
theorem eX7_allPatches_30 : decode (zYb kX7_allPatches) 30 = .ok (.ireturn, 1) := by decide +kernel
theorem eX7_allLetters_0 : decode (zYb kX7_allLetters) 0 = .ok (.iconst 0, 1) := by decide +kernel
theorem eX7_allLetters_1 : decode (zYb kX7_allLetters) 1 = .ok (.istore_n 1, 1) := by decide +kernel
theorem eX7_allLetters_2 : decode (zYb kX7_allLetters) 2 = .ok (.iconst 0, 1) := by decide +kernel
theorem eX7_allLetters_3 : decode (zYb kX7_allLetters) 3 = .ok (.istore_n 2, 1) := by decide +kernel
theorem eX7_allLetters_4 : decode (zYb kX7_allLetters) 4 = .ok (.iload_n 2, 1) := by decide +kernel
theorem eX7_allLetters_5 : decode (zYb kX7_allLetters) 5 = .ok (.aload_n 0, 1) := by decide +kernel
theorem eX7_allLetters_6 : decode (zYb kX7_allLetters) 6 = .ok (.getfield 7, 3) := by decide +kernel
theorem eX7_allLetters_9 : decode (zYb kX7_allLetters) 9 = .ok (.iconst 0, 1) := by decide +kernel
theorem eX7_allLetters_10 : decode (zYb kX7_allLetters) 10 = .ok (.iaload, 1) := by decide +kernel
theorem eX7_allLetters_11 : decode (zYb kX7_allLetters) 11 = .ok (.if_icmp .ge 17, 3) := by decide +kernel
theorem eX7_allLetters_14 : decode (zYb kX7_allLetters) 14 = .ok (.iload_n 1, 1) := by decide +kernel
theorem eX7_allLetters_15 : decode (zYb kX7_allLetters) 15 = .ok (.aload_n 0, 1) := by decide +kernel
theorem eX7_allLetters_16 : decode (zYb kX7_allLetters) 16 = .ok (.iload_n 2, 1) := by decide +kernel
theorem eX7_allLetters_17 : decode (zYb kX7_allLetters) 17 = .ok (.invokevirtual 128, 3) := by decide +kernel
theorem eX7_allLetters_20 : decode (zYb kX7_allLetters) 20 = .ok (.iadd, 1) := by decide +kernel
theorem eX7_allLetters_21 : decode (zYb kX7_allLetters) 21 = .ok (.istore_n 1, 1) := by decide +kernel
theorem eX7_allLetters_22 : decode (zYb kX7_allLetters) 22 = .ok (.iinc 2 1, 3) := by decide +kernel
theorem eX7_allLetters_25 : decode (zYb kX7_allLetters) 25 = .ok (.goto (-21), 3) := by decide +kernel
theorem eX7_allLetters_28 : decode (zYb kX7_allLetters) 28 = .ok (.iload_n 1, 1) := by decide +kernel
theorem eX7_allLetters_29 : decode (zYb kX7_allLetters) 29 = .ok (.ireturn, 1) := by decide +kernel
theorem eX7_allReadings_0 : decode (zYb kX7_allReadings) 0 = .ok (.iconst 0, 1) := by decide +kernel
theorem eX7_allReadings_1 : decode (zYb kX7_allReadings) 1 = .ok (.istore_n 1, 1) := by decide +kernel
theorem eX7_allReadings_2 : decode (zYb kX7_allReadings) 2 = .ok (.iconst 0, 1) := by decide +kernel
theorem eX7_allReadings_3 : decode (zYb kX7_allReadings) 3 = .ok (.istore_n 2, 1) := by decide +kernel
theorem eX7_allReadings_4 : decode (zYb kX7_allReadings) 4 = .ok (.iload_n 2, 1) := by decide +kernel
theorem eX7_allReadings_5 : decode (zYb kX7_allReadings) 5 = .ok (.aload_n 0, 1) := by decide +kernel
theorem eX7_allReadings_6 : decode (zYb kX7_allReadings) 6 = .ok (.getfield 7, 3) := by decide +kernel
theorem eX7_allReadings_9 : decode (zYb kX7_allReadings) 9 = .ok (.iconst 0, 1) := by decide +kernel
theorem eX7_allReadings_10 : decode (zYb kX7_allReadings) 10 = .ok (.iaload, 1) := by decide +kernel
theorem eX7_allReadings_11 : decode (zYb kX7_allReadings) 11 = .ok (.if_icmp .ge 83, 3) := by decide +kernel
theorem eX7_allReadings_14 : decode (zYb kX7_allReadings) 14 = .ok (.iconst 0, 1) := by decide +kernel
theorem eX7_allReadings_15 : decode (zYb kX7_allReadings) 15 = .ok (.istore_n 3, 1) := by decide +kernel
theorem eX7_allReadings_16 : decode (zYb kX7_allReadings) 16 = .ok (.iload_n 3, 1) := by decide +kernel
theorem eX7_allReadings_17 : decode (zYb kX7_allReadings) 17 = .ok (.sipush 128, 3) := by decide +kernel
theorem eX7_allReadings_20 : decode (zYb kX7_allReadings) 20 = .ok (.if_icmp .ge 16, 3) := by decide +kernel
theorem eX7_allReadings_23 : decode (zYb kX7_allReadings) 23 = .ok (.aload_n 0, 1) := by decide +kernel
theorem eX7_allReadings_24 : decode (zYb kX7_allReadings) 24 = .ok (.getfield 37, 3) := by decide +kernel
theorem eX7_allReadings_27 : decode (zYb kX7_allReadings) 27 = .ok (.iload_n 3, 1) := by decide +kernel
theorem eX7_allReadings_28 : decode (zYb kX7_allReadings) 28 = .ok (.iconst 0, 1) := by decide +kernel
theorem eX7_allReadings_29 : decode (zYb kX7_allReadings) 29 = .ok (.iastore, 1) := by decide +kernel
theorem eX7_allReadings_30 : decode (zYb kX7_allReadings) 30 = .ok (.iinc 3 1, 3) := by decide +kernel
theorem eX7_allReadings_33 : decode (zYb kX7_allReadings) 33 = .ok (.goto (-17), 3) := by decide +kernel
theorem eX7_allReadings_36 : decode (zYb kX7_allReadings) 36 = .ok (.iconst 0, 1) := by decide +kernel
theorem eX7_allReadings_37 : decode (zYb kX7_allReadings) 37 = .ok (.istore_n 3, 1) := by decide +kernel
theorem eX7_allReadings_38 : decode (zYb kX7_allReadings) 38 = .ok (.iload_n 3, 1) := by decide +kernel
theorem eX7_allReadings_39 : decode (zYb kX7_allReadings) 39 = .ok (.iload_n 2, 1) := by decide +kernel
theorem eX7_allReadings_40 : decode (zYb kX7_allReadings) 40 = .ok (.if_icmp .ge 16, 3) := by decide +kernel
theorem eX7_allReadings_43 : decode (zYb kX7_allReadings) 43 = .ok (.aload_n 0, 1) := by decide +kernel
theorem eX7_allReadings_44 : decode (zYb kX7_allReadings) 44 = .ok (.iload_n 2, 1) := by decide +kernel
theorem eX7_allReadings_45 : decode (zYb kX7_allReadings) 45 = .ok (.iload_n 3, 1) := by decide +kernel
theorem eX7_allReadings_46 : decode (zYb kX7_allReadings) 46 = .ok (.invokevirtual 170, 3) := by decide +kernel
theorem eX7_allReadings_49 : decode (zYb kX7_allReadings) 49 = .ok (.pop, 1) := by decide +kernel
theorem eX7_allReadings_50 : decode (zYb kX7_allReadings) 50 = .ok (.iinc 3 1, 3) := by decide +kernel
theorem eX7_allReadings_53 : decode (zYb kX7_allReadings) 53 = .ok (.goto (-15), 3) := by decide +kernel
theorem eX7_allReadings_56 : decode (zYb kX7_allReadings) 56 = .ok (.aload_n 0, 1) := by decide +kernel
theorem eX7_allReadings_57 : decode (zYb kX7_allReadings) 57 = .ok (.iload_n 2, 1) := by decide +kernel
theorem eX7_allReadings_58 : decode (zYb kX7_allReadings) 58 = .ok (.invokevirtual 99, 3) := by decide +kernel
theorem eX7_allReadings_61 : decode (zYb kX7_allReadings) 61 = .ok (.iconst 0, 1) := by decide +kernel
theorem eX7_allReadings_62 : decode (zYb kX7_allReadings) 62 = .ok (.istore_n 3, 1) := by decide +kernel
theorem eX7_allReadings_63 : decode (zYb kX7_allReadings) 63 = .ok (.iload_n 3, 1) := by decide +kernel
theorem eX7_allReadings_64 : decode (zYb kX7_allReadings) 64 = .ok (.aload_n 0, 1) := by decide +kernel
theorem eX7_allReadings_65 : decode (zYb kX7_allReadings) 65 = .ok (.getfield 69, 3) := by decide +kernel
theorem eX7_allReadings_68 : decode (zYb kX7_allReadings) 68 = .ok (.if_icmp .ge 20, 3) := by decide +kernel
theorem eX7_allReadings_71 : decode (zYb kX7_allReadings) 71 = .ok (.iload_n 1, 1) := by decide +kernel
theorem eX7_allReadings_72 : decode (zYb kX7_allReadings) 72 = .ok (.iconst 1, 1) := by decide +kernel
theorem eX7_allReadings_73 : decode (zYb kX7_allReadings) 73 = .ok (.aload_n 0, 1) := by decide +kernel
theorem eX7_allReadings_74 : decode (zYb kX7_allReadings) 74 = .ok (.getfield 37, 3) := by decide +kernel
theorem eX7_allReadings_77 : decode (zYb kX7_allReadings) 77 = .ok (.iload_n 3, 1) := by decide +kernel
theorem eX7_allReadings_78 : decode (zYb kX7_allReadings) 78 = .ok (.iaload, 1) := by decide +kernel
theorem eX7_allReadings_79 : decode (zYb kX7_allReadings) 79 = .ok (.isub, 1) := by decide +kernel
theorem eX7_allReadings_80 : decode (zYb kX7_allReadings) 80 = .ok (.iadd, 1) := by decide +kernel
theorem eX7_allReadings_81 : decode (zYb kX7_allReadings) 81 = .ok (.istore_n 1, 1) := by decide +kernel
theorem eX7_allReadings_82 : decode (zYb kX7_allReadings) 82 = .ok (.iinc 3 1, 3) := by decide +kernel
theorem eX7_allReadings_85 : decode (zYb kX7_allReadings) 85 = .ok (.goto (-22), 3) := by decide +kernel
theorem eX7_allReadings_88 : decode (zYb kX7_allReadings) 88 = .ok (.iinc 2 1, 3) := by decide +kernel
theorem eX7_allReadings_91 : decode (zYb kX7_allReadings) 91 = .ok (.goto (-87), 3) := by decide +kernel
theorem eX7_allReadings_94 : decode (zYb kX7_allReadings) 94 = .ok (.iload_n 1, 1) := by decide +kernel
theorem eX7_allReadings_95 : decode (zYb kX7_allReadings) 95 = .ok (.ireturn, 1) := by decide +kernel
theorem eX7_samePairs_0 : decode (zYb kX7_samePairs) 0 = .ok (.iconst 0, 1) := by decide +kernel
theorem eX7_samePairs_1 : decode (zYb kX7_samePairs) 1 = .ok (.istore_n 1, 1) := by decide +kernel
theorem eX7_samePairs_2 : decode (zYb kX7_samePairs) 2 = .ok (.iconst 0, 1) := by decide +kernel
theorem eX7_samePairs_3 : decode (zYb kX7_samePairs) 3 = .ok (.istore_n 2, 1) := by decide +kernel
theorem eX7_samePairs_4 : decode (zYb kX7_samePairs) 4 = .ok (.iload_n 2, 1) := by decide +kernel
theorem eX7_samePairs_5 : decode (zYb kX7_samePairs) 5 = .ok (.aload_n 0, 1) := by decide +kernel
theorem eX7_samePairs_6 : decode (zYb kX7_samePairs) 6 = .ok (.getfield 7, 3) := by decide +kernel
theorem eX7_samePairs_9 : decode (zYb kX7_samePairs) 9 = .ok (.iconst 0, 1) := by decide +kernel
theorem eX7_samePairs_10 : decode (zYb kX7_samePairs) 10 = .ok (.iaload, 1) := by decide +kernel
theorem eX7_samePairs_11 : decode (zYb kX7_samePairs) 11 = .ok (.if_icmp .ge 40, 3) := by decide +kernel
theorem eX7_samePairs_14 : decode (zYb kX7_samePairs) 14 = .ok (.iconst 0, 1) := by decide +kernel
theorem eX7_samePairs_15 : decode (zYb kX7_samePairs) 15 = .ok (.istore_n 3, 1) := by decide +kernel
theorem eX7_samePairs_16 : decode (zYb kX7_samePairs) 16 = .ok (.iload_n 3, 1) := by decide +kernel
theorem eX7_samePairs_17 : decode (zYb kX7_samePairs) 17 = .ok (.iload_n 2, 1) := by decide +kernel
theorem eX7_samePairs_18 : decode (zYb kX7_samePairs) 18 = .ok (.if_icmp .ge 27, 3) := by decide +kernel
theorem eX7_samePairs_21 : decode (zYb kX7_samePairs) 21 = .ok (.iload_n 1, 1) := by decide +kernel
theorem eX7_samePairs_22 : decode (zYb kX7_samePairs) 22 = .ok (.aload_n 0, 1) := by decide +kernel
theorem eX7_samePairs_23 : decode (zYb kX7_samePairs) 23 = .ok (.iload_n 2, 1) := by decide +kernel
theorem eX7_samePairs_24 : decode (zYb kX7_samePairs) 24 = .ok (.iload_n 3, 1) := by decide +kernel
theorem eX7_samePairs_25 : decode (zYb kX7_samePairs) 25 = .ok (.invokevirtual 173, 3) := by decide +kernel
theorem eX7_samePairs_28 : decode (zYb kX7_samePairs) 28 = .ok (.iconst 4, 1) := by decide +kernel
theorem eX7_samePairs_29 : decode (zYb kX7_samePairs) 29 = .ok (.if_icmp .ne 7, 3) := by decide +kernel
theorem eX7_samePairs_32 : decode (zYb kX7_samePairs) 32 = .ok (.iconst 1, 1) := by decide +kernel
theorem eX7_samePairs_33 : decode (zYb kX7_samePairs) 33 = .ok (.goto 4, 3) := by decide +kernel
theorem eX7_samePairs_36 : decode (zYb kX7_samePairs) 36 = .ok (.iconst 0, 1) := by decide +kernel
theorem eX7_samePairs_37 : decode (zYb kX7_samePairs) 37 = .ok (.iadd, 1) := by decide +kernel
theorem eX7_samePairs_38 : decode (zYb kX7_samePairs) 38 = .ok (.istore_n 1, 1) := by decide +kernel
theorem eX7_samePairs_39 : decode (zYb kX7_samePairs) 39 = .ok (.iinc 3 1, 3) := by decide +kernel
theorem eX7_samePairs_42 : decode (zYb kX7_samePairs) 42 = .ok (.goto (-26), 3) := by decide +kernel
theorem eX7_samePairs_45 : decode (zYb kX7_samePairs) 45 = .ok (.iinc 2 1, 3) := by decide +kernel
theorem eX7_samePairs_48 : decode (zYb kX7_samePairs) 48 = .ok (.goto (-44), 3) := by decide +kernel
theorem eX7_samePairs_51 : decode (zYb kX7_samePairs) 51 = .ok (.iload_n 1, 1) := by decide +kernel
theorem eX7_samePairs_52 : decode (zYb kX7_samePairs) 52 = .ok (.ireturn, 1) := by decide +kernel
theorem eX7_count_0 : decode (zYb kX7_count) 0 = .ok (.iload_n 1, 1) := by decide +kernel
theorem eX7_count_1 : decode (zYb kX7_count) 1 = .ok (.tableswitch 80 0 6 #[43, 50, 55, 60, 65, 70, 75], 43) := by decide +kernel
theorem eX7_count_44 : decode (zYb kX7_count) 44 = .ok (.aload_n 0, 1) := by decide +kernel
theorem eX7_count_45 : decode (zYb kX7_count) 45 = .ok (.getfield 7, 3) := by decide +kernel
theorem eX7_count_48 : decode (zYb kX7_count) 48 = .ok (.iconst 0, 1) := by decide +kernel
theorem eX7_count_49 : decode (zYb kX7_count) 49 = .ok (.iaload, 1) := by decide +kernel
theorem eX7_count_50 : decode (zYb kX7_count) 50 = .ok (.ireturn, 1) := by decide +kernel
theorem eX7_count_51 : decode (zYb kX7_count) 51 = .ok (.aload_n 0, 1) := by decide +kernel
theorem eX7_count_52 : decode (zYb kX7_count) 52 = .ok (.invokevirtual 176, 3) := by decide +kernel
theorem eX7_count_55 : decode (zYb kX7_count) 55 = .ok (.ireturn, 1) := by decide +kernel
theorem eX7_count_56 : decode (zYb kX7_count) 56 = .ok (.aload_n 0, 1) := by decide +kernel
theorem eX7_count_57 : decode (zYb kX7_count) 57 = .ok (.invokevirtual 179, 3) := by decide +kernel
theorem eX7_count_60 : decode (zYb kX7_count) 60 = .ok (.ireturn, 1) := by decide +kernel
theorem eX7_count_61 : decode (zYb kX7_count) 61 = .ok (.aload_n 0, 1) := by decide +kernel
theorem eX7_count_62 : decode (zYb kX7_count) 62 = .ok (.invokevirtual 182, 3) := by decide +kernel
theorem eX7_count_65 : decode (zYb kX7_count) 65 = .ok (.ireturn, 1) := by decide +kernel
theorem eX7_count_66 : decode (zYb kX7_count) 66 = .ok (.aload_n 0, 1) := by decide +kernel
theorem eX7_count_67 : decode (zYb kX7_count) 67 = .ok (.invokevirtual 185, 3) := by decide +kernel
theorem eX7_count_70 : decode (zYb kX7_count) 70 = .ok (.ireturn, 1) := by decide +kernel
theorem eX7_count_71 : decode (zYb kX7_count) 71 = .ok (.aload_n 0, 1) := by decide +kernel
theorem eX7_count_72 : decode (zYb kX7_count) 72 = .ok (.getfield 109, 3) := by decide +kernel
theorem eX7_count_75 : decode (zYb kX7_count) 75 = .ok (.ireturn, 1) := by decide +kernel
theorem eX7_count_76 : decode (zYb kX7_count) 76 = .ok (.aload_n 0, 1) := by decide +kernel
theorem eX7_count_77 : decode (zYb kX7_count) 77 = .ok (.getfield 46, 3) := by decide +kernel
theorem eX7_count_80 : decode (zYb kX7_count) 80 = .ok (.ireturn, 1) := by decide +kernel
theorem eX7_count_81 : decode (zYb kX7_count) 81 = .ok (.bipush (-2), 2) := by decide +kernel
theorem eX7_count_83 : decode (zYb kX7_count) 83 = .ok (.ireturn, 1) := by decide +kernel
theorem eX7_readingsIfCut_0 : decode (zYb kX7_readingsIfCut) 0 = .ok (.aload_n 0, 1) := by decide +kernel
theorem eX7_readingsIfCut_1 : decode (zYb kX7_readingsIfCut) 1 = .ok (.iload_n 1, 1) := by decide +kernel
theorem eX7_readingsIfCut_2 : decode (zYb kX7_readingsIfCut) 2 = .ok (.invokevirtual 86, 3) := by decide +kernel
theorem eX7_readingsIfCut_5 : decode (zYb kX7_readingsIfCut) 5 = .ok (.aload_n 0, 1) := by decide +kernel
theorem eX7_readingsIfCut_6 : decode (zYb kX7_readingsIfCut) 6 = .ok (.iload_n 2, 1) := by decide +kernel
theorem eX7_readingsIfCut_7 : decode (zYb kX7_readingsIfCut) 7 = .ok (.iload_n 3, 1) := by decide +kernel
theorem eX7_readingsIfCut_8 : decode (zYb kX7_readingsIfCut) 8 = .ok (.invokevirtual 141, 3) := by decide +kernel
theorem eX7_readingsIfCut_11 : decode (zYb kX7_readingsIfCut) 11 = .ok (.aload_n 0, 1) := by decide +kernel
theorem eX7_readingsIfCut_12 : decode (zYb kX7_readingsIfCut) 12 = .ok (.iconst 1, 1) := by decide +kernel
theorem eX7_readingsIfCut_13 : decode (zYb kX7_readingsIfCut) 13 = .ok (.invokevirtual 89, 3) := by decide +kernel
theorem eX7_readingsIfCut_16 : decode (zYb kX7_readingsIfCut) 16 = .ok (.aload_n 0, 1) := by decide +kernel
theorem eX7_readingsIfCut_17 : decode (zYb kX7_readingsIfCut) 17 = .ok (.getfield 69, 3) := by decide +kernel
theorem eX7_readingsIfCut_20 : decode (zYb kX7_readingsIfCut) 20 = .ok (.ireturn, 1) := by decide +kernel
theorem eX7_ifCut_0 : decode (zYb kX7_ifCut) 0 = .ok (.aload_n 0, 1) := by decide +kernel
theorem eX7_ifCut_1 : decode (zYb kX7_ifCut) 1 = .ok (.iload_n 1, 1) := by decide +kernel
theorem eX7_ifCut_2 : decode (zYb kX7_ifCut) 2 = .ok (.iload_n 2, 1) := by decide +kernel
theorem eX7_ifCut_3 : decode (zYb kX7_ifCut) 3 = .ok (.invokevirtual 134, 3) := by decide +kernel
theorem eX7_ifCut_6 : decode (zYb kX7_ifCut) 6 = .ok (.ifCond .ne 5, 3) := by decide +kernel
theorem eX7_ifCut_9 : decode (zYb kX7_ifCut) 9 = .ok (.iconst (-1), 1) := by decide +kernel
theorem eX7_ifCut_10 : decode (zYb kX7_ifCut) 10 = .ok (.ireturn, 1) := by decide +kernel
theorem eX7_ifCut_11 : decode (zYb kX7_ifCut) 11 = .ok (.iload_n 3, 1) := by decide +kernel
theorem eX7_ifCut_12 : decode (zYb kX7_ifCut) 12 = .ok (.iconst 1, 1) := by decide +kernel
theorem eX7_ifCut_13 : decode (zYb kX7_ifCut) 13 = .ok (.aload_n 0, 1) := by decide +kernel
theorem eX7_ifCut_14 : decode (zYb kX7_ifCut) 14 = .ok (.iload_n 1, 1) := by decide +kernel
theorem eX7_ifCut_15 : decode (zYb kX7_ifCut) 15 = .ok (.iload_n 2, 1) := by decide +kernel
theorem eX7_ifCut_16 : decode (zYb kX7_ifCut) 16 = .ok (.invokevirtual 138, 3) := by decide +kernel
theorem eX7_ifCut_19 : decode (zYb kX7_ifCut) 19 = .ok (.iconst 1, 1) := by decide +kernel
theorem eX7_ifCut_20 : decode (zYb kX7_ifCut) 20 = .ok (.isub, 1) := by decide +kernel
theorem eX7_ifCut_21 : decode (zYb kX7_ifCut) 21 = .ok (.invokestatic 54, 3) := by decide +kernel
theorem eX7_ifCut_24 : decode (zYb kX7_ifCut) 24 = .ok (.ifCond .eq 13, 3) := by decide +kernel
theorem eX7_ifCut_27 : decode (zYb kX7_ifCut) 27 = .ok (.aload_n 0, 1) := by decide +kernel
theorem eX7_ifCut_28 : decode (zYb kX7_ifCut) 28 = .ok (.iload_n 1, 1) := by decide +kernel
theorem eX7_ifCut_29 : decode (zYb kX7_ifCut) 29 = .ok (.iload_n 2, 1) := by decide +kernel
theorem eX7_ifCut_30 : decode (zYb kX7_ifCut) 30 = .ok (.iload_n 3, 1) := by decide +kernel
theorem eX7_ifCut_31 : decode (zYb kX7_ifCut) 31 = .ok (.invokevirtual 188, 3) := by decide +kernel
theorem eX7_ifCut_34 : decode (zYb kX7_ifCut) 34 = .ok (.goto 5, 3) := by decide +kernel
theorem eX7_ifCut_37 : decode (zYb kX7_ifCut) 37 = .ok (.bipush (-2), 2) := by decide +kernel
theorem eX7_ifCut_39 : decode (zYb kX7_ifCut) 39 = .ok (.ireturn, 1) := by decide +kernel
theorem eX7_bestCut_0 : decode (zYb kX7_bestCut) 0 = .ok (.aload_n 0, 1) := by decide +kernel
theorem eX7_bestCut_1 : decode (zYb kX7_bestCut) 1 = .ok (.iload_n 1, 1) := by decide +kernel
theorem eX7_bestCut_2 : decode (zYb kX7_bestCut) 2 = .ok (.invokevirtual 58, 3) := by decide +kernel
theorem eX7_bestCut_5 : decode (zYb kX7_bestCut) 5 = .ok (.ifCond .ne 5, 3) := by decide +kernel
theorem eX7_bestCut_8 : decode (zYb kX7_bestCut) 8 = .ok (.iconst (-1), 1) := by decide +kernel
theorem eX7_bestCut_9 : decode (zYb kX7_bestCut) 9 = .ok (.ireturn, 1) := by decide +kernel
theorem eX7_bestCut_10 : decode (zYb kX7_bestCut) 10 = .ok (.iload_n 2, 1) := by decide +kernel
theorem eX7_bestCut_11 : decode (zYb kX7_bestCut) 11 = .ok (.iconst 0, 1) := by decide +kernel
theorem eX7_bestCut_12 : decode (zYb kX7_bestCut) 12 = .ok (.iconst 2, 1) := by decide +kernel
theorem eX7_bestCut_13 : decode (zYb kX7_bestCut) 13 = .ok (.invokestatic 54, 3) := by decide +kernel
theorem eX7_bestCut_16 : decode (zYb kX7_bestCut) 16 = .ok (.ifCond .ne 6, 3) := by decide +kernel
theorem eX7_bestCut_19 : decode (zYb kX7_bestCut) 19 = .ok (.bipush (-2), 2) := by decide +kernel
theorem eX7_bestCut_21 : decode (zYb kX7_bestCut) 21 = .ok (.ireturn, 1) := by decide +kernel
theorem eX7_bestCut_22 : decode (zYb kX7_bestCut) 22 = .ok (.bipush (-6), 2) := by decide +kernel
theorem eX7_bestCut_24 : decode (zYb kX7_bestCut) 24 = .ok (.istore_n 3, 1) := by decide +kernel
theorem eX7_bestCut_25 : decode (zYb kX7_bestCut) 25 = .ok (.bipush (-6), 2) := by decide +kernel
theorem eX7_bestCut_27 : decode (zYb kX7_bestCut) 27 = .ok (.istore 4, 2) := by decide +kernel
theorem eX7_bestCut_29 : decode (zYb kX7_bestCut) 29 = .ok (.bipush (-6), 2) := by decide +kernel
theorem eX7_bestCut_31 : decode (zYb kX7_bestCut) 31 = .ok (.istore 5, 2) := by decide +kernel
theorem eX7_bestCut_33 : decode (zYb kX7_bestCut) 33 = .ok (.iconst 0, 1) := by decide +kernel
theorem eX7_bestCut_34 : decode (zYb kX7_bestCut) 34 = .ok (.istore 6, 2) := by decide +kernel
theorem eX7_bestCut_36 : decode (zYb kX7_bestCut) 36 = .ok (.iload 6, 2) := by decide +kernel
theorem eX7_bestCut_38 : decode (zYb kX7_bestCut) 38 = .ok (.aload_n 0, 1) := by decide +kernel
theorem eX7_bestCut_39 : decode (zYb kX7_bestCut) 39 = .ok (.iload_n 1, 1) := by decide +kernel
theorem eX7_bestCut_40 : decode (zYb kX7_bestCut) 40 = .ok (.iconst 0, 1) := by decide +kernel
theorem eX7_bestCut_41 : decode (zYb kX7_bestCut) 41 = .ok (.invokevirtual 62, 3) := by decide +kernel
theorem eX7_bestCut_44 : decode (zYb kX7_bestCut) 44 = .ok (.if_icmp .ge 84, 3) := by decide +kernel
theorem eX7_bestCut_47 : decode (zYb kX7_bestCut) 47 = .ok (.iconst 1, 1) := by decide +kernel
theorem eX7_bestCut_48 : decode (zYb kX7_bestCut) 48 = .ok (.istore 7, 2) := by decide +kernel
theorem eX7_bestCut_50 : decode (zYb kX7_bestCut) 50 = .ok (.iload 7, 2) := by decide +kernel
theorem eX7_bestCut_52 : decode (zYb kX7_bestCut) 52 = .ok (.aload_n 0, 1) := by decide +kernel
theorem eX7_bestCut_53 : decode (zYb kX7_bestCut) 53 = .ok (.iload_n 1, 1) := by decide +kernel
theorem eX7_bestCut_54 : decode (zYb kX7_bestCut) 54 = .ok (.iload 6, 2) := by decide +kernel
theorem eX7_bestCut_56 : decode (zYb kX7_bestCut) 56 = .ok (.invokevirtual 138, 3) := by decide +kernel
theorem eX7_bestCut_59 : decode (zYb kX7_bestCut) 59 = .ok (.if_icmp .ge 63, 3) := by decide +kernel
theorem eX7_bestCut_62 : decode (zYb kX7_bestCut) 62 = .ok (.aload_n 0, 1) := by decide +kernel
theorem eX7_bestCut_63 : decode (zYb kX7_bestCut) 63 = .ok (.iload_n 1, 1) := by decide +kernel
theorem eX7_bestCut_64 : decode (zYb kX7_bestCut) 64 = .ok (.iload 6, 2) := by decide +kernel
theorem eX7_bestCut_66 : decode (zYb kX7_bestCut) 66 = .ok (.iload 7, 2) := by decide +kernel
theorem eX7_bestCut_68 : decode (zYb kX7_bestCut) 68 = .ok (.invokevirtual 188, 3) := by decide +kernel
theorem eX7_bestCut_71 : decode (zYb kX7_bestCut) 71 = .ok (.istore 8, 2) := by decide +kernel
theorem eX7_bestCut_73 : decode (zYb kX7_bestCut) 73 = .ok (.iload 8, 2) := by decide +kernel
theorem eX7_bestCut_75 : decode (zYb kX7_bestCut) 75 = .ok (.iload_n 3, 1) := by decide +kernel
theorem eX7_bestCut_76 : decode (zYb kX7_bestCut) 76 = .ok (.if_icmp .le 8, 3) := by decide +kernel
theorem eX7_bestCut_79 : decode (zYb kX7_bestCut) 79 = .ok (.iload 6, 2) := by decide +kernel
theorem eX7_bestCut_81 : decode (zYb kX7_bestCut) 81 = .ok (.goto 5, 3) := by decide +kernel
theorem eX7_bestCut_84 : decode (zYb kX7_bestCut) 84 = .ok (.iload 4, 2) := by decide +kernel
theorem eX7_bestCut_86 : decode (zYb kX7_bestCut) 86 = .ok (.istore 4, 2) := by decide +kernel
theorem eX7_bestCut_88 : decode (zYb kX7_bestCut) 88 = .ok (.iload 8, 2) := by decide +kernel
theorem eX7_bestCut_90 : decode (zYb kX7_bestCut) 90 = .ok (.iload_n 3, 1) := by decide +kernel
theorem eX7_bestCut_91 : decode (zYb kX7_bestCut) 91 = .ok (.if_icmp .le 8, 3) := by decide +kernel
theorem eX7_bestCut_94 : decode (zYb kX7_bestCut) 94 = .ok (.iload 7, 2) := by decide +kernel
theorem eX7_bestCut_96 : decode (zYb kX7_bestCut) 96 = .ok (.goto 5, 3) := by decide +kernel
theorem eX7_bestCut_99 : decode (zYb kX7_bestCut) 99 = .ok (.iload 5, 2) := by decide +kernel
theorem eX7_bestCut_101 : decode (zYb kX7_bestCut) 101 = .ok (.istore 5, 2) := by decide +kernel
theorem eX7_bestCut_103 : decode (zYb kX7_bestCut) 103 = .ok (.iload 8, 2) := by decide +kernel
theorem eX7_bestCut_105 : decode (zYb kX7_bestCut) 105 = .ok (.iload_n 3, 1) := by decide +kernel
theorem eX7_bestCut_106 : decode (zYb kX7_bestCut) 106 = .ok (.if_icmp .le 8, 3) := by decide +kernel
theorem eX7_bestCut_109 : decode (zYb kX7_bestCut) 109 = .ok (.iload 8, 2) := by decide +kernel
theorem eX7_bestCut_111 : decode (zYb kX7_bestCut) 111 = .ok (.goto 4, 3) := by decide +kernel
theorem eX7_bestCut_114 : decode (zYb kX7_bestCut) 114 = .ok (.iload_n 3, 1) := by decide +kernel
theorem eX7_bestCut_115 : decode (zYb kX7_bestCut) 115 = .ok (.istore_n 3, 1) := by decide +kernel
theorem eX7_bestCut_116 : decode (zYb kX7_bestCut) 116 = .ok (.iinc 7 1, 3) := by decide +kernel
theorem eX7_bestCut_119 : decode (zYb kX7_bestCut) 119 = .ok (.goto (-69), 3) := by decide +kernel
theorem eX7_bestCut_122 : decode (zYb kX7_bestCut) 122 = .ok (.iinc 6 1, 3) := by decide +kernel
theorem eX7_bestCut_125 : decode (zYb kX7_bestCut) 125 = .ok (.goto (-89), 3) := by decide +kernel
theorem eX7_bestCut_128 : decode (zYb kX7_bestCut) 128 = .ok (.iload_n 2, 1) := by decide +kernel
theorem eX7_bestCut_129 : decode (zYb kX7_bestCut) 129 = .ok (.ifCond .ne 8, 3) := by decide +kernel
theorem eX7_bestCut_132 : decode (zYb kX7_bestCut) 132 = .ok (.iload 4, 2) := by decide +kernel
theorem eX7_bestCut_134 : decode (zYb kX7_bestCut) 134 = .ok (.goto 14, 3) := by decide +kernel
theorem eX7_bestCut_137 : decode (zYb kX7_bestCut) 137 = .ok (.iload_n 2, 1) := by decide +kernel
theorem eX7_bestCut_138 : decode (zYb kX7_bestCut) 138 = .ok (.iconst 1, 1) := by decide +kernel
theorem eX7_bestCut_139 : decode (zYb kX7_bestCut) 139 = .ok (.if_icmp .ne 8, 3) := by decide +kernel
theorem eX7_bestCut_142 : decode (zYb kX7_bestCut) 142 = .ok (.iload 5, 2) := by decide +kernel
theorem eX7_bestCut_144 : decode (zYb kX7_bestCut) 144 = .ok (.goto 4, 3) := by decide +kernel
theorem eX7_bestCut_147 : decode (zYb kX7_bestCut) 147 = .ok (.iload_n 3, 1) := by decide +kernel
theorem eX7_bestCut_148 : decode (zYb kX7_bestCut) 148 = .ok (.ireturn, 1) := by decide +kernel
theorem eX7_put_0 : decode (zYb kX7_put) 0 = .ok (.iconst 0, 1) := by decide +kernel
theorem eX7_put_1 : decode (zYb kX7_put) 1 = .ok (.istore_n 3, 1) := by decide +kernel
theorem eX7_put_2 : decode (zYb kX7_put) 2 = .ok (.lload_n 1, 1) := by decide +kernel
theorem eX7_put_3 : decode (zYb kX7_put) 3 = .ok (.lstore 4, 2) := by decide +kernel
theorem eX7_put_5 : decode (zYb kX7_put) 5 = .ok (.iconst 1, 1) := by decide +kernel
theorem eX7_put_6 : decode (zYb kX7_put) 6 = .ok (.istore 6, 2) := by decide +kernel
theorem eX7_put_8 : decode (zYb kX7_put) 8 = .ok (.iload_n 3, 1) := by decide +kernel
theorem eX7_put_9 : decode (zYb kX7_put) 9 = .ok (.bipush 8, 2) := by decide +kernel
theorem eX7_put_11 : decode (zYb kX7_put) 11 = .ok (.if_icmp .ge 56, 3) := by decide +kernel
theorem eX7_put_14 : decode (zYb kX7_put) 14 = .ok (.lload 4, 2) := by decide +kernel
theorem eX7_put_16 : decode (zYb kX7_put) 16 = .ok (.ldc2_w 192, 3) := by decide +kernel
theorem eX7_put_19 : decode (zYb kX7_put) 19 = .ok (.land, 1) := by decide +kernel
theorem eX7_put_20 : decode (zYb kX7_put) 20 = .ok (.lconst 0, 1) := by decide +kernel
theorem eX7_put_21 : decode (zYb kX7_put) 21 = .ok (.lcmp, 1) := by decide +kernel
theorem eX7_put_22 : decode (zYb kX7_put) 22 = .ok (.ifCond .eq 45, 3) := by decide +kernel
theorem eX7_put_25 : decode (zYb kX7_put) 25 = .ok (.iload 6, 2) := by decide +kernel
theorem eX7_put_27 : decode (zYb kX7_put) 27 = .ok (.ifCond .eq 24, 3) := by decide +kernel
theorem eX7_put_30 : decode (zYb kX7_put) 30 = .ok (.lload 4, 2) := by decide +kernel
theorem eX7_put_32 : decode (zYb kX7_put) 32 = .ok (.ldc2_w 192, 3) := by decide +kernel
theorem eX7_put_35 : decode (zYb kX7_put) 35 = .ok (.land, 1) := by decide +kernel
theorem eX7_put_36 : decode (zYb kX7_put) 36 = .ok (.l2i, 1) := by decide +kernel
theorem eX7_put_37 : decode (zYb kX7_put) 37 = .ok (.bipush 33, 2) := by decide +kernel
theorem eX7_put_39 : decode (zYb kX7_put) 39 = .ok (.bipush 126, 2) := by decide +kernel
theorem eX7_put_41 : decode (zYb kX7_put) 41 = .ok (.invokestatic 54, 3) := by decide +kernel
theorem eX7_put_44 : decode (zYb kX7_put) 44 = .ok (.ifCond .eq 7, 3) := by decide +kernel
theorem eX7_put_47 : decode (zYb kX7_put) 47 = .ok (.iconst 1, 1) := by decide +kernel
theorem eX7_put_48 : decode (zYb kX7_put) 48 = .ok (.goto 4, 3) := by decide +kernel
theorem eX7_put_51 : decode (zYb kX7_put) 51 = .ok (.iconst 0, 1) := by decide +kernel
theorem eX7_put_52 : decode (zYb kX7_put) 52 = .ok (.istore 6, 2) := by decide +kernel
theorem eX7_put_54 : decode (zYb kX7_put) 54 = .ok (.lload 4, 2) := by decide +kernel
theorem eX7_put_56 : decode (zYb kX7_put) 56 = .ok (.bipush 8, 2) := by decide +kernel
theorem eX7_put_58 : decode (zYb kX7_put) 58 = .ok (.lushr, 1) := by decide +kernel
theorem eX7_put_59 : decode (zYb kX7_put) 59 = .ok (.lstore 4, 2) := by decide +kernel
theorem eX7_put_61 : decode (zYb kX7_put) 61 = .ok (.iinc 3 1, 3) := by decide +kernel
theorem eX7_put_64 : decode (zYb kX7_put) 64 = .ok (.goto (-56), 3) := by decide +kernel
theorem eX7_put_67 : decode (zYb kX7_put) 67 = .ok (.iload_n 3, 1) := by decide +kernel
theorem eX7_put_68 : decode (zYb kX7_put) 68 = .ok (.ifCond .eq 15, 3) := by decide +kernel
theorem eX7_put_71 : decode (zYb kX7_put) 71 = .ok (.iload 6, 2) := by decide +kernel
theorem eX7_put_73 : decode (zYb kX7_put) 73 = .ok (.ifCond .eq 10, 3) := by decide +kernel
theorem eX7_put_76 : decode (zYb kX7_put) 76 = .ok (.lload 4, 2) := by decide +kernel
theorem eX7_put_78 : decode (zYb kX7_put) 78 = .ok (.lconst 0, 1) := by decide +kernel
theorem eX7_put_79 : decode (zYb kX7_put) 79 = .ok (.lcmp, 1) := by decide +kernel
theorem eX7_put_80 : decode (zYb kX7_put) 80 = .ok (.ifCond .eq 6, 3) := by decide +kernel
theorem eX7_put_83 : decode (zYb kX7_put) 83 = .ok (.bipush (-2), 2) := by decide +kernel
theorem eX7_put_85 : decode (zYb kX7_put) 85 = .ok (.ireturn, 1) := by decide +kernel
theorem eX7_put_86 : decode (zYb kX7_put) 86 = .ok (.aload_n 0, 1) := by decide +kernel
theorem eX7_put_87 : decode (zYb kX7_put) 87 = .ok (.getfield 109, 3) := by decide +kernel
theorem eX7_put_90 : decode (zYb kX7_put) 90 = .ok (.iload_n 3, 1) := by decide +kernel
theorem eX7_put_91 : decode (zYb kX7_put) 91 = .ok (.iadd, 1) := by decide +kernel
theorem eX7_put_92 : decode (zYb kX7_put) 92 = .ok (.bipush 64, 2) := by decide +kernel
theorem eX7_put_94 : decode (zYb kX7_put) 94 = .ok (.if_icmp .le 6, 3) := by decide +kernel
theorem eX7_put_97 : decode (zYb kX7_put) 97 = .ok (.bipush (-4), 2) := by decide +kernel
theorem eX7_put_99 : decode (zYb kX7_put) 99 = .ok (.ireturn, 1) := by decide +kernel
theorem eX7_put_100 : decode (zYb kX7_put) 100 = .ok (.iload_n 3, 1) := by decide +kernel
theorem eX7_put_101 : decode (zYb kX7_put) 101 = .ok (.iconst 1, 1) := by decide +kernel
theorem eX7_put_102 : decode (zYb kX7_put) 102 = .ok (.isub, 1) := by decide +kernel
theorem eX7_put_103 : decode (zYb kX7_put) 103 = .ok (.istore 7, 2) := by decide +kernel
theorem eX7_put_105 : decode (zYb kX7_put) 105 = .ok (.iload 7, 2) := by decide +kernel
theorem eX7_put_107 : decode (zYb kX7_put) 107 = .ok (.ifCond .lt 40, 3) := by decide +kernel
theorem eX7_put_110 : decode (zYb kX7_put) 110 = .ok (.aload_n 0, 1) := by decide +kernel
theorem eX7_put_111 : decode (zYb kX7_put) 111 = .ok (.getfield 22, 3) := by decide +kernel
theorem eX7_put_114 : decode (zYb kX7_put) 114 = .ok (.aload_n 0, 1) := by decide +kernel
theorem eX7_put_115 : decode (zYb kX7_put) 115 = .ok (.getfield 109, 3) := by decide +kernel
theorem eX7_put_118 : decode (zYb kX7_put) 118 = .ok (.lload_n 1, 1) := by decide +kernel
theorem eX7_put_119 : decode (zYb kX7_put) 119 = .ok (.bipush 8, 2) := by decide +kernel
theorem eX7_put_121 : decode (zYb kX7_put) 121 = .ok (.iload 7, 2) := by decide +kernel
theorem eX7_put_123 : decode (zYb kX7_put) 123 = .ok (.imul, 1) := by decide +kernel
theorem eX7_put_124 : decode (zYb kX7_put) 124 = .ok (.lushr, 1) := by decide +kernel
theorem eX7_put_125 : decode (zYb kX7_put) 125 = .ok (.ldc2_w 192, 3) := by decide +kernel
theorem eX7_put_128 : decode (zYb kX7_put) 128 = .ok (.land, 1) := by decide +kernel
theorem eX7_put_129 : decode (zYb kX7_put) 129 = .ok (.l2i, 1) := by decide +kernel
theorem eX7_put_130 : decode (zYb kX7_put) 130 = .ok (.iastore, 1) := by decide +kernel
theorem eX7_put_131 : decode (zYb kX7_put) 131 = .ok (.aload_n 0, 1) := by decide +kernel
theorem eX7_put_132 : decode (zYb kX7_put) 132 = .ok (.dup, 1) := by decide +kernel
theorem eX7_put_133 : decode (zYb kX7_put) 133 = .ok (.getfield 109, 3) := by decide +kernel
theorem eX7_put_136 : decode (zYb kX7_put) 136 = .ok (.iconst 1, 1) := by decide +kernel
theorem eX7_put_137 : decode (zYb kX7_put) 137 = .ok (.iadd, 1) := by decide +kernel
theorem eX7_put_138 : decode (zYb kX7_put) 138 = .ok (.putfield 109, 3) := by decide +kernel
theorem eX7_put_141 : decode (zYb kX7_put) 141 = .ok (.iinc 7 (-1), 3) := by decide +kernel
theorem eX7_put_144 : decode (zYb kX7_put) 144 = .ok (.goto (-39), 3) := by decide +kernel
theorem eX7_put_147 : decode (zYb kX7_put) 147 = .ok (.aload_n 0, 1) := by decide +kernel
theorem eX7_put_148 : decode (zYb kX7_put) 148 = .ok (.getfield 109, 3) := by decide +kernel
theorem eX7_put_151 : decode (zYb kX7_put) 151 = .ok (.ireturn, 1) := by decide +kernel
theorem eX7_wipe_0 : decode (zYb kX7_wipe) 0 = .ok (.aload_n 0, 1) := by decide +kernel
theorem eX7_wipe_1 : decode (zYb kX7_wipe) 1 = .ok (.getfield 109, 3) := by decide +kernel
theorem eX7_wipe_4 : decode (zYb kX7_wipe) 4 = .ok (.istore_n 1, 1) := by decide +kernel
theorem eX7_wipe_5 : decode (zYb kX7_wipe) 5 = .ok (.aload_n 0, 1) := by decide +kernel
theorem eX7_wipe_6 : decode (zYb kX7_wipe) 6 = .ok (.iconst 0, 1) := by decide +kernel
theorem eX7_wipe_7 : decode (zYb kX7_wipe) 7 = .ok (.putfield 109, 3) := by decide +kernel
theorem eX7_wipe_10 : decode (zYb kX7_wipe) 10 = .ok (.iload_n 1, 1) := by decide +kernel
theorem eX7_wipe_11 : decode (zYb kX7_wipe) 11 = .ok (.ireturn, 1) := by decide +kernel
theorem eX7_findFault_0 : decode (zYb kX7_findFault) 0 = .ok (.iconst 0, 1) := by decide +kernel
theorem eX7_findFault_1 : decode (zYb kX7_findFault) 1 = .ok (.istore_n 1, 1) := by decide +kernel
theorem eX7_findFault_2 : decode (zYb kX7_findFault) 2 = .ok (.iconst 1, 1) := by decide +kernel
theorem eX7_findFault_3 : decode (zYb kX7_findFault) 3 = .ok (.istore_n 2, 1) := by decide +kernel
theorem eX7_findFault_4 : decode (zYb kX7_findFault) 4 = .ok (.iconst 1, 1) := by decide +kernel
theorem eX7_findFault_5 : decode (zYb kX7_findFault) 5 = .ok (.istore_n 3, 1) := by decide +kernel
theorem eX7_findFault_6 : decode (zYb kX7_findFault) 6 = .ok (.iconst 0, 1) := by decide +kernel
theorem eX7_findFault_7 : decode (zYb kX7_findFault) 7 = .ok (.istore 4, 2) := by decide +kernel
theorem eX7_findFault_9 : decode (zYb kX7_findFault) 9 = .ok (.iload 4, 2) := by decide +kernel
theorem eX7_findFault_11 : decode (zYb kX7_findFault) 11 = .ok (.aload_n 0, 1) := by decide +kernel
theorem eX7_findFault_12 : decode (zYb kX7_findFault) 12 = .ok (.getfield 109, 3) := by decide +kernel
theorem eX7_findFault_15 : decode (zYb kX7_findFault) 15 = .ok (.if_icmp .ge 155, 3) := by decide +kernel
theorem eX7_findFault_18 : decode (zYb kX7_findFault) 18 = .ok (.aload_n 0, 1) := by decide +kernel
theorem eX7_findFault_19 : decode (zYb kX7_findFault) 19 = .ok (.getfield 22, 3) := by decide +kernel
theorem eX7_findFault_22 : decode (zYb kX7_findFault) 22 = .ok (.iload 4, 2) := by decide +kernel
theorem eX7_findFault_24 : decode (zYb kX7_findFault) 24 = .ok (.iaload, 1) := by decide +kernel
theorem eX7_findFault_25 : decode (zYb kX7_findFault) 25 = .ok (.istore 5, 2) := by decide +kernel
theorem eX7_findFault_27 : decode (zYb kX7_findFault) 27 = .ok (.iload 5, 2) := by decide +kernel
theorem eX7_findFault_29 : decode (zYb kX7_findFault) 29 = .ok (.bipush 97, 2) := by decide +kernel
theorem eX7_findFault_31 : decode (zYb kX7_findFault) 31 = .ok (.bipush 122, 2) := by decide +kernel
theorem eX7_findFault_33 : decode (zYb kX7_findFault) 33 = .ok (.invokestatic 54, 3) := by decide +kernel
theorem eX7_findFault_36 : decode (zYb kX7_findFault) 36 = .ok (.ifCond .eq 13, 3) := by decide +kernel
theorem eX7_findFault_39 : decode (zYb kX7_findFault) 39 = .ok (.iload_n 1, 1) := by decide +kernel
theorem eX7_findFault_40 : decode (zYb kX7_findFault) 40 = .ok (.bipush 12, 2) := by decide +kernel
theorem eX7_findFault_42 : decode (zYb kX7_findFault) 42 = .ok (.if_icmp .ge 7, 3) := by decide +kernel
theorem eX7_findFault_45 : decode (zYb kX7_findFault) 45 = .ok (.iconst 1, 1) := by decide +kernel
theorem eX7_findFault_46 : decode (zYb kX7_findFault) 46 = .ok (.goto 4, 3) := by decide +kernel
theorem eX7_findFault_49 : decode (zYb kX7_findFault) 49 = .ok (.iconst 0, 1) := by decide +kernel
theorem eX7_findFault_50 : decode (zYb kX7_findFault) 50 = .ok (.istore 6, 2) := by decide +kernel
theorem eX7_findFault_52 : decode (zYb kX7_findFault) 52 = .ok (.iload 5, 2) := by decide +kernel
theorem eX7_findFault_54 : decode (zYb kX7_findFault) 54 = .ok (.bipush 124, 2) := by decide +kernel
theorem eX7_findFault_56 : decode (zYb kX7_findFault) 56 = .ok (.if_icmp .ne 16, 3) := by decide +kernel
theorem eX7_findFault_59 : decode (zYb kX7_findFault) 59 = .ok (.iload_n 1, 1) := by decide +kernel
theorem eX7_findFault_60 : decode (zYb kX7_findFault) 60 = .ok (.ifCond .le 12, 3) := by decide +kernel
theorem eX7_findFault_63 : decode (zYb kX7_findFault) 63 = .ok (.iload_n 2, 1) := by decide +kernel
theorem eX7_findFault_64 : decode (zYb kX7_findFault) 64 = .ok (.iconst 5, 1) := by decide +kernel
theorem eX7_findFault_65 : decode (zYb kX7_findFault) 65 = .ok (.if_icmp .ge 7, 3) := by decide +kernel
theorem eX7_findFault_68 : decode (zYb kX7_findFault) 68 = .ok (.iconst 1, 1) := by decide +kernel
theorem eX7_findFault_69 : decode (zYb kX7_findFault) 69 = .ok (.goto 4, 3) := by decide +kernel
theorem eX7_findFault_72 : decode (zYb kX7_findFault) 72 = .ok (.iconst 0, 1) := by decide +kernel
theorem eX7_findFault_73 : decode (zYb kX7_findFault) 73 = .ok (.istore 7, 2) := by decide +kernel
theorem eX7_findFault_75 : decode (zYb kX7_findFault) 75 = .ok (.iload 5, 2) := by decide +kernel
theorem eX7_findFault_77 : decode (zYb kX7_findFault) 77 = .ok (.bipush 59, 2) := by decide +kernel
theorem eX7_findFault_79 : decode (zYb kX7_findFault) 79 = .ok (.if_icmp .ne 16, 3) := by decide +kernel
theorem eX7_findFault_82 : decode (zYb kX7_findFault) 82 = .ok (.iload_n 1, 1) := by decide +kernel
theorem eX7_findFault_83 : decode (zYb kX7_findFault) 83 = .ok (.ifCond .le 12, 3) := by decide +kernel
theorem eX7_findFault_86 : decode (zYb kX7_findFault) 86 = .ok (.iload_n 3, 1) := by decide +kernel
theorem eX7_findFault_87 : decode (zYb kX7_findFault) 87 = .ok (.iconst 5, 1) := by decide +kernel
theorem eX7_findFault_88 : decode (zYb kX7_findFault) 88 = .ok (.if_icmp .ge 7, 3) := by decide +kernel
theorem eX7_findFault_91 : decode (zYb kX7_findFault) 91 = .ok (.iconst 1, 1) := by decide +kernel
theorem eX7_findFault_92 : decode (zYb kX7_findFault) 92 = .ok (.goto 4, 3) := by decide +kernel
theorem eX7_findFault_95 : decode (zYb kX7_findFault) 95 = .ok (.iconst 0, 1) := by decide +kernel
theorem eX7_findFault_96 : decode (zYb kX7_findFault) 96 = .ok (.istore 8, 2) := by decide +kernel
theorem eX7_findFault_98 : decode (zYb kX7_findFault) 98 = .ok (.iload 6, 2) := by decide +kernel
theorem eX7_findFault_100 : decode (zYb kX7_findFault) 100 = .ok (.ifCond .ne 16, 3) := by decide +kernel
theorem eX7_findFault_103 : decode (zYb kX7_findFault) 103 = .ok (.iload 7, 2) := by decide +kernel
theorem eX7_findFault_105 : decode (zYb kX7_findFault) 105 = .ok (.ifCond .ne 11, 3) := by decide +kernel
theorem eX7_findFault_108 : decode (zYb kX7_findFault) 108 = .ok (.iload 8, 2) := by decide +kernel
theorem eX7_findFault_110 : decode (zYb kX7_findFault) 110 = .ok (.ifCond .ne 6, 3) := by decide +kernel
theorem eX7_findFault_113 : decode (zYb kX7_findFault) 113 = .ok (.iload 4, 2) := by decide +kernel
theorem eX7_findFault_115 : decode (zYb kX7_findFault) 115 = .ok (.ireturn, 1) := by decide +kernel
theorem eX7_findFault_116 : decode (zYb kX7_findFault) 116 = .ok (.iload 6, 2) := by decide +kernel
theorem eX7_findFault_118 : decode (zYb kX7_findFault) 118 = .ok (.ifCond .eq 9, 3) := by decide +kernel
theorem eX7_findFault_121 : decode (zYb kX7_findFault) 121 = .ok (.iload_n 1, 1) := by decide +kernel
theorem eX7_findFault_122 : decode (zYb kX7_findFault) 122 = .ok (.iconst 1, 1) := by decide +kernel
theorem eX7_findFault_123 : decode (zYb kX7_findFault) 123 = .ok (.iadd, 1) := by decide +kernel
theorem eX7_findFault_124 : decode (zYb kX7_findFault) 124 = .ok (.goto 4, 3) := by decide +kernel
theorem eX7_findFault_127 : decode (zYb kX7_findFault) 127 = .ok (.iconst 0, 1) := by decide +kernel
theorem eX7_findFault_128 : decode (zYb kX7_findFault) 128 = .ok (.istore_n 1, 1) := by decide +kernel
theorem eX7_findFault_129 : decode (zYb kX7_findFault) 129 = .ok (.iload 8, 2) := by decide +kernel
theorem eX7_findFault_131 : decode (zYb kX7_findFault) 131 = .ok (.ifCond .eq 7, 3) := by decide +kernel
theorem eX7_findFault_134 : decode (zYb kX7_findFault) 134 = .ok (.iconst 1, 1) := by decide +kernel
theorem eX7_findFault_135 : decode (zYb kX7_findFault) 135 = .ok (.goto 15, 3) := by decide +kernel
theorem eX7_findFault_138 : decode (zYb kX7_findFault) 138 = .ok (.iload 7, 2) := by decide +kernel
theorem eX7_findFault_140 : decode (zYb kX7_findFault) 140 = .ok (.ifCond .eq 9, 3) := by decide +kernel
theorem eX7_findFault_143 : decode (zYb kX7_findFault) 143 = .ok (.iload_n 2, 1) := by decide +kernel
theorem eX7_findFault_144 : decode (zYb kX7_findFault) 144 = .ok (.iconst 1, 1) := by decide +kernel
theorem eX7_findFault_145 : decode (zYb kX7_findFault) 145 = .ok (.iadd, 1) := by decide +kernel
theorem eX7_findFault_146 : decode (zYb kX7_findFault) 146 = .ok (.goto 4, 3) := by decide +kernel
theorem eX7_findFault_149 : decode (zYb kX7_findFault) 149 = .ok (.iload_n 2, 1) := by decide +kernel
theorem eX7_findFault_150 : decode (zYb kX7_findFault) 150 = .ok (.istore_n 2, 1) := by decide +kernel
theorem eX7_findFault_151 : decode (zYb kX7_findFault) 151 = .ok (.iload_n 3, 1) := by decide +kernel
theorem eX7_findFault_152 : decode (zYb kX7_findFault) 152 = .ok (.iload 8, 2) := by decide +kernel
theorem eX7_findFault_154 : decode (zYb kX7_findFault) 154 = .ok (.ifCond .eq 7, 3) := by decide +kernel
theorem eX7_findFault_157 : decode (zYb kX7_findFault) 157 = .ok (.iconst 1, 1) := by decide +kernel
theorem eX7_findFault_158 : decode (zYb kX7_findFault) 158 = .ok (.goto 4, 3) := by decide +kernel
theorem eX7_findFault_161 : decode (zYb kX7_findFault) 161 = .ok (.iconst 0, 1) := by decide +kernel
theorem eX7_findFault_162 : decode (zYb kX7_findFault) 162 = .ok (.iadd, 1) := by decide +kernel
theorem eX7_findFault_163 : decode (zYb kX7_findFault) 163 = .ok (.istore_n 3, 1) := by decide +kernel
theorem eX7_findFault_164 : decode (zYb kX7_findFault) 164 = .ok (.iinc 4 1, 3) := by decide +kernel
theorem eX7_findFault_167 : decode (zYb kX7_findFault) 167 = .ok (.goto (-158), 3) := by decide +kernel
theorem eX7_findFault_170 : decode (zYb kX7_findFault) 170 = .ok (.iload_n 1, 1) := by decide +kernel
theorem eX7_findFault_171 : decode (zYb kX7_findFault) 171 = .ok (.ifCond .le 8, 3) := by decide +kernel
theorem eX7_findFault_174 : decode (zYb kX7_findFault) 174 = .ok (.bipush (-6), 2) := by decide +kernel
theorem eX7_findFault_176 : decode (zYb kX7_findFault) 176 = .ok (.goto 7, 3) := by decide +kernel
theorem eX7_findFault_179 : decode (zYb kX7_findFault) 179 = .ok (.aload_n 0, 1) := by decide +kernel
theorem eX7_findFault_180 : decode (zYb kX7_findFault) 180 = .ok (.getfield 109, 3) := by decide +kernel
theorem eX7_findFault_183 : decode (zYb kX7_findFault) 183 = .ok (.ireturn, 1) := by decide +kernel
theorem eX7_fault_0 : decode (zYb kX7_fault) 0 = .ok (.aload_n 0, 1) := by decide +kernel
theorem eX7_fault_1 : decode (zYb kX7_fault) 1 = .ok (.invokevirtual 112, 3) := by decide +kernel
theorem eX7_fault_4 : decode (zYb kX7_fault) 4 = .ok (.ireturn, 1) := by decide +kernel
theorem eX7_undo_0 : decode (zYb kX7_undo) 0 = .ok (.aload_n 0, 1) := by decide +kernel
theorem eX7_undo_1 : decode (zYb kX7_undo) 1 = .ok (.getfield 46, 3) := by decide +kernel
theorem eX7_undo_4 : decode (zYb kX7_undo) 4 = .ok (.ifCond .ne 6, 3) := by decide +kernel
theorem eX7_undo_7 : decode (zYb kX7_undo) 7 = .ok (.bipush (-5), 2) := by decide +kernel
theorem eX7_undo_9 : decode (zYb kX7_undo) 9 = .ok (.ireturn, 1) := by decide +kernel
theorem eX7_undo_10 : decode (zYb kX7_undo) 10 = .ok (.aload_n 0, 1) := by decide +kernel
theorem eX7_undo_11 : decode (zYb kX7_undo) 11 = .ok (.dup, 1) := by decide +kernel
theorem eX7_undo_12 : decode (zYb kX7_undo) 12 = .ok (.getfield 46, 3) := by decide +kernel
theorem eX7_undo_15 : decode (zYb kX7_undo) 15 = .ok (.iconst 1, 1) := by decide +kernel
theorem eX7_undo_16 : decode (zYb kX7_undo) 16 = .ok (.isub, 1) := by decide +kernel
theorem eX7_undo_17 : decode (zYb kX7_undo) 17 = .ok (.putfield 46, 3) := by decide +kernel
theorem eX7_undo_20 : decode (zYb kX7_undo) 20 = .ok (.aload_n 0, 1) := by decide +kernel
theorem eX7_undo_21 : decode (zYb kX7_undo) 21 = .ok (.getfield 13, 3) := by decide +kernel
theorem eX7_undo_24 : decode (zYb kX7_undo) 24 = .ok (.aload_n 0, 1) := by decide +kernel
theorem eX7_undo_25 : decode (zYb kX7_undo) 25 = .ok (.getfield 46, 3) := by decide +kernel
theorem eX7_undo_28 : decode (zYb kX7_undo) 28 = .ok (.sipush 336, 3) := by decide +kernel
theorem eX7_undo_31 : decode (zYb kX7_undo) 31 = .ok (.imul, 1) := by decide +kernel
theorem eX7_undo_32 : decode (zYb kX7_undo) 32 = .ok (.aload_n 0, 1) := by decide +kernel
theorem eX7_undo_33 : decode (zYb kX7_undo) 33 = .ok (.getfield 7, 3) := by decide +kernel
theorem eX7_undo_36 : decode (zYb kX7_undo) 36 = .ok (.iconst 0, 1) := by decide +kernel
theorem eX7_undo_37 : decode (zYb kX7_undo) 37 = .ok (.invokestatic 50, 3) := by decide +kernel
theorem eX7_undo_40 : decode (zYb kX7_undo) 40 = .ok (.aload_n 0, 1) := by decide +kernel
theorem eX7_undo_41 : decode (zYb kX7_undo) 41 = .ok (.getfield 46, 3) := by decide +kernel
theorem eX7_undo_44 : decode (zYb kX7_undo) 44 = .ok (.ireturn, 1) := by decide +kernel
theorem eX7_save_0 : decode (zYb kX7_save) 0 = .ok (.iload_n 1, 1) := by decide +kernel
theorem eX7_save_1 : decode (zYb kX7_save) 1 = .ok (.iconst 0, 1) := by decide +kernel
theorem eX7_save_2 : decode (zYb kX7_save) 2 = .ok (.iconst 1, 1) := by decide +kernel
theorem eX7_save_3 : decode (zYb kX7_save) 3 = .ok (.invokestatic 54, 3) := by decide +kernel
theorem eX7_save_6 : decode (zYb kX7_save) 6 = .ok (.ifCond .ne 6, 3) := by decide +kernel
theorem eX7_save_9 : decode (zYb kX7_save) 9 = .ok (.bipush (-2), 2) := by decide +kernel
theorem eX7_save_11 : decode (zYb kX7_save) 11 = .ok (.ireturn, 1) := by decide +kernel
theorem eX7_save_12 : decode (zYb kX7_save) 12 = .ok (.aload_n 0, 1) := by decide +kernel
theorem eX7_save_13 : decode (zYb kX7_save) 13 = .ok (.getfield 7, 3) := by decide +kernel
theorem eX7_save_16 : decode (zYb kX7_save) 16 = .ok (.iconst 0, 1) := by decide +kernel
theorem eX7_save_17 : decode (zYb kX7_save) 17 = .ok (.aload_n 0, 1) := by decide +kernel
theorem eX7_save_18 : decode (zYb kX7_save) 18 = .ok (.getfield 16, 3) := by decide +kernel
theorem eX7_save_21 : decode (zYb kX7_save) 21 = .ok (.sipush 336, 3) := by decide +kernel
theorem eX7_save_24 : decode (zYb kX7_save) 24 = .ok (.iload_n 1, 1) := by decide +kernel
theorem eX7_save_25 : decode (zYb kX7_save) 25 = .ok (.imul, 1) := by decide +kernel
theorem eX7_save_26 : decode (zYb kX7_save) 26 = .ok (.invokestatic 50, 3) := by decide +kernel
theorem eX7_save_29 : decode (zYb kX7_save) 29 = .ok (.aload_n 0, 1) := by decide +kernel
theorem eX7_save_30 : decode (zYb kX7_save) 30 = .ok (.getfield 19, 3) := by decide +kernel
theorem eX7_save_33 : decode (zYb kX7_save) 33 = .ok (.iload_n 1, 1) := by decide +kernel
theorem eX7_save_34 : decode (zYb kX7_save) 34 = .ok (.iconst 1, 1) := by decide +kernel
theorem eX7_save_35 : decode (zYb kX7_save) 35 = .ok (.iastore, 1) := by decide +kernel
theorem eX7_save_36 : decode (zYb kX7_save) 36 = .ok (.aload_n 0, 1) := by decide +kernel
theorem eX7_save_37 : decode (zYb kX7_save) 37 = .ok (.getfield 7, 3) := by decide +kernel
theorem eX7_save_40 : decode (zYb kX7_save) 40 = .ok (.iconst 0, 1) := by decide +kernel
theorem eX7_save_41 : decode (zYb kX7_save) 41 = .ok (.iaload, 1) := by decide +kernel
theorem eX7_save_42 : decode (zYb kX7_save) 42 = .ok (.ireturn, 1) := by decide +kernel
theorem eX7_restore_0 : decode (zYb kX7_restore) 0 = .ok (.iload_n 1, 1) := by decide +kernel
theorem eX7_restore_1 : decode (zYb kX7_restore) 1 = .ok (.iconst 0, 1) := by decide +kernel
theorem eX7_restore_2 : decode (zYb kX7_restore) 2 = .ok (.iconst 1, 1) := by decide +kernel
theorem eX7_restore_3 : decode (zYb kX7_restore) 3 = .ok (.invokestatic 54, 3) := by decide +kernel
theorem eX7_restore_6 : decode (zYb kX7_restore) 6 = .ok (.ifCond .ne 6, 3) := by decide +kernel
theorem eX7_restore_9 : decode (zYb kX7_restore) 9 = .ok (.bipush (-2), 2) := by decide +kernel
theorem eX7_restore_11 : decode (zYb kX7_restore) 11 = .ok (.ireturn, 1) := by decide +kernel
theorem eX7_restore_12 : decode (zYb kX7_restore) 12 = .ok (.aload_n 0, 1) := by decide +kernel
theorem eX7_restore_13 : decode (zYb kX7_restore) 13 = .ok (.getfield 19, 3) := by decide +kernel
theorem eX7_restore_16 : decode (zYb kX7_restore) 16 = .ok (.iload_n 1, 1) := by decide +kernel
theorem eX7_restore_17 : decode (zYb kX7_restore) 17 = .ok (.iaload, 1) := by decide +kernel
theorem eX7_restore_18 : decode (zYb kX7_restore) 18 = .ok (.ifCond .ne 6, 3) := by decide +kernel
theorem eX7_restore_21 : decode (zYb kX7_restore) 21 = .ok (.bipush (-5), 2) := by decide +kernel
theorem eX7_restore_23 : decode (zYb kX7_restore) 23 = .ok (.ireturn, 1) := by decide +kernel
theorem eX7_restore_24 : decode (zYb kX7_restore) 24 = .ok (.aload_n 0, 1) := by decide +kernel
theorem eX7_restore_25 : decode (zYb kX7_restore) 25 = .ok (.invokevirtual 118, 3) := by decide +kernel
theorem eX7_restore_28 : decode (zYb kX7_restore) 28 = .ok (.aload_n 0, 1) := by decide +kernel
theorem eX7_restore_29 : decode (zYb kX7_restore) 29 = .ok (.getfield 16, 3) := by decide +kernel
theorem eX7_restore_32 : decode (zYb kX7_restore) 32 = .ok (.sipush 336, 3) := by decide +kernel
theorem eX7_restore_35 : decode (zYb kX7_restore) 35 = .ok (.iload_n 1, 1) := by decide +kernel
theorem eX7_restore_36 : decode (zYb kX7_restore) 36 = .ok (.imul, 1) := by decide +kernel
theorem eX7_restore_37 : decode (zYb kX7_restore) 37 = .ok (.aload_n 0, 1) := by decide +kernel
theorem eX7_restore_38 : decode (zYb kX7_restore) 38 = .ok (.getfield 7, 3) := by decide +kernel
theorem eX7_restore_41 : decode (zYb kX7_restore) 41 = .ok (.iconst 0, 1) := by decide +kernel
theorem eX7_restore_42 : decode (zYb kX7_restore) 42 = .ok (.invokestatic 50, 3) := by decide +kernel
theorem eX7_restore_45 : decode (zYb kX7_restore) 45 = .ok (.aload_n 0, 1) := by decide +kernel
theorem eX7_restore_46 : decode (zYb kX7_restore) 46 = .ok (.getfield 7, 3) := by decide +kernel
theorem eX7_restore_49 : decode (zYb kX7_restore) 49 = .ok (.iconst 0, 1) := by decide +kernel
theorem eX7_restore_50 : decode (zYb kX7_restore) 50 = .ok (.iaload, 1) := by decide +kernel
theorem eX7_restore_51 : decode (zYb kX7_restore) 51 = .ok (.ireturn, 1) := by decide +kernel
