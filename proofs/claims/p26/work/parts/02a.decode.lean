theorem eX0_init_0 : decode (zYb kX0_init) 0 = .ok (.aload_n 0, 1) := by decide +kernel
theorem eX0_init_1 : decode (zYb kX0_init) 1 = .ok (.invokespecial 3, 3) := by decide +kernel
theorem eX0_init_4 : decode (zYb kX0_init) 4 = .ok (.aload_n 0, 1) := by decide +kernel
theorem eX0_init_5 : decode (zYb kX0_init) 5 = .ok (.bipush 60, 2) := by decide +kernel
theorem eX0_init_7 : decode (zYb kX0_init) 7 = .ok (.newarray .int, 2) := by decide +kernel
theorem eX0_init_9 : decode (zYb kX0_init) 9 = .ok (.putfield 9, 3) := by decide +kernel
theorem eX0_init_12 : decode (zYb kX0_init) 12 = .ok (.aload_n 0, 1) := by decide +kernel
theorem eX0_init_13 : decode (zYb kX0_init) 13 = .ok (.bipush 6, 2) := by decide +kernel
theorem eX0_init_15 : decode (zYb kX0_init) 15 = .ok (.newarray .int, 2) := by decide +kernel
theorem eX0_init_17 : decode (zYb kX0_init) 17 = .ok (.putfield 15, 3) := by decide +kernel
theorem eX0_init_20 : decode (zYb kX0_init) 20 = .ok (.aload_n 0, 1) := by decide +kernel
theorem eX0_init_21 : decode (zYb kX0_init) 21 = .ok (.bipush 6, 2) := by decide +kernel
theorem eX0_init_23 : decode (zYb kX0_init) 23 = .ok (.newarray .int, 2) := by decide +kernel
theorem eX0_init_25 : decode (zYb kX0_init) 25 = .ok (.putfield 18, 3) := by decide +kernel
theorem eX0_init_28 : decode (zYb kX0_init) 28 = .ok (.return_, 1) := by decide +kernel
theorem eX0_begin_0 : decode (zYb kX0_begin) 0 = .ok (.aload_n 0, 1) := by decide +kernel
theorem eX0_begin_1 : decode (zYb kX0_begin) 1 = .ok (.iconst 0, 1) := by decide +kernel
theorem eX0_begin_2 : decode (zYb kX0_begin) 2 = .ok (.putfield 21, 3) := by decide +kernel
theorem eX0_begin_5 : decode (zYb kX0_begin) 5 = .ok (.aload_n 0, 1) := by decide +kernel
theorem eX0_begin_6 : decode (zYb kX0_begin) 6 = .ok (.iconst 0, 1) := by decide +kernel
theorem eX0_begin_7 : decode (zYb kX0_begin) 7 = .ok (.putfield 25, 3) := by decide +kernel
theorem eX0_begin_10 : decode (zYb kX0_begin) 10 = .ok (.iconst 0, 1) := by decide +kernel
theorem eX0_begin_11 : decode (zYb kX0_begin) 11 = .ok (.istore_n 3, 1) := by decide +kernel
theorem eX0_begin_12 : decode (zYb kX0_begin) 12 = .ok (.iconst 0, 1) := by decide +kernel
theorem eX0_begin_13 : decode (zYb kX0_begin) 13 = .ok (.istore 4, 2) := by decide +kernel
theorem eX0_begin_15 : decode (zYb kX0_begin) 15 = .ok (.iload 4, 2) := by decide +kernel
theorem eX0_begin_17 : decode (zYb kX0_begin) 17 = .ok (.aload_n 1, 1) := by decide +kernel
theorem eX0_begin_18 : decode (zYb kX0_begin) 18 = .ok (.getfield 28, 3) := by decide +kernel
theorem eX0_begin_21 : decode (zYb kX0_begin) 21 = .ok (.if_icmp .ge 110, 3) := by decide +kernel
theorem eX0_begin_24 : decode (zYb kX0_begin) 24 = .ok (.iload_n 2, 1) := by decide +kernel
theorem eX0_begin_25 : decode (zYb kX0_begin) 25 = .ok (.ifCond .eq 15, 3) := by decide +kernel
theorem eX0_begin_28 : decode (zYb kX0_begin) 28 = .ok (.aload_n 1, 1) := by decide +kernel
theorem eX0_begin_29 : decode (zYb kX0_begin) 29 = .ok (.getfield 28, 3) := by decide +kernel
theorem eX0_begin_32 : decode (zYb kX0_begin) 32 = .ok (.iconst 1, 1) := by decide +kernel
theorem eX0_begin_33 : decode (zYb kX0_begin) 33 = .ok (.isub, 1) := by decide +kernel
theorem eX0_begin_34 : decode (zYb kX0_begin) 34 = .ok (.iload 4, 2) := by decide +kernel
theorem eX0_begin_36 : decode (zYb kX0_begin) 36 = .ok (.isub, 1) := by decide +kernel
theorem eX0_begin_37 : decode (zYb kX0_begin) 37 = .ok (.goto 5, 3) := by decide +kernel
theorem eX0_begin_40 : decode (zYb kX0_begin) 40 = .ok (.iload 4, 2) := by decide +kernel
theorem eX0_begin_42 : decode (zYb kX0_begin) 42 = .ok (.istore 5, 2) := by decide +kernel
theorem eX0_begin_44 : decode (zYb kX0_begin) 44 = .ok (.aload_n 1, 1) := by decide +kernel
theorem eX0_begin_45 : decode (zYb kX0_begin) 45 = .ok (.iload 5, 2) := by decide +kernel
theorem eX0_begin_47 : decode (zYb kX0_begin) 47 = .ok (.invokevirtual 33, 3) := by decide +kernel
theorem eX0_begin_50 : decode (zYb kX0_begin) 50 = .ok (.istore 6, 2) := by decide +kernel
theorem eX0_begin_52 : decode (zYb kX0_begin) 52 = .ok (.aload_n 1, 1) := by decide +kernel
theorem eX0_begin_53 : decode (zYb kX0_begin) 53 = .ok (.iload 5, 2) := by decide +kernel
theorem eX0_begin_55 : decode (zYb kX0_begin) 55 = .ok (.invokevirtual 37, 3) := by decide +kernel
theorem eX0_begin_58 : decode (zYb kX0_begin) 58 = .ok (.istore 7, 2) := by decide +kernel
theorem eX0_begin_60 : decode (zYb kX0_begin) 60 = .ok (.iload_n 3, 1) := by decide +kernel
theorem eX0_begin_61 : decode (zYb kX0_begin) 61 = .ok (.iload 7, 2) := by decide +kernel
theorem eX0_begin_63 : decode (zYb kX0_begin) 63 = .ok (.iadd, 1) := by decide +kernel
theorem eX0_begin_64 : decode (zYb kX0_begin) 64 = .ok (.iload 6, 2) := by decide +kernel
theorem eX0_begin_66 : decode (zYb kX0_begin) 66 = .ok (.isub, 1) := by decide +kernel
theorem eX0_begin_67 : decode (zYb kX0_begin) 67 = .ok (.istore 8, 2) := by decide +kernel
theorem eX0_begin_69 : decode (zYb kX0_begin) 69 = .ok (.aload_n 1, 1) := by decide +kernel
theorem eX0_begin_70 : decode (zYb kX0_begin) 70 = .ok (.iload 6, 2) := by decide +kernel
theorem eX0_begin_72 : decode (zYb kX0_begin) 72 = .ok (.iload 7, 2) := by decide +kernel
theorem eX0_begin_74 : decode (zYb kX0_begin) 74 = .ok (.iconst 0, 1) := by decide +kernel
theorem eX0_begin_75 : decode (zYb kX0_begin) 75 = .ok (.aload_n 0, 1) := by decide +kernel
theorem eX0_begin_76 : decode (zYb kX0_begin) 76 = .ok (.getfield 9, 3) := by decide +kernel
theorem eX0_begin_79 : decode (zYb kX0_begin) 79 = .ok (.iload_n 3, 1) := by decide +kernel
theorem eX0_begin_80 : decode (zYb kX0_begin) 80 = .ok (.invokevirtual 40, 3) := by decide +kernel
theorem eX0_begin_83 : decode (zYb kX0_begin) 83 = .ok (.aload_n 0, 1) := by decide +kernel
theorem eX0_begin_84 : decode (zYb kX0_begin) 84 = .ok (.getfield 9, 3) := by decide +kernel
theorem eX0_begin_87 : decode (zYb kX0_begin) 87 = .ok (.iload_n 3, 1) := by decide +kernel
theorem eX0_begin_88 : decode (zYb kX0_begin) 88 = .ok (.iload 8, 2) := by decide +kernel
theorem eX0_begin_90 : decode (zYb kX0_begin) 90 = .ok (.invokestatic 44, 3) := by decide +kernel
theorem eX0_begin_93 : decode (zYb kX0_begin) 93 = .ok (.istore 9, 2) := by decide +kernel
theorem eX0_begin_95 : decode (zYb kX0_begin) 95 = .ok (.iload 9, 2) := by decide +kernel
theorem eX0_begin_97 : decode (zYb kX0_begin) 97 = .ok (.ifCond .le 13, 3) := by decide +kernel
theorem eX0_begin_100 : decode (zYb kX0_begin) 100 = .ok (.aload_n 0, 1) := by decide +kernel
theorem eX0_begin_101 : decode (zYb kX0_begin) 101 = .ok (.getfield 9, 3) := by decide +kernel
theorem eX0_begin_104 : decode (zYb kX0_begin) 104 = .ok (.iload_n 3, 1) := by decide +kernel
theorem eX0_begin_105 : decode (zYb kX0_begin) 105 = .ok (.iload 8, 2) := by decide +kernel
theorem eX0_begin_107 : decode (zYb kX0_begin) 107 = .ok (.invokestatic 48, 3) := by decide +kernel
theorem eX0_begin_110 : decode (zYb kX0_begin) 110 = .ok (.iload 9, 2) := by decide +kernel
theorem eX0_begin_112 : decode (zYb kX0_begin) 112 = .ok (.ifCond .eq 10, 3) := by decide +kernel
theorem eX0_begin_115 : decode (zYb kX0_begin) 115 = .ok (.aload_n 0, 1) := by decide +kernel
theorem eX0_begin_116 : decode (zYb kX0_begin) 116 = .ok (.iload_n 3, 1) := by decide +kernel
theorem eX0_begin_117 : decode (zYb kX0_begin) 117 = .ok (.iload 8, 2) := by decide +kernel
theorem eX0_begin_119 : decode (zYb kX0_begin) 119 = .ok (.invokevirtual 52, 3) := by decide +kernel
theorem eX0_begin_122 : decode (zYb kX0_begin) 122 = .ok (.iload 8, 2) := by decide +kernel
theorem eX0_begin_124 : decode (zYb kX0_begin) 124 = .ok (.istore_n 3, 1) := by decide +kernel
theorem eX0_begin_125 : decode (zYb kX0_begin) 125 = .ok (.iinc 4 1, 3) := by decide +kernel
theorem eX0_begin_128 : decode (zYb kX0_begin) 128 = .ok (.goto (-113), 3) := by decide +kernel
theorem eX0_begin_131 : decode (zYb kX0_begin) 131 = .ok (.return_, 1) := by decide +kernel
theorem eX0_addDigit_0 : decode (zYb kX0_addDigit) 0 = .ok (.aload_n 0, 1) := by decide +kernel
theorem eX0_addDigit_1 : decode (zYb kX0_addDigit) 1 = .ok (.getfield 21, 3) := by decide +kernel
theorem eX0_addDigit_4 : decode (zYb kX0_addDigit) 4 = .ok (.bipush 6, 2) := by decide +kernel
theorem eX0_addDigit_6 : decode (zYb kX0_addDigit) 6 = .ok (.if_icmp .ge 33, 3) := by decide +kernel
theorem eX0_addDigit_9 : decode (zYb kX0_addDigit) 9 = .ok (.aload_n 0, 1) := by decide +kernel
theorem eX0_addDigit_10 : decode (zYb kX0_addDigit) 10 = .ok (.getfield 15, 3) := by decide +kernel
theorem eX0_addDigit_13 : decode (zYb kX0_addDigit) 13 = .ok (.aload_n 0, 1) := by decide +kernel
theorem eX0_addDigit_14 : decode (zYb kX0_addDigit) 14 = .ok (.getfield 21, 3) := by decide +kernel
theorem eX0_addDigit_17 : decode (zYb kX0_addDigit) 17 = .ok (.iload_n 1, 1) := by decide +kernel
theorem eX0_addDigit_18 : decode (zYb kX0_addDigit) 18 = .ok (.iastore, 1) := by decide +kernel
theorem eX0_addDigit_19 : decode (zYb kX0_addDigit) 19 = .ok (.aload_n 0, 1) := by decide +kernel
theorem eX0_addDigit_20 : decode (zYb kX0_addDigit) 20 = .ok (.getfield 18, 3) := by decide +kernel
theorem eX0_addDigit_23 : decode (zYb kX0_addDigit) 23 = .ok (.aload_n 0, 1) := by decide +kernel
theorem eX0_addDigit_24 : decode (zYb kX0_addDigit) 24 = .ok (.getfield 21, 3) := by decide +kernel
theorem eX0_addDigit_27 : decode (zYb kX0_addDigit) 27 = .ok (.iload_n 2, 1) := by decide +kernel
theorem eX0_addDigit_28 : decode (zYb kX0_addDigit) 28 = .ok (.iastore, 1) := by decide +kernel
theorem eX0_addDigit_29 : decode (zYb kX0_addDigit) 29 = .ok (.aload_n 0, 1) := by decide +kernel
theorem eX0_addDigit_30 : decode (zYb kX0_addDigit) 30 = .ok (.dup, 1) := by decide +kernel
theorem eX0_addDigit_31 : decode (zYb kX0_addDigit) 31 = .ok (.getfield 21, 3) := by decide +kernel
theorem eX0_addDigit_34 : decode (zYb kX0_addDigit) 34 = .ok (.iconst 1, 1) := by decide +kernel
theorem eX0_addDigit_35 : decode (zYb kX0_addDigit) 35 = .ok (.iadd, 1) := by decide +kernel
theorem eX0_addDigit_36 : decode (zYb kX0_addDigit) 36 = .ok (.putfield 21, 3) := by decide +kernel
theorem eX0_addDigit_39 : decode (zYb kX0_addDigit) 39 = .ok (.return_, 1) := by decide +kernel
theorem eX0_isOver_0 : decode (zYb kX0_isOver) 0 = .ok (.aload_n 0, 1) := by decide +kernel
theorem eX0_isOver_1 : decode (zYb kX0_isOver) 1 = .ok (.getfield 25, 3) := by decide +kernel
theorem eX0_isOver_4 : decode (zYb kX0_isOver) 4 = .ok (.iconst 1, 1) := by decide +kernel
theorem eX0_isOver_5 : decode (zYb kX0_isOver) 5 = .ok (.aload_n 0, 1) := by decide +kernel
theorem eX0_isOver_6 : decode (zYb kX0_isOver) 6 = .ok (.getfield 21, 3) := by decide +kernel
theorem eX0_isOver_9 : decode (zYb kX0_isOver) 9 = .ok (.ishl, 1) := by decide +kernel
theorem eX0_isOver_10 : decode (zYb kX0_isOver) 10 = .ok (.if_icmp .lt 7, 3) := by decide +kernel
theorem eX0_isOver_13 : decode (zYb kX0_isOver) 13 = .ok (.iconst 1, 1) := by decide +kernel
theorem eX0_isOver_14 : decode (zYb kX0_isOver) 14 = .ok (.goto 4, 3) := by decide +kernel
theorem eX0_isOver_17 : decode (zYb kX0_isOver) 17 = .ok (.iconst 0, 1) := by decide +kernel
theorem eX0_isOver_18 : decode (zYb kX0_isOver) 18 = .ok (.ireturn, 1) := by decide +kernel
theorem eX0_step_0 : decode (zYb kX0_step) 0 = .ok (.aload_n 0, 1) := by decide +kernel
theorem eX0_step_1 : decode (zYb kX0_step) 1 = .ok (.dup, 1) := by decide +kernel
theorem eX0_step_2 : decode (zYb kX0_step) 2 = .ok (.getfield 25, 3) := by decide +kernel
theorem eX0_step_5 : decode (zYb kX0_step) 5 = .ok (.iconst 1, 1) := by decide +kernel
theorem eX0_step_6 : decode (zYb kX0_step) 6 = .ok (.iadd, 1) := by decide +kernel
theorem eX0_step_7 : decode (zYb kX0_step) 7 = .ok (.putfield 25, 3) := by decide +kernel
theorem eX0_step_10 : decode (zYb kX0_step) 10 = .ok (.iconst 1, 1) := by decide +kernel
theorem eX0_step_11 : decode (zYb kX0_step) 11 = .ok (.istore_n 1, 1) := by decide +kernel
theorem eX0_step_12 : decode (zYb kX0_step) 12 = .ok (.aload_n 0, 1) := by decide +kernel
theorem eX0_step_13 : decode (zYb kX0_step) 13 = .ok (.getfield 21, 3) := by decide +kernel
theorem eX0_step_16 : decode (zYb kX0_step) 16 = .ok (.iconst 1, 1) := by decide +kernel
theorem eX0_step_17 : decode (zYb kX0_step) 17 = .ok (.isub, 1) := by decide +kernel
theorem eX0_step_18 : decode (zYb kX0_step) 18 = .ok (.istore_n 2, 1) := by decide +kernel
theorem eX0_step_19 : decode (zYb kX0_step) 19 = .ok (.iload_n 2, 1) := by decide +kernel
theorem eX0_step_20 : decode (zYb kX0_step) 20 = .ok (.ifCond .lt 48, 3) := by decide +kernel
theorem eX0_step_23 : decode (zYb kX0_step) 23 = .ok (.iload_n 2, 1) := by decide +kernel
theorem eX0_step_24 : decode (zYb kX0_step) 24 = .ok (.bipush 6, 2) := by decide +kernel
theorem eX0_step_26 : decode (zYb kX0_step) 26 = .ok (.if_icmp .ge 42, 3) := by decide +kernel
theorem eX0_step_29 : decode (zYb kX0_step) 29 = .ok (.aload_n 0, 1) := by decide +kernel
theorem eX0_step_30 : decode (zYb kX0_step) 30 = .ok (.getfield 9, 3) := by decide +kernel
theorem eX0_step_33 : decode (zYb kX0_step) 33 = .ok (.aload_n 0, 1) := by decide +kernel
theorem eX0_step_34 : decode (zYb kX0_step) 34 = .ok (.getfield 15, 3) := by decide +kernel
theorem eX0_step_37 : decode (zYb kX0_step) 37 = .ok (.iload_n 2, 1) := by decide +kernel
theorem eX0_step_38 : decode (zYb kX0_step) 38 = .ok (.iaload, 1) := by decide +kernel
theorem eX0_step_39 : decode (zYb kX0_step) 39 = .ok (.aload_n 0, 1) := by decide +kernel
theorem eX0_step_40 : decode (zYb kX0_step) 40 = .ok (.getfield 18, 3) := by decide +kernel
theorem eX0_step_43 : decode (zYb kX0_step) 43 = .ok (.iload_n 2, 1) := by decide +kernel
theorem eX0_step_44 : decode (zYb kX0_step) 44 = .ok (.iaload, 1) := by decide +kernel
theorem eX0_step_45 : decode (zYb kX0_step) 45 = .ok (.invokestatic 48, 3) := by decide +kernel
theorem eX0_step_48 : decode (zYb kX0_step) 48 = .ok (.aload_n 0, 1) := by decide +kernel
theorem eX0_step_49 : decode (zYb kX0_step) 49 = .ok (.getfield 25, 3) := by decide +kernel
theorem eX0_step_52 : decode (zYb kX0_step) 52 = .ok (.iload_n 1, 1) := by decide +kernel
theorem eX0_step_53 : decode (zYb kX0_step) 53 = .ok (.iand, 1) := by decide +kernel
theorem eX0_step_54 : decode (zYb kX0_step) 54 = .ok (.ifCond .eq 4, 3) := by decide +kernel
theorem eX0_step_57 : decode (zYb kX0_step) 57 = .ok (.return_, 1) := by decide +kernel
theorem eX0_step_58 : decode (zYb kX0_step) 58 = .ok (.iload_n 1, 1) := by decide +kernel
theorem eX0_step_59 : decode (zYb kX0_step) 59 = .ok (.iconst 2, 1) := by decide +kernel
theorem eX0_step_60 : decode (zYb kX0_step) 60 = .ok (.imul, 1) := by decide +kernel
theorem eX0_step_61 : decode (zYb kX0_step) 61 = .ok (.istore_n 1, 1) := by decide +kernel
theorem eX0_step_62 : decode (zYb kX0_step) 62 = .ok (.iinc 2 (-1), 3) := by decide +kernel
theorem eX0_step_65 : decode (zYb kX0_step) 65 = .ok (.goto (-46), 3) := by decide +kernel
theorem eX0_step_68 : decode (zYb kX0_step) 68 = .ok (.return_, 1) := by decide +kernel
theorem eX1_init_0 : decode (zYb kX1_init) 0 = .ok (.aload_n 0, 1) := by decide +kernel
theorem eX1_init_1 : decode (zYb kX1_init) 1 = .ok (.invokespecial 3, 3) := by decide +kernel
theorem eX1_init_4 : decode (zYb kX1_init) 4 = .ok (.aload_n 0, 1) := by decide +kernel
theorem eX1_init_5 : decode (zYb kX1_init) 5 = .ok (.bipush 6, 2) := by decide +kernel
theorem eX1_init_7 : decode (zYb kX1_init) 7 = .ok (.anewarray 9, 3) := by decide +kernel
theorem eX1_init_10 : decode (zYb kX1_init) 10 = .ok (.putfield 11, 3) := by decide +kernel
theorem eX1_init_13 : decode (zYb kX1_init) 13 = .ok (.iconst 0, 1) := by decide +kernel
theorem eX1_init_14 : decode (zYb kX1_init) 14 = .ok (.istore_n 1, 1) := by decide +kernel
theorem eX1_init_15 : decode (zYb kX1_init) 15 = .ok (.iload_n 1, 1) := by decide +kernel
theorem eX1_init_16 : decode (zYb kX1_init) 16 = .ok (.bipush 6, 2) := by decide +kernel
theorem eX1_init_18 : decode (zYb kX1_init) 18 = .ok (.if_icmp .ge 22, 3) := by decide +kernel
theorem eX1_init_21 : decode (zYb kX1_init) 21 = .ok (.aload_n 0, 1) := by decide +kernel
theorem eX1_init_22 : decode (zYb kX1_init) 22 = .ok (.getfield 11, 3) := by decide +kernel
theorem eX1_init_25 : decode (zYb kX1_init) 25 = .ok (.iload_n 1, 1) := by decide +kernel
theorem eX1_init_26 : decode (zYb kX1_init) 26 = .ok (.new 9, 3) := by decide +kernel
theorem eX1_init_29 : decode (zYb kX1_init) 29 = .ok (.dup, 1) := by decide +kernel
theorem eX1_init_30 : decode (zYb kX1_init) 30 = .ok (.invokespecial 17, 3) := by decide +kernel
theorem eX1_init_33 : decode (zYb kX1_init) 33 = .ok (.aastore, 1) := by decide +kernel
theorem eX1_init_34 : decode (zYb kX1_init) 34 = .ok (.iinc 1 1, 3) := by decide +kernel
theorem eX1_init_37 : decode (zYb kX1_init) 37 = .ok (.goto (-22), 3) := by decide +kernel
theorem eX1_init_40 : decode (zYb kX1_init) 40 = .ok (.return_, 1) := by decide +kernel
theorem eX1_record_0 : decode (zYb kX1_record) 0 = .ok (.aload_n 0, 1) := by decide +kernel
theorem eX1_record_1 : decode (zYb kX1_record) 1 = .ok (.getfield 18, 3) := by decide +kernel
theorem eX1_record_4 : decode (zYb kX1_record) 4 = .ok (.bipush 6, 2) := by decide +kernel
theorem eX1_record_6 : decode (zYb kX1_record) 6 = .ok (.if_icmp .lt 7, 3) := by decide +kernel
theorem eX1_record_9 : decode (zYb kX1_record) 9 = .ok (.aload_n 0, 1) := by decide +kernel
theorem eX1_record_10 : decode (zYb kX1_record) 10 = .ok (.invokevirtual 22, 3) := by decide +kernel
theorem eX1_record_13 : decode (zYb kX1_record) 13 = .ok (.aload_n 0, 1) := by decide +kernel
theorem eX1_record_14 : decode (zYb kX1_record) 14 = .ok (.getfield 18, 3) := by decide +kernel
theorem eX1_record_17 : decode (zYb kX1_record) 17 = .ok (.ifCond .lt 12, 3) := by decide +kernel
theorem eX1_record_20 : decode (zYb kX1_record) 20 = .ok (.aload_n 0, 1) := by decide +kernel
theorem eX1_record_21 : decode (zYb kX1_record) 21 = .ok (.getfield 18, 3) := by decide +kernel
theorem eX1_record_24 : decode (zYb kX1_record) 24 = .ok (.bipush 6, 2) := by decide +kernel
theorem eX1_record_26 : decode (zYb kX1_record) 26 = .ok (.if_icmp .lt 4, 3) := by decide +kernel
theorem eX1_record_29 : decode (zYb kX1_record) 29 = .ok (.return_, 1) := by decide +kernel
theorem eX1_record_30 : decode (zYb kX1_record) 30 = .ok (.aload_n 0, 1) := by decide +kernel
theorem eX1_record_31 : decode (zYb kX1_record) 31 = .ok (.getfield 11, 3) := by decide +kernel
theorem eX1_record_34 : decode (zYb kX1_record) 34 = .ok (.aload_n 0, 1) := by decide +kernel
theorem eX1_record_35 : decode (zYb kX1_record) 35 = .ok (.getfield 18, 3) := by decide +kernel
theorem eX1_record_38 : decode (zYb kX1_record) 38 = .ok (.aaload, 1) := by decide +kernel
theorem eX1_record_39 : decode (zYb kX1_record) 39 = .ok (.astore_n 2, 1) := by decide +kernel
theorem eX1_record_40 : decode (zYb kX1_record) 40 = .ok (.aload_n 2, 1) := by decide +kernel
theorem eX1_record_41 : decode (zYb kX1_record) 41 = .ok (.ifnull 18, 3) := by decide +kernel
theorem eX1_record_44 : decode (zYb kX1_record) 44 = .ok (.aload_n 2, 1) := by decide +kernel
theorem eX1_record_45 : decode (zYb kX1_record) 45 = .ok (.aload_n 1, 1) := by decide +kernel
theorem eX1_record_46 : decode (zYb kX1_record) 46 = .ok (.invokevirtual 25, 3) := by decide +kernel
theorem eX1_record_49 : decode (zYb kX1_record) 49 = .ok (.aload_n 0, 1) := by decide +kernel
theorem eX1_record_50 : decode (zYb kX1_record) 50 = .ok (.dup, 1) := by decide +kernel
theorem eX1_record_51 : decode (zYb kX1_record) 51 = .ok (.getfield 18, 3) := by decide +kernel
theorem eX1_record_54 : decode (zYb kX1_record) 54 = .ok (.iconst 1, 1) := by decide +kernel
theorem eX1_record_55 : decode (zYb kX1_record) 55 = .ok (.iadd, 1) := by decide +kernel
theorem eX1_record_56 : decode (zYb kX1_record) 56 = .ok (.putfield 18, 3) := by decide +kernel
theorem eX1_record_59 : decode (zYb kX1_record) 59 = .ok (.return_, 1) := by decide +kernel
theorem eX1_dropOldest_0 : decode (zYb kX1_dropOldest) 0 = .ok (.aload_n 0, 1) := by decide +kernel
theorem eX1_dropOldest_1 : decode (zYb kX1_dropOldest) 1 = .ok (.getfield 11, 3) := by decide +kernel
theorem eX1_dropOldest_4 : decode (zYb kX1_dropOldest) 4 = .ok (.iconst 0, 1) := by decide +kernel
theorem eX1_dropOldest_5 : decode (zYb kX1_dropOldest) 5 = .ok (.aaload, 1) := by decide +kernel
theorem eX1_dropOldest_6 : decode (zYb kX1_dropOldest) 6 = .ok (.astore_n 1, 1) := by decide +kernel
theorem eX1_dropOldest_7 : decode (zYb kX1_dropOldest) 7 = .ok (.iconst 0, 1) := by decide +kernel
theorem eX1_dropOldest_8 : decode (zYb kX1_dropOldest) 8 = .ok (.istore_n 2, 1) := by decide +kernel
theorem eX1_dropOldest_9 : decode (zYb kX1_dropOldest) 9 = .ok (.iload_n 2, 1) := by decide +kernel
theorem eX1_dropOldest_10 : decode (zYb kX1_dropOldest) 10 = .ok (.iconst 1, 1) := by decide +kernel
theorem eX1_dropOldest_11 : decode (zYb kX1_dropOldest) 11 = .ok (.iadd, 1) := by decide +kernel
theorem eX1_dropOldest_12 : decode (zYb kX1_dropOldest) 12 = .ok (.bipush 6, 2) := by decide +kernel
theorem eX1_dropOldest_14 : decode (zYb kX1_dropOldest) 14 = .ok (.if_icmp .ge 23, 3) := by decide +kernel
theorem eX1_dropOldest_17 : decode (zYb kX1_dropOldest) 17 = .ok (.aload_n 0, 1) := by decide +kernel
theorem eX1_dropOldest_18 : decode (zYb kX1_dropOldest) 18 = .ok (.getfield 11, 3) := by decide +kernel
theorem eX1_dropOldest_21 : decode (zYb kX1_dropOldest) 21 = .ok (.iload_n 2, 1) := by decide +kernel
theorem eX1_dropOldest_22 : decode (zYb kX1_dropOldest) 22 = .ok (.aload_n 0, 1) := by decide +kernel
theorem eX1_dropOldest_23 : decode (zYb kX1_dropOldest) 23 = .ok (.getfield 11, 3) := by decide +kernel
theorem eX1_dropOldest_26 : decode (zYb kX1_dropOldest) 26 = .ok (.iload_n 2, 1) := by decide +kernel
theorem eX1_dropOldest_27 : decode (zYb kX1_dropOldest) 27 = .ok (.iconst 1, 1) := by decide +kernel
theorem eX1_dropOldest_28 : decode (zYb kX1_dropOldest) 28 = .ok (.iadd, 1) := by decide +kernel
theorem eX1_dropOldest_29 : decode (zYb kX1_dropOldest) 29 = .ok (.aaload, 1) := by decide +kernel
theorem eX1_dropOldest_30 : decode (zYb kX1_dropOldest) 30 = .ok (.aastore, 1) := by decide +kernel
theorem eX1_dropOldest_31 : decode (zYb kX1_dropOldest) 31 = .ok (.iinc 2 1, 3) := by decide +kernel
theorem eX1_dropOldest_34 : decode (zYb kX1_dropOldest) 34 = .ok (.goto (-25), 3) := by decide +kernel
theorem eX1_dropOldest_37 : decode (zYb kX1_dropOldest) 37 = .ok (.aload_n 0, 1) := by decide +kernel
theorem eX1_dropOldest_38 : decode (zYb kX1_dropOldest) 38 = .ok (.getfield 11, 3) := by decide +kernel
theorem eX1_dropOldest_41 : decode (zYb kX1_dropOldest) 41 = .ok (.iconst 5, 1) := by decide +kernel
theorem eX1_dropOldest_42 : decode (zYb kX1_dropOldest) 42 = .ok (.aload_n 1, 1) := by decide +kernel
theorem eX1_dropOldest_43 : decode (zYb kX1_dropOldest) 43 = .ok (.aastore, 1) := by decide +kernel
theorem eX1_dropOldest_44 : decode (zYb kX1_dropOldest) 44 = .ok (.aload_n 0, 1) := by decide +kernel
theorem eX1_dropOldest_45 : decode (zYb kX1_dropOldest) 45 = .ok (.iconst 5, 1) := by decide +kernel
theorem eX1_dropOldest_46 : decode (zYb kX1_dropOldest) 46 = .ok (.putfield 18, 3) := by decide +kernel
theorem eX1_dropOldest_49 : decode (zYb kX1_dropOldest) 49 = .ok (.return_, 1) := by decide +kernel
theorem eX2_init_0 : decode (zYb kX2_init) 0 = .ok (.aload_n 0, 1) := by decide +kernel
theorem eX2_init_1 : decode (zYb kX2_init) 1 = .ok (.invokespecial 3, 3) := by decide +kernel
theorem eX2_init_4 : decode (zYb kX2_init) 4 = .ok (.aload_n 0, 1) := by decide +kernel
theorem eX2_init_5 : decode (zYb kX2_init) 5 = .ok (.bipush 64, 2) := by decide +kernel
theorem eX2_init_7 : decode (zYb kX2_init) 7 = .ok (.newarray .int, 2) := by decide +kernel
theorem eX2_init_9 : decode (zYb kX2_init) 9 = .ok (.putfield 9, 3) := by decide +kernel
theorem eX2_init_12 : decode (zYb kX2_init) 12 = .ok (.return_, 1) := by decide +kernel
theorem eX2_empty_0 : decode (zYb kX2_empty) 0 = .ok (.aload_n 0, 1) := by decide +kernel
theorem eX2_empty_1 : decode (zYb kX2_empty) 1 = .ok (.iconst 0, 1) := by decide +kernel
theorem eX2_empty_2 : decode (zYb kX2_empty) 2 = .ok (.putfield 15, 3) := by decide +kernel
theorem eX2_empty_5 : decode (zYb kX2_empty) 5 = .ok (.return_, 1) := by decide +kernel
theorem eX2_append_0 : decode (zYb kX2_append) 0 = .ok (.aload_n 0, 1) := by decide +kernel
theorem eX2_append_1 : decode (zYb kX2_append) 1 = .ok (.getfield 15, 3) := by decide +kernel
theorem eX2_append_4 : decode (zYb kX2_append) 4 = .ok (.ifCond .lt 32, 3) := by decide +kernel
theorem eX2_append_7 : decode (zYb kX2_append) 7 = .ok (.aload_n 0, 1) := by decide +kernel
theorem eX2_append_8 : decode (zYb kX2_append) 8 = .ok (.getfield 15, 3) := by decide +kernel
theorem eX2_append_11 : decode (zYb kX2_append) 11 = .ok (.bipush 64, 2) := by decide +kernel
theorem eX2_append_13 : decode (zYb kX2_append) 13 = .ok (.if_icmp .ge 23, 3) := by decide +kernel
theorem eX2_append_16 : decode (zYb kX2_append) 16 = .ok (.aload_n 0, 1) := by decide +kernel
theorem eX2_append_17 : decode (zYb kX2_append) 17 = .ok (.getfield 9, 3) := by decide +kernel
theorem eX2_append_20 : decode (zYb kX2_append) 20 = .ok (.aload_n 0, 1) := by decide +kernel
theorem eX2_append_21 : decode (zYb kX2_append) 21 = .ok (.getfield 15, 3) := by decide +kernel
theorem eX2_append_24 : decode (zYb kX2_append) 24 = .ok (.iload_n 1, 1) := by decide +kernel
theorem eX2_append_25 : decode (zYb kX2_append) 25 = .ok (.iastore, 1) := by decide +kernel
theorem eX2_append_26 : decode (zYb kX2_append) 26 = .ok (.aload_n 0, 1) := by decide +kernel
theorem eX2_append_27 : decode (zYb kX2_append) 27 = .ok (.dup, 1) := by decide +kernel
theorem eX2_append_28 : decode (zYb kX2_append) 28 = .ok (.getfield 15, 3) := by decide +kernel
theorem eX2_append_31 : decode (zYb kX2_append) 31 = .ok (.iconst 1, 1) := by decide +kernel
theorem eX2_append_32 : decode (zYb kX2_append) 32 = .ok (.iadd, 1) := by decide +kernel
theorem eX2_append_33 : decode (zYb kX2_append) 33 = .ok (.putfield 15, 3) := by decide +kernel
theorem eX2_append_36 : decode (zYb kX2_append) 36 = .ok (.return_, 1) := by decide +kernel
theorem eX2_codeAt_0 : decode (zYb kX2_codeAt) 0 = .ok (.iload_n 1, 1) := by decide +kernel
theorem eX2_codeAt_1 : decode (zYb kX2_codeAt) 1 = .ok (.ifCond .lt 26, 3) := by decide +kernel
theorem eX2_codeAt_4 : decode (zYb kX2_codeAt) 4 = .ok (.iload_n 1, 1) := by decide +kernel
theorem eX2_codeAt_5 : decode (zYb kX2_codeAt) 5 = .ok (.aload_n 0, 1) := by decide +kernel
theorem eX2_codeAt_6 : decode (zYb kX2_codeAt) 6 = .ok (.getfield 15, 3) := by decide +kernel
theorem eX2_codeAt_9 : decode (zYb kX2_codeAt) 9 = .ok (.if_icmp .ge 18, 3) := by decide +kernel
theorem eX2_codeAt_12 : decode (zYb kX2_codeAt) 12 = .ok (.iload_n 1, 1) := by decide +kernel
theorem eX2_codeAt_13 : decode (zYb kX2_codeAt) 13 = .ok (.bipush 64, 2) := by decide +kernel
theorem eX2_codeAt_15 : decode (zYb kX2_codeAt) 15 = .ok (.if_icmp .ge 12, 3) := by decide +kernel
theorem eX2_codeAt_18 : decode (zYb kX2_codeAt) 18 = .ok (.aload_n 0, 1) := by decide +kernel
theorem eX2_codeAt_19 : decode (zYb kX2_codeAt) 19 = .ok (.getfield 9, 3) := by decide +kernel
theorem eX2_codeAt_22 : decode (zYb kX2_codeAt) 22 = .ok (.iload_n 1, 1) := by decide +kernel
theorem eX2_codeAt_23 : decode (zYb kX2_codeAt) 23 = .ok (.iaload, 1) := by decide +kernel
theorem eX2_codeAt_24 : decode (zYb kX2_codeAt) 24 = .ok (.goto 4, 3) := by decide +kernel
theorem eX2_codeAt_27 : decode (zYb kX2_codeAt) 27 = .ok (.iconst 0, 1) := by decide +kernel
theorem eX2_codeAt_28 : decode (zYb kX2_codeAt) 28 = .ok (.ireturn, 1) := by decide +kernel
theorem eX2_scrollsOfText_0 : decode (zYb kX2_scrollsOfText) 0 = .ok (.iconst 1, 1) := by decide +kernel
theorem eX2_scrollsOfText_1 : decode (zYb kX2_scrollsOfText) 1 = .ok (.istore_n 1, 1) := by decide +kernel
theorem eX2_scrollsOfText_2 : decode (zYb kX2_scrollsOfText) 2 = .ok (.iconst 0, 1) := by decide +kernel
theorem eX2_scrollsOfText_3 : decode (zYb kX2_scrollsOfText) 3 = .ok (.istore_n 2, 1) := by decide +kernel
theorem eX2_scrollsOfText_4 : decode (zYb kX2_scrollsOfText) 4 = .ok (.iload_n 2, 1) := by decide +kernel
theorem eX2_scrollsOfText_5 : decode (zYb kX2_scrollsOfText) 5 = .ok (.aload_n 0, 1) := by decide +kernel
theorem eX2_scrollsOfText_6 : decode (zYb kX2_scrollsOfText) 6 = .ok (.getfield 15, 3) := by decide +kernel
theorem eX2_scrollsOfText_9 : decode (zYb kX2_scrollsOfText) 9 = .ok (.if_icmp .ge 22, 3) := by decide +kernel
theorem eX2_scrollsOfText_12 : decode (zYb kX2_scrollsOfText) 12 = .ok (.aload_n 0, 1) := by decide +kernel
theorem eX2_scrollsOfText_13 : decode (zYb kX2_scrollsOfText) 13 = .ok (.iload_n 2, 1) := by decide +kernel
theorem eX2_scrollsOfText_14 : decode (zYb kX2_scrollsOfText) 14 = .ok (.invokevirtual 19, 3) := by decide +kernel
theorem eX2_scrollsOfText_17 : decode (zYb kX2_scrollsOfText) 17 = .ok (.bipush 59, 2) := by decide +kernel
theorem eX2_scrollsOfText_19 : decode (zYb kX2_scrollsOfText) 19 = .ok (.if_icmp .ne 6, 3) := by decide +kernel
theorem eX2_scrollsOfText_22 : decode (zYb kX2_scrollsOfText) 22 = .ok (.iinc 1 1, 3) := by decide +kernel
theorem eX2_scrollsOfText_25 : decode (zYb kX2_scrollsOfText) 25 = .ok (.iinc 2 1, 3) := by decide +kernel
theorem eX2_scrollsOfText_28 : decode (zYb kX2_scrollsOfText) 28 = .ok (.goto (-24), 3) := by decide +kernel
theorem eX2_scrollsOfText_31 : decode (zYb kX2_scrollsOfText) 31 = .ok (.iload_n 1, 1) := by decide +kernel
theorem eX2_scrollsOfText_32 : decode (zYb kX2_scrollsOfText) 32 = .ok (.ireturn, 1) := by decide +kernel
theorem eX2_firstFault_0 : decode (zYb kX2_firstFault) 0 = .ok (.iconst 1, 1) := by decide +kernel
theorem eX2_firstFault_1 : decode (zYb kX2_firstFault) 1 = .ok (.istore_n 1, 1) := by decide +kernel
theorem eX2_firstFault_2 : decode (zYb kX2_firstFault) 2 = .ok (.iconst 1, 1) := by decide +kernel
theorem eX2_firstFault_3 : decode (zYb kX2_firstFault) 3 = .ok (.istore_n 2, 1) := by decide +kernel
theorem eX2_firstFault_4 : decode (zYb kX2_firstFault) 4 = .ok (.iconst 0, 1) := by decide +kernel
theorem eX2_firstFault_5 : decode (zYb kX2_firstFault) 5 = .ok (.istore_n 3, 1) := by decide +kernel
theorem eX2_firstFault_6 : decode (zYb kX2_firstFault) 6 = .ok (.iconst 0, 1) := by decide +kernel
theorem eX2_firstFault_7 : decode (zYb kX2_firstFault) 7 = .ok (.istore 4, 2) := by decide +kernel
theorem eX2_firstFault_9 : decode (zYb kX2_firstFault) 9 = .ok (.iload 4, 2) := by decide +kernel
theorem eX2_firstFault_11 : decode (zYb kX2_firstFault) 11 = .ok (.aload_n 0, 1) := by decide +kernel
theorem eX2_firstFault_12 : decode (zYb kX2_firstFault) 12 = .ok (.getfield 15, 3) := by decide +kernel
theorem eX2_firstFault_15 : decode (zYb kX2_firstFault) 15 = .ok (.if_icmp .ge 90, 3) := by decide +kernel
theorem eX2_firstFault_18 : decode (zYb kX2_firstFault) 18 = .ok (.aload_n 0, 1) := by decide +kernel
theorem eX2_firstFault_19 : decode (zYb kX2_firstFault) 19 = .ok (.iload 4, 2) := by decide +kernel
theorem eX2_firstFault_21 : decode (zYb kX2_firstFault) 21 = .ok (.invokevirtual 19, 3) := by decide +kernel
theorem eX2_firstFault_24 : decode (zYb kX2_firstFault) 24 = .ok (.istore 5, 2) := by decide +kernel
theorem eX2_firstFault_26 : decode (zYb kX2_firstFault) 26 = .ok (.iload 5, 2) := by decide +kernel
theorem eX2_firstFault_28 : decode (zYb kX2_firstFault) 28 = .ok (.invokestatic 23, 3) := by decide +kernel
theorem eX2_firstFault_31 : decode (zYb kX2_firstFault) 31 = .ok (.ifCond .eq 15, 3) := by decide +kernel
theorem eX2_firstFault_34 : decode (zYb kX2_firstFault) 34 = .ok (.iload_n 3, 1) := by decide +kernel
theorem eX2_firstFault_35 : decode (zYb kX2_firstFault) 35 = .ok (.bipush 12, 2) := by decide +kernel
theorem eX2_firstFault_37 : decode (zYb kX2_firstFault) 37 = .ok (.if_icmp .ge 9, 3) := by decide +kernel
theorem eX2_firstFault_40 : decode (zYb kX2_firstFault) 40 = .ok (.iinc 3 1, 3) := by decide +kernel
theorem eX2_firstFault_43 : decode (zYb kX2_firstFault) 43 = .ok (.goto 56, 3) := by decide +kernel
theorem eX2_firstFault_46 : decode (zYb kX2_firstFault) 46 = .ok (.iload 5, 2) := by decide +kernel
theorem eX2_firstFault_48 : decode (zYb kX2_firstFault) 48 = .ok (.bipush 124, 2) := by decide +kernel
theorem eX2_firstFault_50 : decode (zYb kX2_firstFault) 50 = .ok (.if_icmp .ne 20, 3) := by decide +kernel
theorem eX2_firstFault_53 : decode (zYb kX2_firstFault) 53 = .ok (.iload_n 3, 1) := by decide +kernel
theorem eX2_firstFault_54 : decode (zYb kX2_firstFault) 54 = .ok (.ifCond .le 16, 3) := by decide +kernel
theorem eX2_firstFault_57 : decode (zYb kX2_firstFault) 57 = .ok (.iload_n 2, 1) := by decide +kernel
theorem eX2_firstFault_58 : decode (zYb kX2_firstFault) 58 = .ok (.iconst 5, 1) := by decide +kernel
theorem eX2_firstFault_59 : decode (zYb kX2_firstFault) 59 = .ok (.if_icmp .ge 11, 3) := by decide +kernel
theorem eX2_firstFault_62 : decode (zYb kX2_firstFault) 62 = .ok (.iinc 2 1, 3) := by decide +kernel
theorem eX2_firstFault_65 : decode (zYb kX2_firstFault) 65 = .ok (.iconst 0, 1) := by decide +kernel
theorem eX2_firstFault_66 : decode (zYb kX2_firstFault) 66 = .ok (.istore_n 3, 1) := by decide +kernel
theorem eX2_firstFault_67 : decode (zYb kX2_firstFault) 67 = .ok (.goto 32, 3) := by decide +kernel
theorem eX2_firstFault_70 : decode (zYb kX2_firstFault) 70 = .ok (.iload 5, 2) := by decide +kernel
theorem eX2_firstFault_72 : decode (zYb kX2_firstFault) 72 = .ok (.bipush 59, 2) := by decide +kernel
theorem eX2_firstFault_74 : decode (zYb kX2_firstFault) 74 = .ok (.if_icmp .ne 22, 3) := by decide +kernel
theorem eX2_firstFault_77 : decode (zYb kX2_firstFault) 77 = .ok (.iload_n 3, 1) := by decide +kernel
theorem eX2_firstFault_78 : decode (zYb kX2_firstFault) 78 = .ok (.ifCond .le 18, 3) := by decide +kernel
theorem eX2_firstFault_81 : decode (zYb kX2_firstFault) 81 = .ok (.iload_n 1, 1) := by decide +kernel
theorem eX2_firstFault_82 : decode (zYb kX2_firstFault) 82 = .ok (.iconst 5, 1) := by decide +kernel
theorem eX2_firstFault_83 : decode (zYb kX2_firstFault) 83 = .ok (.if_icmp .ge 13, 3) := by decide +kernel
theorem eX2_firstFault_86 : decode (zYb kX2_firstFault) 86 = .ok (.iinc 1 1, 3) := by decide +kernel
theorem eX2_firstFault_89 : decode (zYb kX2_firstFault) 89 = .ok (.iconst 1, 1) := by decide +kernel
theorem eX2_firstFault_90 : decode (zYb kX2_firstFault) 90 = .ok (.istore_n 2, 1) := by decide +kernel
theorem eX2_firstFault_91 : decode (zYb kX2_firstFault) 91 = .ok (.iconst 0, 1) := by decide +kernel
theorem eX2_firstFault_92 : decode (zYb kX2_firstFault) 92 = .ok (.istore_n 3, 1) := by decide +kernel
theorem eX2_firstFault_93 : decode (zYb kX2_firstFault) 93 = .ok (.goto 6, 3) := by decide +kernel
theorem eX2_firstFault_96 : decode (zYb kX2_firstFault) 96 = .ok (.iload 4, 2) := by decide +kernel
theorem eX2_firstFault_98 : decode (zYb kX2_firstFault) 98 = .ok (.ireturn, 1) := by decide +kernel
theorem eX2_firstFault_99 : decode (zYb kX2_firstFault) 99 = .ok (.iinc 4 1, 3) := by decide +kernel
theorem eX2_firstFault_102 : decode (zYb kX2_firstFault) 102 = .ok (.goto (-93), 3) := by decide +kernel
theorem eX2_firstFault_105 : decode (zYb kX2_firstFault) 105 = .ok (.iload_n 3, 1) := by decide +kernel
theorem eX2_firstFault_106 : decode (zYb kX2_firstFault) 106 = .ok (.ifCond .ne 10, 3) := by decide +kernel
theorem eX2_firstFault_109 : decode (zYb kX2_firstFault) 109 = .ok (.aload_n 0, 1) := by decide +kernel
theorem eX2_firstFault_110 : decode (zYb kX2_firstFault) 110 = .ok (.getfield 15, 3) := by decide +kernel
theorem eX2_firstFault_113 : decode (zYb kX2_firstFault) 113 = .ok (.goto 5, 3) := by decide +kernel
theorem eX2_firstFault_116 : decode (zYb kX2_firstFault) 116 = .ok (.bipush (-6), 2) := by decide +kernel
theorem eX2_firstFault_118 : decode (zYb kX2_firstFault) 118 = .ok (.ireturn, 1) := by decide +kernel
theorem eX2_isWord_0 : decode (zYb kX2_isWord) 0 = .ok (.aload_n 0, 1) := by decide +kernel
theorem eX2_isWord_1 : decode (zYb kX2_isWord) 1 = .ok (.getfield 15, 3) := by decide +kernel
theorem eX2_isWord_4 : decode (zYb kX2_isWord) 4 = .ok (.iconst 1, 1) := by decide +kernel
theorem eX2_isWord_5 : decode (zYb kX2_isWord) 5 = .ok (.if_icmp .lt 12, 3) := by decide +kernel
theorem eX2_isWord_8 : decode (zYb kX2_isWord) 8 = .ok (.aload_n 0, 1) := by decide +kernel
theorem eX2_isWord_9 : decode (zYb kX2_isWord) 9 = .ok (.getfield 15, 3) := by decide +kernel
theorem eX2_isWord_12 : decode (zYb kX2_isWord) 12 = .ok (.bipush 12, 2) := by decide +kernel
theorem eX2_isWord_14 : decode (zYb kX2_isWord) 14 = .ok (.if_icmp .le 5, 3) := by decide +kernel
theorem eX2_isWord_17 : decode (zYb kX2_isWord) 17 = .ok (.iconst 0, 1) := by decide +kernel
theorem eX2_isWord_18 : decode (zYb kX2_isWord) 18 = .ok (.ireturn, 1) := by decide +kernel
theorem eX2_isWord_19 : decode (zYb kX2_isWord) 19 = .ok (.iconst 0, 1) := by decide +kernel
theorem eX2_isWord_20 : decode (zYb kX2_isWord) 20 = .ok (.istore_n 1, 1) := by decide +kernel
theorem eX2_isWord_21 : decode (zYb kX2_isWord) 21 = .ok (.iload_n 1, 1) := by decide +kernel
theorem eX2_isWord_22 : decode (zYb kX2_isWord) 22 = .ok (.aload_n 0, 1) := by decide +kernel
theorem eX2_isWord_23 : decode (zYb kX2_isWord) 23 = .ok (.getfield 15, 3) := by decide +kernel
theorem eX2_isWord_26 : decode (zYb kX2_isWord) 26 = .ok (.if_icmp .ge 22, 3) := by decide +kernel
theorem eX2_isWord_29 : decode (zYb kX2_isWord) 29 = .ok (.aload_n 0, 1) := by decide +kernel
theorem eX2_isWord_30 : decode (zYb kX2_isWord) 30 = .ok (.iload_n 1, 1) := by decide +kernel
theorem eX2_isWord_31 : decode (zYb kX2_isWord) 31 = .ok (.invokevirtual 19, 3) := by decide +kernel
theorem eX2_isWord_34 : decode (zYb kX2_isWord) 34 = .ok (.invokestatic 23, 3) := by decide +kernel
theorem eX2_isWord_37 : decode (zYb kX2_isWord) 37 = .ok (.ifCond .ne 5, 3) := by decide +kernel
theorem eX2_isWord_40 : decode (zYb kX2_isWord) 40 = .ok (.iconst 0, 1) := by decide +kernel
theorem eX2_isWord_41 : decode (zYb kX2_isWord) 41 = .ok (.ireturn, 1) := by decide +kernel
theorem eX2_isWord_42 : decode (zYb kX2_isWord) 42 = .ok (.iinc 1 1, 3) := by decide +kernel
theorem eX2_isWord_45 : decode (zYb kX2_isWord) 45 = .ok (.goto (-24), 3) := by decide +kernel
theorem eX2_isWord_48 : decode (zYb kX2_isWord) 48 = .ok (.iconst 1, 1) := by decide +kernel
theorem eX2_isWord_49 : decode (zYb kX2_isWord) 49 = .ok (.ireturn, 1) := by decide +kernel
theorem eX2_placeIn_0 : decode (zYb kX2_placeIn) 0 = .ok (.iconst 0, 1) := by decide +kernel
theorem eX2_placeIn_1 : decode (zYb kX2_placeIn) 1 = .ok (.istore_n 3, 1) := by decide +kernel
theorem eX2_placeIn_2 : decode (zYb kX2_placeIn) 2 = .ok (.iload_n 3, 1) := by decide +kernel
theorem eX2_placeIn_3 : decode (zYb kX2_placeIn) 3 = .ok (.aload_n 0, 1) := by decide +kernel
theorem eX2_placeIn_4 : decode (zYb kX2_placeIn) 4 = .ok (.getfield 15, 3) := by decide +kernel
theorem eX2_placeIn_7 : decode (zYb kX2_placeIn) 7 = .ok (.iadd, 1) := by decide +kernel
theorem eX2_placeIn_8 : decode (zYb kX2_placeIn) 8 = .ok (.iload_n 2, 1) := by decide +kernel
theorem eX2_placeIn_9 : decode (zYb kX2_placeIn) 9 = .ok (.if_icmp .gt 20, 3) := by decide +kernel
theorem eX2_placeIn_12 : decode (zYb kX2_placeIn) 12 = .ok (.aload_n 0, 1) := by decide +kernel
theorem eX2_placeIn_13 : decode (zYb kX2_placeIn) 13 = .ok (.aload_n 1, 1) := by decide +kernel
theorem eX2_placeIn_14 : decode (zYb kX2_placeIn) 14 = .ok (.iload_n 3, 1) := by decide +kernel
theorem eX2_placeIn_15 : decode (zYb kX2_placeIn) 15 = .ok (.invokevirtual 27, 3) := by decide +kernel
theorem eX2_placeIn_18 : decode (zYb kX2_placeIn) 18 = .ok (.ifCond .eq 5, 3) := by decide +kernel
theorem eX2_placeIn_21 : decode (zYb kX2_placeIn) 21 = .ok (.iload_n 3, 1) := by decide +kernel
theorem eX2_placeIn_22 : decode (zYb kX2_placeIn) 22 = .ok (.ireturn, 1) := by decide +kernel
theorem eX2_placeIn_23 : decode (zYb kX2_placeIn) 23 = .ok (.iinc 3 1, 3) := by decide +kernel
theorem eX2_placeIn_26 : decode (zYb kX2_placeIn) 26 = .ok (.goto (-24), 3) := by decide +kernel
theorem eX2_placeIn_29 : decode (zYb kX2_placeIn) 29 = .ok (.bipush (-6), 2) := by decide +kernel
theorem eX2_placeIn_31 : decode (zYb kX2_placeIn) 31 = .ok (.ireturn, 1) := by decide +kernel
theorem eX2_standsAt_0 : decode (zYb kX2_standsAt) 0 = .ok (.iload_n 2, 1) := by decide +kernel
theorem eX2_standsAt_1 : decode (zYb kX2_standsAt) 1 = .ok (.ifCond .lt 14, 3) := by decide +kernel
theorem eX2_standsAt_4 : decode (zYb kX2_standsAt) 4 = .ok (.iload_n 2, 1) := by decide +kernel
theorem eX2_standsAt_5 : decode (zYb kX2_standsAt) 5 = .ok (.aload_n 0, 1) := by decide +kernel
theorem eX2_standsAt_6 : decode (zYb kX2_standsAt) 6 = .ok (.getfield 15, 3) := by decide +kernel
theorem eX2_standsAt_9 : decode (zYb kX2_standsAt) 9 = .ok (.iadd, 1) := by decide +kernel
theorem eX2_standsAt_10 : decode (zYb kX2_standsAt) 10 = .ok (.aload_n 1, 1) := by decide +kernel
theorem eX2_standsAt_11 : decode (zYb kX2_standsAt) 11 = .ok (.arraylength, 1) := by decide +kernel
theorem eX2_standsAt_12 : decode (zYb kX2_standsAt) 12 = .ok (.if_icmp .le 5, 3) := by decide +kernel
theorem eX2_standsAt_15 : decode (zYb kX2_standsAt) 15 = .ok (.iconst 0, 1) := by decide +kernel
theorem eX2_standsAt_16 : decode (zYb kX2_standsAt) 16 = .ok (.ireturn, 1) := by decide +kernel
theorem eX2_standsAt_17 : decode (zYb kX2_standsAt) 17 = .ok (.iconst 0, 1) := by decide +kernel
theorem eX2_standsAt_18 : decode (zYb kX2_standsAt) 18 = .ok (.istore_n 3, 1) := by decide +kernel
theorem eX2_standsAt_19 : decode (zYb kX2_standsAt) 19 = .ok (.iload_n 3, 1) := by decide +kernel
theorem eX2_standsAt_20 : decode (zYb kX2_standsAt) 20 = .ok (.aload_n 0, 1) := by decide +kernel
theorem eX2_standsAt_21 : decode (zYb kX2_standsAt) 21 = .ok (.getfield 15, 3) := by decide +kernel
theorem eX2_standsAt_24 : decode (zYb kX2_standsAt) 24 = .ok (.if_icmp .ge 27, 3) := by decide +kernel
theorem eX2_standsAt_27 : decode (zYb kX2_standsAt) 27 = .ok (.aload_n 1, 1) := by decide +kernel
theorem eX2_standsAt_28 : decode (zYb kX2_standsAt) 28 = .ok (.iload_n 2, 1) := by decide +kernel
theorem eX2_standsAt_29 : decode (zYb kX2_standsAt) 29 = .ok (.iload_n 3, 1) := by decide +kernel
theorem eX2_standsAt_30 : decode (zYb kX2_standsAt) 30 = .ok (.iadd, 1) := by decide +kernel
theorem eX2_standsAt_31 : decode (zYb kX2_standsAt) 31 = .ok (.iaload, 1) := by decide +kernel
theorem eX2_standsAt_32 : decode (zYb kX2_standsAt) 32 = .ok (.aload_n 0, 1) := by decide +kernel
theorem eX2_standsAt_33 : decode (zYb kX2_standsAt) 33 = .ok (.iload_n 3, 1) := by decide +kernel
theorem eX2_standsAt_34 : decode (zYb kX2_standsAt) 34 = .ok (.invokevirtual 19, 3) := by decide +kernel
theorem eX2_standsAt_37 : decode (zYb kX2_standsAt) 37 = .ok (.bipush 97, 2) := by decide +kernel
theorem eX2_standsAt_39 : decode (zYb kX2_standsAt) 39 = .ok (.isub, 1) := by decide +kernel
theorem eX2_standsAt_40 : decode (zYb kX2_standsAt) 40 = .ok (.if_icmp .eq 5, 3) := by decide +kernel
theorem eX2_standsAt_43 : decode (zYb kX2_standsAt) 43 = .ok (.iconst 0, 1) := by decide +kernel
theorem eX2_standsAt_44 : decode (zYb kX2_standsAt) 44 = .ok (.ireturn, 1) := by decide +kernel
theorem eX2_standsAt_45 : decode (zYb kX2_standsAt) 45 = .ok (.iinc 3 1, 3) := by decide +kernel
theorem eX2_standsAt_48 : decode (zYb kX2_standsAt) 48 = .ok (.goto (-29), 3) := by decide +kernel
theorem eX2_standsAt_51 : decode (zYb kX2_standsAt) 51 = .ok (.iconst 1, 1) := by decide +kernel
theorem eX2_standsAt_52 : decode (zYb kX2_standsAt) 52 = .ok (.ireturn, 1) := by decide +kernel
theorem eX3_init_0 : decode (zYb kX3_init) 0 = .ok (.aload_n 0, 1) := by decide +kernel
theorem eX3_init_1 : decode (zYb kX3_init) 1 = .ok (.invokespecial 3, 3) := by decide +kernel
theorem eX3_init_4 : decode (zYb kX3_init) 4 = .ok (.aload_n 0, 1) := by decide +kernel
theorem eX3_init_5 : decode (zYb kX3_init) 5 = .ok (.new 9, 3) := by decide +kernel
theorem eX3_init_8 : decode (zYb kX3_init) 8 = .ok (.dup, 1) := by decide +kernel
theorem eX3_init_9 : decode (zYb kX3_init) 9 = .ok (.invokespecial 11, 3) := by decide +kernel
theorem eX3_init_12 : decode (zYb kX3_init) 12 = .ok (.putfield 12, 3) := by decide +kernel
theorem eX3_init_15 : decode (zYb kX3_init) 15 = .ok (.aload_n 0, 1) := by decide +kernel
theorem eX3_init_16 : decode (zYb kX3_init) 16 = .ok (.new 9, 3) := by decide +kernel
theorem eX3_init_19 : decode (zYb kX3_init) 19 = .ok (.dup, 1) := by decide +kernel
theorem eX3_init_20 : decode (zYb kX3_init) 20 = .ok (.invokespecial 11, 3) := by decide +kernel
theorem eX3_init_23 : decode (zYb kX3_init) 23 = .ok (.putfield 18, 3) := by decide +kernel
theorem eX3_init_26 : decode (zYb kX3_init) 26 = .ok (.aload_n 0, 1) := by decide +kernel
theorem eX3_init_27 : decode (zYb kX3_init) 27 = .ok (.bipush 60, 2) := by decide +kernel
theorem eX3_init_29 : decode (zYb kX3_init) 29 = .ok (.newarray .int, 2) := by decide +kernel
theorem eX3_init_31 : decode (zYb kX3_init) 31 = .ok (.putfield 21, 3) := by decide +kernel
theorem eX3_init_34 : decode (zYb kX3_init) 34 = .ok (.return_, 1) := by decide +kernel
theorem eX3_begin_0 : decode (zYb kX3_begin) 0 = .ok (.aload_n 0, 1) := by decide +kernel
theorem eX3_begin_1 : decode (zYb kX3_begin) 1 = .ok (.aload_n 1, 1) := by decide +kernel
theorem eX3_begin_2 : decode (zYb kX3_begin) 2 = .ok (.invokevirtual 25, 3) := by decide +kernel
theorem eX3_begin_5 : decode (zYb kX3_begin) 5 = .ok (.putfield 31, 3) := by decide +kernel
theorem eX3_begin_8 : decode (zYb kX3_begin) 8 = .ok (.aload_n 0, 1) := by decide +kernel
theorem eX3_begin_9 : decode (zYb kX3_begin) 9 = .ok (.getfield 12, 3) := by decide +kernel
theorem eX3_begin_12 : decode (zYb kX3_begin) 12 = .ok (.aload_n 1, 1) := by decide +kernel
theorem eX3_begin_13 : decode (zYb kX3_begin) 13 = .ok (.iconst 0, 1) := by decide +kernel
theorem eX3_begin_14 : decode (zYb kX3_begin) 14 = .ok (.invokevirtual 34, 3) := by decide +kernel
theorem eX3_begin_17 : decode (zYb kX3_begin) 17 = .ok (.aload_n 0, 1) := by decide +kernel
theorem eX3_begin_18 : decode (zYb kX3_begin) 18 = .ok (.getfield 18, 3) := by decide +kernel
theorem eX3_begin_21 : decode (zYb kX3_begin) 21 = .ok (.aload_n 1, 1) := by decide +kernel
theorem eX3_begin_22 : decode (zYb kX3_begin) 22 = .ok (.iconst 1, 1) := by decide +kernel
theorem eX3_begin_23 : decode (zYb kX3_begin) 23 = .ok (.invokevirtual 34, 3) := by decide +kernel
theorem eX3_begin_26 : decode (zYb kX3_begin) 26 = .ok (.return_, 1) := by decide +kernel
theorem eX3_next_0 : decode (zYb kX3_next) 0 = .ok (.aload_n 0, 1) := by decide +kernel
theorem eX3_next_1 : decode (zYb kX3_next) 1 = .ok (.getfield 12, 3) := by decide +kernel
theorem eX3_next_4 : decode (zYb kX3_next) 4 = .ok (.invokevirtual 38, 3) := by decide +kernel
theorem eX3_next_7 : decode (zYb kX3_next) 7 = .ok (.ifCond .eq 15, 3) := by decide +kernel
theorem eX3_next_10 : decode (zYb kX3_next) 10 = .ok (.aload_n 0, 1) := by decide +kernel
theorem eX3_next_11 : decode (zYb kX3_next) 11 = .ok (.getfield 18, 3) := by decide +kernel
theorem eX3_next_14 : decode (zYb kX3_next) 14 = .ok (.invokevirtual 38, 3) := by decide +kernel
theorem eX3_next_17 : decode (zYb kX3_next) 17 = .ok (.ifCond .eq 5, 3) := by decide +kernel
theorem eX3_next_20 : decode (zYb kX3_next) 20 = .ok (.iconst 0, 1) := by decide +kernel
theorem eX3_next_21 : decode (zYb kX3_next) 21 = .ok (.ireturn, 1) := by decide +kernel
theorem eX3_next_22 : decode (zYb kX3_next) 22 = .ok (.aload_n 0, 1) := by decide +kernel
theorem eX3_next_23 : decode (zYb kX3_next) 23 = .ok (.invokevirtual 42, 3) := by decide +kernel
theorem eX3_next_26 : decode (zYb kX3_next) 26 = .ok (.istore_n 1, 1) := by decide +kernel
theorem eX3_next_27 : decode (zYb kX3_next) 27 = .ok (.iload_n 1, 1) := by decide +kernel
theorem eX3_next_28 : decode (zYb kX3_next) 28 = .ok (.ifCond .gt 10, 3) := by decide +kernel
theorem eX3_next_31 : decode (zYb kX3_next) 31 = .ok (.aload_n 0, 1) := by decide +kernel
theorem eX3_next_32 : decode (zYb kX3_next) 32 = .ok (.getfield 12, 3) := by decide +kernel
theorem eX3_next_35 : decode (zYb kX3_next) 35 = .ok (.goto 7, 3) := by decide +kernel
theorem eX3_next_38 : decode (zYb kX3_next) 38 = .ok (.aload_n 0, 1) := by decide +kernel
theorem eX3_next_39 : decode (zYb kX3_next) 39 = .ok (.getfield 18, 3) := by decide +kernel
theorem eX3_next_42 : decode (zYb kX3_next) 42 = .ok (.astore_n 2, 1) := by decide +kernel
theorem eX3_next_43 : decode (zYb kX3_next) 43 = .ok (.aload_n 2, 1) := by decide +kernel
theorem eX3_next_44 : decode (zYb kX3_next) 44 = .ok (.getfield 45, 3) := by decide +kernel
theorem eX3_next_47 : decode (zYb kX3_next) 47 = .ok (.iconst 0, 1) := by decide +kernel
theorem eX3_next_48 : decode (zYb kX3_next) 48 = .ok (.aload_n 0, 1) := by decide +kernel
theorem eX3_next_49 : decode (zYb kX3_next) 49 = .ok (.getfield 21, 3) := by decide +kernel
theorem eX3_next_52 : decode (zYb kX3_next) 52 = .ok (.iconst 0, 1) := by decide +kernel
theorem eX3_next_53 : decode (zYb kX3_next) 53 = .ok (.bipush 60, 2) := by decide +kernel
theorem eX3_next_55 : decode (zYb kX3_next) 55 = .ok (.invokestatic 46, 3) := by decide +kernel
theorem eX3_next_58 : decode (zYb kX3_next) 58 = .ok (.iload_n 1, 1) := by decide +kernel
theorem eX3_next_59 : decode (zYb kX3_next) 59 = .ok (.ifCond .gt 10, 3) := by decide +kernel
theorem eX3_next_62 : decode (zYb kX3_next) 62 = .ok (.aload_n 0, 1) := by decide +kernel
theorem eX3_next_63 : decode (zYb kX3_next) 63 = .ok (.getfield 12, 3) := by decide +kernel
theorem eX3_next_66 : decode (zYb kX3_next) 66 = .ok (.invokevirtual 52, 3) := by decide +kernel
theorem eX3_next_69 : decode (zYb kX3_next) 69 = .ok (.iload_n 1, 1) := by decide +kernel
theorem eX3_next_70 : decode (zYb kX3_next) 70 = .ok (.ifCond .lt 10, 3) := by decide +kernel
theorem eX3_next_73 : decode (zYb kX3_next) 73 = .ok (.aload_n 0, 1) := by decide +kernel
theorem eX3_next_74 : decode (zYb kX3_next) 74 = .ok (.getfield 18, 3) := by decide +kernel
theorem eX3_next_77 : decode (zYb kX3_next) 77 = .ok (.invokevirtual 52, 3) := by decide +kernel
theorem eX3_next_80 : decode (zYb kX3_next) 80 = .ok (.iconst 1, 1) := by decide +kernel
theorem eX3_next_81 : decode (zYb kX3_next) 81 = .ok (.ireturn, 1) := by decide +kernel
theorem eX3_orderOfEnds_0 : decode (zYb kX3_orderOfEnds) 0 = .ok (.aload_n 0, 1) := by decide +kernel
theorem eX3_orderOfEnds_1 : decode (zYb kX3_orderOfEnds) 1 = .ok (.getfield 12, 3) := by decide +kernel
theorem eX3_orderOfEnds_4 : decode (zYb kX3_orderOfEnds) 4 = .ok (.invokevirtual 38, 3) := by decide +kernel
theorem eX3_orderOfEnds_7 : decode (zYb kX3_orderOfEnds) 7 = .ok (.ifCond .eq 5, 3) := by decide +kernel
theorem eX3_orderOfEnds_10 : decode (zYb kX3_orderOfEnds) 10 = .ok (.iconst 1, 1) := by decide +kernel
theorem eX3_orderOfEnds_11 : decode (zYb kX3_orderOfEnds) 11 = .ok (.ireturn, 1) := by decide +kernel
theorem eX3_orderOfEnds_12 : decode (zYb kX3_orderOfEnds) 12 = .ok (.aload_n 0, 1) := by decide +kernel
theorem eX3_orderOfEnds_13 : decode (zYb kX3_orderOfEnds) 13 = .ok (.getfield 18, 3) := by decide +kernel
theorem eX3_orderOfEnds_16 : decode (zYb kX3_orderOfEnds) 16 = .ok (.invokevirtual 38, 3) := by decide +kernel
theorem eX3_orderOfEnds_19 : decode (zYb kX3_orderOfEnds) 19 = .ok (.ifCond .eq 5, 3) := by decide +kernel
theorem eX3_orderOfEnds_22 : decode (zYb kX3_orderOfEnds) 22 = .ok (.iconst (-1), 1) := by decide +kernel
theorem eX3_orderOfEnds_23 : decode (zYb kX3_orderOfEnds) 23 = .ok (.ireturn, 1) := by decide +kernel
theorem eX3_orderOfEnds_24 : decode (zYb kX3_orderOfEnds) 24 = .ok (.iconst 0, 1) := by decide +kernel
theorem eX3_orderOfEnds_25 : decode (zYb kX3_orderOfEnds) 25 = .ok (.istore_n 1, 1) := by decide +kernel
theorem eX3_orderOfEnds_26 : decode (zYb kX3_orderOfEnds) 26 = .ok (.iload_n 1, 1) := by decide +kernel
theorem eX3_orderOfEnds_27 : decode (zYb kX3_orderOfEnds) 27 = .ok (.aload_n 0, 1) := by decide +kernel
theorem eX3_orderOfEnds_28 : decode (zYb kX3_orderOfEnds) 28 = .ok (.getfield 31, 3) := by decide +kernel
theorem eX3_orderOfEnds_31 : decode (zYb kX3_orderOfEnds) 31 = .ok (.if_icmp .ge 56, 3) := by decide +kernel
theorem eX3_orderOfEnds_34 : decode (zYb kX3_orderOfEnds) 34 = .ok (.iload_n 1, 1) := by decide +kernel
theorem eX3_orderOfEnds_35 : decode (zYb kX3_orderOfEnds) 35 = .ok (.bipush 60, 2) := by decide +kernel
theorem eX3_orderOfEnds_37 : decode (zYb kX3_orderOfEnds) 37 = .ok (.if_icmp .ge 50, 3) := by decide +kernel
theorem eX3_orderOfEnds_40 : decode (zYb kX3_orderOfEnds) 40 = .ok (.aload_n 0, 1) := by decide +kernel
theorem eX3_orderOfEnds_41 : decode (zYb kX3_orderOfEnds) 41 = .ok (.getfield 12, 3) := by decide +kernel
theorem eX3_orderOfEnds_44 : decode (zYb kX3_orderOfEnds) 44 = .ok (.getfield 45, 3) := by decide +kernel
theorem eX3_orderOfEnds_47 : decode (zYb kX3_orderOfEnds) 47 = .ok (.iload_n 1, 1) := by decide +kernel
theorem eX3_orderOfEnds_48 : decode (zYb kX3_orderOfEnds) 48 = .ok (.iaload, 1) := by decide +kernel
theorem eX3_orderOfEnds_49 : decode (zYb kX3_orderOfEnds) 49 = .ok (.aload_n 0, 1) := by decide +kernel
theorem eX3_orderOfEnds_50 : decode (zYb kX3_orderOfEnds) 50 = .ok (.getfield 18, 3) := by decide +kernel
theorem eX3_orderOfEnds_53 : decode (zYb kX3_orderOfEnds) 53 = .ok (.getfield 45, 3) := by decide +kernel
theorem eX3_orderOfEnds_56 : decode (zYb kX3_orderOfEnds) 56 = .ok (.iload_n 1, 1) := by decide +kernel
theorem eX3_orderOfEnds_57 : decode (zYb kX3_orderOfEnds) 57 = .ok (.iaload, 1) := by decide +kernel
theorem eX3_orderOfEnds_58 : decode (zYb kX3_orderOfEnds) 58 = .ok (.if_icmp .eq 23, 3) := by decide +kernel
theorem eX3_orderOfEnds_61 : decode (zYb kX3_orderOfEnds) 61 = .ok (.aload_n 0, 1) := by decide +kernel
theorem eX3_orderOfEnds_62 : decode (zYb kX3_orderOfEnds) 62 = .ok (.getfield 12, 3) := by decide +kernel
theorem eX3_orderOfEnds_65 : decode (zYb kX3_orderOfEnds) 65 = .ok (.getfield 45, 3) := by decide +kernel
theorem eX3_orderOfEnds_68 : decode (zYb kX3_orderOfEnds) 68 = .ok (.iload_n 1, 1) := by decide +kernel
theorem eX3_orderOfEnds_69 : decode (zYb kX3_orderOfEnds) 69 = .ok (.iaload, 1) := by decide +kernel
theorem eX3_orderOfEnds_70 : decode (zYb kX3_orderOfEnds) 70 = .ok (.aload_n 0, 1) := by decide +kernel
theorem eX3_orderOfEnds_71 : decode (zYb kX3_orderOfEnds) 71 = .ok (.getfield 18, 3) := by decide +kernel
theorem eX3_orderOfEnds_74 : decode (zYb kX3_orderOfEnds) 74 = .ok (.getfield 45, 3) := by decide +kernel
theorem eX3_orderOfEnds_77 : decode (zYb kX3_orderOfEnds) 77 = .ok (.iload_n 1, 1) := by decide +kernel
theorem eX3_orderOfEnds_78 : decode (zYb kX3_orderOfEnds) 78 = .ok (.iaload, 1) := by decide +kernel
theorem eX3_orderOfEnds_79 : decode (zYb kX3_orderOfEnds) 79 = .ok (.isub, 1) := by decide +kernel
theorem eX3_orderOfEnds_80 : decode (zYb kX3_orderOfEnds) 80 = .ok (.ireturn, 1) := by decide +kernel
theorem eX3_orderOfEnds_81 : decode (zYb kX3_orderOfEnds) 81 = .ok (.iinc 1 1, 3) := by decide +kernel
theorem eX3_orderOfEnds_84 : decode (zYb kX3_orderOfEnds) 84 = .ok (.goto (-58), 3) := by decide +kernel
theorem eX3_orderOfEnds_87 : decode (zYb kX3_orderOfEnds) 87 = .ok (.iconst 0, 1) := by decide +kernel
theorem eX3_orderOfEnds_88 : decode (zYb kX3_orderOfEnds) 88 = .ok (.ireturn, 1) := by decide +kernel
theorem eX3_letterAt_0 : decode (zYb kX3_letterAt) 0 = .ok (.iload_n 1, 1) := by decide +kernel
theorem eX3_letterAt_1 : decode (zYb kX3_letterAt) 1 = .ok (.ifCond .lt 18, 3) := by decide +kernel
theorem eX3_letterAt_4 : decode (zYb kX3_letterAt) 4 = .ok (.iload_n 1, 1) := by decide +kernel
theorem eX3_letterAt_5 : decode (zYb kX3_letterAt) 5 = .ok (.bipush 60, 2) := by decide +kernel
theorem eX3_letterAt_7 : decode (zYb kX3_letterAt) 7 = .ok (.if_icmp .ge 12, 3) := by decide +kernel
theorem eX3_letterAt_10 : decode (zYb kX3_letterAt) 10 = .ok (.aload_n 0, 1) := by decide +kernel
theorem eX3_letterAt_11 : decode (zYb kX3_letterAt) 11 = .ok (.getfield 21, 3) := by decide +kernel
theorem eX3_letterAt_14 : decode (zYb kX3_letterAt) 14 = .ok (.iload_n 1, 1) := by decide +kernel
theorem eX3_letterAt_15 : decode (zYb kX3_letterAt) 15 = .ok (.iaload, 1) := by decide +kernel
theorem eX3_letterAt_16 : decode (zYb kX3_letterAt) 16 = .ok (.goto 4, 3) := by decide +kernel
theorem eX3_letterAt_19 : decode (zYb kX3_letterAt) 19 = .ok (.iconst 0, 1) := by decide +kernel
theorem eX3_letterAt_20 : decode (zYb kX3_letterAt) 20 = .ok (.ireturn, 1) := by decide +kernel
theorem eX4_init_0 : decode (zYb kX4_init) 0 = .ok (.aload_n 0, 1) := by decide +kernel
theorem eX4_init_1 : decode (zYb kX4_init) 1 = .ok (.invokespecial 3, 3) := by decide +kernel
theorem eX4_init_4 : decode (zYb kX4_init) 4 = .ok (.aload_n 0, 1) := by decide +kernel
theorem eX4_init_5 : decode (zYb kX4_init) 5 = .ok (.bipush 60, 2) := by decide +kernel
theorem eX4_init_7 : decode (zYb kX4_init) 7 = .ok (.newarray .int, 2) := by decide +kernel
theorem eX4_init_9 : decode (zYb kX4_init) 9 = .ok (.putfield 9, 3) := by decide +kernel
theorem eX4_init_12 : decode (zYb kX4_init) 12 = .ok (.aload_n 0, 1) := by decide +kernel
theorem eX4_init_13 : decode (zYb kX4_init) 13 = .ok (.bipush 6, 2) := by decide +kernel
theorem eX4_init_15 : decode (zYb kX4_init) 15 = .ok (.newarray .int, 2) := by decide +kernel
theorem eX4_init_17 : decode (zYb kX4_init) 17 = .ok (.putfield 15, 3) := by decide +kernel
theorem eX4_init_20 : decode (zYb kX4_init) 20 = .ok (.return_, 1) := by decide +kernel
theorem eX4_startAnew_0 : decode (zYb kX4_startAnew) 0 = .ok (.aload_n 0, 1) := by decide +kernel
theorem eX4_startAnew_1 : decode (zYb kX4_startAnew) 1 = .ok (.iconst 0, 1) := by decide +kernel
theorem eX4_startAnew_2 : decode (zYb kX4_startAnew) 2 = .ok (.putfield 18, 3) := by decide +kernel
theorem eX4_startAnew_5 : decode (zYb kX4_startAnew) 5 = .ok (.aload_n 0, 1) := by decide +kernel
theorem eX4_startAnew_6 : decode (zYb kX4_startAnew) 6 = .ok (.invokevirtual 22, 3) := by decide +kernel
theorem eX4_startAnew_9 : decode (zYb kX4_startAnew) 9 = .ok (.return_, 1) := by decide +kernel
theorem eX4_addPatch_0 : decode (zYb kX4_addPatch) 0 = .ok (.aload_n 0, 1) := by decide +kernel
theorem eX4_addPatch_1 : decode (zYb kX4_addPatch) 1 = .ok (.getfield 18, 3) := by decide +kernel
theorem eX4_addPatch_4 : decode (zYb kX4_addPatch) 4 = .ok (.bipush 6, 2) := by decide +kernel
theorem eX4_addPatch_6 : decode (zYb kX4_addPatch) 6 = .ok (.if_icmp .ge 26, 3) := by decide +kernel
theorem eX4_addPatch_9 : decode (zYb kX4_addPatch) 9 = .ok (.aload_n 0, 1) := by decide +kernel
theorem eX4_addPatch_10 : decode (zYb kX4_addPatch) 10 = .ok (.getfield 15, 3) := by decide +kernel
theorem eX4_addPatch_13 : decode (zYb kX4_addPatch) 13 = .ok (.aload_n 0, 1) := by decide +kernel
theorem eX4_addPatch_14 : decode (zYb kX4_addPatch) 14 = .ok (.getfield 18, 3) := by decide +kernel
theorem eX4_addPatch_17 : decode (zYb kX4_addPatch) 17 = .ok (.aload_n 0, 1) := by decide +kernel
theorem eX4_addPatch_18 : decode (zYb kX4_addPatch) 18 = .ok (.invokevirtual 25, 3) := by decide +kernel
theorem eX4_addPatch_21 : decode (zYb kX4_addPatch) 21 = .ok (.iastore, 1) := by decide +kernel
theorem eX4_addPatch_22 : decode (zYb kX4_addPatch) 22 = .ok (.aload_n 0, 1) := by decide +kernel
theorem eX4_addPatch_23 : decode (zYb kX4_addPatch) 23 = .ok (.dup, 1) := by decide +kernel
theorem eX4_addPatch_24 : decode (zYb kX4_addPatch) 24 = .ok (.getfield 18, 3) := by decide +kernel
theorem eX4_addPatch_27 : decode (zYb kX4_addPatch) 27 = .ok (.iconst 1, 1) := by decide +kernel
theorem eX4_addPatch_28 : decode (zYb kX4_addPatch) 28 = .ok (.iadd, 1) := by decide +kernel
theorem eX4_addPatch_29 : decode (zYb kX4_addPatch) 29 = .ok (.putfield 18, 3) := by decide +kernel
theorem eX4_addPatch_32 : decode (zYb kX4_addPatch) 32 = .ok (.return_, 1) := by decide +kernel
theorem eX4_addLetter_0 : decode (zYb kX4_addLetter) 0 = .ok (.aload_n 0, 1) := by decide +kernel
theorem eX4_addLetter_1 : decode (zYb kX4_addLetter) 1 = .ok (.invokevirtual 25, 3) := by decide +kernel
theorem eX4_addLetter_4 : decode (zYb kX4_addLetter) 4 = .ok (.istore_n 2, 1) := by decide +kernel
theorem eX4_addLetter_5 : decode (zYb kX4_addLetter) 5 = .ok (.aload_n 0, 1) := by decide +kernel
theorem eX4_addLetter_6 : decode (zYb kX4_addLetter) 6 = .ok (.getfield 18, 3) := by decide +kernel
theorem eX4_addLetter_9 : decode (zYb kX4_addLetter) 9 = .ok (.iconst 1, 1) := by decide +kernel
theorem eX4_addLetter_10 : decode (zYb kX4_addLetter) 10 = .ok (.isub, 1) := by decide +kernel
theorem eX4_addLetter_11 : decode (zYb kX4_addLetter) 11 = .ok (.istore_n 3, 1) := by decide +kernel
theorem eX4_addLetter_12 : decode (zYb kX4_addLetter) 12 = .ok (.iload_n 3, 1) := by decide +kernel
theorem eX4_addLetter_13 : decode (zYb kX4_addLetter) 13 = .ok (.ifCond .lt 31, 3) := by decide +kernel
theorem eX4_addLetter_16 : decode (zYb kX4_addLetter) 16 = .ok (.iload_n 3, 1) := by decide +kernel
theorem eX4_addLetter_17 : decode (zYb kX4_addLetter) 17 = .ok (.bipush 6, 2) := by decide +kernel
theorem eX4_addLetter_19 : decode (zYb kX4_addLetter) 19 = .ok (.if_icmp .ge 25, 3) := by decide +kernel
theorem eX4_addLetter_22 : decode (zYb kX4_addLetter) 22 = .ok (.iload_n 2, 1) := by decide +kernel
theorem eX4_addLetter_23 : decode (zYb kX4_addLetter) 23 = .ok (.bipush 60, 2) := by decide +kernel
theorem eX4_addLetter_25 : decode (zYb kX4_addLetter) 25 = .ok (.if_icmp .ge 19, 3) := by decide +kernel
theorem eX4_addLetter_28 : decode (zYb kX4_addLetter) 28 = .ok (.aload_n 0, 1) := by decide +kernel
theorem eX4_addLetter_29 : decode (zYb kX4_addLetter) 29 = .ok (.getfield 9, 3) := by decide +kernel
theorem eX4_addLetter_32 : decode (zYb kX4_addLetter) 32 = .ok (.iload_n 2, 1) := by decide +kernel
theorem eX4_addLetter_33 : decode (zYb kX4_addLetter) 33 = .ok (.iload_n 1, 1) := by decide +kernel
theorem eX4_addLetter_34 : decode (zYb kX4_addLetter) 34 = .ok (.iastore, 1) := by decide +kernel
theorem eX4_addLetter_35 : decode (zYb kX4_addLetter) 35 = .ok (.aload_n 0, 1) := by decide +kernel
theorem eX4_addLetter_36 : decode (zYb kX4_addLetter) 36 = .ok (.getfield 15, 3) := by decide +kernel
theorem eX4_addLetter_39 : decode (zYb kX4_addLetter) 39 = .ok (.iload_n 3, 1) := by decide +kernel
theorem eX4_addLetter_40 : decode (zYb kX4_addLetter) 40 = .ok (.iload_n 2, 1) := by decide +kernel
theorem eX4_addLetter_41 : decode (zYb kX4_addLetter) 41 = .ok (.iconst 1, 1) := by decide +kernel
theorem eX4_addLetter_42 : decode (zYb kX4_addLetter) 42 = .ok (.iadd, 1) := by decide +kernel
theorem eX4_addLetter_43 : decode (zYb kX4_addLetter) 43 = .ok (.iastore, 1) := by decide +kernel
theorem eX4_addLetter_44 : decode (zYb kX4_addLetter) 44 = .ok (.return_, 1) := by decide +kernel
theorem eX4_copyFrom_0 : decode (zYb kX4_copyFrom) 0 = .ok (.aload_n 1, 1) := by decide +kernel
theorem eX4_copyFrom_1 : decode (zYb kX4_copyFrom) 1 = .ok (.getfield 9, 3) := by decide +kernel
theorem eX4_copyFrom_4 : decode (zYb kX4_copyFrom) 4 = .ok (.iconst 0, 1) := by decide +kernel
theorem eX4_copyFrom_5 : decode (zYb kX4_copyFrom) 5 = .ok (.aload_n 0, 1) := by decide +kernel
theorem eX4_copyFrom_6 : decode (zYb kX4_copyFrom) 6 = .ok (.getfield 9, 3) := by decide +kernel
theorem eX4_copyFrom_9 : decode (zYb kX4_copyFrom) 9 = .ok (.iconst 0, 1) := by decide +kernel
theorem eX4_copyFrom_10 : decode (zYb kX4_copyFrom) 10 = .ok (.bipush 60, 2) := by decide +kernel
theorem eX4_copyFrom_12 : decode (zYb kX4_copyFrom) 12 = .ok (.invokestatic 29, 3) := by decide +kernel
theorem eX4_copyFrom_15 : decode (zYb kX4_copyFrom) 15 = .ok (.aload_n 1, 1) := by decide +kernel
theorem eX4_copyFrom_16 : decode (zYb kX4_copyFrom) 16 = .ok (.getfield 15, 3) := by decide +kernel
theorem eX4_copyFrom_19 : decode (zYb kX4_copyFrom) 19 = .ok (.iconst 0, 1) := by decide +kernel
theorem eX4_copyFrom_20 : decode (zYb kX4_copyFrom) 20 = .ok (.aload_n 0, 1) := by decide +kernel
theorem eX4_copyFrom_21 : decode (zYb kX4_copyFrom) 21 = .ok (.getfield 15, 3) := by decide +kernel
theorem eX4_copyFrom_24 : decode (zYb kX4_copyFrom) 24 = .ok (.iconst 0, 1) := by decide +kernel
theorem eX4_copyFrom_25 : decode (zYb kX4_copyFrom) 25 = .ok (.bipush 6, 2) := by decide +kernel
theorem eX4_copyFrom_27 : decode (zYb kX4_copyFrom) 27 = .ok (.invokestatic 29, 3) := by decide +kernel
theorem eX4_copyFrom_30 : decode (zYb kX4_copyFrom) 30 = .ok (.aload_n 0, 1) := by decide +kernel
theorem eX4_copyFrom_31 : decode (zYb kX4_copyFrom) 31 = .ok (.aload_n 1, 1) := by decide +kernel
theorem eX4_copyFrom_32 : decode (zYb kX4_copyFrom) 32 = .ok (.getfield 18, 3) := by decide +kernel
theorem eX4_copyFrom_35 : decode (zYb kX4_copyFrom) 35 = .ok (.putfield 18, 3) := by decide +kernel
theorem eX4_copyFrom_38 : decode (zYb kX4_copyFrom) 38 = .ok (.return_, 1) := by decide +kernel
theorem eX4_hasPatch_0 : decode (zYb kX4_hasPatch) 0 = .ok (.iload_n 1, 1) := by decide +kernel
theorem eX4_hasPatch_1 : decode (zYb kX4_hasPatch) 1 = .ok (.ifCond .lt 15, 3) := by decide +kernel
theorem eX4_hasPatch_4 : decode (zYb kX4_hasPatch) 4 = .ok (.iload_n 1, 1) := by decide +kernel
theorem eX4_hasPatch_5 : decode (zYb kX4_hasPatch) 5 = .ok (.aload_n 0, 1) := by decide +kernel
theorem eX4_hasPatch_6 : decode (zYb kX4_hasPatch) 6 = .ok (.getfield 18, 3) := by decide +kernel
theorem eX4_hasPatch_9 : decode (zYb kX4_hasPatch) 9 = .ok (.if_icmp .ge 7, 3) := by decide +kernel
theorem eX4_hasPatch_12 : decode (zYb kX4_hasPatch) 12 = .ok (.iconst 1, 1) := by decide +kernel
theorem eX4_hasPatch_13 : decode (zYb kX4_hasPatch) 13 = .ok (.goto 4, 3) := by decide +kernel
theorem eX4_hasPatch_16 : decode (zYb kX4_hasPatch) 16 = .ok (.iconst 0, 1) := by decide +kernel
theorem eX4_hasPatch_17 : decode (zYb kX4_hasPatch) 17 = .ok (.ireturn, 1) := by decide +kernel
theorem eX4_hasSeam_0 : decode (zYb kX4_hasSeam) 0 = .ok (.iload_n 1, 1) := by decide +kernel
theorem eX4_hasSeam_1 : decode (zYb kX4_hasSeam) 1 = .ok (.ifCond .lt 17, 3) := by decide +kernel
theorem eX4_hasSeam_4 : decode (zYb kX4_hasSeam) 4 = .ok (.iload_n 1, 1) := by decide +kernel
theorem eX4_hasSeam_5 : decode (zYb kX4_hasSeam) 5 = .ok (.aload_n 0, 1) := by decide +kernel
theorem eX4_hasSeam_6 : decode (zYb kX4_hasSeam) 6 = .ok (.getfield 18, 3) := by decide +kernel
theorem eX4_hasSeam_9 : decode (zYb kX4_hasSeam) 9 = .ok (.iconst 1, 1) := by decide +kernel
theorem eX4_hasSeam_10 : decode (zYb kX4_hasSeam) 10 = .ok (.isub, 1) := by decide +kernel
theorem eX4_hasSeam_11 : decode (zYb kX4_hasSeam) 11 = .ok (.if_icmp .ge 7, 3) := by decide +kernel
theorem eX4_hasSeam_14 : decode (zYb kX4_hasSeam) 14 = .ok (.iconst 1, 1) := by decide +kernel
theorem eX4_hasSeam_15 : decode (zYb kX4_hasSeam) 15 = .ok (.goto 4, 3) := by decide +kernel
theorem eX4_hasSeam_18 : decode (zYb kX4_hasSeam) 18 = .ok (.iconst 0, 1) := by decide +kernel
theorem eX4_hasSeam_19 : decode (zYb kX4_hasSeam) 19 = .ok (.ireturn, 1) := by decide +kernel
theorem eX4_canBeCut_0 : decode (zYb kX4_canBeCut) 0 = .ok (.iload_n 2, 1) := by decide +kernel
theorem eX4_canBeCut_1 : decode (zYb kX4_canBeCut) 1 = .ok (.iconst 1, 1) := by decide +kernel
theorem eX4_canBeCut_2 : decode (zYb kX4_canBeCut) 2 = .ok (.if_icmp .lt 16, 3) := by decide +kernel
theorem eX4_canBeCut_5 : decode (zYb kX4_canBeCut) 5 = .ok (.iload_n 2, 1) := by decide +kernel
theorem eX4_canBeCut_6 : decode (zYb kX4_canBeCut) 6 = .ok (.aload_n 0, 1) := by decide +kernel
theorem eX4_canBeCut_7 : decode (zYb kX4_canBeCut) 7 = .ok (.iload_n 1, 1) := by decide +kernel
theorem eX4_canBeCut_8 : decode (zYb kX4_canBeCut) 8 = .ok (.invokevirtual 35, 3) := by decide +kernel
theorem eX4_canBeCut_11 : decode (zYb kX4_canBeCut) 11 = .ok (.if_icmp .ge 7, 3) := by decide +kernel
theorem eX4_canBeCut_14 : decode (zYb kX4_canBeCut) 14 = .ok (.iconst 1, 1) := by decide +kernel
theorem eX4_canBeCut_15 : decode (zYb kX4_canBeCut) 15 = .ok (.goto 4, 3) := by decide +kernel
theorem eX4_canBeCut_18 : decode (zYb kX4_canBeCut) 18 = .ok (.iconst 0, 1) := by decide +kernel
theorem eX4_canBeCut_19 : decode (zYb kX4_canBeCut) 19 = .ok (.ireturn, 1) := by decide +kernel
theorem eX4_endOf_0 : decode (zYb kX4_endOf) 0 = .ok (.iload_n 1, 1) := by decide +kernel
theorem eX4_endOf_1 : decode (zYb kX4_endOf) 1 = .ok (.ifCond .lt 18, 3) := by decide +kernel
theorem eX4_endOf_4 : decode (zYb kX4_endOf) 4 = .ok (.iload_n 1, 1) := by decide +kernel
theorem eX4_endOf_5 : decode (zYb kX4_endOf) 5 = .ok (.bipush 6, 2) := by decide +kernel
theorem eX4_endOf_7 : decode (zYb kX4_endOf) 7 = .ok (.if_icmp .ge 12, 3) := by decide +kernel
theorem eX4_endOf_10 : decode (zYb kX4_endOf) 10 = .ok (.aload_n 0, 1) := by decide +kernel
theorem eX4_endOf_11 : decode (zYb kX4_endOf) 11 = .ok (.getfield 15, 3) := by decide +kernel
theorem eX4_endOf_14 : decode (zYb kX4_endOf) 14 = .ok (.iload_n 1, 1) := by decide +kernel
theorem eX4_endOf_15 : decode (zYb kX4_endOf) 15 = .ok (.iaload, 1) := by decide +kernel
theorem eX4_endOf_16 : decode (zYb kX4_endOf) 16 = .ok (.goto 4, 3) := by decide +kernel
theorem eX4_endOf_19 : decode (zYb kX4_endOf) 19 = .ok (.iconst 0, 1) := by decide +kernel
theorem eX4_endOf_20 : decode (zYb kX4_endOf) 20 = .ok (.ireturn, 1) := by decide +kernel
theorem eX4_startOf_0 : decode (zYb kX4_startOf) 0 = .ok (.iload_n 1, 1) := by decide +kernel
theorem eX4_startOf_1 : decode (zYb kX4_startOf) 1 = .ok (.iconst 1, 1) := by decide +kernel
theorem eX4_startOf_2 : decode (zYb kX4_startOf) 2 = .ok (.if_icmp .lt 20, 3) := by decide +kernel
theorem eX4_startOf_5 : decode (zYb kX4_startOf) 5 = .ok (.iload_n 1, 1) := by decide +kernel
theorem eX4_startOf_6 : decode (zYb kX4_startOf) 6 = .ok (.bipush 6, 2) := by decide +kernel
theorem eX4_startOf_8 : decode (zYb kX4_startOf) 8 = .ok (.if_icmp .gt 14, 3) := by decide +kernel
theorem eX4_startOf_11 : decode (zYb kX4_startOf) 11 = .ok (.aload_n 0, 1) := by decide +kernel
theorem eX4_startOf_12 : decode (zYb kX4_startOf) 12 = .ok (.getfield 15, 3) := by decide +kernel
theorem eX4_startOf_15 : decode (zYb kX4_startOf) 15 = .ok (.iload_n 1, 1) := by decide +kernel
theorem eX4_startOf_16 : decode (zYb kX4_startOf) 16 = .ok (.iconst 1, 1) := by decide +kernel
theorem eX4_startOf_17 : decode (zYb kX4_startOf) 17 = .ok (.isub, 1) := by decide +kernel
theorem eX4_startOf_18 : decode (zYb kX4_startOf) 18 = .ok (.iaload, 1) := by decide +kernel
theorem eX4_startOf_19 : decode (zYb kX4_startOf) 19 = .ok (.goto 4, 3) := by decide +kernel
theorem eX4_startOf_22 : decode (zYb kX4_startOf) 22 = .ok (.iconst 0, 1) := by decide +kernel
theorem eX4_startOf_23 : decode (zYb kX4_startOf) 23 = .ok (.ireturn, 1) := by decide +kernel
theorem eX4_sizeOf_0 : decode (zYb kX4_sizeOf) 0 = .ok (.aload_n 0, 1) := by decide +kernel
theorem eX4_sizeOf_1 : decode (zYb kX4_sizeOf) 1 = .ok (.iload_n 1, 1) := by decide +kernel
theorem eX4_sizeOf_2 : decode (zYb kX4_sizeOf) 2 = .ok (.invokevirtual 39, 3) := by decide +kernel
theorem eX4_sizeOf_5 : decode (zYb kX4_sizeOf) 5 = .ok (.aload_n 0, 1) := by decide +kernel
theorem eX4_sizeOf_6 : decode (zYb kX4_sizeOf) 6 = .ok (.iload_n 1, 1) := by decide +kernel
theorem eX4_sizeOf_7 : decode (zYb kX4_sizeOf) 7 = .ok (.invokevirtual 42, 3) := by decide +kernel
theorem eX4_sizeOf_10 : decode (zYb kX4_sizeOf) 10 = .ok (.isub, 1) := by decide +kernel
theorem eX4_sizeOf_11 : decode (zYb kX4_sizeOf) 11 = .ok (.ireturn, 1) := by decide +kernel
theorem eX4_length_0 : decode (zYb kX4_length) 0 = .ok (.aload_n 0, 1) := by decide +kernel
theorem eX4_length_1 : decode (zYb kX4_length) 1 = .ok (.aload_n 0, 1) := by decide +kernel
theorem eX4_length_2 : decode (zYb kX4_length) 2 = .ok (.getfield 18, 3) := by decide +kernel
theorem eX4_length_5 : decode (zYb kX4_length) 5 = .ok (.invokevirtual 42, 3) := by decide +kernel
theorem eX4_length_8 : decode (zYb kX4_length) 8 = .ok (.ireturn, 1) := by decide +kernel
theorem eX4_letterAt_0 : decode (zYb kX4_letterAt) 0 = .ok (.iload_n 1, 1) := by decide +kernel
theorem eX4_letterAt_1 : decode (zYb kX4_letterAt) 1 = .ok (.ifCond .lt 18, 3) := by decide +kernel
theorem eX4_letterAt_4 : decode (zYb kX4_letterAt) 4 = .ok (.iload_n 1, 1) := by decide +kernel
theorem eX4_letterAt_5 : decode (zYb kX4_letterAt) 5 = .ok (.bipush 60, 2) := by decide +kernel
theorem eX4_letterAt_7 : decode (zYb kX4_letterAt) 7 = .ok (.if_icmp .ge 12, 3) := by decide +kernel
theorem eX4_letterAt_10 : decode (zYb kX4_letterAt) 10 = .ok (.aload_n 0, 1) := by decide +kernel
theorem eX4_letterAt_11 : decode (zYb kX4_letterAt) 11 = .ok (.getfield 9, 3) := by decide +kernel
theorem eX4_letterAt_14 : decode (zYb kX4_letterAt) 14 = .ok (.iload_n 1, 1) := by decide +kernel
theorem eX4_letterAt_15 : decode (zYb kX4_letterAt) 15 = .ok (.iaload, 1) := by decide +kernel
theorem eX4_letterAt_16 : decode (zYb kX4_letterAt) 16 = .ok (.goto 4, 3) := by decide +kernel
theorem eX4_letterAt_19 : decode (zYb kX4_letterAt) 19 = .ok (.iconst 0, 1) := by decide +kernel
theorem eX4_letterAt_20 : decode (zYb kX4_letterAt) 20 = .ok (.ireturn, 1) := by decide +kernel
theorem eX4_split_0 : decode (zYb kX4_split) 0 = .ok (.aload_n 0, 1) := by decide +kernel
theorem eX4_split_1 : decode (zYb kX4_split) 1 = .ok (.iload_n 1, 1) := by decide +kernel
theorem eX4_split_2 : decode (zYb kX4_split) 2 = .ok (.invokevirtual 45, 3) := by decide +kernel
theorem eX4_split_5 : decode (zYb kX4_split) 5 = .ok (.ifCond .eq 12, 3) := by decide +kernel
theorem eX4_split_8 : decode (zYb kX4_split) 8 = .ok (.aload_n 0, 1) := by decide +kernel
theorem eX4_split_9 : decode (zYb kX4_split) 9 = .ok (.getfield 18, 3) := by decide +kernel
theorem eX4_split_12 : decode (zYb kX4_split) 12 = .ok (.bipush 6, 2) := by decide +kernel
theorem eX4_split_14 : decode (zYb kX4_split) 14 = .ok (.if_icmp .lt 4, 3) := by decide +kernel
theorem eX4_split_17 : decode (zYb kX4_split) 17 = .ok (.return_, 1) := by decide +kernel
theorem eX4_split_18 : decode (zYb kX4_split) 18 = .ok (.aload_n 0, 1) := by decide +kernel
theorem eX4_split_19 : decode (zYb kX4_split) 19 = .ok (.iload_n 1, 1) := by decide +kernel
theorem eX4_split_20 : decode (zYb kX4_split) 20 = .ok (.invokevirtual 42, 3) := by decide +kernel
theorem eX4_split_23 : decode (zYb kX4_split) 23 = .ok (.iload_n 2, 1) := by decide +kernel
theorem eX4_split_24 : decode (zYb kX4_split) 24 = .ok (.iadd, 1) := by decide +kernel
theorem eX4_split_25 : decode (zYb kX4_split) 25 = .ok (.istore_n 3, 1) := by decide +kernel
theorem eX4_split_26 : decode (zYb kX4_split) 26 = .ok (.aload_n 0, 1) := by decide +kernel
theorem eX4_split_27 : decode (zYb kX4_split) 27 = .ok (.getfield 18, 3) := by decide +kernel
theorem eX4_split_30 : decode (zYb kX4_split) 30 = .ok (.istore 4, 2) := by decide +kernel
theorem eX4_split_32 : decode (zYb kX4_split) 32 = .ok (.iload 4, 2) := by decide +kernel
theorem eX4_split_34 : decode (zYb kX4_split) 34 = .ok (.iload_n 1, 1) := by decide +kernel
theorem eX4_split_35 : decode (zYb kX4_split) 35 = .ok (.if_icmp .le 25, 3) := by decide +kernel
theorem eX4_split_38 : decode (zYb kX4_split) 38 = .ok (.aload_n 0, 1) := by decide +kernel
theorem eX4_split_39 : decode (zYb kX4_split) 39 = .ok (.getfield 15, 3) := by decide +kernel
theorem eX4_split_42 : decode (zYb kX4_split) 42 = .ok (.iload 4, 2) := by decide +kernel
theorem eX4_split_44 : decode (zYb kX4_split) 44 = .ok (.aload_n 0, 1) := by decide +kernel
theorem eX4_split_45 : decode (zYb kX4_split) 45 = .ok (.getfield 15, 3) := by decide +kernel
theorem eX4_split_48 : decode (zYb kX4_split) 48 = .ok (.iload 4, 2) := by decide +kernel
theorem eX4_split_50 : decode (zYb kX4_split) 50 = .ok (.iconst 1, 1) := by decide +kernel
theorem eX4_split_51 : decode (zYb kX4_split) 51 = .ok (.isub, 1) := by decide +kernel
theorem eX4_split_52 : decode (zYb kX4_split) 52 = .ok (.iaload, 1) := by decide +kernel
theorem eX4_split_53 : decode (zYb kX4_split) 53 = .ok (.iastore, 1) := by decide +kernel
theorem eX4_split_54 : decode (zYb kX4_split) 54 = .ok (.iinc 4 (-1), 3) := by decide +kernel
theorem eX4_split_57 : decode (zYb kX4_split) 57 = .ok (.goto (-25), 3) := by decide +kernel
theorem eX4_split_60 : decode (zYb kX4_split) 60 = .ok (.aload_n 0, 1) := by decide +kernel
theorem eX4_split_61 : decode (zYb kX4_split) 61 = .ok (.getfield 15, 3) := by decide +kernel
theorem eX4_split_64 : decode (zYb kX4_split) 64 = .ok (.iload_n 1, 1) := by decide +kernel
theorem eX4_split_65 : decode (zYb kX4_split) 65 = .ok (.iload_n 3, 1) := by decide +kernel
theorem eX4_split_66 : decode (zYb kX4_split) 66 = .ok (.iastore, 1) := by decide +kernel
theorem eX4_split_67 : decode (zYb kX4_split) 67 = .ok (.aload_n 0, 1) := by decide +kernel
theorem eX4_split_68 : decode (zYb kX4_split) 68 = .ok (.dup, 1) := by decide +kernel
theorem eX4_split_69 : decode (zYb kX4_split) 69 = .ok (.getfield 18, 3) := by decide +kernel
theorem eX4_split_72 : decode (zYb kX4_split) 72 = .ok (.iconst 1, 1) := by decide +kernel
theorem eX4_split_73 : decode (zYb kX4_split) 73 = .ok (.iadd, 1) := by decide +kernel
theorem eX4_split_74 : decode (zYb kX4_split) 74 = .ok (.putfield 18, 3) := by decide +kernel
theorem eX4_split_77 : decode (zYb kX4_split) 77 = .ok (.return_, 1) := by decide +kernel
theorem eX4_merge_0 : decode (zYb kX4_merge) 0 = .ok (.aload_n 0, 1) := by decide +kernel
theorem eX4_merge_1 : decode (zYb kX4_merge) 1 = .ok (.iload_n 1, 1) := by decide +kernel
theorem eX4_merge_2 : decode (zYb kX4_merge) 2 = .ok (.invokevirtual 49, 3) := by decide +kernel
theorem eX4_merge_5 : decode (zYb kX4_merge) 5 = .ok (.ifCond .eq 12, 3) := by decide +kernel
theorem eX4_merge_8 : decode (zYb kX4_merge) 8 = .ok (.aload_n 0, 1) := by decide +kernel
theorem eX4_merge_9 : decode (zYb kX4_merge) 9 = .ok (.getfield 18, 3) := by decide +kernel
theorem eX4_merge_12 : decode (zYb kX4_merge) 12 = .ok (.bipush 6, 2) := by decide +kernel
theorem eX4_merge_14 : decode (zYb kX4_merge) 14 = .ok (.if_icmp .le 4, 3) := by decide +kernel
theorem eX4_merge_17 : decode (zYb kX4_merge) 17 = .ok (.return_, 1) := by decide +kernel
theorem eX4_merge_18 : decode (zYb kX4_merge) 18 = .ok (.iload_n 1, 1) := by decide +kernel
theorem eX4_merge_19 : decode (zYb kX4_merge) 19 = .ok (.istore_n 2, 1) := by decide +kernel
theorem eX4_merge_20 : decode (zYb kX4_merge) 20 = .ok (.iload_n 2, 1) := by decide +kernel
theorem eX4_merge_21 : decode (zYb kX4_merge) 21 = .ok (.iconst 1, 1) := by decide +kernel
theorem eX4_merge_22 : decode (zYb kX4_merge) 22 = .ok (.iadd, 1) := by decide +kernel
theorem eX4_merge_23 : decode (zYb kX4_merge) 23 = .ok (.aload_n 0, 1) := by decide +kernel
theorem eX4_merge_24 : decode (zYb kX4_merge) 24 = .ok (.getfield 18, 3) := by decide +kernel
theorem eX4_merge_27 : decode (zYb kX4_merge) 27 = .ok (.if_icmp .ge 23, 3) := by decide +kernel
theorem eX4_merge_30 : decode (zYb kX4_merge) 30 = .ok (.aload_n 0, 1) := by decide +kernel
theorem eX4_merge_31 : decode (zYb kX4_merge) 31 = .ok (.getfield 15, 3) := by decide +kernel
theorem eX4_merge_34 : decode (zYb kX4_merge) 34 = .ok (.iload_n 2, 1) := by decide +kernel
theorem eX4_merge_35 : decode (zYb kX4_merge) 35 = .ok (.aload_n 0, 1) := by decide +kernel
theorem eX4_merge_36 : decode (zYb kX4_merge) 36 = .ok (.getfield 15, 3) := by decide +kernel
theorem eX4_merge_39 : decode (zYb kX4_merge) 39 = .ok (.iload_n 2, 1) := by decide +kernel
theorem eX4_merge_40 : decode (zYb kX4_merge) 40 = .ok (.iconst 1, 1) := by decide +kernel
theorem eX4_merge_41 : decode (zYb kX4_merge) 41 = .ok (.iadd, 1) := by decide +kernel
theorem eX4_merge_42 : decode (zYb kX4_merge) 42 = .ok (.iaload, 1) := by decide +kernel
theorem eX4_merge_43 : decode (zYb kX4_merge) 43 = .ok (.iastore, 1) := by decide +kernel
theorem eX4_merge_44 : decode (zYb kX4_merge) 44 = .ok (.iinc 2 1, 3) := by decide +kernel
theorem eX4_merge_47 : decode (zYb kX4_merge) 47 = .ok (.goto (-27), 3) := by decide +kernel
theorem eX4_merge_50 : decode (zYb kX4_merge) 50 = .ok (.aload_n 0, 1) := by decide +kernel
theorem eX4_merge_51 : decode (zYb kX4_merge) 51 = .ok (.dup, 1) := by decide +kernel
theorem eX4_merge_52 : decode (zYb kX4_merge) 52 = .ok (.getfield 18, 3) := by decide +kernel
theorem eX4_merge_55 : decode (zYb kX4_merge) 55 = .ok (.iconst 1, 1) := by decide +kernel
theorem eX4_merge_56 : decode (zYb kX4_merge) 56 = .ok (.isub, 1) := by decide +kernel
theorem eX4_merge_57 : decode (zYb kX4_merge) 57 = .ok (.putfield 18, 3) := by decide +kernel
theorem eX4_merge_60 : decode (zYb kX4_merge) 60 = .ok (.return_, 1) := by decide +kernel
theorem eX4_unlikeTurned_0 : decode (zYb kX4_unlikeTurned) 0 = .ok (.aload_n 0, 1) := by decide +kernel
theorem eX4_unlikeTurned_1 : decode (zYb kX4_unlikeTurned) 1 = .ok (.iload_n 1, 1) := by decide +kernel
theorem eX4_unlikeTurned_2 : decode (zYb kX4_unlikeTurned) 2 = .ok (.invokevirtual 42, 3) := by decide +kernel
theorem eX4_unlikeTurned_5 : decode (zYb kX4_unlikeTurned) 5 = .ok (.istore_n 2, 1) := by decide +kernel
theorem eX4_unlikeTurned_6 : decode (zYb kX4_unlikeTurned) 6 = .ok (.aload_n 0, 1) := by decide +kernel
theorem eX4_unlikeTurned_7 : decode (zYb kX4_unlikeTurned) 7 = .ok (.iload_n 1, 1) := by decide +kernel
theorem eX4_unlikeTurned_8 : decode (zYb kX4_unlikeTurned) 8 = .ok (.invokevirtual 39, 3) := by decide +kernel
theorem eX4_unlikeTurned_11 : decode (zYb kX4_unlikeTurned) 11 = .ok (.istore_n 3, 1) := by decide +kernel
theorem eX4_unlikeTurned_12 : decode (zYb kX4_unlikeTurned) 12 = .ok (.iconst 0, 1) := by decide +kernel
theorem eX4_unlikeTurned_13 : decode (zYb kX4_unlikeTurned) 13 = .ok (.istore 4, 2) := by decide +kernel
theorem eX4_unlikeTurned_15 : decode (zYb kX4_unlikeTurned) 15 = .ok (.iconst 0, 1) := by decide +kernel
theorem eX4_unlikeTurned_16 : decode (zYb kX4_unlikeTurned) 16 = .ok (.istore 5, 2) := by decide +kernel
theorem eX4_unlikeTurned_18 : decode (zYb kX4_unlikeTurned) 18 = .ok (.iload 5, 2) := by decide +kernel
theorem eX4_unlikeTurned_20 : decode (zYb kX4_unlikeTurned) 20 = .ok (.iload_n 3, 1) := by decide +kernel
theorem eX4_unlikeTurned_21 : decode (zYb kX4_unlikeTurned) 21 = .ok (.iload_n 2, 1) := by decide +kernel
theorem eX4_unlikeTurned_22 : decode (zYb kX4_unlikeTurned) 22 = .ok (.isub, 1) := by decide +kernel
theorem eX4_unlikeTurned_23 : decode (zYb kX4_unlikeTurned) 23 = .ok (.if_icmp .ge 33, 3) := by decide +kernel
theorem eX4_unlikeTurned_26 : decode (zYb kX4_unlikeTurned) 26 = .ok (.aload_n 0, 1) := by decide +kernel
theorem eX4_unlikeTurned_27 : decode (zYb kX4_unlikeTurned) 27 = .ok (.iload_n 2, 1) := by decide +kernel
theorem eX4_unlikeTurned_28 : decode (zYb kX4_unlikeTurned) 28 = .ok (.iload 5, 2) := by decide +kernel
theorem eX4_unlikeTurned_30 : decode (zYb kX4_unlikeTurned) 30 = .ok (.iadd, 1) := by decide +kernel
theorem eX4_unlikeTurned_31 : decode (zYb kX4_unlikeTurned) 31 = .ok (.invokevirtual 52, 3) := by decide +kernel
theorem eX4_unlikeTurned_34 : decode (zYb kX4_unlikeTurned) 34 = .ok (.aload_n 0, 1) := by decide +kernel
theorem eX4_unlikeTurned_35 : decode (zYb kX4_unlikeTurned) 35 = .ok (.iload_n 3, 1) := by decide +kernel
theorem eX4_unlikeTurned_36 : decode (zYb kX4_unlikeTurned) 36 = .ok (.iconst 1, 1) := by decide +kernel
theorem eX4_unlikeTurned_37 : decode (zYb kX4_unlikeTurned) 37 = .ok (.isub, 1) := by decide +kernel
theorem eX4_unlikeTurned_38 : decode (zYb kX4_unlikeTurned) 38 = .ok (.iload 5, 2) := by decide +kernel
theorem eX4_unlikeTurned_40 : decode (zYb kX4_unlikeTurned) 40 = .ok (.isub, 1) := by decide +kernel
theorem eX4_unlikeTurned_41 : decode (zYb kX4_unlikeTurned) 41 = .ok (.invokevirtual 52, 3) := by decide +kernel
theorem eX4_unlikeTurned_44 : decode (zYb kX4_unlikeTurned) 44 = .ok (.if_icmp .eq 6, 3) := by decide +kernel
theorem eX4_unlikeTurned_47 : decode (zYb kX4_unlikeTurned) 47 = .ok (.iinc 4 1, 3) := by decide +kernel
theorem eX4_unlikeTurned_50 : decode (zYb kX4_unlikeTurned) 50 = .ok (.iinc 5 1, 3) := by decide +kernel
theorem eX4_unlikeTurned_53 : decode (zYb kX4_unlikeTurned) 53 = .ok (.goto (-35), 3) := by decide +kernel
theorem eX4_unlikeTurned_56 : decode (zYb kX4_unlikeTurned) 56 = .ok (.iload 4, 2) := by decide +kernel
theorem eX4_unlikeTurned_58 : decode (zYb kX4_unlikeTurned) 58 = .ok (.ireturn, 1) := by decide +kernel
theorem eX4_turnRound_0 : decode (zYb kX4_turnRound) 0 = .ok (.aload_n 0, 1) := by decide +kernel
theorem eX4_turnRound_1 : decode (zYb kX4_turnRound) 1 = .ok (.getfield 9, 3) := by decide +kernel
theorem eX4_turnRound_4 : decode (zYb kX4_turnRound) 4 = .ok (.aload_n 0, 1) := by decide +kernel
theorem eX4_turnRound_5 : decode (zYb kX4_turnRound) 5 = .ok (.iload_n 1, 1) := by decide +kernel
theorem eX4_turnRound_6 : decode (zYb kX4_turnRound) 6 = .ok (.invokevirtual 42, 3) := by decide +kernel
theorem eX4_turnRound_9 : decode (zYb kX4_turnRound) 9 = .ok (.aload_n 0, 1) := by decide +kernel
theorem eX4_turnRound_10 : decode (zYb kX4_turnRound) 10 = .ok (.iload_n 1, 1) := by decide +kernel
theorem eX4_turnRound_11 : decode (zYb kX4_turnRound) 11 = .ok (.invokevirtual 39, 3) := by decide +kernel
theorem eX4_turnRound_14 : decode (zYb kX4_turnRound) 14 = .ok (.invokestatic 55, 3) := by decide +kernel
theorem eX4_turnRound_17 : decode (zYb kX4_turnRound) 17 = .ok (.return_, 1) := by decide +kernel
theorem eX4_swapBeside_0 : decode (zYb kX4_swapBeside) 0 = .ok (.aload_n 0, 1) := by decide +kernel
theorem eX4_swapBeside_1 : decode (zYb kX4_swapBeside) 1 = .ok (.iload_n 1, 1) := by decide +kernel
theorem eX4_swapBeside_2 : decode (zYb kX4_swapBeside) 2 = .ok (.invokevirtual 49, 3) := by decide +kernel
theorem eX4_swapBeside_5 : decode (zYb kX4_swapBeside) 5 = .ok (.ifCond .eq 9, 3) := by decide +kernel
theorem eX4_swapBeside_8 : decode (zYb kX4_swapBeside) 8 = .ok (.iload_n 1, 1) := by decide +kernel
theorem eX4_swapBeside_9 : decode (zYb kX4_swapBeside) 9 = .ok (.bipush 6, 2) := by decide +kernel
theorem eX4_swapBeside_11 : decode (zYb kX4_swapBeside) 11 = .ok (.if_icmp .lt 4, 3) := by decide +kernel
theorem eX4_swapBeside_14 : decode (zYb kX4_swapBeside) 14 = .ok (.return_, 1) := by decide +kernel
theorem eX4_swapBeside_15 : decode (zYb kX4_swapBeside) 15 = .ok (.aload_n 0, 1) := by decide +kernel
theorem eX4_swapBeside_16 : decode (zYb kX4_swapBeside) 16 = .ok (.iload_n 1, 1) := by decide +kernel
theorem eX4_swapBeside_17 : decode (zYb kX4_swapBeside) 17 = .ok (.invokevirtual 42, 3) := by decide +kernel
theorem eX4_swapBeside_20 : decode (zYb kX4_swapBeside) 20 = .ok (.istore_n 2, 1) := by decide +kernel
theorem eX4_swapBeside_21 : decode (zYb kX4_swapBeside) 21 = .ok (.aload_n 0, 1) := by decide +kernel
theorem eX4_swapBeside_22 : decode (zYb kX4_swapBeside) 22 = .ok (.iload_n 1, 1) := by decide +kernel
theorem eX4_swapBeside_23 : decode (zYb kX4_swapBeside) 23 = .ok (.iconst 1, 1) := by decide +kernel
theorem eX4_swapBeside_24 : decode (zYb kX4_swapBeside) 24 = .ok (.iadd, 1) := by decide +kernel
theorem eX4_swapBeside_25 : decode (zYb kX4_swapBeside) 25 = .ok (.invokevirtual 39, 3) := by decide +kernel
theorem eX4_swapBeside_28 : decode (zYb kX4_swapBeside) 28 = .ok (.istore_n 3, 1) := by decide +kernel
theorem eX4_swapBeside_29 : decode (zYb kX4_swapBeside) 29 = .ok (.iload_n 2, 1) := by decide +kernel
theorem eX4_swapBeside_30 : decode (zYb kX4_swapBeside) 30 = .ok (.aload_n 0, 1) := by decide +kernel
theorem eX4_swapBeside_31 : decode (zYb kX4_swapBeside) 31 = .ok (.iload_n 1, 1) := by decide +kernel
theorem eX4_swapBeside_32 : decode (zYb kX4_swapBeside) 32 = .ok (.iconst 1, 1) := by decide +kernel
theorem eX4_swapBeside_33 : decode (zYb kX4_swapBeside) 33 = .ok (.iadd, 1) := by decide +kernel
theorem eX4_swapBeside_34 : decode (zYb kX4_swapBeside) 34 = .ok (.invokevirtual 35, 3) := by decide +kernel
theorem eX4_swapBeside_37 : decode (zYb kX4_swapBeside) 37 = .ok (.iadd, 1) := by decide +kernel
theorem eX4_swapBeside_38 : decode (zYb kX4_swapBeside) 38 = .ok (.istore 4, 2) := by decide +kernel
theorem eX4_swapBeside_40 : decode (zYb kX4_swapBeside) 40 = .ok (.aload_n 0, 1) := by decide +kernel
theorem eX4_swapBeside_41 : decode (zYb kX4_swapBeside) 41 = .ok (.getfield 9, 3) := by decide +kernel
theorem eX4_swapBeside_44 : decode (zYb kX4_swapBeside) 44 = .ok (.iload_n 2, 1) := by decide +kernel
theorem eX4_swapBeside_45 : decode (zYb kX4_swapBeside) 45 = .ok (.iload_n 3, 1) := by decide +kernel
theorem eX4_swapBeside_46 : decode (zYb kX4_swapBeside) 46 = .ok (.invokestatic 55, 3) := by decide +kernel
theorem eX4_swapBeside_49 : decode (zYb kX4_swapBeside) 49 = .ok (.aload_n 0, 1) := by decide +kernel
theorem eX4_swapBeside_50 : decode (zYb kX4_swapBeside) 50 = .ok (.getfield 9, 3) := by decide +kernel
theorem eX4_swapBeside_53 : decode (zYb kX4_swapBeside) 53 = .ok (.iload_n 2, 1) := by decide +kernel
theorem eX4_swapBeside_54 : decode (zYb kX4_swapBeside) 54 = .ok (.iload 4, 2) := by decide +kernel
theorem eX4_swapBeside_56 : decode (zYb kX4_swapBeside) 56 = .ok (.invokestatic 55, 3) := by decide +kernel
theorem eX4_swapBeside_59 : decode (zYb kX4_swapBeside) 59 = .ok (.aload_n 0, 1) := by decide +kernel
theorem eX4_swapBeside_60 : decode (zYb kX4_swapBeside) 60 = .ok (.getfield 9, 3) := by decide +kernel
theorem eX4_swapBeside_63 : decode (zYb kX4_swapBeside) 63 = .ok (.iload 4, 2) := by decide +kernel
theorem eX4_swapBeside_65 : decode (zYb kX4_swapBeside) 65 = .ok (.iload_n 3, 1) := by decide +kernel
theorem eX4_swapBeside_66 : decode (zYb kX4_swapBeside) 66 = .ok (.invokestatic 55, 3) := by decide +kernel
theorem eX4_swapBeside_69 : decode (zYb kX4_swapBeside) 69 = .ok (.aload_n 0, 1) := by decide +kernel
theorem eX4_swapBeside_70 : decode (zYb kX4_swapBeside) 70 = .ok (.getfield 15, 3) := by decide +kernel
theorem eX4_swapBeside_73 : decode (zYb kX4_swapBeside) 73 = .ok (.iload_n 1, 1) := by decide +kernel
theorem eX4_swapBeside_74 : decode (zYb kX4_swapBeside) 74 = .ok (.iload 4, 2) := by decide +kernel
theorem eX4_swapBeside_76 : decode (zYb kX4_swapBeside) 76 = .ok (.iastore, 1) := by decide +kernel
theorem eX4_swapBeside_77 : decode (zYb kX4_swapBeside) 77 = .ok (.return_, 1) := by decide +kernel
theorem eX4_sewOn_0 : decode (zYb kX4_sewOn) 0 = .ok (.iconst 0, 1) := by decide +kernel
theorem eX4_sewOn_1 : decode (zYb kX4_sewOn) 1 = .ok (.istore_n 2, 1) := by decide +kernel
theorem eX4_sewOn_2 : decode (zYb kX4_sewOn) 2 = .ok (.iload_n 2, 1) := by decide +kernel
theorem eX4_sewOn_3 : decode (zYb kX4_sewOn) 3 = .ok (.aload_n 1, 1) := by decide +kernel
theorem eX4_sewOn_4 : decode (zYb kX4_sewOn) 4 = .ok (.getfield 18, 3) := by decide +kernel
theorem eX4_sewOn_7 : decode (zYb kX4_sewOn) 7 = .ok (.if_icmp .ge 43, 3) := by decide +kernel
theorem eX4_sewOn_10 : decode (zYb kX4_sewOn) 10 = .ok (.aload_n 0, 1) := by decide +kernel
theorem eX4_sewOn_11 : decode (zYb kX4_sewOn) 11 = .ok (.invokevirtual 22, 3) := by decide +kernel
theorem eX4_sewOn_14 : decode (zYb kX4_sewOn) 14 = .ok (.aload_n 1, 1) := by decide +kernel
theorem eX4_sewOn_15 : decode (zYb kX4_sewOn) 15 = .ok (.iload_n 2, 1) := by decide +kernel
theorem eX4_sewOn_16 : decode (zYb kX4_sewOn) 16 = .ok (.invokevirtual 42, 3) := by decide +kernel
theorem eX4_sewOn_19 : decode (zYb kX4_sewOn) 19 = .ok (.istore_n 3, 1) := by decide +kernel
theorem eX4_sewOn_20 : decode (zYb kX4_sewOn) 20 = .ok (.iload_n 3, 1) := by decide +kernel
theorem eX4_sewOn_21 : decode (zYb kX4_sewOn) 21 = .ok (.aload_n 1, 1) := by decide +kernel
theorem eX4_sewOn_22 : decode (zYb kX4_sewOn) 22 = .ok (.iload_n 2, 1) := by decide +kernel
theorem eX4_sewOn_23 : decode (zYb kX4_sewOn) 23 = .ok (.invokevirtual 39, 3) := by decide +kernel
theorem eX4_sewOn_26 : decode (zYb kX4_sewOn) 26 = .ok (.if_icmp .ge 18, 3) := by decide +kernel
theorem eX4_sewOn_29 : decode (zYb kX4_sewOn) 29 = .ok (.aload_n 0, 1) := by decide +kernel
theorem eX4_sewOn_30 : decode (zYb kX4_sewOn) 30 = .ok (.aload_n 1, 1) := by decide +kernel
theorem eX4_sewOn_31 : decode (zYb kX4_sewOn) 31 = .ok (.iload_n 3, 1) := by decide +kernel
theorem eX4_sewOn_32 : decode (zYb kX4_sewOn) 32 = .ok (.invokevirtual 52, 3) := by decide +kernel
theorem eX4_sewOn_35 : decode (zYb kX4_sewOn) 35 = .ok (.invokevirtual 59, 3) := by decide +kernel
theorem eX4_sewOn_38 : decode (zYb kX4_sewOn) 38 = .ok (.iinc 3 1, 3) := by decide +kernel
theorem eX4_sewOn_41 : decode (zYb kX4_sewOn) 41 = .ok (.goto (-21), 3) := by decide +kernel
theorem eX4_sewOn_44 : decode (zYb kX4_sewOn) 44 = .ok (.iinc 2 1, 3) := by decide +kernel
theorem eX4_sewOn_47 : decode (zYb kX4_sewOn) 47 = .ok (.goto (-45), 3) := by decide +kernel
theorem eX4_sewOn_50 : decode (zYb kX4_sewOn) 50 = .ok (.return_, 1) := by decide +kernel
theorem eX4_isEven_0 : decode (zYb kX4_isEven) 0 = .ok (.aload_n 0, 1) := by decide +kernel
theorem eX4_isEven_1 : decode (zYb kX4_isEven) 1 = .ok (.getfield 9, 3) := by decide +kernel
theorem eX4_isEven_4 : decode (zYb kX4_isEven) 4 = .ok (.aload_n 0, 1) := by decide +kernel
theorem eX4_isEven_5 : decode (zYb kX4_isEven) 5 = .ok (.iload_n 1, 1) := by decide +kernel
theorem eX4_isEven_6 : decode (zYb kX4_isEven) 6 = .ok (.invokevirtual 42, 3) := by decide +kernel
theorem eX4_isEven_9 : decode (zYb kX4_isEven) 9 = .ok (.aload_n 0, 1) := by decide +kernel
theorem eX4_isEven_10 : decode (zYb kX4_isEven) 10 = .ok (.iload_n 1, 1) := by decide +kernel
theorem eX4_isEven_11 : decode (zYb kX4_isEven) 11 = .ok (.invokevirtual 39, 3) := by decide +kernel
theorem eX4_isEven_14 : decode (zYb kX4_isEven) 14 = .ok (.invokestatic 63, 3) := by decide +kernel
theorem eX4_isEven_17 : decode (zYb kX4_isEven) 17 = .ok (.ifCond .ne 7, 3) := by decide +kernel
theorem eX4_isEven_20 : decode (zYb kX4_isEven) 20 = .ok (.iconst 1, 1) := by decide +kernel
theorem eX4_isEven_21 : decode (zYb kX4_isEven) 21 = .ok (.goto 4, 3) := by decide +kernel
theorem eX4_isEven_24 : decode (zYb kX4_isEven) 24 = .ok (.iconst 0, 1) := by decide +kernel
theorem eX4_isEven_25 : decode (zYb kX4_isEven) 25 = .ok (.ireturn, 1) := by decide +kernel
theorem eX4_evenPatches_0 : decode (zYb kX4_evenPatches) 0 = .ok (.iconst 0, 1) := by decide +kernel
theorem eX4_evenPatches_1 : decode (zYb kX4_evenPatches) 1 = .ok (.istore_n 1, 1) := by decide +kernel
theorem eX4_evenPatches_2 : decode (zYb kX4_evenPatches) 2 = .ok (.iconst 0, 1) := by decide +kernel
theorem eX4_evenPatches_3 : decode (zYb kX4_evenPatches) 3 = .ok (.istore_n 2, 1) := by decide +kernel
theorem eX4_evenPatches_4 : decode (zYb kX4_evenPatches) 4 = .ok (.iload_n 2, 1) := by decide +kernel
theorem eX4_evenPatches_5 : decode (zYb kX4_evenPatches) 5 = .ok (.aload_n 0, 1) := by decide +kernel
theorem eX4_evenPatches_6 : decode (zYb kX4_evenPatches) 6 = .ok (.getfield 18, 3) := by decide +kernel
theorem eX4_evenPatches_9 : decode (zYb kX4_evenPatches) 9 = .ok (.if_icmp .ge 20, 3) := by decide +kernel
theorem eX4_evenPatches_12 : decode (zYb kX4_evenPatches) 12 = .ok (.aload_n 0, 1) := by decide +kernel
theorem eX4_evenPatches_13 : decode (zYb kX4_evenPatches) 13 = .ok (.iload_n 2, 1) := by decide +kernel
theorem eX4_evenPatches_14 : decode (zYb kX4_evenPatches) 14 = .ok (.invokevirtual 67, 3) := by decide +kernel
theorem eX4_evenPatches_17 : decode (zYb kX4_evenPatches) 17 = .ok (.ifCond .eq 6, 3) := by decide +kernel
theorem eX4_evenPatches_20 : decode (zYb kX4_evenPatches) 20 = .ok (.iinc 1 1, 3) := by decide +kernel
theorem eX4_evenPatches_23 : decode (zYb kX4_evenPatches) 23 = .ok (.iinc 2 1, 3) := by decide +kernel
theorem eX4_evenPatches_26 : decode (zYb kX4_evenPatches) 26 = .ok (.goto (-22), 3) := by decide +kernel
theorem eX4_evenPatches_29 : decode (zYb kX4_evenPatches) 29 = .ok (.iload_n 1, 1) := by decide +kernel
theorem eX4_evenPatches_30 : decode (zYb kX4_evenPatches) 30 = .ok (.ireturn, 1) := by decide +kernel
theorem eX4_waysFromFirst_0 : decode (zYb kX4_waysFromFirst) 0 = .ok (.iconst 1, 1) := by decide +kernel
theorem eX4_waysFromFirst_1 : decode (zYb kX4_waysFromFirst) 1 = .ok (.istore_n 1, 1) := by decide +kernel
theorem eX4_waysFromFirst_2 : decode (zYb kX4_waysFromFirst) 2 = .ok (.iconst 0, 1) := by decide +kernel
theorem eX4_waysFromFirst_3 : decode (zYb kX4_waysFromFirst) 3 = .ok (.istore_n 2, 1) := by decide +kernel
theorem eX4_waysFromFirst_4 : decode (zYb kX4_waysFromFirst) 4 = .ok (.iload_n 2, 1) := by decide +kernel
theorem eX4_waysFromFirst_5 : decode (zYb kX4_waysFromFirst) 5 = .ok (.aload_n 0, 1) := by decide +kernel
theorem eX4_waysFromFirst_6 : decode (zYb kX4_waysFromFirst) 6 = .ok (.getfield 18, 3) := by decide +kernel
theorem eX4_waysFromFirst_9 : decode (zYb kX4_waysFromFirst) 9 = .ok (.if_icmp .ge 21, 3) := by decide +kernel
theorem eX4_waysFromFirst_12 : decode (zYb kX4_waysFromFirst) 12 = .ok (.aload_n 0, 1) := by decide +kernel
theorem eX4_waysFromFirst_13 : decode (zYb kX4_waysFromFirst) 13 = .ok (.iload_n 2, 1) := by decide +kernel
theorem eX4_waysFromFirst_14 : decode (zYb kX4_waysFromFirst) 14 = .ok (.invokevirtual 67, 3) := by decide +kernel
theorem eX4_waysFromFirst_17 : decode (zYb kX4_waysFromFirst) 17 = .ok (.ifCond .ne 7, 3) := by decide +kernel
theorem eX4_waysFromFirst_20 : decode (zYb kX4_waysFromFirst) 20 = .ok (.iload_n 1, 1) := by decide +kernel
theorem eX4_waysFromFirst_21 : decode (zYb kX4_waysFromFirst) 21 = .ok (.iconst 2, 1) := by decide +kernel
theorem eX4_waysFromFirst_22 : decode (zYb kX4_waysFromFirst) 22 = .ok (.imul, 1) := by decide +kernel
theorem eX4_waysFromFirst_23 : decode (zYb kX4_waysFromFirst) 23 = .ok (.istore_n 1, 1) := by decide +kernel
theorem eX4_waysFromFirst_24 : decode (zYb kX4_waysFromFirst) 24 = .ok (.iinc 2 1, 3) := by decide +kernel
theorem eX4_waysFromFirst_27 : decode (zYb kX4_waysFromFirst) 27 = .ok (.goto (-23), 3) := by decide +kernel
theorem eX4_waysFromFirst_30 : decode (zYb kX4_waysFromFirst) 30 = .ok (.iload_n 1, 1) := by decide +kernel
theorem eX4_waysFromFirst_31 : decode (zYb kX4_waysFromFirst) 31 = .ok (.ireturn, 1) := by decide +kernel
theorem eX4_lay_0 : decode (zYb kX4_lay) 0 = .ok (.iload_n 1, 1) := by decide +kernel
theorem eX4_lay_1 : decode (zYb kX4_lay) 1 = .ok (.ifCond .lt 26, 3) := by decide +kernel
theorem eX4_lay_4 : decode (zYb kX4_lay) 4 = .ok (.iload_n 2, 1) := by decide +kernel
theorem eX4_lay_5 : decode (zYb kX4_lay) 5 = .ok (.bipush 60, 2) := by decide +kernel
theorem eX4_lay_7 : decode (zYb kX4_lay) 7 = .ok (.if_icmp .gt 20, 3) := by decide +kernel
theorem eX4_lay_10 : decode (zYb kX4_lay) 10 = .ok (.iload 5, 2) := by decide +kernel
theorem eX4_lay_12 : decode (zYb kX4_lay) 12 = .ok (.ifCond .lt 15, 3) := by decide +kernel
theorem eX4_lay_15 : decode (zYb kX4_lay) 15 = .ok (.iload 5, 2) := by decide +kernel
theorem eX4_lay_17 : decode (zYb kX4_lay) 17 = .ok (.iload_n 2, 1) := by decide +kernel
theorem eX4_lay_18 : decode (zYb kX4_lay) 18 = .ok (.iadd, 1) := by decide +kernel
theorem eX4_lay_19 : decode (zYb kX4_lay) 19 = .ok (.iload_n 1, 1) := by decide +kernel
theorem eX4_lay_20 : decode (zYb kX4_lay) 20 = .ok (.isub, 1) := by decide +kernel
theorem eX4_lay_21 : decode (zYb kX4_lay) 21 = .ok (.aload 4, 2) := by decide +kernel
theorem eX4_lay_23 : decode (zYb kX4_lay) 23 = .ok (.arraylength, 1) := by decide +kernel
theorem eX4_lay_24 : decode (zYb kX4_lay) 24 = .ok (.if_icmp .le 4, 3) := by decide +kernel
theorem eX4_lay_27 : decode (zYb kX4_lay) 27 = .ok (.return_, 1) := by decide +kernel
theorem eX4_lay_28 : decode (zYb kX4_lay) 28 = .ok (.iconst 0, 1) := by decide +kernel
theorem eX4_lay_29 : decode (zYb kX4_lay) 29 = .ok (.istore 6, 2) := by decide +kernel
theorem eX4_lay_31 : decode (zYb kX4_lay) 31 = .ok (.iload 6, 2) := by decide +kernel
theorem eX4_lay_33 : decode (zYb kX4_lay) 33 = .ok (.iload_n 2, 1) := by decide +kernel
theorem eX4_lay_34 : decode (zYb kX4_lay) 34 = .ok (.iload_n 1, 1) := by decide +kernel
theorem eX4_lay_35 : decode (zYb kX4_lay) 35 = .ok (.isub, 1) := by decide +kernel
theorem eX4_lay_36 : decode (zYb kX4_lay) 36 = .ok (.if_icmp .ge 39, 3) := by decide +kernel
theorem eX4_lay_39 : decode (zYb kX4_lay) 39 = .ok (.aload 4, 2) := by decide +kernel
theorem eX4_lay_41 : decode (zYb kX4_lay) 41 = .ok (.iload 5, 2) := by decide +kernel
theorem eX4_lay_43 : decode (zYb kX4_lay) 43 = .ok (.iload 6, 2) := by decide +kernel
theorem eX4_lay_45 : decode (zYb kX4_lay) 45 = .ok (.iadd, 1) := by decide +kernel
theorem eX4_lay_46 : decode (zYb kX4_lay) 46 = .ok (.aload_n 0, 1) := by decide +kernel
theorem eX4_lay_47 : decode (zYb kX4_lay) 47 = .ok (.getfield 9, 3) := by decide +kernel
theorem eX4_lay_50 : decode (zYb kX4_lay) 50 = .ok (.iload_n 3, 1) := by decide +kernel
theorem eX4_lay_51 : decode (zYb kX4_lay) 51 = .ok (.ifCond .eq 12, 3) := by decide +kernel
theorem eX4_lay_54 : decode (zYb kX4_lay) 54 = .ok (.iload_n 2, 1) := by decide +kernel
theorem eX4_lay_55 : decode (zYb kX4_lay) 55 = .ok (.iconst 1, 1) := by decide +kernel
theorem eX4_lay_56 : decode (zYb kX4_lay) 56 = .ok (.isub, 1) := by decide +kernel
theorem eX4_lay_57 : decode (zYb kX4_lay) 57 = .ok (.iload 6, 2) := by decide +kernel
theorem eX4_lay_59 : decode (zYb kX4_lay) 59 = .ok (.isub, 1) := by decide +kernel
theorem eX4_lay_60 : decode (zYb kX4_lay) 60 = .ok (.goto 7, 3) := by decide +kernel
theorem eX4_lay_63 : decode (zYb kX4_lay) 63 = .ok (.iload_n 1, 1) := by decide +kernel
theorem eX4_lay_64 : decode (zYb kX4_lay) 64 = .ok (.iload 6, 2) := by decide +kernel
theorem eX4_lay_66 : decode (zYb kX4_lay) 66 = .ok (.iadd, 1) := by decide +kernel
theorem eX4_lay_67 : decode (zYb kX4_lay) 67 = .ok (.iaload, 1) := by decide +kernel
theorem eX4_lay_68 : decode (zYb kX4_lay) 68 = .ok (.iastore, 1) := by decide +kernel
theorem eX4_lay_69 : decode (zYb kX4_lay) 69 = .ok (.iinc 6 1, 3) := by decide +kernel
theorem eX4_lay_72 : decode (zYb kX4_lay) 72 = .ok (.goto (-41), 3) := by decide +kernel
theorem eX4_lay_75 : decode (zYb kX4_lay) 75 = .ok (.return_, 1) := by decide +kernel
theorem eX4_tells_0 : decode (zYb kX4_tells) 0 = .ok (.iload_n 2, 1) := by decide +kernel
theorem eX4_tells_1 : decode (zYb kX4_tells) 1 = .ok (.aload_n 0, 1) := by decide +kernel
theorem eX4_tells_2 : decode (zYb kX4_tells) 2 = .ok (.invokevirtual 25, 3) := by decide +kernel
theorem eX4_tells_5 : decode (zYb kX4_tells) 5 = .ok (.if_icmp .ne 27, 3) := by decide +kernel
theorem eX4_tells_8 : decode (zYb kX4_tells) 8 = .ok (.aload_n 0, 1) := by decide +kernel
theorem eX4_tells_9 : decode (zYb kX4_tells) 9 = .ok (.aload_n 1, 1) := by decide +kernel
theorem eX4_tells_10 : decode (zYb kX4_tells) 10 = .ok (.iload_n 2, 1) := by decide +kernel
theorem eX4_tells_11 : decode (zYb kX4_tells) 11 = .ok (.iconst 0, 1) := by decide +kernel
theorem eX4_tells_12 : decode (zYb kX4_tells) 12 = .ok (.invokevirtual 70, 3) := by decide +kernel
theorem eX4_tells_15 : decode (zYb kX4_tells) 15 = .ok (.ifCond .ne 13, 3) := by decide +kernel
theorem eX4_tells_18 : decode (zYb kX4_tells) 18 = .ok (.aload_n 0, 1) := by decide +kernel
theorem eX4_tells_19 : decode (zYb kX4_tells) 19 = .ok (.aload_n 1, 1) := by decide +kernel
theorem eX4_tells_20 : decode (zYb kX4_tells) 20 = .ok (.iload_n 2, 1) := by decide +kernel
theorem eX4_tells_21 : decode (zYb kX4_tells) 21 = .ok (.iconst 1, 1) := by decide +kernel
theorem eX4_tells_22 : decode (zYb kX4_tells) 22 = .ok (.invokevirtual 70, 3) := by decide +kernel
theorem eX4_tells_25 : decode (zYb kX4_tells) 25 = .ok (.ifCond .eq 7, 3) := by decide +kernel
theorem eX4_tells_28 : decode (zYb kX4_tells) 28 = .ok (.iconst 1, 1) := by decide +kernel
theorem eX4_tells_29 : decode (zYb kX4_tells) 29 = .ok (.goto 4, 3) := by decide +kernel
theorem eX4_tells_32 : decode (zYb kX4_tells) 32 = .ok (.iconst 0, 1) := by decide +kernel
theorem eX4_tells_33 : decode (zYb kX4_tells) 33 = .ok (.ireturn, 1) := by decide +kernel
theorem eX4_beginsWith_0 : decode (zYb kX4_beginsWith) 0 = .ok (.iconst 0, 1) := by decide +kernel
theorem eX4_beginsWith_1 : decode (zYb kX4_beginsWith) 1 = .ok (.istore 4, 2) := by decide +kernel
theorem eX4_beginsWith_3 : decode (zYb kX4_beginsWith) 3 = .ok (.iconst 0, 1) := by decide +kernel
theorem eX4_beginsWith_4 : decode (zYb kX4_beginsWith) 4 = .ok (.istore 5, 2) := by decide +kernel
theorem eX4_beginsWith_6 : decode (zYb kX4_beginsWith) 6 = .ok (.iload 5, 2) := by decide +kernel
theorem eX4_beginsWith_8 : decode (zYb kX4_beginsWith) 8 = .ok (.aload_n 0, 1) := by decide +kernel
theorem eX4_beginsWith_9 : decode (zYb kX4_beginsWith) 9 = .ok (.getfield 18, 3) := by decide +kernel
theorem eX4_beginsWith_12 : decode (zYb kX4_beginsWith) 12 = .ok (.if_icmp .ge 95, 3) := by decide +kernel
theorem eX4_beginsWith_15 : decode (zYb kX4_beginsWith) 15 = .ok (.iload 4, 2) := by decide +kernel
theorem eX4_beginsWith_17 : decode (zYb kX4_beginsWith) 17 = .ok (.iload_n 2, 1) := by decide +kernel
theorem eX4_beginsWith_18 : decode (zYb kX4_beginsWith) 18 = .ok (.if_icmp .ge 89, 3) := by decide +kernel
theorem eX4_beginsWith_21 : decode (zYb kX4_beginsWith) 21 = .ok (.iload_n 3, 1) := by decide +kernel
theorem eX4_beginsWith_22 : decode (zYb kX4_beginsWith) 22 = .ok (.ifCond .eq 15, 3) := by decide +kernel
theorem eX4_beginsWith_25 : decode (zYb kX4_beginsWith) 25 = .ok (.aload_n 0, 1) := by decide +kernel
theorem eX4_beginsWith_26 : decode (zYb kX4_beginsWith) 26 = .ok (.getfield 18, 3) := by decide +kernel
theorem eX4_beginsWith_29 : decode (zYb kX4_beginsWith) 29 = .ok (.iconst 1, 1) := by decide +kernel
theorem eX4_beginsWith_30 : decode (zYb kX4_beginsWith) 30 = .ok (.isub, 1) := by decide +kernel
theorem eX4_beginsWith_31 : decode (zYb kX4_beginsWith) 31 = .ok (.iload 5, 2) := by decide +kernel
theorem eX4_beginsWith_33 : decode (zYb kX4_beginsWith) 33 = .ok (.isub, 1) := by decide +kernel
theorem eX4_beginsWith_34 : decode (zYb kX4_beginsWith) 34 = .ok (.goto 5, 3) := by decide +kernel
theorem eX4_beginsWith_37 : decode (zYb kX4_beginsWith) 37 = .ok (.iload 5, 2) := by decide +kernel
theorem eX4_beginsWith_39 : decode (zYb kX4_beginsWith) 39 = .ok (.istore 6, 2) := by decide +kernel
theorem eX4_beginsWith_41 : decode (zYb kX4_beginsWith) 41 = .ok (.aload_n 0, 1) := by decide +kernel
theorem eX4_beginsWith_42 : decode (zYb kX4_beginsWith) 42 = .ok (.iload 6, 2) := by decide +kernel
theorem eX4_beginsWith_44 : decode (zYb kX4_beginsWith) 44 = .ok (.invokevirtual 42, 3) := by decide +kernel
theorem eX4_beginsWith_47 : decode (zYb kX4_beginsWith) 47 = .ok (.istore 7, 2) := by decide +kernel
theorem eX4_beginsWith_49 : decode (zYb kX4_beginsWith) 49 = .ok (.aload_n 0, 1) := by decide +kernel
theorem eX4_beginsWith_50 : decode (zYb kX4_beginsWith) 50 = .ok (.iload 6, 2) := by decide +kernel
theorem eX4_beginsWith_52 : decode (zYb kX4_beginsWith) 52 = .ok (.invokevirtual 39, 3) := by decide +kernel
theorem eX4_beginsWith_55 : decode (zYb kX4_beginsWith) 55 = .ok (.istore 8, 2) := by decide +kernel
theorem eX4_beginsWith_57 : decode (zYb kX4_beginsWith) 57 = .ok (.aload_n 0, 1) := by decide +kernel
theorem eX4_beginsWith_58 : decode (zYb kX4_beginsWith) 58 = .ok (.aload_n 1, 1) := by decide +kernel
theorem eX4_beginsWith_59 : decode (zYb kX4_beginsWith) 59 = .ok (.iload 4, 2) := by decide +kernel
theorem eX4_beginsWith_61 : decode (zYb kX4_beginsWith) 61 = .ok (.iload_n 2, 1) := by decide +kernel
theorem eX4_beginsWith_62 : decode (zYb kX4_beginsWith) 62 = .ok (.iload 7, 2) := by decide +kernel
theorem eX4_beginsWith_64 : decode (zYb kX4_beginsWith) 64 = .ok (.iload 8, 2) := by decide +kernel
theorem eX4_beginsWith_66 : decode (zYb kX4_beginsWith) 66 = .ok (.iconst 0, 1) := by decide +kernel
theorem eX4_beginsWith_67 : decode (zYb kX4_beginsWith) 67 = .ok (.invokevirtual 74, 3) := by decide +kernel
theorem eX4_beginsWith_70 : decode (zYb kX4_beginsWith) 70 = .ok (.ifCond .ne 21, 3) := by decide +kernel
theorem eX4_beginsWith_73 : decode (zYb kX4_beginsWith) 73 = .ok (.aload_n 0, 1) := by decide +kernel
theorem eX4_beginsWith_74 : decode (zYb kX4_beginsWith) 74 = .ok (.aload_n 1, 1) := by decide +kernel
theorem eX4_beginsWith_75 : decode (zYb kX4_beginsWith) 75 = .ok (.iload 4, 2) := by decide +kernel
theorem eX4_beginsWith_77 : decode (zYb kX4_beginsWith) 77 = .ok (.iload_n 2, 1) := by decide +kernel
theorem eX4_beginsWith_78 : decode (zYb kX4_beginsWith) 78 = .ok (.iload 7, 2) := by decide +kernel
theorem eX4_beginsWith_80 : decode (zYb kX4_beginsWith) 80 = .ok (.iload 8, 2) := by decide +kernel
theorem eX4_beginsWith_82 : decode (zYb kX4_beginsWith) 82 = .ok (.iconst 1, 1) := by decide +kernel
theorem eX4_beginsWith_83 : decode (zYb kX4_beginsWith) 83 = .ok (.invokevirtual 74, 3) := by decide +kernel
theorem eX4_beginsWith_86 : decode (zYb kX4_beginsWith) 86 = .ok (.ifCond .ne 5, 3) := by decide +kernel
theorem eX4_beginsWith_89 : decode (zYb kX4_beginsWith) 89 = .ok (.iconst 0, 1) := by decide +kernel
theorem eX4_beginsWith_90 : decode (zYb kX4_beginsWith) 90 = .ok (.ireturn, 1) := by decide +kernel
theorem eX4_beginsWith_91 : decode (zYb kX4_beginsWith) 91 = .ok (.iload 4, 2) := by decide +kernel
theorem eX4_beginsWith_93 : decode (zYb kX4_beginsWith) 93 = .ok (.iload 8, 2) := by decide +kernel
theorem eX4_beginsWith_95 : decode (zYb kX4_beginsWith) 95 = .ok (.iload 7, 2) := by decide +kernel
theorem eX4_beginsWith_97 : decode (zYb kX4_beginsWith) 97 = .ok (.isub, 1) := by decide +kernel
theorem eX4_beginsWith_98 : decode (zYb kX4_beginsWith) 98 = .ok (.iadd, 1) := by decide +kernel
theorem eX4_beginsWith_99 : decode (zYb kX4_beginsWith) 99 = .ok (.istore 4, 2) := by decide +kernel
theorem eX4_beginsWith_101 : decode (zYb kX4_beginsWith) 101 = .ok (.iinc 5 1, 3) := by decide +kernel
theorem eX4_beginsWith_104 : decode (zYb kX4_beginsWith) 104 = .ok (.goto (-98), 3) := by decide +kernel
theorem eX4_beginsWith_107 : decode (zYb kX4_beginsWith) 107 = .ok (.iconst 1, 1) := by decide +kernel
theorem eX4_beginsWith_108 : decode (zYb kX4_beginsWith) 108 = .ok (.ireturn, 1) := by decide +kernel
theorem eX4_standsAt_0 : decode (zYb kX4_standsAt) 0 = .ok (.iload_n 2, 1) := by decide +kernel
theorem eX4_standsAt_1 : decode (zYb kX4_standsAt) 1 = .ok (.ifCond .lt 21, 3) := by decide +kernel
theorem eX4_standsAt_4 : decode (zYb kX4_standsAt) 4 = .ok (.iload_n 3, 1) := by decide +kernel
theorem eX4_standsAt_5 : decode (zYb kX4_standsAt) 5 = .ok (.aload_n 1, 1) := by decide +kernel
theorem eX4_standsAt_6 : decode (zYb kX4_standsAt) 6 = .ok (.arraylength, 1) := by decide +kernel
theorem eX4_standsAt_7 : decode (zYb kX4_standsAt) 7 = .ok (.if_icmp .gt 15, 3) := by decide +kernel
theorem eX4_standsAt_10 : decode (zYb kX4_standsAt) 10 = .ok (.iload 4, 2) := by decide +kernel
theorem eX4_standsAt_12 : decode (zYb kX4_standsAt) 12 = .ok (.ifCond .lt 10, 3) := by decide +kernel
theorem eX4_standsAt_15 : decode (zYb kX4_standsAt) 15 = .ok (.iload 5, 2) := by decide +kernel
theorem eX4_standsAt_17 : decode (zYb kX4_standsAt) 17 = .ok (.bipush 60, 2) := by decide +kernel
theorem eX4_standsAt_19 : decode (zYb kX4_standsAt) 19 = .ok (.if_icmp .le 5, 3) := by decide +kernel
theorem eX4_standsAt_22 : decode (zYb kX4_standsAt) 22 = .ok (.iconst 0, 1) := by decide +kernel
theorem eX4_standsAt_23 : decode (zYb kX4_standsAt) 23 = .ok (.ireturn, 1) := by decide +kernel
theorem eX4_standsAt_24 : decode (zYb kX4_standsAt) 24 = .ok (.iconst 0, 1) := by decide +kernel
theorem eX4_standsAt_25 : decode (zYb kX4_standsAt) 25 = .ok (.istore 7, 2) := by decide +kernel
theorem eX4_standsAt_27 : decode (zYb kX4_standsAt) 27 = .ok (.iload 7, 2) := by decide +kernel
theorem eX4_standsAt_29 : decode (zYb kX4_standsAt) 29 = .ok (.iload 5, 2) := by decide +kernel
theorem eX4_standsAt_31 : decode (zYb kX4_standsAt) 31 = .ok (.iload 4, 2) := by decide +kernel
theorem eX4_standsAt_33 : decode (zYb kX4_standsAt) 33 = .ok (.isub, 1) := by decide +kernel
theorem eX4_standsAt_34 : decode (zYb kX4_standsAt) 34 = .ok (.if_icmp .ge 53, 3) := by decide +kernel
theorem eX4_standsAt_37 : decode (zYb kX4_standsAt) 37 = .ok (.iload_n 2, 1) := by decide +kernel
theorem eX4_standsAt_38 : decode (zYb kX4_standsAt) 38 = .ok (.iload 7, 2) := by decide +kernel
theorem eX4_standsAt_40 : decode (zYb kX4_standsAt) 40 = .ok (.iadd, 1) := by decide +kernel
theorem eX4_standsAt_41 : decode (zYb kX4_standsAt) 41 = .ok (.iload_n 3, 1) := by decide +kernel
theorem eX4_standsAt_42 : decode (zYb kX4_standsAt) 42 = .ok (.if_icmp .ge 45, 3) := by decide +kernel
theorem eX4_standsAt_45 : decode (zYb kX4_standsAt) 45 = .ok (.aload_n 1, 1) := by decide +kernel
theorem eX4_standsAt_46 : decode (zYb kX4_standsAt) 46 = .ok (.iload_n 2, 1) := by decide +kernel
theorem eX4_standsAt_47 : decode (zYb kX4_standsAt) 47 = .ok (.iload 7, 2) := by decide +kernel
theorem eX4_standsAt_49 : decode (zYb kX4_standsAt) 49 = .ok (.iadd, 1) := by decide +kernel
theorem eX4_standsAt_50 : decode (zYb kX4_standsAt) 50 = .ok (.iaload, 1) := by decide +kernel
theorem eX4_standsAt_51 : decode (zYb kX4_standsAt) 51 = .ok (.aload_n 0, 1) := by decide +kernel
theorem eX4_standsAt_52 : decode (zYb kX4_standsAt) 52 = .ok (.getfield 9, 3) := by decide +kernel
theorem eX4_standsAt_55 : decode (zYb kX4_standsAt) 55 = .ok (.iload 6, 2) := by decide +kernel
theorem eX4_standsAt_57 : decode (zYb kX4_standsAt) 57 = .ok (.ifCond .eq 13, 3) := by decide +kernel
theorem eX4_standsAt_60 : decode (zYb kX4_standsAt) 60 = .ok (.iload 5, 2) := by decide +kernel
theorem eX4_standsAt_62 : decode (zYb kX4_standsAt) 62 = .ok (.iconst 1, 1) := by decide +kernel
theorem eX4_standsAt_63 : decode (zYb kX4_standsAt) 63 = .ok (.isub, 1) := by decide +kernel
theorem eX4_standsAt_64 : decode (zYb kX4_standsAt) 64 = .ok (.iload 7, 2) := by decide +kernel
theorem eX4_standsAt_66 : decode (zYb kX4_standsAt) 66 = .ok (.isub, 1) := by decide +kernel
theorem eX4_standsAt_67 : decode (zYb kX4_standsAt) 67 = .ok (.goto 8, 3) := by decide +kernel
theorem eX4_standsAt_70 : decode (zYb kX4_standsAt) 70 = .ok (.iload 4, 2) := by decide +kernel
theorem eX4_standsAt_72 : decode (zYb kX4_standsAt) 72 = .ok (.iload 7, 2) := by decide +kernel
theorem eX4_standsAt_74 : decode (zYb kX4_standsAt) 74 = .ok (.iadd, 1) := by decide +kernel
theorem eX4_standsAt_75 : decode (zYb kX4_standsAt) 75 = .ok (.iaload, 1) := by decide +kernel
theorem eX4_standsAt_76 : decode (zYb kX4_standsAt) 76 = .ok (.if_icmp .eq 5, 3) := by decide +kernel
theorem eX4_standsAt_79 : decode (zYb kX4_standsAt) 79 = .ok (.iconst 0, 1) := by decide +kernel
theorem eX4_standsAt_80 : decode (zYb kX4_standsAt) 80 = .ok (.ireturn, 1) := by decide +kernel
theorem eX4_standsAt_81 : decode (zYb kX4_standsAt) 81 = .ok (.iinc 7 1, 3) := by decide +kernel
theorem eX4_standsAt_84 : decode (zYb kX4_standsAt) 84 = .ok (.goto (-57), 3) := by decide +kernel
theorem eX4_standsAt_87 : decode (zYb kX4_standsAt) 87 = .ok (.iconst 1, 1) := by decide +kernel
theorem eX4_standsAt_88 : decode (zYb kX4_standsAt) 88 = .ok (.ireturn, 1) := by decide +kernel
theorem eX5_init_0 : decode (zYb kX5_init) 0 = .ok (.aload_n 0, 1) := by decide +kernel
theorem eX5_init_1 : decode (zYb kX5_init) 1 = .ok (.invokespecial 3, 3) := by decide +kernel
theorem eX5_init_4 : decode (zYb kX5_init) 4 = .ok (.aload_n 0, 1) := by decide +kernel
theorem eX5_init_5 : decode (zYb kX5_init) 5 = .ok (.iconst 5, 1) := by decide +kernel
theorem eX5_init_6 : decode (zYb kX5_init) 6 = .ok (.anewarray 9, 3) := by decide +kernel
theorem eX5_init_9 : decode (zYb kX5_init) 9 = .ok (.putfield 11, 3) := by decide +kernel
theorem eX5_init_12 : decode (zYb kX5_init) 12 = .ok (.iconst 0, 1) := by decide +kernel
theorem eX5_init_13 : decode (zYb kX5_init) 13 = .ok (.istore_n 1, 1) := by decide +kernel
theorem eX5_init_14 : decode (zYb kX5_init) 14 = .ok (.iload_n 1, 1) := by decide +kernel
theorem eX5_init_15 : decode (zYb kX5_init) 15 = .ok (.iconst 5, 1) := by decide +kernel
theorem eX5_init_16 : decode (zYb kX5_init) 16 = .ok (.if_icmp .ge 22, 3) := by decide +kernel
theorem eX5_init_19 : decode (zYb kX5_init) 19 = .ok (.aload_n 0, 1) := by decide +kernel
theorem eX5_init_20 : decode (zYb kX5_init) 20 = .ok (.getfield 11, 3) := by decide +kernel
theorem eX5_init_23 : decode (zYb kX5_init) 23 = .ok (.iload_n 1, 1) := by decide +kernel
theorem eX5_init_24 : decode (zYb kX5_init) 24 = .ok (.new 9, 3) := by decide +kernel
theorem eX5_init_27 : decode (zYb kX5_init) 27 = .ok (.dup, 1) := by decide +kernel
theorem eX5_init_28 : decode (zYb kX5_init) 28 = .ok (.invokespecial 17, 3) := by decide +kernel
theorem eX5_init_31 : decode (zYb kX5_init) 31 = .ok (.aastore, 1) := by decide +kernel
theorem eX5_init_32 : decode (zYb kX5_init) 32 = .ok (.iinc 1 1, 3) := by decide +kernel
theorem eX5_init_35 : decode (zYb kX5_init) 35 = .ok (.goto (-21), 3) := by decide +kernel
theorem eX5_init_38 : decode (zYb kX5_init) 38 = .ok (.return_, 1) := by decide +kernel
theorem eX5_at_0 : decode (zYb kX5_at) 0 = .ok (.iload_n 1, 1) := by decide +kernel
theorem eX5_at_1 : decode (zYb kX5_at) 1 = .ok (.ifCond .lt 25, 3) := by decide +kernel
theorem eX5_at_4 : decode (zYb kX5_at) 4 = .ok (.iload_n 1, 1) := by decide +kernel
theorem eX5_at_5 : decode (zYb kX5_at) 5 = .ok (.aload_n 0, 1) := by decide +kernel
theorem eX5_at_6 : decode (zYb kX5_at) 6 = .ok (.getfield 18, 3) := by decide +kernel
theorem eX5_at_9 : decode (zYb kX5_at) 9 = .ok (.if_icmp .ge 17, 3) := by decide +kernel
theorem eX5_at_12 : decode (zYb kX5_at) 12 = .ok (.iload_n 1, 1) := by decide +kernel
theorem eX5_at_13 : decode (zYb kX5_at) 13 = .ok (.iconst 5, 1) := by decide +kernel
theorem eX5_at_14 : decode (zYb kX5_at) 14 = .ok (.if_icmp .ge 12, 3) := by decide +kernel
theorem eX5_at_17 : decode (zYb kX5_at) 17 = .ok (.aload_n 0, 1) := by decide +kernel
theorem eX5_at_18 : decode (zYb kX5_at) 18 = .ok (.getfield 11, 3) := by decide +kernel
theorem eX5_at_21 : decode (zYb kX5_at) 21 = .ok (.iload_n 1, 1) := by decide +kernel
theorem eX5_at_22 : decode (zYb kX5_at) 22 = .ok (.aaload, 1) := by decide +kernel
theorem eX5_at_23 : decode (zYb kX5_at) 23 = .ok (.goto 4, 3) := by decide +kernel
theorem eX5_at_26 : decode (zYb kX5_at) 26 = .ok (.aconst_null, 1) := by decide +kernel
theorem eX5_at_27 : decode (zYb kX5_at) 27 = .ok (.areturn, 1) := by decide +kernel
theorem eX5_addScroll_0 : decode (zYb kX5_addScroll) 0 = .ok (.aload_n 0, 1) := by decide +kernel
theorem eX5_addScroll_1 : decode (zYb kX5_addScroll) 1 = .ok (.getfield 18, 3) := by decide +kernel
theorem eX5_addScroll_4 : decode (zYb kX5_addScroll) 4 = .ok (.iconst 5, 1) := by decide +kernel
theorem eX5_addScroll_5 : decode (zYb kX5_addScroll) 5 = .ok (.if_icmp .lt 5, 3) := by decide +kernel
theorem eX5_addScroll_8 : decode (zYb kX5_addScroll) 8 = .ok (.aconst_null, 1) := by decide +kernel
theorem eX5_addScroll_9 : decode (zYb kX5_addScroll) 9 = .ok (.areturn, 1) := by decide +kernel
theorem eX5_addScroll_10 : decode (zYb kX5_addScroll) 10 = .ok (.aload_n 0, 1) := by decide +kernel
theorem eX5_addScroll_11 : decode (zYb kX5_addScroll) 11 = .ok (.dup, 1) := by decide +kernel
theorem eX5_addScroll_12 : decode (zYb kX5_addScroll) 12 = .ok (.getfield 18, 3) := by decide +kernel
theorem eX5_addScroll_15 : decode (zYb kX5_addScroll) 15 = .ok (.iconst 1, 1) := by decide +kernel
theorem eX5_addScroll_16 : decode (zYb kX5_addScroll) 16 = .ok (.iadd, 1) := by decide +kernel
theorem eX5_addScroll_17 : decode (zYb kX5_addScroll) 17 = .ok (.putfield 18, 3) := by decide +kernel
theorem eX5_addScroll_20 : decode (zYb kX5_addScroll) 20 = .ok (.aload_n 0, 1) := by decide +kernel
theorem eX5_addScroll_21 : decode (zYb kX5_addScroll) 21 = .ok (.aload_n 0, 1) := by decide +kernel
theorem eX5_addScroll_22 : decode (zYb kX5_addScroll) 22 = .ok (.getfield 18, 3) := by decide +kernel
theorem eX5_addScroll_25 : decode (zYb kX5_addScroll) 25 = .ok (.iconst 1, 1) := by decide +kernel
theorem eX5_addScroll_26 : decode (zYb kX5_addScroll) 26 = .ok (.isub, 1) := by decide +kernel
theorem eX5_addScroll_27 : decode (zYb kX5_addScroll) 27 = .ok (.invokevirtual 22, 3) := by decide +kernel
theorem eX5_addScroll_30 : decode (zYb kX5_addScroll) 30 = .ok (.astore_n 1, 1) := by decide +kernel
theorem eX5_addScroll_31 : decode (zYb kX5_addScroll) 31 = .ok (.aload_n 1, 1) := by decide +kernel
theorem eX5_addScroll_32 : decode (zYb kX5_addScroll) 32 = .ok (.ifnull 7, 3) := by decide +kernel
theorem eX5_addScroll_35 : decode (zYb kX5_addScroll) 35 = .ok (.aload_n 1, 1) := by decide +kernel
theorem eX5_addScroll_36 : decode (zYb kX5_addScroll) 36 = .ok (.invokevirtual 26, 3) := by decide +kernel
theorem eX5_addScroll_39 : decode (zYb kX5_addScroll) 39 = .ok (.aload_n 1, 1) := by decide +kernel
theorem eX5_addScroll_40 : decode (zYb kX5_addScroll) 40 = .ok (.areturn, 1) := by decide +kernel
theorem eX5_remove_0 : decode (zYb kX5_remove) 0 = .ok (.iload_n 1, 1) := by decide +kernel
theorem eX5_remove_1 : decode (zYb kX5_remove) 1 = .ok (.ifCond .lt 19, 3) := by decide +kernel
theorem eX5_remove_4 : decode (zYb kX5_remove) 4 = .ok (.iload_n 1, 1) := by decide +kernel
theorem eX5_remove_5 : decode (zYb kX5_remove) 5 = .ok (.aload_n 0, 1) := by decide +kernel
theorem eX5_remove_6 : decode (zYb kX5_remove) 6 = .ok (.getfield 18, 3) := by decide +kernel
theorem eX5_remove_9 : decode (zYb kX5_remove) 9 = .ok (.if_icmp .ge 11, 3) := by decide +kernel
theorem eX5_remove_12 : decode (zYb kX5_remove) 12 = .ok (.aload_n 0, 1) := by decide +kernel
theorem eX5_remove_13 : decode (zYb kX5_remove) 13 = .ok (.getfield 18, 3) := by decide +kernel
theorem eX5_remove_16 : decode (zYb kX5_remove) 16 = .ok (.iconst 5, 1) := by decide +kernel
theorem eX5_remove_17 : decode (zYb kX5_remove) 17 = .ok (.if_icmp .le 4, 3) := by decide +kernel
theorem eX5_remove_20 : decode (zYb kX5_remove) 20 = .ok (.return_, 1) := by decide +kernel
theorem eX5_remove_21 : decode (zYb kX5_remove) 21 = .ok (.aload_n 0, 1) := by decide +kernel
theorem eX5_remove_22 : decode (zYb kX5_remove) 22 = .ok (.getfield 11, 3) := by decide +kernel
theorem eX5_remove_25 : decode (zYb kX5_remove) 25 = .ok (.iload_n 1, 1) := by decide +kernel
theorem eX5_remove_26 : decode (zYb kX5_remove) 26 = .ok (.aaload, 1) := by decide +kernel
theorem eX5_remove_27 : decode (zYb kX5_remove) 27 = .ok (.astore_n 2, 1) := by decide +kernel
theorem eX5_remove_28 : decode (zYb kX5_remove) 28 = .ok (.iload_n 1, 1) := by decide +kernel
theorem eX5_remove_29 : decode (zYb kX5_remove) 29 = .ok (.istore_n 3, 1) := by decide +kernel
theorem eX5_remove_30 : decode (zYb kX5_remove) 30 = .ok (.iload_n 3, 1) := by decide +kernel
theorem eX5_remove_31 : decode (zYb kX5_remove) 31 = .ok (.iconst 1, 1) := by decide +kernel
theorem eX5_remove_32 : decode (zYb kX5_remove) 32 = .ok (.iadd, 1) := by decide +kernel
theorem eX5_remove_33 : decode (zYb kX5_remove) 33 = .ok (.aload_n 0, 1) := by decide +kernel
theorem eX5_remove_34 : decode (zYb kX5_remove) 34 = .ok (.getfield 18, 3) := by decide +kernel
theorem eX5_remove_37 : decode (zYb kX5_remove) 37 = .ok (.if_icmp .ge 23, 3) := by decide +kernel
theorem eX5_remove_40 : decode (zYb kX5_remove) 40 = .ok (.aload_n 0, 1) := by decide +kernel
theorem eX5_remove_41 : decode (zYb kX5_remove) 41 = .ok (.getfield 11, 3) := by decide +kernel
theorem eX5_remove_44 : decode (zYb kX5_remove) 44 = .ok (.iload_n 3, 1) := by decide +kernel
theorem eX5_remove_45 : decode (zYb kX5_remove) 45 = .ok (.aload_n 0, 1) := by decide +kernel
theorem eX5_remove_46 : decode (zYb kX5_remove) 46 = .ok (.getfield 11, 3) := by decide +kernel
theorem eX5_remove_49 : decode (zYb kX5_remove) 49 = .ok (.iload_n 3, 1) := by decide +kernel
theorem eX5_remove_50 : decode (zYb kX5_remove) 50 = .ok (.iconst 1, 1) := by decide +kernel
theorem eX5_remove_51 : decode (zYb kX5_remove) 51 = .ok (.iadd, 1) := by decide +kernel
theorem eX5_remove_52 : decode (zYb kX5_remove) 52 = .ok (.aaload, 1) := by decide +kernel
theorem eX5_remove_53 : decode (zYb kX5_remove) 53 = .ok (.aastore, 1) := by decide +kernel
theorem eX5_remove_54 : decode (zYb kX5_remove) 54 = .ok (.iinc 3 1, 3) := by decide +kernel
theorem eX5_remove_57 : decode (zYb kX5_remove) 57 = .ok (.goto (-27), 3) := by decide +kernel
theorem eX5_remove_60 : decode (zYb kX5_remove) 60 = .ok (.aload_n 0, 1) := by decide +kernel
theorem eX5_remove_61 : decode (zYb kX5_remove) 61 = .ok (.getfield 11, 3) := by decide +kernel
theorem eX5_remove_64 : decode (zYb kX5_remove) 64 = .ok (.aload_n 0, 1) := by decide +kernel
theorem eX5_remove_65 : decode (zYb kX5_remove) 65 = .ok (.getfield 18, 3) := by decide +kernel
theorem eX5_remove_68 : decode (zYb kX5_remove) 68 = .ok (.iconst 1, 1) := by decide +kernel
theorem eX5_remove_69 : decode (zYb kX5_remove) 69 = .ok (.isub, 1) := by decide +kernel
theorem eX5_remove_70 : decode (zYb kX5_remove) 70 = .ok (.aload_n 2, 1) := by decide +kernel
theorem eX5_remove_71 : decode (zYb kX5_remove) 71 = .ok (.aastore, 1) := by decide +kernel
theorem eX5_remove_72 : decode (zYb kX5_remove) 72 = .ok (.aload_n 0, 1) := by decide +kernel
theorem eX5_remove_73 : decode (zYb kX5_remove) 73 = .ok (.dup, 1) := by decide +kernel
theorem eX5_remove_74 : decode (zYb kX5_remove) 74 = .ok (.getfield 18, 3) := by decide +kernel
theorem eX5_remove_77 : decode (zYb kX5_remove) 77 = .ok (.iconst 1, 1) := by decide +kernel
theorem eX5_remove_78 : decode (zYb kX5_remove) 78 = .ok (.isub, 1) := by decide +kernel
theorem eX5_remove_79 : decode (zYb kX5_remove) 79 = .ok (.putfield 18, 3) := by decide +kernel
theorem eX5_remove_82 : decode (zYb kX5_remove) 82 = .ok (.return_, 1) := by decide +kernel
theorem eX5_copyFrom_0 : decode (zYb kX5_copyFrom) 0 = .ok (.aload_n 0, 1) := by decide +kernel
theorem eX5_copyFrom_1 : decode (zYb kX5_copyFrom) 1 = .ok (.aload_n 1, 1) := by decide +kernel
theorem eX5_copyFrom_2 : decode (zYb kX5_copyFrom) 2 = .ok (.getfield 18, 3) := by decide +kernel
theorem eX5_copyFrom_5 : decode (zYb kX5_copyFrom) 5 = .ok (.putfield 18, 3) := by decide +kernel
theorem eX5_copyFrom_8 : decode (zYb kX5_copyFrom) 8 = .ok (.iconst 0, 1) := by decide +kernel
theorem eX5_copyFrom_9 : decode (zYb kX5_copyFrom) 9 = .ok (.istore_n 2, 1) := by decide +kernel
theorem eX5_copyFrom_10 : decode (zYb kX5_copyFrom) 10 = .ok (.iload_n 2, 1) := by decide +kernel
theorem eX5_copyFrom_11 : decode (zYb kX5_copyFrom) 11 = .ok (.aload_n 0, 1) := by decide +kernel
theorem eX5_copyFrom_12 : decode (zYb kX5_copyFrom) 12 = .ok (.getfield 18, 3) := by decide +kernel
theorem eX5_copyFrom_15 : decode (zYb kX5_copyFrom) 15 = .ok (.if_icmp .ge 37, 3) := by decide +kernel
theorem eX5_copyFrom_18 : decode (zYb kX5_copyFrom) 18 = .ok (.aload_n 1, 1) := by decide +kernel
theorem eX5_copyFrom_19 : decode (zYb kX5_copyFrom) 19 = .ok (.iload_n 2, 1) := by decide +kernel
theorem eX5_copyFrom_20 : decode (zYb kX5_copyFrom) 20 = .ok (.invokevirtual 22, 3) := by decide +kernel
theorem eX5_copyFrom_23 : decode (zYb kX5_copyFrom) 23 = .ok (.astore_n 3, 1) := by decide +kernel
theorem eX5_copyFrom_24 : decode (zYb kX5_copyFrom) 24 = .ok (.aload_n 0, 1) := by decide +kernel
theorem eX5_copyFrom_25 : decode (zYb kX5_copyFrom) 25 = .ok (.iload_n 2, 1) := by decide +kernel
theorem eX5_copyFrom_26 : decode (zYb kX5_copyFrom) 26 = .ok (.invokevirtual 22, 3) := by decide +kernel
theorem eX5_copyFrom_29 : decode (zYb kX5_copyFrom) 29 = .ok (.astore 4, 2) := by decide +kernel
theorem eX5_copyFrom_31 : decode (zYb kX5_copyFrom) 31 = .ok (.aload_n 3, 1) := by decide +kernel
theorem eX5_copyFrom_32 : decode (zYb kX5_copyFrom) 32 = .ok (.ifnull 14, 3) := by decide +kernel
theorem eX5_copyFrom_35 : decode (zYb kX5_copyFrom) 35 = .ok (.aload 4, 2) := by decide +kernel
theorem eX5_copyFrom_37 : decode (zYb kX5_copyFrom) 37 = .ok (.ifnull 9, 3) := by decide +kernel
theorem eX5_copyFrom_40 : decode (zYb kX5_copyFrom) 40 = .ok (.aload 4, 2) := by decide +kernel
theorem eX5_copyFrom_42 : decode (zYb kX5_copyFrom) 42 = .ok (.aload_n 3, 1) := by decide +kernel
theorem eX5_copyFrom_43 : decode (zYb kX5_copyFrom) 43 = .ok (.invokevirtual 29, 3) := by decide +kernel
theorem eX5_copyFrom_46 : decode (zYb kX5_copyFrom) 46 = .ok (.iinc 2 1, 3) := by decide +kernel
theorem eX5_copyFrom_49 : decode (zYb kX5_copyFrom) 49 = .ok (.goto (-39), 3) := by decide +kernel
theorem eX5_copyFrom_52 : decode (zYb kX5_copyFrom) 52 = .ok (.return_, 1) := by decide +kernel
theorem eX5_patchesOfAll_0 : decode (zYb kX5_patchesOfAll) 0 = .ok (.iconst 0, 1) := by decide +kernel
theorem eX5_patchesOfAll_1 : decode (zYb kX5_patchesOfAll) 1 = .ok (.istore_n 1, 1) := by decide +kernel
theorem eX5_patchesOfAll_2 : decode (zYb kX5_patchesOfAll) 2 = .ok (.iconst 0, 1) := by decide +kernel
theorem eX5_patchesOfAll_3 : decode (zYb kX5_patchesOfAll) 3 = .ok (.istore_n 2, 1) := by decide +kernel
theorem eX5_patchesOfAll_4 : decode (zYb kX5_patchesOfAll) 4 = .ok (.iload_n 2, 1) := by decide +kernel
theorem eX5_patchesOfAll_5 : decode (zYb kX5_patchesOfAll) 5 = .ok (.aload_n 0, 1) := by decide +kernel
theorem eX5_patchesOfAll_6 : decode (zYb kX5_patchesOfAll) 6 = .ok (.getfield 18, 3) := by decide +kernel
theorem eX5_patchesOfAll_9 : decode (zYb kX5_patchesOfAll) 9 = .ok (.if_icmp .ge 30, 3) := by decide +kernel
theorem eX5_patchesOfAll_12 : decode (zYb kX5_patchesOfAll) 12 = .ok (.aload_n 0, 1) := by decide +kernel
theorem eX5_patchesOfAll_13 : decode (zYb kX5_patchesOfAll) 13 = .ok (.iload_n 2, 1) := by decide +kernel
theorem eX5_patchesOfAll_14 : decode (zYb kX5_patchesOfAll) 14 = .ok (.invokevirtual 22, 3) := by decide +kernel
theorem eX5_patchesOfAll_17 : decode (zYb kX5_patchesOfAll) 17 = .ok (.astore_n 3, 1) := by decide +kernel
theorem eX5_patchesOfAll_18 : decode (zYb kX5_patchesOfAll) 18 = .ok (.iload_n 1, 1) := by decide +kernel
theorem eX5_patchesOfAll_19 : decode (zYb kX5_patchesOfAll) 19 = .ok (.aload_n 3, 1) := by decide +kernel
theorem eX5_patchesOfAll_20 : decode (zYb kX5_patchesOfAll) 20 = .ok (.ifnonnull 7, 3) := by decide +kernel
theorem eX5_patchesOfAll_23 : decode (zYb kX5_patchesOfAll) 23 = .ok (.iconst 0, 1) := by decide +kernel
theorem eX5_patchesOfAll_24 : decode (zYb kX5_patchesOfAll) 24 = .ok (.goto 7, 3) := by decide +kernel
theorem eX5_patchesOfAll_27 : decode (zYb kX5_patchesOfAll) 27 = .ok (.aload_n 3, 1) := by decide +kernel
theorem eX5_patchesOfAll_28 : decode (zYb kX5_patchesOfAll) 28 = .ok (.getfield 33, 3) := by decide +kernel
theorem eX5_patchesOfAll_31 : decode (zYb kX5_patchesOfAll) 31 = .ok (.iadd, 1) := by decide +kernel
theorem eX5_patchesOfAll_32 : decode (zYb kX5_patchesOfAll) 32 = .ok (.istore_n 1, 1) := by decide +kernel
theorem eX5_patchesOfAll_33 : decode (zYb kX5_patchesOfAll) 33 = .ok (.iinc 2 1, 3) := by decide +kernel
theorem eX5_patchesOfAll_36 : decode (zYb kX5_patchesOfAll) 36 = .ok (.goto (-32), 3) := by decide +kernel
theorem eX5_patchesOfAll_39 : decode (zYb kX5_patchesOfAll) 39 = .ok (.iload_n 1, 1) := by decide +kernel
theorem eX5_patchesOfAll_40 : decode (zYb kX5_patchesOfAll) 40 = .ok (.ireturn, 1) := by decide +kernel
theorem eX5_lettersOfAll_0 : decode (zYb kX5_lettersOfAll) 0 = .ok (.iconst 0, 1) := by decide +kernel
theorem eX5_lettersOfAll_1 : decode (zYb kX5_lettersOfAll) 1 = .ok (.istore_n 1, 1) := by decide +kernel
theorem eX5_lettersOfAll_2 : decode (zYb kX5_lettersOfAll) 2 = .ok (.iconst 0, 1) := by decide +kernel
theorem eX5_lettersOfAll_3 : decode (zYb kX5_lettersOfAll) 3 = .ok (.istore_n 2, 1) := by decide +kernel
theorem eX5_lettersOfAll_4 : decode (zYb kX5_lettersOfAll) 4 = .ok (.iload_n 2, 1) := by decide +kernel
theorem eX5_lettersOfAll_5 : decode (zYb kX5_lettersOfAll) 5 = .ok (.aload_n 0, 1) := by decide +kernel
theorem eX5_lettersOfAll_6 : decode (zYb kX5_lettersOfAll) 6 = .ok (.getfield 18, 3) := by decide +kernel
theorem eX5_lettersOfAll_9 : decode (zYb kX5_lettersOfAll) 9 = .ok (.if_icmp .ge 30, 3) := by decide +kernel
theorem eX5_lettersOfAll_12 : decode (zYb kX5_lettersOfAll) 12 = .ok (.aload_n 0, 1) := by decide +kernel
theorem eX5_lettersOfAll_13 : decode (zYb kX5_lettersOfAll) 13 = .ok (.iload_n 2, 1) := by decide +kernel
theorem eX5_lettersOfAll_14 : decode (zYb kX5_lettersOfAll) 14 = .ok (.invokevirtual 22, 3) := by decide +kernel
theorem eX5_lettersOfAll_17 : decode (zYb kX5_lettersOfAll) 17 = .ok (.astore_n 3, 1) := by decide +kernel
theorem eX5_lettersOfAll_18 : decode (zYb kX5_lettersOfAll) 18 = .ok (.iload_n 1, 1) := by decide +kernel
theorem eX5_lettersOfAll_19 : decode (zYb kX5_lettersOfAll) 19 = .ok (.aload_n 3, 1) := by decide +kernel
theorem eX5_lettersOfAll_20 : decode (zYb kX5_lettersOfAll) 20 = .ok (.ifnonnull 7, 3) := by decide +kernel
theorem eX5_lettersOfAll_23 : decode (zYb kX5_lettersOfAll) 23 = .ok (.iconst 0, 1) := by decide +kernel
theorem eX5_lettersOfAll_24 : decode (zYb kX5_lettersOfAll) 24 = .ok (.goto 7, 3) := by decide +kernel
theorem eX5_lettersOfAll_27 : decode (zYb kX5_lettersOfAll) 27 = .ok (.aload_n 3, 1) := by decide +kernel
theorem eX5_lettersOfAll_28 : decode (zYb kX5_lettersOfAll) 28 = .ok (.invokevirtual 36, 3) := by decide +kernel
theorem eX5_lettersOfAll_31 : decode (zYb kX5_lettersOfAll) 31 = .ok (.iadd, 1) := by decide +kernel
theorem eX5_lettersOfAll_32 : decode (zYb kX5_lettersOfAll) 32 = .ok (.istore_n 1, 1) := by decide +kernel
theorem eX5_lettersOfAll_33 : decode (zYb kX5_lettersOfAll) 33 = .ok (.iinc 2 1, 3) := by decide +kernel
theorem eX5_lettersOfAll_36 : decode (zYb kX5_lettersOfAll) 36 = .ok (.goto (-32), 3) := by decide +kernel
theorem eX5_lettersOfAll_39 : decode (zYb kX5_lettersOfAll) 39 = .ok (.iload_n 1, 1) := by decide +kernel
theorem eX5_lettersOfAll_40 : decode (zYb kX5_lettersOfAll) 40 = .ok (.ireturn, 1) := by decide +kernel
theorem eX5_tellsBefore_0 : decode (zYb kX5_tellsBefore) 0 = .ok (.iconst 0, 1) := by decide +kernel
theorem eX5_tellsBefore_1 : decode (zYb kX5_tellsBefore) 1 = .ok (.istore 4, 2) := by decide +kernel
theorem eX5_tellsBefore_3 : decode (zYb kX5_tellsBefore) 3 = .ok (.iload 4, 2) := by decide +kernel
theorem eX5_tellsBefore_5 : decode (zYb kX5_tellsBefore) 5 = .ok (.iload_n 1, 1) := by decide +kernel
theorem eX5_tellsBefore_6 : decode (zYb kX5_tellsBefore) 6 = .ok (.if_icmp .ge 34, 3) := by decide +kernel
theorem eX5_tellsBefore_9 : decode (zYb kX5_tellsBefore) 9 = .ok (.aload_n 0, 1) := by decide +kernel
theorem eX5_tellsBefore_10 : decode (zYb kX5_tellsBefore) 10 = .ok (.iload 4, 2) := by decide +kernel
theorem eX5_tellsBefore_12 : decode (zYb kX5_tellsBefore) 12 = .ok (.invokevirtual 22, 3) := by decide +kernel
theorem eX5_tellsBefore_15 : decode (zYb kX5_tellsBefore) 15 = .ok (.astore 5, 2) := by decide +kernel
theorem eX5_tellsBefore_17 : decode (zYb kX5_tellsBefore) 17 = .ok (.aload 5, 2) := by decide +kernel
theorem eX5_tellsBefore_19 : decode (zYb kX5_tellsBefore) 19 = .ok (.ifnull 15, 3) := by decide +kernel
theorem eX5_tellsBefore_22 : decode (zYb kX5_tellsBefore) 22 = .ok (.aload 5, 2) := by decide +kernel
theorem eX5_tellsBefore_24 : decode (zYb kX5_tellsBefore) 24 = .ok (.aload_n 2, 1) := by decide +kernel
theorem eX5_tellsBefore_25 : decode (zYb kX5_tellsBefore) 25 = .ok (.iload_n 3, 1) := by decide +kernel
theorem eX5_tellsBefore_26 : decode (zYb kX5_tellsBefore) 26 = .ok (.invokevirtual 40, 3) := by decide +kernel
theorem eX5_tellsBefore_29 : decode (zYb kX5_tellsBefore) 29 = .ok (.ifCond .eq 5, 3) := by decide +kernel
theorem eX5_tellsBefore_32 : decode (zYb kX5_tellsBefore) 32 = .ok (.iconst 1, 1) := by decide +kernel
theorem eX5_tellsBefore_33 : decode (zYb kX5_tellsBefore) 33 = .ok (.ireturn, 1) := by decide +kernel
theorem eX5_tellsBefore_34 : decode (zYb kX5_tellsBefore) 34 = .ok (.iinc 4 1, 3) := by decide +kernel
theorem eX5_tellsBefore_37 : decode (zYb kX5_tellsBefore) 37 = .ok (.goto (-34), 3) := by decide +kernel
theorem eX5_tellsBefore_40 : decode (zYb kX5_tellsBefore) 40 = .ok (.iconst 0, 1) := by decide +kernel
theorem eX5_tellsBefore_41 : decode (zYb kX5_tellsBefore) 41 = .ok (.ireturn, 1) := by decide +kernel
