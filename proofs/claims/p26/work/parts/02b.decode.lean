theorem eX6_init_0 : decode (zYb kX6_init) 0 = .ok (.aload_n 0, 1) := by decide +kernel
theorem eX6_init_1 : decode (zYb kX6_init) 1 = .ok (.invokespecial 1, 3) := by decide +kernel
theorem eX6_init_4 : decode (zYb kX6_init) 4 = .ok (.aload_n 0, 1) := by decide +kernel
theorem eX6_init_5 : decode (zYb kX6_init) 5 = .ok (.new 7, 3) := by decide +kernel
theorem eX6_init_8 : decode (zYb kX6_init) 8 = .ok (.dup, 1) := by decide +kernel
theorem eX6_init_9 : decode (zYb kX6_init) 9 = .ok (.invokespecial 9, 3) := by decide +kernel
theorem eX6_init_12 : decode (zYb kX6_init) 12 = .ok (.putfield 10, 3) := by decide +kernel
theorem eX6_init_15 : decode (zYb kX6_init) 15 = .ok (.aload_n 0, 1) := by decide +kernel
theorem eX6_init_16 : decode (zYb kX6_init) 16 = .ok (.new 16, 3) := by decide +kernel
theorem eX6_init_19 : decode (zYb kX6_init) 19 = .ok (.dup, 1) := by decide +kernel
theorem eX6_init_20 : decode (zYb kX6_init) 20 = .ok (.invokespecial 18, 3) := by decide +kernel
theorem eX6_init_23 : decode (zYb kX6_init) 23 = .ok (.putfield 19, 3) := by decide +kernel
theorem eX6_init_26 : decode (zYb kX6_init) 26 = .ok (.aload_n 0, 1) := by decide +kernel
theorem eX6_init_27 : decode (zYb kX6_init) 27 = .ok (.new 23, 3) := by decide +kernel
theorem eX6_init_30 : decode (zYb kX6_init) 30 = .ok (.dup, 1) := by decide +kernel
theorem eX6_init_31 : decode (zYb kX6_init) 31 = .ok (.invokespecial 25, 3) := by decide +kernel
theorem eX6_init_34 : decode (zYb kX6_init) 34 = .ok (.putfield 26, 3) := by decide +kernel
theorem eX6_init_37 : decode (zYb kX6_init) 37 = .ok (.aload_n 0, 1) := by decide +kernel
theorem eX6_init_38 : decode (zYb kX6_init) 38 = .ok (.iconst 2, 1) := by decide +kernel
theorem eX6_init_39 : decode (zYb kX6_init) 39 = .ok (.anewarray 7, 3) := by decide +kernel
theorem eX6_init_42 : decode (zYb kX6_init) 42 = .ok (.putfield 30, 3) := by decide +kernel
theorem eX6_init_45 : decode (zYb kX6_init) 45 = .ok (.aload_n 0, 1) := by decide +kernel
theorem eX6_init_46 : decode (zYb kX6_init) 46 = .ok (.iconst 2, 1) := by decide +kernel
theorem eX6_init_47 : decode (zYb kX6_init) 47 = .ok (.newarray .boolean, 2) := by decide +kernel
theorem eX6_init_49 : decode (zYb kX6_init) 49 = .ok (.putfield 34, 3) := by decide +kernel
theorem eX6_init_52 : decode (zYb kX6_init) 52 = .ok (.aload_n 0, 1) := by decide +kernel
theorem eX6_init_53 : decode (zYb kX6_init) 53 = .ok (.new 38, 3) := by decide +kernel
theorem eX6_init_56 : decode (zYb kX6_init) 56 = .ok (.dup, 1) := by decide +kernel
theorem eX6_init_57 : decode (zYb kX6_init) 57 = .ok (.invokespecial 40, 3) := by decide +kernel
theorem eX6_init_60 : decode (zYb kX6_init) 60 = .ok (.putfield 41, 3) := by decide +kernel
theorem eX6_init_63 : decode (zYb kX6_init) 63 = .ok (.aload_n 0, 1) := by decide +kernel
theorem eX6_init_64 : decode (zYb kX6_init) 64 = .ok (.new 45, 3) := by decide +kernel
theorem eX6_init_67 : decode (zYb kX6_init) 67 = .ok (.dup, 1) := by decide +kernel
theorem eX6_init_68 : decode (zYb kX6_init) 68 = .ok (.invokespecial 47, 3) := by decide +kernel
theorem eX6_init_71 : decode (zYb kX6_init) 71 = .ok (.putfield 48, 3) := by decide +kernel
theorem eX6_init_74 : decode (zYb kX6_init) 74 = .ok (.aload_n 0, 1) := by decide +kernel
theorem eX6_init_75 : decode (zYb kX6_init) 75 = .ok (.bipush 60, 2) := by decide +kernel
theorem eX6_init_77 : decode (zYb kX6_init) 77 = .ok (.newarray .int, 2) := by decide +kernel
theorem eX6_init_79 : decode (zYb kX6_init) 79 = .ok (.putfield 52, 3) := by decide +kernel
theorem eX6_init_82 : decode (zYb kX6_init) 82 = .ok (.iconst 0, 1) := by decide +kernel
theorem eX6_init_83 : decode (zYb kX6_init) 83 = .ok (.istore_n 1, 1) := by decide +kernel
theorem eX6_init_84 : decode (zYb kX6_init) 84 = .ok (.iload_n 1, 1) := by decide +kernel
theorem eX6_init_85 : decode (zYb kX6_init) 85 = .ok (.iconst 2, 1) := by decide +kernel
theorem eX6_init_86 : decode (zYb kX6_init) 86 = .ok (.if_icmp .ge 22, 3) := by decide +kernel
theorem eX6_init_89 : decode (zYb kX6_init) 89 = .ok (.aload_n 0, 1) := by decide +kernel
theorem eX6_init_90 : decode (zYb kX6_init) 90 = .ok (.getfield 30, 3) := by decide +kernel
theorem eX6_init_93 : decode (zYb kX6_init) 93 = .ok (.iload_n 1, 1) := by decide +kernel
theorem eX6_init_94 : decode (zYb kX6_init) 94 = .ok (.new 7, 3) := by decide +kernel
theorem eX6_init_97 : decode (zYb kX6_init) 97 = .ok (.dup, 1) := by decide +kernel
theorem eX6_init_98 : decode (zYb kX6_init) 98 = .ok (.invokespecial 9, 3) := by decide +kernel
theorem eX6_init_101 : decode (zYb kX6_init) 101 = .ok (.aastore, 1) := by decide +kernel
theorem eX6_init_102 : decode (zYb kX6_init) 102 = .ok (.iinc 1 1, 3) := by decide +kernel
theorem eX6_init_105 : decode (zYb kX6_init) 105 = .ok (.goto (-21), 3) := by decide +kernel
theorem eX6_init_108 : decode (zYb kX6_init) 108 = .ok (.return_, 1) := by decide +kernel
theorem eX6_sew_0 : decode (zYb kX6_sew) 0 = .ok (.aload_n 0, 1) := by decide +kernel
theorem eX6_sew_1 : decode (zYb kX6_sew) 1 = .ok (.getfield 19, 3) := by decide +kernel
theorem eX6_sew_4 : decode (zYb kX6_sew) 4 = .ok (.invokevirtual 56, 3) := by decide +kernel
theorem eX6_sew_7 : decode (zYb kX6_sew) 7 = .ok (.bipush (-6), 2) := by decide +kernel
theorem eX6_sew_9 : decode (zYb kX6_sew) 9 = .ok (.if_icmp .eq 6, 3) := by decide +kernel
theorem eX6_sew_12 : decode (zYb kX6_sew) 12 = .ok (.bipush (-3), 2) := by decide +kernel
theorem eX6_sew_14 : decode (zYb kX6_sew) 14 = .ok (.ireturn, 1) := by decide +kernel
theorem eX6_sew_15 : decode (zYb kX6_sew) 15 = .ok (.aload_n 0, 1) := by decide +kernel
theorem eX6_sew_16 : decode (zYb kX6_sew) 16 = .ok (.getfield 10, 3) := by decide +kernel
theorem eX6_sew_19 : decode (zYb kX6_sew) 19 = .ok (.getfield 60, 3) := by decide +kernel
theorem eX6_sew_22 : decode (zYb kX6_sew) 22 = .ok (.aload_n 0, 1) := by decide +kernel
theorem eX6_sew_23 : decode (zYb kX6_sew) 23 = .ok (.getfield 19, 3) := by decide +kernel
theorem eX6_sew_26 : decode (zYb kX6_sew) 26 = .ok (.invokevirtual 64, 3) := by decide +kernel
theorem eX6_sew_29 : decode (zYb kX6_sew) 29 = .ok (.iadd, 1) := by decide +kernel
theorem eX6_sew_30 : decode (zYb kX6_sew) 30 = .ok (.iconst 5, 1) := by decide +kernel
theorem eX6_sew_31 : decode (zYb kX6_sew) 31 = .ok (.if_icmp .le 6, 3) := by decide +kernel
theorem eX6_sew_34 : decode (zYb kX6_sew) 34 = .ok (.bipush (-4), 2) := by decide +kernel
theorem eX6_sew_36 : decode (zYb kX6_sew) 36 = .ok (.ireturn, 1) := by decide +kernel
theorem eX6_sew_37 : decode (zYb kX6_sew) 37 = .ok (.aload_n 0, 1) := by decide +kernel
theorem eX6_sew_38 : decode (zYb kX6_sew) 38 = .ok (.getfield 26, 3) := by decide +kernel
theorem eX6_sew_41 : decode (zYb kX6_sew) 41 = .ok (.aload_n 0, 1) := by decide +kernel
theorem eX6_sew_42 : decode (zYb kX6_sew) 42 = .ok (.getfield 10, 3) := by decide +kernel
theorem eX6_sew_45 : decode (zYb kX6_sew) 45 = .ok (.invokevirtual 67, 3) := by decide +kernel
theorem eX6_sew_48 : decode (zYb kX6_sew) 48 = .ok (.aload_n 0, 1) := by decide +kernel
theorem eX6_sew_49 : decode (zYb kX6_sew) 49 = .ok (.invokevirtual 71, 3) := by decide +kernel
theorem eX6_sew_52 : decode (zYb kX6_sew) 52 = .ok (.aload_n 0, 1) := by decide +kernel
theorem eX6_sew_53 : decode (zYb kX6_sew) 53 = .ok (.getfield 19, 3) := by decide +kernel
theorem eX6_sew_56 : decode (zYb kX6_sew) 56 = .ok (.invokevirtual 74, 3) := by decide +kernel
theorem eX6_sew_59 : decode (zYb kX6_sew) 59 = .ok (.aload_n 0, 1) := by decide +kernel
theorem eX6_sew_60 : decode (zYb kX6_sew) 60 = .ok (.getfield 10, 3) := by decide +kernel
theorem eX6_sew_63 : decode (zYb kX6_sew) 63 = .ok (.getfield 60, 3) := by decide +kernel
theorem eX6_sew_66 : decode (zYb kX6_sew) 66 = .ok (.ireturn, 1) := by decide +kernel
theorem eX6_burn_0 : decode (zYb kX6_burn) 0 = .ok (.aload_n 0, 1) := by decide +kernel
theorem eX6_burn_1 : decode (zYb kX6_burn) 1 = .ok (.getfield 10, 3) := by decide +kernel
theorem eX6_burn_4 : decode (zYb kX6_burn) 4 = .ok (.iload_n 1, 1) := by decide +kernel
theorem eX6_burn_5 : decode (zYb kX6_burn) 5 = .ok (.invokevirtual 77, 3) := by decide +kernel
theorem eX6_burn_8 : decode (zYb kX6_burn) 8 = .ok (.astore_n 2, 1) := by decide +kernel
theorem eX6_burn_9 : decode (zYb kX6_burn) 9 = .ok (.aload_n 2, 1) := by decide +kernel
theorem eX6_burn_10 : decode (zYb kX6_burn) 10 = .ok (.ifnonnull 5, 3) := by decide +kernel
theorem eX6_burn_13 : decode (zYb kX6_burn) 13 = .ok (.iconst (-1), 1) := by decide +kernel
theorem eX6_burn_14 : decode (zYb kX6_burn) 14 = .ok (.ireturn, 1) := by decide +kernel
theorem eX6_burn_15 : decode (zYb kX6_burn) 15 = .ok (.aload_n 0, 1) := by decide +kernel
theorem eX6_burn_16 : decode (zYb kX6_burn) 16 = .ok (.getfield 26, 3) := by decide +kernel
theorem eX6_burn_19 : decode (zYb kX6_burn) 19 = .ok (.aload_n 0, 1) := by decide +kernel
theorem eX6_burn_20 : decode (zYb kX6_burn) 20 = .ok (.getfield 10, 3) := by decide +kernel
theorem eX6_burn_23 : decode (zYb kX6_burn) 23 = .ok (.invokevirtual 67, 3) := by decide +kernel
theorem eX6_burn_26 : decode (zYb kX6_burn) 26 = .ok (.aload_n 2, 1) := by decide +kernel
theorem eX6_burn_27 : decode (zYb kX6_burn) 27 = .ok (.invokevirtual 81, 3) := by decide +kernel
theorem eX6_burn_30 : decode (zYb kX6_burn) 30 = .ok (.istore_n 3, 1) := by decide +kernel
theorem eX6_burn_31 : decode (zYb kX6_burn) 31 = .ok (.aload_n 0, 1) := by decide +kernel
theorem eX6_burn_32 : decode (zYb kX6_burn) 32 = .ok (.getfield 10, 3) := by decide +kernel
theorem eX6_burn_35 : decode (zYb kX6_burn) 35 = .ok (.iload_n 1, 1) := by decide +kernel
theorem eX6_burn_36 : decode (zYb kX6_burn) 36 = .ok (.invokevirtual 84, 3) := by decide +kernel
theorem eX6_burn_39 : decode (zYb kX6_burn) 39 = .ok (.iload_n 3, 1) := by decide +kernel
theorem eX6_burn_40 : decode (zYb kX6_burn) 40 = .ok (.ireturn, 1) := by decide +kernel
theorem eX6_cut_0 : decode (zYb kX6_cut) 0 = .ok (.aload_n 0, 1) := by decide +kernel
theorem eX6_cut_1 : decode (zYb kX6_cut) 1 = .ok (.getfield 10, 3) := by decide +kernel
theorem eX6_cut_4 : decode (zYb kX6_cut) 4 = .ok (.iload_n 1, 1) := by decide +kernel
theorem eX6_cut_5 : decode (zYb kX6_cut) 5 = .ok (.invokevirtual 77, 3) := by decide +kernel
theorem eX6_cut_8 : decode (zYb kX6_cut) 8 = .ok (.astore 4, 2) := by decide +kernel
theorem eX6_cut_10 : decode (zYb kX6_cut) 10 = .ok (.aload 4, 2) := by decide +kernel
theorem eX6_cut_12 : decode (zYb kX6_cut) 12 = .ok (.ifnull 12, 3) := by decide +kernel
theorem eX6_cut_15 : decode (zYb kX6_cut) 15 = .ok (.aload 4, 2) := by decide +kernel
theorem eX6_cut_17 : decode (zYb kX6_cut) 17 = .ok (.iload_n 2, 1) := by decide +kernel
theorem eX6_cut_18 : decode (zYb kX6_cut) 18 = .ok (.invokevirtual 88, 3) := by decide +kernel
theorem eX6_cut_21 : decode (zYb kX6_cut) 21 = .ok (.ifCond .ne 5, 3) := by decide +kernel
theorem eX6_cut_24 : decode (zYb kX6_cut) 24 = .ok (.iconst (-1), 1) := by decide +kernel
theorem eX6_cut_25 : decode (zYb kX6_cut) 25 = .ok (.ireturn, 1) := by decide +kernel
theorem eX6_cut_26 : decode (zYb kX6_cut) 26 = .ok (.aload 4, 2) := by decide +kernel
theorem eX6_cut_28 : decode (zYb kX6_cut) 28 = .ok (.iload_n 2, 1) := by decide +kernel
theorem eX6_cut_29 : decode (zYb kX6_cut) 29 = .ok (.iload_n 3, 1) := by decide +kernel
theorem eX6_cut_30 : decode (zYb kX6_cut) 30 = .ok (.invokevirtual 92, 3) := by decide +kernel
theorem eX6_cut_33 : decode (zYb kX6_cut) 33 = .ok (.ifCond .ne 6, 3) := by decide +kernel
theorem eX6_cut_36 : decode (zYb kX6_cut) 36 = .ok (.bipush (-2), 2) := by decide +kernel
theorem eX6_cut_38 : decode (zYb kX6_cut) 38 = .ok (.ireturn, 1) := by decide +kernel
theorem eX6_cut_39 : decode (zYb kX6_cut) 39 = .ok (.aload 4, 2) := by decide +kernel
theorem eX6_cut_41 : decode (zYb kX6_cut) 41 = .ok (.getfield 96, 3) := by decide +kernel
theorem eX6_cut_44 : decode (zYb kX6_cut) 44 = .ok (.iconst 5, 1) := by decide +kernel
theorem eX6_cut_45 : decode (zYb kX6_cut) 45 = .ok (.if_icmp .lt 6, 3) := by decide +kernel
theorem eX6_cut_48 : decode (zYb kX6_cut) 48 = .ok (.bipush (-4), 2) := by decide +kernel
theorem eX6_cut_50 : decode (zYb kX6_cut) 50 = .ok (.ireturn, 1) := by decide +kernel
theorem eX6_cut_51 : decode (zYb kX6_cut) 51 = .ok (.aload_n 0, 1) := by decide +kernel
theorem eX6_cut_52 : decode (zYb kX6_cut) 52 = .ok (.getfield 26, 3) := by decide +kernel
theorem eX6_cut_55 : decode (zYb kX6_cut) 55 = .ok (.aload_n 0, 1) := by decide +kernel
theorem eX6_cut_56 : decode (zYb kX6_cut) 56 = .ok (.getfield 10, 3) := by decide +kernel
theorem eX6_cut_59 : decode (zYb kX6_cut) 59 = .ok (.invokevirtual 67, 3) := by decide +kernel
theorem eX6_cut_62 : decode (zYb kX6_cut) 62 = .ok (.aload 4, 2) := by decide +kernel
theorem eX6_cut_64 : decode (zYb kX6_cut) 64 = .ok (.iload_n 2, 1) := by decide +kernel
theorem eX6_cut_65 : decode (zYb kX6_cut) 65 = .ok (.iload_n 3, 1) := by decide +kernel
theorem eX6_cut_66 : decode (zYb kX6_cut) 66 = .ok (.invokevirtual 99, 3) := by decide +kernel
theorem eX6_cut_69 : decode (zYb kX6_cut) 69 = .ok (.aload 4, 2) := by decide +kernel
theorem eX6_cut_71 : decode (zYb kX6_cut) 71 = .ok (.getfield 96, 3) := by decide +kernel
theorem eX6_cut_74 : decode (zYb kX6_cut) 74 = .ok (.ireturn, 1) := by decide +kernel
theorem eX6_undoSeam_0 : decode (zYb kX6_undoSeam) 0 = .ok (.aload_n 0, 1) := by decide +kernel
theorem eX6_undoSeam_1 : decode (zYb kX6_undoSeam) 1 = .ok (.getfield 10, 3) := by decide +kernel
theorem eX6_undoSeam_4 : decode (zYb kX6_undoSeam) 4 = .ok (.iload_n 1, 1) := by decide +kernel
theorem eX6_undoSeam_5 : decode (zYb kX6_undoSeam) 5 = .ok (.invokevirtual 77, 3) := by decide +kernel
theorem eX6_undoSeam_8 : decode (zYb kX6_undoSeam) 8 = .ok (.astore_n 3, 1) := by decide +kernel
theorem eX6_undoSeam_9 : decode (zYb kX6_undoSeam) 9 = .ok (.aload_n 3, 1) := by decide +kernel
theorem eX6_undoSeam_10 : decode (zYb kX6_undoSeam) 10 = .ok (.ifnull 11, 3) := by decide +kernel
theorem eX6_undoSeam_13 : decode (zYb kX6_undoSeam) 13 = .ok (.aload_n 3, 1) := by decide +kernel
theorem eX6_undoSeam_14 : decode (zYb kX6_undoSeam) 14 = .ok (.iload_n 2, 1) := by decide +kernel
theorem eX6_undoSeam_15 : decode (zYb kX6_undoSeam) 15 = .ok (.invokevirtual 103, 3) := by decide +kernel
theorem eX6_undoSeam_18 : decode (zYb kX6_undoSeam) 18 = .ok (.ifCond .ne 5, 3) := by decide +kernel
theorem eX6_undoSeam_21 : decode (zYb kX6_undoSeam) 21 = .ok (.iconst (-1), 1) := by decide +kernel
theorem eX6_undoSeam_22 : decode (zYb kX6_undoSeam) 22 = .ok (.ireturn, 1) := by decide +kernel
theorem eX6_undoSeam_23 : decode (zYb kX6_undoSeam) 23 = .ok (.aload_n 3, 1) := by decide +kernel
theorem eX6_undoSeam_24 : decode (zYb kX6_undoSeam) 24 = .ok (.iload_n 2, 1) := by decide +kernel
theorem eX6_undoSeam_25 : decode (zYb kX6_undoSeam) 25 = .ok (.invokevirtual 106, 3) := by decide +kernel
theorem eX6_undoSeam_28 : decode (zYb kX6_undoSeam) 28 = .ok (.aload_n 3, 1) := by decide +kernel
theorem eX6_undoSeam_29 : decode (zYb kX6_undoSeam) 29 = .ok (.iload_n 2, 1) := by decide +kernel
theorem eX6_undoSeam_30 : decode (zYb kX6_undoSeam) 30 = .ok (.iconst 1, 1) := by decide +kernel
theorem eX6_undoSeam_31 : decode (zYb kX6_undoSeam) 31 = .ok (.iadd, 1) := by decide +kernel
theorem eX6_undoSeam_32 : decode (zYb kX6_undoSeam) 32 = .ok (.invokevirtual 106, 3) := by decide +kernel
theorem eX6_undoSeam_35 : decode (zYb kX6_undoSeam) 35 = .ok (.iadd, 1) := by decide +kernel
theorem eX6_undoSeam_36 : decode (zYb kX6_undoSeam) 36 = .ok (.bipush 12, 2) := by decide +kernel
theorem eX6_undoSeam_38 : decode (zYb kX6_undoSeam) 38 = .ok (.if_icmp .le 6, 3) := by decide +kernel
theorem eX6_undoSeam_41 : decode (zYb kX6_undoSeam) 41 = .ok (.bipush (-4), 2) := by decide +kernel
theorem eX6_undoSeam_43 : decode (zYb kX6_undoSeam) 43 = .ok (.ireturn, 1) := by decide +kernel
theorem eX6_undoSeam_44 : decode (zYb kX6_undoSeam) 44 = .ok (.aload_n 0, 1) := by decide +kernel
theorem eX6_undoSeam_45 : decode (zYb kX6_undoSeam) 45 = .ok (.getfield 26, 3) := by decide +kernel
theorem eX6_undoSeam_48 : decode (zYb kX6_undoSeam) 48 = .ok (.aload_n 0, 1) := by decide +kernel
theorem eX6_undoSeam_49 : decode (zYb kX6_undoSeam) 49 = .ok (.getfield 10, 3) := by decide +kernel
theorem eX6_undoSeam_52 : decode (zYb kX6_undoSeam) 52 = .ok (.invokevirtual 67, 3) := by decide +kernel
theorem eX6_undoSeam_55 : decode (zYb kX6_undoSeam) 55 = .ok (.aload_n 3, 1) := by decide +kernel
theorem eX6_undoSeam_56 : decode (zYb kX6_undoSeam) 56 = .ok (.iload_n 2, 1) := by decide +kernel
theorem eX6_undoSeam_57 : decode (zYb kX6_undoSeam) 57 = .ok (.invokevirtual 110, 3) := by decide +kernel
theorem eX6_undoSeam_60 : decode (zYb kX6_undoSeam) 60 = .ok (.aload_n 3, 1) := by decide +kernel
theorem eX6_undoSeam_61 : decode (zYb kX6_undoSeam) 61 = .ok (.getfield 96, 3) := by decide +kernel
theorem eX6_undoSeam_64 : decode (zYb kX6_undoSeam) 64 = .ok (.ireturn, 1) := by decide +kernel
theorem eX6_turn_0 : decode (zYb kX6_turn) 0 = .ok (.aload_n 0, 1) := by decide +kernel
theorem eX6_turn_1 : decode (zYb kX6_turn) 1 = .ok (.getfield 10, 3) := by decide +kernel
theorem eX6_turn_4 : decode (zYb kX6_turn) 4 = .ok (.iload_n 1, 1) := by decide +kernel
theorem eX6_turn_5 : decode (zYb kX6_turn) 5 = .ok (.invokevirtual 77, 3) := by decide +kernel
theorem eX6_turn_8 : decode (zYb kX6_turn) 8 = .ok (.astore_n 3, 1) := by decide +kernel
theorem eX6_turn_9 : decode (zYb kX6_turn) 9 = .ok (.aload_n 3, 1) := by decide +kernel
theorem eX6_turn_10 : decode (zYb kX6_turn) 10 = .ok (.ifnull 11, 3) := by decide +kernel
theorem eX6_turn_13 : decode (zYb kX6_turn) 13 = .ok (.aload_n 3, 1) := by decide +kernel
theorem eX6_turn_14 : decode (zYb kX6_turn) 14 = .ok (.iload_n 2, 1) := by decide +kernel
theorem eX6_turn_15 : decode (zYb kX6_turn) 15 = .ok (.invokevirtual 88, 3) := by decide +kernel
theorem eX6_turn_18 : decode (zYb kX6_turn) 18 = .ok (.ifCond .ne 5, 3) := by decide +kernel
theorem eX6_turn_21 : decode (zYb kX6_turn) 21 = .ok (.iconst (-1), 1) := by decide +kernel
theorem eX6_turn_22 : decode (zYb kX6_turn) 22 = .ok (.ireturn, 1) := by decide +kernel
theorem eX6_turn_23 : decode (zYb kX6_turn) 23 = .ok (.aload_n 0, 1) := by decide +kernel
theorem eX6_turn_24 : decode (zYb kX6_turn) 24 = .ok (.getfield 26, 3) := by decide +kernel
theorem eX6_turn_27 : decode (zYb kX6_turn) 27 = .ok (.aload_n 0, 1) := by decide +kernel
theorem eX6_turn_28 : decode (zYb kX6_turn) 28 = .ok (.getfield 10, 3) := by decide +kernel
theorem eX6_turn_31 : decode (zYb kX6_turn) 31 = .ok (.invokevirtual 67, 3) := by decide +kernel
theorem eX6_turn_34 : decode (zYb kX6_turn) 34 = .ok (.aload_n 3, 1) := by decide +kernel
theorem eX6_turn_35 : decode (zYb kX6_turn) 35 = .ok (.iload_n 2, 1) := by decide +kernel
theorem eX6_turn_36 : decode (zYb kX6_turn) 36 = .ok (.invokevirtual 113, 3) := by decide +kernel
theorem eX6_turn_39 : decode (zYb kX6_turn) 39 = .ok (.istore 4, 2) := by decide +kernel
theorem eX6_turn_41 : decode (zYb kX6_turn) 41 = .ok (.aload_n 3, 1) := by decide +kernel
theorem eX6_turn_42 : decode (zYb kX6_turn) 42 = .ok (.iload_n 2, 1) := by decide +kernel
theorem eX6_turn_43 : decode (zYb kX6_turn) 43 = .ok (.invokevirtual 116, 3) := by decide +kernel
theorem eX6_turn_46 : decode (zYb kX6_turn) 46 = .ok (.iload 4, 2) := by decide +kernel
theorem eX6_turn_48 : decode (zYb kX6_turn) 48 = .ok (.ireturn, 1) := by decide +kernel
theorem eX6_exchange_0 : decode (zYb kX6_exchange) 0 = .ok (.aload_n 0, 1) := by decide +kernel
theorem eX6_exchange_1 : decode (zYb kX6_exchange) 1 = .ok (.getfield 10, 3) := by decide +kernel
theorem eX6_exchange_4 : decode (zYb kX6_exchange) 4 = .ok (.iload_n 1, 1) := by decide +kernel
theorem eX6_exchange_5 : decode (zYb kX6_exchange) 5 = .ok (.invokevirtual 77, 3) := by decide +kernel
theorem eX6_exchange_8 : decode (zYb kX6_exchange) 8 = .ok (.astore_n 3, 1) := by decide +kernel
theorem eX6_exchange_9 : decode (zYb kX6_exchange) 9 = .ok (.aload_n 3, 1) := by decide +kernel
theorem eX6_exchange_10 : decode (zYb kX6_exchange) 10 = .ok (.ifnull 11, 3) := by decide +kernel
theorem eX6_exchange_13 : decode (zYb kX6_exchange) 13 = .ok (.aload_n 3, 1) := by decide +kernel
theorem eX6_exchange_14 : decode (zYb kX6_exchange) 14 = .ok (.iload_n 2, 1) := by decide +kernel
theorem eX6_exchange_15 : decode (zYb kX6_exchange) 15 = .ok (.invokevirtual 103, 3) := by decide +kernel
theorem eX6_exchange_18 : decode (zYb kX6_exchange) 18 = .ok (.ifCond .ne 5, 3) := by decide +kernel
theorem eX6_exchange_21 : decode (zYb kX6_exchange) 21 = .ok (.iconst (-1), 1) := by decide +kernel
theorem eX6_exchange_22 : decode (zYb kX6_exchange) 22 = .ok (.ireturn, 1) := by decide +kernel
theorem eX6_exchange_23 : decode (zYb kX6_exchange) 23 = .ok (.aload_n 0, 1) := by decide +kernel
theorem eX6_exchange_24 : decode (zYb kX6_exchange) 24 = .ok (.getfield 26, 3) := by decide +kernel
theorem eX6_exchange_27 : decode (zYb kX6_exchange) 27 = .ok (.aload_n 0, 1) := by decide +kernel
theorem eX6_exchange_28 : decode (zYb kX6_exchange) 28 = .ok (.getfield 10, 3) := by decide +kernel
theorem eX6_exchange_31 : decode (zYb kX6_exchange) 31 = .ok (.invokevirtual 67, 3) := by decide +kernel
theorem eX6_exchange_34 : decode (zYb kX6_exchange) 34 = .ok (.aload_n 3, 1) := by decide +kernel
theorem eX6_exchange_35 : decode (zYb kX6_exchange) 35 = .ok (.iload_n 2, 1) := by decide +kernel
theorem eX6_exchange_36 : decode (zYb kX6_exchange) 36 = .ok (.invokevirtual 119, 3) := by decide +kernel
theorem eX6_exchange_39 : decode (zYb kX6_exchange) 39 = .ok (.aload_n 0, 1) := by decide +kernel
theorem eX6_exchange_40 : decode (zYb kX6_exchange) 40 = .ok (.aload_n 3, 1) := by decide +kernel
theorem eX6_exchange_41 : decode (zYb kX6_exchange) 41 = .ok (.invokevirtual 122, 3) := by decide +kernel
theorem eX6_exchange_44 : decode (zYb kX6_exchange) 44 = .ok (.ireturn, 1) := by decide +kernel
theorem eX6_join_0 : decode (zYb kX6_join) 0 = .ok (.aload_n 0, 1) := by decide +kernel
theorem eX6_join_1 : decode (zYb kX6_join) 1 = .ok (.getfield 10, 3) := by decide +kernel
theorem eX6_join_4 : decode (zYb kX6_join) 4 = .ok (.iload_n 1, 1) := by decide +kernel
theorem eX6_join_5 : decode (zYb kX6_join) 5 = .ok (.invokevirtual 77, 3) := by decide +kernel
theorem eX6_join_8 : decode (zYb kX6_join) 8 = .ok (.astore_n 3, 1) := by decide +kernel
theorem eX6_join_9 : decode (zYb kX6_join) 9 = .ok (.aload_n 0, 1) := by decide +kernel
theorem eX6_join_10 : decode (zYb kX6_join) 10 = .ok (.getfield 10, 3) := by decide +kernel
theorem eX6_join_13 : decode (zYb kX6_join) 13 = .ok (.iload_n 2, 1) := by decide +kernel
theorem eX6_join_14 : decode (zYb kX6_join) 14 = .ok (.invokevirtual 77, 3) := by decide +kernel
theorem eX6_join_17 : decode (zYb kX6_join) 17 = .ok (.astore 4, 2) := by decide +kernel
theorem eX6_join_19 : decode (zYb kX6_join) 19 = .ok (.aload_n 3, 1) := by decide +kernel
theorem eX6_join_20 : decode (zYb kX6_join) 20 = .ok (.ifnull 8, 3) := by decide +kernel
theorem eX6_join_23 : decode (zYb kX6_join) 23 = .ok (.aload 4, 2) := by decide +kernel
theorem eX6_join_25 : decode (zYb kX6_join) 25 = .ok (.ifnonnull 5, 3) := by decide +kernel
theorem eX6_join_28 : decode (zYb kX6_join) 28 = .ok (.iconst (-1), 1) := by decide +kernel
theorem eX6_join_29 : decode (zYb kX6_join) 29 = .ok (.ireturn, 1) := by decide +kernel
theorem eX6_join_30 : decode (zYb kX6_join) 30 = .ok (.iload_n 1, 1) := by decide +kernel
theorem eX6_join_31 : decode (zYb kX6_join) 31 = .ok (.iload_n 2, 1) := by decide +kernel
theorem eX6_join_32 : decode (zYb kX6_join) 32 = .ok (.if_icmp .ne 6, 3) := by decide +kernel
theorem eX6_join_35 : decode (zYb kX6_join) 35 = .ok (.bipush (-2), 2) := by decide +kernel
theorem eX6_join_37 : decode (zYb kX6_join) 37 = .ok (.ireturn, 1) := by decide +kernel
theorem eX6_join_38 : decode (zYb kX6_join) 38 = .ok (.aload 4, 2) := by decide +kernel
theorem eX6_join_40 : decode (zYb kX6_join) 40 = .ok (.getfield 96, 3) := by decide +kernel
theorem eX6_join_43 : decode (zYb kX6_join) 43 = .ok (.aload_n 3, 1) := by decide +kernel
theorem eX6_join_44 : decode (zYb kX6_join) 44 = .ok (.getfield 96, 3) := by decide +kernel
theorem eX6_join_47 : decode (zYb kX6_join) 47 = .ok (.iadd, 1) := by decide +kernel
theorem eX6_join_48 : decode (zYb kX6_join) 48 = .ok (.iconst 5, 1) := by decide +kernel
theorem eX6_join_49 : decode (zYb kX6_join) 49 = .ok (.if_icmp .le 6, 3) := by decide +kernel
theorem eX6_join_52 : decode (zYb kX6_join) 52 = .ok (.bipush (-4), 2) := by decide +kernel
theorem eX6_join_54 : decode (zYb kX6_join) 54 = .ok (.ireturn, 1) := by decide +kernel
theorem eX6_join_55 : decode (zYb kX6_join) 55 = .ok (.aload_n 0, 1) := by decide +kernel
theorem eX6_join_56 : decode (zYb kX6_join) 56 = .ok (.getfield 26, 3) := by decide +kernel
theorem eX6_join_59 : decode (zYb kX6_join) 59 = .ok (.aload_n 0, 1) := by decide +kernel
theorem eX6_join_60 : decode (zYb kX6_join) 60 = .ok (.getfield 10, 3) := by decide +kernel
theorem eX6_join_63 : decode (zYb kX6_join) 63 = .ok (.invokevirtual 67, 3) := by decide +kernel
theorem eX6_join_66 : decode (zYb kX6_join) 66 = .ok (.aload 4, 2) := by decide +kernel
theorem eX6_join_68 : decode (zYb kX6_join) 68 = .ok (.aload_n 3, 1) := by decide +kernel
theorem eX6_join_69 : decode (zYb kX6_join) 69 = .ok (.invokevirtual 126, 3) := by decide +kernel
theorem eX6_join_72 : decode (zYb kX6_join) 72 = .ok (.aload_n 0, 1) := by decide +kernel
theorem eX6_join_73 : decode (zYb kX6_join) 73 = .ok (.getfield 10, 3) := by decide +kernel
theorem eX6_join_76 : decode (zYb kX6_join) 76 = .ok (.iload_n 1, 1) := by decide +kernel
theorem eX6_join_77 : decode (zYb kX6_join) 77 = .ok (.invokevirtual 84, 3) := by decide +kernel
theorem eX6_join_80 : decode (zYb kX6_join) 80 = .ok (.iload_n 1, 1) := by decide +kernel
theorem eX6_join_81 : decode (zYb kX6_join) 81 = .ok (.iload_n 2, 1) := by decide +kernel
theorem eX6_join_82 : decode (zYb kX6_join) 82 = .ok (.if_icmp .ge 9, 3) := by decide +kernel
theorem eX6_join_85 : decode (zYb kX6_join) 85 = .ok (.iload_n 2, 1) := by decide +kernel
theorem eX6_join_86 : decode (zYb kX6_join) 86 = .ok (.iconst 1, 1) := by decide +kernel
theorem eX6_join_87 : decode (zYb kX6_join) 87 = .ok (.isub, 1) := by decide +kernel
theorem eX6_join_88 : decode (zYb kX6_join) 88 = .ok (.goto 4, 3) := by decide +kernel
theorem eX6_join_91 : decode (zYb kX6_join) 91 = .ok (.iload_n 2, 1) := by decide +kernel
theorem eX6_join_92 : decode (zYb kX6_join) 92 = .ok (.ireturn, 1) := by decide +kernel
theorem eX6_scroll_0 : decode (zYb kX6_scroll) 0 = .ok (.aload_n 0, 1) := by decide +kernel
theorem eX6_scroll_1 : decode (zYb kX6_scroll) 1 = .ok (.getfield 10, 3) := by decide +kernel
theorem eX6_scroll_4 : decode (zYb kX6_scroll) 4 = .ok (.iload_n 1, 1) := by decide +kernel
theorem eX6_scroll_5 : decode (zYb kX6_scroll) 5 = .ok (.invokevirtual 77, 3) := by decide +kernel
theorem eX6_scroll_8 : decode (zYb kX6_scroll) 8 = .ok (.astore_n 3, 1) := by decide +kernel
theorem eX6_scroll_9 : decode (zYb kX6_scroll) 9 = .ok (.aload_n 3, 1) := by decide +kernel
theorem eX6_scroll_10 : decode (zYb kX6_scroll) 10 = .ok (.ifnonnull 5, 3) := by decide +kernel
theorem eX6_scroll_13 : decode (zYb kX6_scroll) 13 = .ok (.iconst (-1), 1) := by decide +kernel
theorem eX6_scroll_14 : decode (zYb kX6_scroll) 14 = .ok (.ireturn, 1) := by decide +kernel
theorem eX6_scroll_15 : decode (zYb kX6_scroll) 15 = .ok (.iload_n 2, 1) := by decide +kernel
theorem eX6_scroll_16 : decode (zYb kX6_scroll) 16 = .ok (.tableswitch 82 0 6 #[44, 49, 54, 60, 65, 70, 76], 44) := by decide +kernel
theorem eX6_scroll_60 : decode (zYb kX6_scroll) 60 = .ok (.aload_n 3, 1) := by decide +kernel
theorem eX6_scroll_61 : decode (zYb kX6_scroll) 61 = .ok (.getfield 96, 3) := by decide +kernel
theorem eX6_scroll_64 : decode (zYb kX6_scroll) 64 = .ok (.ireturn, 1) := by decide +kernel
theorem eX6_scroll_65 : decode (zYb kX6_scroll) 65 = .ok (.aload_n 3, 1) := by decide +kernel
theorem eX6_scroll_66 : decode (zYb kX6_scroll) 66 = .ok (.invokevirtual 81, 3) := by decide +kernel
theorem eX6_scroll_69 : decode (zYb kX6_scroll) 69 = .ok (.ireturn, 1) := by decide +kernel
theorem eX6_scroll_70 : decode (zYb kX6_scroll) 70 = .ok (.aload_n 0, 1) := by decide +kernel
theorem eX6_scroll_71 : decode (zYb kX6_scroll) 71 = .ok (.aload_n 3, 1) := by decide +kernel
theorem eX6_scroll_72 : decode (zYb kX6_scroll) 72 = .ok (.invokevirtual 122, 3) := by decide +kernel
theorem eX6_scroll_75 : decode (zYb kX6_scroll) 75 = .ok (.ireturn, 1) := by decide +kernel
theorem eX6_scroll_76 : decode (zYb kX6_scroll) 76 = .ok (.aload_n 3, 1) := by decide +kernel
theorem eX6_scroll_77 : decode (zYb kX6_scroll) 77 = .ok (.invokevirtual 130, 3) := by decide +kernel
theorem eX6_scroll_80 : decode (zYb kX6_scroll) 80 = .ok (.ireturn, 1) := by decide +kernel
theorem eX6_scroll_81 : decode (zYb kX6_scroll) 81 = .ok (.aload_n 3, 1) := by decide +kernel
theorem eX6_scroll_82 : decode (zYb kX6_scroll) 82 = .ok (.invokevirtual 133, 3) := by decide +kernel
theorem eX6_scroll_85 : decode (zYb kX6_scroll) 85 = .ok (.ireturn, 1) := by decide +kernel
theorem eX6_scroll_86 : decode (zYb kX6_scroll) 86 = .ok (.aload_n 0, 1) := by decide +kernel
theorem eX6_scroll_87 : decode (zYb kX6_scroll) 87 = .ok (.aload_n 3, 1) := by decide +kernel
theorem eX6_scroll_88 : decode (zYb kX6_scroll) 88 = .ok (.invokevirtual 136, 3) := by decide +kernel
theorem eX6_scroll_91 : decode (zYb kX6_scroll) 91 = .ok (.ireturn, 1) := by decide +kernel
theorem eX6_scroll_92 : decode (zYb kX6_scroll) 92 = .ok (.aload_n 0, 1) := by decide +kernel
theorem eX6_scroll_93 : decode (zYb kX6_scroll) 93 = .ok (.aload_n 3, 1) := by decide +kernel
theorem eX6_scroll_94 : decode (zYb kX6_scroll) 94 = .ok (.invokevirtual 139, 3) := by decide +kernel
theorem eX6_scroll_97 : decode (zYb kX6_scroll) 97 = .ok (.ireturn, 1) := by decide +kernel
theorem eX6_scroll_98 : decode (zYb kX6_scroll) 98 = .ok (.bipush (-2), 2) := by decide +kernel
theorem eX6_scroll_100 : decode (zYb kX6_scroll) 100 = .ok (.ireturn, 1) := by decide +kernel
theorem eX6_patch_0 : decode (zYb kX6_patch) 0 = .ok (.aload_n 0, 1) := by decide +kernel
theorem eX6_patch_1 : decode (zYb kX6_patch) 1 = .ok (.getfield 10, 3) := by decide +kernel
theorem eX6_patch_4 : decode (zYb kX6_patch) 4 = .ok (.iload_n 1, 1) := by decide +kernel
theorem eX6_patch_5 : decode (zYb kX6_patch) 5 = .ok (.invokevirtual 77, 3) := by decide +kernel
theorem eX6_patch_8 : decode (zYb kX6_patch) 8 = .ok (.astore_n 3, 1) := by decide +kernel
theorem eX6_patch_9 : decode (zYb kX6_patch) 9 = .ok (.aload_n 3, 1) := by decide +kernel
theorem eX6_patch_10 : decode (zYb kX6_patch) 10 = .ok (.ifnull 11, 3) := by decide +kernel
theorem eX6_patch_13 : decode (zYb kX6_patch) 13 = .ok (.aload_n 3, 1) := by decide +kernel
theorem eX6_patch_14 : decode (zYb kX6_patch) 14 = .ok (.iload_n 2, 1) := by decide +kernel
theorem eX6_patch_15 : decode (zYb kX6_patch) 15 = .ok (.invokevirtual 88, 3) := by decide +kernel
theorem eX6_patch_18 : decode (zYb kX6_patch) 18 = .ok (.ifCond .ne 5, 3) := by decide +kernel
theorem eX6_patch_21 : decode (zYb kX6_patch) 21 = .ok (.iconst (-1), 1) := by decide +kernel
theorem eX6_patch_22 : decode (zYb kX6_patch) 22 = .ok (.ireturn, 1) := by decide +kernel
theorem eX6_patch_23 : decode (zYb kX6_patch) 23 = .ok (.aload_n 3, 1) := by decide +kernel
theorem eX6_patch_24 : decode (zYb kX6_patch) 24 = .ok (.iload_n 2, 1) := by decide +kernel
theorem eX6_patch_25 : decode (zYb kX6_patch) 25 = .ok (.invokevirtual 106, 3) := by decide +kernel
theorem eX6_patch_28 : decode (zYb kX6_patch) 28 = .ok (.ireturn, 1) := by decide +kernel
theorem eX6_letter_0 : decode (zYb kX6_letter) 0 = .ok (.aload_n 0, 1) := by decide +kernel
theorem eX6_letter_1 : decode (zYb kX6_letter) 1 = .ok (.getfield 10, 3) := by decide +kernel
theorem eX6_letter_4 : decode (zYb kX6_letter) 4 = .ok (.iload_n 1, 1) := by decide +kernel
theorem eX6_letter_5 : decode (zYb kX6_letter) 5 = .ok (.invokevirtual 77, 3) := by decide +kernel
theorem eX6_letter_8 : decode (zYb kX6_letter) 8 = .ok (.astore 4, 2) := by decide +kernel
theorem eX6_letter_10 : decode (zYb kX6_letter) 10 = .ok (.aload 4, 2) := by decide +kernel
theorem eX6_letter_12 : decode (zYb kX6_letter) 12 = .ok (.ifnull 12, 3) := by decide +kernel
theorem eX6_letter_15 : decode (zYb kX6_letter) 15 = .ok (.aload 4, 2) := by decide +kernel
theorem eX6_letter_17 : decode (zYb kX6_letter) 17 = .ok (.iload_n 2, 1) := by decide +kernel
theorem eX6_letter_18 : decode (zYb kX6_letter) 18 = .ok (.invokevirtual 88, 3) := by decide +kernel
theorem eX6_letter_21 : decode (zYb kX6_letter) 21 = .ok (.ifCond .ne 5, 3) := by decide +kernel
theorem eX6_letter_24 : decode (zYb kX6_letter) 24 = .ok (.iconst (-1), 1) := by decide +kernel
theorem eX6_letter_25 : decode (zYb kX6_letter) 25 = .ok (.ireturn, 1) := by decide +kernel
theorem eX6_letter_26 : decode (zYb kX6_letter) 26 = .ok (.iload_n 3, 1) := by decide +kernel
theorem eX6_letter_27 : decode (zYb kX6_letter) 27 = .ok (.ifCond .lt 13, 3) := by decide +kernel
theorem eX6_letter_30 : decode (zYb kX6_letter) 30 = .ok (.iload_n 3, 1) := by decide +kernel
theorem eX6_letter_31 : decode (zYb kX6_letter) 31 = .ok (.aload 4, 2) := by decide +kernel
theorem eX6_letter_33 : decode (zYb kX6_letter) 33 = .ok (.iload_n 2, 1) := by decide +kernel
theorem eX6_letter_34 : decode (zYb kX6_letter) 34 = .ok (.invokevirtual 106, 3) := by decide +kernel
theorem eX6_letter_37 : decode (zYb kX6_letter) 37 = .ok (.if_icmp .lt 5, 3) := by decide +kernel
theorem eX6_letter_40 : decode (zYb kX6_letter) 40 = .ok (.iconst (-1), 1) := by decide +kernel
theorem eX6_letter_41 : decode (zYb kX6_letter) 41 = .ok (.ireturn, 1) := by decide +kernel
theorem eX6_letter_42 : decode (zYb kX6_letter) 42 = .ok (.aload 4, 2) := by decide +kernel
theorem eX6_letter_44 : decode (zYb kX6_letter) 44 = .ok (.aload 4, 2) := by decide +kernel
theorem eX6_letter_46 : decode (zYb kX6_letter) 46 = .ok (.iload_n 2, 1) := by decide +kernel
theorem eX6_letter_47 : decode (zYb kX6_letter) 47 = .ok (.invokevirtual 142, 3) := by decide +kernel
theorem eX6_letter_50 : decode (zYb kX6_letter) 50 = .ok (.iload_n 3, 1) := by decide +kernel
theorem eX6_letter_51 : decode (zYb kX6_letter) 51 = .ok (.iadd, 1) := by decide +kernel
theorem eX6_letter_52 : decode (zYb kX6_letter) 52 = .ok (.invokevirtual 145, 3) := by decide +kernel
theorem eX6_letter_55 : decode (zYb kX6_letter) 55 = .ok (.ireturn, 1) := by decide +kernel
theorem eX6_reading_0 : decode (zYb kX6_reading) 0 = .ok (.aload_n 0, 1) := by decide +kernel
theorem eX6_reading_1 : decode (zYb kX6_reading) 1 = .ok (.getfield 10, 3) := by decide +kernel
theorem eX6_reading_4 : decode (zYb kX6_reading) 4 = .ok (.iload_n 1, 1) := by decide +kernel
theorem eX6_reading_5 : decode (zYb kX6_reading) 5 = .ok (.invokevirtual 77, 3) := by decide +kernel
theorem eX6_reading_8 : decode (zYb kX6_reading) 8 = .ok (.astore 4, 2) := by decide +kernel
theorem eX6_reading_10 : decode (zYb kX6_reading) 10 = .ok (.aload 4, 2) := by decide +kernel
theorem eX6_reading_12 : decode (zYb kX6_reading) 12 = .ok (.ifnull 20, 3) := by decide +kernel
theorem eX6_reading_15 : decode (zYb kX6_reading) 15 = .ok (.iload_n 2, 1) := by decide +kernel
theorem eX6_reading_16 : decode (zYb kX6_reading) 16 = .ok (.ifCond .lt 16, 3) := by decide +kernel
theorem eX6_reading_19 : decode (zYb kX6_reading) 19 = .ok (.iload_n 3, 1) := by decide +kernel
theorem eX6_reading_20 : decode (zYb kX6_reading) 20 = .ok (.ifCond .lt 12, 3) := by decide +kernel
theorem eX6_reading_23 : decode (zYb kX6_reading) 23 = .ok (.iload_n 3, 1) := by decide +kernel
theorem eX6_reading_24 : decode (zYb kX6_reading) 24 = .ok (.aload 4, 2) := by decide +kernel
theorem eX6_reading_26 : decode (zYb kX6_reading) 26 = .ok (.invokevirtual 81, 3) := by decide +kernel
theorem eX6_reading_29 : decode (zYb kX6_reading) 29 = .ok (.if_icmp .lt 5, 3) := by decide +kernel
theorem eX6_reading_32 : decode (zYb kX6_reading) 32 = .ok (.iconst (-1), 1) := by decide +kernel
theorem eX6_reading_33 : decode (zYb kX6_reading) 33 = .ok (.ireturn, 1) := by decide +kernel
theorem eX6_reading_34 : decode (zYb kX6_reading) 34 = .ok (.aload_n 0, 1) := by decide +kernel
theorem eX6_reading_35 : decode (zYb kX6_reading) 35 = .ok (.getfield 41, 3) := by decide +kernel
theorem eX6_reading_38 : decode (zYb kX6_reading) 38 = .ok (.aload 4, 2) := by decide +kernel
theorem eX6_reading_40 : decode (zYb kX6_reading) 40 = .ok (.invokevirtual 148, 3) := by decide +kernel
theorem eX6_reading_43 : decode (zYb kX6_reading) 43 = .ok (.iconst 0, 1) := by decide +kernel
theorem eX6_reading_44 : decode (zYb kX6_reading) 44 = .ok (.istore 5, 2) := by decide +kernel
theorem eX6_reading_46 : decode (zYb kX6_reading) 46 = .ok (.iload 5, 2) := by decide +kernel
theorem eX6_reading_48 : decode (zYb kX6_reading) 48 = .ok (.sipush 128, 3) := by decide +kernel
theorem eX6_reading_51 : decode (zYb kX6_reading) 51 = .ok (.if_icmp .ge 34, 3) := by decide +kernel
theorem eX6_reading_54 : decode (zYb kX6_reading) 54 = .ok (.aload_n 0, 1) := by decide +kernel
theorem eX6_reading_55 : decode (zYb kX6_reading) 55 = .ok (.getfield 41, 3) := by decide +kernel
theorem eX6_reading_58 : decode (zYb kX6_reading) 58 = .ok (.invokevirtual 151, 3) := by decide +kernel
theorem eX6_reading_61 : decode (zYb kX6_reading) 61 = .ok (.ifCond .eq 24, 3) := by decide +kernel
theorem eX6_reading_64 : decode (zYb kX6_reading) 64 = .ok (.iload 5, 2) := by decide +kernel
theorem eX6_reading_66 : decode (zYb kX6_reading) 66 = .ok (.iload_n 2, 1) := by decide +kernel
theorem eX6_reading_67 : decode (zYb kX6_reading) 67 = .ok (.if_icmp .ne 12, 3) := by decide +kernel
theorem eX6_reading_70 : decode (zYb kX6_reading) 70 = .ok (.aload_n 0, 1) := by decide +kernel
theorem eX6_reading_71 : decode (zYb kX6_reading) 71 = .ok (.getfield 41, 3) := by decide +kernel
theorem eX6_reading_74 : decode (zYb kX6_reading) 74 = .ok (.iload_n 3, 1) := by decide +kernel
theorem eX6_reading_75 : decode (zYb kX6_reading) 75 = .ok (.invokevirtual 155, 3) := by decide +kernel
theorem eX6_reading_78 : decode (zYb kX6_reading) 78 = .ok (.ireturn, 1) := by decide +kernel
theorem eX6_reading_79 : decode (zYb kX6_reading) 79 = .ok (.iinc 5 1, 3) := by decide +kernel
theorem eX6_reading_82 : decode (zYb kX6_reading) 82 = .ok (.goto (-36), 3) := by decide +kernel
theorem eX6_reading_85 : decode (zYb kX6_reading) 85 = .ok (.iconst (-1), 1) := by decide +kernel
theorem eX6_reading_86 : decode (zYb kX6_reading) 86 = .ok (.ireturn, 1) := by decide +kernel
theorem eX6_find_0 : decode (zYb kX6_find) 0 = .ok (.aload_n 0, 1) := by decide +kernel
theorem eX6_find_1 : decode (zYb kX6_find) 1 = .ok (.getfield 10, 3) := by decide +kernel
theorem eX6_find_4 : decode (zYb kX6_find) 4 = .ok (.iload_n 1, 1) := by decide +kernel
theorem eX6_find_5 : decode (zYb kX6_find) 5 = .ok (.invokevirtual 77, 3) := by decide +kernel
theorem eX6_find_8 : decode (zYb kX6_find) 8 = .ok (.astore_n 3, 1) := by decide +kernel
theorem eX6_find_9 : decode (zYb kX6_find) 9 = .ok (.aload_n 3, 1) := by decide +kernel
theorem eX6_find_10 : decode (zYb kX6_find) 10 = .ok (.ifnonnull 5, 3) := by decide +kernel
theorem eX6_find_13 : decode (zYb kX6_find) 13 = .ok (.iconst (-1), 1) := by decide +kernel
theorem eX6_find_14 : decode (zYb kX6_find) 14 = .ok (.ireturn, 1) := by decide +kernel
theorem eX6_find_15 : decode (zYb kX6_find) 15 = .ok (.iload_n 2, 1) := by decide +kernel
theorem eX6_find_16 : decode (zYb kX6_find) 16 = .ok (.ifCond .lt 8, 3) := by decide +kernel
theorem eX6_find_19 : decode (zYb kX6_find) 19 = .ok (.iload_n 2, 1) := by decide +kernel
theorem eX6_find_20 : decode (zYb kX6_find) 20 = .ok (.iconst 3, 1) := by decide +kernel
theorem eX6_find_21 : decode (zYb kX6_find) 21 = .ok (.if_icmp .le 6, 3) := by decide +kernel
theorem eX6_find_24 : decode (zYb kX6_find) 24 = .ok (.bipush (-2), 2) := by decide +kernel
theorem eX6_find_26 : decode (zYb kX6_find) 26 = .ok (.ireturn, 1) := by decide +kernel
theorem eX6_find_27 : decode (zYb kX6_find) 27 = .ok (.aload_n 0, 1) := by decide +kernel
theorem eX6_find_28 : decode (zYb kX6_find) 28 = .ok (.getfield 19, 3) := by decide +kernel
theorem eX6_find_31 : decode (zYb kX6_find) 31 = .ok (.invokevirtual 156, 3) := by decide +kernel
theorem eX6_find_34 : decode (zYb kX6_find) 34 = .ok (.ifCond .ne 6, 3) := by decide +kernel
theorem eX6_find_37 : decode (zYb kX6_find) 37 = .ok (.bipush (-3), 2) := by decide +kernel
theorem eX6_find_39 : decode (zYb kX6_find) 39 = .ok (.ireturn, 1) := by decide +kernel
theorem eX6_find_40 : decode (zYb kX6_find) 40 = .ok (.aload_n 0, 1) := by decide +kernel
theorem eX6_find_41 : decode (zYb kX6_find) 41 = .ok (.aload_n 3, 1) := by decide +kernel
theorem eX6_find_42 : decode (zYb kX6_find) 42 = .ok (.iload_n 2, 1) := by decide +kernel
theorem eX6_find_43 : decode (zYb kX6_find) 43 = .ok (.invokevirtual 159, 3) := by decide +kernel
theorem eX6_find_46 : decode (zYb kX6_find) 46 = .ok (.ireturn, 1) := by decide +kernel
theorem eX6_shared_0 : decode (zYb kX6_shared) 0 = .ok (.aload_n 0, 1) := by decide +kernel
theorem eX6_shared_1 : decode (zYb kX6_shared) 1 = .ok (.getfield 10, 3) := by decide +kernel
theorem eX6_shared_4 : decode (zYb kX6_shared) 4 = .ok (.iload_n 1, 1) := by decide +kernel
theorem eX6_shared_5 : decode (zYb kX6_shared) 5 = .ok (.invokevirtual 77, 3) := by decide +kernel
theorem eX6_shared_8 : decode (zYb kX6_shared) 8 = .ok (.astore_n 3, 1) := by decide +kernel
theorem eX6_shared_9 : decode (zYb kX6_shared) 9 = .ok (.aload_n 0, 1) := by decide +kernel
theorem eX6_shared_10 : decode (zYb kX6_shared) 10 = .ok (.getfield 10, 3) := by decide +kernel
theorem eX6_shared_13 : decode (zYb kX6_shared) 13 = .ok (.iload_n 2, 1) := by decide +kernel
theorem eX6_shared_14 : decode (zYb kX6_shared) 14 = .ok (.invokevirtual 77, 3) := by decide +kernel
theorem eX6_shared_17 : decode (zYb kX6_shared) 17 = .ok (.astore 4, 2) := by decide +kernel
theorem eX6_shared_19 : decode (zYb kX6_shared) 19 = .ok (.aload_n 3, 1) := by decide +kernel
theorem eX6_shared_20 : decode (zYb kX6_shared) 20 = .ok (.ifnull 8, 3) := by decide +kernel
theorem eX6_shared_23 : decode (zYb kX6_shared) 23 = .ok (.aload 4, 2) := by decide +kernel
theorem eX6_shared_25 : decode (zYb kX6_shared) 25 = .ok (.ifnonnull 5, 3) := by decide +kernel
theorem eX6_shared_28 : decode (zYb kX6_shared) 28 = .ok (.iconst (-1), 1) := by decide +kernel
theorem eX6_shared_29 : decode (zYb kX6_shared) 29 = .ok (.ireturn, 1) := by decide +kernel
theorem eX6_shared_30 : decode (zYb kX6_shared) 30 = .ok (.aload_n 0, 1) := by decide +kernel
theorem eX6_shared_31 : decode (zYb kX6_shared) 31 = .ok (.aload_n 3, 1) := by decide +kernel
theorem eX6_shared_32 : decode (zYb kX6_shared) 32 = .ok (.aload 4, 2) := by decide +kernel
theorem eX6_shared_34 : decode (zYb kX6_shared) 34 = .ok (.invokevirtual 163, 3) := by decide +kernel
theorem eX6_shared_37 : decode (zYb kX6_shared) 37 = .ok (.ireturn, 1) := by decide +kernel
theorem eX6_compare_0 : decode (zYb kX6_compare) 0 = .ok (.aload_n 0, 1) := by decide +kernel
theorem eX6_compare_1 : decode (zYb kX6_compare) 1 = .ok (.getfield 10, 3) := by decide +kernel
theorem eX6_compare_4 : decode (zYb kX6_compare) 4 = .ok (.iload_n 1, 1) := by decide +kernel
theorem eX6_compare_5 : decode (zYb kX6_compare) 5 = .ok (.invokevirtual 77, 3) := by decide +kernel
theorem eX6_compare_8 : decode (zYb kX6_compare) 8 = .ok (.astore_n 3, 1) := by decide +kernel
theorem eX6_compare_9 : decode (zYb kX6_compare) 9 = .ok (.aload_n 0, 1) := by decide +kernel
theorem eX6_compare_10 : decode (zYb kX6_compare) 10 = .ok (.getfield 10, 3) := by decide +kernel
theorem eX6_compare_13 : decode (zYb kX6_compare) 13 = .ok (.iload_n 2, 1) := by decide +kernel
theorem eX6_compare_14 : decode (zYb kX6_compare) 14 = .ok (.invokevirtual 77, 3) := by decide +kernel
theorem eX6_compare_17 : decode (zYb kX6_compare) 17 = .ok (.astore 4, 2) := by decide +kernel
theorem eX6_compare_19 : decode (zYb kX6_compare) 19 = .ok (.aload_n 3, 1) := by decide +kernel
theorem eX6_compare_20 : decode (zYb kX6_compare) 20 = .ok (.ifnull 8, 3) := by decide +kernel
theorem eX6_compare_23 : decode (zYb kX6_compare) 23 = .ok (.aload 4, 2) := by decide +kernel
theorem eX6_compare_25 : decode (zYb kX6_compare) 25 = .ok (.ifnonnull 5, 3) := by decide +kernel
theorem eX6_compare_28 : decode (zYb kX6_compare) 28 = .ok (.iconst (-1), 1) := by decide +kernel
theorem eX6_compare_29 : decode (zYb kX6_compare) 29 = .ok (.ireturn, 1) := by decide +kernel
theorem eX6_compare_30 : decode (zYb kX6_compare) 30 = .ok (.aload_n 0, 1) := by decide +kernel
theorem eX6_compare_31 : decode (zYb kX6_compare) 31 = .ok (.aload_n 3, 1) := by decide +kernel
theorem eX6_compare_32 : decode (zYb kX6_compare) 32 = .ok (.aload 4, 2) := by decide +kernel
theorem eX6_compare_34 : decode (zYb kX6_compare) 34 = .ok (.invokevirtual 163, 3) := by decide +kernel
theorem eX6_compare_37 : decode (zYb kX6_compare) 37 = .ok (.istore 5, 2) := by decide +kernel
theorem eX6_compare_39 : decode (zYb kX6_compare) 39 = .ok (.iload 5, 2) := by decide +kernel
theorem eX6_compare_41 : decode (zYb kX6_compare) 41 = .ok (.ifCond .ne 5, 3) := by decide +kernel
theorem eX6_compare_44 : decode (zYb kX6_compare) 44 = .ok (.iconst 0, 1) := by decide +kernel
theorem eX6_compare_45 : decode (zYb kX6_compare) 45 = .ok (.ireturn, 1) := by decide +kernel
theorem eX6_compare_46 : decode (zYb kX6_compare) 46 = .ok (.iload 5, 2) := by decide +kernel
theorem eX6_compare_48 : decode (zYb kX6_compare) 48 = .ok (.aload_n 0, 1) := by decide +kernel
theorem eX6_compare_49 : decode (zYb kX6_compare) 49 = .ok (.aload_n 3, 1) := by decide +kernel
theorem eX6_compare_50 : decode (zYb kX6_compare) 50 = .ok (.invokevirtual 122, 3) := by decide +kernel
theorem eX6_compare_53 : decode (zYb kX6_compare) 53 = .ok (.if_icmp .ne 7, 3) := by decide +kernel
theorem eX6_compare_56 : decode (zYb kX6_compare) 56 = .ok (.iconst 1, 1) := by decide +kernel
theorem eX6_compare_57 : decode (zYb kX6_compare) 57 = .ok (.goto 4, 3) := by decide +kernel
theorem eX6_compare_60 : decode (zYb kX6_compare) 60 = .ok (.iconst 0, 1) := by decide +kernel
theorem eX6_compare_61 : decode (zYb kX6_compare) 61 = .ok (.istore 6, 2) := by decide +kernel
theorem eX6_compare_63 : decode (zYb kX6_compare) 63 = .ok (.iload 5, 2) := by decide +kernel
theorem eX6_compare_65 : decode (zYb kX6_compare) 65 = .ok (.aload_n 0, 1) := by decide +kernel
theorem eX6_compare_66 : decode (zYb kX6_compare) 66 = .ok (.aload 4, 2) := by decide +kernel
theorem eX6_compare_68 : decode (zYb kX6_compare) 68 = .ok (.invokevirtual 122, 3) := by decide +kernel
theorem eX6_compare_71 : decode (zYb kX6_compare) 71 = .ok (.if_icmp .ne 7, 3) := by decide +kernel
theorem eX6_compare_74 : decode (zYb kX6_compare) 74 = .ok (.iconst 1, 1) := by decide +kernel
theorem eX6_compare_75 : decode (zYb kX6_compare) 75 = .ok (.goto 4, 3) := by decide +kernel
theorem eX6_compare_78 : decode (zYb kX6_compare) 78 = .ok (.iconst 0, 1) := by decide +kernel
theorem eX6_compare_79 : decode (zYb kX6_compare) 79 = .ok (.istore 7, 2) := by decide +kernel
theorem eX6_compare_81 : decode (zYb kX6_compare) 81 = .ok (.iload 6, 2) := by decide +kernel
theorem eX6_compare_83 : decode (zYb kX6_compare) 83 = .ok (.ifCond .eq 10, 3) := by decide +kernel
theorem eX6_compare_86 : decode (zYb kX6_compare) 86 = .ok (.iload 7, 2) := by decide +kernel
theorem eX6_compare_88 : decode (zYb kX6_compare) 88 = .ok (.ifCond .eq 5, 3) := by decide +kernel
theorem eX6_compare_91 : decode (zYb kX6_compare) 91 = .ok (.iconst 4, 1) := by decide +kernel
theorem eX6_compare_92 : decode (zYb kX6_compare) 92 = .ok (.ireturn, 1) := by decide +kernel
theorem eX6_compare_93 : decode (zYb kX6_compare) 93 = .ok (.iload 6, 2) := by decide +kernel
theorem eX6_compare_95 : decode (zYb kX6_compare) 95 = .ok (.ifCond .eq 5, 3) := by decide +kernel
theorem eX6_compare_98 : decode (zYb kX6_compare) 98 = .ok (.iconst 2, 1) := by decide +kernel
theorem eX6_compare_99 : decode (zYb kX6_compare) 99 = .ok (.ireturn, 1) := by decide +kernel
theorem eX6_compare_100 : decode (zYb kX6_compare) 100 = .ok (.iload 7, 2) := by decide +kernel
theorem eX6_compare_102 : decode (zYb kX6_compare) 102 = .ok (.ifCond .eq 7, 3) := by decide +kernel
theorem eX6_compare_105 : decode (zYb kX6_compare) 105 = .ok (.iconst 3, 1) := by decide +kernel
theorem eX6_compare_106 : decode (zYb kX6_compare) 106 = .ok (.goto 4, 3) := by decide +kernel
theorem eX6_compare_109 : decode (zYb kX6_compare) 109 = .ok (.iconst 1, 1) := by decide +kernel
theorem eX6_compare_110 : decode (zYb kX6_compare) 110 = .ok (.ireturn, 1) := by decide +kernel
theorem eX6_count_0 : decode (zYb kX6_count) 0 = .ok (.iload_n 1, 1) := by decide +kernel
theorem eX6_count_1 : decode (zYb kX6_count) 1 = .ok (.tableswitch 93 0 6 #[43, 51, 59, 67, 72, 77, 85], 43) := by decide +kernel
theorem eX6_count_44 : decode (zYb kX6_count) 44 = .ok (.aload_n 0, 1) := by decide +kernel
theorem eX6_count_45 : decode (zYb kX6_count) 45 = .ok (.getfield 10, 3) := by decide +kernel
theorem eX6_count_48 : decode (zYb kX6_count) 48 = .ok (.getfield 60, 3) := by decide +kernel
theorem eX6_count_51 : decode (zYb kX6_count) 51 = .ok (.ireturn, 1) := by decide +kernel
theorem eX6_count_52 : decode (zYb kX6_count) 52 = .ok (.aload_n 0, 1) := by decide +kernel
theorem eX6_count_53 : decode (zYb kX6_count) 53 = .ok (.getfield 10, 3) := by decide +kernel
theorem eX6_count_56 : decode (zYb kX6_count) 56 = .ok (.invokevirtual 167, 3) := by decide +kernel
theorem eX6_count_59 : decode (zYb kX6_count) 59 = .ok (.ireturn, 1) := by decide +kernel
theorem eX6_count_60 : decode (zYb kX6_count) 60 = .ok (.aload_n 0, 1) := by decide +kernel
theorem eX6_count_61 : decode (zYb kX6_count) 61 = .ok (.getfield 10, 3) := by decide +kernel
theorem eX6_count_64 : decode (zYb kX6_count) 64 = .ok (.invokevirtual 170, 3) := by decide +kernel
theorem eX6_count_67 : decode (zYb kX6_count) 67 = .ok (.ireturn, 1) := by decide +kernel
theorem eX6_count_68 : decode (zYb kX6_count) 68 = .ok (.aload_n 0, 1) := by decide +kernel
theorem eX6_count_69 : decode (zYb kX6_count) 69 = .ok (.invokevirtual 173, 3) := by decide +kernel
theorem eX6_count_72 : decode (zYb kX6_count) 72 = .ok (.ireturn, 1) := by decide +kernel
theorem eX6_count_73 : decode (zYb kX6_count) 73 = .ok (.aload_n 0, 1) := by decide +kernel
theorem eX6_count_74 : decode (zYb kX6_count) 74 = .ok (.invokevirtual 176, 3) := by decide +kernel
theorem eX6_count_77 : decode (zYb kX6_count) 77 = .ok (.ireturn, 1) := by decide +kernel
theorem eX6_count_78 : decode (zYb kX6_count) 78 = .ok (.aload_n 0, 1) := by decide +kernel
theorem eX6_count_79 : decode (zYb kX6_count) 79 = .ok (.getfield 19, 3) := by decide +kernel
theorem eX6_count_82 : decode (zYb kX6_count) 82 = .ok (.getfield 179, 3) := by decide +kernel
theorem eX6_count_85 : decode (zYb kX6_count) 85 = .ok (.ireturn, 1) := by decide +kernel
theorem eX6_count_86 : decode (zYb kX6_count) 86 = .ok (.aload_n 0, 1) := by decide +kernel
theorem eX6_count_87 : decode (zYb kX6_count) 87 = .ok (.getfield 26, 3) := by decide +kernel
theorem eX6_count_90 : decode (zYb kX6_count) 90 = .ok (.getfield 181, 3) := by decide +kernel
theorem eX6_count_93 : decode (zYb kX6_count) 93 = .ok (.ireturn, 1) := by decide +kernel
theorem eX6_count_94 : decode (zYb kX6_count) 94 = .ok (.bipush (-2), 2) := by decide +kernel
theorem eX6_count_96 : decode (zYb kX6_count) 96 = .ok (.ireturn, 1) := by decide +kernel
theorem eX6_ifCut_0 : decode (zYb kX6_ifCut) 0 = .ok (.aload_n 0, 1) := by decide +kernel
theorem eX6_ifCut_1 : decode (zYb kX6_ifCut) 1 = .ok (.getfield 10, 3) := by decide +kernel
theorem eX6_ifCut_4 : decode (zYb kX6_ifCut) 4 = .ok (.iload_n 1, 1) := by decide +kernel
theorem eX6_ifCut_5 : decode (zYb kX6_ifCut) 5 = .ok (.invokevirtual 77, 3) := by decide +kernel
theorem eX6_ifCut_8 : decode (zYb kX6_ifCut) 8 = .ok (.astore 4, 2) := by decide +kernel
theorem eX6_ifCut_10 : decode (zYb kX6_ifCut) 10 = .ok (.aload 4, 2) := by decide +kernel
theorem eX6_ifCut_12 : decode (zYb kX6_ifCut) 12 = .ok (.ifnull 12, 3) := by decide +kernel
theorem eX6_ifCut_15 : decode (zYb kX6_ifCut) 15 = .ok (.aload 4, 2) := by decide +kernel
theorem eX6_ifCut_17 : decode (zYb kX6_ifCut) 17 = .ok (.iload_n 2, 1) := by decide +kernel
theorem eX6_ifCut_18 : decode (zYb kX6_ifCut) 18 = .ok (.invokevirtual 88, 3) := by decide +kernel
theorem eX6_ifCut_21 : decode (zYb kX6_ifCut) 21 = .ok (.ifCond .ne 5, 3) := by decide +kernel
theorem eX6_ifCut_24 : decode (zYb kX6_ifCut) 24 = .ok (.iconst (-1), 1) := by decide +kernel
theorem eX6_ifCut_25 : decode (zYb kX6_ifCut) 25 = .ok (.ireturn, 1) := by decide +kernel
theorem eX6_ifCut_26 : decode (zYb kX6_ifCut) 26 = .ok (.aload 4, 2) := by decide +kernel
theorem eX6_ifCut_28 : decode (zYb kX6_ifCut) 28 = .ok (.iload_n 2, 1) := by decide +kernel
theorem eX6_ifCut_29 : decode (zYb kX6_ifCut) 29 = .ok (.iload_n 3, 1) := by decide +kernel
theorem eX6_ifCut_30 : decode (zYb kX6_ifCut) 30 = .ok (.invokevirtual 92, 3) := by decide +kernel
theorem eX6_ifCut_33 : decode (zYb kX6_ifCut) 33 = .ok (.ifCond .ne 6, 3) := by decide +kernel
theorem eX6_ifCut_36 : decode (zYb kX6_ifCut) 36 = .ok (.bipush (-2), 2) := by decide +kernel
theorem eX6_ifCut_38 : decode (zYb kX6_ifCut) 38 = .ok (.ireturn, 1) := by decide +kernel
theorem eX6_ifCut_39 : decode (zYb kX6_ifCut) 39 = .ok (.aload_n 0, 1) := by decide +kernel
theorem eX6_ifCut_40 : decode (zYb kX6_ifCut) 40 = .ok (.aload 4, 2) := by decide +kernel
theorem eX6_ifCut_42 : decode (zYb kX6_ifCut) 42 = .ok (.iload_n 2, 1) := by decide +kernel
theorem eX6_ifCut_43 : decode (zYb kX6_ifCut) 43 = .ok (.iload_n 3, 1) := by decide +kernel
theorem eX6_ifCut_44 : decode (zYb kX6_ifCut) 44 = .ok (.invokevirtual 182, 3) := by decide +kernel
theorem eX6_ifCut_47 : decode (zYb kX6_ifCut) 47 = .ok (.ireturn, 1) := by decide +kernel
theorem eX6_bestCut_0 : decode (zYb kX6_bestCut) 0 = .ok (.aload_n 0, 1) := by decide +kernel
theorem eX6_bestCut_1 : decode (zYb kX6_bestCut) 1 = .ok (.getfield 10, 3) := by decide +kernel
theorem eX6_bestCut_4 : decode (zYb kX6_bestCut) 4 = .ok (.iload_n 1, 1) := by decide +kernel
theorem eX6_bestCut_5 : decode (zYb kX6_bestCut) 5 = .ok (.invokevirtual 77, 3) := by decide +kernel
theorem eX6_bestCut_8 : decode (zYb kX6_bestCut) 8 = .ok (.astore_n 3, 1) := by decide +kernel
theorem eX6_bestCut_9 : decode (zYb kX6_bestCut) 9 = .ok (.aload_n 3, 1) := by decide +kernel
theorem eX6_bestCut_10 : decode (zYb kX6_bestCut) 10 = .ok (.ifnonnull 5, 3) := by decide +kernel
theorem eX6_bestCut_13 : decode (zYb kX6_bestCut) 13 = .ok (.iconst (-1), 1) := by decide +kernel
theorem eX6_bestCut_14 : decode (zYb kX6_bestCut) 14 = .ok (.ireturn, 1) := by decide +kernel
theorem eX6_bestCut_15 : decode (zYb kX6_bestCut) 15 = .ok (.iload_n 2, 1) := by decide +kernel
theorem eX6_bestCut_16 : decode (zYb kX6_bestCut) 16 = .ok (.ifCond .lt 8, 3) := by decide +kernel
theorem eX6_bestCut_19 : decode (zYb kX6_bestCut) 19 = .ok (.iload_n 2, 1) := by decide +kernel
theorem eX6_bestCut_20 : decode (zYb kX6_bestCut) 20 = .ok (.iconst 2, 1) := by decide +kernel
theorem eX6_bestCut_21 : decode (zYb kX6_bestCut) 21 = .ok (.if_icmp .le 6, 3) := by decide +kernel
theorem eX6_bestCut_24 : decode (zYb kX6_bestCut) 24 = .ok (.bipush (-2), 2) := by decide +kernel
theorem eX6_bestCut_26 : decode (zYb kX6_bestCut) 26 = .ok (.ireturn, 1) := by decide +kernel
theorem eX6_bestCut_27 : decode (zYb kX6_bestCut) 27 = .ok (.iconst 0, 1) := by decide +kernel
theorem eX6_bestCut_28 : decode (zYb kX6_bestCut) 28 = .ok (.istore 4, 2) := by decide +kernel
theorem eX6_bestCut_30 : decode (zYb kX6_bestCut) 30 = .ok (.iconst 0, 1) := by decide +kernel
theorem eX6_bestCut_31 : decode (zYb kX6_bestCut) 31 = .ok (.istore 5, 2) := by decide +kernel
theorem eX6_bestCut_33 : decode (zYb kX6_bestCut) 33 = .ok (.bipush (-6), 2) := by decide +kernel
theorem eX6_bestCut_35 : decode (zYb kX6_bestCut) 35 = .ok (.istore 6, 2) := by decide +kernel
theorem eX6_bestCut_37 : decode (zYb kX6_bestCut) 37 = .ok (.iconst 0, 1) := by decide +kernel
theorem eX6_bestCut_38 : decode (zYb kX6_bestCut) 38 = .ok (.istore 7, 2) := by decide +kernel
theorem eX6_bestCut_40 : decode (zYb kX6_bestCut) 40 = .ok (.iload 7, 2) := by decide +kernel
theorem eX6_bestCut_42 : decode (zYb kX6_bestCut) 42 = .ok (.aload_n 3, 1) := by decide +kernel
theorem eX6_bestCut_43 : decode (zYb kX6_bestCut) 43 = .ok (.getfield 96, 3) := by decide +kernel
theorem eX6_bestCut_46 : decode (zYb kX6_bestCut) 46 = .ok (.if_icmp .ge 59, 3) := by decide +kernel
theorem eX6_bestCut_49 : decode (zYb kX6_bestCut) 49 = .ok (.iconst 1, 1) := by decide +kernel
theorem eX6_bestCut_50 : decode (zYb kX6_bestCut) 50 = .ok (.istore 8, 2) := by decide +kernel
theorem eX6_bestCut_52 : decode (zYb kX6_bestCut) 52 = .ok (.iload 8, 2) := by decide +kernel
theorem eX6_bestCut_54 : decode (zYb kX6_bestCut) 54 = .ok (.aload_n 3, 1) := by decide +kernel
theorem eX6_bestCut_55 : decode (zYb kX6_bestCut) 55 = .ok (.iload 7, 2) := by decide +kernel
theorem eX6_bestCut_57 : decode (zYb kX6_bestCut) 57 = .ok (.invokevirtual 106, 3) := by decide +kernel
theorem eX6_bestCut_60 : decode (zYb kX6_bestCut) 60 = .ok (.if_icmp .ge 39, 3) := by decide +kernel
theorem eX6_bestCut_63 : decode (zYb kX6_bestCut) 63 = .ok (.aload_n 0, 1) := by decide +kernel
theorem eX6_bestCut_64 : decode (zYb kX6_bestCut) 64 = .ok (.aload_n 3, 1) := by decide +kernel
theorem eX6_bestCut_65 : decode (zYb kX6_bestCut) 65 = .ok (.iload 7, 2) := by decide +kernel
theorem eX6_bestCut_67 : decode (zYb kX6_bestCut) 67 = .ok (.iload 8, 2) := by decide +kernel
theorem eX6_bestCut_69 : decode (zYb kX6_bestCut) 69 = .ok (.invokevirtual 182, 3) := by decide +kernel
theorem eX6_bestCut_72 : decode (zYb kX6_bestCut) 72 = .ok (.istore 9, 2) := by decide +kernel
theorem eX6_bestCut_74 : decode (zYb kX6_bestCut) 74 = .ok (.iload 9, 2) := by decide +kernel
theorem eX6_bestCut_76 : decode (zYb kX6_bestCut) 76 = .ok (.iload 6, 2) := by decide +kernel
theorem eX6_bestCut_78 : decode (zYb kX6_bestCut) 78 = .ok (.if_icmp .le 15, 3) := by decide +kernel
theorem eX6_bestCut_81 : decode (zYb kX6_bestCut) 81 = .ok (.iload 7, 2) := by decide +kernel
theorem eX6_bestCut_83 : decode (zYb kX6_bestCut) 83 = .ok (.istore 4, 2) := by decide +kernel
theorem eX6_bestCut_85 : decode (zYb kX6_bestCut) 85 = .ok (.iload 8, 2) := by decide +kernel
theorem eX6_bestCut_87 : decode (zYb kX6_bestCut) 87 = .ok (.istore 5, 2) := by decide +kernel
theorem eX6_bestCut_89 : decode (zYb kX6_bestCut) 89 = .ok (.iload 9, 2) := by decide +kernel
theorem eX6_bestCut_91 : decode (zYb kX6_bestCut) 91 = .ok (.istore 6, 2) := by decide +kernel
theorem eX6_bestCut_93 : decode (zYb kX6_bestCut) 93 = .ok (.iinc 8 1, 3) := by decide +kernel
theorem eX6_bestCut_96 : decode (zYb kX6_bestCut) 96 = .ok (.goto (-44), 3) := by decide +kernel
theorem eX6_bestCut_99 : decode (zYb kX6_bestCut) 99 = .ok (.iinc 7 1, 3) := by decide +kernel
theorem eX6_bestCut_102 : decode (zYb kX6_bestCut) 102 = .ok (.goto (-62), 3) := by decide +kernel
theorem eX6_bestCut_105 : decode (zYb kX6_bestCut) 105 = .ok (.iload 6, 2) := by decide +kernel
theorem eX6_bestCut_107 : decode (zYb kX6_bestCut) 107 = .ok (.bipush (-6), 2) := by decide +kernel
theorem eX6_bestCut_109 : decode (zYb kX6_bestCut) 109 = .ok (.if_icmp .eq 8, 3) := by decide +kernel
theorem eX6_bestCut_112 : decode (zYb kX6_bestCut) 112 = .ok (.iload_n 2, 1) := by decide +kernel
theorem eX6_bestCut_113 : decode (zYb kX6_bestCut) 113 = .ok (.iconst 2, 1) := by decide +kernel
theorem eX6_bestCut_114 : decode (zYb kX6_bestCut) 114 = .ok (.if_icmp .ne 6, 3) := by decide +kernel
theorem eX6_bestCut_117 : decode (zYb kX6_bestCut) 117 = .ok (.iload 6, 2) := by decide +kernel
theorem eX6_bestCut_119 : decode (zYb kX6_bestCut) 119 = .ok (.ireturn, 1) := by decide +kernel
theorem eX6_bestCut_120 : decode (zYb kX6_bestCut) 120 = .ok (.iload_n 2, 1) := by decide +kernel
theorem eX6_bestCut_121 : decode (zYb kX6_bestCut) 121 = .ok (.ifCond .ne 8, 3) := by decide +kernel
theorem eX6_bestCut_124 : decode (zYb kX6_bestCut) 124 = .ok (.iload 4, 2) := by decide +kernel
theorem eX6_bestCut_126 : decode (zYb kX6_bestCut) 126 = .ok (.goto 5, 3) := by decide +kernel
theorem eX6_bestCut_129 : decode (zYb kX6_bestCut) 129 = .ok (.iload 5, 2) := by decide +kernel
theorem eX6_bestCut_131 : decode (zYb kX6_bestCut) 131 = .ok (.ireturn, 1) := by decide +kernel
theorem eX6_put_0 : decode (zYb kX6_put) 0 = .ok (.lload_n 1, 1) := by decide +kernel
theorem eX6_put_1 : decode (zYb kX6_put) 1 = .ok (.invokestatic 186, 3) := by decide +kernel
theorem eX6_put_4 : decode (zYb kX6_put) 4 = .ok (.istore_n 3, 1) := by decide +kernel
theorem eX6_put_5 : decode (zYb kX6_put) 5 = .ok (.iload_n 3, 1) := by decide +kernel
theorem eX6_put_6 : decode (zYb kX6_put) 6 = .ok (.ifCond .ne 6, 3) := by decide +kernel
theorem eX6_put_9 : decode (zYb kX6_put) 9 = .ok (.bipush (-2), 2) := by decide +kernel
theorem eX6_put_11 : decode (zYb kX6_put) 11 = .ok (.ireturn, 1) := by decide +kernel
theorem eX6_put_12 : decode (zYb kX6_put) 12 = .ok (.aload_n 0, 1) := by decide +kernel
theorem eX6_put_13 : decode (zYb kX6_put) 13 = .ok (.getfield 19, 3) := by decide +kernel
theorem eX6_put_16 : decode (zYb kX6_put) 16 = .ok (.getfield 179, 3) := by decide +kernel
theorem eX6_put_19 : decode (zYb kX6_put) 19 = .ok (.iload_n 3, 1) := by decide +kernel
theorem eX6_put_20 : decode (zYb kX6_put) 20 = .ok (.iadd, 1) := by decide +kernel
theorem eX6_put_21 : decode (zYb kX6_put) 21 = .ok (.bipush 64, 2) := by decide +kernel
theorem eX6_put_23 : decode (zYb kX6_put) 23 = .ok (.if_icmp .le 6, 3) := by decide +kernel
theorem eX6_put_26 : decode (zYb kX6_put) 26 = .ok (.bipush (-4), 2) := by decide +kernel
theorem eX6_put_28 : decode (zYb kX6_put) 28 = .ok (.ireturn, 1) := by decide +kernel
theorem eX6_put_29 : decode (zYb kX6_put) 29 = .ok (.iload_n 3, 1) := by decide +kernel
theorem eX6_put_30 : decode (zYb kX6_put) 30 = .ok (.iconst 1, 1) := by decide +kernel
theorem eX6_put_31 : decode (zYb kX6_put) 31 = .ok (.isub, 1) := by decide +kernel
theorem eX6_put_32 : decode (zYb kX6_put) 32 = .ok (.istore 4, 2) := by decide +kernel
theorem eX6_put_34 : decode (zYb kX6_put) 34 = .ok (.iload 4, 2) := by decide +kernel
theorem eX6_put_36 : decode (zYb kX6_put) 36 = .ok (.ifCond .lt 22, 3) := by decide +kernel
theorem eX6_put_39 : decode (zYb kX6_put) 39 = .ok (.aload_n 0, 1) := by decide +kernel
theorem eX6_put_40 : decode (zYb kX6_put) 40 = .ok (.getfield 19, 3) := by decide +kernel
theorem eX6_put_43 : decode (zYb kX6_put) 43 = .ok (.lload_n 1, 1) := by decide +kernel
theorem eX6_put_44 : decode (zYb kX6_put) 44 = .ok (.iload 4, 2) := by decide +kernel
theorem eX6_put_46 : decode (zYb kX6_put) 46 = .ok (.invokestatic 190, 3) := by decide +kernel
theorem eX6_put_49 : decode (zYb kX6_put) 49 = .ok (.invokevirtual 194, 3) := by decide +kernel
theorem eX6_put_52 : decode (zYb kX6_put) 52 = .ok (.iinc 4 (-1), 3) := by decide +kernel
theorem eX6_put_55 : decode (zYb kX6_put) 55 = .ok (.goto (-21), 3) := by decide +kernel
theorem eX6_put_58 : decode (zYb kX6_put) 58 = .ok (.aload_n 0, 1) := by decide +kernel
theorem eX6_put_59 : decode (zYb kX6_put) 59 = .ok (.getfield 19, 3) := by decide +kernel
theorem eX6_put_62 : decode (zYb kX6_put) 62 = .ok (.getfield 179, 3) := by decide +kernel
theorem eX6_put_65 : decode (zYb kX6_put) 65 = .ok (.ireturn, 1) := by decide +kernel
theorem eX6_wipe_0 : decode (zYb kX6_wipe) 0 = .ok (.aload_n 0, 1) := by decide +kernel
theorem eX6_wipe_1 : decode (zYb kX6_wipe) 1 = .ok (.getfield 19, 3) := by decide +kernel
theorem eX6_wipe_4 : decode (zYb kX6_wipe) 4 = .ok (.getfield 179, 3) := by decide +kernel
theorem eX6_wipe_7 : decode (zYb kX6_wipe) 7 = .ok (.istore_n 1, 1) := by decide +kernel
theorem eX6_wipe_8 : decode (zYb kX6_wipe) 8 = .ok (.aload_n 0, 1) := by decide +kernel
theorem eX6_wipe_9 : decode (zYb kX6_wipe) 9 = .ok (.getfield 19, 3) := by decide +kernel
theorem eX6_wipe_12 : decode (zYb kX6_wipe) 12 = .ok (.invokevirtual 74, 3) := by decide +kernel
theorem eX6_wipe_15 : decode (zYb kX6_wipe) 15 = .ok (.iload_n 1, 1) := by decide +kernel
theorem eX6_wipe_16 : decode (zYb kX6_wipe) 16 = .ok (.ireturn, 1) := by decide +kernel
theorem eX6_fault_0 : decode (zYb kX6_fault) 0 = .ok (.aload_n 0, 1) := by decide +kernel
theorem eX6_fault_1 : decode (zYb kX6_fault) 1 = .ok (.getfield 19, 3) := by decide +kernel
theorem eX6_fault_4 : decode (zYb kX6_fault) 4 = .ok (.invokevirtual 56, 3) := by decide +kernel
theorem eX6_fault_7 : decode (zYb kX6_fault) 7 = .ok (.ireturn, 1) := by decide +kernel
theorem eX6_codeIn_0 : decode (zYb kX6_codeIn) 0 = .ok (.lload_n 0, 1) := by decide +kernel
theorem eX6_codeIn_1 : decode (zYb kX6_codeIn) 1 = .ok (.bipush 8, 2) := by decide +kernel
theorem eX6_codeIn_3 : decode (zYb kX6_codeIn) 3 = .ok (.iload_n 2, 1) := by decide +kernel
theorem eX6_codeIn_4 : decode (zYb kX6_codeIn) 4 = .ok (.imul, 1) := by decide +kernel
theorem eX6_codeIn_5 : decode (zYb kX6_codeIn) 5 = .ok (.lushr, 1) := by decide +kernel
theorem eX6_codeIn_6 : decode (zYb kX6_codeIn) 6 = .ok (.ldc2_w 204, 3) := by decide +kernel
theorem eX6_codeIn_9 : decode (zYb kX6_codeIn) 9 = .ok (.land, 1) := by decide +kernel
theorem eX6_codeIn_10 : decode (zYb kX6_codeIn) 10 = .ok (.l2i, 1) := by decide +kernel
theorem eX6_codeIn_11 : decode (zYb kX6_codeIn) 11 = .ok (.ireturn, 1) := by decide +kernel
theorem eX6_charactersIn_0 : decode (zYb kX6_charactersIn) 0 = .ok (.iconst 0, 1) := by decide +kernel
theorem eX6_charactersIn_1 : decode (zYb kX6_charactersIn) 1 = .ok (.istore_n 2, 1) := by decide +kernel
theorem eX6_charactersIn_2 : decode (zYb kX6_charactersIn) 2 = .ok (.iconst 0, 1) := by decide +kernel
theorem eX6_charactersIn_3 : decode (zYb kX6_charactersIn) 3 = .ok (.istore_n 3, 1) := by decide +kernel
theorem eX6_charactersIn_4 : decode (zYb kX6_charactersIn) 4 = .ok (.iload_n 3, 1) := by decide +kernel
theorem eX6_charactersIn_5 : decode (zYb kX6_charactersIn) 5 = .ok (.bipush 8, 2) := by decide +kernel
theorem eX6_charactersIn_7 : decode (zYb kX6_charactersIn) 7 = .ok (.if_icmp .ge 48, 3) := by decide +kernel
theorem eX6_charactersIn_10 : decode (zYb kX6_charactersIn) 10 = .ok (.lload_n 0, 1) := by decide +kernel
theorem eX6_charactersIn_11 : decode (zYb kX6_charactersIn) 11 = .ok (.iload_n 3, 1) := by decide +kernel
theorem eX6_charactersIn_12 : decode (zYb kX6_charactersIn) 12 = .ok (.invokestatic 190, 3) := by decide +kernel
theorem eX6_charactersIn_15 : decode (zYb kX6_charactersIn) 15 = .ok (.istore 4, 2) := by decide +kernel
theorem eX6_charactersIn_17 : decode (zYb kX6_charactersIn) 17 = .ok (.iload 4, 2) := by decide +kernel
theorem eX6_charactersIn_19 : decode (zYb kX6_charactersIn) 19 = .ok (.ifCond .ne 6, 3) := by decide +kernel
theorem eX6_charactersIn_22 : decode (zYb kX6_charactersIn) 22 = .ok (.goto 27, 3) := by decide +kernel
theorem eX6_charactersIn_25 : decode (zYb kX6_charactersIn) 25 = .ok (.iload 4, 2) := by decide +kernel
theorem eX6_charactersIn_27 : decode (zYb kX6_charactersIn) 27 = .ok (.bipush 33, 2) := by decide +kernel
theorem eX6_charactersIn_29 : decode (zYb kX6_charactersIn) 29 = .ok (.if_icmp .lt 15, 3) := by decide +kernel
theorem eX6_charactersIn_32 : decode (zYb kX6_charactersIn) 32 = .ok (.iload 4, 2) := by decide +kernel
theorem eX6_charactersIn_34 : decode (zYb kX6_charactersIn) 34 = .ok (.bipush 126, 2) := by decide +kernel
theorem eX6_charactersIn_36 : decode (zYb kX6_charactersIn) 36 = .ok (.if_icmp .gt 8, 3) := by decide +kernel
theorem eX6_charactersIn_39 : decode (zYb kX6_charactersIn) 39 = .ok (.iload_n 2, 1) := by decide +kernel
theorem eX6_charactersIn_40 : decode (zYb kX6_charactersIn) 40 = .ok (.iload_n 3, 1) := by decide +kernel
theorem eX6_charactersIn_41 : decode (zYb kX6_charactersIn) 41 = .ok (.if_icmp .eq 5, 3) := by decide +kernel
theorem eX6_charactersIn_44 : decode (zYb kX6_charactersIn) 44 = .ok (.iconst 0, 1) := by decide +kernel
theorem eX6_charactersIn_45 : decode (zYb kX6_charactersIn) 45 = .ok (.ireturn, 1) := by decide +kernel
theorem eX6_charactersIn_46 : decode (zYb kX6_charactersIn) 46 = .ok (.iinc 2 1, 3) := by decide +kernel
theorem eX6_charactersIn_49 : decode (zYb kX6_charactersIn) 49 = .ok (.iinc 3 1, 3) := by decide +kernel
theorem eX6_charactersIn_52 : decode (zYb kX6_charactersIn) 52 = .ok (.goto (-48), 3) := by decide +kernel
theorem eX6_charactersIn_55 : decode (zYb kX6_charactersIn) 55 = .ok (.iload_n 2, 1) := by decide +kernel
theorem eX6_charactersIn_56 : decode (zYb kX6_charactersIn) 56 = .ok (.ireturn, 1) := by decide +kernel
theorem eX6_isLetter_0 : decode (zYb kX6_isLetter) 0 = .ok (.iload_n 0, 1) := by decide +kernel
theorem eX6_isLetter_1 : decode (zYb kX6_isLetter) 1 = .ok (.bipush 97, 2) := by decide +kernel
theorem eX6_isLetter_3 : decode (zYb kX6_isLetter) 3 = .ok (.if_icmp .lt 13, 3) := by decide +kernel
theorem eX6_isLetter_6 : decode (zYb kX6_isLetter) 6 = .ok (.iload_n 0, 1) := by decide +kernel
theorem eX6_isLetter_7 : decode (zYb kX6_isLetter) 7 = .ok (.bipush 122, 2) := by decide +kernel
theorem eX6_isLetter_9 : decode (zYb kX6_isLetter) 9 = .ok (.if_icmp .gt 7, 3) := by decide +kernel
theorem eX6_isLetter_12 : decode (zYb kX6_isLetter) 12 = .ok (.iconst 1, 1) := by decide +kernel
theorem eX6_isLetter_13 : decode (zYb kX6_isLetter) 13 = .ok (.goto 4, 3) := by decide +kernel
theorem eX6_isLetter_16 : decode (zYb kX6_isLetter) 16 = .ok (.iconst 0, 1) := by decide +kernel
theorem eX6_isLetter_17 : decode (zYb kX6_isLetter) 17 = .ok (.ireturn, 1) := by decide +kernel
theorem eX6_sewText_0 : decode (zYb kX6_sewText) 0 = .ok (.aload_n 0, 1) := by decide +kernel
theorem eX6_sewText_1 : decode (zYb kX6_sewText) 1 = .ok (.getfield 10, 3) := by decide +kernel
theorem eX6_sewText_4 : decode (zYb kX6_sewText) 4 = .ok (.invokevirtual 206, 3) := by decide +kernel
theorem eX6_sewText_7 : decode (zYb kX6_sewText) 7 = .ok (.astore_n 1, 1) := by decide +kernel
theorem eX6_sewText_8 : decode (zYb kX6_sewText) 8 = .ok (.iconst 0, 1) := by decide +kernel
theorem eX6_sewText_9 : decode (zYb kX6_sewText) 9 = .ok (.istore_n 2, 1) := by decide +kernel
theorem eX6_sewText_10 : decode (zYb kX6_sewText) 10 = .ok (.iload_n 2, 1) := by decide +kernel
theorem eX6_sewText_11 : decode (zYb kX6_sewText) 11 = .ok (.aload_n 0, 1) := by decide +kernel
theorem eX6_sewText_12 : decode (zYb kX6_sewText) 12 = .ok (.getfield 19, 3) := by decide +kernel
theorem eX6_sewText_15 : decode (zYb kX6_sewText) 15 = .ok (.getfield 179, 3) := by decide +kernel
theorem eX6_sewText_18 : decode (zYb kX6_sewText) 18 = .ok (.if_icmp .ge 64, 3) := by decide +kernel
theorem eX6_sewText_21 : decode (zYb kX6_sewText) 21 = .ok (.aload_n 0, 1) := by decide +kernel
theorem eX6_sewText_22 : decode (zYb kX6_sewText) 22 = .ok (.getfield 19, 3) := by decide +kernel
theorem eX6_sewText_25 : decode (zYb kX6_sewText) 25 = .ok (.iload_n 2, 1) := by decide +kernel
theorem eX6_sewText_26 : decode (zYb kX6_sewText) 26 = .ok (.invokevirtual 210, 3) := by decide +kernel
theorem eX6_sewText_29 : decode (zYb kX6_sewText) 29 = .ok (.istore_n 3, 1) := by decide +kernel
theorem eX6_sewText_30 : decode (zYb kX6_sewText) 30 = .ok (.iload_n 3, 1) := by decide +kernel
theorem eX6_sewText_31 : decode (zYb kX6_sewText) 31 = .ok (.bipush 59, 2) := by decide +kernel
theorem eX6_sewText_33 : decode (zYb kX6_sewText) 33 = .ok (.if_icmp .ne 14, 3) := by decide +kernel
theorem eX6_sewText_36 : decode (zYb kX6_sewText) 36 = .ok (.aload_n 0, 1) := by decide +kernel
theorem eX6_sewText_37 : decode (zYb kX6_sewText) 37 = .ok (.getfield 10, 3) := by decide +kernel
theorem eX6_sewText_40 : decode (zYb kX6_sewText) 40 = .ok (.invokevirtual 206, 3) := by decide +kernel
theorem eX6_sewText_43 : decode (zYb kX6_sewText) 43 = .ok (.astore_n 1, 1) := by decide +kernel
theorem eX6_sewText_44 : decode (zYb kX6_sewText) 44 = .ok (.goto 32, 3) := by decide +kernel
theorem eX6_sewText_47 : decode (zYb kX6_sewText) 47 = .ok (.aload_n 1, 1) := by decide +kernel
theorem eX6_sewText_48 : decode (zYb kX6_sewText) 48 = .ok (.ifnull 16, 3) := by decide +kernel
theorem eX6_sewText_51 : decode (zYb kX6_sewText) 51 = .ok (.iload_n 3, 1) := by decide +kernel
theorem eX6_sewText_52 : decode (zYb kX6_sewText) 52 = .ok (.bipush 124, 2) := by decide +kernel
theorem eX6_sewText_54 : decode (zYb kX6_sewText) 54 = .ok (.if_icmp .ne 10, 3) := by decide +kernel
theorem eX6_sewText_57 : decode (zYb kX6_sewText) 57 = .ok (.aload_n 1, 1) := by decide +kernel
theorem eX6_sewText_58 : decode (zYb kX6_sewText) 58 = .ok (.invokevirtual 213, 3) := by decide +kernel
theorem eX6_sewText_61 : decode (zYb kX6_sewText) 61 = .ok (.goto 15, 3) := by decide +kernel
theorem eX6_sewText_64 : decode (zYb kX6_sewText) 64 = .ok (.aload_n 1, 1) := by decide +kernel
theorem eX6_sewText_65 : decode (zYb kX6_sewText) 65 = .ok (.ifnull 11, 3) := by decide +kernel
theorem eX6_sewText_68 : decode (zYb kX6_sewText) 68 = .ok (.aload_n 1, 1) := by decide +kernel
theorem eX6_sewText_69 : decode (zYb kX6_sewText) 69 = .ok (.iload_n 3, 1) := by decide +kernel
theorem eX6_sewText_70 : decode (zYb kX6_sewText) 70 = .ok (.bipush 97, 2) := by decide +kernel
theorem eX6_sewText_72 : decode (zYb kX6_sewText) 72 = .ok (.isub, 1) := by decide +kernel
theorem eX6_sewText_73 : decode (zYb kX6_sewText) 73 = .ok (.invokevirtual 216, 3) := by decide +kernel
theorem eX6_sewText_76 : decode (zYb kX6_sewText) 76 = .ok (.iinc 2 1, 3) := by decide +kernel
theorem eX6_sewText_79 : decode (zYb kX6_sewText) 79 = .ok (.goto (-69), 3) := by decide +kernel
theorem eX6_sewText_82 : decode (zYb kX6_sewText) 82 = .ok (.return_, 1) := by decide +kernel
theorem eX6_readingsOf_0 : decode (zYb kX6_readingsOf) 0 = .ok (.iconst 2, 1) := by decide +kernel
theorem eX6_readingsOf_1 : decode (zYb kX6_readingsOf) 1 = .ok (.aload_n 1, 1) := by decide +kernel
theorem eX6_readingsOf_2 : decode (zYb kX6_readingsOf) 2 = .ok (.invokevirtual 130, 3) := by decide +kernel
theorem eX6_readingsOf_5 : decode (zYb kX6_readingsOf) 5 = .ok (.imul, 1) := by decide +kernel
theorem eX6_readingsOf_6 : decode (zYb kX6_readingsOf) 6 = .ok (.aload_n 1, 1) := by decide +kernel
theorem eX6_readingsOf_7 : decode (zYb kX6_readingsOf) 7 = .ok (.aload_n 0, 1) := by decide +kernel
theorem eX6_readingsOf_8 : decode (zYb kX6_readingsOf) 8 = .ok (.getfield 52, 3) := by decide +kernel
theorem eX6_readingsOf_11 : decode (zYb kX6_readingsOf) 11 = .ok (.iconst 0, 1) := by decide +kernel
theorem eX6_readingsOf_12 : decode (zYb kX6_readingsOf) 12 = .ok (.invokestatic 219, 3) := by decide +kernel
theorem eX6_readingsOf_15 : decode (zYb kX6_readingsOf) 15 = .ok (.isub, 1) := by decide +kernel
theorem eX6_readingsOf_16 : decode (zYb kX6_readingsOf) 16 = .ok (.ireturn, 1) := by decide +kernel
theorem eX6_toldFromBothEnds_0 : decode (zYb kX6_toldFromBothEnds) 0 = .ok (.iload_n 2, 1) := by decide +kernel
theorem eX6_toldFromBothEnds_1 : decode (zYb kX6_toldFromBothEnds) 1 = .ok (.aload_n 0, 1) := by decide +kernel
theorem eX6_toldFromBothEnds_2 : decode (zYb kX6_toldFromBothEnds) 2 = .ok (.getfield 96, 3) := by decide +kernel
theorem eX6_toldFromBothEnds_5 : decode (zYb kX6_toldFromBothEnds) 5 = .ok (.if_icmp .ge 9, 3) := by decide +kernel
theorem eX6_toldFromBothEnds_8 : decode (zYb kX6_toldFromBothEnds) 8 = .ok (.iload_n 2, 1) := by decide +kernel
theorem eX6_toldFromBothEnds_9 : decode (zYb kX6_toldFromBothEnds) 9 = .ok (.bipush 6, 2) := by decide +kernel
theorem eX6_toldFromBothEnds_11 : decode (zYb kX6_toldFromBothEnds) 11 = .ok (.if_icmp .lt 5, 3) := by decide +kernel
theorem eX6_toldFromBothEnds_14 : decode (zYb kX6_toldFromBothEnds) 14 = .ok (.iconst 1, 1) := by decide +kernel
theorem eX6_toldFromBothEnds_15 : decode (zYb kX6_toldFromBothEnds) 15 = .ok (.ireturn, 1) := by decide +kernel
theorem eX6_toldFromBothEnds_16 : decode (zYb kX6_toldFromBothEnds) 16 = .ok (.iconst 0, 1) := by decide +kernel
theorem eX6_toldFromBothEnds_17 : decode (zYb kX6_toldFromBothEnds) 17 = .ok (.istore_n 3, 1) := by decide +kernel
theorem eX6_toldFromBothEnds_18 : decode (zYb kX6_toldFromBothEnds) 18 = .ok (.aload_n 0, 1) := by decide +kernel
theorem eX6_toldFromBothEnds_19 : decode (zYb kX6_toldFromBothEnds) 19 = .ok (.iload_n 2, 1) := by decide +kernel
theorem eX6_toldFromBothEnds_20 : decode (zYb kX6_toldFromBothEnds) 20 = .ok (.invokevirtual 223, 3) := by decide +kernel
theorem eX6_toldFromBothEnds_23 : decode (zYb kX6_toldFromBothEnds) 23 = .ok (.ifCond .eq 7, 3) := by decide +kernel
theorem eX6_toldFromBothEnds_26 : decode (zYb kX6_toldFromBothEnds) 26 = .ok (.iconst 1, 1) := by decide +kernel
theorem eX6_toldFromBothEnds_27 : decode (zYb kX6_toldFromBothEnds) 27 = .ok (.goto 4, 3) := by decide +kernel
theorem eX6_toldFromBothEnds_30 : decode (zYb kX6_toldFromBothEnds) 30 = .ok (.iconst 2, 1) := by decide +kernel
theorem eX6_toldFromBothEnds_31 : decode (zYb kX6_toldFromBothEnds) 31 = .ok (.istore 4, 2) := by decide +kernel
theorem eX6_toldFromBothEnds_33 : decode (zYb kX6_toldFromBothEnds) 33 = .ok (.iconst 0, 1) := by decide +kernel
theorem eX6_toldFromBothEnds_34 : decode (zYb kX6_toldFromBothEnds) 34 = .ok (.istore 5, 2) := by decide +kernel
theorem eX6_toldFromBothEnds_36 : decode (zYb kX6_toldFromBothEnds) 36 = .ok (.iload 5, 2) := by decide +kernel
theorem eX6_toldFromBothEnds_38 : decode (zYb kX6_toldFromBothEnds) 38 = .ok (.iload 4, 2) := by decide +kernel
theorem eX6_toldFromBothEnds_40 : decode (zYb kX6_toldFromBothEnds) 40 = .ok (.if_icmp .ge 67, 3) := by decide +kernel
theorem eX6_toldFromBothEnds_43 : decode (zYb kX6_toldFromBothEnds) 43 = .ok (.aload_n 0, 1) := by decide +kernel
theorem eX6_toldFromBothEnds_44 : decode (zYb kX6_toldFromBothEnds) 44 = .ok (.iload_n 2, 1) := by decide +kernel
theorem eX6_toldFromBothEnds_45 : decode (zYb kX6_toldFromBothEnds) 45 = .ok (.invokevirtual 142, 3) := by decide +kernel
theorem eX6_toldFromBothEnds_48 : decode (zYb kX6_toldFromBothEnds) 48 = .ok (.istore 6, 2) := by decide +kernel
theorem eX6_toldFromBothEnds_50 : decode (zYb kX6_toldFromBothEnds) 50 = .ok (.aload_n 0, 1) := by decide +kernel
theorem eX6_toldFromBothEnds_51 : decode (zYb kX6_toldFromBothEnds) 51 = .ok (.iload_n 2, 1) := by decide +kernel
theorem eX6_toldFromBothEnds_52 : decode (zYb kX6_toldFromBothEnds) 52 = .ok (.invokevirtual 226, 3) := by decide +kernel
theorem eX6_toldFromBothEnds_55 : decode (zYb kX6_toldFromBothEnds) 55 = .ok (.istore 7, 2) := by decide +kernel
theorem eX6_toldFromBothEnds_57 : decode (zYb kX6_toldFromBothEnds) 57 = .ok (.aload_n 0, 1) := by decide +kernel
theorem eX6_toldFromBothEnds_58 : decode (zYb kX6_toldFromBothEnds) 58 = .ok (.iload 6, 2) := by decide +kernel
theorem eX6_toldFromBothEnds_60 : decode (zYb kX6_toldFromBothEnds) 60 = .ok (.iload 7, 2) := by decide +kernel
theorem eX6_toldFromBothEnds_62 : decode (zYb kX6_toldFromBothEnds) 62 = .ok (.iload 5, 2) := by decide +kernel
theorem eX6_toldFromBothEnds_64 : decode (zYb kX6_toldFromBothEnds) 64 = .ok (.iconst 1, 1) := by decide +kernel
theorem eX6_toldFromBothEnds_65 : decode (zYb kX6_toldFromBothEnds) 65 = .ok (.if_icmp .ne 7, 3) := by decide +kernel
theorem eX6_toldFromBothEnds_68 : decode (zYb kX6_toldFromBothEnds) 68 = .ok (.iconst 1, 1) := by decide +kernel
theorem eX6_toldFromBothEnds_69 : decode (zYb kX6_toldFromBothEnds) 69 = .ok (.goto 4, 3) := by decide +kernel
theorem eX6_toldFromBothEnds_72 : decode (zYb kX6_toldFromBothEnds) 72 = .ok (.iconst 0, 1) := by decide +kernel
theorem eX6_toldFromBothEnds_73 : decode (zYb kX6_toldFromBothEnds) 73 = .ok (.aload_n 1, 1) := by decide +kernel
theorem eX6_toldFromBothEnds_74 : decode (zYb kX6_toldFromBothEnds) 74 = .ok (.iload 6, 2) := by decide +kernel
theorem eX6_toldFromBothEnds_76 : decode (zYb kX6_toldFromBothEnds) 76 = .ok (.invokevirtual 229, 3) := by decide +kernel
theorem eX6_toldFromBothEnds_79 : decode (zYb kX6_toldFromBothEnds) 79 = .ok (.aload_n 0, 1) := by decide +kernel
theorem eX6_toldFromBothEnds_80 : decode (zYb kX6_toldFromBothEnds) 80 = .ok (.aload_n 1, 1) := by decide +kernel
theorem eX6_toldFromBothEnds_81 : decode (zYb kX6_toldFromBothEnds) 81 = .ok (.iload 7, 2) := by decide +kernel
theorem eX6_toldFromBothEnds_83 : decode (zYb kX6_toldFromBothEnds) 83 = .ok (.iconst 1, 1) := by decide +kernel
theorem eX6_toldFromBothEnds_84 : decode (zYb kX6_toldFromBothEnds) 84 = .ok (.invokevirtual 233, 3) := by decide +kernel
theorem eX6_toldFromBothEnds_87 : decode (zYb kX6_toldFromBothEnds) 87 = .ok (.ifCond .eq 14, 3) := by decide +kernel
theorem eX6_toldFromBothEnds_90 : decode (zYb kX6_toldFromBothEnds) 90 = .ok (.iload_n 3, 1) := by decide +kernel
theorem eX6_toldFromBothEnds_91 : decode (zYb kX6_toldFromBothEnds) 91 = .ok (.aload_n 0, 1) := by decide +kernel
theorem eX6_toldFromBothEnds_92 : decode (zYb kX6_toldFromBothEnds) 92 = .ok (.aload_n 1, 1) := by decide +kernel
theorem eX6_toldFromBothEnds_93 : decode (zYb kX6_toldFromBothEnds) 93 = .ok (.iload_n 2, 1) := by decide +kernel
theorem eX6_toldFromBothEnds_94 : decode (zYb kX6_toldFromBothEnds) 94 = .ok (.iconst 1, 1) := by decide +kernel
theorem eX6_toldFromBothEnds_95 : decode (zYb kX6_toldFromBothEnds) 95 = .ok (.iadd, 1) := by decide +kernel
theorem eX6_toldFromBothEnds_96 : decode (zYb kX6_toldFromBothEnds) 96 = .ok (.invokestatic 219, 3) := by decide +kernel
theorem eX6_toldFromBothEnds_99 : decode (zYb kX6_toldFromBothEnds) 99 = .ok (.iadd, 1) := by decide +kernel
theorem eX6_toldFromBothEnds_100 : decode (zYb kX6_toldFromBothEnds) 100 = .ok (.istore_n 3, 1) := by decide +kernel
theorem eX6_toldFromBothEnds_101 : decode (zYb kX6_toldFromBothEnds) 101 = .ok (.iinc 5 1, 3) := by decide +kernel
theorem eX6_toldFromBothEnds_104 : decode (zYb kX6_toldFromBothEnds) 104 = .ok (.goto (-68), 3) := by decide +kernel
theorem eX6_toldFromBothEnds_107 : decode (zYb kX6_toldFromBothEnds) 107 = .ok (.iload_n 3, 1) := by decide +kernel
theorem eX6_toldFromBothEnds_108 : decode (zYb kX6_toldFromBothEnds) 108 = .ok (.ireturn, 1) := by decide +kernel
theorem eX6_readingsWithCut_0 : decode (zYb kX6_readingsWithCut) 0 = .ok (.aload_n 0, 1) := by decide +kernel
theorem eX6_readingsWithCut_1 : decode (zYb kX6_readingsWithCut) 1 = .ok (.getfield 48, 3) := by decide +kernel
theorem eX6_readingsWithCut_4 : decode (zYb kX6_readingsWithCut) 4 = .ok (.aload_n 1, 1) := by decide +kernel
theorem eX6_readingsWithCut_5 : decode (zYb kX6_readingsWithCut) 5 = .ok (.invokevirtual 237, 3) := by decide +kernel
theorem eX6_readingsWithCut_8 : decode (zYb kX6_readingsWithCut) 8 = .ok (.aload_n 0, 1) := by decide +kernel
theorem eX6_readingsWithCut_9 : decode (zYb kX6_readingsWithCut) 9 = .ok (.getfield 48, 3) := by decide +kernel
theorem eX6_readingsWithCut_12 : decode (zYb kX6_readingsWithCut) 12 = .ok (.iload_n 2, 1) := by decide +kernel
theorem eX6_readingsWithCut_13 : decode (zYb kX6_readingsWithCut) 13 = .ok (.iload_n 3, 1) := by decide +kernel
theorem eX6_readingsWithCut_14 : decode (zYb kX6_readingsWithCut) 14 = .ok (.invokevirtual 99, 3) := by decide +kernel
theorem eX6_readingsWithCut_17 : decode (zYb kX6_readingsWithCut) 17 = .ok (.aload_n 0, 1) := by decide +kernel
theorem eX6_readingsWithCut_18 : decode (zYb kX6_readingsWithCut) 18 = .ok (.aload_n 0, 1) := by decide +kernel
theorem eX6_readingsWithCut_19 : decode (zYb kX6_readingsWithCut) 19 = .ok (.getfield 48, 3) := by decide +kernel
theorem eX6_readingsWithCut_22 : decode (zYb kX6_readingsWithCut) 22 = .ok (.invokevirtual 122, 3) := by decide +kernel
theorem eX6_readingsWithCut_25 : decode (zYb kX6_readingsWithCut) 25 = .ok (.ireturn, 1) := by decide +kernel
theorem eX6_readingsOfBoth_0 : decode (zYb kX6_readingsOfBoth) 0 = .ok (.iconst 0, 1) := by decide +kernel
theorem eX6_readingsOfBoth_1 : decode (zYb kX6_readingsOfBoth) 1 = .ok (.istore_n 3, 1) := by decide +kernel
theorem eX6_readingsOfBoth_2 : decode (zYb kX6_readingsOfBoth) 2 = .ok (.aload_n 0, 1) := by decide +kernel
theorem eX6_readingsOfBoth_3 : decode (zYb kX6_readingsOfBoth) 3 = .ok (.getfield 41, 3) := by decide +kernel
theorem eX6_readingsOfBoth_6 : decode (zYb kX6_readingsOfBoth) 6 = .ok (.aload_n 1, 1) := by decide +kernel
theorem eX6_readingsOfBoth_7 : decode (zYb kX6_readingsOfBoth) 7 = .ok (.invokevirtual 148, 3) := by decide +kernel
theorem eX6_readingsOfBoth_10 : decode (zYb kX6_readingsOfBoth) 10 = .ok (.iconst 0, 1) := by decide +kernel
theorem eX6_readingsOfBoth_11 : decode (zYb kX6_readingsOfBoth) 11 = .ok (.istore 4, 2) := by decide +kernel
theorem eX6_readingsOfBoth_13 : decode (zYb kX6_readingsOfBoth) 13 = .ok (.iload 4, 2) := by decide +kernel
theorem eX6_readingsOfBoth_15 : decode (zYb kX6_readingsOfBoth) 15 = .ok (.sipush 128, 3) := by decide +kernel
theorem eX6_readingsOfBoth_18 : decode (zYb kX6_readingsOfBoth) 18 = .ok (.if_icmp .ge 43, 3) := by decide +kernel
theorem eX6_readingsOfBoth_21 : decode (zYb kX6_readingsOfBoth) 21 = .ok (.aload_n 0, 1) := by decide +kernel
theorem eX6_readingsOfBoth_22 : decode (zYb kX6_readingsOfBoth) 22 = .ok (.getfield 41, 3) := by decide +kernel
theorem eX6_readingsOfBoth_25 : decode (zYb kX6_readingsOfBoth) 25 = .ok (.invokevirtual 151, 3) := by decide +kernel
theorem eX6_readingsOfBoth_28 : decode (zYb kX6_readingsOfBoth) 28 = .ok (.ifCond .eq 33, 3) := by decide +kernel
theorem eX6_readingsOfBoth_31 : decode (zYb kX6_readingsOfBoth) 31 = .ok (.aload_n 2, 1) := by decide +kernel
theorem eX6_readingsOfBoth_32 : decode (zYb kX6_readingsOfBoth) 32 = .ok (.aload_n 0, 1) := by decide +kernel
theorem eX6_readingsOfBoth_33 : decode (zYb kX6_readingsOfBoth) 33 = .ok (.getfield 41, 3) := by decide +kernel
theorem eX6_readingsOfBoth_36 : decode (zYb kX6_readingsOfBoth) 36 = .ok (.getfield 239, 3) := by decide +kernel
theorem eX6_readingsOfBoth_39 : decode (zYb kX6_readingsOfBoth) 39 = .ok (.aload_n 0, 1) := by decide +kernel
theorem eX6_readingsOfBoth_40 : decode (zYb kX6_readingsOfBoth) 40 = .ok (.getfield 41, 3) := by decide +kernel
theorem eX6_readingsOfBoth_43 : decode (zYb kX6_readingsOfBoth) 43 = .ok (.getfield 242, 3) := by decide +kernel
theorem eX6_readingsOfBoth_46 : decode (zYb kX6_readingsOfBoth) 46 = .ok (.invokevirtual 243, 3) := by decide +kernel
theorem eX6_readingsOfBoth_49 : decode (zYb kX6_readingsOfBoth) 49 = .ok (.ifCond .eq 6, 3) := by decide +kernel
theorem eX6_readingsOfBoth_52 : decode (zYb kX6_readingsOfBoth) 52 = .ok (.iinc 3 1, 3) := by decide +kernel
theorem eX6_readingsOfBoth_55 : decode (zYb kX6_readingsOfBoth) 55 = .ok (.iinc 4 1, 3) := by decide +kernel
theorem eX6_readingsOfBoth_58 : decode (zYb kX6_readingsOfBoth) 58 = .ok (.goto (-45), 3) := by decide +kernel
theorem eX6_readingsOfBoth_61 : decode (zYb kX6_readingsOfBoth) 61 = .ok (.iload_n 3, 1) := by decide +kernel
theorem eX6_readingsOfBoth_62 : decode (zYb kX6_readingsOfBoth) 62 = .ok (.ireturn, 1) := by decide +kernel
theorem eX6_tellTheSame_0 : decode (zYb kX6_tellTheSame) 0 = .ok (.aload_n 0, 1) := by decide +kernel
theorem eX6_tellTheSame_1 : decode (zYb kX6_tellTheSame) 1 = .ok (.aload_n 1, 1) := by decide +kernel
theorem eX6_tellTheSame_2 : decode (zYb kX6_tellTheSame) 2 = .ok (.invokevirtual 122, 3) := by decide +kernel
theorem eX6_tellTheSame_5 : decode (zYb kX6_tellTheSame) 5 = .ok (.istore_n 3, 1) := by decide +kernel
theorem eX6_tellTheSame_6 : decode (zYb kX6_tellTheSame) 6 = .ok (.iload_n 3, 1) := by decide +kernel
theorem eX6_tellTheSame_7 : decode (zYb kX6_tellTheSame) 7 = .ok (.aload_n 0, 1) := by decide +kernel
theorem eX6_tellTheSame_8 : decode (zYb kX6_tellTheSame) 8 = .ok (.aload_n 2, 1) := by decide +kernel
theorem eX6_tellTheSame_9 : decode (zYb kX6_tellTheSame) 9 = .ok (.invokevirtual 122, 3) := by decide +kernel
theorem eX6_tellTheSame_12 : decode (zYb kX6_tellTheSame) 12 = .ok (.if_icmp .ne 17, 3) := by decide +kernel
theorem eX6_tellTheSame_15 : decode (zYb kX6_tellTheSame) 15 = .ok (.iload_n 3, 1) := by decide +kernel
theorem eX6_tellTheSame_16 : decode (zYb kX6_tellTheSame) 16 = .ok (.aload_n 0, 1) := by decide +kernel
theorem eX6_tellTheSame_17 : decode (zYb kX6_tellTheSame) 17 = .ok (.aload_n 1, 1) := by decide +kernel
theorem eX6_tellTheSame_18 : decode (zYb kX6_tellTheSame) 18 = .ok (.aload_n 2, 1) := by decide +kernel
theorem eX6_tellTheSame_19 : decode (zYb kX6_tellTheSame) 19 = .ok (.invokevirtual 163, 3) := by decide +kernel
theorem eX6_tellTheSame_22 : decode (zYb kX6_tellTheSame) 22 = .ok (.if_icmp .ne 7, 3) := by decide +kernel
theorem eX6_tellTheSame_25 : decode (zYb kX6_tellTheSame) 25 = .ok (.iconst 1, 1) := by decide +kernel
theorem eX6_tellTheSame_26 : decode (zYb kX6_tellTheSame) 26 = .ok (.goto 4, 3) := by decide +kernel
theorem eX6_tellTheSame_29 : decode (zYb kX6_tellTheSame) 29 = .ok (.iconst 0, 1) := by decide +kernel
theorem eX6_tellTheSame_30 : decode (zYb kX6_tellTheSame) 30 = .ok (.ireturn, 1) := by decide +kernel
theorem eX6_evenReadings_0 : decode (zYb kX6_evenReadings) 0 = .ok (.iconst 0, 1) := by decide +kernel
theorem eX6_evenReadings_1 : decode (zYb kX6_evenReadings) 1 = .ok (.istore_n 2, 1) := by decide +kernel
theorem eX6_evenReadings_2 : decode (zYb kX6_evenReadings) 2 = .ok (.aload_n 0, 1) := by decide +kernel
theorem eX6_evenReadings_3 : decode (zYb kX6_evenReadings) 3 = .ok (.getfield 41, 3) := by decide +kernel
theorem eX6_evenReadings_6 : decode (zYb kX6_evenReadings) 6 = .ok (.aload_n 1, 1) := by decide +kernel
theorem eX6_evenReadings_7 : decode (zYb kX6_evenReadings) 7 = .ok (.invokevirtual 148, 3) := by decide +kernel
theorem eX6_evenReadings_10 : decode (zYb kX6_evenReadings) 10 = .ok (.iconst 0, 1) := by decide +kernel
theorem eX6_evenReadings_11 : decode (zYb kX6_evenReadings) 11 = .ok (.istore_n 3, 1) := by decide +kernel
theorem eX6_evenReadings_12 : decode (zYb kX6_evenReadings) 12 = .ok (.iload_n 3, 1) := by decide +kernel
theorem eX6_evenReadings_13 : decode (zYb kX6_evenReadings) 13 = .ok (.sipush 128, 3) := by decide +kernel
theorem eX6_evenReadings_16 : decode (zYb kX6_evenReadings) 16 = .ok (.if_icmp .ge 43, 3) := by decide +kernel
theorem eX6_evenReadings_19 : decode (zYb kX6_evenReadings) 19 = .ok (.aload_n 0, 1) := by decide +kernel
theorem eX6_evenReadings_20 : decode (zYb kX6_evenReadings) 20 = .ok (.getfield 41, 3) := by decide +kernel
theorem eX6_evenReadings_23 : decode (zYb kX6_evenReadings) 23 = .ok (.invokevirtual 151, 3) := by decide +kernel
theorem eX6_evenReadings_26 : decode (zYb kX6_evenReadings) 26 = .ok (.ifCond .eq 33, 3) := by decide +kernel
theorem eX6_evenReadings_29 : decode (zYb kX6_evenReadings) 29 = .ok (.aload_n 0, 1) := by decide +kernel
theorem eX6_evenReadings_30 : decode (zYb kX6_evenReadings) 30 = .ok (.getfield 41, 3) := by decide +kernel
theorem eX6_evenReadings_33 : decode (zYb kX6_evenReadings) 33 = .ok (.getfield 239, 3) := by decide +kernel
theorem eX6_evenReadings_36 : decode (zYb kX6_evenReadings) 36 = .ok (.iconst 0, 1) := by decide +kernel
theorem eX6_evenReadings_37 : decode (zYb kX6_evenReadings) 37 = .ok (.aload_n 0, 1) := by decide +kernel
theorem eX6_evenReadings_38 : decode (zYb kX6_evenReadings) 38 = .ok (.getfield 41, 3) := by decide +kernel
theorem eX6_evenReadings_41 : decode (zYb kX6_evenReadings) 41 = .ok (.getfield 242, 3) := by decide +kernel
theorem eX6_evenReadings_44 : decode (zYb kX6_evenReadings) 44 = .ok (.invokestatic 247, 3) := by decide +kernel
theorem eX6_evenReadings_47 : decode (zYb kX6_evenReadings) 47 = .ok (.ifCond .ne 6, 3) := by decide +kernel
theorem eX6_evenReadings_50 : decode (zYb kX6_evenReadings) 50 = .ok (.iinc 2 1, 3) := by decide +kernel
theorem eX6_evenReadings_53 : decode (zYb kX6_evenReadings) 53 = .ok (.iinc 3 1, 3) := by decide +kernel
theorem eX6_evenReadings_56 : decode (zYb kX6_evenReadings) 56 = .ok (.goto (-44), 3) := by decide +kernel
theorem eX6_evenReadings_59 : decode (zYb kX6_evenReadings) 59 = .ok (.iload_n 2, 1) := by decide +kernel
theorem eX6_evenReadings_60 : decode (zYb kX6_evenReadings) 60 = .ok (.ireturn, 1) := by decide +kernel
theorem eX6_idleSeams_0 : decode (zYb kX6_idleSeams) 0 = .ok (.iconst 0, 1) := by decide +kernel
theorem eX6_idleSeams_1 : decode (zYb kX6_idleSeams) 1 = .ok (.istore_n 2, 1) := by decide +kernel
theorem eX6_idleSeams_2 : decode (zYb kX6_idleSeams) 2 = .ok (.iconst 0, 1) := by decide +kernel
theorem eX6_idleSeams_3 : decode (zYb kX6_idleSeams) 3 = .ok (.istore_n 3, 1) := by decide +kernel
theorem eX6_idleSeams_4 : decode (zYb kX6_idleSeams) 4 = .ok (.iload_n 3, 1) := by decide +kernel
theorem eX6_idleSeams_5 : decode (zYb kX6_idleSeams) 5 = .ok (.iconst 1, 1) := by decide +kernel
theorem eX6_idleSeams_6 : decode (zYb kX6_idleSeams) 6 = .ok (.iadd, 1) := by decide +kernel
theorem eX6_idleSeams_7 : decode (zYb kX6_idleSeams) 7 = .ok (.aload_n 1, 1) := by decide +kernel
theorem eX6_idleSeams_8 : decode (zYb kX6_idleSeams) 8 = .ok (.getfield 96, 3) := by decide +kernel
theorem eX6_idleSeams_11 : decode (zYb kX6_idleSeams) 11 = .ok (.if_icmp .ge 40, 3) := by decide +kernel
theorem eX6_idleSeams_14 : decode (zYb kX6_idleSeams) 14 = .ok (.aload_n 0, 1) := by decide +kernel
theorem eX6_idleSeams_15 : decode (zYb kX6_idleSeams) 15 = .ok (.getfield 48, 3) := by decide +kernel
theorem eX6_idleSeams_18 : decode (zYb kX6_idleSeams) 18 = .ok (.aload_n 1, 1) := by decide +kernel
theorem eX6_idleSeams_19 : decode (zYb kX6_idleSeams) 19 = .ok (.invokevirtual 237, 3) := by decide +kernel
theorem eX6_idleSeams_22 : decode (zYb kX6_idleSeams) 22 = .ok (.aload_n 0, 1) := by decide +kernel
theorem eX6_idleSeams_23 : decode (zYb kX6_idleSeams) 23 = .ok (.getfield 48, 3) := by decide +kernel
theorem eX6_idleSeams_26 : decode (zYb kX6_idleSeams) 26 = .ok (.iload_n 3, 1) := by decide +kernel
theorem eX6_idleSeams_27 : decode (zYb kX6_idleSeams) 27 = .ok (.invokevirtual 110, 3) := by decide +kernel
theorem eX6_idleSeams_30 : decode (zYb kX6_idleSeams) 30 = .ok (.aload_n 0, 1) := by decide +kernel
theorem eX6_idleSeams_31 : decode (zYb kX6_idleSeams) 31 = .ok (.aload_n 1, 1) := by decide +kernel
theorem eX6_idleSeams_32 : decode (zYb kX6_idleSeams) 32 = .ok (.aload_n 0, 1) := by decide +kernel
theorem eX6_idleSeams_33 : decode (zYb kX6_idleSeams) 33 = .ok (.getfield 48, 3) := by decide +kernel
theorem eX6_idleSeams_36 : decode (zYb kX6_idleSeams) 36 = .ok (.invokevirtual 251, 3) := by decide +kernel
theorem eX6_idleSeams_39 : decode (zYb kX6_idleSeams) 39 = .ok (.ifCond .eq 6, 3) := by decide +kernel
theorem eX6_idleSeams_42 : decode (zYb kX6_idleSeams) 42 = .ok (.iinc 2 1, 3) := by decide +kernel
theorem eX6_idleSeams_45 : decode (zYb kX6_idleSeams) 45 = .ok (.iinc 3 1, 3) := by decide +kernel
theorem eX6_idleSeams_48 : decode (zYb kX6_idleSeams) 48 = .ok (.goto (-44), 3) := by decide +kernel
theorem eX6_idleSeams_51 : decode (zYb kX6_idleSeams) 51 = .ok (.iload_n 2, 1) := by decide +kernel
theorem eX6_idleSeams_52 : decode (zYb kX6_idleSeams) 52 = .ok (.ireturn, 1) := by decide +kernel
theorem eX6_findWord_0 : decode (zYb kX6_findWord) 0 = .ok (.iconst 0, 1) := by decide +kernel
theorem eX6_findWord_1 : decode (zYb kX6_findWord) 1 = .ok (.istore_n 3, 1) := by decide +kernel
theorem eX6_findWord_2 : decode (zYb kX6_findWord) 2 = .ok (.iconst 0, 1) := by decide +kernel
theorem eX6_findWord_3 : decode (zYb kX6_findWord) 3 = .ok (.istore 4, 2) := by decide +kernel
theorem eX6_findWord_5 : decode (zYb kX6_findWord) 5 = .ok (.bipush (-6), 2) := by decide +kernel
theorem eX6_findWord_7 : decode (zYb kX6_findWord) 7 = .ok (.istore 5, 2) := by decide +kernel
theorem eX6_findWord_9 : decode (zYb kX6_findWord) 9 = .ok (.bipush (-6), 2) := by decide +kernel
theorem eX6_findWord_11 : decode (zYb kX6_findWord) 11 = .ok (.istore 6, 2) := by decide +kernel
theorem eX6_findWord_13 : decode (zYb kX6_findWord) 13 = .ok (.aload_n 0, 1) := by decide +kernel
theorem eX6_findWord_14 : decode (zYb kX6_findWord) 14 = .ok (.getfield 41, 3) := by decide +kernel
theorem eX6_findWord_17 : decode (zYb kX6_findWord) 17 = .ok (.aload_n 1, 1) := by decide +kernel
theorem eX6_findWord_18 : decode (zYb kX6_findWord) 18 = .ok (.invokevirtual 148, 3) := by decide +kernel
theorem eX6_findWord_21 : decode (zYb kX6_findWord) 21 = .ok (.iconst 0, 1) := by decide +kernel
theorem eX6_findWord_22 : decode (zYb kX6_findWord) 22 = .ok (.istore 7, 2) := by decide +kernel
theorem eX6_findWord_24 : decode (zYb kX6_findWord) 24 = .ok (.iload 7, 2) := by decide +kernel
theorem eX6_findWord_26 : decode (zYb kX6_findWord) 26 = .ok (.sipush 128, 3) := by decide +kernel
theorem eX6_findWord_29 : decode (zYb kX6_findWord) 29 = .ok (.if_icmp .ge 77, 3) := by decide +kernel
theorem eX6_findWord_32 : decode (zYb kX6_findWord) 32 = .ok (.aload_n 0, 1) := by decide +kernel
theorem eX6_findWord_33 : decode (zYb kX6_findWord) 33 = .ok (.getfield 41, 3) := by decide +kernel
theorem eX6_findWord_36 : decode (zYb kX6_findWord) 36 = .ok (.invokevirtual 151, 3) := by decide +kernel
theorem eX6_findWord_39 : decode (zYb kX6_findWord) 39 = .ok (.ifCond .eq 67, 3) := by decide +kernel
theorem eX6_findWord_42 : decode (zYb kX6_findWord) 42 = .ok (.aload_n 0, 1) := by decide +kernel
theorem eX6_findWord_43 : decode (zYb kX6_findWord) 43 = .ok (.getfield 19, 3) := by decide +kernel
theorem eX6_findWord_46 : decode (zYb kX6_findWord) 46 = .ok (.aload_n 0, 1) := by decide +kernel
theorem eX6_findWord_47 : decode (zYb kX6_findWord) 47 = .ok (.getfield 41, 3) := by decide +kernel
theorem eX6_findWord_50 : decode (zYb kX6_findWord) 50 = .ok (.getfield 239, 3) := by decide +kernel
theorem eX6_findWord_53 : decode (zYb kX6_findWord) 53 = .ok (.aload_n 0, 1) := by decide +kernel
theorem eX6_findWord_54 : decode (zYb kX6_findWord) 54 = .ok (.getfield 41, 3) := by decide +kernel
theorem eX6_findWord_57 : decode (zYb kX6_findWord) 57 = .ok (.getfield 242, 3) := by decide +kernel
theorem eX6_findWord_60 : decode (zYb kX6_findWord) 60 = .ok (.invokevirtual 255, 3) := by decide +kernel
theorem eX6_findWord_63 : decode (zYb kX6_findWord) 63 = .ok (.istore 8, 2) := by decide +kernel
theorem eX6_findWord_65 : decode (zYb kX6_findWord) 65 = .ok (.iinc 4 1, 3) := by decide +kernel
theorem eX6_findWord_68 : decode (zYb kX6_findWord) 68 = .ok (.iload 8, 2) := by decide +kernel
theorem eX6_findWord_70 : decode (zYb kX6_findWord) 70 = .ok (.bipush (-6), 2) := by decide +kernel
theorem eX6_findWord_72 : decode (zYb kX6_findWord) 72 = .ok (.if_icmp .eq 6, 3) := by decide +kernel
theorem eX6_findWord_75 : decode (zYb kX6_findWord) 75 = .ok (.iinc 3 1, 3) := by decide +kernel
theorem eX6_findWord_78 : decode (zYb kX6_findWord) 78 = .ok (.iload 8, 2) := by decide +kernel
theorem eX6_findWord_80 : decode (zYb kX6_findWord) 80 = .ok (.bipush (-6), 2) := by decide +kernel
theorem eX6_findWord_82 : decode (zYb kX6_findWord) 82 = .ok (.if_icmp .eq 18, 3) := by decide +kernel
theorem eX6_findWord_85 : decode (zYb kX6_findWord) 85 = .ok (.iload 5, 2) := by decide +kernel
theorem eX6_findWord_87 : decode (zYb kX6_findWord) 87 = .ok (.bipush (-6), 2) := by decide +kernel
theorem eX6_findWord_89 : decode (zYb kX6_findWord) 89 = .ok (.if_icmp .ne 11, 3) := by decide +kernel
theorem eX6_findWord_92 : decode (zYb kX6_findWord) 92 = .ok (.iload 7, 2) := by decide +kernel
theorem eX6_findWord_94 : decode (zYb kX6_findWord) 94 = .ok (.istore 5, 2) := by decide +kernel
theorem eX6_findWord_96 : decode (zYb kX6_findWord) 96 = .ok (.iload 8, 2) := by decide +kernel
theorem eX6_findWord_98 : decode (zYb kX6_findWord) 98 = .ok (.istore 6, 2) := by decide +kernel
theorem eX6_findWord_100 : decode (zYb kX6_findWord) 100 = .ok (.iinc 7 1, 3) := by decide +kernel
theorem eX6_findWord_103 : decode (zYb kX6_findWord) 103 = .ok (.goto (-79), 3) := by decide +kernel
theorem eX6_findWord_106 : decode (zYb kX6_findWord) 106 = .ok (.iload_n 2, 1) := by decide +kernel
theorem eX6_findWord_107 : decode (zYb kX6_findWord) 107 = .ok (.tableswitch 33 0 2 #[25, 27, 30], 25) := by decide +kernel
theorem eX6_findWord_132 : decode (zYb kX6_findWord) 132 = .ok (.iload_n 3, 1) := by decide +kernel
theorem eX6_findWord_133 : decode (zYb kX6_findWord) 133 = .ok (.ireturn, 1) := by decide +kernel
theorem eX6_findWord_134 : decode (zYb kX6_findWord) 134 = .ok (.iload 5, 2) := by decide +kernel
theorem eX6_findWord_136 : decode (zYb kX6_findWord) 136 = .ok (.ireturn, 1) := by decide +kernel
theorem eX6_findWord_137 : decode (zYb kX6_findWord) 137 = .ok (.iload 6, 2) := by decide +kernel
theorem eX6_findWord_139 : decode (zYb kX6_findWord) 139 = .ok (.ireturn, 1) := by decide +kernel
theorem eX6_findWord_140 : decode (zYb kX6_findWord) 140 = .ok (.iload_n 3, 1) := by decide +kernel
theorem eX6_findWord_141 : decode (zYb kX6_findWord) 141 = .ok (.iload 4, 2) := by decide +kernel
theorem eX6_findWord_143 : decode (zYb kX6_findWord) 143 = .ok (.if_icmp .ne 7, 3) := by decide +kernel
theorem eX6_findWord_146 : decode (zYb kX6_findWord) 146 = .ok (.iconst 1, 1) := by decide +kernel
theorem eX6_findWord_147 : decode (zYb kX6_findWord) 147 = .ok (.goto 4, 3) := by decide +kernel
theorem eX6_findWord_150 : decode (zYb kX6_findWord) 150 = .ok (.iconst 0, 1) := by decide +kernel
theorem eX6_findWord_151 : decode (zYb kX6_findWord) 151 = .ok (.ireturn, 1) := by decide +kernel
theorem eX6_readingsOfAll_0 : decode (zYb kX6_readingsOfAll) 0 = .ok (.iconst 0, 1) := by decide +kernel
theorem eX6_readingsOfAll_1 : decode (zYb kX6_readingsOfAll) 1 = .ok (.istore_n 1, 1) := by decide +kernel
theorem eX6_readingsOfAll_2 : decode (zYb kX6_readingsOfAll) 2 = .ok (.iconst 0, 1) := by decide +kernel
theorem eX6_readingsOfAll_3 : decode (zYb kX6_readingsOfAll) 3 = .ok (.istore_n 2, 1) := by decide +kernel
theorem eX6_readingsOfAll_4 : decode (zYb kX6_readingsOfAll) 4 = .ok (.iload_n 2, 1) := by decide +kernel
theorem eX6_readingsOfAll_5 : decode (zYb kX6_readingsOfAll) 5 = .ok (.aload_n 0, 1) := by decide +kernel
theorem eX6_readingsOfAll_6 : decode (zYb kX6_readingsOfAll) 6 = .ok (.getfield 10, 3) := by decide +kernel
theorem eX6_readingsOfAll_9 : decode (zYb kX6_readingsOfAll) 9 = .ok (.getfield 60, 3) := by decide +kernel
theorem eX6_readingsOfAll_12 : decode (zYb kX6_readingsOfAll) 12 = .ok (.if_icmp .ge 31, 3) := by decide +kernel
theorem eX6_readingsOfAll_15 : decode (zYb kX6_readingsOfAll) 15 = .ok (.aload_n 0, 1) := by decide +kernel
theorem eX6_readingsOfAll_16 : decode (zYb kX6_readingsOfAll) 16 = .ok (.getfield 10, 3) := by decide +kernel
theorem eX6_readingsOfAll_19 : decode (zYb kX6_readingsOfAll) 19 = .ok (.iload_n 2, 1) := by decide +kernel
theorem eX6_readingsOfAll_20 : decode (zYb kX6_readingsOfAll) 20 = .ok (.invokevirtual 77, 3) := by decide +kernel
theorem eX6_readingsOfAll_23 : decode (zYb kX6_readingsOfAll) 23 = .ok (.astore_n 3, 1) := by decide +kernel
theorem eX6_readingsOfAll_24 : decode (zYb kX6_readingsOfAll) 24 = .ok (.aload_n 3, 1) := by decide +kernel
theorem eX6_readingsOfAll_25 : decode (zYb kX6_readingsOfAll) 25 = .ok (.ifnull 12, 3) := by decide +kernel
theorem eX6_readingsOfAll_28 : decode (zYb kX6_readingsOfAll) 28 = .ok (.iload_n 1, 1) := by decide +kernel
theorem eX6_readingsOfAll_29 : decode (zYb kX6_readingsOfAll) 29 = .ok (.aload_n 0, 1) := by decide +kernel
theorem eX6_readingsOfAll_30 : decode (zYb kX6_readingsOfAll) 30 = .ok (.aload_n 3, 1) := by decide +kernel
theorem eX6_readingsOfAll_31 : decode (zYb kX6_readingsOfAll) 31 = .ok (.iload_n 2, 1) := by decide +kernel
theorem eX6_readingsOfAll_32 : decode (zYb kX6_readingsOfAll) 32 = .ok (.invokevirtual 259, 3) := by decide +kernel
theorem eX6_readingsOfAll_35 : decode (zYb kX6_readingsOfAll) 35 = .ok (.iadd, 1) := by decide +kernel
theorem eX6_readingsOfAll_36 : decode (zYb kX6_readingsOfAll) 36 = .ok (.istore_n 1, 1) := by decide +kernel
theorem eX6_readingsOfAll_37 : decode (zYb kX6_readingsOfAll) 37 = .ok (.iinc 2 1, 3) := by decide +kernel
theorem eX6_readingsOfAll_40 : decode (zYb kX6_readingsOfAll) 40 = .ok (.goto (-36), 3) := by decide +kernel
theorem eX6_readingsOfAll_43 : decode (zYb kX6_readingsOfAll) 43 = .ok (.iload_n 1, 1) := by decide +kernel
theorem eX6_readingsOfAll_44 : decode (zYb kX6_readingsOfAll) 44 = .ok (.ireturn, 1) := by decide +kernel
theorem eX6_readingsNotToldBefore_0 : decode (zYb kX6_readingsNotToldBefore) 0 = .ok (.iconst 0, 1) := by decide +kernel
theorem eX6_readingsNotToldBefore_1 : decode (zYb kX6_readingsNotToldBefore) 1 = .ok (.istore_n 3, 1) := by decide +kernel
theorem eX6_readingsNotToldBefore_2 : decode (zYb kX6_readingsNotToldBefore) 2 = .ok (.aload_n 0, 1) := by decide +kernel
theorem eX6_readingsNotToldBefore_3 : decode (zYb kX6_readingsNotToldBefore) 3 = .ok (.getfield 41, 3) := by decide +kernel
theorem eX6_readingsNotToldBefore_6 : decode (zYb kX6_readingsNotToldBefore) 6 = .ok (.aload_n 1, 1) := by decide +kernel
theorem eX6_readingsNotToldBefore_7 : decode (zYb kX6_readingsNotToldBefore) 7 = .ok (.invokevirtual 148, 3) := by decide +kernel
theorem eX6_readingsNotToldBefore_10 : decode (zYb kX6_readingsNotToldBefore) 10 = .ok (.iconst 0, 1) := by decide +kernel
theorem eX6_readingsNotToldBefore_11 : decode (zYb kX6_readingsNotToldBefore) 11 = .ok (.istore 4, 2) := by decide +kernel
theorem eX6_readingsNotToldBefore_13 : decode (zYb kX6_readingsNotToldBefore) 13 = .ok (.iload 4, 2) := by decide +kernel
theorem eX6_readingsNotToldBefore_15 : decode (zYb kX6_readingsNotToldBefore) 15 = .ok (.sipush 128, 3) := by decide +kernel
theorem eX6_readingsNotToldBefore_18 : decode (zYb kX6_readingsNotToldBefore) 18 = .ok (.if_icmp .ge 47, 3) := by decide +kernel
theorem eX6_readingsNotToldBefore_21 : decode (zYb kX6_readingsNotToldBefore) 21 = .ok (.aload_n 0, 1) := by decide +kernel
theorem eX6_readingsNotToldBefore_22 : decode (zYb kX6_readingsNotToldBefore) 22 = .ok (.getfield 41, 3) := by decide +kernel
theorem eX6_readingsNotToldBefore_25 : decode (zYb kX6_readingsNotToldBefore) 25 = .ok (.invokevirtual 151, 3) := by decide +kernel
theorem eX6_readingsNotToldBefore_28 : decode (zYb kX6_readingsNotToldBefore) 28 = .ok (.ifCond .eq 37, 3) := by decide +kernel
theorem eX6_readingsNotToldBefore_31 : decode (zYb kX6_readingsNotToldBefore) 31 = .ok (.aload_n 0, 1) := by decide +kernel
theorem eX6_readingsNotToldBefore_32 : decode (zYb kX6_readingsNotToldBefore) 32 = .ok (.getfield 10, 3) := by decide +kernel
theorem eX6_readingsNotToldBefore_35 : decode (zYb kX6_readingsNotToldBefore) 35 = .ok (.iload_n 2, 1) := by decide +kernel
theorem eX6_readingsNotToldBefore_36 : decode (zYb kX6_readingsNotToldBefore) 36 = .ok (.aload_n 0, 1) := by decide +kernel
theorem eX6_readingsNotToldBefore_37 : decode (zYb kX6_readingsNotToldBefore) 37 = .ok (.getfield 41, 3) := by decide +kernel
theorem eX6_readingsNotToldBefore_40 : decode (zYb kX6_readingsNotToldBefore) 40 = .ok (.getfield 239, 3) := by decide +kernel
theorem eX6_readingsNotToldBefore_43 : decode (zYb kX6_readingsNotToldBefore) 43 = .ok (.aload_n 0, 1) := by decide +kernel
theorem eX6_readingsNotToldBefore_44 : decode (zYb kX6_readingsNotToldBefore) 44 = .ok (.getfield 41, 3) := by decide +kernel
theorem eX6_readingsNotToldBefore_47 : decode (zYb kX6_readingsNotToldBefore) 47 = .ok (.getfield 242, 3) := by decide +kernel
theorem eX6_readingsNotToldBefore_50 : decode (zYb kX6_readingsNotToldBefore) 50 = .ok (.invokevirtual 262, 3) := by decide +kernel
theorem eX6_readingsNotToldBefore_53 : decode (zYb kX6_readingsNotToldBefore) 53 = .ok (.ifCond .ne 6, 3) := by decide +kernel
theorem eX6_readingsNotToldBefore_56 : decode (zYb kX6_readingsNotToldBefore) 56 = .ok (.iinc 3 1, 3) := by decide +kernel
theorem eX6_readingsNotToldBefore_59 : decode (zYb kX6_readingsNotToldBefore) 59 = .ok (.iinc 4 1, 3) := by decide +kernel
theorem eX6_readingsNotToldBefore_62 : decode (zYb kX6_readingsNotToldBefore) 62 = .ok (.goto (-49), 3) := by decide +kernel
theorem eX6_readingsNotToldBefore_65 : decode (zYb kX6_readingsNotToldBefore) 65 = .ok (.iload_n 3, 1) := by decide +kernel
theorem eX6_readingsNotToldBefore_66 : decode (zYb kX6_readingsNotToldBefore) 66 = .ok (.ireturn, 1) := by decide +kernel
theorem eX6_pairsOfTheSame_0 : decode (zYb kX6_pairsOfTheSame) 0 = .ok (.iconst 0, 1) := by decide +kernel
theorem eX6_pairsOfTheSame_1 : decode (zYb kX6_pairsOfTheSame) 1 = .ok (.istore_n 1, 1) := by decide +kernel
theorem eX6_pairsOfTheSame_2 : decode (zYb kX6_pairsOfTheSame) 2 = .ok (.iconst 0, 1) := by decide +kernel
theorem eX6_pairsOfTheSame_3 : decode (zYb kX6_pairsOfTheSame) 3 = .ok (.istore_n 2, 1) := by decide +kernel
theorem eX6_pairsOfTheSame_4 : decode (zYb kX6_pairsOfTheSame) 4 = .ok (.iload_n 2, 1) := by decide +kernel
theorem eX6_pairsOfTheSame_5 : decode (zYb kX6_pairsOfTheSame) 5 = .ok (.aload_n 0, 1) := by decide +kernel
theorem eX6_pairsOfTheSame_6 : decode (zYb kX6_pairsOfTheSame) 6 = .ok (.getfield 10, 3) := by decide +kernel
theorem eX6_pairsOfTheSame_9 : decode (zYb kX6_pairsOfTheSame) 9 = .ok (.getfield 60, 3) := by decide +kernel
theorem eX6_pairsOfTheSame_12 : decode (zYb kX6_pairsOfTheSame) 12 = .ok (.if_icmp .ge 66, 3) := by decide +kernel
theorem eX6_pairsOfTheSame_15 : decode (zYb kX6_pairsOfTheSame) 15 = .ok (.iconst 0, 1) := by decide +kernel
theorem eX6_pairsOfTheSame_16 : decode (zYb kX6_pairsOfTheSame) 16 = .ok (.istore_n 3, 1) := by decide +kernel
theorem eX6_pairsOfTheSame_17 : decode (zYb kX6_pairsOfTheSame) 17 = .ok (.iload_n 3, 1) := by decide +kernel
theorem eX6_pairsOfTheSame_18 : decode (zYb kX6_pairsOfTheSame) 18 = .ok (.iload_n 2, 1) := by decide +kernel
theorem eX6_pairsOfTheSame_19 : decode (zYb kX6_pairsOfTheSame) 19 = .ok (.if_icmp .ge 53, 3) := by decide +kernel
theorem eX6_pairsOfTheSame_22 : decode (zYb kX6_pairsOfTheSame) 22 = .ok (.aload_n 0, 1) := by decide +kernel
theorem eX6_pairsOfTheSame_23 : decode (zYb kX6_pairsOfTheSame) 23 = .ok (.getfield 10, 3) := by decide +kernel
theorem eX6_pairsOfTheSame_26 : decode (zYb kX6_pairsOfTheSame) 26 = .ok (.iload_n 2, 1) := by decide +kernel
theorem eX6_pairsOfTheSame_27 : decode (zYb kX6_pairsOfTheSame) 27 = .ok (.invokevirtual 77, 3) := by decide +kernel
theorem eX6_pairsOfTheSame_30 : decode (zYb kX6_pairsOfTheSame) 30 = .ok (.astore 4, 2) := by decide +kernel
theorem eX6_pairsOfTheSame_32 : decode (zYb kX6_pairsOfTheSame) 32 = .ok (.aload_n 0, 1) := by decide +kernel
theorem eX6_pairsOfTheSame_33 : decode (zYb kX6_pairsOfTheSame) 33 = .ok (.getfield 10, 3) := by decide +kernel
theorem eX6_pairsOfTheSame_36 : decode (zYb kX6_pairsOfTheSame) 36 = .ok (.iload_n 3, 1) := by decide +kernel
theorem eX6_pairsOfTheSame_37 : decode (zYb kX6_pairsOfTheSame) 37 = .ok (.invokevirtual 77, 3) := by decide +kernel
theorem eX6_pairsOfTheSame_40 : decode (zYb kX6_pairsOfTheSame) 40 = .ok (.astore 5, 2) := by decide +kernel
theorem eX6_pairsOfTheSame_42 : decode (zYb kX6_pairsOfTheSame) 42 = .ok (.aload 4, 2) := by decide +kernel
theorem eX6_pairsOfTheSame_44 : decode (zYb kX6_pairsOfTheSame) 44 = .ok (.ifnull 22, 3) := by decide +kernel
theorem eX6_pairsOfTheSame_47 : decode (zYb kX6_pairsOfTheSame) 47 = .ok (.aload 5, 2) := by decide +kernel
theorem eX6_pairsOfTheSame_49 : decode (zYb kX6_pairsOfTheSame) 49 = .ok (.ifnull 17, 3) := by decide +kernel
theorem eX6_pairsOfTheSame_52 : decode (zYb kX6_pairsOfTheSame) 52 = .ok (.aload_n 0, 1) := by decide +kernel
theorem eX6_pairsOfTheSame_53 : decode (zYb kX6_pairsOfTheSame) 53 = .ok (.aload 4, 2) := by decide +kernel
theorem eX6_pairsOfTheSame_55 : decode (zYb kX6_pairsOfTheSame) 55 = .ok (.aload 5, 2) := by decide +kernel
theorem eX6_pairsOfTheSame_57 : decode (zYb kX6_pairsOfTheSame) 57 = .ok (.invokevirtual 251, 3) := by decide +kernel
theorem eX6_pairsOfTheSame_60 : decode (zYb kX6_pairsOfTheSame) 60 = .ok (.ifCond .eq 6, 3) := by decide +kernel
theorem eX6_pairsOfTheSame_63 : decode (zYb kX6_pairsOfTheSame) 63 = .ok (.iinc 1 1, 3) := by decide +kernel
theorem eX6_pairsOfTheSame_66 : decode (zYb kX6_pairsOfTheSame) 66 = .ok (.iinc 3 1, 3) := by decide +kernel
theorem eX6_pairsOfTheSame_69 : decode (zYb kX6_pairsOfTheSame) 69 = .ok (.goto (-52), 3) := by decide +kernel
theorem eX6_pairsOfTheSame_72 : decode (zYb kX6_pairsOfTheSame) 72 = .ok (.iinc 2 1, 3) := by decide +kernel
theorem eX6_pairsOfTheSame_75 : decode (zYb kX6_pairsOfTheSame) 75 = .ok (.goto (-71), 3) := by decide +kernel
theorem eX6_pairsOfTheSame_78 : decode (zYb kX6_pairsOfTheSame) 78 = .ok (.iload_n 1, 1) := by decide +kernel
theorem eX6_pairsOfTheSame_79 : decode (zYb kX6_pairsOfTheSame) 79 = .ok (.ireturn, 1) := by decide +kernel
theorem eX6_turnPart_0 : decode (zYb kX6_turnPart) 0 = .ok (.iload_n 1, 1) := by decide +kernel
theorem eX6_turnPart_1 : decode (zYb kX6_turnPart) 1 = .ok (.ifCond .lt 9, 3) := by decide +kernel
theorem eX6_turnPart_4 : decode (zYb kX6_turnPart) 4 = .ok (.iload_n 2, 1) := by decide +kernel
theorem eX6_turnPart_5 : decode (zYb kX6_turnPart) 5 = .ok (.aload_n 0, 1) := by decide +kernel
theorem eX6_turnPart_6 : decode (zYb kX6_turnPart) 6 = .ok (.arraylength, 1) := by decide +kernel
theorem eX6_turnPart_7 : decode (zYb kX6_turnPart) 7 = .ok (.if_icmp .le 4, 3) := by decide +kernel
theorem eX6_turnPart_10 : decode (zYb kX6_turnPart) 10 = .ok (.return_, 1) := by decide +kernel
theorem eX6_turnPart_11 : decode (zYb kX6_turnPart) 11 = .ok (.iload_n 1, 1) := by decide +kernel
theorem eX6_turnPart_12 : decode (zYb kX6_turnPart) 12 = .ok (.istore_n 3, 1) := by decide +kernel
theorem eX6_turnPart_13 : decode (zYb kX6_turnPart) 13 = .ok (.iload_n 2, 1) := by decide +kernel
theorem eX6_turnPart_14 : decode (zYb kX6_turnPart) 14 = .ok (.iconst 1, 1) := by decide +kernel
theorem eX6_turnPart_15 : decode (zYb kX6_turnPart) 15 = .ok (.isub, 1) := by decide +kernel
theorem eX6_turnPart_16 : decode (zYb kX6_turnPart) 16 = .ok (.istore 4, 2) := by decide +kernel
theorem eX6_turnPart_18 : decode (zYb kX6_turnPart) 18 = .ok (.iload_n 3, 1) := by decide +kernel
theorem eX6_turnPart_19 : decode (zYb kX6_turnPart) 19 = .ok (.iload 4, 2) := by decide +kernel
theorem eX6_turnPart_21 : decode (zYb kX6_turnPart) 21 = .ok (.if_icmp .ge 30, 3) := by decide +kernel
theorem eX6_turnPart_24 : decode (zYb kX6_turnPart) 24 = .ok (.aload_n 0, 1) := by decide +kernel
theorem eX6_turnPart_25 : decode (zYb kX6_turnPart) 25 = .ok (.iload_n 3, 1) := by decide +kernel
theorem eX6_turnPart_26 : decode (zYb kX6_turnPart) 26 = .ok (.iaload, 1) := by decide +kernel
theorem eX6_turnPart_27 : decode (zYb kX6_turnPart) 27 = .ok (.istore 5, 2) := by decide +kernel
theorem eX6_turnPart_29 : decode (zYb kX6_turnPart) 29 = .ok (.aload_n 0, 1) := by decide +kernel
theorem eX6_turnPart_30 : decode (zYb kX6_turnPart) 30 = .ok (.iload_n 3, 1) := by decide +kernel
theorem eX6_turnPart_31 : decode (zYb kX6_turnPart) 31 = .ok (.aload_n 0, 1) := by decide +kernel
theorem eX6_turnPart_32 : decode (zYb kX6_turnPart) 32 = .ok (.iload 4, 2) := by decide +kernel
theorem eX6_turnPart_34 : decode (zYb kX6_turnPart) 34 = .ok (.iaload, 1) := by decide +kernel
theorem eX6_turnPart_35 : decode (zYb kX6_turnPart) 35 = .ok (.iastore, 1) := by decide +kernel
theorem eX6_turnPart_36 : decode (zYb kX6_turnPart) 36 = .ok (.aload_n 0, 1) := by decide +kernel
theorem eX6_turnPart_37 : decode (zYb kX6_turnPart) 37 = .ok (.iload 4, 2) := by decide +kernel
theorem eX6_turnPart_39 : decode (zYb kX6_turnPart) 39 = .ok (.iload 5, 2) := by decide +kernel
theorem eX6_turnPart_41 : decode (zYb kX6_turnPart) 41 = .ok (.iastore, 1) := by decide +kernel
theorem eX6_turnPart_42 : decode (zYb kX6_turnPart) 42 = .ok (.iinc 3 1, 3) := by decide +kernel
theorem eX6_turnPart_45 : decode (zYb kX6_turnPart) 45 = .ok (.iinc 4 (-1), 3) := by decide +kernel
theorem eX6_turnPart_48 : decode (zYb kX6_turnPart) 48 = .ok (.goto (-30), 3) := by decide +kernel
theorem eX6_turnPart_51 : decode (zYb kX6_turnPart) 51 = .ok (.return_, 1) := by decide +kernel
theorem eX6_orderTurned_0 : decode (zYb kX6_orderTurned) 0 = .ok (.iload_n 1, 1) := by decide +kernel
theorem eX6_orderTurned_1 : decode (zYb kX6_orderTurned) 1 = .ok (.ifCond .lt 9, 3) := by decide +kernel
theorem eX6_orderTurned_4 : decode (zYb kX6_orderTurned) 4 = .ok (.iload_n 2, 1) := by decide +kernel
theorem eX6_orderTurned_5 : decode (zYb kX6_orderTurned) 5 = .ok (.aload_n 0, 1) := by decide +kernel
theorem eX6_orderTurned_6 : decode (zYb kX6_orderTurned) 6 = .ok (.arraylength, 1) := by decide +kernel
theorem eX6_orderTurned_7 : decode (zYb kX6_orderTurned) 7 = .ok (.if_icmp .le 5, 3) := by decide +kernel
theorem eX6_orderTurned_10 : decode (zYb kX6_orderTurned) 10 = .ok (.iconst 0, 1) := by decide +kernel
theorem eX6_orderTurned_11 : decode (zYb kX6_orderTurned) 11 = .ok (.ireturn, 1) := by decide +kernel
theorem eX6_orderTurned_12 : decode (zYb kX6_orderTurned) 12 = .ok (.iload_n 1, 1) := by decide +kernel
theorem eX6_orderTurned_13 : decode (zYb kX6_orderTurned) 13 = .ok (.istore_n 3, 1) := by decide +kernel
theorem eX6_orderTurned_14 : decode (zYb kX6_orderTurned) 14 = .ok (.iload_n 2, 1) := by decide +kernel
theorem eX6_orderTurned_15 : decode (zYb kX6_orderTurned) 15 = .ok (.iconst 1, 1) := by decide +kernel
theorem eX6_orderTurned_16 : decode (zYb kX6_orderTurned) 16 = .ok (.isub, 1) := by decide +kernel
theorem eX6_orderTurned_17 : decode (zYb kX6_orderTurned) 17 = .ok (.istore 4, 2) := by decide +kernel
theorem eX6_orderTurned_19 : decode (zYb kX6_orderTurned) 19 = .ok (.iload_n 3, 1) := by decide +kernel
theorem eX6_orderTurned_20 : decode (zYb kX6_orderTurned) 20 = .ok (.iload 4, 2) := by decide +kernel
theorem eX6_orderTurned_22 : decode (zYb kX6_orderTurned) 22 = .ok (.if_icmp .ge 31, 3) := by decide +kernel
theorem eX6_orderTurned_25 : decode (zYb kX6_orderTurned) 25 = .ok (.aload_n 0, 1) := by decide +kernel
theorem eX6_orderTurned_26 : decode (zYb kX6_orderTurned) 26 = .ok (.iload_n 3, 1) := by decide +kernel
theorem eX6_orderTurned_27 : decode (zYb kX6_orderTurned) 27 = .ok (.iaload, 1) := by decide +kernel
theorem eX6_orderTurned_28 : decode (zYb kX6_orderTurned) 28 = .ok (.aload_n 0, 1) := by decide +kernel
theorem eX6_orderTurned_29 : decode (zYb kX6_orderTurned) 29 = .ok (.iload 4, 2) := by decide +kernel
theorem eX6_orderTurned_31 : decode (zYb kX6_orderTurned) 31 = .ok (.iaload, 1) := by decide +kernel
theorem eX6_orderTurned_32 : decode (zYb kX6_orderTurned) 32 = .ok (.if_icmp .eq 12, 3) := by decide +kernel
theorem eX6_orderTurned_35 : decode (zYb kX6_orderTurned) 35 = .ok (.aload_n 0, 1) := by decide +kernel
theorem eX6_orderTurned_36 : decode (zYb kX6_orderTurned) 36 = .ok (.iload_n 3, 1) := by decide +kernel
theorem eX6_orderTurned_37 : decode (zYb kX6_orderTurned) 37 = .ok (.iaload, 1) := by decide +kernel
theorem eX6_orderTurned_38 : decode (zYb kX6_orderTurned) 38 = .ok (.aload_n 0, 1) := by decide +kernel
theorem eX6_orderTurned_39 : decode (zYb kX6_orderTurned) 39 = .ok (.iload 4, 2) := by decide +kernel
theorem eX6_orderTurned_41 : decode (zYb kX6_orderTurned) 41 = .ok (.iaload, 1) := by decide +kernel
theorem eX6_orderTurned_42 : decode (zYb kX6_orderTurned) 42 = .ok (.isub, 1) := by decide +kernel
theorem eX6_orderTurned_43 : decode (zYb kX6_orderTurned) 43 = .ok (.ireturn, 1) := by decide +kernel
theorem eX6_orderTurned_44 : decode (zYb kX6_orderTurned) 44 = .ok (.iinc 3 1, 3) := by decide +kernel
theorem eX6_orderTurned_47 : decode (zYb kX6_orderTurned) 47 = .ok (.iinc 4 (-1), 3) := by decide +kernel
theorem eX6_orderTurned_50 : decode (zYb kX6_orderTurned) 50 = .ok (.goto (-31), 3) := by decide +kernel
theorem eX6_orderTurned_53 : decode (zYb kX6_orderTurned) 53 = .ok (.iconst 0, 1) := by decide +kernel
theorem eX6_orderTurned_54 : decode (zYb kX6_orderTurned) 54 = .ok (.ireturn, 1) := by decide +kernel
