theorem dX0_init_0 : decode cX0_init 0 = .ok (.aload_n 0, 1) := by decide +kernel
theorem dX0_init_1 : decode cX0_init 1 = .ok (.invokespecial 3, 3) := by decide +kernel
theorem dX0_init_4 : decode cX0_init 4 = .ok (.aload_n 0, 1) := by decide +kernel
theorem dX0_init_5 : decode cX0_init 5 = .ok (.new 9, 3) := by decide +kernel
theorem dX0_init_8 : decode cX0_init 8 = .ok (.dup, 1) := by decide +kernel
theorem dX0_init_9 : decode cX0_init 9 = .ok (.bipush 20, 2) := by decide +kernel
theorem dX0_init_11 : decode cX0_init 11 = .ok (.invokespecial 11, 3) := by decide +kernel
theorem dX0_init_14 : decode cX0_init 14 = .ok (.putfield 14, 3) := by decide +kernel
theorem dX0_init_17 : decode cX0_init 17 = .ok (.aload_n 0, 1) := by decide +kernel
theorem dX0_init_18 : decode cX0_init 18 = .ok (.bipush 12, 2) := by decide +kernel
theorem dX0_init_20 : decode cX0_init 20 = .ok (.newarray .int, 2) := by decide +kernel
theorem dX0_init_22 : decode cX0_init 22 = .ok (.putfield 20, 3) := by decide +kernel
theorem dX0_init_25 : decode cX0_init 25 = .ok (.aload_n 0, 1) := by decide +kernel
theorem dX0_init_26 : decode cX0_init 26 = .ok (.bipush 12, 2) := by decide +kernel
theorem dX0_init_28 : decode cX0_init 28 = .ok (.newarray .int, 2) := by decide +kernel
theorem dX0_init_30 : decode cX0_init 30 = .ok (.putfield 24, 3) := by decide +kernel
theorem dX0_init_33 : decode cX0_init 33 = .ok (.aload_n 0, 1) := by decide +kernel
theorem dX0_init_34 : decode cX0_init 34 = .ok (.iconst 0, 1) := by decide +kernel
theorem dX0_init_35 : decode cX0_init 35 = .ok (.putfield 27, 3) := by decide +kernel
theorem dX0_init_38 : decode cX0_init 38 = .ok (.iconst 0, 1) := by decide +kernel
theorem dX0_init_39 : decode cX0_init 39 = .ok (.istore_n 1, 1) := by decide +kernel
theorem dX0_init_40 : decode cX0_init 40 = .ok (.iload_n 1, 1) := by decide +kernel
theorem dX0_init_41 : decode cX0_init 41 = .ok (.bipush 12, 2) := by decide +kernel
theorem dX0_init_43 : decode cX0_init 43 = .ok (.if_icmp .ge 16, 3) := by decide +kernel
theorem dX0_init_46 : decode cX0_init 46 = .ok (.aload_n 0, 1) := by decide +kernel
theorem dX0_init_47 : decode cX0_init 47 = .ok (.getfield 20, 3) := by decide +kernel
theorem dX0_init_50 : decode cX0_init 50 = .ok (.iload_n 1, 1) := by decide +kernel
theorem dX0_init_51 : decode cX0_init 51 = .ok (.iconst 1, 1) := by decide +kernel
theorem dX0_init_52 : decode cX0_init 52 = .ok (.iastore, 1) := by decide +kernel
theorem dX0_init_53 : decode cX0_init 53 = .ok (.iinc 1 1, 3) := by decide +kernel
theorem dX0_init_56 : decode cX0_init 56 = .ok (.goto (-16), 3) := by decide +kernel
theorem dX0_init_59 : decode cX0_init 59 = .ok (.return_, 1) := by decide +kernel
theorem dX0_copyFrom_0 : decode cX0_copyFrom 0 = .ok (.aload_n 0, 1) := by decide +kernel
theorem dX0_copyFrom_1 : decode cX0_copyFrom 1 = .ok (.getfield 14, 3) := by decide +kernel
theorem dX0_copyFrom_4 : decode cX0_copyFrom 4 = .ok (.aload_n 1, 1) := by decide +kernel
theorem dX0_copyFrom_5 : decode cX0_copyFrom 5 = .ok (.getfield 14, 3) := by decide +kernel
theorem dX0_copyFrom_8 : decode cX0_copyFrom 8 = .ok (.invokevirtual 31, 3) := by decide +kernel
theorem dX0_copyFrom_11 : decode cX0_copyFrom 11 = .ok (.iconst 0, 1) := by decide +kernel
theorem dX0_copyFrom_12 : decode cX0_copyFrom 12 = .ok (.istore_n 2, 1) := by decide +kernel
theorem dX0_copyFrom_13 : decode cX0_copyFrom 13 = .ok (.iload_n 2, 1) := by decide +kernel
theorem dX0_copyFrom_14 : decode cX0_copyFrom 14 = .ok (.bipush 12, 2) := by decide +kernel
theorem dX0_copyFrom_16 : decode cX0_copyFrom 16 = .ok (.if_icmp .ge 33, 3) := by decide +kernel
theorem dX0_copyFrom_19 : decode cX0_copyFrom 19 = .ok (.aload_n 0, 1) := by decide +kernel
theorem dX0_copyFrom_20 : decode cX0_copyFrom 20 = .ok (.getfield 20, 3) := by decide +kernel
theorem dX0_copyFrom_23 : decode cX0_copyFrom 23 = .ok (.iload_n 2, 1) := by decide +kernel
theorem dX0_copyFrom_24 : decode cX0_copyFrom 24 = .ok (.aload_n 1, 1) := by decide +kernel
theorem dX0_copyFrom_25 : decode cX0_copyFrom 25 = .ok (.getfield 20, 3) := by decide +kernel
theorem dX0_copyFrom_28 : decode cX0_copyFrom 28 = .ok (.iload_n 2, 1) := by decide +kernel
theorem dX0_copyFrom_29 : decode cX0_copyFrom 29 = .ok (.iaload, 1) := by decide +kernel
theorem dX0_copyFrom_30 : decode cX0_copyFrom 30 = .ok (.iastore, 1) := by decide +kernel
theorem dX0_copyFrom_31 : decode cX0_copyFrom 31 = .ok (.aload_n 0, 1) := by decide +kernel
theorem dX0_copyFrom_32 : decode cX0_copyFrom 32 = .ok (.getfield 24, 3) := by decide +kernel
theorem dX0_copyFrom_35 : decode cX0_copyFrom 35 = .ok (.iload_n 2, 1) := by decide +kernel
theorem dX0_copyFrom_36 : decode cX0_copyFrom 36 = .ok (.aload_n 1, 1) := by decide +kernel
theorem dX0_copyFrom_37 : decode cX0_copyFrom 37 = .ok (.getfield 24, 3) := by decide +kernel
theorem dX0_copyFrom_40 : decode cX0_copyFrom 40 = .ok (.iload_n 2, 1) := by decide +kernel
theorem dX0_copyFrom_41 : decode cX0_copyFrom 41 = .ok (.iaload, 1) := by decide +kernel
theorem dX0_copyFrom_42 : decode cX0_copyFrom 42 = .ok (.iastore, 1) := by decide +kernel
theorem dX0_copyFrom_43 : decode cX0_copyFrom 43 = .ok (.iinc 2 1, 3) := by decide +kernel
theorem dX0_copyFrom_46 : decode cX0_copyFrom 46 = .ok (.goto (-33), 3) := by decide +kernel
theorem dX0_copyFrom_49 : decode cX0_copyFrom 49 = .ok (.aload_n 0, 1) := by decide +kernel
theorem dX0_copyFrom_50 : decode cX0_copyFrom 50 = .ok (.aload_n 1, 1) := by decide +kernel
theorem dX0_copyFrom_51 : decode cX0_copyFrom 51 = .ok (.getfield 27, 3) := by decide +kernel
theorem dX0_copyFrom_54 : decode cX0_copyFrom 54 = .ok (.putfield 27, 3) := by decide +kernel
theorem dX0_copyFrom_57 : decode cX0_copyFrom 57 = .ok (.return_, 1) := by decide +kernel
theorem dX0_taughtNext_0 : decode cX0_taughtNext 0 = .ok (.iconst 0, 1) := by decide +kernel
theorem dX0_taughtNext_1 : decode cX0_taughtNext 1 = .ok (.istore_n 2, 1) := by decide +kernel
theorem dX0_taughtNext_2 : decode cX0_taughtNext 2 = .ok (.iconst 0, 1) := by decide +kernel
theorem dX0_taughtNext_3 : decode cX0_taughtNext 3 = .ok (.istore_n 3, 1) := by decide +kernel
theorem dX0_taughtNext_4 : decode cX0_taughtNext 4 = .ok (.iconst 0, 1) := by decide +kernel
theorem dX0_taughtNext_5 : decode cX0_taughtNext 5 = .ok (.istore 4, 2) := by decide +kernel
theorem dX0_taughtNext_7 : decode cX0_taughtNext 7 = .ok (.iload 4, 2) := by decide +kernel
theorem dX0_taughtNext_9 : decode cX0_taughtNext 9 = .ok (.aload_n 0, 1) := by decide +kernel
theorem dX0_taughtNext_10 : decode cX0_taughtNext 10 = .ok (.getfield 14, 3) := by decide +kernel
theorem dX0_taughtNext_13 : decode cX0_taughtNext 13 = .ok (.getfield 35, 3) := by decide +kernel
theorem dX0_taughtNext_16 : decode cX0_taughtNext 16 = .ok (.if_icmp .ge 59, 3) := by decide +kernel
theorem dX0_taughtNext_19 : decode cX0_taughtNext 19 = .ok (.iconst 1, 1) := by decide +kernel
theorem dX0_taughtNext_20 : decode cX0_taughtNext 20 = .ok (.aload_n 0, 1) := by decide +kernel
theorem dX0_taughtNext_21 : decode cX0_taughtNext 21 = .ok (.getfield 14, 3) := by decide +kernel
theorem dX0_taughtNext_24 : decode cX0_taughtNext 24 = .ok (.getfield 38, 3) := by decide +kernel
theorem dX0_taughtNext_27 : decode cX0_taughtNext 27 = .ok (.iload 4, 2) := by decide +kernel
theorem dX0_taughtNext_29 : decode cX0_taughtNext 29 = .ok (.iaload, 1) := by decide +kernel
theorem dX0_taughtNext_30 : decode cX0_taughtNext 30 = .ok (.ishl, 1) := by decide +kernel
theorem dX0_taughtNext_31 : decode cX0_taughtNext 31 = .ok (.istore 5, 2) := by decide +kernel
theorem dX0_taughtNext_33 : decode cX0_taughtNext 33 = .ok (.iload_n 1, 1) := by decide +kernel
theorem dX0_taughtNext_34 : decode cX0_taughtNext 34 = .ok (.iload 5, 2) := by decide +kernel
theorem dX0_taughtNext_36 : decode cX0_taughtNext 36 = .ok (.iand, 1) := by decide +kernel
theorem dX0_taughtNext_37 : decode cX0_taughtNext 37 = .ok (.ifCond .eq 6, 3) := by decide +kernel
theorem dX0_taughtNext_40 : decode cX0_taughtNext 40 = .ok (.goto 29, 3) := by decide +kernel
theorem dX0_taughtNext_43 : decode cX0_taughtNext 43 = .ok (.aload_n 0, 1) := by decide +kernel
theorem dX0_taughtNext_44 : decode cX0_taughtNext 44 = .ok (.getfield 14, 3) := by decide +kernel
theorem dX0_taughtNext_47 : decode cX0_taughtNext 47 = .ok (.iload 4, 2) := by decide +kernel
theorem dX0_taughtNext_49 : decode cX0_taughtNext 49 = .ok (.iload_n 1, 1) := by decide +kernel
theorem dX0_taughtNext_50 : decode cX0_taughtNext 50 = .ok (.invokevirtual 41, 3) := by decide +kernel
theorem dX0_taughtNext_53 : decode cX0_taughtNext 53 = .ok (.ifCond .eq 11, 3) := by decide +kernel
theorem dX0_taughtNext_56 : decode cX0_taughtNext 56 = .ok (.iload_n 2, 1) := by decide +kernel
theorem dX0_taughtNext_57 : decode cX0_taughtNext 57 = .ok (.iload 5, 2) := by decide +kernel
theorem dX0_taughtNext_59 : decode cX0_taughtNext 59 = .ok (.ior, 1) := by decide +kernel
theorem dX0_taughtNext_60 : decode cX0_taughtNext 60 = .ok (.istore_n 2, 1) := by decide +kernel
theorem dX0_taughtNext_61 : decode cX0_taughtNext 61 = .ok (.goto 8, 3) := by decide +kernel
theorem dX0_taughtNext_64 : decode cX0_taughtNext 64 = .ok (.iload_n 3, 1) := by decide +kernel
theorem dX0_taughtNext_65 : decode cX0_taughtNext 65 = .ok (.iload 5, 2) := by decide +kernel
theorem dX0_taughtNext_67 : decode cX0_taughtNext 67 = .ok (.ior, 1) := by decide +kernel
theorem dX0_taughtNext_68 : decode cX0_taughtNext 68 = .ok (.istore_n 3, 1) := by decide +kernel
theorem dX0_taughtNext_69 : decode cX0_taughtNext 69 = .ok (.iinc 4 1, 3) := by decide +kernel
theorem dX0_taughtNext_72 : decode cX0_taughtNext 72 = .ok (.goto (-65), 3) := by decide +kernel
theorem dX0_taughtNext_75 : decode cX0_taughtNext 75 = .ok (.iload_n 2, 1) := by decide +kernel
theorem dX0_taughtNext_76 : decode cX0_taughtNext 76 = .ok (.iload_n 3, 1) := by decide +kernel
theorem dX0_taughtNext_77 : decode cX0_taughtNext 77 = .ok (.aload_n 0, 1) := by decide +kernel
theorem dX0_taughtNext_78 : decode cX0_taughtNext 78 = .ok (.getfield 27, 3) := by decide +kernel
theorem dX0_taughtNext_81 : decode cX0_taughtNext 81 = .ok (.iand, 1) := by decide +kernel
theorem dX0_taughtNext_82 : decode cX0_taughtNext 82 = .ok (.iconst (-1), 1) := by decide +kernel
theorem dX0_taughtNext_83 : decode cX0_taughtNext 83 = .ok (.ixor, 1) := by decide +kernel
theorem dX0_taughtNext_84 : decode cX0_taughtNext 84 = .ok (.iand, 1) := by decide +kernel
theorem dX0_taughtNext_85 : decode cX0_taughtNext 85 = .ok (.ireturn, 1) := by decide +kernel
theorem dX0_someTaughtNext_0 : decode cX0_someTaughtNext 0 = .ok (.iload_n 1, 1) := by decide +kernel
theorem dX0_someTaughtNext_1 : decode cX0_someTaughtNext 1 = .ok (.aload_n 0, 1) := by decide +kernel
theorem dX0_someTaughtNext_2 : decode cX0_someTaughtNext 2 = .ok (.getfield 27, 3) := by decide +kernel
theorem dX0_someTaughtNext_5 : decode cX0_someTaughtNext 5 = .ok (.ior, 1) := by decide +kernel
theorem dX0_someTaughtNext_6 : decode cX0_someTaughtNext 6 = .ok (.istore_n 2, 1) := by decide +kernel
theorem dX0_someTaughtNext_7 : decode cX0_someTaughtNext 7 = .ok (.iconst 0, 1) := by decide +kernel
theorem dX0_someTaughtNext_8 : decode cX0_someTaughtNext 8 = .ok (.istore_n 3, 1) := by decide +kernel
theorem dX0_someTaughtNext_9 : decode cX0_someTaughtNext 9 = .ok (.iload_n 3, 1) := by decide +kernel
theorem dX0_someTaughtNext_10 : decode cX0_someTaughtNext 10 = .ok (.aload_n 0, 1) := by decide +kernel
theorem dX0_someTaughtNext_11 : decode cX0_someTaughtNext 11 = .ok (.getfield 14, 3) := by decide +kernel
theorem dX0_someTaughtNext_14 : decode cX0_someTaughtNext 14 = .ok (.getfield 35, 3) := by decide +kernel
theorem dX0_someTaughtNext_17 : decode cX0_someTaughtNext 17 = .ok (.if_icmp .ge 44, 3) := by decide +kernel
theorem dX0_someTaughtNext_20 : decode cX0_someTaughtNext 20 = .ok (.iconst 1, 1) := by decide +kernel
theorem dX0_someTaughtNext_21 : decode cX0_someTaughtNext 21 = .ok (.aload_n 0, 1) := by decide +kernel
theorem dX0_someTaughtNext_22 : decode cX0_someTaughtNext 22 = .ok (.getfield 14, 3) := by decide +kernel
theorem dX0_someTaughtNext_25 : decode cX0_someTaughtNext 25 = .ok (.getfield 38, 3) := by decide +kernel
theorem dX0_someTaughtNext_28 : decode cX0_someTaughtNext 28 = .ok (.iload_n 3, 1) := by decide +kernel
theorem dX0_someTaughtNext_29 : decode cX0_someTaughtNext 29 = .ok (.iaload, 1) := by decide +kernel
theorem dX0_someTaughtNext_30 : decode cX0_someTaughtNext 30 = .ok (.ishl, 1) := by decide +kernel
theorem dX0_someTaughtNext_31 : decode cX0_someTaughtNext 31 = .ok (.istore 4, 2) := by decide +kernel
theorem dX0_someTaughtNext_33 : decode cX0_someTaughtNext 33 = .ok (.iload_n 2, 1) := by decide +kernel
theorem dX0_someTaughtNext_34 : decode cX0_someTaughtNext 34 = .ok (.iload 4, 2) := by decide +kernel
theorem dX0_someTaughtNext_36 : decode cX0_someTaughtNext 36 = .ok (.iand, 1) := by decide +kernel
theorem dX0_someTaughtNext_37 : decode cX0_someTaughtNext 37 = .ok (.ifCond .ne 18, 3) := by decide +kernel
theorem dX0_someTaughtNext_40 : decode cX0_someTaughtNext 40 = .ok (.aload_n 0, 1) := by decide +kernel
theorem dX0_someTaughtNext_41 : decode cX0_someTaughtNext 41 = .ok (.getfield 14, 3) := by decide +kernel
theorem dX0_someTaughtNext_44 : decode cX0_someTaughtNext 44 = .ok (.iload_n 3, 1) := by decide +kernel
theorem dX0_someTaughtNext_45 : decode cX0_someTaughtNext 45 = .ok (.iload_n 1, 1) := by decide +kernel
theorem dX0_someTaughtNext_46 : decode cX0_someTaughtNext 46 = .ok (.invokevirtual 41, 3) := by decide +kernel
theorem dX0_someTaughtNext_49 : decode cX0_someTaughtNext 49 = .ok (.ifCond .eq 6, 3) := by decide +kernel
theorem dX0_someTaughtNext_52 : decode cX0_someTaughtNext 52 = .ok (.iload 4, 2) := by decide +kernel
theorem dX0_someTaughtNext_54 : decode cX0_someTaughtNext 54 = .ok (.ireturn, 1) := by decide +kernel
theorem dX0_someTaughtNext_55 : decode cX0_someTaughtNext 55 = .ok (.iinc 3 1, 3) := by decide +kernel
theorem dX0_someTaughtNext_58 : decode cX0_someTaughtNext 58 = .ok (.goto (-49), 3) := by decide +kernel
theorem dX0_someTaughtNext_61 : decode cX0_someTaughtNext 61 = .ok (.aload_n 0, 1) := by decide +kernel
theorem dX0_someTaughtNext_62 : decode cX0_someTaughtNext 62 = .ok (.getfield 27, 3) := by decide +kernel
theorem dX0_someTaughtNext_65 : decode cX0_someTaughtNext 65 = .ok (.ifCond .ne 7, 3) := by decide +kernel
theorem dX0_someTaughtNext_68 : decode cX0_someTaughtNext 68 = .ok (.iconst 0, 1) := by decide +kernel
theorem dX0_someTaughtNext_69 : decode cX0_someTaughtNext 69 = .ok (.goto 8, 3) := by decide +kernel
theorem dX0_someTaughtNext_72 : decode cX0_someTaughtNext 72 = .ok (.aload_n 0, 1) := by decide +kernel
theorem dX0_someTaughtNext_73 : decode cX0_someTaughtNext 73 = .ok (.iload_n 1, 1) := by decide +kernel
theorem dX0_someTaughtNext_74 : decode cX0_someTaughtNext 74 = .ok (.invokevirtual 45, 3) := by decide +kernel
theorem dX0_someTaughtNext_77 : decode cX0_someTaughtNext 77 = .ok (.ireturn, 1) := by decide +kernel
theorem dX0_learntFrom_0 : decode cX0_learntFrom 0 = .ok (.iload_n 1, 1) := by decide +kernel
theorem dX0_learntFrom_1 : decode cX0_learntFrom 1 = .ok (.istore_n 2, 1) := by decide +kernel
theorem dX0_learntFrom_2 : decode cX0_learntFrom 2 = .ok (.iconst 1, 1) := by decide +kernel
theorem dX0_learntFrom_3 : decode cX0_learntFrom 3 = .ok (.istore_n 3, 1) := by decide +kernel
theorem dX0_learntFrom_4 : decode cX0_learntFrom 4 = .ok (.iload_n 3, 1) := by decide +kernel
theorem dX0_learntFrom_5 : decode cX0_learntFrom 5 = .ok (.bipush 12, 2) := by decide +kernel
theorem dX0_learntFrom_7 : decode cX0_learntFrom 7 = .ok (.if_icmp .gt 28, 3) := by decide +kernel
theorem dX0_learntFrom_10 : decode cX0_learntFrom 10 = .ok (.aload_n 0, 1) := by decide +kernel
theorem dX0_learntFrom_11 : decode cX0_learntFrom 11 = .ok (.iload_n 2, 1) := by decide +kernel
theorem dX0_learntFrom_12 : decode cX0_learntFrom 12 = .ok (.invokevirtual 45, 3) := by decide +kernel
theorem dX0_learntFrom_15 : decode cX0_learntFrom 15 = .ok (.istore 4, 2) := by decide +kernel
theorem dX0_learntFrom_17 : decode cX0_learntFrom 17 = .ok (.iload 4, 2) := by decide +kernel
theorem dX0_learntFrom_19 : decode cX0_learntFrom 19 = .ok (.ifCond .ne 5, 3) := by decide +kernel
theorem dX0_learntFrom_22 : decode cX0_learntFrom 22 = .ok (.iload_n 2, 1) := by decide +kernel
theorem dX0_learntFrom_23 : decode cX0_learntFrom 23 = .ok (.ireturn, 1) := by decide +kernel
theorem dX0_learntFrom_24 : decode cX0_learntFrom 24 = .ok (.iload_n 2, 1) := by decide +kernel
theorem dX0_learntFrom_25 : decode cX0_learntFrom 25 = .ok (.iload 4, 2) := by decide +kernel
theorem dX0_learntFrom_27 : decode cX0_learntFrom 27 = .ok (.ior, 1) := by decide +kernel
theorem dX0_learntFrom_28 : decode cX0_learntFrom 28 = .ok (.istore_n 2, 1) := by decide +kernel
theorem dX0_learntFrom_29 : decode cX0_learntFrom 29 = .ok (.iinc 3 1, 3) := by decide +kernel
theorem dX0_learntFrom_32 : decode cX0_learntFrom 32 = .ok (.goto (-28), 3) := by decide +kernel
theorem dX0_learntFrom_35 : decode cX0_learntFrom 35 = .ok (.iload_n 2, 1) := by decide +kernel
theorem dX0_learntFrom_36 : decode cX0_learntFrom 36 = .ok (.ireturn, 1) := by decide +kernel
theorem dX0_roundOf_0 : decode cX0_roundOf 0 = .ok (.iload_n 1, 1) := by decide +kernel
theorem dX0_roundOf_1 : decode cX0_roundOf 1 = .ok (.istore_n 3, 1) := by decide +kernel
theorem dX0_roundOf_2 : decode cX0_roundOf 2 = .ok (.iconst 0, 1) := by decide +kernel
theorem dX0_roundOf_3 : decode cX0_roundOf 3 = .ok (.istore 4, 2) := by decide +kernel
theorem dX0_roundOf_5 : decode cX0_roundOf 5 = .ok (.iload 4, 2) := by decide +kernel
theorem dX0_roundOf_7 : decode cX0_roundOf 7 = .ok (.bipush 12, 2) := by decide +kernel
theorem dX0_roundOf_9 : decode cX0_roundOf 9 = .ok (.if_icmp .gt 40, 3) := by decide +kernel
theorem dX0_roundOf_12 : decode cX0_roundOf 12 = .ok (.iload_n 3, 1) := by decide +kernel
theorem dX0_roundOf_13 : decode cX0_roundOf 13 = .ok (.iload_n 2, 1) := by decide +kernel
theorem dX0_roundOf_14 : decode cX0_roundOf 14 = .ok (.invokestatic 49, 3) := by decide +kernel
theorem dX0_roundOf_17 : decode cX0_roundOf 17 = .ok (.ifCond .eq 6, 3) := by decide +kernel
theorem dX0_roundOf_20 : decode cX0_roundOf 20 = .ok (.iload 4, 2) := by decide +kernel
theorem dX0_roundOf_22 : decode cX0_roundOf 22 = .ok (.ireturn, 1) := by decide +kernel
theorem dX0_roundOf_23 : decode cX0_roundOf 23 = .ok (.aload_n 0, 1) := by decide +kernel
theorem dX0_roundOf_24 : decode cX0_roundOf 24 = .ok (.iload_n 3, 1) := by decide +kernel
theorem dX0_roundOf_25 : decode cX0_roundOf 25 = .ok (.invokevirtual 45, 3) := by decide +kernel
theorem dX0_roundOf_28 : decode cX0_roundOf 28 = .ok (.istore 5, 2) := by decide +kernel
theorem dX0_roundOf_30 : decode cX0_roundOf 30 = .ok (.iload 5, 2) := by decide +kernel
theorem dX0_roundOf_32 : decode cX0_roundOf 32 = .ok (.ifCond .ne 6, 3) := by decide +kernel
theorem dX0_roundOf_35 : decode cX0_roundOf 35 = .ok (.bipush (-9), 2) := by decide +kernel
theorem dX0_roundOf_37 : decode cX0_roundOf 37 = .ok (.ireturn, 1) := by decide +kernel
theorem dX0_roundOf_38 : decode cX0_roundOf 38 = .ok (.iload_n 3, 1) := by decide +kernel
theorem dX0_roundOf_39 : decode cX0_roundOf 39 = .ok (.iload 5, 2) := by decide +kernel
theorem dX0_roundOf_41 : decode cX0_roundOf 41 = .ok (.ior, 1) := by decide +kernel
theorem dX0_roundOf_42 : decode cX0_roundOf 42 = .ok (.istore_n 3, 1) := by decide +kernel
theorem dX0_roundOf_43 : decode cX0_roundOf 43 = .ok (.iinc 4 1, 3) := by decide +kernel
theorem dX0_roundOf_46 : decode cX0_roundOf 46 = .ok (.goto (-41), 3) := by decide +kernel
theorem dX0_roundOf_49 : decode cX0_roundOf 49 = .ok (.bipush (-9), 2) := by decide +kernel
theorem dX0_roundOf_51 : decode cX0_roundOf 51 = .ok (.ireturn, 1) := by decide +kernel
theorem dX0_neverTaught_0 : decode cX0_neverTaught 0 = .ok (.iconst 0, 1) := by decide +kernel
theorem dX0_neverTaught_1 : decode cX0_neverTaught 1 = .ok (.istore_n 1, 1) := by decide +kernel
theorem dX0_neverTaught_2 : decode cX0_neverTaught 2 = .ok (.iconst 0, 1) := by decide +kernel
theorem dX0_neverTaught_3 : decode cX0_neverTaught 3 = .ok (.istore_n 2, 1) := by decide +kernel
theorem dX0_neverTaught_4 : decode cX0_neverTaught 4 = .ok (.iload_n 2, 1) := by decide +kernel
theorem dX0_neverTaught_5 : decode cX0_neverTaught 5 = .ok (.bipush 12, 2) := by decide +kernel
theorem dX0_neverTaught_7 : decode cX0_neverTaught 7 = .ok (.if_icmp .ge 35, 3) := by decide +kernel
theorem dX0_neverTaught_10 : decode cX0_neverTaught 10 = .ok (.aload_n 0, 1) := by decide +kernel
theorem dX0_neverTaught_11 : decode cX0_neverTaught 11 = .ok (.sipush 4095, 3) := by decide +kernel
theorem dX0_neverTaught_14 : decode cX0_neverTaught 14 = .ok (.iconst 1, 1) := by decide +kernel
theorem dX0_neverTaught_15 : decode cX0_neverTaught 15 = .ok (.iload_n 2, 1) := by decide +kernel
theorem dX0_neverTaught_16 : decode cX0_neverTaught 16 = .ok (.ishl, 1) := by decide +kernel
theorem dX0_neverTaught_17 : decode cX0_neverTaught 17 = .ok (.iconst (-1), 1) := by decide +kernel
theorem dX0_neverTaught_18 : decode cX0_neverTaught 18 = .ok (.ixor, 1) := by decide +kernel
theorem dX0_neverTaught_19 : decode cX0_neverTaught 19 = .ok (.iand, 1) := by decide +kernel
theorem dX0_neverTaught_20 : decode cX0_neverTaught 20 = .ok (.invokevirtual 45, 3) := by decide +kernel
theorem dX0_neverTaught_23 : decode cX0_neverTaught 23 = .ok (.iload_n 2, 1) := by decide +kernel
theorem dX0_neverTaught_24 : decode cX0_neverTaught 24 = .ok (.invokestatic 49, 3) := by decide +kernel
theorem dX0_neverTaught_27 : decode cX0_neverTaught 27 = .ok (.ifCond .ne 9, 3) := by decide +kernel
theorem dX0_neverTaught_30 : decode cX0_neverTaught 30 = .ok (.iload_n 1, 1) := by decide +kernel
theorem dX0_neverTaught_31 : decode cX0_neverTaught 31 = .ok (.iconst 1, 1) := by decide +kernel
theorem dX0_neverTaught_32 : decode cX0_neverTaught 32 = .ok (.iload_n 2, 1) := by decide +kernel
theorem dX0_neverTaught_33 : decode cX0_neverTaught 33 = .ok (.ishl, 1) := by decide +kernel
theorem dX0_neverTaught_34 : decode cX0_neverTaught 34 = .ok (.ior, 1) := by decide +kernel
theorem dX0_neverTaught_35 : decode cX0_neverTaught 35 = .ok (.istore_n 1, 1) := by decide +kernel
theorem dX0_neverTaught_36 : decode cX0_neverTaught 36 = .ok (.iinc 2 1, 3) := by decide +kernel
theorem dX0_neverTaught_39 : decode cX0_neverTaught 39 = .ok (.goto (-35), 3) := by decide +kernel
theorem dX0_neverTaught_42 : decode cX0_neverTaught 42 = .ok (.iload_n 1, 1) := by decide +kernel
theorem dX0_neverTaught_43 : decode cX0_neverTaught 43 = .ok (.ireturn, 1) := by decide +kernel
theorem dX0_metMostAfter_0 : decode cX0_metMostAfter 0 = .ok (.aload_n 0, 1) := by decide +kernel
theorem dX0_metMostAfter_1 : decode cX0_metMostAfter 1 = .ok (.iload_n 1, 1) := by decide +kernel
theorem dX0_metMostAfter_2 : decode cX0_metMostAfter 2 = .ok (.invokevirtual 45, 3) := by decide +kernel
theorem dX0_metMostAfter_5 : decode cX0_metMostAfter 5 = .ok (.istore_n 2, 1) := by decide +kernel
theorem dX0_metMostAfter_6 : decode cX0_metMostAfter 6 = .ok (.bipush (-9), 2) := by decide +kernel
theorem dX0_metMostAfter_8 : decode cX0_metMostAfter 8 = .ok (.istore_n 3, 1) := by decide +kernel
theorem dX0_metMostAfter_9 : decode cX0_metMostAfter 9 = .ok (.iconst (-1), 1) := by decide +kernel
theorem dX0_metMostAfter_10 : decode cX0_metMostAfter 10 = .ok (.istore 4, 2) := by decide +kernel
theorem dX0_metMostAfter_12 : decode cX0_metMostAfter 12 = .ok (.iconst 0, 1) := by decide +kernel
theorem dX0_metMostAfter_13 : decode cX0_metMostAfter 13 = .ok (.istore 5, 2) := by decide +kernel
theorem dX0_metMostAfter_15 : decode cX0_metMostAfter 15 = .ok (.iload 5, 2) := by decide +kernel
theorem dX0_metMostAfter_17 : decode cX0_metMostAfter 17 = .ok (.bipush 12, 2) := by decide +kernel
theorem dX0_metMostAfter_19 : decode cX0_metMostAfter 19 = .ok (.if_icmp .ge 42, 3) := by decide +kernel
theorem dX0_metMostAfter_22 : decode cX0_metMostAfter 22 = .ok (.iload_n 2, 1) := by decide +kernel
theorem dX0_metMostAfter_23 : decode cX0_metMostAfter 23 = .ok (.iload 5, 2) := by decide +kernel
theorem dX0_metMostAfter_25 : decode cX0_metMostAfter 25 = .ok (.invokestatic 49, 3) := by decide +kernel
theorem dX0_metMostAfter_28 : decode cX0_metMostAfter 28 = .ok (.ifCond .eq 27, 3) := by decide +kernel
theorem dX0_metMostAfter_31 : decode cX0_metMostAfter 31 = .ok (.aload_n 0, 1) := by decide +kernel
theorem dX0_metMostAfter_32 : decode cX0_metMostAfter 32 = .ok (.getfield 24, 3) := by decide +kernel
theorem dX0_metMostAfter_35 : decode cX0_metMostAfter 35 = .ok (.iload 5, 2) := by decide +kernel
theorem dX0_metMostAfter_37 : decode cX0_metMostAfter 37 = .ok (.iaload, 1) := by decide +kernel
theorem dX0_metMostAfter_38 : decode cX0_metMostAfter 38 = .ok (.iload 4, 2) := by decide +kernel
theorem dX0_metMostAfter_40 : decode cX0_metMostAfter 40 = .ok (.if_icmp .le 15, 3) := by decide +kernel
theorem dX0_metMostAfter_43 : decode cX0_metMostAfter 43 = .ok (.iload 5, 2) := by decide +kernel
theorem dX0_metMostAfter_45 : decode cX0_metMostAfter 45 = .ok (.istore_n 3, 1) := by decide +kernel
theorem dX0_metMostAfter_46 : decode cX0_metMostAfter 46 = .ok (.aload_n 0, 1) := by decide +kernel
theorem dX0_metMostAfter_47 : decode cX0_metMostAfter 47 = .ok (.getfield 24, 3) := by decide +kernel
theorem dX0_metMostAfter_50 : decode cX0_metMostAfter 50 = .ok (.iload 5, 2) := by decide +kernel
theorem dX0_metMostAfter_52 : decode cX0_metMostAfter 52 = .ok (.iaload, 1) := by decide +kernel
theorem dX0_metMostAfter_53 : decode cX0_metMostAfter 53 = .ok (.istore 4, 2) := by decide +kernel
theorem dX0_metMostAfter_55 : decode cX0_metMostAfter 55 = .ok (.iinc 5 1, 3) := by decide +kernel
theorem dX0_metMostAfter_58 : decode cX0_metMostAfter 58 = .ok (.goto (-43), 3) := by decide +kernel
theorem dX0_metMostAfter_61 : decode cX0_metMostAfter 61 = .ok (.iload_n 3, 1) := by decide +kernel
theorem dX0_metMostAfter_62 : decode cX0_metMostAfter 62 = .ok (.ireturn, 1) := by decide +kernel
theorem dX0_hardnessOf_0 : decode cX0_hardnessOf 0 = .ok (.iconst 0, 1) := by decide +kernel
theorem dX0_hardnessOf_1 : decode cX0_hardnessOf 1 = .ok (.istore_n 2, 1) := by decide +kernel
theorem dX0_hardnessOf_2 : decode cX0_hardnessOf 2 = .ok (.iconst 0, 1) := by decide +kernel
theorem dX0_hardnessOf_3 : decode cX0_hardnessOf 3 = .ok (.istore_n 3, 1) := by decide +kernel
theorem dX0_hardnessOf_4 : decode cX0_hardnessOf 4 = .ok (.iload_n 3, 1) := by decide +kernel
theorem dX0_hardnessOf_5 : decode cX0_hardnessOf 5 = .ok (.bipush 12, 2) := by decide +kernel
theorem dX0_hardnessOf_7 : decode cX0_hardnessOf 7 = .ok (.if_icmp .ge 26, 3) := by decide +kernel
theorem dX0_hardnessOf_10 : decode cX0_hardnessOf 10 = .ok (.iload_n 1, 1) := by decide +kernel
theorem dX0_hardnessOf_11 : decode cX0_hardnessOf 11 = .ok (.iload_n 3, 1) := by decide +kernel
theorem dX0_hardnessOf_12 : decode cX0_hardnessOf 12 = .ok (.invokestatic 49, 3) := by decide +kernel
theorem dX0_hardnessOf_15 : decode cX0_hardnessOf 15 = .ok (.ifCond .eq 12, 3) := by decide +kernel
theorem dX0_hardnessOf_18 : decode cX0_hardnessOf 18 = .ok (.iload_n 2, 1) := by decide +kernel
theorem dX0_hardnessOf_19 : decode cX0_hardnessOf 19 = .ok (.aload_n 0, 1) := by decide +kernel
theorem dX0_hardnessOf_20 : decode cX0_hardnessOf 20 = .ok (.getfield 20, 3) := by decide +kernel
theorem dX0_hardnessOf_23 : decode cX0_hardnessOf 23 = .ok (.iload_n 3, 1) := by decide +kernel
theorem dX0_hardnessOf_24 : decode cX0_hardnessOf 24 = .ok (.iaload, 1) := by decide +kernel
theorem dX0_hardnessOf_25 : decode cX0_hardnessOf 25 = .ok (.iadd, 1) := by decide +kernel
theorem dX0_hardnessOf_26 : decode cX0_hardnessOf 26 = .ok (.istore_n 2, 1) := by decide +kernel
theorem dX0_hardnessOf_27 : decode cX0_hardnessOf 27 = .ok (.iinc 3 1, 3) := by decide +kernel
theorem dX0_hardnessOf_30 : decode cX0_hardnessOf 30 = .ok (.goto (-26), 3) := by decide +kernel
theorem dX0_hardnessOf_33 : decode cX0_hardnessOf 33 = .ok (.iload_n 2, 1) := by decide +kernel
theorem dX0_hardnessOf_34 : decode cX0_hardnessOf 34 = .ok (.ireturn, 1) := by decide +kernel
theorem dX0_wrongBy_0 : decode cX0_wrongBy 0 = .ok (.iload_n 1, 1) := by decide +kernel
theorem dX0_wrongBy_1 : decode cX0_wrongBy 1 = .ok (.istore_n 3, 1) := by decide +kernel
theorem dX0_wrongBy_2 : decode cX0_wrongBy 2 = .ok (.iconst 1, 1) := by decide +kernel
theorem dX0_wrongBy_3 : decode cX0_wrongBy 3 = .ok (.iload_n 2, 1) := by decide +kernel
theorem dX0_wrongBy_4 : decode cX0_wrongBy 4 = .ok (.ishl, 1) := by decide +kernel
theorem dX0_wrongBy_5 : decode cX0_wrongBy 5 = .ok (.istore 4, 2) := by decide +kernel
theorem dX0_wrongBy_7 : decode cX0_wrongBy 7 = .ok (.iconst 1, 1) := by decide +kernel
theorem dX0_wrongBy_8 : decode cX0_wrongBy 8 = .ok (.istore 5, 2) := by decide +kernel
theorem dX0_wrongBy_10 : decode cX0_wrongBy 10 = .ok (.iload 5, 2) := by decide +kernel
theorem dX0_wrongBy_12 : decode cX0_wrongBy 12 = .ok (.bipush 12, 2) := by decide +kernel
theorem dX0_wrongBy_14 : decode cX0_wrongBy 14 = .ok (.if_icmp .gt 43, 3) := by decide +kernel
theorem dX0_wrongBy_17 : decode cX0_wrongBy 17 = .ok (.aload_n 0, 1) := by decide +kernel
theorem dX0_wrongBy_18 : decode cX0_wrongBy 18 = .ok (.iload_n 3, 1) := by decide +kernel
theorem dX0_wrongBy_19 : decode cX0_wrongBy 19 = .ok (.invokevirtual 45, 3) := by decide +kernel
theorem dX0_wrongBy_22 : decode cX0_wrongBy 22 = .ok (.istore 6, 2) := by decide +kernel
theorem dX0_wrongBy_24 : decode cX0_wrongBy 24 = .ok (.iload 6, 2) := by decide +kernel
theorem dX0_wrongBy_26 : decode cX0_wrongBy 26 = .ok (.ifCond .ne 6, 3) := by decide +kernel
theorem dX0_wrongBy_29 : decode cX0_wrongBy 29 = .ok (.iload 4, 2) := by decide +kernel
theorem dX0_wrongBy_31 : decode cX0_wrongBy 31 = .ok (.ireturn, 1) := by decide +kernel
theorem dX0_wrongBy_32 : decode cX0_wrongBy 32 = .ok (.iload 4, 2) := by decide +kernel
theorem dX0_wrongBy_34 : decode cX0_wrongBy 34 = .ok (.aload_n 0, 1) := by decide +kernel
theorem dX0_wrongBy_35 : decode cX0_wrongBy 35 = .ok (.iload 6, 2) := by decide +kernel
theorem dX0_wrongBy_37 : decode cX0_wrongBy 37 = .ok (.iload_n 3, 1) := by decide +kernel
theorem dX0_wrongBy_38 : decode cX0_wrongBy 38 = .ok (.iload 4, 2) := by decide +kernel
theorem dX0_wrongBy_40 : decode cX0_wrongBy 40 = .ok (.invokevirtual 52, 3) := by decide +kernel
theorem dX0_wrongBy_43 : decode cX0_wrongBy 43 = .ok (.ior, 1) := by decide +kernel
theorem dX0_wrongBy_44 : decode cX0_wrongBy 44 = .ok (.istore 4, 2) := by decide +kernel
theorem dX0_wrongBy_46 : decode cX0_wrongBy 46 = .ok (.iload_n 3, 1) := by decide +kernel
theorem dX0_wrongBy_47 : decode cX0_wrongBy 47 = .ok (.iload 6, 2) := by decide +kernel
theorem dX0_wrongBy_49 : decode cX0_wrongBy 49 = .ok (.ior, 1) := by decide +kernel
theorem dX0_wrongBy_50 : decode cX0_wrongBy 50 = .ok (.istore_n 3, 1) := by decide +kernel
theorem dX0_wrongBy_51 : decode cX0_wrongBy 51 = .ok (.iinc 5 1, 3) := by decide +kernel
theorem dX0_wrongBy_54 : decode cX0_wrongBy 54 = .ok (.goto (-44), 3) := by decide +kernel
theorem dX0_wrongBy_57 : decode cX0_wrongBy 57 = .ok (.iload 4, 2) := by decide +kernel
theorem dX0_wrongBy_59 : decode cX0_wrongBy 59 = .ok (.ireturn, 1) := by decide +kernel
theorem dX0_wrongAmong_0 : decode cX0_wrongAmong 0 = .ok (.iconst 0, 1) := by decide +kernel
theorem dX0_wrongAmong_1 : decode cX0_wrongAmong 1 = .ok (.istore 4, 2) := by decide +kernel
theorem dX0_wrongAmong_3 : decode cX0_wrongAmong 3 = .ok (.iconst 0, 1) := by decide +kernel
theorem dX0_wrongAmong_4 : decode cX0_wrongAmong 4 = .ok (.istore 5, 2) := by decide +kernel
theorem dX0_wrongAmong_6 : decode cX0_wrongAmong 6 = .ok (.iload 5, 2) := by decide +kernel
theorem dX0_wrongAmong_8 : decode cX0_wrongAmong 8 = .ok (.bipush 12, 2) := by decide +kernel
theorem dX0_wrongAmong_10 : decode cX0_wrongAmong 10 = .ok (.if_icmp .ge 39, 3) := by decide +kernel
theorem dX0_wrongAmong_13 : decode cX0_wrongAmong 13 = .ok (.iload_n 1, 1) := by decide +kernel
theorem dX0_wrongAmong_14 : decode cX0_wrongAmong 14 = .ok (.iload 5, 2) := by decide +kernel
theorem dX0_wrongAmong_16 : decode cX0_wrongAmong 16 = .ok (.invokestatic 49, 3) := by decide +kernel
theorem dX0_wrongAmong_19 : decode cX0_wrongAmong 19 = .ok (.ifCond .eq 24, 3) := by decide +kernel
theorem dX0_wrongAmong_22 : decode cX0_wrongAmong 22 = .ok (.aload_n 0, 1) := by decide +kernel
theorem dX0_wrongAmong_23 : decode cX0_wrongAmong 23 = .ok (.iload 5, 2) := by decide +kernel
theorem dX0_wrongAmong_25 : decode cX0_wrongAmong 25 = .ok (.iload_n 2, 1) := by decide +kernel
theorem dX0_wrongAmong_26 : decode cX0_wrongAmong 26 = .ok (.invokevirtual 56, 3) := by decide +kernel
theorem dX0_wrongAmong_29 : decode cX0_wrongAmong 29 = .ok (.iload_n 3, 1) := by decide +kernel
theorem dX0_wrongAmong_30 : decode cX0_wrongAmong 30 = .ok (.iand, 1) := by decide +kernel
theorem dX0_wrongAmong_31 : decode cX0_wrongAmong 31 = .ok (.ifCond .eq 12, 3) := by decide +kernel
theorem dX0_wrongAmong_34 : decode cX0_wrongAmong 34 = .ok (.iload 4, 2) := by decide +kernel
theorem dX0_wrongAmong_36 : decode cX0_wrongAmong 36 = .ok (.iconst 1, 1) := by decide +kernel
theorem dX0_wrongAmong_37 : decode cX0_wrongAmong 37 = .ok (.iload 5, 2) := by decide +kernel
theorem dX0_wrongAmong_39 : decode cX0_wrongAmong 39 = .ok (.ishl, 1) := by decide +kernel
theorem dX0_wrongAmong_40 : decode cX0_wrongAmong 40 = .ok (.ior, 1) := by decide +kernel
theorem dX0_wrongAmong_41 : decode cX0_wrongAmong 41 = .ok (.istore 4, 2) := by decide +kernel
theorem dX0_wrongAmong_43 : decode cX0_wrongAmong 43 = .ok (.iinc 5 1, 3) := by decide +kernel
theorem dX0_wrongAmong_46 : decode cX0_wrongAmong 46 = .ok (.goto (-40), 3) := by decide +kernel
theorem dX0_wrongAmong_49 : decode cX0_wrongAmong 49 = .ok (.iload 4, 2) := by decide +kernel
theorem dX0_wrongAmong_51 : decode cX0_wrongAmong 51 = .ok (.ireturn, 1) := by decide +kernel
theorem dX0_learntBy_0 : decode cX0_learntBy 0 = .ok (.aload_n 0, 1) := by decide +kernel
theorem dX0_learntBy_1 : decode cX0_learntBy 1 = .ok (.getfield 27, 3) := by decide +kernel
theorem dX0_learntBy_4 : decode cX0_learntBy 4 = .ok (.iload_n 1, 1) := by decide +kernel
theorem dX0_learntBy_5 : decode cX0_learntBy 5 = .ok (.invokestatic 49, 3) := by decide +kernel
theorem dX0_learntBy_8 : decode cX0_learntBy 8 = .ok (.ifCond .eq 12, 3) := by decide +kernel
theorem dX0_learntBy_11 : decode cX0_learntBy 11 = .ok (.aload_n 0, 1) := by decide +kernel
theorem dX0_learntBy_12 : decode cX0_learntBy 12 = .ok (.getfield 14, 3) := by decide +kernel
theorem dX0_learntBy_15 : decode cX0_learntBy 15 = .ok (.iload_n 1, 1) := by decide +kernel
theorem dX0_learntBy_16 : decode cX0_learntBy 16 = .ok (.invokevirtual 60, 3) := by decide +kernel
theorem dX0_learntBy_19 : decode cX0_learntBy 19 = .ok (.ireturn, 1) := by decide +kernel
theorem dX0_learntBy_20 : decode cX0_learntBy 20 = .ok (.iconst 0, 1) := by decide +kernel
theorem dX0_learntBy_21 : decode cX0_learntBy 21 = .ok (.istore_n 3, 1) := by decide +kernel
theorem dX0_learntBy_22 : decode cX0_learntBy 22 = .ok (.iload_n 3, 1) := by decide +kernel
theorem dX0_learntBy_23 : decode cX0_learntBy 23 = .ok (.aload_n 0, 1) := by decide +kernel
theorem dX0_learntBy_24 : decode cX0_learntBy 24 = .ok (.getfield 14, 3) := by decide +kernel
theorem dX0_learntBy_27 : decode cX0_learntBy 27 = .ok (.getfield 35, 3) := by decide +kernel
theorem dX0_learntBy_30 : decode cX0_learntBy 30 = .ok (.if_icmp .ge 44, 3) := by decide +kernel
theorem dX0_learntBy_33 : decode cX0_learntBy 33 = .ok (.aload_n 0, 1) := by decide +kernel
theorem dX0_learntBy_34 : decode cX0_learntBy 34 = .ok (.getfield 14, 3) := by decide +kernel
theorem dX0_learntBy_37 : decode cX0_learntBy 37 = .ok (.getfield 38, 3) := by decide +kernel
theorem dX0_learntBy_40 : decode cX0_learntBy 40 = .ok (.iload_n 3, 1) := by decide +kernel
theorem dX0_learntBy_41 : decode cX0_learntBy 41 = .ok (.iaload, 1) := by decide +kernel
theorem dX0_learntBy_42 : decode cX0_learntBy 42 = .ok (.iload_n 1, 1) := by decide +kernel
theorem dX0_learntBy_43 : decode cX0_learntBy 43 = .ok (.if_icmp .ne 25, 3) := by decide +kernel
theorem dX0_learntBy_46 : decode cX0_learntBy 46 = .ok (.aload_n 0, 1) := by decide +kernel
theorem dX0_learntBy_47 : decode cX0_learntBy 47 = .ok (.getfield 14, 3) := by decide +kernel
theorem dX0_learntBy_50 : decode cX0_learntBy 50 = .ok (.iload_n 3, 1) := by decide +kernel
theorem dX0_learntBy_51 : decode cX0_learntBy 51 = .ok (.iload_n 2, 1) := by decide +kernel
theorem dX0_learntBy_52 : decode cX0_learntBy 52 = .ok (.invokevirtual 41, 3) := by decide +kernel
theorem dX0_learntBy_55 : decode cX0_learntBy 55 = .ok (.ifCond .eq 13, 3) := by decide +kernel
theorem dX0_learntBy_58 : decode cX0_learntBy 58 = .ok (.aload_n 0, 1) := by decide +kernel
theorem dX0_learntBy_59 : decode cX0_learntBy 59 = .ok (.getfield 14, 3) := by decide +kernel
theorem dX0_learntBy_62 : decode cX0_learntBy 62 = .ok (.getfield 63, 3) := by decide +kernel
theorem dX0_learntBy_65 : decode cX0_learntBy 65 = .ok (.iload_n 3, 1) := by decide +kernel
theorem dX0_learntBy_66 : decode cX0_learntBy 66 = .ok (.iaload, 1) := by decide +kernel
theorem dX0_learntBy_67 : decode cX0_learntBy 67 = .ok (.ireturn, 1) := by decide +kernel
theorem dX0_learntBy_68 : decode cX0_learntBy 68 = .ok (.iinc 3 1, 3) := by decide +kernel
theorem dX0_learntBy_71 : decode cX0_learntBy 71 = .ok (.goto (-49), 3) := by decide +kernel
theorem dX0_learntBy_74 : decode cX0_learntBy 74 = .ok (.iconst 0, 1) := by decide +kernel
theorem dX0_learntBy_75 : decode cX0_learntBy 75 = .ok (.ireturn, 1) := by decide +kernel
theorem dX1_init_0 : decode cX1_init 0 = .ok (.aload_n 0, 1) := by decide +kernel
theorem dX1_init_1 : decode cX1_init 1 = .ok (.invokespecial 3, 3) := by decide +kernel
theorem dX1_init_4 : decode cX1_init 4 = .ok (.aload_n 0, 1) := by decide +kernel
theorem dX1_init_5 : decode cX1_init 5 = .ok (.new 9, 3) := by decide +kernel
theorem dX1_init_8 : decode cX1_init 8 = .ok (.dup, 1) := by decide +kernel
theorem dX1_init_9 : decode cX1_init 9 = .ok (.iconst 4, 1) := by decide +kernel
theorem dX1_init_10 : decode cX1_init 10 = .ok (.invokespecial 11, 3) := by decide +kernel
theorem dX1_init_13 : decode cX1_init 13 = .ok (.putfield 14, 3) := by decide +kernel
theorem dX1_init_16 : decode cX1_init 16 = .ok (.aload_n 0, 1) := by decide +kernel
theorem dX1_init_17 : decode cX1_init 17 = .ok (.iconst 4, 1) := by decide +kernel
theorem dX1_init_18 : decode cX1_init 18 = .ok (.newarray .int, 2) := by decide +kernel
theorem dX1_init_20 : decode cX1_init 20 = .ok (.putfield 20, 3) := by decide +kernel
theorem dX1_init_23 : decode cX1_init 23 = .ok (.aload_n 0, 1) := by decide +kernel
theorem dX1_init_24 : decode cX1_init 24 = .ok (.iconst 4, 1) := by decide +kernel
theorem dX1_init_25 : decode cX1_init 25 = .ok (.newarray .int, 2) := by decide +kernel
theorem dX1_init_27 : decode cX1_init 27 = .ok (.putfield 24, 3) := by decide +kernel
theorem dX1_init_30 : decode cX1_init 30 = .ok (.return_, 1) := by decide +kernel
theorem dX1_add_0 : decode cX1_add 0 = .ok (.aload_n 0, 1) := by decide +kernel
theorem dX1_add_1 : decode cX1_add 1 = .ok (.getfield 14, 3) := by decide +kernel
theorem dX1_add_4 : decode cX1_add 4 = .ok (.aload_n 3, 1) := by decide +kernel
theorem dX1_add_5 : decode cX1_add 5 = .ok (.invokevirtual 27, 3) := by decide +kernel
theorem dX1_add_8 : decode cX1_add 8 = .ok (.istore 4, 2) := by decide +kernel
theorem dX1_add_10 : decode cX1_add 10 = .ok (.iload 4, 2) := by decide +kernel
theorem dX1_add_12 : decode cX1_add 12 = .ok (.ifCond .lt 25, 3) := by decide +kernel
theorem dX1_add_15 : decode cX1_add 15 = .ok (.iload 4, 2) := by decide +kernel
theorem dX1_add_17 : decode cX1_add 17 = .ok (.iconst 4, 1) := by decide +kernel
theorem dX1_add_18 : decode cX1_add 18 = .ok (.if_icmp .ge 19, 3) := by decide +kernel
theorem dX1_add_21 : decode cX1_add 21 = .ok (.aload_n 0, 1) := by decide +kernel
theorem dX1_add_22 : decode cX1_add 22 = .ok (.getfield 20, 3) := by decide +kernel
theorem dX1_add_25 : decode cX1_add 25 = .ok (.iload 4, 2) := by decide +kernel
theorem dX1_add_27 : decode cX1_add 27 = .ok (.iload_n 1, 1) := by decide +kernel
theorem dX1_add_28 : decode cX1_add 28 = .ok (.iastore, 1) := by decide +kernel
theorem dX1_add_29 : decode cX1_add 29 = .ok (.aload_n 0, 1) := by decide +kernel
theorem dX1_add_30 : decode cX1_add 30 = .ok (.getfield 24, 3) := by decide +kernel
theorem dX1_add_33 : decode cX1_add 33 = .ok (.iload 4, 2) := by decide +kernel
theorem dX1_add_35 : decode cX1_add 35 = .ok (.iload_n 2, 1) := by decide +kernel
theorem dX1_add_36 : decode cX1_add 36 = .ok (.iastore, 1) := by decide +kernel
theorem dX1_add_37 : decode cX1_add 37 = .ok (.iload 4, 2) := by decide +kernel
theorem dX1_add_39 : decode cX1_add 39 = .ok (.ireturn, 1) := by decide +kernel
theorem dX1_ofBook_0 : decode cX1_ofBook 0 = .ok (.iconst 0, 1) := by decide +kernel
theorem dX1_ofBook_1 : decode cX1_ofBook 1 = .ok (.istore_n 2, 1) := by decide +kernel
theorem dX1_ofBook_2 : decode cX1_ofBook 2 = .ok (.iconst 0, 1) := by decide +kernel
theorem dX1_ofBook_3 : decode cX1_ofBook 3 = .ok (.istore_n 3, 1) := by decide +kernel
theorem dX1_ofBook_4 : decode cX1_ofBook 4 = .ok (.iload_n 3, 1) := by decide +kernel
theorem dX1_ofBook_5 : decode cX1_ofBook 5 = .ok (.aload_n 0, 1) := by decide +kernel
theorem dX1_ofBook_6 : decode cX1_ofBook 6 = .ok (.getfield 14, 3) := by decide +kernel
theorem dX1_ofBook_9 : decode cX1_ofBook 9 = .ok (.getfield 31, 3) := by decide +kernel
theorem dX1_ofBook_12 : decode cX1_ofBook 12 = .ok (.if_icmp .ge 25, 3) := by decide +kernel
theorem dX1_ofBook_15 : decode cX1_ofBook 15 = .ok (.aload_n 0, 1) := by decide +kernel
theorem dX1_ofBook_16 : decode cX1_ofBook 16 = .ok (.getfield 20, 3) := by decide +kernel
theorem dX1_ofBook_19 : decode cX1_ofBook 19 = .ok (.iload_n 3, 1) := by decide +kernel
theorem dX1_ofBook_20 : decode cX1_ofBook 20 = .ok (.iaload, 1) := by decide +kernel
theorem dX1_ofBook_21 : decode cX1_ofBook 21 = .ok (.iload_n 1, 1) := by decide +kernel
theorem dX1_ofBook_22 : decode cX1_ofBook 22 = .ok (.if_icmp .ne 9, 3) := by decide +kernel
theorem dX1_ofBook_25 : decode cX1_ofBook 25 = .ok (.iload_n 2, 1) := by decide +kernel
theorem dX1_ofBook_26 : decode cX1_ofBook 26 = .ok (.iconst 1, 1) := by decide +kernel
theorem dX1_ofBook_27 : decode cX1_ofBook 27 = .ok (.iload_n 3, 1) := by decide +kernel
theorem dX1_ofBook_28 : decode cX1_ofBook 28 = .ok (.ishl, 1) := by decide +kernel
theorem dX1_ofBook_29 : decode cX1_ofBook 29 = .ok (.ior, 1) := by decide +kernel
theorem dX1_ofBook_30 : decode cX1_ofBook 30 = .ok (.istore_n 2, 1) := by decide +kernel
theorem dX1_ofBook_31 : decode cX1_ofBook 31 = .ok (.iinc 3 1, 3) := by decide +kernel
theorem dX1_ofBook_34 : decode cX1_ofBook 34 = .ok (.goto (-30), 3) := by decide +kernel
theorem dX1_ofBook_37 : decode cX1_ofBook 37 = .ok (.iload_n 2, 1) := by decide +kernel
theorem dX1_ofBook_38 : decode cX1_ofBook 38 = .ok (.ireturn, 1) := by decide +kernel
theorem dX1_makeIn_0 : decode cX1_makeIn 0 = .ok (.iconst 0, 1) := by decide +kernel
theorem dX1_makeIn_1 : decode cX1_makeIn 1 = .ok (.istore_n 3, 1) := by decide +kernel
theorem dX1_makeIn_2 : decode cX1_makeIn 2 = .ok (.iload_n 3, 1) := by decide +kernel
theorem dX1_makeIn_3 : decode cX1_makeIn 3 = .ok (.aload_n 0, 1) := by decide +kernel
theorem dX1_makeIn_4 : decode cX1_makeIn 4 = .ok (.getfield 14, 3) := by decide +kernel
theorem dX1_makeIn_7 : decode cX1_makeIn 7 = .ok (.getfield 31, 3) := by decide +kernel
theorem dX1_makeIn_10 : decode cX1_makeIn 10 = .ok (.if_icmp .ge 35, 3) := by decide +kernel
theorem dX1_makeIn_13 : decode cX1_makeIn 13 = .ok (.iload_n 2, 1) := by decide +kernel
theorem dX1_makeIn_14 : decode cX1_makeIn 14 = .ok (.iload_n 3, 1) := by decide +kernel
theorem dX1_makeIn_15 : decode cX1_makeIn 15 = .ok (.invokestatic 35, 3) := by decide +kernel
theorem dX1_makeIn_18 : decode cX1_makeIn 18 = .ok (.ifCond .eq 21, 3) := by decide +kernel
theorem dX1_makeIn_21 : decode cX1_makeIn 21 = .ok (.aload_n 1, 1) := by decide +kernel
theorem dX1_makeIn_22 : decode cX1_makeIn 22 = .ok (.getfield 39, 3) := by decide +kernel
theorem dX1_makeIn_25 : decode cX1_makeIn 25 = .ok (.aload_n 0, 1) := by decide +kernel
theorem dX1_makeIn_26 : decode cX1_makeIn 26 = .ok (.getfield 24, 3) := by decide +kernel
theorem dX1_makeIn_29 : decode cX1_makeIn 29 = .ok (.iload_n 3, 1) := by decide +kernel
theorem dX1_makeIn_30 : decode cX1_makeIn 30 = .ok (.iaload, 1) := by decide +kernel
theorem dX1_makeIn_31 : decode cX1_makeIn 31 = .ok (.aload_n 0, 1) := by decide +kernel
theorem dX1_makeIn_32 : decode cX1_makeIn 32 = .ok (.getfield 14, 3) := by decide +kernel
theorem dX1_makeIn_35 : decode cX1_makeIn 35 = .ok (.iload_n 3, 1) := by decide +kernel
theorem dX1_makeIn_36 : decode cX1_makeIn 36 = .ok (.invokevirtual 44, 3) := by decide +kernel
theorem dX1_makeIn_39 : decode cX1_makeIn 39 = .ok (.iinc 3 1, 3) := by decide +kernel
theorem dX1_makeIn_42 : decode cX1_makeIn 42 = .ok (.goto (-40), 3) := by decide +kernel
theorem dX1_makeIn_45 : decode cX1_makeIn 45 = .ok (.return_, 1) := by decide +kernel
theorem dX1_copyFrom_0 : decode cX1_copyFrom 0 = .ok (.aload_n 0, 1) := by decide +kernel
theorem dX1_copyFrom_1 : decode cX1_copyFrom 1 = .ok (.getfield 14, 3) := by decide +kernel
theorem dX1_copyFrom_4 : decode cX1_copyFrom 4 = .ok (.aload_n 1, 1) := by decide +kernel
theorem dX1_copyFrom_5 : decode cX1_copyFrom 5 = .ok (.getfield 14, 3) := by decide +kernel
theorem dX1_copyFrom_8 : decode cX1_copyFrom 8 = .ok (.invokevirtual 48, 3) := by decide +kernel
theorem dX1_copyFrom_11 : decode cX1_copyFrom 11 = .ok (.iconst 0, 1) := by decide +kernel
theorem dX1_copyFrom_12 : decode cX1_copyFrom 12 = .ok (.istore_n 2, 1) := by decide +kernel
theorem dX1_copyFrom_13 : decode cX1_copyFrom 13 = .ok (.iload_n 2, 1) := by decide +kernel
theorem dX1_copyFrom_14 : decode cX1_copyFrom 14 = .ok (.iconst 4, 1) := by decide +kernel
theorem dX1_copyFrom_15 : decode cX1_copyFrom 15 = .ok (.if_icmp .ge 33, 3) := by decide +kernel
theorem dX1_copyFrom_18 : decode cX1_copyFrom 18 = .ok (.aload_n 0, 1) := by decide +kernel
theorem dX1_copyFrom_19 : decode cX1_copyFrom 19 = .ok (.getfield 20, 3) := by decide +kernel
theorem dX1_copyFrom_22 : decode cX1_copyFrom 22 = .ok (.iload_n 2, 1) := by decide +kernel
theorem dX1_copyFrom_23 : decode cX1_copyFrom 23 = .ok (.aload_n 1, 1) := by decide +kernel
theorem dX1_copyFrom_24 : decode cX1_copyFrom 24 = .ok (.getfield 20, 3) := by decide +kernel
theorem dX1_copyFrom_27 : decode cX1_copyFrom 27 = .ok (.iload_n 2, 1) := by decide +kernel
theorem dX1_copyFrom_28 : decode cX1_copyFrom 28 = .ok (.iaload, 1) := by decide +kernel
theorem dX1_copyFrom_29 : decode cX1_copyFrom 29 = .ok (.iastore, 1) := by decide +kernel
theorem dX1_copyFrom_30 : decode cX1_copyFrom 30 = .ok (.aload_n 0, 1) := by decide +kernel
theorem dX1_copyFrom_31 : decode cX1_copyFrom 31 = .ok (.getfield 24, 3) := by decide +kernel
theorem dX1_copyFrom_34 : decode cX1_copyFrom 34 = .ok (.iload_n 2, 1) := by decide +kernel
theorem dX1_copyFrom_35 : decode cX1_copyFrom 35 = .ok (.aload_n 1, 1) := by decide +kernel
theorem dX1_copyFrom_36 : decode cX1_copyFrom 36 = .ok (.getfield 24, 3) := by decide +kernel
theorem dX1_copyFrom_39 : decode cX1_copyFrom 39 = .ok (.iload_n 2, 1) := by decide +kernel
theorem dX1_copyFrom_40 : decode cX1_copyFrom 40 = .ok (.iaload, 1) := by decide +kernel
theorem dX1_copyFrom_41 : decode cX1_copyFrom 41 = .ok (.iastore, 1) := by decide +kernel
theorem dX1_copyFrom_42 : decode cX1_copyFrom 42 = .ok (.iinc 2 1, 3) := by decide +kernel
theorem dX1_copyFrom_45 : decode cX1_copyFrom 45 = .ok (.goto (-32), 3) := by decide +kernel
theorem dX1_copyFrom_48 : decode cX1_copyFrom 48 = .ok (.return_, 1) := by decide +kernel
theorem dX2_init_0 : decode cX2_init 0 = .ok (.aload_n 0, 1) := by decide +kernel
theorem dX2_init_1 : decode cX2_init 1 = .ok (.invokespecial 3, 3) := by decide +kernel
theorem dX2_init_4 : decode cX2_init 4 = .ok (.aload_n 0, 1) := by decide +kernel
theorem dX2_init_5 : decode cX2_init 5 = .ok (.sipush 4096, 3) := by decide +kernel
theorem dX2_init_8 : decode cX2_init 8 = .ok (.newarray .boolean, 2) := by decide +kernel
theorem dX2_init_10 : decode cX2_init 10 = .ok (.putfield 9, 3) := by decide +kernel
theorem dX2_init_13 : decode cX2_init 13 = .ok (.aload_n 0, 1) := by decide +kernel
theorem dX2_init_14 : decode cX2_init 14 = .ok (.iconst 0, 1) := by decide +kernel
theorem dX2_init_15 : decode cX2_init 15 = .ok (.putfield 15, 3) := by decide +kernel
theorem dX2_init_18 : decode cX2_init 18 = .ok (.aload_n 0, 1) := by decide +kernel
theorem dX2_init_19 : decode cX2_init 19 = .ok (.iconst 0, 1) := by decide +kernel
theorem dX2_init_20 : decode cX2_init 20 = .ok (.putfield 19, 3) := by decide +kernel
theorem dX2_init_23 : decode cX2_init 23 = .ok (.aload_n 0, 1) := by decide +kernel
theorem dX2_init_24 : decode cX2_init 24 = .ok (.sipush 4095, 3) := by decide +kernel
theorem dX2_init_27 : decode cX2_init 27 = .ok (.putfield 22, 3) := by decide +kernel
theorem dX2_init_30 : decode cX2_init 30 = .ok (.aload_n 0, 1) := by decide +kernel
theorem dX2_init_31 : decode cX2_init 31 = .ok (.bipush 12, 2) := by decide +kernel
theorem dX2_init_33 : decode cX2_init 33 = .ok (.putfield 25, 3) := by decide +kernel
theorem dX2_init_36 : decode cX2_init 36 = .ok (.aload_n 0, 1) := by decide +kernel
theorem dX2_init_37 : decode cX2_init 37 = .ok (.iconst 0, 1) := by decide +kernel
theorem dX2_init_38 : decode cX2_init 38 = .ok (.putfield 28, 3) := by decide +kernel
theorem dX2_init_41 : decode cX2_init 41 = .ok (.aload_n 0, 1) := by decide +kernel
theorem dX2_init_42 : decode cX2_init 42 = .ok (.iconst 0, 1) := by decide +kernel
theorem dX2_init_43 : decode cX2_init 43 = .ok (.putfield 31, 3) := by decide +kernel
theorem dX2_init_46 : decode cX2_init 46 = .ok (.aload_n 0, 1) := by decide +kernel
theorem dX2_init_47 : decode cX2_init 47 = .ok (.iconst 0, 1) := by decide +kernel
theorem dX2_init_48 : decode cX2_init 48 = .ok (.putfield 34, 3) := by decide +kernel
theorem dX2_init_51 : decode cX2_init 51 = .ok (.return_, 1) := by decide +kernel
theorem dX2_find_0 : decode cX2_find 0 = .ok (.aload_n 0, 1) := by decide +kernel
theorem dX2_find_1 : decode cX2_find 1 = .ok (.iload_n 2, 1) := by decide +kernel
theorem dX2_find_2 : decode cX2_find 2 = .ok (.aload_n 1, 1) := by decide +kernel
theorem dX2_find_3 : decode cX2_find 3 = .ok (.invokevirtual 37, 3) := by decide +kernel
theorem dX2_find_6 : decode cX2_find 6 = .ok (.ior, 1) := by decide +kernel
theorem dX2_find_7 : decode cX2_find 7 = .ok (.putfield 15, 3) := by decide +kernel
theorem dX2_find_10 : decode cX2_find 10 = .ok (.aload_n 0, 1) := by decide +kernel
theorem dX2_find_11 : decode cX2_find 11 = .ok (.aload_n 1, 1) := by decide +kernel
theorem dX2_find_12 : decode cX2_find 12 = .ok (.aload_n 0, 1) := by decide +kernel
theorem dX2_find_13 : decode cX2_find 13 = .ok (.getfield 15, 3) := by decide +kernel
theorem dX2_find_16 : decode cX2_find 16 = .ok (.invokevirtual 43, 3) := by decide +kernel
theorem dX2_find_19 : decode cX2_find 19 = .ok (.putfield 19, 3) := by decide +kernel
theorem dX2_find_22 : decode cX2_find 22 = .ok (.aload_n 0, 1) := by decide +kernel
theorem dX2_find_23 : decode cX2_find 23 = .ok (.sipush 4095, 3) := by decide +kernel
theorem dX2_find_26 : decode cX2_find 26 = .ok (.putfield 22, 3) := by decide +kernel
theorem dX2_find_29 : decode cX2_find 29 = .ok (.aload_n 0, 1) := by decide +kernel
theorem dX2_find_30 : decode cX2_find 30 = .ok (.bipush 13, 2) := by decide +kernel
theorem dX2_find_32 : decode cX2_find 32 = .ok (.putfield 25, 3) := by decide +kernel
theorem dX2_find_35 : decode cX2_find 35 = .ok (.sipush 4095, 3) := by decide +kernel
theorem dX2_find_38 : decode cX2_find 38 = .ok (.aload_n 0, 1) := by decide +kernel
theorem dX2_find_39 : decode cX2_find 39 = .ok (.getfield 19, 3) := by decide +kernel
theorem dX2_find_42 : decode cX2_find 42 = .ok (.iconst (-1), 1) := by decide +kernel
theorem dX2_find_43 : decode cX2_find 43 = .ok (.ixor, 1) := by decide +kernel
theorem dX2_find_44 : decode cX2_find 44 = .ok (.iand, 1) := by decide +kernel
theorem dX2_find_45 : decode cX2_find 45 = .ok (.istore_n 3, 1) := by decide +kernel
theorem dX2_find_46 : decode cX2_find 46 = .ok (.iload_n 3, 1) := by decide +kernel
theorem dX2_find_47 : decode cX2_find 47 = .ok (.istore 4, 2) := by decide +kernel
theorem dX2_find_49 : decode cX2_find 49 = .ok (.iload 4, 2) := by decide +kernel
theorem dX2_find_51 : decode cX2_find 51 = .ok (.ifCond .le 21, 3) := by decide +kernel
theorem dX2_find_54 : decode cX2_find 54 = .ok (.aload_n 0, 1) := by decide +kernel
theorem dX2_find_55 : decode cX2_find 55 = .ok (.aload_n 1, 1) := by decide +kernel
theorem dX2_find_56 : decode cX2_find 56 = .ok (.iload 4, 2) := by decide +kernel
theorem dX2_find_58 : decode cX2_find 58 = .ok (.invokevirtual 47, 3) := by decide +kernel
theorem dX2_find_61 : decode cX2_find 61 = .ok (.iload 4, 2) := by decide +kernel
theorem dX2_find_63 : decode cX2_find 63 = .ok (.iconst 1, 1) := by decide +kernel
theorem dX2_find_64 : decode cX2_find 64 = .ok (.isub, 1) := by decide +kernel
theorem dX2_find_65 : decode cX2_find 65 = .ok (.iload_n 3, 1) := by decide +kernel
theorem dX2_find_66 : decode cX2_find 66 = .ok (.iand, 1) := by decide +kernel
theorem dX2_find_67 : decode cX2_find 67 = .ok (.istore 4, 2) := by decide +kernel
theorem dX2_find_69 : decode cX2_find 69 = .ok (.goto (-20), 3) := by decide +kernel
theorem dX2_find_72 : decode cX2_find 72 = .ok (.aload_n 0, 1) := by decide +kernel
theorem dX2_find_73 : decode cX2_find 73 = .ok (.aload_n 1, 1) := by decide +kernel
theorem dX2_find_74 : decode cX2_find 74 = .ok (.iconst 0, 1) := by decide +kernel
theorem dX2_find_75 : decode cX2_find 75 = .ok (.invokevirtual 47, 3) := by decide +kernel
theorem dX2_find_78 : decode cX2_find 78 = .ok (.return_, 1) := by decide +kernel
theorem dX2_look_0 : decode cX2_look 0 = .ok (.aload_n 0, 1) := by decide +kernel
theorem dX2_look_1 : decode cX2_look 1 = .ok (.getfield 19, 3) := by decide +kernel
theorem dX2_look_4 : decode cX2_look 4 = .ok (.iload_n 2, 1) := by decide +kernel
theorem dX2_look_5 : decode cX2_look 5 = .ok (.ior, 1) := by decide +kernel
theorem dX2_look_6 : decode cX2_look 6 = .ok (.istore_n 3, 1) := by decide +kernel
theorem dX2_look_7 : decode cX2_look 7 = .ok (.iload_n 3, 1) := by decide +kernel
theorem dX2_look_8 : decode cX2_look 8 = .ok (.sipush 4095, 3) := by decide +kernel
theorem dX2_look_11 : decode cX2_look 11 = .ok (.if_icmp .ne 7, 3) := by decide +kernel
theorem dX2_look_14 : decode cX2_look 14 = .ok (.iconst 1, 1) := by decide +kernel
theorem dX2_look_15 : decode cX2_look 15 = .ok (.goto 4, 3) := by decide +kernel
theorem dX2_look_18 : decode cX2_look 18 = .ok (.iconst 0, 1) := by decide +kernel
theorem dX2_look_19 : decode cX2_look 19 = .ok (.istore 4, 2) := by decide +kernel
theorem dX2_look_21 : decode cX2_look 21 = .ok (.iload 4, 2) := by decide +kernel
theorem dX2_look_23 : decode cX2_look 23 = .ok (.ifCond .ne 47, 3) := by decide +kernel
theorem dX2_look_26 : decode cX2_look 26 = .ok (.aload_n 0, 1) := by decide +kernel
theorem dX2_look_27 : decode cX2_look 27 = .ok (.getfield 9, 3) := by decide +kernel
theorem dX2_look_30 : decode cX2_look 30 = .ok (.iload_n 3, 1) := by decide +kernel
theorem dX2_look_31 : decode cX2_look 31 = .ok (.iload_n 3, 1) := by decide +kernel
theorem dX2_look_32 : decode cX2_look 32 = .ok (.iconst 1, 1) := by decide +kernel
theorem dX2_look_33 : decode cX2_look 33 = .ok (.iadd, 1) := by decide +kernel
theorem dX2_look_34 : decode cX2_look 34 = .ok (.ior, 1) := by decide +kernel
theorem dX2_look_35 : decode cX2_look 35 = .ok (.baload, 1) := by decide +kernel
theorem dX2_look_36 : decode cX2_look 36 = .ok (.ifCond .eq 34, 3) := by decide +kernel
theorem dX2_look_39 : decode cX2_look 39 = .ok (.aload_n 1, 1) := by decide +kernel
theorem dX2_look_40 : decode cX2_look 40 = .ok (.iload_n 3, 1) := by decide +kernel
theorem dX2_look_41 : decode cX2_look 41 = .ok (.invokevirtual 51, 3) := by decide +kernel
theorem dX2_look_44 : decode cX2_look 44 = .ok (.istore 5, 2) := by decide +kernel
theorem dX2_look_46 : decode cX2_look 46 = .ok (.iload 5, 2) := by decide +kernel
theorem dX2_look_48 : decode cX2_look 48 = .ok (.ifCond .eq 19, 3) := by decide +kernel
theorem dX2_look_51 : decode cX2_look 51 = .ok (.aload_n 0, 1) := by decide +kernel
theorem dX2_look_52 : decode cX2_look 52 = .ok (.getfield 9, 3) := by decide +kernel
theorem dX2_look_55 : decode cX2_look 55 = .ok (.iload_n 3, 1) := by decide +kernel
theorem dX2_look_56 : decode cX2_look 56 = .ok (.iload 5, 2) := by decide +kernel
theorem dX2_look_58 : decode cX2_look 58 = .ok (.ior, 1) := by decide +kernel
theorem dX2_look_59 : decode cX2_look 59 = .ok (.baload, 1) := by decide +kernel
theorem dX2_look_60 : decode cX2_look 60 = .ok (.ifCond .eq 7, 3) := by decide +kernel
theorem dX2_look_63 : decode cX2_look 63 = .ok (.iconst 1, 1) := by decide +kernel
theorem dX2_look_64 : decode cX2_look 64 = .ok (.goto 4, 3) := by decide +kernel
theorem dX2_look_67 : decode cX2_look 67 = .ok (.iconst 0, 1) := by decide +kernel
theorem dX2_look_68 : decode cX2_look 68 = .ok (.istore 4, 2) := by decide +kernel
theorem dX2_look_70 : decode cX2_look 70 = .ok (.aload_n 0, 1) := by decide +kernel
theorem dX2_look_71 : decode cX2_look 71 = .ok (.getfield 9, 3) := by decide +kernel
theorem dX2_look_74 : decode cX2_look 74 = .ok (.iload_n 3, 1) := by decide +kernel
theorem dX2_look_75 : decode cX2_look 75 = .ok (.iload 4, 2) := by decide +kernel
theorem dX2_look_77 : decode cX2_look 77 = .ok (.bastore, 1) := by decide +kernel
theorem dX2_look_78 : decode cX2_look 78 = .ok (.iload 4, 2) := by decide +kernel
theorem dX2_look_80 : decode cX2_look 80 = .ok (.ifCond .eq 13, 3) := by decide +kernel
theorem dX2_look_83 : decode cX2_look 83 = .ok (.aload_n 0, 1) := by decide +kernel
theorem dX2_look_84 : decode cX2_look 84 = .ok (.aload_n 0, 1) := by decide +kernel
theorem dX2_look_85 : decode cX2_look 85 = .ok (.getfield 15, 3) := by decide +kernel
theorem dX2_look_88 : decode cX2_look 88 = .ok (.iload_n 2, 1) := by decide +kernel
theorem dX2_look_89 : decode cX2_look 89 = .ok (.ior, 1) := by decide +kernel
theorem dX2_look_90 : decode cX2_look 90 = .ok (.invokevirtual 54, 3) := by decide +kernel
theorem dX2_look_93 : decode cX2_look 93 = .ok (.return_, 1) := by decide +kernel
theorem dX2_note_0 : decode cX2_note 0 = .ok (.iload_n 1, 1) := by decide +kernel
theorem dX2_note_1 : decode cX2_note 1 = .ok (.invokestatic 58, 3) := by decide +kernel
theorem dX2_note_4 : decode cX2_note 4 = .ok (.istore_n 2, 1) := by decide +kernel
theorem dX2_note_5 : decode cX2_note 5 = .ok (.iload_n 2, 1) := by decide +kernel
theorem dX2_note_6 : decode cX2_note 6 = .ok (.aload_n 0, 1) := by decide +kernel
theorem dX2_note_7 : decode cX2_note 7 = .ok (.getfield 25, 3) := by decide +kernel
theorem dX2_note_10 : decode cX2_note 10 = .ok (.if_icmp .le 4, 3) := by decide +kernel
theorem dX2_note_13 : decode cX2_note 13 = .ok (.return_, 1) := by decide +kernel
theorem dX2_note_14 : decode cX2_note 14 = .ok (.iload_n 2, 1) := by decide +kernel
theorem dX2_note_15 : decode cX2_note 15 = .ok (.aload_n 0, 1) := by decide +kernel
theorem dX2_note_16 : decode cX2_note 16 = .ok (.getfield 25, 3) := by decide +kernel
theorem dX2_note_19 : decode cX2_note 19 = .ok (.if_icmp .ge 30, 3) := by decide +kernel
theorem dX2_note_22 : decode cX2_note 22 = .ok (.aload_n 0, 1) := by decide +kernel
theorem dX2_note_23 : decode cX2_note 23 = .ok (.iload_n 1, 1) := by decide +kernel
theorem dX2_note_24 : decode cX2_note 24 = .ok (.putfield 22, 3) := by decide +kernel
theorem dX2_note_27 : decode cX2_note 27 = .ok (.aload_n 0, 1) := by decide +kernel
theorem dX2_note_28 : decode cX2_note 28 = .ok (.iload_n 2, 1) := by decide +kernel
theorem dX2_note_29 : decode cX2_note 29 = .ok (.putfield 25, 3) := by decide +kernel
theorem dX2_note_32 : decode cX2_note 32 = .ok (.aload_n 0, 1) := by decide +kernel
theorem dX2_note_33 : decode cX2_note 33 = .ok (.iconst 0, 1) := by decide +kernel
theorem dX2_note_34 : decode cX2_note 34 = .ok (.putfield 28, 3) := by decide +kernel
theorem dX2_note_37 : decode cX2_note 37 = .ok (.aload_n 0, 1) := by decide +kernel
theorem dX2_note_38 : decode cX2_note 38 = .ok (.sipush 4095, 3) := by decide +kernel
theorem dX2_note_41 : decode cX2_note 41 = .ok (.putfield 31, 3) := by decide +kernel
theorem dX2_note_44 : decode cX2_note 44 = .ok (.aload_n 0, 1) := by decide +kernel
theorem dX2_note_45 : decode cX2_note 45 = .ok (.iconst 0, 1) := by decide +kernel
theorem dX2_note_46 : decode cX2_note 46 = .ok (.putfield 34, 3) := by decide +kernel
theorem dX2_note_49 : decode cX2_note 49 = .ok (.aload_n 0, 1) := by decide +kernel
theorem dX2_note_50 : decode cX2_note 50 = .ok (.aload_n 0, 1) := by decide +kernel
theorem dX2_note_51 : decode cX2_note 51 = .ok (.getfield 22, 3) := by decide +kernel
theorem dX2_note_54 : decode cX2_note 54 = .ok (.iload_n 1, 1) := by decide +kernel
theorem dX2_note_55 : decode cX2_note 55 = .ok (.invokestatic 63, 3) := by decide +kernel
theorem dX2_note_58 : decode cX2_note 58 = .ok (.putfield 22, 3) := by decide +kernel
theorem dX2_note_61 : decode cX2_note 61 = .ok (.aload_n 0, 1) := by decide +kernel
theorem dX2_note_62 : decode cX2_note 62 = .ok (.dup, 1) := by decide +kernel
theorem dX2_note_63 : decode cX2_note 63 = .ok (.getfield 28, 3) := by decide +kernel
theorem dX2_note_66 : decode cX2_note 66 = .ok (.iconst 1, 1) := by decide +kernel
theorem dX2_note_67 : decode cX2_note 67 = .ok (.iadd, 1) := by decide +kernel
theorem dX2_note_68 : decode cX2_note 68 = .ok (.putfield 28, 3) := by decide +kernel
theorem dX2_note_71 : decode cX2_note 71 = .ok (.aload_n 0, 1) := by decide +kernel
theorem dX2_note_72 : decode cX2_note 72 = .ok (.dup, 1) := by decide +kernel
theorem dX2_note_73 : decode cX2_note 73 = .ok (.getfield 31, 3) := by decide +kernel
theorem dX2_note_76 : decode cX2_note 76 = .ok (.iload_n 1, 1) := by decide +kernel
theorem dX2_note_77 : decode cX2_note 77 = .ok (.iand, 1) := by decide +kernel
theorem dX2_note_78 : decode cX2_note 78 = .ok (.putfield 31, 3) := by decide +kernel
theorem dX2_note_81 : decode cX2_note 81 = .ok (.aload_n 0, 1) := by decide +kernel
theorem dX2_note_82 : decode cX2_note 82 = .ok (.dup, 1) := by decide +kernel
theorem dX2_note_83 : decode cX2_note 83 = .ok (.getfield 34, 3) := by decide +kernel
theorem dX2_note_86 : decode cX2_note 86 = .ok (.iload_n 1, 1) := by decide +kernel
theorem dX2_note_87 : decode cX2_note 87 = .ok (.ior, 1) := by decide +kernel
theorem dX2_note_88 : decode cX2_note 88 = .ok (.putfield 34, 3) := by decide +kernel
theorem dX2_note_91 : decode cX2_note 91 = .ok (.return_, 1) := by decide +kernel
theorem dX2_leastHard_0 : decode cX2_leastHard 0 = .ok (.sipush 4095, 3) := by decide +kernel
theorem dX2_leastHard_3 : decode cX2_leastHard 3 = .ok (.aload_n 0, 1) := by decide +kernel
theorem dX2_leastHard_4 : decode cX2_leastHard 4 = .ok (.getfield 19, 3) := by decide +kernel
theorem dX2_leastHard_7 : decode cX2_leastHard 7 = .ok (.iconst (-1), 1) := by decide +kernel
theorem dX2_leastHard_8 : decode cX2_leastHard 8 = .ok (.ixor, 1) := by decide +kernel
theorem dX2_leastHard_9 : decode cX2_leastHard 9 = .ok (.iand, 1) := by decide +kernel
theorem dX2_leastHard_10 : decode cX2_leastHard 10 = .ok (.istore_n 2, 1) := by decide +kernel
theorem dX2_leastHard_11 : decode cX2_leastHard 11 = .ok (.aload_n 0, 1) := by decide +kernel
theorem dX2_leastHard_12 : decode cX2_leastHard 12 = .ok (.getfield 15, 3) := by decide +kernel
theorem dX2_leastHard_15 : decode cX2_leastHard 15 = .ok (.iload_n 2, 1) := by decide +kernel
theorem dX2_leastHard_16 : decode cX2_leastHard 16 = .ok (.ior, 1) := by decide +kernel
theorem dX2_leastHard_17 : decode cX2_leastHard 17 = .ok (.istore_n 3, 1) := by decide +kernel
theorem dX2_leastHard_18 : decode cX2_leastHard 18 = .ok (.iload_n 2, 1) := by decide +kernel
theorem dX2_leastHard_19 : decode cX2_leastHard 19 = .ok (.istore 4, 2) := by decide +kernel
theorem dX2_leastHard_21 : decode cX2_leastHard 21 = .ok (.iload 4, 2) := by decide +kernel
theorem dX2_leastHard_23 : decode cX2_leastHard 23 = .ok (.ifCond .le 23, 3) := by decide +kernel
theorem dX2_leastHard_26 : decode cX2_leastHard 26 = .ok (.aload_n 0, 1) := by decide +kernel
theorem dX2_leastHard_27 : decode cX2_leastHard 27 = .ok (.aload_n 1, 1) := by decide +kernel
theorem dX2_leastHard_28 : decode cX2_leastHard 28 = .ok (.iload_n 3, 1) := by decide +kernel
theorem dX2_leastHard_29 : decode cX2_leastHard 29 = .ok (.iload 4, 2) := by decide +kernel
theorem dX2_leastHard_31 : decode cX2_leastHard 31 = .ok (.invokevirtual 69, 3) := by decide +kernel
theorem dX2_leastHard_34 : decode cX2_leastHard 34 = .ok (.istore_n 3, 1) := by decide +kernel
theorem dX2_leastHard_35 : decode cX2_leastHard 35 = .ok (.iload 4, 2) := by decide +kernel
theorem dX2_leastHard_37 : decode cX2_leastHard 37 = .ok (.iconst 1, 1) := by decide +kernel
theorem dX2_leastHard_38 : decode cX2_leastHard 38 = .ok (.isub, 1) := by decide +kernel
theorem dX2_leastHard_39 : decode cX2_leastHard 39 = .ok (.iload_n 2, 1) := by decide +kernel
theorem dX2_leastHard_40 : decode cX2_leastHard 40 = .ok (.iand, 1) := by decide +kernel
theorem dX2_leastHard_41 : decode cX2_leastHard 41 = .ok (.istore 4, 2) := by decide +kernel
theorem dX2_leastHard_43 : decode cX2_leastHard 43 = .ok (.goto (-22), 3) := by decide +kernel
theorem dX2_leastHard_46 : decode cX2_leastHard 46 = .ok (.aload_n 0, 1) := by decide +kernel
theorem dX2_leastHard_47 : decode cX2_leastHard 47 = .ok (.aload_n 1, 1) := by decide +kernel
theorem dX2_leastHard_48 : decode cX2_leastHard 48 = .ok (.iload_n 3, 1) := by decide +kernel
theorem dX2_leastHard_49 : decode cX2_leastHard 49 = .ok (.iconst 0, 1) := by decide +kernel
theorem dX2_leastHard_50 : decode cX2_leastHard 50 = .ok (.invokevirtual 69, 3) := by decide +kernel
theorem dX2_leastHard_53 : decode cX2_leastHard 53 = .ok (.ireturn, 1) := by decide +kernel
theorem dX2_lighter_0 : decode cX2_lighter 0 = .ok (.aload_n 0, 1) := by decide +kernel
theorem dX2_lighter_1 : decode cX2_lighter 1 = .ok (.getfield 9, 3) := by decide +kernel
theorem dX2_lighter_4 : decode cX2_lighter 4 = .ok (.aload_n 0, 1) := by decide +kernel
theorem dX2_lighter_5 : decode cX2_lighter 5 = .ok (.getfield 19, 3) := by decide +kernel
theorem dX2_lighter_8 : decode cX2_lighter 8 = .ok (.iload_n 3, 1) := by decide +kernel
theorem dX2_lighter_9 : decode cX2_lighter 9 = .ok (.ior, 1) := by decide +kernel
theorem dX2_lighter_10 : decode cX2_lighter 10 = .ok (.baload, 1) := by decide +kernel
theorem dX2_lighter_11 : decode cX2_lighter 11 = .ok (.ifCond .ne 5, 3) := by decide +kernel
theorem dX2_lighter_14 : decode cX2_lighter 14 = .ok (.iload_n 2, 1) := by decide +kernel
theorem dX2_lighter_15 : decode cX2_lighter 15 = .ok (.ireturn, 1) := by decide +kernel
theorem dX2_lighter_16 : decode cX2_lighter 16 = .ok (.aload_n 0, 1) := by decide +kernel
theorem dX2_lighter_17 : decode cX2_lighter 17 = .ok (.getfield 15, 3) := by decide +kernel
theorem dX2_lighter_20 : decode cX2_lighter 20 = .ok (.iload_n 3, 1) := by decide +kernel
theorem dX2_lighter_21 : decode cX2_lighter 21 = .ok (.ior, 1) := by decide +kernel
theorem dX2_lighter_22 : decode cX2_lighter 22 = .ok (.istore 4, 2) := by decide +kernel
theorem dX2_lighter_24 : decode cX2_lighter 24 = .ok (.aload_n 1, 1) := by decide +kernel
theorem dX2_lighter_25 : decode cX2_lighter 25 = .ok (.iload 4, 2) := by decide +kernel
theorem dX2_lighter_27 : decode cX2_lighter 27 = .ok (.invokevirtual 73, 3) := by decide +kernel
theorem dX2_lighter_30 : decode cX2_lighter 30 = .ok (.aload_n 1, 1) := by decide +kernel
theorem dX2_lighter_31 : decode cX2_lighter 31 = .ok (.iload_n 2, 1) := by decide +kernel
theorem dX2_lighter_32 : decode cX2_lighter 32 = .ok (.invokevirtual 73, 3) := by decide +kernel
theorem dX2_lighter_35 : decode cX2_lighter 35 = .ok (.invokestatic 76, 3) := by decide +kernel
theorem dX2_lighter_38 : decode cX2_lighter 38 = .ok (.istore 5, 2) := by decide +kernel
theorem dX2_lighter_40 : decode cX2_lighter 40 = .ok (.iload 5, 2) := by decide +kernel
theorem dX2_lighter_42 : decode cX2_lighter 42 = .ok (.ifCond .ne 17, 3) := by decide +kernel
theorem dX2_lighter_45 : decode cX2_lighter 45 = .ok (.iload 4, 2) := by decide +kernel
theorem dX2_lighter_47 : decode cX2_lighter 47 = .ok (.invokestatic 58, 3) := by decide +kernel
theorem dX2_lighter_50 : decode cX2_lighter 50 = .ok (.iload_n 2, 1) := by decide +kernel
theorem dX2_lighter_51 : decode cX2_lighter 51 = .ok (.invokestatic 58, 3) := by decide +kernel
theorem dX2_lighter_54 : decode cX2_lighter 54 = .ok (.invokestatic 76, 3) := by decide +kernel
theorem dX2_lighter_57 : decode cX2_lighter 57 = .ok (.istore 5, 2) := by decide +kernel
theorem dX2_lighter_59 : decode cX2_lighter 59 = .ok (.iload 5, 2) := by decide +kernel
theorem dX2_lighter_61 : decode cX2_lighter 61 = .ok (.ifCond .ne 11, 3) := by decide +kernel
theorem dX2_lighter_64 : decode cX2_lighter 64 = .ok (.iload 4, 2) := by decide +kernel
theorem dX2_lighter_66 : decode cX2_lighter 66 = .ok (.iload_n 2, 1) := by decide +kernel
theorem dX2_lighter_67 : decode cX2_lighter 67 = .ok (.invokestatic 76, 3) := by decide +kernel
theorem dX2_lighter_70 : decode cX2_lighter 70 = .ok (.istore 5, 2) := by decide +kernel
theorem dX2_lighter_72 : decode cX2_lighter 72 = .ok (.iload 5, 2) := by decide +kernel
theorem dX2_lighter_74 : decode cX2_lighter 74 = .ok (.ifCond .ge 8, 3) := by decide +kernel
theorem dX2_lighter_77 : decode cX2_lighter 77 = .ok (.iload 4, 2) := by decide +kernel
theorem dX2_lighter_79 : decode cX2_lighter 79 = .ok (.goto 4, 3) := by decide +kernel
theorem dX2_lighter_82 : decode cX2_lighter 82 = .ok (.iload_n 2, 1) := by decide +kernel
theorem dX2_lighter_83 : decode cX2_lighter 83 = .ok (.ireturn, 1) := by decide +kernel
theorem dX3_init_0 : decode cX3_init 0 = .ok (.aload_n 0, 1) := by decide +kernel
theorem dX3_init_1 : decode cX3_init 1 = .ok (.invokespecial 1, 3) := by decide +kernel
theorem dX3_init_4 : decode cX3_init 4 = .ok (.aload_n 0, 1) := by decide +kernel
theorem dX3_init_5 : decode cX3_init 5 = .ok (.new 7, 3) := by decide +kernel
theorem dX3_init_8 : decode cX3_init 8 = .ok (.dup, 1) := by decide +kernel
theorem dX3_init_9 : decode cX3_init 9 = .ok (.invokespecial 9, 3) := by decide +kernel
theorem dX3_init_12 : decode cX3_init 12 = .ok (.putfield 10, 3) := by decide +kernel
theorem dX3_init_15 : decode cX3_init 15 = .ok (.aload_n 0, 1) := by decide +kernel
theorem dX3_init_16 : decode cX3_init 16 = .ok (.new 7, 3) := by decide +kernel
theorem dX3_init_19 : decode cX3_init 19 = .ok (.dup, 1) := by decide +kernel
theorem dX3_init_20 : decode cX3_init 20 = .ok (.invokespecial 9, 3) := by decide +kernel
theorem dX3_init_23 : decode cX3_init 23 = .ok (.putfield 16, 3) := by decide +kernel
theorem dX3_init_26 : decode cX3_init 26 = .ok (.aload_n 0, 1) := by decide +kernel
theorem dX3_init_27 : decode cX3_init 27 = .ok (.new 19, 3) := by decide +kernel
theorem dX3_init_30 : decode cX3_init 30 = .ok (.dup, 1) := by decide +kernel
theorem dX3_init_31 : decode cX3_init 31 = .ok (.invokespecial 21, 3) := by decide +kernel
theorem dX3_init_34 : decode cX3_init 34 = .ok (.putfield 22, 3) := by decide +kernel
theorem dX3_init_37 : decode cX3_init 37 = .ok (.return_, 1) := by decide +kernel
theorem dX3_bookAt_0 : decode cX3_bookAt 0 = .ok (.iload_n 1, 1) := by decide +kernel
theorem dX3_bookAt_1 : decode cX3_bookAt 1 = .ok (.ifCond .ne 10, 3) := by decide +kernel
theorem dX3_bookAt_4 : decode cX3_bookAt 4 = .ok (.aload_n 0, 1) := by decide +kernel
theorem dX3_bookAt_5 : decode cX3_bookAt 5 = .ok (.getfield 10, 3) := by decide +kernel
theorem dX3_bookAt_8 : decode cX3_bookAt 8 = .ok (.goto 7, 3) := by decide +kernel
theorem dX3_bookAt_11 : decode cX3_bookAt 11 = .ok (.aload_n 0, 1) := by decide +kernel
theorem dX3_bookAt_12 : decode cX3_bookAt 12 = .ok (.getfield 16, 3) := by decide +kernel
theorem dX3_bookAt_15 : decode cX3_bookAt 15 = .ok (.areturn, 1) := by decide +kernel
theorem dX3_howManyTellings_0 : decode cX3_howManyTellings 0 = .ok (.aload_n 0, 1) := by decide +kernel
theorem dX3_howManyTellings_1 : decode cX3_howManyTellings 1 = .ok (.getfield 10, 3) := by decide +kernel
theorem dX3_howManyTellings_4 : decode cX3_howManyTellings 4 = .ok (.getfield 26, 3) := by decide +kernel
theorem dX3_howManyTellings_7 : decode cX3_howManyTellings 7 = .ok (.getfield 30, 3) := by decide +kernel
theorem dX3_howManyTellings_10 : decode cX3_howManyTellings 10 = .ok (.aload_n 0, 1) := by decide +kernel
theorem dX3_howManyTellings_11 : decode cX3_howManyTellings 11 = .ok (.getfield 16, 3) := by decide +kernel
theorem dX3_howManyTellings_14 : decode cX3_howManyTellings 14 = .ok (.getfield 26, 3) := by decide +kernel
theorem dX3_howManyTellings_17 : decode cX3_howManyTellings 17 = .ok (.getfield 30, 3) := by decide +kernel
theorem dX3_howManyTellings_20 : decode cX3_howManyTellings 20 = .ok (.iadd, 1) := by decide +kernel
theorem dX3_howManyTellings_21 : decode cX3_howManyTellings 21 = .ok (.ireturn, 1) := by decide +kernel
theorem dX3_copyFrom_0 : decode cX3_copyFrom 0 = .ok (.aload_n 0, 1) := by decide +kernel
theorem dX3_copyFrom_1 : decode cX3_copyFrom 1 = .ok (.getfield 10, 3) := by decide +kernel
theorem dX3_copyFrom_4 : decode cX3_copyFrom 4 = .ok (.aload_n 1, 1) := by decide +kernel
theorem dX3_copyFrom_5 : decode cX3_copyFrom 5 = .ok (.getfield 10, 3) := by decide +kernel
theorem dX3_copyFrom_8 : decode cX3_copyFrom 8 = .ok (.invokevirtual 36, 3) := by decide +kernel
theorem dX3_copyFrom_11 : decode cX3_copyFrom 11 = .ok (.aload_n 0, 1) := by decide +kernel
theorem dX3_copyFrom_12 : decode cX3_copyFrom 12 = .ok (.getfield 16, 3) := by decide +kernel
theorem dX3_copyFrom_15 : decode cX3_copyFrom 15 = .ok (.aload_n 1, 1) := by decide +kernel
theorem dX3_copyFrom_16 : decode cX3_copyFrom 16 = .ok (.getfield 16, 3) := by decide +kernel
theorem dX3_copyFrom_19 : decode cX3_copyFrom 19 = .ok (.invokevirtual 36, 3) := by decide +kernel
theorem dX3_copyFrom_22 : decode cX3_copyFrom 22 = .ok (.aload_n 0, 1) := by decide +kernel
theorem dX3_copyFrom_23 : decode cX3_copyFrom 23 = .ok (.getfield 22, 3) := by decide +kernel
theorem dX3_copyFrom_26 : decode cX3_copyFrom 26 = .ok (.aload_n 1, 1) := by decide +kernel
theorem dX3_copyFrom_27 : decode cX3_copyFrom 27 = .ok (.getfield 22, 3) := by decide +kernel
theorem dX3_copyFrom_30 : decode cX3_copyFrom 30 = .ok (.invokevirtual 40, 3) := by decide +kernel
theorem dX3_copyFrom_33 : decode cX3_copyFrom 33 = .ok (.return_, 1) := by decide +kernel
theorem dX4_init_0 : decode cX4_init 0 = .ok (.aload_n 0, 1) := by decide +kernel
theorem dX4_init_1 : decode cX4_init 1 = .ok (.invokespecial 3, 3) := by decide +kernel
theorem dX4_init_4 : decode cX4_init 4 = .ok (.aload_n 0, 1) := by decide +kernel
theorem dX4_init_5 : decode cX4_init 5 = .ok (.bipush 10, 2) := by decide +kernel
theorem dX4_init_7 : decode cX4_init 7 = .ok (.newarray .int, 2) := by decide +kernel
theorem dX4_init_9 : decode cX4_init 9 = .ok (.putfield 9, 3) := by decide +kernel
theorem dX4_init_12 : decode cX4_init 12 = .ok (.aload_n 0, 1) := by decide +kernel
theorem dX4_init_13 : decode cX4_init 13 = .ok (.iconst 0, 1) := by decide +kernel
theorem dX4_init_14 : decode cX4_init 14 = .ok (.putfield 15, 3) := by decide +kernel
theorem dX4_init_17 : decode cX4_init 17 = .ok (.aload_n 0, 1) := by decide +kernel
theorem dX4_init_18 : decode cX4_init 18 = .ok (.iconst 0, 1) := by decide +kernel
theorem dX4_init_19 : decode cX4_init 19 = .ok (.putfield 19, 3) := by decide +kernel
theorem dX4_init_22 : decode cX4_init 22 = .ok (.aload_n 0, 1) := by decide +kernel
theorem dX4_init_23 : decode cX4_init 23 = .ok (.iconst 0, 1) := by decide +kernel
theorem dX4_init_24 : decode cX4_init 24 = .ok (.putfield 22, 3) := by decide +kernel
theorem dX4_init_27 : decode cX4_init 27 = .ok (.aload_n 0, 1) := by decide +kernel
theorem dX4_init_28 : decode cX4_init 28 = .ok (.iconst 0, 1) := by decide +kernel
theorem dX4_init_29 : decode cX4_init 29 = .ok (.putfield 25, 3) := by decide +kernel
theorem dX4_init_32 : decode cX4_init 32 = .ok (.aload_n 0, 1) := by decide +kernel
theorem dX4_init_33 : decode cX4_init 33 = .ok (.bipush (-9), 2) := by decide +kernel
theorem dX4_init_35 : decode cX4_init 35 = .ok (.putfield 28, 3) := by decide +kernel
theorem dX4_init_38 : decode cX4_init 38 = .ok (.return_, 1) := by decide +kernel
theorem dX4_append_0 : decode cX4_append 0 = .ok (.iconst 0, 1) := by decide +kernel
theorem dX4_append_1 : decode cX4_append 1 = .ok (.istore 4, 2) := by decide +kernel
theorem dX4_append_3 : decode cX4_append 3 = .ok (.iload 4, 2) := by decide +kernel
theorem dX4_append_5 : decode cX4_append 5 = .ok (.iload_n 1, 1) := by decide +kernel
theorem dX4_append_6 : decode cX4_append 6 = .ok (.if_icmp .ge 49, 3) := by decide +kernel
theorem dX4_append_9 : decode cX4_append 9 = .ok (.aload_n 0, 1) := by decide +kernel
theorem dX4_append_10 : decode cX4_append 10 = .ok (.getfield 15, 3) := by decide +kernel
theorem dX4_append_13 : decode cX4_append 13 = .ok (.bipush 10, 2) := by decide +kernel
theorem dX4_append_15 : decode cX4_append 15 = .ok (.if_icmp .ge 40, 3) := by decide +kernel
theorem dX4_append_18 : decode cX4_append 18 = .ok (.aload_n 0, 1) := by decide +kernel
theorem dX4_append_19 : decode cX4_append 19 = .ok (.getfield 9, 3) := by decide +kernel
theorem dX4_append_22 : decode cX4_append 22 = .ok (.aload_n 0, 1) := by decide +kernel
theorem dX4_append_23 : decode cX4_append 23 = .ok (.getfield 15, 3) := by decide +kernel
theorem dX4_append_26 : decode cX4_append 26 = .ok (.lload_n 2, 1) := by decide +kernel
theorem dX4_append_27 : decode cX4_append 27 = .ok (.bipush 8, 2) := by decide +kernel
theorem dX4_append_29 : decode cX4_append 29 = .ok (.iload 4, 2) := by decide +kernel
theorem dX4_append_31 : decode cX4_append 31 = .ok (.imul, 1) := by decide +kernel
theorem dX4_append_32 : decode cX4_append 32 = .ok (.lushr, 1) := by decide +kernel
theorem dX4_append_33 : decode cX4_append 33 = .ok (.l2i, 1) := by decide +kernel
theorem dX4_append_34 : decode cX4_append 34 = .ok (.sipush 255, 3) := by decide +kernel
theorem dX4_append_37 : decode cX4_append 37 = .ok (.iand, 1) := by decide +kernel
theorem dX4_append_38 : decode cX4_append 38 = .ok (.iastore, 1) := by decide +kernel
theorem dX4_append_39 : decode cX4_append 39 = .ok (.aload_n 0, 1) := by decide +kernel
theorem dX4_append_40 : decode cX4_append 40 = .ok (.dup, 1) := by decide +kernel
theorem dX4_append_41 : decode cX4_append 41 = .ok (.getfield 15, 3) := by decide +kernel
theorem dX4_append_44 : decode cX4_append 44 = .ok (.iconst 1, 1) := by decide +kernel
theorem dX4_append_45 : decode cX4_append 45 = .ok (.iadd, 1) := by decide +kernel
theorem dX4_append_46 : decode cX4_append 46 = .ok (.putfield 15, 3) := by decide +kernel
theorem dX4_append_49 : decode cX4_append 49 = .ok (.iinc 4 1, 3) := by decide +kernel
theorem dX4_append_52 : decode cX4_append 52 = .ok (.goto (-49), 3) := by decide +kernel
theorem dX4_append_55 : decode cX4_append 55 = .ok (.return_, 1) := by decide +kernel
theorem dX4_read_0 : decode cX4_read 0 = .ok (.aload_n 0, 1) := by decide +kernel
theorem dX4_read_1 : decode cX4_read 1 = .ok (.aload_n 0, 1) := by decide +kernel
theorem dX4_read_2 : decode cX4_read 2 = .ok (.iconst 0, 1) := by decide +kernel
theorem dX4_read_3 : decode cX4_read 3 = .ok (.invokevirtual 31, 3) := by decide +kernel
theorem dX4_read_6 : decode cX4_read 6 = .ok (.putfield 19, 3) := by decide +kernel
theorem dX4_read_9 : decode cX4_read 9 = .ok (.aload_n 0, 1) := by decide +kernel
theorem dX4_read_10 : decode cX4_read 10 = .ok (.getfield 19, 3) := by decide +kernel
theorem dX4_read_13 : decode cX4_read 13 = .ok (.ifCond .ge 5, 3) := by decide +kernel
theorem dX4_read_16 : decode cX4_read 16 = .ok (.iconst 0, 1) := by decide +kernel
theorem dX4_read_17 : decode cX4_read 17 = .ok (.ireturn, 1) := by decide +kernel
theorem dX4_read_18 : decode cX4_read 18 = .ok (.aload_n 0, 1) := by decide +kernel
theorem dX4_read_19 : decode cX4_read 19 = .ok (.aload_n 0, 1) := by decide +kernel
theorem dX4_read_20 : decode cX4_read 20 = .ok (.getfield 15, 3) := by decide +kernel
theorem dX4_read_23 : decode cX4_read 23 = .ok (.iconst 1, 1) := by decide +kernel
theorem dX4_read_24 : decode cX4_read 24 = .ok (.if_icmp .le 18, 3) := by decide +kernel
theorem dX4_read_27 : decode cX4_read 27 = .ok (.ldc 35, 2) := by decide +kernel
theorem dX4_read_29 : decode cX4_read 29 = .ok (.aload_n 0, 1) := by decide +kernel
theorem dX4_read_30 : decode cX4_read 30 = .ok (.getfield 9, 3) := by decide +kernel
theorem dX4_read_33 : decode cX4_read 33 = .ok (.iconst 1, 1) := by decide +kernel
theorem dX4_read_34 : decode cX4_read 34 = .ok (.iaload, 1) := by decide +kernel
theorem dX4_read_35 : decode cX4_read 35 = .ok (.i2c, 1) := by decide +kernel
theorem dX4_read_36 : decode cX4_read 36 = .ok (.invokevirtual 37, 3) := by decide +kernel
theorem dX4_read_39 : decode cX4_read 39 = .ok (.goto 4, 3) := by decide +kernel
theorem dX4_read_42 : decode cX4_read 42 = .ok (.iconst (-1), 1) := by decide +kernel
theorem dX4_read_43 : decode cX4_read 43 = .ok (.putfield 22, 3) := by decide +kernel
theorem dX4_read_46 : decode cX4_read 46 = .ok (.aload_n 0, 1) := by decide +kernel
theorem dX4_read_47 : decode cX4_read 47 = .ok (.getfield 22, 3) := by decide +kernel
theorem dX4_read_50 : decode cX4_read 50 = .ok (.ifCond .ge 5, 3) := by decide +kernel
theorem dX4_read_53 : decode cX4_read 53 = .ok (.iconst 1, 1) := by decide +kernel
theorem dX4_read_54 : decode cX4_read 54 = .ok (.ireturn, 1) := by decide +kernel
theorem dX4_read_55 : decode cX4_read 55 = .ok (.aload_n 0, 1) := by decide +kernel
theorem dX4_read_56 : decode cX4_read 56 = .ok (.invokevirtual 42, 3) := by decide +kernel
theorem dX4_read_59 : decode cX4_read 59 = .ok (.ireturn, 1) := by decide +kernel
theorem dX4_readWords_0 : decode cX4_readWords 0 = .ok (.aload_n 0, 1) := by decide +kernel
theorem dX4_readWords_1 : decode cX4_readWords 1 = .ok (.iconst 0, 1) := by decide +kernel
theorem dX4_readWords_2 : decode cX4_readWords 2 = .ok (.putfield 25, 3) := by decide +kernel
theorem dX4_readWords_5 : decode cX4_readWords 5 = .ok (.aload_n 0, 1) := by decide +kernel
theorem dX4_readWords_6 : decode cX4_readWords 6 = .ok (.bipush (-9), 2) := by decide +kernel
theorem dX4_readWords_8 : decode cX4_readWords 8 = .ok (.putfield 28, 3) := by decide +kernel
theorem dX4_readWords_11 : decode cX4_readWords 11 = .ok (.iconst 2, 1) := by decide +kernel
theorem dX4_readWords_12 : decode cX4_readWords 12 = .ok (.istore_n 1, 1) := by decide +kernel
theorem dX4_readWords_13 : decode cX4_readWords 13 = .ok (.iload_n 1, 1) := by decide +kernel
theorem dX4_readWords_14 : decode cX4_readWords 14 = .ok (.aload_n 0, 1) := by decide +kernel
theorem dX4_readWords_15 : decode cX4_readWords 15 = .ok (.getfield 15, 3) := by decide +kernel
theorem dX4_readWords_18 : decode cX4_readWords 18 = .ok (.if_icmp .ge 72, 3) := by decide +kernel
theorem dX4_readWords_21 : decode cX4_readWords 21 = .ok (.aload_n 0, 1) := by decide +kernel
theorem dX4_readWords_22 : decode cX4_readWords 22 = .ok (.iload_n 1, 1) := by decide +kernel
theorem dX4_readWords_23 : decode cX4_readWords 23 = .ok (.invokevirtual 31, 3) := by decide +kernel
theorem dX4_readWords_26 : decode cX4_readWords 26 = .ok (.istore_n 2, 1) := by decide +kernel
theorem dX4_readWords_27 : decode cX4_readWords 27 = .ok (.aload_n 0, 1) := by decide +kernel
theorem dX4_readWords_28 : decode cX4_readWords 28 = .ok (.getfield 22, 3) := by decide +kernel
theorem dX4_readWords_31 : decode cX4_readWords 31 = .ok (.iconst 4, 1) := by decide +kernel
theorem dX4_readWords_32 : decode cX4_readWords 32 = .ok (.if_icmp .eq 26, 3) := by decide +kernel
theorem dX4_readWords_35 : decode cX4_readWords 35 = .ok (.iload_n 2, 1) := by decide +kernel
theorem dX4_readWords_36 : decode cX4_readWords 36 = .ok (.ifCond .lt 22, 3) := by decide +kernel
theorem dX4_readWords_39 : decode cX4_readWords 39 = .ok (.iload_n 2, 1) := by decide +kernel
theorem dX4_readWords_40 : decode cX4_readWords 40 = .ok (.aload_n 0, 1) := by decide +kernel
theorem dX4_readWords_41 : decode cX4_readWords 41 = .ok (.getfield 19, 3) := by decide +kernel
theorem dX4_readWords_44 : decode cX4_readWords 44 = .ok (.if_icmp .eq 14, 3) := by decide +kernel
theorem dX4_readWords_47 : decode cX4_readWords 47 = .ok (.aload_n 0, 1) := by decide +kernel
theorem dX4_readWords_48 : decode cX4_readWords 48 = .ok (.getfield 25, 3) := by decide +kernel
theorem dX4_readWords_51 : decode cX4_readWords 51 = .ok (.iload_n 2, 1) := by decide +kernel
theorem dX4_readWords_52 : decode cX4_readWords 52 = .ok (.invokestatic 46, 3) := by decide +kernel
theorem dX4_readWords_55 : decode cX4_readWords 55 = .ok (.ifCond .eq 5, 3) := by decide +kernel
theorem dX4_readWords_58 : decode cX4_readWords 58 = .ok (.iload_n 1, 1) := by decide +kernel
theorem dX4_readWords_59 : decode cX4_readWords 59 = .ok (.ireturn, 1) := by decide +kernel
theorem dX4_readWords_60 : decode cX4_readWords 60 = .ok (.aload_n 0, 1) := by decide +kernel
theorem dX4_readWords_61 : decode cX4_readWords 61 = .ok (.getfield 25, 3) := by decide +kernel
theorem dX4_readWords_64 : decode cX4_readWords 64 = .ok (.ifCond .ne 8, 3) := by decide +kernel
theorem dX4_readWords_67 : decode cX4_readWords 67 = .ok (.aload_n 0, 1) := by decide +kernel
theorem dX4_readWords_68 : decode cX4_readWords 68 = .ok (.iload_n 2, 1) := by decide +kernel
theorem dX4_readWords_69 : decode cX4_readWords 69 = .ok (.putfield 28, 3) := by decide +kernel
theorem dX4_readWords_72 : decode cX4_readWords 72 = .ok (.aload_n 0, 1) := by decide +kernel
theorem dX4_readWords_73 : decode cX4_readWords 73 = .ok (.dup, 1) := by decide +kernel
theorem dX4_readWords_74 : decode cX4_readWords 74 = .ok (.getfield 25, 3) := by decide +kernel
theorem dX4_readWords_77 : decode cX4_readWords 77 = .ok (.iconst 1, 1) := by decide +kernel
theorem dX4_readWords_78 : decode cX4_readWords 78 = .ok (.iload_n 2, 1) := by decide +kernel
theorem dX4_readWords_79 : decode cX4_readWords 79 = .ok (.ishl, 1) := by decide +kernel
theorem dX4_readWords_80 : decode cX4_readWords 80 = .ok (.ior, 1) := by decide +kernel
theorem dX4_readWords_81 : decode cX4_readWords 81 = .ok (.putfield 25, 3) := by decide +kernel
theorem dX4_readWords_84 : decode cX4_readWords 84 = .ok (.iinc 1 1, 3) := by decide +kernel
theorem dX4_readWords_87 : decode cX4_readWords 87 = .ok (.goto (-74), 3) := by decide +kernel
theorem dX4_readWords_90 : decode cX4_readWords 90 = .ok (.aload_n 0, 1) := by decide +kernel
theorem dX4_readWords_91 : decode cX4_readWords 91 = .ok (.getfield 22, 3) := by decide +kernel
theorem dX4_readWords_94 : decode cX4_readWords 94 = .ok (.iconst 4, 1) := by decide +kernel
theorem dX4_readWords_95 : decode cX4_readWords 95 = .ok (.if_icmp .eq 17, 3) := by decide +kernel
theorem dX4_readWords_98 : decode cX4_readWords 98 = .ok (.aload_n 0, 1) := by decide +kernel
theorem dX4_readWords_99 : decode cX4_readWords 99 = .ok (.getfield 25, 3) := by decide +kernel
theorem dX4_readWords_102 : decode cX4_readWords 102 = .ok (.ifCond .ne 10, 3) := by decide +kernel
theorem dX4_readWords_105 : decode cX4_readWords 105 = .ok (.aload_n 0, 1) := by decide +kernel
theorem dX4_readWords_106 : decode cX4_readWords 106 = .ok (.getfield 15, 3) := by decide +kernel
theorem dX4_readWords_109 : decode cX4_readWords 109 = .ok (.goto 4, 3) := by decide +kernel
theorem dX4_readWords_112 : decode cX4_readWords 112 = .ok (.iconst (-1), 1) := by decide +kernel
theorem dX4_readWords_113 : decode cX4_readWords 113 = .ok (.ireturn, 1) := by decide +kernel
theorem dX4_letterAt_0 : decode cX4_letterAt 0 = .ok (.iload_n 1, 1) := by decide +kernel
theorem dX4_letterAt_1 : decode cX4_letterAt 1 = .ok (.aload_n 0, 1) := by decide +kernel
theorem dX4_letterAt_2 : decode cX4_letterAt 2 = .ok (.getfield 15, 3) := by decide +kernel
theorem dX4_letterAt_5 : decode cX4_letterAt 5 = .ok (.if_icmp .lt 5, 3) := by decide +kernel
theorem dX4_letterAt_8 : decode cX4_letterAt 8 = .ok (.iconst (-1), 1) := by decide +kernel
theorem dX4_letterAt_9 : decode cX4_letterAt 9 = .ok (.ireturn, 1) := by decide +kernel
theorem dX4_letterAt_10 : decode cX4_letterAt 10 = .ok (.aload_n 0, 1) := by decide +kernel
theorem dX4_letterAt_11 : decode cX4_letterAt 11 = .ok (.getfield 9, 3) := by decide +kernel
theorem dX4_letterAt_14 : decode cX4_letterAt 14 = .ok (.iload_n 1, 1) := by decide +kernel
theorem dX4_letterAt_15 : decode cX4_letterAt 15 = .ok (.iaload, 1) := by decide +kernel
theorem dX4_letterAt_16 : decode cX4_letterAt 16 = .ok (.bipush 97, 2) := by decide +kernel
theorem dX4_letterAt_18 : decode cX4_letterAt 18 = .ok (.isub, 1) := by decide +kernel
theorem dX4_letterAt_19 : decode cX4_letterAt 19 = .ok (.istore_n 2, 1) := by decide +kernel
theorem dX4_letterAt_20 : decode cX4_letterAt 20 = .ok (.iload_n 2, 1) := by decide +kernel
theorem dX4_letterAt_21 : decode cX4_letterAt 21 = .ok (.invokestatic 50, 3) := by decide +kernel
theorem dX4_letterAt_24 : decode cX4_letterAt 24 = .ok (.ifCond .eq 7, 3) := by decide +kernel
theorem dX4_letterAt_27 : decode cX4_letterAt 27 = .ok (.iload_n 2, 1) := by decide +kernel
theorem dX4_letterAt_28 : decode cX4_letterAt 28 = .ok (.goto 4, 3) := by decide +kernel
theorem dX4_letterAt_31 : decode cX4_letterAt 31 = .ok (.iconst (-1), 1) := by decide +kernel
theorem dX4_letterAt_32 : decode cX4_letterAt 32 = .ok (.ireturn, 1) := by decide +kernel
theorem dX5_init_0 : decode cX5_init 0 = .ok (.aload_n 0, 1) := by decide +kernel
theorem dX5_init_1 : decode cX5_init 1 = .ok (.invokespecial 3, 3) := by decide +kernel
theorem dX5_init_4 : decode cX5_init 4 = .ok (.aload_n 0, 1) := by decide +kernel
theorem dX5_init_5 : decode cX5_init 5 = .ok (.iconst 0, 1) := by decide +kernel
theorem dX5_init_6 : decode cX5_init 6 = .ok (.putfield 9, 3) := by decide +kernel
theorem dX5_init_9 : decode cX5_init 9 = .ok (.iload_n 1, 1) := by decide +kernel
theorem dX5_init_10 : decode cX5_init 10 = .ok (.iconst 0, 1) := by decide +kernel
theorem dX5_init_11 : decode cX5_init 11 = .ok (.invokestatic 15, 3) := by decide +kernel
theorem dX5_init_14 : decode cX5_init 14 = .ok (.istore_n 2, 1) := by decide +kernel
theorem dX5_init_15 : decode cX5_init 15 = .ok (.aload_n 0, 1) := by decide +kernel
theorem dX5_init_16 : decode cX5_init 16 = .ok (.iload_n 2, 1) := by decide +kernel
theorem dX5_init_17 : decode cX5_init 17 = .ok (.newarray .int, 2) := by decide +kernel
theorem dX5_init_19 : decode cX5_init 19 = .ok (.putfield 21, 3) := by decide +kernel
theorem dX5_init_22 : decode cX5_init 22 = .ok (.aload_n 0, 1) := by decide +kernel
theorem dX5_init_23 : decode cX5_init 23 = .ok (.iload_n 2, 1) := by decide +kernel
theorem dX5_init_24 : decode cX5_init 24 = .ok (.newarray .int, 2) := by decide +kernel
theorem dX5_init_26 : decode cX5_init 26 = .ok (.putfield 25, 3) := by decide +kernel
theorem dX5_init_29 : decode cX5_init 29 = .ok (.aload_n 0, 1) := by decide +kernel
theorem dX5_init_30 : decode cX5_init 30 = .ok (.iload_n 2, 1) := by decide +kernel
theorem dX5_init_31 : decode cX5_init 31 = .ok (.newarray .int, 2) := by decide +kernel
theorem dX5_init_33 : decode cX5_init 33 = .ok (.putfield 28, 3) := by decide +kernel
theorem dX5_init_36 : decode cX5_init 36 = .ok (.aload_n 0, 1) := by decide +kernel
theorem dX5_init_37 : decode cX5_init 37 = .ok (.iload_n 2, 1) := by decide +kernel
theorem dX5_init_38 : decode cX5_init 38 = .ok (.newarray .int, 2) := by decide +kernel
theorem dX5_init_40 : decode cX5_init 40 = .ok (.putfield 31, 3) := by decide +kernel
theorem dX5_init_43 : decode cX5_init 43 = .ok (.return_, 1) := by decide +kernel
theorem dX5_isFull_0 : decode cX5_isFull 0 = .ok (.aload_n 0, 1) := by decide +kernel
theorem dX5_isFull_1 : decode cX5_isFull 1 = .ok (.getfield 9, 3) := by decide +kernel
theorem dX5_isFull_4 : decode cX5_isFull 4 = .ok (.aload_n 0, 1) := by decide +kernel
theorem dX5_isFull_5 : decode cX5_isFull 5 = .ok (.getfield 21, 3) := by decide +kernel
theorem dX5_isFull_8 : decode cX5_isFull 8 = .ok (.arraylength, 1) := by decide +kernel
theorem dX5_isFull_9 : decode cX5_isFull 9 = .ok (.if_icmp .lt 7, 3) := by decide +kernel
theorem dX5_isFull_12 : decode cX5_isFull 12 = .ok (.iconst 1, 1) := by decide +kernel
theorem dX5_isFull_13 : decode cX5_isFull 13 = .ok (.goto 4, 3) := by decide +kernel
theorem dX5_isFull_16 : decode cX5_isFull 16 = .ok (.iconst 0, 1) := by decide +kernel
theorem dX5_isFull_17 : decode cX5_isFull 17 = .ok (.ireturn, 1) := by decide +kernel
theorem dX5_has_0 : decode cX5_has 0 = .ok (.iload_n 1, 1) := by decide +kernel
theorem dX5_has_1 : decode cX5_has 1 = .ok (.ifCond .lt 15, 3) := by decide +kernel
theorem dX5_has_4 : decode cX5_has 4 = .ok (.iload_n 1, 1) := by decide +kernel
theorem dX5_has_5 : decode cX5_has 5 = .ok (.aload_n 0, 1) := by decide +kernel
theorem dX5_has_6 : decode cX5_has 6 = .ok (.getfield 9, 3) := by decide +kernel
theorem dX5_has_9 : decode cX5_has 9 = .ok (.if_icmp .ge 7, 3) := by decide +kernel
theorem dX5_has_12 : decode cX5_has 12 = .ok (.iconst 1, 1) := by decide +kernel
theorem dX5_has_13 : decode cX5_has 13 = .ok (.goto 4, 3) := by decide +kernel
theorem dX5_has_16 : decode cX5_has 16 = .ok (.iconst 0, 1) := by decide +kernel
theorem dX5_has_17 : decode cX5_has 17 = .ok (.ireturn, 1) := by decide +kernel
theorem dX5_add_0 : decode cX5_add 0 = .ok (.aload_n 0, 1) := by decide +kernel
theorem dX5_add_1 : decode cX5_add 1 = .ok (.invokevirtual 34, 3) := by decide +kernel
theorem dX5_add_4 : decode cX5_add 4 = .ok (.ifCond .eq 5, 3) := by decide +kernel
theorem dX5_add_7 : decode cX5_add 7 = .ok (.iconst (-1), 1) := by decide +kernel
theorem dX5_add_8 : decode cX5_add 8 = .ok (.ireturn, 1) := by decide +kernel
theorem dX5_add_9 : decode cX5_add 9 = .ok (.aload_n 0, 1) := by decide +kernel
theorem dX5_add_10 : decode cX5_add 10 = .ok (.getfield 21, 3) := by decide +kernel
theorem dX5_add_13 : decode cX5_add 13 = .ok (.aload_n 0, 1) := by decide +kernel
theorem dX5_add_14 : decode cX5_add 14 = .ok (.getfield 9, 3) := by decide +kernel
theorem dX5_add_17 : decode cX5_add 17 = .ok (.aload_n 1, 1) := by decide +kernel
theorem dX5_add_18 : decode cX5_add 18 = .ok (.getfield 38, 3) := by decide +kernel
theorem dX5_add_21 : decode cX5_add 21 = .ok (.iastore, 1) := by decide +kernel
theorem dX5_add_22 : decode cX5_add 22 = .ok (.aload_n 0, 1) := by decide +kernel
theorem dX5_add_23 : decode cX5_add 23 = .ok (.getfield 25, 3) := by decide +kernel
theorem dX5_add_26 : decode cX5_add 26 = .ok (.aload_n 0, 1) := by decide +kernel
theorem dX5_add_27 : decode cX5_add 27 = .ok (.getfield 9, 3) := by decide +kernel
theorem dX5_add_30 : decode cX5_add 30 = .ok (.aload_n 1, 1) := by decide +kernel
theorem dX5_add_31 : decode cX5_add 31 = .ok (.getfield 43, 3) := by decide +kernel
theorem dX5_add_34 : decode cX5_add 34 = .ok (.iastore, 1) := by decide +kernel
theorem dX5_add_35 : decode cX5_add 35 = .ok (.aload_n 0, 1) := by decide +kernel
theorem dX5_add_36 : decode cX5_add 36 = .ok (.getfield 28, 3) := by decide +kernel
theorem dX5_add_39 : decode cX5_add 39 = .ok (.aload_n 0, 1) := by decide +kernel
theorem dX5_add_40 : decode cX5_add 40 = .ok (.getfield 9, 3) := by decide +kernel
theorem dX5_add_43 : decode cX5_add 43 = .ok (.aload_n 1, 1) := by decide +kernel
theorem dX5_add_44 : decode cX5_add 44 = .ok (.getfield 46, 3) := by decide +kernel
theorem dX5_add_47 : decode cX5_add 47 = .ok (.iastore, 1) := by decide +kernel
theorem dX5_add_48 : decode cX5_add 48 = .ok (.aload_n 0, 1) := by decide +kernel
theorem dX5_add_49 : decode cX5_add 49 = .ok (.getfield 31, 3) := by decide +kernel
theorem dX5_add_52 : decode cX5_add 52 = .ok (.aload_n 0, 1) := by decide +kernel
theorem dX5_add_53 : decode cX5_add 53 = .ok (.getfield 9, 3) := by decide +kernel
theorem dX5_add_56 : decode cX5_add 56 = .ok (.aload_n 1, 1) := by decide +kernel
theorem dX5_add_57 : decode cX5_add 57 = .ok (.getfield 48, 3) := by decide +kernel
theorem dX5_add_60 : decode cX5_add 60 = .ok (.iastore, 1) := by decide +kernel
theorem dX5_add_61 : decode cX5_add 61 = .ok (.aload_n 0, 1) := by decide +kernel
theorem dX5_add_62 : decode cX5_add 62 = .ok (.dup, 1) := by decide +kernel
theorem dX5_add_63 : decode cX5_add 63 = .ok (.getfield 9, 3) := by decide +kernel
theorem dX5_add_66 : decode cX5_add 66 = .ok (.iconst 1, 1) := by decide +kernel
theorem dX5_add_67 : decode cX5_add 67 = .ok (.iadd, 1) := by decide +kernel
theorem dX5_add_68 : decode cX5_add 68 = .ok (.putfield 9, 3) := by decide +kernel
theorem dX5_add_71 : decode cX5_add 71 = .ok (.aload_n 0, 1) := by decide +kernel
theorem dX5_add_72 : decode cX5_add 72 = .ok (.getfield 9, 3) := by decide +kernel
theorem dX5_add_75 : decode cX5_add 75 = .ok (.iconst 1, 1) := by decide +kernel
theorem dX5_add_76 : decode cX5_add 76 = .ok (.isub, 1) := by decide +kernel
theorem dX5_add_77 : decode cX5_add 77 = .ok (.ireturn, 1) := by decide +kernel
theorem dX5_replace_0 : decode cX5_replace 0 = .ok (.aload_n 0, 1) := by decide +kernel
theorem dX5_replace_1 : decode cX5_replace 1 = .ok (.iload_n 1, 1) := by decide +kernel
theorem dX5_replace_2 : decode cX5_replace 2 = .ok (.invokevirtual 51, 3) := by decide +kernel
theorem dX5_replace_5 : decode cX5_replace 5 = .ok (.ifCond .eq 59, 3) := by decide +kernel
theorem dX5_replace_8 : decode cX5_replace 8 = .ok (.aload_n 2, 1) := by decide +kernel
theorem dX5_replace_9 : decode cX5_replace 9 = .ok (.iload_n 3, 1) := by decide +kernel
theorem dX5_replace_10 : decode cX5_replace 10 = .ok (.invokevirtual 51, 3) := by decide +kernel
theorem dX5_replace_13 : decode cX5_replace 13 = .ok (.ifCond .eq 51, 3) := by decide +kernel
theorem dX5_replace_16 : decode cX5_replace 16 = .ok (.aload_n 0, 1) := by decide +kernel
theorem dX5_replace_17 : decode cX5_replace 17 = .ok (.getfield 21, 3) := by decide +kernel
theorem dX5_replace_20 : decode cX5_replace 20 = .ok (.iload_n 1, 1) := by decide +kernel
theorem dX5_replace_21 : decode cX5_replace 21 = .ok (.aload_n 2, 1) := by decide +kernel
theorem dX5_replace_22 : decode cX5_replace 22 = .ok (.getfield 21, 3) := by decide +kernel
theorem dX5_replace_25 : decode cX5_replace 25 = .ok (.iload_n 3, 1) := by decide +kernel
theorem dX5_replace_26 : decode cX5_replace 26 = .ok (.iaload, 1) := by decide +kernel
theorem dX5_replace_27 : decode cX5_replace 27 = .ok (.iastore, 1) := by decide +kernel
theorem dX5_replace_28 : decode cX5_replace 28 = .ok (.aload_n 0, 1) := by decide +kernel
theorem dX5_replace_29 : decode cX5_replace 29 = .ok (.getfield 25, 3) := by decide +kernel
theorem dX5_replace_32 : decode cX5_replace 32 = .ok (.iload_n 1, 1) := by decide +kernel
theorem dX5_replace_33 : decode cX5_replace 33 = .ok (.aload_n 2, 1) := by decide +kernel
theorem dX5_replace_34 : decode cX5_replace 34 = .ok (.getfield 25, 3) := by decide +kernel
theorem dX5_replace_37 : decode cX5_replace 37 = .ok (.iload_n 3, 1) := by decide +kernel
theorem dX5_replace_38 : decode cX5_replace 38 = .ok (.iaload, 1) := by decide +kernel
theorem dX5_replace_39 : decode cX5_replace 39 = .ok (.iastore, 1) := by decide +kernel
theorem dX5_replace_40 : decode cX5_replace 40 = .ok (.aload_n 0, 1) := by decide +kernel
theorem dX5_replace_41 : decode cX5_replace 41 = .ok (.getfield 28, 3) := by decide +kernel
theorem dX5_replace_44 : decode cX5_replace 44 = .ok (.iload_n 1, 1) := by decide +kernel
theorem dX5_replace_45 : decode cX5_replace 45 = .ok (.aload_n 2, 1) := by decide +kernel
theorem dX5_replace_46 : decode cX5_replace 46 = .ok (.getfield 28, 3) := by decide +kernel
theorem dX5_replace_49 : decode cX5_replace 49 = .ok (.iload_n 3, 1) := by decide +kernel
theorem dX5_replace_50 : decode cX5_replace 50 = .ok (.iaload, 1) := by decide +kernel
theorem dX5_replace_51 : decode cX5_replace 51 = .ok (.iastore, 1) := by decide +kernel
theorem dX5_replace_52 : decode cX5_replace 52 = .ok (.aload_n 0, 1) := by decide +kernel
theorem dX5_replace_53 : decode cX5_replace 53 = .ok (.getfield 31, 3) := by decide +kernel
theorem dX5_replace_56 : decode cX5_replace 56 = .ok (.iload_n 1, 1) := by decide +kernel
theorem dX5_replace_57 : decode cX5_replace 57 = .ok (.aload_n 2, 1) := by decide +kernel
theorem dX5_replace_58 : decode cX5_replace 58 = .ok (.getfield 31, 3) := by decide +kernel
theorem dX5_replace_61 : decode cX5_replace 61 = .ok (.iload_n 3, 1) := by decide +kernel
theorem dX5_replace_62 : decode cX5_replace 62 = .ok (.iaload, 1) := by decide +kernel
theorem dX5_replace_63 : decode cX5_replace 63 = .ok (.iastore, 1) := by decide +kernel
theorem dX5_replace_64 : decode cX5_replace 64 = .ok (.return_, 1) := by decide +kernel
theorem dX5_copyFrom_0 : decode cX5_copyFrom 0 = .ok (.aload_n 0, 1) := by decide +kernel
theorem dX5_copyFrom_1 : decode cX5_copyFrom 1 = .ok (.aload_n 1, 1) := by decide +kernel
theorem dX5_copyFrom_2 : decode cX5_copyFrom 2 = .ok (.getfield 9, 3) := by decide +kernel
theorem dX5_copyFrom_5 : decode cX5_copyFrom 5 = .ok (.aload_n 0, 1) := by decide +kernel
theorem dX5_copyFrom_6 : decode cX5_copyFrom 6 = .ok (.getfield 21, 3) := by decide +kernel
theorem dX5_copyFrom_9 : decode cX5_copyFrom 9 = .ok (.arraylength, 1) := by decide +kernel
theorem dX5_copyFrom_10 : decode cX5_copyFrom 10 = .ok (.invokestatic 55, 3) := by decide +kernel
theorem dX5_copyFrom_13 : decode cX5_copyFrom 13 = .ok (.putfield 9, 3) := by decide +kernel
theorem dX5_copyFrom_16 : decode cX5_copyFrom 16 = .ok (.iconst 0, 1) := by decide +kernel
theorem dX5_copyFrom_17 : decode cX5_copyFrom 17 = .ok (.istore_n 2, 1) := by decide +kernel
theorem dX5_copyFrom_18 : decode cX5_copyFrom 18 = .ok (.iload_n 2, 1) := by decide +kernel
theorem dX5_copyFrom_19 : decode cX5_copyFrom 19 = .ok (.aload_n 0, 1) := by decide +kernel
theorem dX5_copyFrom_20 : decode cX5_copyFrom 20 = .ok (.getfield 9, 3) := by decide +kernel
theorem dX5_copyFrom_23 : decode cX5_copyFrom 23 = .ok (.if_icmp .ge 16, 3) := by decide +kernel
theorem dX5_copyFrom_26 : decode cX5_copyFrom 26 = .ok (.aload_n 0, 1) := by decide +kernel
theorem dX5_copyFrom_27 : decode cX5_copyFrom 27 = .ok (.iload_n 2, 1) := by decide +kernel
theorem dX5_copyFrom_28 : decode cX5_copyFrom 28 = .ok (.aload_n 1, 1) := by decide +kernel
theorem dX5_copyFrom_29 : decode cX5_copyFrom 29 = .ok (.iload_n 2, 1) := by decide +kernel
theorem dX5_copyFrom_30 : decode cX5_copyFrom 30 = .ok (.invokevirtual 58, 3) := by decide +kernel
theorem dX5_copyFrom_33 : decode cX5_copyFrom 33 = .ok (.iinc 2 1, 3) := by decide +kernel
theorem dX5_copyFrom_36 : decode cX5_copyFrom 36 = .ok (.goto (-18), 3) := by decide +kernel
theorem dX5_copyFrom_39 : decode cX5_copyFrom 39 = .ok (.return_, 1) := by decide +kernel
theorem dX5_howManyOf_0 : decode cX5_howManyOf 0 = .ok (.iconst 0, 1) := by decide +kernel
theorem dX5_howManyOf_1 : decode cX5_howManyOf 1 = .ok (.istore_n 2, 1) := by decide +kernel
theorem dX5_howManyOf_2 : decode cX5_howManyOf 2 = .ok (.iconst 0, 1) := by decide +kernel
theorem dX5_howManyOf_3 : decode cX5_howManyOf 3 = .ok (.istore_n 3, 1) := by decide +kernel
theorem dX5_howManyOf_4 : decode cX5_howManyOf 4 = .ok (.iload_n 3, 1) := by decide +kernel
theorem dX5_howManyOf_5 : decode cX5_howManyOf 5 = .ok (.aload_n 0, 1) := by decide +kernel
theorem dX5_howManyOf_6 : decode cX5_howManyOf 6 = .ok (.getfield 9, 3) := by decide +kernel
theorem dX5_howManyOf_9 : decode cX5_howManyOf 9 = .ok (.if_icmp .ge 22, 3) := by decide +kernel
theorem dX5_howManyOf_12 : decode cX5_howManyOf 12 = .ok (.aload_n 0, 1) := by decide +kernel
theorem dX5_howManyOf_13 : decode cX5_howManyOf 13 = .ok (.getfield 21, 3) := by decide +kernel
theorem dX5_howManyOf_16 : decode cX5_howManyOf 16 = .ok (.iload_n 3, 1) := by decide +kernel
theorem dX5_howManyOf_17 : decode cX5_howManyOf 17 = .ok (.iaload, 1) := by decide +kernel
theorem dX5_howManyOf_18 : decode cX5_howManyOf 18 = .ok (.iload_n 1, 1) := by decide +kernel
theorem dX5_howManyOf_19 : decode cX5_howManyOf 19 = .ok (.if_icmp .ne 6, 3) := by decide +kernel
theorem dX5_howManyOf_22 : decode cX5_howManyOf 22 = .ok (.iinc 2 1, 3) := by decide +kernel
theorem dX5_howManyOf_25 : decode cX5_howManyOf 25 = .ok (.iinc 3 1, 3) := by decide +kernel
theorem dX5_howManyOf_28 : decode cX5_howManyOf 28 = .ok (.goto (-24), 3) := by decide +kernel
theorem dX5_howManyOf_31 : decode cX5_howManyOf 31 = .ok (.iload_n 2, 1) := by decide +kernel
theorem dX5_howManyOf_32 : decode cX5_howManyOf 32 = .ok (.ireturn, 1) := by decide +kernel
theorem dX5_teaches_0 : decode cX5_teaches 0 = .ok (.aload_n 0, 1) := by decide +kernel
theorem dX5_teaches_1 : decode cX5_teaches 1 = .ok (.getfield 28, 3) := by decide +kernel
theorem dX5_teaches_4 : decode cX5_teaches 4 = .ok (.iload_n 1, 1) := by decide +kernel
theorem dX5_teaches_5 : decode cX5_teaches 5 = .ok (.iaload, 1) := by decide +kernel
theorem dX5_teaches_6 : decode cX5_teaches 6 = .ok (.istore_n 3, 1) := by decide +kernel
theorem dX5_teaches_7 : decode cX5_teaches 7 = .ok (.iload_n 3, 1) := by decide +kernel
theorem dX5_teaches_8 : decode cX5_teaches 8 = .ok (.iload_n 2, 1) := by decide +kernel
theorem dX5_teaches_9 : decode cX5_teaches 9 = .ok (.iand, 1) := by decide +kernel
theorem dX5_teaches_10 : decode cX5_teaches 10 = .ok (.istore 4, 2) := by decide +kernel
theorem dX5_teaches_12 : decode cX5_teaches 12 = .ok (.aload_n 0, 1) := by decide +kernel
theorem dX5_teaches_13 : decode cX5_teaches 13 = .ok (.getfield 25, 3) := by decide +kernel
theorem dX5_teaches_16 : decode cX5_teaches 16 = .ok (.iload_n 1, 1) := by decide +kernel
theorem dX5_teaches_17 : decode cX5_teaches 17 = .ok (.iaload, 1) := by decide +kernel
theorem dX5_teaches_18 : decode cX5_teaches 18 = .ok (.tableswitch 116 0 4 #[34, 46, 66, 103, 114], 34) := by decide +kernel
theorem dX5_teaches_52 : decode cX5_teaches 52 = .ok (.iload 4, 2) := by decide +kernel
theorem dX5_teaches_54 : decode cX5_teaches 54 = .ok (.iload_n 3, 1) := by decide +kernel
theorem dX5_teaches_55 : decode cX5_teaches 55 = .ok (.if_icmp .ne 7, 3) := by decide +kernel
theorem dX5_teaches_58 : decode cX5_teaches 58 = .ok (.iconst 1, 1) := by decide +kernel
theorem dX5_teaches_59 : decode cX5_teaches 59 = .ok (.goto 4, 3) := by decide +kernel
theorem dX5_teaches_62 : decode cX5_teaches 62 = .ok (.iconst 0, 1) := by decide +kernel
theorem dX5_teaches_63 : decode cX5_teaches 63 = .ok (.ireturn, 1) := by decide +kernel
theorem dX5_teaches_64 : decode cX5_teaches 64 = .ok (.iconst 2, 1) := by decide +kernel
theorem dX5_teaches_65 : decode cX5_teaches 65 = .ok (.iload 4, 2) := by decide +kernel
theorem dX5_teaches_67 : decode cX5_teaches 67 = .ok (.invokestatic 62, 3) := by decide +kernel
theorem dX5_teaches_70 : decode cX5_teaches 70 = .ok (.imul, 1) := by decide +kernel
theorem dX5_teaches_71 : decode cX5_teaches 71 = .ok (.iload_n 3, 1) := by decide +kernel
theorem dX5_teaches_72 : decode cX5_teaches 72 = .ok (.invokestatic 62, 3) := by decide +kernel
theorem dX5_teaches_75 : decode cX5_teaches 75 = .ok (.if_icmp .le 7, 3) := by decide +kernel
theorem dX5_teaches_78 : decode cX5_teaches 78 = .ok (.iconst 1, 1) := by decide +kernel
theorem dX5_teaches_79 : decode cX5_teaches 79 = .ok (.goto 4, 3) := by decide +kernel
theorem dX5_teaches_82 : decode cX5_teaches 82 = .ok (.iconst 0, 1) := by decide +kernel
theorem dX5_teaches_83 : decode cX5_teaches 83 = .ok (.ireturn, 1) := by decide +kernel
theorem dX5_teaches_84 : decode cX5_teaches 84 = .ok (.iconst 1, 1) := by decide +kernel
theorem dX5_teaches_85 : decode cX5_teaches 85 = .ok (.aload_n 0, 1) := by decide +kernel
theorem dX5_teaches_86 : decode cX5_teaches 86 = .ok (.getfield 31, 3) := by decide +kernel
theorem dX5_teaches_89 : decode cX5_teaches 89 = .ok (.iload_n 1, 1) := by decide +kernel
theorem dX5_teaches_90 : decode cX5_teaches 90 = .ok (.iaload, 1) := by decide +kernel
theorem dX5_teaches_91 : decode cX5_teaches 91 = .ok (.ishl, 1) := by decide +kernel
theorem dX5_teaches_92 : decode cX5_teaches 92 = .ok (.istore 5, 2) := by decide +kernel
theorem dX5_teaches_94 : decode cX5_teaches 94 = .ok (.iload 4, 2) := by decide +kernel
theorem dX5_teaches_96 : decode cX5_teaches 96 = .ok (.iload 5, 2) := by decide +kernel
theorem dX5_teaches_98 : decode cX5_teaches 98 = .ok (.iand, 1) := by decide +kernel
theorem dX5_teaches_99 : decode cX5_teaches 99 = .ok (.ifCond .eq 20, 3) := by decide +kernel
theorem dX5_teaches_102 : decode cX5_teaches 102 = .ok (.iload 4, 2) := by decide +kernel
theorem dX5_teaches_104 : decode cX5_teaches 104 = .ok (.iload 5, 2) := by decide +kernel
theorem dX5_teaches_106 : decode cX5_teaches 106 = .ok (.if_icmp .ne 9, 3) := by decide +kernel
theorem dX5_teaches_109 : decode cX5_teaches 109 = .ok (.iload_n 3, 1) := by decide +kernel
theorem dX5_teaches_110 : decode cX5_teaches 110 = .ok (.iload 5, 2) := by decide +kernel
theorem dX5_teaches_112 : decode cX5_teaches 112 = .ok (.if_icmp .ne 7, 3) := by decide +kernel
theorem dX5_teaches_115 : decode cX5_teaches 115 = .ok (.iconst 1, 1) := by decide +kernel
theorem dX5_teaches_116 : decode cX5_teaches 116 = .ok (.goto 4, 3) := by decide +kernel
theorem dX5_teaches_119 : decode cX5_teaches 119 = .ok (.iconst 0, 1) := by decide +kernel
theorem dX5_teaches_120 : decode cX5_teaches 120 = .ok (.ireturn, 1) := by decide +kernel
theorem dX5_teaches_121 : decode cX5_teaches 121 = .ok (.iload 4, 2) := by decide +kernel
theorem dX5_teaches_123 : decode cX5_teaches 123 = .ok (.ifCond .eq 7, 3) := by decide +kernel
theorem dX5_teaches_126 : decode cX5_teaches 126 = .ok (.iconst 1, 1) := by decide +kernel
theorem dX5_teaches_127 : decode cX5_teaches 127 = .ok (.goto 4, 3) := by decide +kernel
theorem dX5_teaches_130 : decode cX5_teaches 130 = .ok (.iconst 0, 1) := by decide +kernel
theorem dX5_teaches_131 : decode cX5_teaches 131 = .ok (.ireturn, 1) := by decide +kernel
theorem dX5_teaches_132 : decode cX5_teaches 132 = .ok (.iconst 1, 1) := by decide +kernel
theorem dX5_teaches_133 : decode cX5_teaches 133 = .ok (.ireturn, 1) := by decide +kernel
theorem dX5_teaches_134 : decode cX5_teaches 134 = .ok (.iconst 0, 1) := by decide +kernel
theorem dX5_teaches_135 : decode cX5_teaches 135 = .ok (.ireturn, 1) := by decide +kernel
theorem dX5_neededBy_0 : decode cX5_neededBy 0 = .ok (.iconst 0, 1) := by decide +kernel
theorem dX5_neededBy_1 : decode cX5_neededBy 1 = .ok (.istore_n 2, 1) := by decide +kernel
theorem dX5_neededBy_2 : decode cX5_neededBy 2 = .ok (.iconst 0, 1) := by decide +kernel
theorem dX5_neededBy_3 : decode cX5_neededBy 3 = .ok (.istore_n 3, 1) := by decide +kernel
theorem dX5_neededBy_4 : decode cX5_neededBy 4 = .ok (.iload_n 3, 1) := by decide +kernel
theorem dX5_neededBy_5 : decode cX5_neededBy 5 = .ok (.aload_n 0, 1) := by decide +kernel
theorem dX5_neededBy_6 : decode cX5_neededBy 6 = .ok (.getfield 9, 3) := by decide +kernel
theorem dX5_neededBy_9 : decode cX5_neededBy 9 = .ok (.if_icmp .ge 28, 3) := by decide +kernel
theorem dX5_neededBy_12 : decode cX5_neededBy 12 = .ok (.aload_n 0, 1) := by decide +kernel
theorem dX5_neededBy_13 : decode cX5_neededBy 13 = .ok (.getfield 21, 3) := by decide +kernel
theorem dX5_neededBy_16 : decode cX5_neededBy 16 = .ok (.iload_n 3, 1) := by decide +kernel
theorem dX5_neededBy_17 : decode cX5_neededBy 17 = .ok (.iaload, 1) := by decide +kernel
theorem dX5_neededBy_18 : decode cX5_neededBy 18 = .ok (.iload_n 1, 1) := by decide +kernel
theorem dX5_neededBy_19 : decode cX5_neededBy 19 = .ok (.if_icmp .ne 12, 3) := by decide +kernel
theorem dX5_neededBy_22 : decode cX5_neededBy 22 = .ok (.iload_n 2, 1) := by decide +kernel
theorem dX5_neededBy_23 : decode cX5_neededBy 23 = .ok (.aload_n 0, 1) := by decide +kernel
theorem dX5_neededBy_24 : decode cX5_neededBy 24 = .ok (.getfield 28, 3) := by decide +kernel
theorem dX5_neededBy_27 : decode cX5_neededBy 27 = .ok (.iload_n 3, 1) := by decide +kernel
theorem dX5_neededBy_28 : decode cX5_neededBy 28 = .ok (.iaload, 1) := by decide +kernel
theorem dX5_neededBy_29 : decode cX5_neededBy 29 = .ok (.ior, 1) := by decide +kernel
theorem dX5_neededBy_30 : decode cX5_neededBy 30 = .ok (.istore_n 2, 1) := by decide +kernel
theorem dX5_neededBy_31 : decode cX5_neededBy 31 = .ok (.iinc 3 1, 3) := by decide +kernel
theorem dX5_neededBy_34 : decode cX5_neededBy 34 = .ok (.goto (-30), 3) := by decide +kernel
theorem dX5_neededBy_37 : decode cX5_neededBy 37 = .ok (.iload_n 2, 1) := by decide +kernel
theorem dX5_neededBy_38 : decode cX5_neededBy 38 = .ok (.ireturn, 1) := by decide +kernel
theorem dX5_neededByAny_0 : decode cX5_neededByAny 0 = .ok (.iconst 0, 1) := by decide +kernel
theorem dX5_neededByAny_1 : decode cX5_neededByAny 1 = .ok (.istore_n 1, 1) := by decide +kernel
theorem dX5_neededByAny_2 : decode cX5_neededByAny 2 = .ok (.iconst 0, 1) := by decide +kernel
theorem dX5_neededByAny_3 : decode cX5_neededByAny 3 = .ok (.istore_n 2, 1) := by decide +kernel
theorem dX5_neededByAny_4 : decode cX5_neededByAny 4 = .ok (.iload_n 2, 1) := by decide +kernel
theorem dX5_neededByAny_5 : decode cX5_neededByAny 5 = .ok (.aload_n 0, 1) := by decide +kernel
theorem dX5_neededByAny_6 : decode cX5_neededByAny 6 = .ok (.getfield 9, 3) := by decide +kernel
theorem dX5_neededByAny_9 : decode cX5_neededByAny 9 = .ok (.if_icmp .ge 18, 3) := by decide +kernel
theorem dX5_neededByAny_12 : decode cX5_neededByAny 12 = .ok (.iload_n 1, 1) := by decide +kernel
theorem dX5_neededByAny_13 : decode cX5_neededByAny 13 = .ok (.aload_n 0, 1) := by decide +kernel
theorem dX5_neededByAny_14 : decode cX5_neededByAny 14 = .ok (.getfield 28, 3) := by decide +kernel
theorem dX5_neededByAny_17 : decode cX5_neededByAny 17 = .ok (.iload_n 2, 1) := by decide +kernel
theorem dX5_neededByAny_18 : decode cX5_neededByAny 18 = .ok (.iaload, 1) := by decide +kernel
theorem dX5_neededByAny_19 : decode cX5_neededByAny 19 = .ok (.ior, 1) := by decide +kernel
theorem dX5_neededByAny_20 : decode cX5_neededByAny 20 = .ok (.istore_n 1, 1) := by decide +kernel
theorem dX5_neededByAny_21 : decode cX5_neededByAny 21 = .ok (.iinc 2 1, 3) := by decide +kernel
theorem dX5_neededByAny_24 : decode cX5_neededByAny 24 = .ok (.goto (-20), 3) := by decide +kernel
theorem dX5_neededByAny_27 : decode cX5_neededByAny 27 = .ok (.iload_n 1, 1) := by decide +kernel
theorem dX5_neededByAny_28 : decode cX5_neededByAny 28 = .ok (.ireturn, 1) := by decide +kernel
theorem dX5_reachedFrom_0 : decode cX5_reachedFrom 0 = .ok (.aload_n 0, 1) := by decide +kernel
theorem dX5_reachedFrom_1 : decode cX5_reachedFrom 1 = .ok (.iload_n 1, 1) := by decide +kernel
theorem dX5_reachedFrom_2 : decode cX5_reachedFrom 2 = .ok (.invokevirtual 68, 3) := by decide +kernel
theorem dX5_reachedFrom_5 : decode cX5_reachedFrom 5 = .ok (.istore_n 2, 1) := by decide +kernel
theorem dX5_reachedFrom_6 : decode cX5_reachedFrom 6 = .ok (.iconst 0, 1) := by decide +kernel
theorem dX5_reachedFrom_7 : decode cX5_reachedFrom 7 = .ok (.istore_n 3, 1) := by decide +kernel
theorem dX5_reachedFrom_8 : decode cX5_reachedFrom 8 = .ok (.iload_n 3, 1) := by decide +kernel
theorem dX5_reachedFrom_9 : decode cX5_reachedFrom 9 = .ok (.bipush 12, 2) := by decide +kernel
theorem dX5_reachedFrom_11 : decode cX5_reachedFrom 11 = .ok (.if_icmp .ge 68, 3) := by decide +kernel
theorem dX5_reachedFrom_14 : decode cX5_reachedFrom 14 = .ok (.iload_n 2, 1) := by decide +kernel
theorem dX5_reachedFrom_15 : decode cX5_reachedFrom 15 = .ok (.istore 4, 2) := by decide +kernel
theorem dX5_reachedFrom_17 : decode cX5_reachedFrom 17 = .ok (.iconst 0, 1) := by decide +kernel
theorem dX5_reachedFrom_18 : decode cX5_reachedFrom 18 = .ok (.istore 5, 2) := by decide +kernel
theorem dX5_reachedFrom_20 : decode cX5_reachedFrom 20 = .ok (.iload 5, 2) := by decide +kernel
theorem dX5_reachedFrom_22 : decode cX5_reachedFrom 22 = .ok (.aload_n 0, 1) := by decide +kernel
theorem dX5_reachedFrom_23 : decode cX5_reachedFrom 23 = .ok (.getfield 9, 3) := by decide +kernel
theorem dX5_reachedFrom_26 : decode cX5_reachedFrom 26 = .ok (.if_icmp .ge 36, 3) := by decide +kernel
theorem dX5_reachedFrom_29 : decode cX5_reachedFrom 29 = .ok (.iload 4, 2) := by decide +kernel
theorem dX5_reachedFrom_31 : decode cX5_reachedFrom 31 = .ok (.aload_n 0, 1) := by decide +kernel
theorem dX5_reachedFrom_32 : decode cX5_reachedFrom 32 = .ok (.getfield 21, 3) := by decide +kernel
theorem dX5_reachedFrom_35 : decode cX5_reachedFrom 35 = .ok (.iload 5, 2) := by decide +kernel
theorem dX5_reachedFrom_37 : decode cX5_reachedFrom 37 = .ok (.iaload, 1) := by decide +kernel
theorem dX5_reachedFrom_38 : decode cX5_reachedFrom 38 = .ok (.invokestatic 71, 3) := by decide +kernel
theorem dX5_reachedFrom_41 : decode cX5_reachedFrom 41 = .ok (.ifCond .eq 15, 3) := by decide +kernel
theorem dX5_reachedFrom_44 : decode cX5_reachedFrom 44 = .ok (.iload 4, 2) := by decide +kernel
theorem dX5_reachedFrom_46 : decode cX5_reachedFrom 46 = .ok (.aload_n 0, 1) := by decide +kernel
theorem dX5_reachedFrom_47 : decode cX5_reachedFrom 47 = .ok (.getfield 28, 3) := by decide +kernel
theorem dX5_reachedFrom_50 : decode cX5_reachedFrom 50 = .ok (.iload 5, 2) := by decide +kernel
theorem dX5_reachedFrom_52 : decode cX5_reachedFrom 52 = .ok (.iaload, 1) := by decide +kernel
theorem dX5_reachedFrom_53 : decode cX5_reachedFrom 53 = .ok (.ior, 1) := by decide +kernel
theorem dX5_reachedFrom_54 : decode cX5_reachedFrom 54 = .ok (.istore 4, 2) := by decide +kernel
theorem dX5_reachedFrom_56 : decode cX5_reachedFrom 56 = .ok (.iinc 5 1, 3) := by decide +kernel
theorem dX5_reachedFrom_59 : decode cX5_reachedFrom 59 = .ok (.goto (-39), 3) := by decide +kernel
theorem dX5_reachedFrom_62 : decode cX5_reachedFrom 62 = .ok (.iload 4, 2) := by decide +kernel
theorem dX5_reachedFrom_64 : decode cX5_reachedFrom 64 = .ok (.iload_n 2, 1) := by decide +kernel
theorem dX5_reachedFrom_65 : decode cX5_reachedFrom 65 = .ok (.if_icmp .ne 5, 3) := by decide +kernel
theorem dX5_reachedFrom_68 : decode cX5_reachedFrom 68 = .ok (.iload_n 2, 1) := by decide +kernel
theorem dX5_reachedFrom_69 : decode cX5_reachedFrom 69 = .ok (.ireturn, 1) := by decide +kernel
theorem dX5_reachedFrom_70 : decode cX5_reachedFrom 70 = .ok (.iload 4, 2) := by decide +kernel
theorem dX5_reachedFrom_72 : decode cX5_reachedFrom 72 = .ok (.istore_n 2, 1) := by decide +kernel
theorem dX5_reachedFrom_73 : decode cX5_reachedFrom 73 = .ok (.iinc 3 1, 3) := by decide +kernel
theorem dX5_reachedFrom_76 : decode cX5_reachedFrom 76 = .ok (.goto (-68), 3) := by decide +kernel
theorem dX5_reachedFrom_79 : decode cX5_reachedFrom 79 = .ok (.iload_n 2, 1) := by decide +kernel
theorem dX5_reachedFrom_80 : decode cX5_reachedFrom 80 = .ok (.ireturn, 1) := by decide +kernel
theorem dX5_knotOf_0 : decode cX5_knotOf 0 = .ok (.iconst 1, 1) := by decide +kernel
theorem dX5_knotOf_1 : decode cX5_knotOf 1 = .ok (.iload_n 1, 1) := by decide +kernel
theorem dX5_knotOf_2 : decode cX5_knotOf 2 = .ok (.ishl, 1) := by decide +kernel
theorem dX5_knotOf_3 : decode cX5_knotOf 3 = .ok (.istore_n 2, 1) := by decide +kernel
theorem dX5_knotOf_4 : decode cX5_knotOf 4 = .ok (.aload_n 0, 1) := by decide +kernel
theorem dX5_knotOf_5 : decode cX5_knotOf 5 = .ok (.iload_n 1, 1) := by decide +kernel
theorem dX5_knotOf_6 : decode cX5_knotOf 6 = .ok (.invokevirtual 75, 3) := by decide +kernel
theorem dX5_knotOf_9 : decode cX5_knotOf 9 = .ok (.istore_n 3, 1) := by decide +kernel
theorem dX5_knotOf_10 : decode cX5_knotOf 10 = .ok (.iconst 0, 1) := by decide +kernel
theorem dX5_knotOf_11 : decode cX5_knotOf 11 = .ok (.istore 4, 2) := by decide +kernel
theorem dX5_knotOf_13 : decode cX5_knotOf 13 = .ok (.iload 4, 2) := by decide +kernel
theorem dX5_knotOf_15 : decode cX5_knotOf 15 = .ok (.bipush 12, 2) := by decide +kernel
theorem dX5_knotOf_17 : decode cX5_knotOf 17 = .ok (.if_icmp .ge 38, 3) := by decide +kernel
theorem dX5_knotOf_20 : decode cX5_knotOf 20 = .ok (.iload_n 3, 1) := by decide +kernel
theorem dX5_knotOf_21 : decode cX5_knotOf 21 = .ok (.iload 4, 2) := by decide +kernel
theorem dX5_knotOf_23 : decode cX5_knotOf 23 = .ok (.invokestatic 71, 3) := by decide +kernel
theorem dX5_knotOf_26 : decode cX5_knotOf 26 = .ok (.ifCond .eq 23, 3) := by decide +kernel
theorem dX5_knotOf_29 : decode cX5_knotOf 29 = .ok (.aload_n 0, 1) := by decide +kernel
theorem dX5_knotOf_30 : decode cX5_knotOf 30 = .ok (.iload 4, 2) := by decide +kernel
theorem dX5_knotOf_32 : decode cX5_knotOf 32 = .ok (.invokevirtual 75, 3) := by decide +kernel
theorem dX5_knotOf_35 : decode cX5_knotOf 35 = .ok (.iload_n 1, 1) := by decide +kernel
theorem dX5_knotOf_36 : decode cX5_knotOf 36 = .ok (.invokestatic 71, 3) := by decide +kernel
theorem dX5_knotOf_39 : decode cX5_knotOf 39 = .ok (.ifCond .eq 10, 3) := by decide +kernel
theorem dX5_knotOf_42 : decode cX5_knotOf 42 = .ok (.iload_n 2, 1) := by decide +kernel
theorem dX5_knotOf_43 : decode cX5_knotOf 43 = .ok (.iconst 1, 1) := by decide +kernel
theorem dX5_knotOf_44 : decode cX5_knotOf 44 = .ok (.iload 4, 2) := by decide +kernel
theorem dX5_knotOf_46 : decode cX5_knotOf 46 = .ok (.ishl, 1) := by decide +kernel
theorem dX5_knotOf_47 : decode cX5_knotOf 47 = .ok (.ior, 1) := by decide +kernel
theorem dX5_knotOf_48 : decode cX5_knotOf 48 = .ok (.istore_n 2, 1) := by decide +kernel
theorem dX5_knotOf_49 : decode cX5_knotOf 49 = .ok (.iinc 4 1, 3) := by decide +kernel
theorem dX5_knotOf_52 : decode cX5_knotOf 52 = .ok (.goto (-39), 3) := by decide +kernel
theorem dX5_knotOf_55 : decode cX5_knotOf 55 = .ok (.iload_n 2, 1) := by decide +kernel
theorem dX5_knotOf_56 : decode cX5_knotOf 56 = .ok (.ireturn, 1) := by decide +kernel
theorem dX5_howManyKnots_0 : decode cX5_howManyKnots 0 = .ok (.iconst 0, 1) := by decide +kernel
theorem dX5_howManyKnots_1 : decode cX5_howManyKnots 1 = .ok (.istore_n 1, 1) := by decide +kernel
theorem dX5_howManyKnots_2 : decode cX5_howManyKnots 2 = .ok (.iconst 0, 1) := by decide +kernel
theorem dX5_howManyKnots_3 : decode cX5_howManyKnots 3 = .ok (.istore_n 2, 1) := by decide +kernel
theorem dX5_howManyKnots_4 : decode cX5_howManyKnots 4 = .ok (.iload_n 2, 1) := by decide +kernel
theorem dX5_howManyKnots_5 : decode cX5_howManyKnots 5 = .ok (.bipush 12, 2) := by decide +kernel
theorem dX5_howManyKnots_7 : decode cX5_howManyKnots 7 = .ok (.if_icmp .ge 34, 3) := by decide +kernel
theorem dX5_howManyKnots_10 : decode cX5_howManyKnots 10 = .ok (.aload_n 0, 1) := by decide +kernel
theorem dX5_howManyKnots_11 : decode cX5_howManyKnots 11 = .ok (.iload_n 2, 1) := by decide +kernel
theorem dX5_howManyKnots_12 : decode cX5_howManyKnots 12 = .ok (.invokevirtual 78, 3) := by decide +kernel
theorem dX5_howManyKnots_15 : decode cX5_howManyKnots 15 = .ok (.istore_n 3, 1) := by decide +kernel
theorem dX5_howManyKnots_16 : decode cX5_howManyKnots 16 = .ok (.iload_n 3, 1) := by decide +kernel
theorem dX5_howManyKnots_17 : decode cX5_howManyKnots 17 = .ok (.invokestatic 81, 3) := by decide +kernel
theorem dX5_howManyKnots_20 : decode cX5_howManyKnots 20 = .ok (.iload_n 2, 1) := by decide +kernel
theorem dX5_howManyKnots_21 : decode cX5_howManyKnots 21 = .ok (.if_icmp .ne 14, 3) := by decide +kernel
theorem dX5_howManyKnots_24 : decode cX5_howManyKnots 24 = .ok (.iload_n 3, 1) := by decide +kernel
theorem dX5_howManyKnots_25 : decode cX5_howManyKnots 25 = .ok (.invokestatic 62, 3) := by decide +kernel
theorem dX5_howManyKnots_28 : decode cX5_howManyKnots 28 = .ok (.iconst 1, 1) := by decide +kernel
theorem dX5_howManyKnots_29 : decode cX5_howManyKnots 29 = .ok (.if_icmp .le 6, 3) := by decide +kernel
theorem dX5_howManyKnots_32 : decode cX5_howManyKnots 32 = .ok (.iinc 1 1, 3) := by decide +kernel
theorem dX5_howManyKnots_35 : decode cX5_howManyKnots 35 = .ok (.iinc 2 1, 3) := by decide +kernel
theorem dX5_howManyKnots_38 : decode cX5_howManyKnots 38 = .ok (.goto (-34), 3) := by decide +kernel
theorem dX5_howManyKnots_41 : decode cX5_howManyKnots 41 = .ok (.iload_n 1, 1) := by decide +kernel
theorem dX5_howManyKnots_42 : decode cX5_howManyKnots 42 = .ok (.ireturn, 1) := by decide +kernel
theorem dX5_shownWords_0 : decode cX5_shownWords 0 = .ok (.iconst 0, 1) := by decide +kernel
theorem dX5_shownWords_1 : decode cX5_shownWords 1 = .ok (.istore_n 1, 1) := by decide +kernel
theorem dX5_shownWords_2 : decode cX5_shownWords 2 = .ok (.iconst 0, 1) := by decide +kernel
theorem dX5_shownWords_3 : decode cX5_shownWords 3 = .ok (.istore_n 2, 1) := by decide +kernel
theorem dX5_shownWords_4 : decode cX5_shownWords 4 = .ok (.iload_n 2, 1) := by decide +kernel
theorem dX5_shownWords_5 : decode cX5_shownWords 5 = .ok (.aload_n 0, 1) := by decide +kernel
theorem dX5_shownWords_6 : decode cX5_shownWords 6 = .ok (.getfield 9, 3) := by decide +kernel
theorem dX5_shownWords_9 : decode cX5_shownWords 9 = .ok (.if_icmp .ge 30, 3) := by decide +kernel
theorem dX5_shownWords_12 : decode cX5_shownWords 12 = .ok (.aload_n 0, 1) := by decide +kernel
theorem dX5_shownWords_13 : decode cX5_shownWords 13 = .ok (.getfield 25, 3) := by decide +kernel
theorem dX5_shownWords_16 : decode cX5_shownWords 16 = .ok (.iload_n 2, 1) := by decide +kernel
theorem dX5_shownWords_17 : decode cX5_shownWords 17 = .ok (.iaload, 1) := by decide +kernel
theorem dX5_shownWords_18 : decode cX5_shownWords 18 = .ok (.iconst 4, 1) := by decide +kernel
theorem dX5_shownWords_19 : decode cX5_shownWords 19 = .ok (.if_icmp .ne 14, 3) := by decide +kernel
theorem dX5_shownWords_22 : decode cX5_shownWords 22 = .ok (.iload_n 1, 1) := by decide +kernel
theorem dX5_shownWords_23 : decode cX5_shownWords 23 = .ok (.iconst 1, 1) := by decide +kernel
theorem dX5_shownWords_24 : decode cX5_shownWords 24 = .ok (.aload_n 0, 1) := by decide +kernel
theorem dX5_shownWords_25 : decode cX5_shownWords 25 = .ok (.getfield 21, 3) := by decide +kernel
theorem dX5_shownWords_28 : decode cX5_shownWords 28 = .ok (.iload_n 2, 1) := by decide +kernel
theorem dX5_shownWords_29 : decode cX5_shownWords 29 = .ok (.iaload, 1) := by decide +kernel
theorem dX5_shownWords_30 : decode cX5_shownWords 30 = .ok (.ishl, 1) := by decide +kernel
theorem dX5_shownWords_31 : decode cX5_shownWords 31 = .ok (.ior, 1) := by decide +kernel
theorem dX5_shownWords_32 : decode cX5_shownWords 32 = .ok (.istore_n 1, 1) := by decide +kernel
theorem dX5_shownWords_33 : decode cX5_shownWords 33 = .ok (.iinc 2 1, 3) := by decide +kernel
theorem dX5_shownWords_36 : decode cX5_shownWords 36 = .ok (.goto (-32), 3) := by decide +kernel
theorem dX5_shownWords_39 : decode cX5_shownWords 39 = .ok (.iload_n 1, 1) := by decide +kernel
theorem dX5_shownWords_40 : decode cX5_shownWords 40 = .ok (.ireturn, 1) := by decide +kernel
theorem dX6_init_0 : decode cX6_init 0 = .ok (.aload_n 0, 1) := by decide +kernel
theorem dX6_init_1 : decode cX6_init 1 = .ok (.invokespecial 3, 3) := by decide +kernel
theorem dX6_init_4 : decode cX6_init 4 = .ok (.aload_n 0, 1) := by decide +kernel
theorem dX6_init_5 : decode cX6_init 5 = .ok (.new 9, 3) := by decide +kernel
theorem dX6_init_8 : decode cX6_init 8 = .ok (.dup, 1) := by decide +kernel
theorem dX6_init_9 : decode cX6_init 9 = .ok (.invokespecial 11, 3) := by decide +kernel
theorem dX6_init_12 : decode cX6_init 12 = .ok (.putfield 12, 3) := by decide +kernel
theorem dX6_init_15 : decode cX6_init 15 = .ok (.aload_n 0, 1) := by decide +kernel
theorem dX6_init_16 : decode cX6_init 16 = .ok (.new 9, 3) := by decide +kernel
theorem dX6_init_19 : decode cX6_init 19 = .ok (.dup, 1) := by decide +kernel
theorem dX6_init_20 : decode cX6_init 20 = .ok (.invokespecial 11, 3) := by decide +kernel
theorem dX6_init_23 : decode cX6_init 23 = .ok (.putfield 16, 3) := by decide +kernel
theorem dX6_init_26 : decode cX6_init 26 = .ok (.aload_n 0, 1) := by decide +kernel
theorem dX6_init_27 : decode cX6_init 27 = .ok (.iconst 0, 1) := by decide +kernel
theorem dX6_init_28 : decode cX6_init 28 = .ok (.putfield 19, 3) := by decide +kernel
theorem dX6_init_31 : decode cX6_init 31 = .ok (.aload_n 0, 1) := by decide +kernel
theorem dX6_init_32 : decode cX6_init 32 = .ok (.new 23, 3) := by decide +kernel
theorem dX6_init_35 : decode cX6_init 35 = .ok (.dup, 1) := by decide +kernel
theorem dX6_init_36 : decode cX6_init 36 = .ok (.invokespecial 25, 3) := by decide +kernel
theorem dX6_init_39 : decode cX6_init 39 = .ok (.putfield 26, 3) := by decide +kernel
theorem dX6_init_42 : decode cX6_init 42 = .ok (.aload_n 0, 1) := by decide +kernel
theorem dX6_init_43 : decode cX6_init 43 = .ok (.bipush 24, 2) := by decide +kernel
theorem dX6_init_45 : decode cX6_init 45 = .ok (.newarray .int, 2) := by decide +kernel
theorem dX6_init_47 : decode cX6_init 47 = .ok (.putfield 30, 3) := by decide +kernel
theorem dX6_init_50 : decode cX6_init 50 = .ok (.aload_n 0, 1) := by decide +kernel
theorem dX6_init_51 : decode cX6_init 51 = .ok (.iconst 0, 1) := by decide +kernel
theorem dX6_init_52 : decode cX6_init 52 = .ok (.putfield 34, 3) := by decide +kernel
theorem dX6_init_55 : decode cX6_init 55 = .ok (.aload_n 0, 1) := by decide +kernel
theorem dX6_init_56 : decode cX6_init 56 = .ok (.bipush 7, 2) := by decide +kernel
theorem dX6_init_58 : decode cX6_init 58 = .ok (.newarray .int, 2) := by decide +kernel
theorem dX6_init_60 : decode cX6_init 60 = .ok (.putfield 38, 3) := by decide +kernel
theorem dX6_init_63 : decode cX6_init 63 = .ok (.aload_n 0, 1) := by decide +kernel
theorem dX6_init_64 : decode cX6_init 64 = .ok (.new 41, 3) := by decide +kernel
theorem dX6_init_67 : decode cX6_init 67 = .ok (.dup, 1) := by decide +kernel
theorem dX6_init_68 : decode cX6_init 68 = .ok (.invokespecial 43, 3) := by decide +kernel
theorem dX6_init_71 : decode cX6_init 71 = .ok (.putfield 44, 3) := by decide +kernel
theorem dX6_init_74 : decode cX6_init 74 = .ok (.aload_n 0, 1) := by decide +kernel
theorem dX6_init_75 : decode cX6_init 75 = .ok (.new 48, 3) := by decide +kernel
theorem dX6_init_78 : decode cX6_init 78 = .ok (.dup, 1) := by decide +kernel
theorem dX6_init_79 : decode cX6_init 79 = .ok (.invokespecial 50, 3) := by decide +kernel
theorem dX6_init_82 : decode cX6_init 82 = .ok (.putfield 51, 3) := by decide +kernel
theorem dX6_init_85 : decode cX6_init 85 = .ok (.return_, 1) := by decide +kernel
theorem dX6_feed_0 : decode cX6_feed 0 = .ok (.iload_n 1, 1) := by decide +kernel
theorem dX6_feed_1 : decode cX6_feed 1 = .ok (.iconst 1, 1) := by decide +kernel
theorem dX6_feed_2 : decode cX6_feed 2 = .ok (.if_icmp .ge 10, 3) := by decide +kernel
theorem dX6_feed_5 : decode cX6_feed 5 = .ok (.aload_n 0, 1) := by decide +kernel
theorem dX6_feed_6 : decode cX6_feed 6 = .ok (.bipush (-4), 2) := by decide +kernel
theorem dX6_feed_8 : decode cX6_feed 8 = .ok (.invokevirtual 55, 3) := by decide +kernel
theorem dX6_feed_11 : decode cX6_feed 11 = .ok (.ireturn, 1) := by decide +kernel
theorem dX6_feed_12 : decode cX6_feed 12 = .ok (.iload_n 1, 1) := by decide +kernel
theorem dX6_feed_13 : decode cX6_feed 13 = .ok (.bipush 8, 2) := by decide +kernel
theorem dX6_feed_15 : decode cX6_feed 15 = .ok (.if_icmp .gt 17, 3) := by decide +kernel
theorem dX6_feed_18 : decode cX6_feed 18 = .ok (.aload_n 0, 1) := by decide +kernel
theorem dX6_feed_19 : decode cX6_feed 19 = .ok (.getfield 26, 3) := by decide +kernel
theorem dX6_feed_22 : decode cX6_feed 22 = .ok (.getfield 59, 3) := by decide +kernel
theorem dX6_feed_25 : decode cX6_feed 25 = .ok (.iload_n 1, 1) := by decide +kernel
theorem dX6_feed_26 : decode cX6_feed 26 = .ok (.iadd, 1) := by decide +kernel
theorem dX6_feed_27 : decode cX6_feed 27 = .ok (.bipush 10, 2) := by decide +kernel
theorem dX6_feed_29 : decode cX6_feed 29 = .ok (.if_icmp .le 10, 3) := by decide +kernel
theorem dX6_feed_32 : decode cX6_feed 32 = .ok (.aload_n 0, 1) := by decide +kernel
theorem dX6_feed_33 : decode cX6_feed 33 = .ok (.bipush (-6), 2) := by decide +kernel
theorem dX6_feed_35 : decode cX6_feed 35 = .ok (.invokevirtual 55, 3) := by decide +kernel
theorem dX6_feed_38 : decode cX6_feed 38 = .ok (.ireturn, 1) := by decide +kernel
theorem dX6_feed_39 : decode cX6_feed 39 = .ok (.aload_n 0, 1) := by decide +kernel
theorem dX6_feed_40 : decode cX6_feed 40 = .ok (.getfield 26, 3) := by decide +kernel
theorem dX6_feed_43 : decode cX6_feed 43 = .ok (.iload_n 1, 1) := by decide +kernel
theorem dX6_feed_44 : decode cX6_feed 44 = .ok (.lload_n 2, 1) := by decide +kernel
theorem dX6_feed_45 : decode cX6_feed 45 = .ok (.invokevirtual 62, 3) := by decide +kernel
theorem dX6_feed_48 : decode cX6_feed 48 = .ok (.aload_n 0, 1) := by decide +kernel
theorem dX6_feed_49 : decode cX6_feed 49 = .ok (.getfield 26, 3) := by decide +kernel
theorem dX6_feed_52 : decode cX6_feed 52 = .ok (.getfield 59, 3) := by decide +kernel
theorem dX6_feed_55 : decode cX6_feed 55 = .ok (.ireturn, 1) := by decide +kernel
theorem dX6_telling_0 : decode cX6_telling 0 = .ok (.iload_n 1, 1) := by decide +kernel
theorem dX6_telling_1 : decode cX6_telling 1 = .ok (.invokestatic 66, 3) := by decide +kernel
theorem dX6_telling_4 : decode cX6_telling 4 = .ok (.ifCond .ne 9, 3) := by decide +kernel
theorem dX6_telling_7 : decode cX6_telling 7 = .ok (.aload_n 0, 1) := by decide +kernel
theorem dX6_telling_8 : decode cX6_telling 8 = .ok (.iconst (-1), 1) := by decide +kernel
theorem dX6_telling_9 : decode cX6_telling 9 = .ok (.invokevirtual 55, 3) := by decide +kernel
theorem dX6_telling_12 : decode cX6_telling 12 = .ok (.ireturn, 1) := by decide +kernel
theorem dX6_telling_13 : decode cX6_telling 13 = .ok (.aload_n 0, 1) := by decide +kernel
theorem dX6_telling_14 : decode cX6_telling 14 = .ok (.getfield 12, 3) := by decide +kernel
theorem dX6_telling_17 : decode cX6_telling 17 = .ok (.iload_n 1, 1) := by decide +kernel
theorem dX6_telling_18 : decode cX6_telling 18 = .ok (.invokevirtual 70, 3) := by decide +kernel
theorem dX6_telling_21 : decode cX6_telling 21 = .ok (.getfield 74, 3) := by decide +kernel
theorem dX6_telling_24 : decode cX6_telling 24 = .ok (.astore_n 2, 1) := by decide +kernel
theorem dX6_telling_25 : decode cX6_telling 25 = .ok (.aload_n 2, 1) := by decide +kernel
theorem dX6_telling_26 : decode cX6_telling 26 = .ok (.invokevirtual 78, 3) := by decide +kernel
theorem dX6_telling_29 : decode cX6_telling 29 = .ok (.ifCond .eq 10, 3) := by decide +kernel
theorem dX6_telling_32 : decode cX6_telling 32 = .ok (.aload_n 0, 1) := by decide +kernel
theorem dX6_telling_33 : decode cX6_telling 33 = .ok (.bipush (-6), 2) := by decide +kernel
theorem dX6_telling_35 : decode cX6_telling 35 = .ok (.invokevirtual 55, 3) := by decide +kernel
theorem dX6_telling_38 : decode cX6_telling 38 = .ok (.ireturn, 1) := by decide +kernel
theorem dX6_telling_39 : decode cX6_telling 39 = .ok (.aload_n 0, 1) := by decide +kernel
theorem dX6_telling_40 : decode cX6_telling 40 = .ok (.getfield 26, 3) := by decide +kernel
theorem dX6_telling_43 : decode cX6_telling 43 = .ok (.invokevirtual 84, 3) := by decide +kernel
theorem dX6_telling_46 : decode cX6_telling 46 = .ok (.istore_n 3, 1) := by decide +kernel
theorem dX6_telling_47 : decode cX6_telling 47 = .ok (.aload_n 0, 1) := by decide +kernel
theorem dX6_telling_48 : decode cX6_telling 48 = .ok (.getfield 26, 3) := by decide +kernel
theorem dX6_telling_51 : decode cX6_telling 51 = .ok (.iconst 0, 1) := by decide +kernel
theorem dX6_telling_52 : decode cX6_telling 52 = .ok (.putfield 59, 3) := by decide +kernel
theorem dX6_telling_55 : decode cX6_telling 55 = .ok (.iload_n 3, 1) := by decide +kernel
theorem dX6_telling_56 : decode cX6_telling 56 = .ok (.ifCond .lt 8, 3) := by decide +kernel
theorem dX6_telling_59 : decode cX6_telling 59 = .ok (.bipush (-20), 2) := by decide +kernel
theorem dX6_telling_61 : decode cX6_telling 61 = .ok (.iload_n 3, 1) := by decide +kernel
theorem dX6_telling_62 : decode cX6_telling 62 = .ok (.isub, 1) := by decide +kernel
theorem dX6_telling_63 : decode cX6_telling 63 = .ok (.ireturn, 1) := by decide +kernel
theorem dX6_telling_64 : decode cX6_telling 64 = .ok (.aload_n 2, 1) := by decide +kernel
theorem dX6_telling_65 : decode cX6_telling 65 = .ok (.aload_n 0, 1) := by decide +kernel
theorem dX6_telling_66 : decode cX6_telling 66 = .ok (.getfield 26, 3) := by decide +kernel
theorem dX6_telling_69 : decode cX6_telling 69 = .ok (.getfield 88, 3) := by decide +kernel
theorem dX6_telling_72 : decode cX6_telling 72 = .ok (.invokevirtual 91, 3) := by decide +kernel
theorem dX6_telling_75 : decode cX6_telling 75 = .ok (.iconst 3, 1) := by decide +kernel
theorem dX6_telling_76 : decode cX6_telling 76 = .ok (.if_icmp .lt 10, 3) := by decide +kernel
theorem dX6_telling_79 : decode cX6_telling 79 = .ok (.aload_n 0, 1) := by decide +kernel
theorem dX6_telling_80 : decode cX6_telling 80 = .ok (.bipush (-6), 2) := by decide +kernel
theorem dX6_telling_82 : decode cX6_telling 82 = .ok (.invokevirtual 55, 3) := by decide +kernel
theorem dX6_telling_85 : decode cX6_telling 85 = .ok (.ireturn, 1) := by decide +kernel
theorem dX6_telling_86 : decode cX6_telling 86 = .ok (.aload_n 2, 1) := by decide +kernel
theorem dX6_telling_87 : decode cX6_telling 87 = .ok (.aload_n 0, 1) := by decide +kernel
theorem dX6_telling_88 : decode cX6_telling 88 = .ok (.getfield 26, 3) := by decide +kernel
theorem dX6_telling_91 : decode cX6_telling 91 = .ok (.invokevirtual 94, 3) := by decide +kernel
theorem dX6_telling_94 : decode cX6_telling 94 = .ok (.ireturn, 1) := by decide +kernel
theorem dX6_tellingOf_0 : decode cX6_tellingOf 0 = .ok (.iload_n 1, 1) := by decide +kernel
theorem dX6_tellingOf_1 : decode cX6_tellingOf 1 = .ok (.invokestatic 66, 3) := by decide +kernel
theorem dX6_tellingOf_4 : decode cX6_tellingOf 4 = .ok (.ifCond .eq 21, 3) := by decide +kernel
theorem dX6_tellingOf_7 : decode cX6_tellingOf 7 = .ok (.aload_n 0, 1) := by decide +kernel
theorem dX6_tellingOf_8 : decode cX6_tellingOf 8 = .ok (.getfield 12, 3) := by decide +kernel
theorem dX6_tellingOf_11 : decode cX6_tellingOf 11 = .ok (.iload_n 1, 1) := by decide +kernel
theorem dX6_tellingOf_12 : decode cX6_tellingOf 12 = .ok (.invokevirtual 70, 3) := by decide +kernel
theorem dX6_tellingOf_15 : decode cX6_tellingOf 15 = .ok (.getfield 74, 3) := by decide +kernel
theorem dX6_tellingOf_18 : decode cX6_tellingOf 18 = .ok (.iload_n 2, 1) := by decide +kernel
theorem dX6_tellingOf_19 : decode cX6_tellingOf 19 = .ok (.invokevirtual 98, 3) := by decide +kernel
theorem dX6_tellingOf_22 : decode cX6_tellingOf 22 = .ok (.ifCond .ne 9, 3) := by decide +kernel
theorem dX6_tellingOf_25 : decode cX6_tellingOf 25 = .ok (.aload_n 0, 1) := by decide +kernel
theorem dX6_tellingOf_26 : decode cX6_tellingOf 26 = .ok (.iconst (-1), 1) := by decide +kernel
theorem dX6_tellingOf_27 : decode cX6_tellingOf 27 = .ok (.invokevirtual 55, 3) := by decide +kernel
theorem dX6_tellingOf_30 : decode cX6_tellingOf 30 = .ok (.ireturn, 1) := by decide +kernel
theorem dX6_tellingOf_31 : decode cX6_tellingOf 31 = .ok (.aload_n 0, 1) := by decide +kernel
theorem dX6_tellingOf_32 : decode cX6_tellingOf 32 = .ok (.getfield 12, 3) := by decide +kernel
theorem dX6_tellingOf_35 : decode cX6_tellingOf 35 = .ok (.iload_n 1, 1) := by decide +kernel
theorem dX6_tellingOf_36 : decode cX6_tellingOf 36 = .ok (.invokevirtual 70, 3) := by decide +kernel
theorem dX6_tellingOf_39 : decode cX6_tellingOf 39 = .ok (.getfield 74, 3) := by decide +kernel
theorem dX6_tellingOf_42 : decode cX6_tellingOf 42 = .ok (.astore 4, 2) := by decide +kernel
theorem dX6_tellingOf_44 : decode cX6_tellingOf 44 = .ok (.iload_n 3, 1) := by decide +kernel
theorem dX6_tellingOf_45 : decode cX6_tellingOf 45 = .ok (.tableswitch 63 0 3 #[31, 39, 47, 55], 31) := by decide +kernel
theorem dX6_tellingOf_76 : decode cX6_tellingOf 76 = .ok (.aload 4, 2) := by decide +kernel
theorem dX6_tellingOf_78 : decode cX6_tellingOf 78 = .ok (.getfield 101, 3) := by decide +kernel
theorem dX6_tellingOf_81 : decode cX6_tellingOf 81 = .ok (.iload_n 2, 1) := by decide +kernel
theorem dX6_tellingOf_82 : decode cX6_tellingOf 82 = .ok (.iaload, 1) := by decide +kernel
theorem dX6_tellingOf_83 : decode cX6_tellingOf 83 = .ok (.ireturn, 1) := by decide +kernel
theorem dX6_tellingOf_84 : decode cX6_tellingOf 84 = .ok (.aload 4, 2) := by decide +kernel
theorem dX6_tellingOf_86 : decode cX6_tellingOf 86 = .ok (.getfield 104, 3) := by decide +kernel
theorem dX6_tellingOf_89 : decode cX6_tellingOf 89 = .ok (.iload_n 2, 1) := by decide +kernel
theorem dX6_tellingOf_90 : decode cX6_tellingOf 90 = .ok (.iaload, 1) := by decide +kernel
theorem dX6_tellingOf_91 : decode cX6_tellingOf 91 = .ok (.ireturn, 1) := by decide +kernel
theorem dX6_tellingOf_92 : decode cX6_tellingOf 92 = .ok (.aload 4, 2) := by decide +kernel
theorem dX6_tellingOf_94 : decode cX6_tellingOf 94 = .ok (.getfield 107, 3) := by decide +kernel
theorem dX6_tellingOf_97 : decode cX6_tellingOf 97 = .ok (.iload_n 2, 1) := by decide +kernel
theorem dX6_tellingOf_98 : decode cX6_tellingOf 98 = .ok (.iaload, 1) := by decide +kernel
theorem dX6_tellingOf_99 : decode cX6_tellingOf 99 = .ok (.ireturn, 1) := by decide +kernel
theorem dX6_tellingOf_100 : decode cX6_tellingOf 100 = .ok (.aload 4, 2) := by decide +kernel
theorem dX6_tellingOf_102 : decode cX6_tellingOf 102 = .ok (.getfield 110, 3) := by decide +kernel
theorem dX6_tellingOf_105 : decode cX6_tellingOf 105 = .ok (.iload_n 2, 1) := by decide +kernel
theorem dX6_tellingOf_106 : decode cX6_tellingOf 106 = .ok (.iaload, 1) := by decide +kernel
theorem dX6_tellingOf_107 : decode cX6_tellingOf 107 = .ok (.ireturn, 1) := by decide +kernel
theorem dX6_tellingOf_108 : decode cX6_tellingOf 108 = .ok (.aload_n 0, 1) := by decide +kernel
theorem dX6_tellingOf_109 : decode cX6_tellingOf 109 = .ok (.bipush (-2), 2) := by decide +kernel
theorem dX6_tellingOf_111 : decode cX6_tellingOf 111 = .ok (.invokevirtual 55, 3) := by decide +kernel
theorem dX6_tellingOf_114 : decode cX6_tellingOf 114 = .ok (.ireturn, 1) := by decide +kernel
theorem dX6_word_0 : decode cX6_word 0 = .ok (.iload_n 1, 1) := by decide +kernel
theorem dX6_word_1 : decode cX6_word 1 = .ok (.invokestatic 66, 3) := by decide +kernel
theorem dX6_word_4 : decode cX6_word 4 = .ok (.ifCond .eq 10, 3) := by decide +kernel
theorem dX6_word_7 : decode cX6_word 7 = .ok (.iload_n 2, 1) := by decide +kernel
theorem dX6_word_8 : decode cX6_word 8 = .ok (.invokestatic 113, 3) := by decide +kernel
theorem dX6_word_11 : decode cX6_word 11 = .ok (.ifCond .ne 9, 3) := by decide +kernel
theorem dX6_word_14 : decode cX6_word 14 = .ok (.aload_n 0, 1) := by decide +kernel
theorem dX6_word_15 : decode cX6_word 15 = .ok (.iconst (-1), 1) := by decide +kernel
theorem dX6_word_16 : decode cX6_word 16 = .ok (.invokevirtual 55, 3) := by decide +kernel
theorem dX6_word_19 : decode cX6_word 19 = .ok (.ireturn, 1) := by decide +kernel
theorem dX6_word_20 : decode cX6_word 20 = .ok (.iload_n 3, 1) := by decide +kernel
theorem dX6_word_21 : decode cX6_word 21 = .ok (.ifCond .eq 15, 3) := by decide +kernel
theorem dX6_word_24 : decode cX6_word 24 = .ok (.iload_n 3, 1) := by decide +kernel
theorem dX6_word_25 : decode cX6_word 25 = .ok (.iconst 1, 1) := by decide +kernel
theorem dX6_word_26 : decode cX6_word 26 = .ok (.if_icmp .eq 10, 3) := by decide +kernel
theorem dX6_word_29 : decode cX6_word 29 = .ok (.aload_n 0, 1) := by decide +kernel
theorem dX6_word_30 : decode cX6_word 30 = .ok (.bipush (-2), 2) := by decide +kernel
theorem dX6_word_32 : decode cX6_word 32 = .ok (.invokevirtual 55, 3) := by decide +kernel
theorem dX6_word_35 : decode cX6_word 35 = .ok (.ireturn, 1) := by decide +kernel
theorem dX6_word_36 : decode cX6_word 36 = .ok (.iload 4, 2) := by decide +kernel
theorem dX6_word_38 : decode cX6_word 38 = .ok (.ifCond .ge 10, 3) := by decide +kernel
theorem dX6_word_41 : decode cX6_word 41 = .ok (.aload_n 0, 1) := by decide +kernel
theorem dX6_word_42 : decode cX6_word 42 = .ok (.bipush (-4), 2) := by decide +kernel
theorem dX6_word_44 : decode cX6_word 44 = .ok (.invokevirtual 55, 3) := by decide +kernel
theorem dX6_word_47 : decode cX6_word 47 = .ok (.ireturn, 1) := by decide +kernel
theorem dX6_word_48 : decode cX6_word 48 = .ok (.iload 4, 2) := by decide +kernel
theorem dX6_word_50 : decode cX6_word 50 = .ok (.bipush 99, 2) := by decide +kernel
theorem dX6_word_52 : decode cX6_word 52 = .ok (.if_icmp .le 10, 3) := by decide +kernel
theorem dX6_word_55 : decode cX6_word 55 = .ok (.aload_n 0, 1) := by decide +kernel
theorem dX6_word_56 : decode cX6_word 56 = .ok (.bipush (-6), 2) := by decide +kernel
theorem dX6_word_58 : decode cX6_word 58 = .ok (.invokevirtual 55, 3) := by decide +kernel
theorem dX6_word_61 : decode cX6_word 61 = .ok (.ireturn, 1) := by decide +kernel
theorem dX6_word_62 : decode cX6_word 62 = .ok (.iload_n 3, 1) := by decide +kernel
theorem dX6_word_63 : decode cX6_word 63 = .ok (.ifCond .ne 17, 3) := by decide +kernel
theorem dX6_word_66 : decode cX6_word 66 = .ok (.aload_n 0, 1) := by decide +kernel
theorem dX6_word_67 : decode cX6_word 67 = .ok (.getfield 12, 3) := by decide +kernel
theorem dX6_word_70 : decode cX6_word 70 = .ok (.iload_n 1, 1) := by decide +kernel
theorem dX6_word_71 : decode cX6_word 71 = .ok (.invokevirtual 70, 3) := by decide +kernel
theorem dX6_word_74 : decode cX6_word 74 = .ok (.getfield 116, 3) := by decide +kernel
theorem dX6_word_77 : decode cX6_word 77 = .ok (.goto 14, 3) := by decide +kernel
theorem dX6_word_80 : decode cX6_word 80 = .ok (.aload_n 0, 1) := by decide +kernel
theorem dX6_word_81 : decode cX6_word 81 = .ok (.getfield 12, 3) := by decide +kernel
theorem dX6_word_84 : decode cX6_word 84 = .ok (.iload_n 1, 1) := by decide +kernel
theorem dX6_word_85 : decode cX6_word 85 = .ok (.invokevirtual 70, 3) := by decide +kernel
theorem dX6_word_88 : decode cX6_word 88 = .ok (.getfield 119, 3) := by decide +kernel
theorem dX6_word_91 : decode cX6_word 91 = .ok (.astore 5, 2) := by decide +kernel
theorem dX6_word_93 : decode cX6_word 93 = .ok (.aload 5, 2) := by decide +kernel
theorem dX6_word_95 : decode cX6_word 95 = .ok (.iload_n 2, 1) := by decide +kernel
theorem dX6_word_96 : decode cX6_word 96 = .ok (.iaload, 1) := by decide +kernel
theorem dX6_word_97 : decode cX6_word 97 = .ok (.istore 6, 2) := by decide +kernel
theorem dX6_word_99 : decode cX6_word 99 = .ok (.aload 5, 2) := by decide +kernel
theorem dX6_word_101 : decode cX6_word 101 = .ok (.iload_n 2, 1) := by decide +kernel
theorem dX6_word_102 : decode cX6_word 102 = .ok (.iload 4, 2) := by decide +kernel
theorem dX6_word_104 : decode cX6_word 104 = .ok (.iastore, 1) := by decide +kernel
theorem dX6_word_105 : decode cX6_word 105 = .ok (.iload 6, 2) := by decide +kernel
theorem dX6_word_107 : decode cX6_word 107 = .ok (.ireturn, 1) := by decide +kernel
theorem dX6_all_0 : decode cX6_all 0 = .ok (.iload_n 1, 1) := by decide +kernel
theorem dX6_all_1 : decode cX6_all 1 = .ok (.invokestatic 66, 3) := by decide +kernel
theorem dX6_all_4 : decode cX6_all 4 = .ok (.ifCond .eq 10, 3) := by decide +kernel
theorem dX6_all_7 : decode cX6_all 7 = .ok (.iload_n 2, 1) := by decide +kernel
theorem dX6_all_8 : decode cX6_all 8 = .ok (.invokestatic 113, 3) := by decide +kernel
theorem dX6_all_11 : decode cX6_all 11 = .ok (.ifCond .ne 9, 3) := by decide +kernel
theorem dX6_all_14 : decode cX6_all 14 = .ok (.aload_n 0, 1) := by decide +kernel
theorem dX6_all_15 : decode cX6_all 15 = .ok (.iconst (-1), 1) := by decide +kernel
theorem dX6_all_16 : decode cX6_all 16 = .ok (.invokevirtual 55, 3) := by decide +kernel
theorem dX6_all_19 : decode cX6_all 19 = .ok (.ireturn, 1) := by decide +kernel
theorem dX6_all_20 : decode cX6_all 20 = .ok (.aload_n 0, 1) := by decide +kernel
theorem dX6_all_21 : decode cX6_all 21 = .ok (.getfield 12, 3) := by decide +kernel
theorem dX6_all_24 : decode cX6_all 24 = .ok (.iload_n 1, 1) := by decide +kernel
theorem dX6_all_25 : decode cX6_all 25 = .ok (.invokevirtual 70, 3) := by decide +kernel
theorem dX6_all_28 : decode cX6_all 28 = .ok (.astore 4, 2) := by decide +kernel
theorem dX6_all_30 : decode cX6_all 30 = .ok (.aload 4, 2) := by decide +kernel
theorem dX6_all_32 : decode cX6_all 32 = .ok (.getfield 122, 3) := by decide +kernel
theorem dX6_all_35 : decode cX6_all 35 = .ok (.iload_n 2, 1) := by decide +kernel
theorem dX6_all_36 : decode cX6_all 36 = .ok (.invokestatic 125, 3) := by decide +kernel
theorem dX6_all_39 : decode cX6_all 39 = .ok (.iload_n 3, 1) := by decide +kernel
theorem dX6_all_40 : decode cX6_all 40 = .ok (.if_icmp .ne 5, 3) := by decide +kernel
theorem dX6_all_43 : decode cX6_all 43 = .ok (.iconst 0, 1) := by decide +kernel
theorem dX6_all_44 : decode cX6_all 44 = .ok (.ireturn, 1) := by decide +kernel
theorem dX6_all_45 : decode cX6_all 45 = .ok (.aload 4, 2) := by decide +kernel
theorem dX6_all_47 : decode cX6_all 47 = .ok (.dup, 1) := by decide +kernel
theorem dX6_all_48 : decode cX6_all 48 = .ok (.getfield 122, 3) := by decide +kernel
theorem dX6_all_51 : decode cX6_all 51 = .ok (.iconst 1, 1) := by decide +kernel
theorem dX6_all_52 : decode cX6_all 52 = .ok (.iload_n 2, 1) := by decide +kernel
theorem dX6_all_53 : decode cX6_all 53 = .ok (.ishl, 1) := by decide +kernel
theorem dX6_all_54 : decode cX6_all 54 = .ok (.ixor, 1) := by decide +kernel
theorem dX6_all_55 : decode cX6_all 55 = .ok (.putfield 122, 3) := by decide +kernel
theorem dX6_all_58 : decode cX6_all 58 = .ok (.iconst 1, 1) := by decide +kernel
theorem dX6_all_59 : decode cX6_all 59 = .ok (.ireturn, 1) := by decide +kernel
theorem dX6_depth_0 : decode cX6_depth 0 = .ok (.iload_n 1, 1) := by decide +kernel
theorem dX6_depth_1 : decode cX6_depth 1 = .ok (.invokestatic 66, 3) := by decide +kernel
theorem dX6_depth_4 : decode cX6_depth 4 = .ok (.ifCond .eq 17, 3) := by decide +kernel
theorem dX6_depth_7 : decode cX6_depth 7 = .ok (.iload_n 2, 1) := by decide +kernel
theorem dX6_depth_8 : decode cX6_depth 8 = .ok (.invokestatic 129, 3) := by decide +kernel
theorem dX6_depth_11 : decode cX6_depth 11 = .ok (.ifCond .eq 10, 3) := by decide +kernel
theorem dX6_depth_14 : decode cX6_depth 14 = .ok (.iload_n 3, 1) := by decide +kernel
theorem dX6_depth_15 : decode cX6_depth 15 = .ok (.invokestatic 113, 3) := by decide +kernel
theorem dX6_depth_18 : decode cX6_depth 18 = .ok (.ifCond .ne 9, 3) := by decide +kernel
theorem dX6_depth_21 : decode cX6_depth 21 = .ok (.aload_n 0, 1) := by decide +kernel
theorem dX6_depth_22 : decode cX6_depth 22 = .ok (.iconst (-1), 1) := by decide +kernel
theorem dX6_depth_23 : decode cX6_depth 23 = .ok (.invokevirtual 55, 3) := by decide +kernel
theorem dX6_depth_26 : decode cX6_depth 26 = .ok (.ireturn, 1) := by decide +kernel
theorem dX6_depth_27 : decode cX6_depth 27 = .ok (.aload_n 0, 1) := by decide +kernel
theorem dX6_depth_28 : decode cX6_depth 28 = .ok (.getfield 12, 3) := by decide +kernel
theorem dX6_depth_31 : decode cX6_depth 31 = .ok (.iload_n 1, 1) := by decide +kernel
theorem dX6_depth_32 : decode cX6_depth 32 = .ok (.invokevirtual 70, 3) := by decide +kernel
theorem dX6_depth_35 : decode cX6_depth 35 = .ok (.iload_n 2, 1) := by decide +kernel
theorem dX6_depth_36 : decode cX6_depth 36 = .ok (.iload_n 3, 1) := by decide +kernel
theorem dX6_depth_37 : decode cX6_depth 37 = .ok (.invokevirtual 132, 3) := by decide +kernel
theorem dX6_depth_40 : decode cX6_depth 40 = .ok (.ireturn, 1) := by decide +kernel
theorem dX6_learnt_0 : decode cX6_learnt 0 = .ok (.iload_n 1, 1) := by decide +kernel
theorem dX6_learnt_1 : decode cX6_learnt 1 = .ok (.invokestatic 66, 3) := by decide +kernel
theorem dX6_learnt_4 : decode cX6_learnt 4 = .ok (.ifCond .eq 10, 3) := by decide +kernel
theorem dX6_learnt_7 : decode cX6_learnt 7 = .ok (.iload_n 2, 1) := by decide +kernel
theorem dX6_learnt_8 : decode cX6_learnt 8 = .ok (.invokestatic 129, 3) := by decide +kernel
theorem dX6_learnt_11 : decode cX6_learnt 11 = .ok (.ifCond .ne 9, 3) := by decide +kernel
theorem dX6_learnt_14 : decode cX6_learnt 14 = .ok (.aload_n 0, 1) := by decide +kernel
theorem dX6_learnt_15 : decode cX6_learnt 15 = .ok (.iconst (-1), 1) := by decide +kernel
theorem dX6_learnt_16 : decode cX6_learnt 16 = .ok (.invokevirtual 55, 3) := by decide +kernel
theorem dX6_learnt_19 : decode cX6_learnt 19 = .ok (.ireturn, 1) := by decide +kernel
theorem dX6_learnt_20 : decode cX6_learnt 20 = .ok (.aload_n 0, 1) := by decide +kernel
theorem dX6_learnt_21 : decode cX6_learnt 21 = .ok (.getfield 12, 3) := by decide +kernel
theorem dX6_learnt_24 : decode cX6_learnt 24 = .ok (.iload_n 1, 1) := by decide +kernel
theorem dX6_learnt_25 : decode cX6_learnt 25 = .ok (.invokevirtual 70, 3) := by decide +kernel
theorem dX6_learnt_28 : decode cX6_learnt 28 = .ok (.iload_n 2, 1) := by decide +kernel
theorem dX6_learnt_29 : decode cX6_learnt 29 = .ok (.invokevirtual 136, 3) := by decide +kernel
theorem dX6_learnt_32 : decode cX6_learnt 32 = .ok (.ireturn, 1) := by decide +kernel
theorem dX6_put_0 : decode cX6_put 0 = .ok (.iload_n 1, 1) := by decide +kernel
theorem dX6_put_1 : decode cX6_put 1 = .ok (.iconst (-1), 1) := by decide +kernel
theorem dX6_put_2 : decode cX6_put 2 = .ok (.if_icmp .ge 10, 3) := by decide +kernel
theorem dX6_put_5 : decode cX6_put 5 = .ok (.aload_n 0, 1) := by decide +kernel
theorem dX6_put_6 : decode cX6_put 6 = .ok (.bipush (-4), 2) := by decide +kernel
theorem dX6_put_8 : decode cX6_put 8 = .ok (.invokevirtual 55, 3) := by decide +kernel
theorem dX6_put_11 : decode cX6_put 11 = .ok (.ireturn, 1) := by decide +kernel
theorem dX6_put_12 : decode cX6_put 12 = .ok (.iload_n 1, 1) := by decide +kernel
theorem dX6_put_13 : decode cX6_put 13 = .ok (.bipush 99, 2) := by decide +kernel
theorem dX6_put_15 : decode cX6_put 15 = .ok (.if_icmp .gt 12, 3) := by decide +kernel
theorem dX6_put_18 : decode cX6_put 18 = .ok (.aload_n 0, 1) := by decide +kernel
theorem dX6_put_19 : decode cX6_put 19 = .ok (.getfield 34, 3) := by decide +kernel
theorem dX6_put_22 : decode cX6_put 22 = .ok (.bipush 24, 2) := by decide +kernel
theorem dX6_put_24 : decode cX6_put 24 = .ok (.if_icmp .lt 10, 3) := by decide +kernel
theorem dX6_put_27 : decode cX6_put 27 = .ok (.aload_n 0, 1) := by decide +kernel
theorem dX6_put_28 : decode cX6_put 28 = .ok (.bipush (-6), 2) := by decide +kernel
theorem dX6_put_30 : decode cX6_put 30 = .ok (.invokevirtual 55, 3) := by decide +kernel
theorem dX6_put_33 : decode cX6_put 33 = .ok (.ireturn, 1) := by decide +kernel
theorem dX6_put_34 : decode cX6_put 34 = .ok (.aload_n 0, 1) := by decide +kernel
theorem dX6_put_35 : decode cX6_put 35 = .ok (.getfield 30, 3) := by decide +kernel
theorem dX6_put_38 : decode cX6_put 38 = .ok (.aload_n 0, 1) := by decide +kernel
theorem dX6_put_39 : decode cX6_put 39 = .ok (.getfield 34, 3) := by decide +kernel
theorem dX6_put_42 : decode cX6_put 42 = .ok (.iload_n 1, 1) := by decide +kernel
theorem dX6_put_43 : decode cX6_put 43 = .ok (.iastore, 1) := by decide +kernel
theorem dX6_put_44 : decode cX6_put 44 = .ok (.aload_n 0, 1) := by decide +kernel
theorem dX6_put_45 : decode cX6_put 45 = .ok (.dup, 1) := by decide +kernel
theorem dX6_put_46 : decode cX6_put 46 = .ok (.getfield 34, 3) := by decide +kernel
theorem dX6_put_49 : decode cX6_put 49 = .ok (.iconst 1, 1) := by decide +kernel
theorem dX6_put_50 : decode cX6_put 50 = .ok (.iadd, 1) := by decide +kernel
theorem dX6_put_51 : decode cX6_put 51 = .ok (.putfield 34, 3) := by decide +kernel
theorem dX6_put_54 : decode cX6_put 54 = .ok (.aload_n 0, 1) := by decide +kernel
theorem dX6_put_55 : decode cX6_put 55 = .ok (.getfield 34, 3) := by decide +kernel
theorem dX6_put_58 : decode cX6_put 58 = .ok (.ireturn, 1) := by decide +kernel
theorem dX6_judge_0 : decode cX6_judge 0 = .ok (.iload_n 1, 1) := by decide +kernel
theorem dX6_judge_1 : decode cX6_judge 1 = .ok (.invokestatic 66, 3) := by decide +kernel
theorem dX6_judge_4 : decode cX6_judge 4 = .ok (.ifCond .eq 10, 3) := by decide +kernel
theorem dX6_judge_7 : decode cX6_judge 7 = .ok (.iload_n 2, 1) := by decide +kernel
theorem dX6_judge_8 : decode cX6_judge 8 = .ok (.invokestatic 129, 3) := by decide +kernel
theorem dX6_judge_11 : decode cX6_judge 11 = .ok (.ifCond .ne 9, 3) := by decide +kernel
theorem dX6_judge_14 : decode cX6_judge 14 = .ok (.aload_n 0, 1) := by decide +kernel
theorem dX6_judge_15 : decode cX6_judge 15 = .ok (.iconst (-1), 1) := by decide +kernel
theorem dX6_judge_16 : decode cX6_judge 16 = .ok (.invokevirtual 55, 3) := by decide +kernel
theorem dX6_judge_19 : decode cX6_judge 19 = .ok (.ireturn, 1) := by decide +kernel
theorem dX6_judge_20 : decode cX6_judge 20 = .ok (.aload_n 0, 1) := by decide +kernel
theorem dX6_judge_21 : decode cX6_judge 21 = .ok (.aload_n 0, 1) := by decide +kernel
theorem dX6_judge_22 : decode cX6_judge 22 = .ok (.getfield 12, 3) := by decide +kernel
theorem dX6_judge_25 : decode cX6_judge 25 = .ok (.iload_n 1, 1) := by decide +kernel
theorem dX6_judge_26 : decode cX6_judge 26 = .ok (.invokevirtual 70, 3) := by decide +kernel
theorem dX6_judge_29 : decode cX6_judge 29 = .ok (.iload_n 2, 1) := by decide +kernel
theorem dX6_judge_30 : decode cX6_judge 30 = .ok (.invokevirtual 139, 3) := by decide +kernel
theorem dX6_judge_33 : decode cX6_judge 33 = .ok (.istore_n 3, 1) := by decide +kernel
theorem dX6_judge_34 : decode cX6_judge 34 = .ok (.aload_n 0, 1) := by decide +kernel
theorem dX6_judge_35 : decode cX6_judge 35 = .ok (.iconst 0, 1) := by decide +kernel
theorem dX6_judge_36 : decode cX6_judge 36 = .ok (.putfield 34, 3) := by decide +kernel
theorem dX6_judge_39 : decode cX6_judge 39 = .ok (.iload_n 3, 1) := by decide +kernel
theorem dX6_judge_40 : decode cX6_judge 40 = .ok (.ireturn, 1) := by decide +kernel
theorem dX6_needed_0 : decode cX6_needed 0 = .ok (.iload_n 1, 1) := by decide +kernel
theorem dX6_needed_1 : decode cX6_needed 1 = .ok (.invokestatic 66, 3) := by decide +kernel
theorem dX6_needed_4 : decode cX6_needed 4 = .ok (.ifCond .eq 10, 3) := by decide +kernel
theorem dX6_needed_7 : decode cX6_needed 7 = .ok (.iload_n 2, 1) := by decide +kernel
theorem dX6_needed_8 : decode cX6_needed 8 = .ok (.invokestatic 113, 3) := by decide +kernel
theorem dX6_needed_11 : decode cX6_needed 11 = .ok (.ifCond .ne 9, 3) := by decide +kernel
theorem dX6_needed_14 : decode cX6_needed 14 = .ok (.aload_n 0, 1) := by decide +kernel
theorem dX6_needed_15 : decode cX6_needed 15 = .ok (.iconst (-1), 1) := by decide +kernel
theorem dX6_needed_16 : decode cX6_needed 16 = .ok (.invokevirtual 55, 3) := by decide +kernel
theorem dX6_needed_19 : decode cX6_needed 19 = .ok (.ireturn, 1) := by decide +kernel
theorem dX6_needed_20 : decode cX6_needed 20 = .ok (.aload_n 0, 1) := by decide +kernel
theorem dX6_needed_21 : decode cX6_needed 21 = .ok (.getfield 12, 3) := by decide +kernel
theorem dX6_needed_24 : decode cX6_needed 24 = .ok (.iload_n 1, 1) := by decide +kernel
theorem dX6_needed_25 : decode cX6_needed 25 = .ok (.invokevirtual 70, 3) := by decide +kernel
theorem dX6_needed_28 : decode cX6_needed 28 = .ok (.getfield 74, 3) := by decide +kernel
theorem dX6_needed_31 : decode cX6_needed 31 = .ok (.iload_n 2, 1) := by decide +kernel
theorem dX6_needed_32 : decode cX6_needed 32 = .ok (.invokevirtual 143, 3) := by decide +kernel
theorem dX6_needed_35 : decode cX6_needed 35 = .ok (.ireturn, 1) := by decide +kernel
theorem dX6_idle_0 : decode cX6_idle 0 = .ok (.iload_n 1, 1) := by decide +kernel
theorem dX6_idle_1 : decode cX6_idle 1 = .ok (.invokestatic 66, 3) := by decide +kernel
theorem dX6_idle_4 : decode cX6_idle 4 = .ok (.ifCond .ne 9, 3) := by decide +kernel
theorem dX6_idle_7 : decode cX6_idle 7 = .ok (.aload_n 0, 1) := by decide +kernel
theorem dX6_idle_8 : decode cX6_idle 8 = .ok (.iconst (-1), 1) := by decide +kernel
theorem dX6_idle_9 : decode cX6_idle 9 = .ok (.invokevirtual 55, 3) := by decide +kernel
theorem dX6_idle_12 : decode cX6_idle 12 = .ok (.ireturn, 1) := by decide +kernel
theorem dX6_idle_13 : decode cX6_idle 13 = .ok (.sipush 4095, 3) := by decide +kernel
theorem dX6_idle_16 : decode cX6_idle 16 = .ok (.aload_n 0, 1) := by decide +kernel
theorem dX6_idle_17 : decode cX6_idle 17 = .ok (.getfield 12, 3) := by decide +kernel
theorem dX6_idle_20 : decode cX6_idle 20 = .ok (.iload_n 1, 1) := by decide +kernel
theorem dX6_idle_21 : decode cX6_idle 21 = .ok (.invokevirtual 70, 3) := by decide +kernel
theorem dX6_idle_24 : decode cX6_idle 24 = .ok (.getfield 74, 3) := by decide +kernel
theorem dX6_idle_27 : decode cX6_idle 27 = .ok (.invokevirtual 146, 3) := by decide +kernel
theorem dX6_idle_30 : decode cX6_idle 30 = .ok (.iconst (-1), 1) := by decide +kernel
theorem dX6_idle_31 : decode cX6_idle 31 = .ok (.ixor, 1) := by decide +kernel
theorem dX6_idle_32 : decode cX6_idle 32 = .ok (.iand, 1) := by decide +kernel
theorem dX6_idle_33 : decode cX6_idle 33 = .ok (.ireturn, 1) := by decide +kernel
theorem dX6_leads_0 : decode cX6_leads 0 = .ok (.iload_n 1, 1) := by decide +kernel
theorem dX6_leads_1 : decode cX6_leads 1 = .ok (.invokestatic 66, 3) := by decide +kernel
theorem dX6_leads_4 : decode cX6_leads 4 = .ok (.ifCond .eq 10, 3) := by decide +kernel
theorem dX6_leads_7 : decode cX6_leads 7 = .ok (.iload_n 2, 1) := by decide +kernel
theorem dX6_leads_8 : decode cX6_leads 8 = .ok (.invokestatic 113, 3) := by decide +kernel
theorem dX6_leads_11 : decode cX6_leads 11 = .ok (.ifCond .ne 9, 3) := by decide +kernel
theorem dX6_leads_14 : decode cX6_leads 14 = .ok (.aload_n 0, 1) := by decide +kernel
theorem dX6_leads_15 : decode cX6_leads 15 = .ok (.iconst (-1), 1) := by decide +kernel
theorem dX6_leads_16 : decode cX6_leads 16 = .ok (.invokevirtual 55, 3) := by decide +kernel
theorem dX6_leads_19 : decode cX6_leads 19 = .ok (.ireturn, 1) := by decide +kernel
theorem dX6_leads_20 : decode cX6_leads 20 = .ok (.aload_n 0, 1) := by decide +kernel
theorem dX6_leads_21 : decode cX6_leads 21 = .ok (.getfield 12, 3) := by decide +kernel
theorem dX6_leads_24 : decode cX6_leads 24 = .ok (.iload_n 1, 1) := by decide +kernel
theorem dX6_leads_25 : decode cX6_leads 25 = .ok (.invokevirtual 70, 3) := by decide +kernel
theorem dX6_leads_28 : decode cX6_leads 28 = .ok (.getfield 74, 3) := by decide +kernel
theorem dX6_leads_31 : decode cX6_leads 31 = .ok (.iload_n 2, 1) := by decide +kernel
theorem dX6_leads_32 : decode cX6_leads 32 = .ok (.invokevirtual 149, 3) := by decide +kernel
theorem dX6_leads_35 : decode cX6_leads 35 = .ok (.ireturn, 1) := by decide +kernel
theorem dX6_knot_0 : decode cX6_knot 0 = .ok (.iload_n 1, 1) := by decide +kernel
theorem dX6_knot_1 : decode cX6_knot 1 = .ok (.invokestatic 66, 3) := by decide +kernel
theorem dX6_knot_4 : decode cX6_knot 4 = .ok (.ifCond .eq 10, 3) := by decide +kernel
theorem dX6_knot_7 : decode cX6_knot 7 = .ok (.iload_n 2, 1) := by decide +kernel
theorem dX6_knot_8 : decode cX6_knot 8 = .ok (.invokestatic 113, 3) := by decide +kernel
theorem dX6_knot_11 : decode cX6_knot 11 = .ok (.ifCond .ne 9, 3) := by decide +kernel
theorem dX6_knot_14 : decode cX6_knot 14 = .ok (.aload_n 0, 1) := by decide +kernel
theorem dX6_knot_15 : decode cX6_knot 15 = .ok (.iconst (-1), 1) := by decide +kernel
theorem dX6_knot_16 : decode cX6_knot 16 = .ok (.invokevirtual 55, 3) := by decide +kernel
theorem dX6_knot_19 : decode cX6_knot 19 = .ok (.ireturn, 1) := by decide +kernel
theorem dX6_knot_20 : decode cX6_knot 20 = .ok (.aload_n 0, 1) := by decide +kernel
theorem dX6_knot_21 : decode cX6_knot 21 = .ok (.getfield 12, 3) := by decide +kernel
theorem dX6_knot_24 : decode cX6_knot 24 = .ok (.iload_n 1, 1) := by decide +kernel
theorem dX6_knot_25 : decode cX6_knot 25 = .ok (.invokevirtual 70, 3) := by decide +kernel
theorem dX6_knot_28 : decode cX6_knot 28 = .ok (.getfield 74, 3) := by decide +kernel
theorem dX6_knot_31 : decode cX6_knot 31 = .ok (.iload_n 2, 1) := by decide +kernel
theorem dX6_knot_32 : decode cX6_knot 32 = .ok (.invokevirtual 152, 3) := by decide +kernel
theorem dX6_knot_35 : decode cX6_knot 35 = .ok (.ireturn, 1) := by decide +kernel
theorem dX6_knots_0 : decode cX6_knots 0 = .ok (.iload_n 1, 1) := by decide +kernel
theorem dX6_knots_1 : decode cX6_knots 1 = .ok (.invokestatic 66, 3) := by decide +kernel
theorem dX6_knots_4 : decode cX6_knots 4 = .ok (.ifCond .ne 9, 3) := by decide +kernel
theorem dX6_knots_7 : decode cX6_knots 7 = .ok (.aload_n 0, 1) := by decide +kernel
theorem dX6_knots_8 : decode cX6_knots 8 = .ok (.iconst (-1), 1) := by decide +kernel
theorem dX6_knots_9 : decode cX6_knots 9 = .ok (.invokevirtual 55, 3) := by decide +kernel
theorem dX6_knots_12 : decode cX6_knots 12 = .ok (.ireturn, 1) := by decide +kernel
theorem dX6_knots_13 : decode cX6_knots 13 = .ok (.aload_n 0, 1) := by decide +kernel
theorem dX6_knots_14 : decode cX6_knots 14 = .ok (.getfield 12, 3) := by decide +kernel
theorem dX6_knots_17 : decode cX6_knots 17 = .ok (.iload_n 1, 1) := by decide +kernel
theorem dX6_knots_18 : decode cX6_knots 18 = .ok (.invokevirtual 70, 3) := by decide +kernel
theorem dX6_knots_21 : decode cX6_knots 21 = .ok (.getfield 74, 3) := by decide +kernel
theorem dX6_knots_24 : decode cX6_knots 24 = .ok (.invokevirtual 155, 3) := by decide +kernel
theorem dX6_knots_27 : decode cX6_knots 27 = .ok (.ireturn, 1) := by decide +kernel
theorem dX6_fewest_0 : decode cX6_fewest 0 = .ok (.iload_n 1, 1) := by decide +kernel
theorem dX6_fewest_1 : decode cX6_fewest 1 = .ok (.invokestatic 66, 3) := by decide +kernel
theorem dX6_fewest_4 : decode cX6_fewest 4 = .ok (.ifCond .ne 9, 3) := by decide +kernel
theorem dX6_fewest_7 : decode cX6_fewest 7 = .ok (.aload_n 0, 1) := by decide +kernel
theorem dX6_fewest_8 : decode cX6_fewest 8 = .ok (.iconst (-1), 1) := by decide +kernel
theorem dX6_fewest_9 : decode cX6_fewest 9 = .ok (.invokevirtual 55, 3) := by decide +kernel
theorem dX6_fewest_12 : decode cX6_fewest 12 = .ok (.ireturn, 1) := by decide +kernel
theorem dX6_fewest_13 : decode cX6_fewest 13 = .ok (.aload_n 0, 1) := by decide +kernel
theorem dX6_fewest_14 : decode cX6_fewest 14 = .ok (.aload_n 0, 1) := by decide +kernel
theorem dX6_fewest_15 : decode cX6_fewest 15 = .ok (.getfield 12, 3) := by decide +kernel
theorem dX6_fewest_18 : decode cX6_fewest 18 = .ok (.iload_n 1, 1) := by decide +kernel
theorem dX6_fewest_19 : decode cX6_fewest 19 = .ok (.invokevirtual 70, 3) := by decide +kernel
theorem dX6_fewest_22 : decode cX6_fewest 22 = .ok (.invokevirtual 158, 3) := by decide +kernel
theorem dX6_fewest_25 : decode cX6_fewest 25 = .ok (.ireturn, 1) := by decide +kernel
theorem dX6_lightest_0 : decode cX6_lightest 0 = .ok (.iload_n 1, 1) := by decide +kernel
theorem dX6_lightest_1 : decode cX6_lightest 1 = .ok (.invokestatic 66, 3) := by decide +kernel
theorem dX6_lightest_4 : decode cX6_lightest 4 = .ok (.ifCond .ne 9, 3) := by decide +kernel
theorem dX6_lightest_7 : decode cX6_lightest 7 = .ok (.aload_n 0, 1) := by decide +kernel
theorem dX6_lightest_8 : decode cX6_lightest 8 = .ok (.iconst (-1), 1) := by decide +kernel
theorem dX6_lightest_9 : decode cX6_lightest 9 = .ok (.invokevirtual 55, 3) := by decide +kernel
theorem dX6_lightest_12 : decode cX6_lightest 12 = .ok (.ireturn, 1) := by decide +kernel
theorem dX6_lightest_13 : decode cX6_lightest 13 = .ok (.aload_n 0, 1) := by decide +kernel
theorem dX6_lightest_14 : decode cX6_lightest 14 = .ok (.getfield 51, 3) := by decide +kernel
theorem dX6_lightest_17 : decode cX6_lightest 17 = .ok (.aload_n 0, 1) := by decide +kernel
theorem dX6_lightest_18 : decode cX6_lightest 18 = .ok (.getfield 12, 3) := by decide +kernel
theorem dX6_lightest_21 : decode cX6_lightest 21 = .ok (.iload_n 1, 1) := by decide +kernel
theorem dX6_lightest_22 : decode cX6_lightest 22 = .ok (.invokevirtual 70, 3) := by decide +kernel
theorem dX6_lightest_25 : decode cX6_lightest 25 = .ok (.iconst 0, 1) := by decide +kernel
theorem dX6_lightest_26 : decode cX6_lightest 26 = .ok (.invokevirtual 162, 3) := by decide +kernel
theorem dX6_lightest_29 : decode cX6_lightest 29 = .ok (.aload_n 0, 1) := by decide +kernel
theorem dX6_lightest_30 : decode cX6_lightest 30 = .ok (.getfield 51, 3) := by decide +kernel
theorem dX6_lightest_33 : decode cX6_lightest 33 = .ok (.aload_n 0, 1) := by decide +kernel
theorem dX6_lightest_34 : decode cX6_lightest 34 = .ok (.getfield 12, 3) := by decide +kernel
theorem dX6_lightest_37 : decode cX6_lightest 37 = .ok (.iload_n 1, 1) := by decide +kernel
theorem dX6_lightest_38 : decode cX6_lightest 38 = .ok (.invokevirtual 70, 3) := by decide +kernel
theorem dX6_lightest_41 : decode cX6_lightest 41 = .ok (.invokevirtual 166, 3) := by decide +kernel
theorem dX6_lightest_44 : decode cX6_lightest 44 = .ok (.ireturn, 1) := by decide +kernel
theorem dX6_sets_0 : decode cX6_sets 0 = .ok (.iload_n 1, 1) := by decide +kernel
theorem dX6_sets_1 : decode cX6_sets 1 = .ok (.invokestatic 66, 3) := by decide +kernel
theorem dX6_sets_4 : decode cX6_sets 4 = .ok (.ifCond .ne 9, 3) := by decide +kernel
theorem dX6_sets_7 : decode cX6_sets 7 = .ok (.aload_n 0, 1) := by decide +kernel
theorem dX6_sets_8 : decode cX6_sets 8 = .ok (.iconst (-1), 1) := by decide +kernel
theorem dX6_sets_9 : decode cX6_sets 9 = .ok (.invokevirtual 55, 3) := by decide +kernel
theorem dX6_sets_12 : decode cX6_sets 12 = .ok (.ireturn, 1) := by decide +kernel
theorem dX6_sets_13 : decode cX6_sets 13 = .ok (.iload_n 2, 1) := by decide +kernel
theorem dX6_sets_14 : decode cX6_sets 14 = .ok (.ifCond .lt 8, 3) := by decide +kernel
theorem dX6_sets_17 : decode cX6_sets 17 = .ok (.iload_n 2, 1) := by decide +kernel
theorem dX6_sets_18 : decode cX6_sets 18 = .ok (.iconst 2, 1) := by decide +kernel
theorem dX6_sets_19 : decode cX6_sets 19 = .ok (.if_icmp .le 10, 3) := by decide +kernel
theorem dX6_sets_22 : decode cX6_sets 22 = .ok (.aload_n 0, 1) := by decide +kernel
theorem dX6_sets_23 : decode cX6_sets 23 = .ok (.bipush (-2), 2) := by decide +kernel
theorem dX6_sets_25 : decode cX6_sets 25 = .ok (.invokevirtual 55, 3) := by decide +kernel
theorem dX6_sets_28 : decode cX6_sets 28 = .ok (.ireturn, 1) := by decide +kernel
theorem dX6_sets_29 : decode cX6_sets 29 = .ok (.aload_n 0, 1) := by decide +kernel
theorem dX6_sets_30 : decode cX6_sets 30 = .ok (.getfield 51, 3) := by decide +kernel
theorem dX6_sets_33 : decode cX6_sets 33 = .ok (.aload_n 0, 1) := by decide +kernel
theorem dX6_sets_34 : decode cX6_sets 34 = .ok (.getfield 12, 3) := by decide +kernel
theorem dX6_sets_37 : decode cX6_sets 37 = .ok (.iload_n 1, 1) := by decide +kernel
theorem dX6_sets_38 : decode cX6_sets 38 = .ok (.invokevirtual 70, 3) := by decide +kernel
theorem dX6_sets_41 : decode cX6_sets 41 = .ok (.iconst 0, 1) := by decide +kernel
theorem dX6_sets_42 : decode cX6_sets 42 = .ok (.invokevirtual 162, 3) := by decide +kernel
theorem dX6_sets_45 : decode cX6_sets 45 = .ok (.iload_n 2, 1) := by decide +kernel
theorem dX6_sets_46 : decode cX6_sets 46 = .ok (.ifCond .ne 11, 3) := by decide +kernel
theorem dX6_sets_49 : decode cX6_sets 49 = .ok (.aload_n 0, 1) := by decide +kernel
theorem dX6_sets_50 : decode cX6_sets 50 = .ok (.getfield 51, 3) := by decide +kernel
theorem dX6_sets_53 : decode cX6_sets 53 = .ok (.getfield 169, 3) := by decide +kernel
theorem dX6_sets_56 : decode cX6_sets 56 = .ok (.ireturn, 1) := by decide +kernel
theorem dX6_sets_57 : decode cX6_sets 57 = .ok (.iload_n 2, 1) := by decide +kernel
theorem dX6_sets_58 : decode cX6_sets 58 = .ok (.iconst 1, 1) := by decide +kernel
theorem dX6_sets_59 : decode cX6_sets 59 = .ok (.if_icmp .ne 13, 3) := by decide +kernel
theorem dX6_sets_62 : decode cX6_sets 62 = .ok (.aload_n 0, 1) := by decide +kernel
theorem dX6_sets_63 : decode cX6_sets 63 = .ok (.getfield 51, 3) := by decide +kernel
theorem dX6_sets_66 : decode cX6_sets 66 = .ok (.getfield 172, 3) := by decide +kernel
theorem dX6_sets_69 : decode cX6_sets 69 = .ok (.goto 10, 3) := by decide +kernel
theorem dX6_sets_72 : decode cX6_sets 72 = .ok (.aload_n 0, 1) := by decide +kernel
theorem dX6_sets_73 : decode cX6_sets 73 = .ok (.getfield 51, 3) := by decide +kernel
theorem dX6_sets_76 : decode cX6_sets 76 = .ok (.getfield 175, 3) := by decide +kernel
theorem dX6_sets_79 : decode cX6_sets 79 = .ok (.ireturn, 1) := by decide +kernel
theorem dX6_soonest_0 : decode cX6_soonest 0 = .ok (.iload_n 1, 1) := by decide +kernel
theorem dX6_soonest_1 : decode cX6_soonest 1 = .ok (.invokestatic 66, 3) := by decide +kernel
theorem dX6_soonest_4 : decode cX6_soonest 4 = .ok (.ifCond .ne 9, 3) := by decide +kernel
theorem dX6_soonest_7 : decode cX6_soonest 7 = .ok (.aload_n 0, 1) := by decide +kernel
theorem dX6_soonest_8 : decode cX6_soonest 8 = .ok (.iconst (-1), 1) := by decide +kernel
theorem dX6_soonest_9 : decode cX6_soonest 9 = .ok (.invokevirtual 55, 3) := by decide +kernel
theorem dX6_soonest_12 : decode cX6_soonest 12 = .ok (.ireturn, 1) := by decide +kernel
theorem dX6_soonest_13 : decode cX6_soonest 13 = .ok (.iload_n 2, 1) := by decide +kernel
theorem dX6_soonest_14 : decode cX6_soonest 14 = .ok (.ifCond .lt 9, 3) := by decide +kernel
theorem dX6_soonest_17 : decode cX6_soonest 17 = .ok (.iload_n 2, 1) := by decide +kernel
theorem dX6_soonest_18 : decode cX6_soonest 18 = .ok (.bipush 12, 2) := by decide +kernel
theorem dX6_soonest_20 : decode cX6_soonest 20 = .ok (.if_icmp .lt 6, 3) := by decide +kernel
theorem dX6_soonest_23 : decode cX6_soonest 23 = .ok (.bipush (-9), 2) := by decide +kernel
theorem dX6_soonest_25 : decode cX6_soonest 25 = .ok (.ireturn, 1) := by decide +kernel
theorem dX6_soonest_26 : decode cX6_soonest 26 = .ok (.aload_n 0, 1) := by decide +kernel
theorem dX6_soonest_27 : decode cX6_soonest 27 = .ok (.getfield 12, 3) := by decide +kernel
theorem dX6_soonest_30 : decode cX6_soonest 30 = .ok (.iload_n 1, 1) := by decide +kernel
theorem dX6_soonest_31 : decode cX6_soonest 31 = .ok (.invokevirtual 70, 3) := by decide +kernel
theorem dX6_soonest_34 : decode cX6_soonest 34 = .ok (.astore_n 3, 1) := by decide +kernel
theorem dX6_soonest_35 : decode cX6_soonest 35 = .ok (.aload_n 0, 1) := by decide +kernel
theorem dX6_soonest_36 : decode cX6_soonest 36 = .ok (.aload_n 3, 1) := by decide +kernel
theorem dX6_soonest_37 : decode cX6_soonest 37 = .ok (.invokevirtual 158, 3) := by decide +kernel
theorem dX6_soonest_40 : decode cX6_soonest 40 = .ok (.istore 4, 2) := by decide +kernel
theorem dX6_soonest_42 : decode cX6_soonest 42 = .ok (.aload_n 3, 1) := by decide +kernel
theorem dX6_soonest_43 : decode cX6_soonest 43 = .ok (.iload 4, 2) := by decide +kernel
theorem dX6_soonest_45 : decode cX6_soonest 45 = .ok (.invokevirtual 178, 3) := by decide +kernel
theorem dX6_soonest_48 : decode cX6_soonest 48 = .ok (.istore 5, 2) := by decide +kernel
theorem dX6_soonest_50 : decode cX6_soonest 50 = .ok (.iconst 0, 1) := by decide +kernel
theorem dX6_soonest_51 : decode cX6_soonest 51 = .ok (.istore 6, 2) := by decide +kernel
theorem dX6_soonest_53 : decode cX6_soonest 53 = .ok (.iload 6, 2) := by decide +kernel
theorem dX6_soonest_55 : decode cX6_soonest 55 = .ok (.iload_n 2, 1) := by decide +kernel
theorem dX6_soonest_56 : decode cX6_soonest 56 = .ok (.if_icmp .ge 31, 3) := by decide +kernel
theorem dX6_soonest_59 : decode cX6_soonest 59 = .ok (.iload 5, 2) := by decide +kernel
theorem dX6_soonest_61 : decode cX6_soonest 61 = .ok (.ifCond .lt 26, 3) := by decide +kernel
theorem dX6_soonest_64 : decode cX6_soonest 64 = .ok (.iload 4, 2) := by decide +kernel
theorem dX6_soonest_66 : decode cX6_soonest 66 = .ok (.iconst 1, 1) := by decide +kernel
theorem dX6_soonest_67 : decode cX6_soonest 67 = .ok (.iload 5, 2) := by decide +kernel
theorem dX6_soonest_69 : decode cX6_soonest 69 = .ok (.ishl, 1) := by decide +kernel
theorem dX6_soonest_70 : decode cX6_soonest 70 = .ok (.ior, 1) := by decide +kernel
theorem dX6_soonest_71 : decode cX6_soonest 71 = .ok (.istore 4, 2) := by decide +kernel
theorem dX6_soonest_73 : decode cX6_soonest 73 = .ok (.aload_n 3, 1) := by decide +kernel
theorem dX6_soonest_74 : decode cX6_soonest 74 = .ok (.iload 4, 2) := by decide +kernel
theorem dX6_soonest_76 : decode cX6_soonest 76 = .ok (.invokevirtual 178, 3) := by decide +kernel
theorem dX6_soonest_79 : decode cX6_soonest 79 = .ok (.istore 5, 2) := by decide +kernel
theorem dX6_soonest_81 : decode cX6_soonest 81 = .ok (.iinc 6 1, 3) := by decide +kernel
theorem dX6_soonest_84 : decode cX6_soonest 84 = .ok (.goto (-31), 3) := by decide +kernel
theorem dX6_soonest_87 : decode cX6_soonest 87 = .ok (.iload 5, 2) := by decide +kernel
theorem dX6_soonest_89 : decode cX6_soonest 89 = .ok (.ireturn, 1) := by decide +kernel
theorem dX6_waits_0 : decode cX6_waits 0 = .ok (.iload_n 1, 1) := by decide +kernel
theorem dX6_waits_1 : decode cX6_waits 1 = .ok (.invokestatic 66, 3) := by decide +kernel
theorem dX6_waits_4 : decode cX6_waits 4 = .ok (.ifCond .ne 9, 3) := by decide +kernel
theorem dX6_waits_7 : decode cX6_waits 7 = .ok (.aload_n 0, 1) := by decide +kernel
theorem dX6_waits_8 : decode cX6_waits 8 = .ok (.iconst (-1), 1) := by decide +kernel
theorem dX6_waits_9 : decode cX6_waits 9 = .ok (.invokevirtual 55, 3) := by decide +kernel
theorem dX6_waits_12 : decode cX6_waits 12 = .ok (.ireturn, 1) := by decide +kernel
theorem dX6_waits_13 : decode cX6_waits 13 = .ok (.aload_n 0, 1) := by decide +kernel
theorem dX6_waits_14 : decode cX6_waits 14 = .ok (.getfield 12, 3) := by decide +kernel
theorem dX6_waits_17 : decode cX6_waits 17 = .ok (.iload_n 1, 1) := by decide +kernel
theorem dX6_waits_18 : decode cX6_waits 18 = .ok (.invokevirtual 70, 3) := by decide +kernel
theorem dX6_waits_21 : decode cX6_waits 21 = .ok (.astore_n 2, 1) := by decide +kernel
theorem dX6_waits_22 : decode cX6_waits 22 = .ok (.aload_n 0, 1) := by decide +kernel
theorem dX6_waits_23 : decode cX6_waits 23 = .ok (.aload_n 2, 1) := by decide +kernel
theorem dX6_waits_24 : decode cX6_waits 24 = .ok (.invokevirtual 158, 3) := by decide +kernel
theorem dX6_waits_27 : decode cX6_waits 27 = .ok (.istore_n 3, 1) := by decide +kernel
theorem dX6_waits_28 : decode cX6_waits 28 = .ok (.iconst 0, 1) := by decide +kernel
theorem dX6_waits_29 : decode cX6_waits 29 = .ok (.istore 4, 2) := by decide +kernel
theorem dX6_waits_31 : decode cX6_waits 31 = .ok (.iconst 1, 1) := by decide +kernel
theorem dX6_waits_32 : decode cX6_waits 32 = .ok (.istore 5, 2) := by decide +kernel
theorem dX6_waits_34 : decode cX6_waits 34 = .ok (.iload 5, 2) := by decide +kernel
theorem dX6_waits_36 : decode cX6_waits 36 = .ok (.bipush 12, 2) := by decide +kernel
theorem dX6_waits_38 : decode cX6_waits 38 = .ok (.if_icmp .gt 49, 3) := by decide +kernel
theorem dX6_waits_41 : decode cX6_waits 41 = .ok (.aload_n 2, 1) := by decide +kernel
theorem dX6_waits_42 : decode cX6_waits 42 = .ok (.iload_n 3, 1) := by decide +kernel
theorem dX6_waits_43 : decode cX6_waits 43 = .ok (.invokevirtual 178, 3) := by decide +kernel
theorem dX6_waits_46 : decode cX6_waits 46 = .ok (.istore 6, 2) := by decide +kernel
theorem dX6_waits_48 : decode cX6_waits 48 = .ok (.iload 6, 2) := by decide +kernel
theorem dX6_waits_50 : decode cX6_waits 50 = .ok (.invokestatic 113, 3) := by decide +kernel
theorem dX6_waits_53 : decode cX6_waits 53 = .ok (.ifCond .ne 6, 3) := by decide +kernel
theorem dX6_waits_56 : decode cX6_waits 56 = .ok (.iload 4, 2) := by decide +kernel
theorem dX6_waits_58 : decode cX6_waits 58 = .ok (.ireturn, 1) := by decide +kernel
theorem dX6_waits_59 : decode cX6_waits 59 = .ok (.iload 4, 2) := by decide +kernel
theorem dX6_waits_61 : decode cX6_waits 61 = .ok (.aload_n 2, 1) := by decide +kernel
theorem dX6_waits_62 : decode cX6_waits 62 = .ok (.getfield 119, 3) := by decide +kernel
theorem dX6_waits_65 : decode cX6_waits 65 = .ok (.iload 6, 2) := by decide +kernel
theorem dX6_waits_67 : decode cX6_waits 67 = .ok (.iaload, 1) := by decide +kernel
theorem dX6_waits_68 : decode cX6_waits 68 = .ok (.iload 5, 2) := by decide +kernel
theorem dX6_waits_70 : decode cX6_waits 70 = .ok (.imul, 1) := by decide +kernel
theorem dX6_waits_71 : decode cX6_waits 71 = .ok (.iadd, 1) := by decide +kernel
theorem dX6_waits_72 : decode cX6_waits 72 = .ok (.istore 4, 2) := by decide +kernel
theorem dX6_waits_74 : decode cX6_waits 74 = .ok (.iload_n 3, 1) := by decide +kernel
theorem dX6_waits_75 : decode cX6_waits 75 = .ok (.iconst 1, 1) := by decide +kernel
theorem dX6_waits_76 : decode cX6_waits 76 = .ok (.iload 6, 2) := by decide +kernel
theorem dX6_waits_78 : decode cX6_waits 78 = .ok (.ishl, 1) := by decide +kernel
theorem dX6_waits_79 : decode cX6_waits 79 = .ok (.ior, 1) := by decide +kernel
theorem dX6_waits_80 : decode cX6_waits 80 = .ok (.istore_n 3, 1) := by decide +kernel
theorem dX6_waits_81 : decode cX6_waits 81 = .ok (.iinc 5 1, 3) := by decide +kernel
theorem dX6_waits_84 : decode cX6_waits 84 = .ok (.goto (-50), 3) := by decide +kernel
theorem dX6_waits_87 : decode cX6_waits 87 = .ok (.iload 4, 2) := by decide +kernel
theorem dX6_waits_89 : decode cX6_waits 89 = .ok (.ireturn, 1) := by decide +kernel
theorem dX6_change_0 : decode cX6_change 0 = .ok (.iload_n 1, 1) := by decide +kernel
theorem dX6_change_1 : decode cX6_change 1 = .ok (.invokestatic 66, 3) := by decide +kernel
theorem dX6_change_4 : decode cX6_change 4 = .ok (.ifCond .eq 21, 3) := by decide +kernel
theorem dX6_change_7 : decode cX6_change 7 = .ok (.aload_n 0, 1) := by decide +kernel
theorem dX6_change_8 : decode cX6_change 8 = .ok (.getfield 12, 3) := by decide +kernel
theorem dX6_change_11 : decode cX6_change 11 = .ok (.iload_n 1, 1) := by decide +kernel
theorem dX6_change_12 : decode cX6_change 12 = .ok (.invokevirtual 70, 3) := by decide +kernel
theorem dX6_change_15 : decode cX6_change 15 = .ok (.getfield 74, 3) := by decide +kernel
theorem dX6_change_18 : decode cX6_change 18 = .ok (.iload_n 2, 1) := by decide +kernel
theorem dX6_change_19 : decode cX6_change 19 = .ok (.invokevirtual 98, 3) := by decide +kernel
theorem dX6_change_22 : decode cX6_change 22 = .ok (.ifCond .ne 9, 3) := by decide +kernel
theorem dX6_change_25 : decode cX6_change 25 = .ok (.aload_n 0, 1) := by decide +kernel
theorem dX6_change_26 : decode cX6_change 26 = .ok (.iconst (-1), 1) := by decide +kernel
theorem dX6_change_27 : decode cX6_change 27 = .ok (.invokevirtual 55, 3) := by decide +kernel
theorem dX6_change_30 : decode cX6_change 30 = .ok (.ireturn, 1) := by decide +kernel
theorem dX6_change_31 : decode cX6_change 31 = .ok (.aload_n 0, 1) := by decide +kernel
theorem dX6_change_32 : decode cX6_change 32 = .ok (.getfield 12, 3) := by decide +kernel
theorem dX6_change_35 : decode cX6_change 35 = .ok (.getfield 181, 3) := by decide +kernel
theorem dX6_change_38 : decode cX6_change 38 = .ok (.getfield 185, 3) := by decide +kernel
theorem dX6_change_41 : decode cX6_change 41 = .ok (.invokevirtual 78, 3) := by decide +kernel
theorem dX6_change_44 : decode cX6_change 44 = .ok (.ifCond .eq 10, 3) := by decide +kernel
theorem dX6_change_47 : decode cX6_change 47 = .ok (.aload_n 0, 1) := by decide +kernel
theorem dX6_change_48 : decode cX6_change 48 = .ok (.bipush (-6), 2) := by decide +kernel
theorem dX6_change_50 : decode cX6_change 50 = .ok (.invokevirtual 55, 3) := by decide +kernel
theorem dX6_change_53 : decode cX6_change 53 = .ok (.ireturn, 1) := by decide +kernel
theorem dX6_change_54 : decode cX6_change 54 = .ok (.aload_n 0, 1) := by decide +kernel
theorem dX6_change_55 : decode cX6_change 55 = .ok (.getfield 26, 3) := by decide +kernel
theorem dX6_change_58 : decode cX6_change 58 = .ok (.invokevirtual 84, 3) := by decide +kernel
theorem dX6_change_61 : decode cX6_change 61 = .ok (.istore_n 3, 1) := by decide +kernel
theorem dX6_change_62 : decode cX6_change 62 = .ok (.aload_n 0, 1) := by decide +kernel
theorem dX6_change_63 : decode cX6_change 63 = .ok (.getfield 26, 3) := by decide +kernel
theorem dX6_change_66 : decode cX6_change 66 = .ok (.iconst 0, 1) := by decide +kernel
theorem dX6_change_67 : decode cX6_change 67 = .ok (.putfield 59, 3) := by decide +kernel
theorem dX6_change_70 : decode cX6_change 70 = .ok (.iload_n 3, 1) := by decide +kernel
theorem dX6_change_71 : decode cX6_change 71 = .ok (.ifCond .lt 8, 3) := by decide +kernel
theorem dX6_change_74 : decode cX6_change 74 = .ok (.bipush (-20), 2) := by decide +kernel
theorem dX6_change_76 : decode cX6_change 76 = .ok (.iload_n 3, 1) := by decide +kernel
theorem dX6_change_77 : decode cX6_change 77 = .ok (.isub, 1) := by decide +kernel
theorem dX6_change_78 : decode cX6_change 78 = .ok (.ireturn, 1) := by decide +kernel
theorem dX6_change_79 : decode cX6_change 79 = .ok (.aload_n 0, 1) := by decide +kernel
theorem dX6_change_80 : decode cX6_change 80 = .ok (.getfield 26, 3) := by decide +kernel
theorem dX6_change_83 : decode cX6_change 83 = .ok (.getfield 88, 3) := by decide +kernel
theorem dX6_change_86 : decode cX6_change 86 = .ok (.aload_n 0, 1) := by decide +kernel
theorem dX6_change_87 : decode cX6_change 87 = .ok (.getfield 12, 3) := by decide +kernel
theorem dX6_change_90 : decode cX6_change 90 = .ok (.iload_n 1, 1) := by decide +kernel
theorem dX6_change_91 : decode cX6_change 91 = .ok (.invokevirtual 70, 3) := by decide +kernel
theorem dX6_change_94 : decode cX6_change 94 = .ok (.getfield 74, 3) := by decide +kernel
theorem dX6_change_97 : decode cX6_change 97 = .ok (.getfield 101, 3) := by decide +kernel
theorem dX6_change_100 : decode cX6_change 100 = .ok (.iload_n 2, 1) := by decide +kernel
theorem dX6_change_101 : decode cX6_change 101 = .ok (.iaload, 1) := by decide +kernel
theorem dX6_change_102 : decode cX6_change 102 = .ok (.if_icmp .eq 10, 3) := by decide +kernel
theorem dX6_change_105 : decode cX6_change 105 = .ok (.aload_n 0, 1) := by decide +kernel
theorem dX6_change_106 : decode cX6_change 106 = .ok (.bipush (-3), 2) := by decide +kernel
theorem dX6_change_108 : decode cX6_change 108 = .ok (.invokevirtual 55, 3) := by decide +kernel
theorem dX6_change_111 : decode cX6_change 111 = .ok (.ireturn, 1) := by decide +kernel
theorem dX6_change_112 : decode cX6_change 112 = .ok (.aload_n 0, 1) := by decide +kernel
theorem dX6_change_113 : decode cX6_change 113 = .ok (.getfield 12, 3) := by decide +kernel
theorem dX6_change_116 : decode cX6_change 116 = .ok (.getfield 181, 3) := by decide +kernel
theorem dX6_change_119 : decode cX6_change 119 = .ok (.iload_n 1, 1) := by decide +kernel
theorem dX6_change_120 : decode cX6_change 120 = .ok (.iload_n 2, 1) := by decide +kernel
theorem dX6_change_121 : decode cX6_change 121 = .ok (.aload_n 0, 1) := by decide +kernel
theorem dX6_change_122 : decode cX6_change 122 = .ok (.getfield 26, 3) := by decide +kernel
theorem dX6_change_125 : decode cX6_change 125 = .ok (.invokevirtual 190, 3) := by decide +kernel
theorem dX6_change_128 : decode cX6_change 128 = .ok (.ireturn, 1) := by decide +kernel
theorem dX6_mend_0 : decode cX6_mend 0 = .ok (.iload_n 1, 1) := by decide +kernel
theorem dX6_mend_1 : decode cX6_mend 1 = .ok (.invokestatic 66, 3) := by decide +kernel
theorem dX6_mend_4 : decode cX6_mend 4 = .ok (.ifCond .ne 9, 3) := by decide +kernel
theorem dX6_mend_7 : decode cX6_mend 7 = .ok (.aload_n 0, 1) := by decide +kernel
theorem dX6_mend_8 : decode cX6_mend 8 = .ok (.iconst (-1), 1) := by decide +kernel
theorem dX6_mend_9 : decode cX6_mend 9 = .ok (.invokevirtual 55, 3) := by decide +kernel
theorem dX6_mend_12 : decode cX6_mend 12 = .ok (.ireturn, 1) := by decide +kernel
theorem dX6_mend_13 : decode cX6_mend 13 = .ok (.aload_n 0, 1) := by decide +kernel
theorem dX6_mend_14 : decode cX6_mend 14 = .ok (.getfield 12, 3) := by decide +kernel
theorem dX6_mend_17 : decode cX6_mend 17 = .ok (.getfield 181, 3) := by decide +kernel
theorem dX6_mend_20 : decode cX6_mend 20 = .ok (.iload_n 1, 1) := by decide +kernel
theorem dX6_mend_21 : decode cX6_mend 21 = .ok (.invokevirtual 193, 3) := by decide +kernel
theorem dX6_mend_24 : decode cX6_mend 24 = .ok (.istore_n 2, 1) := by decide +kernel
theorem dX6_mend_25 : decode cX6_mend 25 = .ok (.iconst 0, 1) := by decide +kernel
theorem dX6_mend_26 : decode cX6_mend 26 = .ok (.istore_n 3, 1) := by decide +kernel
theorem dX6_mend_27 : decode cX6_mend 27 = .ok (.bipush 13, 2) := by decide +kernel
theorem dX6_mend_29 : decode cX6_mend 29 = .ok (.istore 4, 2) := by decide +kernel
theorem dX6_mend_31 : decode cX6_mend 31 = .ok (.iconst 0, 1) := by decide +kernel
theorem dX6_mend_32 : decode cX6_mend 32 = .ok (.istore 5, 2) := by decide +kernel
theorem dX6_mend_34 : decode cX6_mend 34 = .ok (.iload 5, 2) := by decide +kernel
theorem dX6_mend_36 : decode cX6_mend 36 = .ok (.bipush 16, 2) := by decide +kernel
theorem dX6_mend_38 : decode cX6_mend 38 = .ok (.if_icmp .ge 82, 3) := by decide +kernel
theorem dX6_mend_41 : decode cX6_mend 41 = .ok (.iload 5, 2) := by decide +kernel
theorem dX6_mend_43 : decode cX6_mend 43 = .ok (.iload_n 2, 1) := by decide +kernel
theorem dX6_mend_44 : decode cX6_mend 44 = .ok (.iconst (-1), 1) := by decide +kernel
theorem dX6_mend_45 : decode cX6_mend 45 = .ok (.ixor, 1) := by decide +kernel
theorem dX6_mend_46 : decode cX6_mend 46 = .ok (.iand, 1) := by decide +kernel
theorem dX6_mend_47 : decode cX6_mend 47 = .ok (.ifCond .eq 6, 3) := by decide +kernel
theorem dX6_mend_50 : decode cX6_mend 50 = .ok (.goto 64, 3) := by decide +kernel
theorem dX6_mend_53 : decode cX6_mend 53 = .ok (.aload_n 0, 1) := by decide +kernel
theorem dX6_mend_54 : decode cX6_mend 54 = .ok (.aload_n 0, 1) := by decide +kernel
theorem dX6_mend_55 : decode cX6_mend 55 = .ok (.getfield 12, 3) := by decide +kernel
theorem dX6_mend_58 : decode cX6_mend 58 = .ok (.iload_n 1, 1) := by decide +kernel
theorem dX6_mend_59 : decode cX6_mend 59 = .ok (.invokevirtual 70, 3) := by decide +kernel
theorem dX6_mend_62 : decode cX6_mend 62 = .ok (.iload 5, 2) := by decide +kernel
theorem dX6_mend_64 : decode cX6_mend 64 = .ok (.invokevirtual 196, 3) := by decide +kernel
theorem dX6_mend_67 : decode cX6_mend 67 = .ok (.istore 6, 2) := by decide +kernel
theorem dX6_mend_69 : decode cX6_mend 69 = .ok (.iload 6, 2) := by decide +kernel
theorem dX6_mend_71 : decode cX6_mend 71 = .ok (.iload 4, 2) := by decide +kernel
theorem dX6_mend_73 : decode cX6_mend 73 = .ok (.if_icmp .ne 19, 3) := by decide +kernel
theorem dX6_mend_76 : decode cX6_mend 76 = .ok (.iload 5, 2) := by decide +kernel
theorem dX6_mend_78 : decode cX6_mend 78 = .ok (.invokestatic 199, 3) := by decide +kernel
theorem dX6_mend_81 : decode cX6_mend 81 = .ok (.iload_n 3, 1) := by decide +kernel
theorem dX6_mend_82 : decode cX6_mend 82 = .ok (.invokestatic 199, 3) := by decide +kernel
theorem dX6_mend_85 : decode cX6_mend 85 = .ok (.if_icmp .ge 7, 3) := by decide +kernel
theorem dX6_mend_88 : decode cX6_mend 88 = .ok (.iconst 1, 1) := by decide +kernel
theorem dX6_mend_89 : decode cX6_mend 89 = .ok (.goto 4, 3) := by decide +kernel
theorem dX6_mend_92 : decode cX6_mend 92 = .ok (.iconst 0, 1) := by decide +kernel
theorem dX6_mend_93 : decode cX6_mend 93 = .ok (.istore 7, 2) := by decide +kernel
theorem dX6_mend_95 : decode cX6_mend 95 = .ok (.iload 6, 2) := by decide +kernel
theorem dX6_mend_97 : decode cX6_mend 97 = .ok (.iload 4, 2) := by decide +kernel
theorem dX6_mend_99 : decode cX6_mend 99 = .ok (.if_icmp .lt 8, 3) := by decide +kernel
theorem dX6_mend_102 : decode cX6_mend 102 = .ok (.iload 7, 2) := by decide +kernel
theorem dX6_mend_104 : decode cX6_mend 104 = .ok (.ifCond .eq 10, 3) := by decide +kernel
theorem dX6_mend_107 : decode cX6_mend 107 = .ok (.iload 5, 2) := by decide +kernel
theorem dX6_mend_109 : decode cX6_mend 109 = .ok (.istore_n 3, 1) := by decide +kernel
theorem dX6_mend_110 : decode cX6_mend 110 = .ok (.iload 6, 2) := by decide +kernel
theorem dX6_mend_112 : decode cX6_mend 112 = .ok (.istore 4, 2) := by decide +kernel
theorem dX6_mend_114 : decode cX6_mend 114 = .ok (.iinc 5 1, 3) := by decide +kernel
theorem dX6_mend_117 : decode cX6_mend 117 = .ok (.goto (-83), 3) := by decide +kernel
theorem dX6_mend_120 : decode cX6_mend 120 = .ok (.iload_n 3, 1) := by decide +kernel
theorem dX6_mend_121 : decode cX6_mend 121 = .ok (.ireturn, 1) := by decide +kernel
theorem dX6_spread_0 : decode cX6_spread 0 = .ok (.iload_n 1, 1) := by decide +kernel
theorem dX6_spread_1 : decode cX6_spread 1 = .ok (.invokestatic 66, 3) := by decide +kernel
theorem dX6_spread_4 : decode cX6_spread 4 = .ok (.ifCond .eq 17, 3) := by decide +kernel
theorem dX6_spread_7 : decode cX6_spread 7 = .ok (.iload_n 2, 1) := by decide +kernel
theorem dX6_spread_8 : decode cX6_spread 8 = .ok (.invokestatic 129, 3) := by decide +kernel
theorem dX6_spread_11 : decode cX6_spread 11 = .ok (.ifCond .eq 10, 3) := by decide +kernel
theorem dX6_spread_14 : decode cX6_spread 14 = .ok (.iload_n 3, 1) := by decide +kernel
theorem dX6_spread_15 : decode cX6_spread 15 = .ok (.invokestatic 113, 3) := by decide +kernel
theorem dX6_spread_18 : decode cX6_spread 18 = .ok (.ifCond .ne 9, 3) := by decide +kernel
theorem dX6_spread_21 : decode cX6_spread 21 = .ok (.aload_n 0, 1) := by decide +kernel
theorem dX6_spread_22 : decode cX6_spread 22 = .ok (.iconst (-1), 1) := by decide +kernel
theorem dX6_spread_23 : decode cX6_spread 23 = .ok (.invokevirtual 55, 3) := by decide +kernel
theorem dX6_spread_26 : decode cX6_spread 26 = .ok (.ireturn, 1) := by decide +kernel
theorem dX6_spread_27 : decode cX6_spread 27 = .ok (.iload_n 2, 1) := by decide +kernel
theorem dX6_spread_28 : decode cX6_spread 28 = .ok (.iload_n 3, 1) := by decide +kernel
theorem dX6_spread_29 : decode cX6_spread 29 = .ok (.invokestatic 125, 3) := by decide +kernel
theorem dX6_spread_32 : decode cX6_spread 32 = .ok (.ifCond .ne 10, 3) := by decide +kernel
theorem dX6_spread_35 : decode cX6_spread 35 = .ok (.aload_n 0, 1) := by decide +kernel
theorem dX6_spread_36 : decode cX6_spread 36 = .ok (.bipush (-3), 2) := by decide +kernel
theorem dX6_spread_38 : decode cX6_spread 38 = .ok (.invokevirtual 55, 3) := by decide +kernel
theorem dX6_spread_41 : decode cX6_spread 41 = .ok (.ireturn, 1) := by decide +kernel
theorem dX6_spread_42 : decode cX6_spread 42 = .ok (.aload_n 0, 1) := by decide +kernel
theorem dX6_spread_43 : decode cX6_spread 43 = .ok (.getfield 12, 3) := by decide +kernel
theorem dX6_spread_46 : decode cX6_spread 46 = .ok (.iload_n 1, 1) := by decide +kernel
theorem dX6_spread_47 : decode cX6_spread 47 = .ok (.invokevirtual 70, 3) := by decide +kernel
theorem dX6_spread_50 : decode cX6_spread 50 = .ok (.iload_n 2, 1) := by decide +kernel
theorem dX6_spread_51 : decode cX6_spread 51 = .ok (.iload_n 3, 1) := by decide +kernel
theorem dX6_spread_52 : decode cX6_spread 52 = .ok (.invokevirtual 204, 3) := by decide +kernel
theorem dX6_spread_55 : decode cX6_spread 55 = .ok (.ireturn, 1) := by decide +kernel
theorem dX6_shows_0 : decode cX6_shows 0 = .ok (.iload_n 1, 1) := by decide +kernel
theorem dX6_shows_1 : decode cX6_shows 1 = .ok (.invokestatic 66, 3) := by decide +kernel
theorem dX6_shows_4 : decode cX6_shows 4 = .ok (.ifCond .eq 17, 3) := by decide +kernel
theorem dX6_shows_7 : decode cX6_shows 7 = .ok (.iload_n 2, 1) := by decide +kernel
theorem dX6_shows_8 : decode cX6_shows 8 = .ok (.invokestatic 129, 3) := by decide +kernel
theorem dX6_shows_11 : decode cX6_shows 11 = .ok (.ifCond .eq 10, 3) := by decide +kernel
theorem dX6_shows_14 : decode cX6_shows 14 = .ok (.iload_n 3, 1) := by decide +kernel
theorem dX6_shows_15 : decode cX6_shows 15 = .ok (.invokestatic 113, 3) := by decide +kernel
theorem dX6_shows_18 : decode cX6_shows 18 = .ok (.ifCond .ne 9, 3) := by decide +kernel
theorem dX6_shows_21 : decode cX6_shows 21 = .ok (.aload_n 0, 1) := by decide +kernel
theorem dX6_shows_22 : decode cX6_shows 22 = .ok (.iconst (-1), 1) := by decide +kernel
theorem dX6_shows_23 : decode cX6_shows 23 = .ok (.invokevirtual 55, 3) := by decide +kernel
theorem dX6_shows_26 : decode cX6_shows 26 = .ok (.ireturn, 1) := by decide +kernel
theorem dX6_shows_27 : decode cX6_shows 27 = .ok (.iload_n 2, 1) := by decide +kernel
theorem dX6_shows_28 : decode cX6_shows 28 = .ok (.iload_n 3, 1) := by decide +kernel
theorem dX6_shows_29 : decode cX6_shows 29 = .ok (.invokestatic 125, 3) := by decide +kernel
theorem dX6_shows_32 : decode cX6_shows 32 = .ok (.ifCond .ne 10, 3) := by decide +kernel
theorem dX6_shows_35 : decode cX6_shows 35 = .ok (.aload_n 0, 1) := by decide +kernel
theorem dX6_shows_36 : decode cX6_shows 36 = .ok (.bipush (-3), 2) := by decide +kernel
theorem dX6_shows_38 : decode cX6_shows 38 = .ok (.invokevirtual 55, 3) := by decide +kernel
theorem dX6_shows_41 : decode cX6_shows 41 = .ok (.ireturn, 1) := by decide +kernel
theorem dX6_shows_42 : decode cX6_shows 42 = .ok (.aload_n 0, 1) := by decide +kernel
theorem dX6_shows_43 : decode cX6_shows 43 = .ok (.getfield 12, 3) := by decide +kernel
theorem dX6_shows_46 : decode cX6_shows 46 = .ok (.iload_n 1, 1) := by decide +kernel
theorem dX6_shows_47 : decode cX6_shows 47 = .ok (.invokevirtual 70, 3) := by decide +kernel
theorem dX6_shows_50 : decode cX6_shows 50 = .ok (.astore 4, 2) := by decide +kernel
theorem dX6_shows_52 : decode cX6_shows 52 = .ok (.aload 4, 2) := by decide +kernel
theorem dX6_shows_54 : decode cX6_shows 54 = .ok (.iload_n 2, 1) := by decide +kernel
theorem dX6_shows_55 : decode cX6_shows 55 = .ok (.iload_n 3, 1) := by decide +kernel
theorem dX6_shows_56 : decode cX6_shows 56 = .ok (.invokevirtual 204, 3) := by decide +kernel
theorem dX6_shows_59 : decode cX6_shows 59 = .ok (.aload 4, 2) := by decide +kernel
theorem dX6_shows_61 : decode cX6_shows 61 = .ok (.getfield 74, 3) := by decide +kernel
theorem dX6_shows_64 : decode cX6_shows 64 = .ok (.invokevirtual 207, 3) := by decide +kernel
theorem dX6_shows_67 : decode cX6_shows 67 = .ok (.iand, 1) := by decide +kernel
theorem dX6_shows_68 : decode cX6_shows 68 = .ok (.invokestatic 210, 3) := by decide +kernel
theorem dX6_shows_71 : decode cX6_shows 71 = .ok (.ireturn, 1) := by decide +kernel
theorem dX6_carries_0 : decode cX6_carries 0 = .ok (.iload_n 1, 1) := by decide +kernel
theorem dX6_carries_1 : decode cX6_carries 1 = .ok (.invokestatic 66, 3) := by decide +kernel
theorem dX6_carries_4 : decode cX6_carries 4 = .ok (.ifCond .ne 9, 3) := by decide +kernel
theorem dX6_carries_7 : decode cX6_carries 7 = .ok (.aload_n 0, 1) := by decide +kernel
theorem dX6_carries_8 : decode cX6_carries 8 = .ok (.iconst (-1), 1) := by decide +kernel
theorem dX6_carries_9 : decode cX6_carries 9 = .ok (.invokevirtual 55, 3) := by decide +kernel
theorem dX6_carries_12 : decode cX6_carries 12 = .ok (.ireturn, 1) := by decide +kernel
theorem dX6_carries_13 : decode cX6_carries 13 = .ok (.aload_n 0, 1) := by decide +kernel
theorem dX6_carries_14 : decode cX6_carries 14 = .ok (.aload_n 0, 1) := by decide +kernel
theorem dX6_carries_15 : decode cX6_carries 15 = .ok (.getfield 12, 3) := by decide +kernel
theorem dX6_carries_18 : decode cX6_carries 18 = .ok (.iload_n 1, 1) := by decide +kernel
theorem dX6_carries_19 : decode cX6_carries 19 = .ok (.invokevirtual 70, 3) := by decide +kernel
theorem dX6_carries_22 : decode cX6_carries 22 = .ok (.invokevirtual 158, 3) := by decide +kernel
theorem dX6_carries_25 : decode cX6_carries 25 = .ok (.istore_n 2, 1) := by decide +kernel
theorem dX6_carries_26 : decode cX6_carries 26 = .ok (.aload_n 0, 1) := by decide +kernel
theorem dX6_carries_27 : decode cX6_carries 27 = .ok (.getfield 12, 3) := by decide +kernel
theorem dX6_carries_30 : decode cX6_carries 30 = .ok (.iconst 1, 1) := by decide +kernel
theorem dX6_carries_31 : decode cX6_carries 31 = .ok (.iload_n 1, 1) := by decide +kernel
theorem dX6_carries_32 : decode cX6_carries 32 = .ok (.isub, 1) := by decide +kernel
theorem dX6_carries_33 : decode cX6_carries 33 = .ok (.invokevirtual 70, 3) := by decide +kernel
theorem dX6_carries_36 : decode cX6_carries 36 = .ok (.iload_n 2, 1) := by decide +kernel
theorem dX6_carries_37 : decode cX6_carries 37 = .ok (.invokevirtual 136, 3) := by decide +kernel
theorem dX6_carries_40 : decode cX6_carries 40 = .ok (.sipush 4095, 3) := by decide +kernel
theorem dX6_carries_43 : decode cX6_carries 43 = .ok (.if_icmp .ne 7, 3) := by decide +kernel
theorem dX6_carries_46 : decode cX6_carries 46 = .ok (.iconst 1, 1) := by decide +kernel
theorem dX6_carries_47 : decode cX6_carries 47 = .ok (.goto 4, 3) := by decide +kernel
theorem dX6_carries_50 : decode cX6_carries 50 = .ok (.iconst 0, 1) := by decide +kernel
theorem dX6_carries_51 : decode cX6_carries 51 = .ok (.ireturn, 1) := by decide +kernel
theorem dX6_lacks_0 : decode cX6_lacks 0 = .ok (.iload_n 1, 1) := by decide +kernel
theorem dX6_lacks_1 : decode cX6_lacks 1 = .ok (.invokestatic 66, 3) := by decide +kernel
theorem dX6_lacks_4 : decode cX6_lacks 4 = .ok (.ifCond .ne 9, 3) := by decide +kernel
theorem dX6_lacks_7 : decode cX6_lacks 7 = .ok (.aload_n 0, 1) := by decide +kernel
theorem dX6_lacks_8 : decode cX6_lacks 8 = .ok (.iconst (-1), 1) := by decide +kernel
theorem dX6_lacks_9 : decode cX6_lacks 9 = .ok (.invokevirtual 55, 3) := by decide +kernel
theorem dX6_lacks_12 : decode cX6_lacks 12 = .ok (.ireturn, 1) := by decide +kernel
theorem dX6_lacks_13 : decode cX6_lacks 13 = .ok (.aload_n 0, 1) := by decide +kernel
theorem dX6_lacks_14 : decode cX6_lacks 14 = .ok (.aload_n 0, 1) := by decide +kernel
theorem dX6_lacks_15 : decode cX6_lacks 15 = .ok (.getfield 12, 3) := by decide +kernel
theorem dX6_lacks_18 : decode cX6_lacks 18 = .ok (.iload_n 1, 1) := by decide +kernel
theorem dX6_lacks_19 : decode cX6_lacks 19 = .ok (.invokevirtual 70, 3) := by decide +kernel
theorem dX6_lacks_22 : decode cX6_lacks 22 = .ok (.invokevirtual 158, 3) := by decide +kernel
theorem dX6_lacks_25 : decode cX6_lacks 25 = .ok (.istore_n 2, 1) := by decide +kernel
theorem dX6_lacks_26 : decode cX6_lacks 26 = .ok (.aload_n 0, 1) := by decide +kernel
theorem dX6_lacks_27 : decode cX6_lacks 27 = .ok (.getfield 51, 3) := by decide +kernel
theorem dX6_lacks_30 : decode cX6_lacks 30 = .ok (.aload_n 0, 1) := by decide +kernel
theorem dX6_lacks_31 : decode cX6_lacks 31 = .ok (.getfield 12, 3) := by decide +kernel
theorem dX6_lacks_34 : decode cX6_lacks 34 = .ok (.iconst 1, 1) := by decide +kernel
theorem dX6_lacks_35 : decode cX6_lacks 35 = .ok (.iload_n 1, 1) := by decide +kernel
theorem dX6_lacks_36 : decode cX6_lacks 36 = .ok (.isub, 1) := by decide +kernel
theorem dX6_lacks_37 : decode cX6_lacks 37 = .ok (.invokevirtual 70, 3) := by decide +kernel
theorem dX6_lacks_40 : decode cX6_lacks 40 = .ok (.iload_n 2, 1) := by decide +kernel
theorem dX6_lacks_41 : decode cX6_lacks 41 = .ok (.invokevirtual 162, 3) := by decide +kernel
theorem dX6_lacks_44 : decode cX6_lacks 44 = .ok (.aload_n 0, 1) := by decide +kernel
theorem dX6_lacks_45 : decode cX6_lacks 45 = .ok (.getfield 51, 3) := by decide +kernel
theorem dX6_lacks_48 : decode cX6_lacks 48 = .ok (.getfield 213, 3) := by decide +kernel
theorem dX6_lacks_51 : decode cX6_lacks 51 = .ok (.iload_n 2, 1) := by decide +kernel
theorem dX6_lacks_52 : decode cX6_lacks 52 = .ok (.iconst (-1), 1) := by decide +kernel
theorem dX6_lacks_53 : decode cX6_lacks 53 = .ok (.ixor, 1) := by decide +kernel
theorem dX6_lacks_54 : decode cX6_lacks 54 = .ok (.iand, 1) := by decide +kernel
theorem dX6_lacks_55 : decode cX6_lacks 55 = .ok (.ireturn, 1) := by decide +kernel
theorem dX6_image_0 : decode cX6_image 0 = .ok (.aload_n 0, 1) := by decide +kernel
theorem dX6_image_1 : decode cX6_image 1 = .ok (.getfield 16, 3) := by decide +kernel
theorem dX6_image_4 : decode cX6_image 4 = .ok (.aload_n 0, 1) := by decide +kernel
theorem dX6_image_5 : decode cX6_image 5 = .ok (.getfield 12, 3) := by decide +kernel
theorem dX6_image_8 : decode cX6_image 8 = .ok (.invokevirtual 216, 3) := by decide +kernel
theorem dX6_image_11 : decode cX6_image 11 = .ok (.aload_n 0, 1) := by decide +kernel
theorem dX6_image_12 : decode cX6_image 12 = .ok (.iconst 1, 1) := by decide +kernel
theorem dX6_image_13 : decode cX6_image 13 = .ok (.putfield 19, 3) := by decide +kernel
theorem dX6_image_16 : decode cX6_image 16 = .ok (.aload_n 0, 1) := by decide +kernel
theorem dX6_image_17 : decode cX6_image 17 = .ok (.getfield 12, 3) := by decide +kernel
theorem dX6_image_20 : decode cX6_image 20 = .ok (.invokevirtual 220, 3) := by decide +kernel
theorem dX6_image_23 : decode cX6_image 23 = .ok (.ireturn, 1) := by decide +kernel
theorem dX6_on_0 : decode cX6_on 0 = .ok (.aload_n 0, 1) := by decide +kernel
theorem dX6_on_1 : decode cX6_on 1 = .ok (.getfield 19, 3) := by decide +kernel
theorem dX6_on_4 : decode cX6_on 4 = .ok (.ifCond .ne 10, 3) := by decide +kernel
theorem dX6_on_7 : decode cX6_on 7 = .ok (.aload_n 0, 1) := by decide +kernel
theorem dX6_on_8 : decode cX6_on 8 = .ok (.bipush (-3), 2) := by decide +kernel
theorem dX6_on_10 : decode cX6_on 10 = .ok (.invokevirtual 55, 3) := by decide +kernel
theorem dX6_on_13 : decode cX6_on 13 = .ok (.ireturn, 1) := by decide +kernel
theorem dX6_on_14 : decode cX6_on 14 = .ok (.aload_n 0, 1) := by decide +kernel
theorem dX6_on_15 : decode cX6_on 15 = .ok (.getfield 12, 3) := by decide +kernel
theorem dX6_on_18 : decode cX6_on 18 = .ok (.aload_n 0, 1) := by decide +kernel
theorem dX6_on_19 : decode cX6_on 19 = .ok (.getfield 16, 3) := by decide +kernel
theorem dX6_on_22 : decode cX6_on 22 = .ok (.invokevirtual 216, 3) := by decide +kernel
theorem dX6_on_25 : decode cX6_on 25 = .ok (.aload_n 0, 1) := by decide +kernel
theorem dX6_on_26 : decode cX6_on 26 = .ok (.getfield 12, 3) := by decide +kernel
theorem dX6_on_29 : decode cX6_on 29 = .ok (.invokevirtual 220, 3) := by decide +kernel
theorem dX6_on_32 : decode cX6_on 32 = .ok (.ireturn, 1) := by decide +kernel
theorem dX6_count_0 : decode cX6_count 0 = .ok (.iload_n 1, 1) := by decide +kernel
theorem dX6_count_1 : decode cX6_count 1 = .ok (.tableswitch 77 0 4 #[35, 35, 50, 64, 72], 35) := by decide +kernel
theorem dX6_count_36 : decode cX6_count 36 = .ok (.aload_n 0, 1) := by decide +kernel
theorem dX6_count_37 : decode cX6_count 37 = .ok (.getfield 12, 3) := by decide +kernel
theorem dX6_count_40 : decode cX6_count 40 = .ok (.iload_n 1, 1) := by decide +kernel
theorem dX6_count_41 : decode cX6_count 41 = .ok (.invokevirtual 70, 3) := by decide +kernel
theorem dX6_count_44 : decode cX6_count 44 = .ok (.getfield 74, 3) := by decide +kernel
theorem dX6_count_47 : decode cX6_count 47 = .ok (.getfield 223, 3) := by decide +kernel
theorem dX6_count_50 : decode cX6_count 50 = .ok (.ireturn, 1) := by decide +kernel
theorem dX6_count_51 : decode cX6_count 51 = .ok (.aload_n 0, 1) := by decide +kernel
theorem dX6_count_52 : decode cX6_count 52 = .ok (.getfield 12, 3) := by decide +kernel
theorem dX6_count_55 : decode cX6_count 55 = .ok (.getfield 181, 3) := by decide +kernel
theorem dX6_count_58 : decode cX6_count 58 = .ok (.getfield 185, 3) := by decide +kernel
theorem dX6_count_61 : decode cX6_count 61 = .ok (.getfield 223, 3) := by decide +kernel
theorem dX6_count_64 : decode cX6_count 64 = .ok (.ireturn, 1) := by decide +kernel
theorem dX6_count_65 : decode cX6_count 65 = .ok (.aload_n 0, 1) := by decide +kernel
theorem dX6_count_66 : decode cX6_count 66 = .ok (.getfield 26, 3) := by decide +kernel
theorem dX6_count_69 : decode cX6_count 69 = .ok (.getfield 59, 3) := by decide +kernel
theorem dX6_count_72 : decode cX6_count 72 = .ok (.ireturn, 1) := by decide +kernel
theorem dX6_count_73 : decode cX6_count 73 = .ok (.aload_n 0, 1) := by decide +kernel
theorem dX6_count_74 : decode cX6_count 74 = .ok (.getfield 34, 3) := by decide +kernel
theorem dX6_count_77 : decode cX6_count 77 = .ok (.ireturn, 1) := by decide +kernel
theorem dX6_count_78 : decode cX6_count 78 = .ok (.iload_n 1, 1) := by decide +kernel
theorem dX6_count_79 : decode cX6_count 79 = .ok (.bipush 10, 2) := by decide +kernel
theorem dX6_count_81 : decode cX6_count 81 = .ok (.if_icmp .le 21, 3) := by decide +kernel
theorem dX6_count_84 : decode cX6_count 84 = .ok (.iload_n 1, 1) := by decide +kernel
theorem dX6_count_85 : decode cX6_count 85 = .ok (.bipush 16, 2) := by decide +kernel
theorem dX6_count_87 : decode cX6_count 87 = .ok (.if_icmp .gt 15, 3) := by decide +kernel
theorem dX6_count_90 : decode cX6_count 90 = .ok (.aload_n 0, 1) := by decide +kernel
theorem dX6_count_91 : decode cX6_count 91 = .ok (.getfield 38, 3) := by decide +kernel
theorem dX6_count_94 : decode cX6_count 94 = .ok (.iload_n 1, 1) := by decide +kernel
theorem dX6_count_95 : decode cX6_count 95 = .ok (.bipush 10, 2) := by decide +kernel
theorem dX6_count_97 : decode cX6_count 97 = .ok (.isub, 1) := by decide +kernel
theorem dX6_count_98 : decode cX6_count 98 = .ok (.iaload, 1) := by decide +kernel
theorem dX6_count_99 : decode cX6_count 99 = .ok (.goto 5, 3) := by decide +kernel
theorem dX6_count_102 : decode cX6_count 102 = .ok (.bipush (-9), 2) := by decide +kernel
theorem dX6_count_104 : decode cX6_count 104 = .ok (.ireturn, 1) := by decide +kernel
theorem dX6_refuse_0 : decode cX6_refuse 0 = .ok (.iload_n 1, 1) := by decide +kernel
theorem dX6_refuse_1 : decode cX6_refuse 1 = .ok (.ineg, 1) := by decide +kernel
theorem dX6_refuse_2 : decode cX6_refuse 2 = .ok (.istore_n 2, 1) := by decide +kernel
theorem dX6_refuse_3 : decode cX6_refuse 3 = .ok (.iload_n 2, 1) := by decide +kernel
theorem dX6_refuse_4 : decode cX6_refuse 4 = .ok (.ifCond .le 22, 3) := by decide +kernel
theorem dX6_refuse_7 : decode cX6_refuse 7 = .ok (.iload_n 2, 1) := by decide +kernel
theorem dX6_refuse_8 : decode cX6_refuse 8 = .ok (.aload_n 0, 1) := by decide +kernel
theorem dX6_refuse_9 : decode cX6_refuse 9 = .ok (.getfield 38, 3) := by decide +kernel
theorem dX6_refuse_12 : decode cX6_refuse 12 = .ok (.arraylength, 1) := by decide +kernel
theorem dX6_refuse_13 : decode cX6_refuse 13 = .ok (.if_icmp .ge 13, 3) := by decide +kernel
theorem dX6_refuse_16 : decode cX6_refuse 16 = .ok (.aload_n 0, 1) := by decide +kernel
theorem dX6_refuse_17 : decode cX6_refuse 17 = .ok (.getfield 38, 3) := by decide +kernel
theorem dX6_refuse_20 : decode cX6_refuse 20 = .ok (.iload_n 2, 1) := by decide +kernel
theorem dX6_refuse_21 : decode cX6_refuse 21 = .ok (.dup2, 1) := by decide +kernel
theorem dX6_refuse_22 : decode cX6_refuse 22 = .ok (.iaload, 1) := by decide +kernel
theorem dX6_refuse_23 : decode cX6_refuse 23 = .ok (.iconst 1, 1) := by decide +kernel
theorem dX6_refuse_24 : decode cX6_refuse 24 = .ok (.iadd, 1) := by decide +kernel
theorem dX6_refuse_25 : decode cX6_refuse 25 = .ok (.iastore, 1) := by decide +kernel
theorem dX6_refuse_26 : decode cX6_refuse 26 = .ok (.iload_n 1, 1) := by decide +kernel
theorem dX6_refuse_27 : decode cX6_refuse 27 = .ok (.ireturn, 1) := by decide +kernel
theorem dX6_firstThatMayNot_0 : decode cX6_firstThatMayNot 0 = .ok (.iload_n 2, 1) := by decide +kernel
theorem dX6_firstThatMayNot_1 : decode cX6_firstThatMayNot 1 = .ok (.istore_n 3, 1) := by decide +kernel
theorem dX6_firstThatMayNot_2 : decode cX6_firstThatMayNot 2 = .ok (.iconst 0, 1) := by decide +kernel
theorem dX6_firstThatMayNot_3 : decode cX6_firstThatMayNot 3 = .ok (.istore 4, 2) := by decide +kernel
theorem dX6_firstThatMayNot_5 : decode cX6_firstThatMayNot 5 = .ok (.iload 4, 2) := by decide +kernel
theorem dX6_firstThatMayNot_7 : decode cX6_firstThatMayNot 7 = .ok (.aload_n 0, 1) := by decide +kernel
theorem dX6_firstThatMayNot_8 : decode cX6_firstThatMayNot 8 = .ok (.getfield 34, 3) := by decide +kernel
theorem dX6_firstThatMayNot_11 : decode cX6_firstThatMayNot 11 = .ok (.if_icmp .ge 49, 3) := by decide +kernel
theorem dX6_firstThatMayNot_14 : decode cX6_firstThatMayNot 14 = .ok (.aload_n 0, 1) := by decide +kernel
theorem dX6_firstThatMayNot_15 : decode cX6_firstThatMayNot 15 = .ok (.getfield 30, 3) := by decide +kernel
theorem dX6_firstThatMayNot_18 : decode cX6_firstThatMayNot 18 = .ok (.iload 4, 2) := by decide +kernel
theorem dX6_firstThatMayNot_20 : decode cX6_firstThatMayNot 20 = .ok (.iaload, 1) := by decide +kernel
theorem dX6_firstThatMayNot_21 : decode cX6_firstThatMayNot 21 = .ok (.istore 5, 2) := by decide +kernel
theorem dX6_firstThatMayNot_23 : decode cX6_firstThatMayNot 23 = .ok (.iload 5, 2) := by decide +kernel
theorem dX6_firstThatMayNot_25 : decode cX6_firstThatMayNot 25 = .ok (.invokestatic 113, 3) := by decide +kernel
theorem dX6_firstThatMayNot_28 : decode cX6_firstThatMayNot 28 = .ok (.ifCond .eq 16, 3) := by decide +kernel
theorem dX6_firstThatMayNot_31 : decode cX6_firstThatMayNot 31 = .ok (.aload_n 1, 1) := by decide +kernel
theorem dX6_firstThatMayNot_32 : decode cX6_firstThatMayNot 32 = .ok (.iload_n 3, 1) := by decide +kernel
theorem dX6_firstThatMayNot_33 : decode cX6_firstThatMayNot 33 = .ok (.invokevirtual 224, 3) := by decide +kernel
theorem dX6_firstThatMayNot_36 : decode cX6_firstThatMayNot 36 = .ok (.iload 5, 2) := by decide +kernel
theorem dX6_firstThatMayNot_38 : decode cX6_firstThatMayNot 38 = .ok (.invokestatic 125, 3) := by decide +kernel
theorem dX6_firstThatMayNot_41 : decode cX6_firstThatMayNot 41 = .ok (.ifCond .ne 6, 3) := by decide +kernel
theorem dX6_firstThatMayNot_44 : decode cX6_firstThatMayNot 44 = .ok (.iload 4, 2) := by decide +kernel
theorem dX6_firstThatMayNot_46 : decode cX6_firstThatMayNot 46 = .ok (.ireturn, 1) := by decide +kernel
theorem dX6_firstThatMayNot_47 : decode cX6_firstThatMayNot 47 = .ok (.iload_n 3, 1) := by decide +kernel
theorem dX6_firstThatMayNot_48 : decode cX6_firstThatMayNot 48 = .ok (.iconst 1, 1) := by decide +kernel
theorem dX6_firstThatMayNot_49 : decode cX6_firstThatMayNot 49 = .ok (.iload 5, 2) := by decide +kernel
theorem dX6_firstThatMayNot_51 : decode cX6_firstThatMayNot 51 = .ok (.ishl, 1) := by decide +kernel
theorem dX6_firstThatMayNot_52 : decode cX6_firstThatMayNot 52 = .ok (.ior, 1) := by decide +kernel
theorem dX6_firstThatMayNot_53 : decode cX6_firstThatMayNot 53 = .ok (.istore_n 3, 1) := by decide +kernel
theorem dX6_firstThatMayNot_54 : decode cX6_firstThatMayNot 54 = .ok (.iinc 4 1, 3) := by decide +kernel
theorem dX6_firstThatMayNot_57 : decode cX6_firstThatMayNot 57 = .ok (.goto (-52), 3) := by decide +kernel
theorem dX6_firstThatMayNot_60 : decode cX6_firstThatMayNot 60 = .ok (.bipush (-9), 2) := by decide +kernel
theorem dX6_firstThatMayNot_62 : decode cX6_firstThatMayNot 62 = .ok (.ireturn, 1) := by decide +kernel
theorem dX6_fewestOf_0 : decode cX6_fewestOf 0 = .ok (.aload_n 0, 1) := by decide +kernel
theorem dX6_fewestOf_1 : decode cX6_fewestOf 1 = .ok (.getfield 51, 3) := by decide +kernel
theorem dX6_fewestOf_4 : decode cX6_fewestOf 4 = .ok (.aload_n 1, 1) := by decide +kernel
theorem dX6_fewestOf_5 : decode cX6_fewestOf 5 = .ok (.iconst 0, 1) := by decide +kernel
theorem dX6_fewestOf_6 : decode cX6_fewestOf 6 = .ok (.invokevirtual 162, 3) := by decide +kernel
theorem dX6_fewestOf_9 : decode cX6_fewestOf 9 = .ok (.aload_n 0, 1) := by decide +kernel
theorem dX6_fewestOf_10 : decode cX6_fewestOf 10 = .ok (.getfield 51, 3) := by decide +kernel
theorem dX6_fewestOf_13 : decode cX6_fewestOf 13 = .ok (.getfield 213, 3) := by decide +kernel
theorem dX6_fewestOf_16 : decode cX6_fewestOf 16 = .ok (.ireturn, 1) := by decide +kernel
theorem dX6_fewestWordsAfter_0 : decode cX6_fewestWordsAfter 0 = .ok (.aload_n 0, 1) := by decide +kernel
theorem dX6_fewestWordsAfter_1 : decode cX6_fewestWordsAfter 1 = .ok (.getfield 44, 3) := by decide +kernel
theorem dX6_fewestWordsAfter_4 : decode cX6_fewestWordsAfter 4 = .ok (.aload_n 1, 1) := by decide +kernel
theorem dX6_fewestWordsAfter_5 : decode cX6_fewestWordsAfter 5 = .ok (.invokevirtual 227, 3) := by decide +kernel
theorem dX6_fewestWordsAfter_8 : decode cX6_fewestWordsAfter 8 = .ok (.aload_n 0, 1) := by decide +kernel
theorem dX6_fewestWordsAfter_9 : decode cX6_fewestWordsAfter 9 = .ok (.getfield 12, 3) := by decide +kernel
theorem dX6_fewestWordsAfter_12 : decode cX6_fewestWordsAfter 12 = .ok (.getfield 181, 3) := by decide +kernel
theorem dX6_fewestWordsAfter_15 : decode cX6_fewestWordsAfter 15 = .ok (.aload_n 0, 1) := by decide +kernel
theorem dX6_fewestWordsAfter_16 : decode cX6_fewestWordsAfter 16 = .ok (.getfield 44, 3) := by decide +kernel
theorem dX6_fewestWordsAfter_19 : decode cX6_fewestWordsAfter 19 = .ok (.iload_n 2, 1) := by decide +kernel
theorem dX6_fewestWordsAfter_20 : decode cX6_fewestWordsAfter 20 = .ok (.invokevirtual 230, 3) := by decide +kernel
theorem dX6_fewestWordsAfter_23 : decode cX6_fewestWordsAfter 23 = .ok (.aload_n 0, 1) := by decide +kernel
theorem dX6_fewestWordsAfter_24 : decode cX6_fewestWordsAfter 24 = .ok (.getfield 51, 3) := by decide +kernel
theorem dX6_fewestWordsAfter_27 : decode cX6_fewestWordsAfter 27 = .ok (.aload_n 0, 1) := by decide +kernel
theorem dX6_fewestWordsAfter_28 : decode cX6_fewestWordsAfter 28 = .ok (.getfield 44, 3) := by decide +kernel
theorem dX6_fewestWordsAfter_31 : decode cX6_fewestWordsAfter 31 = .ok (.iconst 0, 1) := by decide +kernel
theorem dX6_fewestWordsAfter_32 : decode cX6_fewestWordsAfter 32 = .ok (.invokevirtual 162, 3) := by decide +kernel
theorem dX6_fewestWordsAfter_35 : decode cX6_fewestWordsAfter 35 = .ok (.aload_n 0, 1) := by decide +kernel
theorem dX6_fewestWordsAfter_36 : decode cX6_fewestWordsAfter 36 = .ok (.getfield 51, 3) := by decide +kernel
theorem dX6_fewestWordsAfter_39 : decode cX6_fewestWordsAfter 39 = .ok (.getfield 233, 3) := by decide +kernel
theorem dX6_fewestWordsAfter_42 : decode cX6_fewestWordsAfter 42 = .ok (.ireturn, 1) := by decide +kernel
theorem dX6_isBook_0 : decode cX6_isBook 0 = .ok (.iload_n 0, 1) := by decide +kernel
theorem dX6_isBook_1 : decode cX6_isBook 1 = .ok (.ifCond .eq 8, 3) := by decide +kernel
theorem dX6_isBook_4 : decode cX6_isBook 4 = .ok (.iload_n 0, 1) := by decide +kernel
theorem dX6_isBook_5 : decode cX6_isBook 5 = .ok (.iconst 1, 1) := by decide +kernel
theorem dX6_isBook_6 : decode cX6_isBook 6 = .ok (.if_icmp .ne 7, 3) := by decide +kernel
theorem dX6_isBook_9 : decode cX6_isBook 9 = .ok (.iconst 1, 1) := by decide +kernel
theorem dX6_isBook_10 : decode cX6_isBook 10 = .ok (.goto 4, 3) := by decide +kernel
theorem dX6_isBook_13 : decode cX6_isBook 13 = .ok (.iconst 0, 1) := by decide +kernel
theorem dX6_isBook_14 : decode cX6_isBook 14 = .ok (.ireturn, 1) := by decide +kernel
theorem dX6_isWord_0 : decode cX6_isWord 0 = .ok (.iload_n 0, 1) := by decide +kernel
theorem dX6_isWord_1 : decode cX6_isWord 1 = .ok (.ifCond .lt 13, 3) := by decide +kernel
theorem dX6_isWord_4 : decode cX6_isWord 4 = .ok (.iload_n 0, 1) := by decide +kernel
theorem dX6_isWord_5 : decode cX6_isWord 5 = .ok (.bipush 12, 2) := by decide +kernel
theorem dX6_isWord_7 : decode cX6_isWord 7 = .ok (.if_icmp .ge 7, 3) := by decide +kernel
theorem dX6_isWord_10 : decode cX6_isWord 10 = .ok (.iconst 1, 1) := by decide +kernel
theorem dX6_isWord_11 : decode cX6_isWord 11 = .ok (.goto 4, 3) := by decide +kernel
theorem dX6_isWord_14 : decode cX6_isWord 14 = .ok (.iconst 0, 1) := by decide +kernel
theorem dX6_isWord_15 : decode cX6_isWord 15 = .ok (.ireturn, 1) := by decide +kernel
theorem dX6_isSet_0 : decode cX6_isSet 0 = .ok (.iload_n 0, 1) := by decide +kernel
theorem dX6_isSet_1 : decode cX6_isSet 1 = .ok (.ifCond .lt 14, 3) := by decide +kernel
theorem dX6_isSet_4 : decode cX6_isSet 4 = .ok (.iload_n 0, 1) := by decide +kernel
theorem dX6_isSet_5 : decode cX6_isSet 5 = .ok (.sipush 4096, 3) := by decide +kernel
theorem dX6_isSet_8 : decode cX6_isSet 8 = .ok (.if_icmp .ge 7, 3) := by decide +kernel
theorem dX6_isSet_11 : decode cX6_isSet 11 = .ok (.iconst 1, 1) := by decide +kernel
theorem dX6_isSet_12 : decode cX6_isSet 12 = .ok (.goto 4, 3) := by decide +kernel
theorem dX6_isSet_15 : decode cX6_isSet 15 = .ok (.iconst 0, 1) := by decide +kernel
theorem dX6_isSet_16 : decode cX6_isSet 16 = .ok (.ireturn, 1) := by decide +kernel
theorem dX6_hasWord_0 : decode cX6_hasWord 0 = .ok (.iload_n 0, 1) := by decide +kernel
theorem dX6_hasWord_1 : decode cX6_hasWord 1 = .ok (.iload_n 1, 1) := by decide +kernel
theorem dX6_hasWord_2 : decode cX6_hasWord 2 = .ok (.ishr, 1) := by decide +kernel
theorem dX6_hasWord_3 : decode cX6_hasWord 3 = .ok (.iconst 1, 1) := by decide +kernel
theorem dX6_hasWord_4 : decode cX6_hasWord 4 = .ok (.iand, 1) := by decide +kernel
theorem dX6_hasWord_5 : decode cX6_hasWord 5 = .ok (.ifCond .eq 7, 3) := by decide +kernel
theorem dX6_hasWord_8 : decode cX6_hasWord 8 = .ok (.iconst 1, 1) := by decide +kernel
theorem dX6_hasWord_9 : decode cX6_hasWord 9 = .ok (.goto 4, 3) := by decide +kernel
theorem dX6_hasWord_12 : decode cX6_hasWord 12 = .ok (.iconst 0, 1) := by decide +kernel
theorem dX6_hasWord_13 : decode cX6_hasWord 13 = .ok (.ireturn, 1) := by decide +kernel
theorem dX6_leastWord_0 : decode cX6_leastWord 0 = .ok (.iconst 0, 1) := by decide +kernel
theorem dX6_leastWord_1 : decode cX6_leastWord 1 = .ok (.istore_n 1, 1) := by decide +kernel
theorem dX6_leastWord_2 : decode cX6_leastWord 2 = .ok (.iload_n 1, 1) := by decide +kernel
theorem dX6_leastWord_3 : decode cX6_leastWord 3 = .ok (.bipush 12, 2) := by decide +kernel
theorem dX6_leastWord_5 : decode cX6_leastWord 5 = .ok (.if_icmp .ge 19, 3) := by decide +kernel
theorem dX6_leastWord_8 : decode cX6_leastWord 8 = .ok (.iload_n 0, 1) := by decide +kernel
theorem dX6_leastWord_9 : decode cX6_leastWord 9 = .ok (.iload_n 1, 1) := by decide +kernel
theorem dX6_leastWord_10 : decode cX6_leastWord 10 = .ok (.invokestatic 125, 3) := by decide +kernel
theorem dX6_leastWord_13 : decode cX6_leastWord 13 = .ok (.ifCond .eq 5, 3) := by decide +kernel
theorem dX6_leastWord_16 : decode cX6_leastWord 16 = .ok (.iload_n 1, 1) := by decide +kernel
theorem dX6_leastWord_17 : decode cX6_leastWord 17 = .ok (.ireturn, 1) := by decide +kernel
theorem dX6_leastWord_18 : decode cX6_leastWord 18 = .ok (.iinc 1 1, 3) := by decide +kernel
theorem dX6_leastWord_21 : decode cX6_leastWord 21 = .ok (.goto (-19), 3) := by decide +kernel
theorem dX6_leastWord_24 : decode cX6_leastWord 24 = .ok (.bipush (-9), 2) := by decide +kernel
theorem dX6_leastWord_26 : decode cX6_leastWord 26 = .ok (.ireturn, 1) := by decide +kernel
theorem dJ6_compare_7cf53_0 : decode cJ6_compare_7cf53 0 = .ok (.iload_n 0, 1) := by decide +kernel
theorem dJ6_compare_7cf53_1 : decode cJ6_compare_7cf53 1 = .ok (.iload_n 1, 1) := by decide +kernel
theorem dJ6_compare_7cf53_2 : decode cJ6_compare_7cf53 2 = .ok (.if_icmp .ge 7, 3) := by decide +kernel
theorem dJ6_compare_7cf53_5 : decode cJ6_compare_7cf53 5 = .ok (.iconst (-1), 1) := by decide +kernel
theorem dJ6_compare_7cf53_6 : decode cJ6_compare_7cf53 6 = .ok (.goto 13, 3) := by decide +kernel
theorem dJ6_compare_7cf53_9 : decode cJ6_compare_7cf53 9 = .ok (.iload_n 0, 1) := by decide +kernel
theorem dJ6_compare_7cf53_10 : decode cJ6_compare_7cf53 10 = .ok (.iload_n 1, 1) := by decide +kernel
theorem dJ6_compare_7cf53_11 : decode cJ6_compare_7cf53 11 = .ok (.if_icmp .ne 7, 3) := by decide +kernel
theorem dJ6_compare_7cf53_14 : decode cJ6_compare_7cf53 14 = .ok (.iconst 0, 1) := by decide +kernel
theorem dJ6_compare_7cf53_15 : decode cJ6_compare_7cf53 15 = .ok (.goto 4, 3) := by decide +kernel
theorem dJ6_compare_7cf53_18 : decode cJ6_compare_7cf53 18 = .ok (.iconst 1, 1) := by decide +kernel
theorem dJ6_compare_7cf53_19 : decode cJ6_compare_7cf53 19 = .ok (.ireturn, 1) := by decide +kernel
theorem dJ6_bitCount_0f7a4_0 : decode cJ6_bitCount_0f7a4 0 = .ok (.iload_n 0, 1) := by decide +kernel
theorem dJ6_bitCount_0f7a4_1 : decode cJ6_bitCount_0f7a4 1 = .ok (.iload_n 0, 1) := by decide +kernel
theorem dJ6_bitCount_0f7a4_2 : decode cJ6_bitCount_0f7a4 2 = .ok (.iconst 1, 1) := by decide +kernel
theorem dJ6_bitCount_0f7a4_3 : decode cJ6_bitCount_0f7a4 3 = .ok (.iushr, 1) := by decide +kernel
theorem dJ6_bitCount_0f7a4_4 : decode cJ6_bitCount_0f7a4 4 = .ok (.ldc_w 265, 3) := by decide +kernel
theorem dJ6_bitCount_0f7a4_7 : decode cJ6_bitCount_0f7a4 7 = .ok (.iand, 1) := by decide +kernel
theorem dJ6_bitCount_0f7a4_8 : decode cJ6_bitCount_0f7a4 8 = .ok (.isub, 1) := by decide +kernel
theorem dJ6_bitCount_0f7a4_9 : decode cJ6_bitCount_0f7a4 9 = .ok (.istore_n 0, 1) := by decide +kernel
theorem dJ6_bitCount_0f7a4_10 : decode cJ6_bitCount_0f7a4 10 = .ok (.iload_n 0, 1) := by decide +kernel
theorem dJ6_bitCount_0f7a4_11 : decode cJ6_bitCount_0f7a4 11 = .ok (.ldc_w 266, 3) := by decide +kernel
theorem dJ6_bitCount_0f7a4_14 : decode cJ6_bitCount_0f7a4 14 = .ok (.iand, 1) := by decide +kernel
theorem dJ6_bitCount_0f7a4_15 : decode cJ6_bitCount_0f7a4 15 = .ok (.iload_n 0, 1) := by decide +kernel
theorem dJ6_bitCount_0f7a4_16 : decode cJ6_bitCount_0f7a4 16 = .ok (.iconst 2, 1) := by decide +kernel
theorem dJ6_bitCount_0f7a4_17 : decode cJ6_bitCount_0f7a4 17 = .ok (.iushr, 1) := by decide +kernel
theorem dJ6_bitCount_0f7a4_18 : decode cJ6_bitCount_0f7a4 18 = .ok (.ldc_w 266, 3) := by decide +kernel
theorem dJ6_bitCount_0f7a4_21 : decode cJ6_bitCount_0f7a4 21 = .ok (.iand, 1) := by decide +kernel
theorem dJ6_bitCount_0f7a4_22 : decode cJ6_bitCount_0f7a4 22 = .ok (.iadd, 1) := by decide +kernel
theorem dJ6_bitCount_0f7a4_23 : decode cJ6_bitCount_0f7a4 23 = .ok (.istore_n 0, 1) := by decide +kernel
theorem dJ6_bitCount_0f7a4_24 : decode cJ6_bitCount_0f7a4 24 = .ok (.iload_n 0, 1) := by decide +kernel
theorem dJ6_bitCount_0f7a4_25 : decode cJ6_bitCount_0f7a4 25 = .ok (.iload_n 0, 1) := by decide +kernel
theorem dJ6_bitCount_0f7a4_26 : decode cJ6_bitCount_0f7a4 26 = .ok (.iconst 4, 1) := by decide +kernel
theorem dJ6_bitCount_0f7a4_27 : decode cJ6_bitCount_0f7a4 27 = .ok (.iushr, 1) := by decide +kernel
theorem dJ6_bitCount_0f7a4_28 : decode cJ6_bitCount_0f7a4 28 = .ok (.iadd, 1) := by decide +kernel
theorem dJ6_bitCount_0f7a4_29 : decode cJ6_bitCount_0f7a4 29 = .ok (.ldc_w 267, 3) := by decide +kernel
theorem dJ6_bitCount_0f7a4_32 : decode cJ6_bitCount_0f7a4 32 = .ok (.iand, 1) := by decide +kernel
theorem dJ6_bitCount_0f7a4_33 : decode cJ6_bitCount_0f7a4 33 = .ok (.istore_n 0, 1) := by decide +kernel
theorem dJ6_bitCount_0f7a4_34 : decode cJ6_bitCount_0f7a4 34 = .ok (.iload_n 0, 1) := by decide +kernel
theorem dJ6_bitCount_0f7a4_35 : decode cJ6_bitCount_0f7a4 35 = .ok (.iload_n 0, 1) := by decide +kernel
theorem dJ6_bitCount_0f7a4_36 : decode cJ6_bitCount_0f7a4 36 = .ok (.bipush 8, 2) := by decide +kernel
theorem dJ6_bitCount_0f7a4_38 : decode cJ6_bitCount_0f7a4 38 = .ok (.iushr, 1) := by decide +kernel
theorem dJ6_bitCount_0f7a4_39 : decode cJ6_bitCount_0f7a4 39 = .ok (.iadd, 1) := by decide +kernel
theorem dJ6_bitCount_0f7a4_40 : decode cJ6_bitCount_0f7a4 40 = .ok (.istore_n 0, 1) := by decide +kernel
theorem dJ6_bitCount_0f7a4_41 : decode cJ6_bitCount_0f7a4 41 = .ok (.iload_n 0, 1) := by decide +kernel
theorem dJ6_bitCount_0f7a4_42 : decode cJ6_bitCount_0f7a4 42 = .ok (.iload_n 0, 1) := by decide +kernel
theorem dJ6_bitCount_0f7a4_43 : decode cJ6_bitCount_0f7a4 43 = .ok (.bipush 16, 2) := by decide +kernel
theorem dJ6_bitCount_0f7a4_45 : decode cJ6_bitCount_0f7a4 45 = .ok (.iushr, 1) := by decide +kernel
theorem dJ6_bitCount_0f7a4_46 : decode cJ6_bitCount_0f7a4 46 = .ok (.iadd, 1) := by decide +kernel
theorem dJ6_bitCount_0f7a4_47 : decode cJ6_bitCount_0f7a4 47 = .ok (.istore_n 0, 1) := by decide +kernel
theorem dJ6_bitCount_0f7a4_48 : decode cJ6_bitCount_0f7a4 48 = .ok (.iload_n 0, 1) := by decide +kernel
theorem dJ6_bitCount_0f7a4_49 : decode cJ6_bitCount_0f7a4 49 = .ok (.bipush 63, 2) := by decide +kernel
theorem dJ6_bitCount_0f7a4_51 : decode cJ6_bitCount_0f7a4 51 = .ok (.iand, 1) := by decide +kernel
theorem dJ6_bitCount_0f7a4_52 : decode cJ6_bitCount_0f7a4 52 = .ok (.ireturn, 1) := by decide +kernel
