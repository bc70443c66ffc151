theorem dX7_init_0 : decode cX7_init 0 = .ok (.aload_n 0, 1) := by decide +kernel
theorem dX7_init_1 : decode cX7_init 1 = .ok (.invokespecial 1, 3) := by decide +kernel
theorem dX7_init_4 : decode cX7_init 4 = .ok (.aload_n 0, 1) := by decide +kernel
theorem dX7_init_5 : decode cX7_init 5 = .ok (.bipush 7, 2) := by decide +kernel
theorem dX7_init_7 : decode cX7_init 7 = .ok (.newarray .int, 2) := by decide +kernel
theorem dX7_init_9 : decode cX7_init 9 = .ok (.putfield 7, 3) := by decide +kernel
theorem dX7_init_12 : decode cX7_init 12 = .ok (.aload_n 0, 1) := by decide +kernel
theorem dX7_init_13 : decode cX7_init 13 = .ok (.sipush 259, 3) := by decide +kernel
theorem dX7_init_16 : decode cX7_init 16 = .ok (.newarray .int, 2) := by decide +kernel
theorem dX7_init_18 : decode cX7_init 18 = .ok (.putfield 13, 3) := by decide +kernel
theorem dX7_init_21 : decode cX7_init 21 = .ok (.aload_n 0, 1) := by decide +kernel
theorem dX7_init_22 : decode cX7_init 22 = .ok (.sipush 259, 3) := by decide +kernel
theorem dX7_init_25 : decode cX7_init 25 = .ok (.newarray .int, 2) := by decide +kernel
theorem dX7_init_27 : decode cX7_init 27 = .ok (.putfield 16, 3) := by decide +kernel
theorem dX7_init_30 : decode cX7_init 30 = .ok (.aload_n 0, 1) := by decide +kernel
theorem dX7_init_31 : decode cX7_init 31 = .ok (.sipush 259, 3) := by decide +kernel
theorem dX7_init_34 : decode cX7_init 34 = .ok (.newarray .int, 2) := by decide +kernel
theorem dX7_init_36 : decode cX7_init 36 = .ok (.putfield 19, 3) := by decide +kernel
theorem dX7_init_39 : decode cX7_init 39 = .ok (.aload_n 0, 1) := by decide +kernel
theorem dX7_init_40 : decode cX7_init 40 = .ok (.bipush 10, 2) := by decide +kernel
theorem dX7_init_42 : decode cX7_init 42 = .ok (.newarray .int, 2) := by decide +kernel
theorem dX7_init_44 : decode cX7_init 44 = .ok (.putfield 22, 3) := by decide +kernel
theorem dX7_init_47 : decode cX7_init 47 = .ok (.aload_n 0, 1) := by decide +kernel
theorem dX7_init_48 : decode cX7_init 48 = .ok (.iconst 4, 1) := by decide +kernel
theorem dX7_init_49 : decode cX7_init 49 = .ok (.newarray .int, 2) := by decide +kernel
theorem dX7_init_51 : decode cX7_init 51 = .ok (.putfield 25, 3) := by decide +kernel
theorem dX7_init_54 : decode cX7_init 54 = .ok (.aload_n 0, 1) := by decide +kernel
theorem dX7_init_55 : decode cX7_init 55 = .ok (.bipush 24, 2) := by decide +kernel
theorem dX7_init_57 : decode cX7_init 57 = .ok (.newarray .int, 2) := by decide +kernel
theorem dX7_init_59 : decode cX7_init 59 = .ok (.putfield 28, 3) := by decide +kernel
theorem dX7_init_62 : decode cX7_init 62 = .ok (.aload_n 0, 1) := by decide +kernel
theorem dX7_init_63 : decode cX7_init 63 = .ok (.bipush 12, 2) := by decide +kernel
theorem dX7_init_65 : decode cX7_init 65 = .ok (.newarray .int, 2) := by decide +kernel
theorem dX7_init_67 : decode cX7_init 67 = .ok (.putfield 31, 3) := by decide +kernel
theorem dX7_init_70 : decode cX7_init 70 = .ok (.iconst 0, 1) := by decide +kernel
theorem dX7_init_71 : decode cX7_init 71 = .ok (.istore_n 1, 1) := by decide +kernel
theorem dX7_init_72 : decode cX7_init 72 = .ok (.iload_n 1, 1) := by decide +kernel
theorem dX7_init_73 : decode cX7_init 73 = .ok (.bipush 24, 2) := by decide +kernel
theorem dX7_init_75 : decode cX7_init 75 = .ok (.if_icmp .ge 20, 3) := by decide +kernel
theorem dX7_init_78 : decode cX7_init 78 = .ok (.aload_n 0, 1) := by decide +kernel
theorem dX7_init_79 : decode cX7_init 79 = .ok (.getfield 13, 3) := by decide +kernel
theorem dX7_init_82 : decode cX7_init 82 = .ok (.sipush 162, 3) := by decide +kernel
theorem dX7_init_85 : decode cX7_init 85 = .ok (.iload_n 1, 1) := by decide +kernel
theorem dX7_init_86 : decode cX7_init 86 = .ok (.iadd, 1) := by decide +kernel
theorem dX7_init_87 : decode cX7_init 87 = .ok (.iconst 1, 1) := by decide +kernel
theorem dX7_init_88 : decode cX7_init 88 = .ok (.iastore, 1) := by decide +kernel
theorem dX7_init_89 : decode cX7_init 89 = .ok (.iinc 1 1, 3) := by decide +kernel
theorem dX7_init_92 : decode cX7_init 92 = .ok (.goto (-20), 3) := by decide +kernel
theorem dX7_init_95 : decode cX7_init 95 = .ok (.return_, 1) := by decide +kernel
theorem dX7_refuse_0 : decode cX7_refuse 0 = .ok (.aload_n 0, 1) := by decide +kernel
theorem dX7_refuse_1 : decode cX7_refuse 1 = .ok (.getfield 7, 3) := by decide +kernel
theorem dX7_refuse_4 : decode cX7_refuse 4 = .ok (.iload_n 1, 1) := by decide +kernel
theorem dX7_refuse_5 : decode cX7_refuse 5 = .ok (.ineg, 1) := by decide +kernel
theorem dX7_refuse_6 : decode cX7_refuse 6 = .ok (.dup2, 1) := by decide +kernel
theorem dX7_refuse_7 : decode cX7_refuse 7 = .ok (.iaload, 1) := by decide +kernel
theorem dX7_refuse_8 : decode cX7_refuse 8 = .ok (.iconst 1, 1) := by decide +kernel
theorem dX7_refuse_9 : decode cX7_refuse 9 = .ok (.iadd, 1) := by decide +kernel
theorem dX7_refuse_10 : decode cX7_refuse 10 = .ok (.iastore, 1) := by decide +kernel
theorem dX7_refuse_11 : decode cX7_refuse 11 = .ok (.iload_n 1, 1) := by decide +kernel
theorem dX7_refuse_12 : decode cX7_refuse 12 = .ok (.ireturn, 1) := by decide +kernel
theorem dX7_isIn_0 : decode cX7_isIn 0 = .ok (.iload_n 0, 1) := by decide +kernel
theorem dX7_isIn_1 : decode cX7_isIn 1 = .ok (.ifCond .lt 12, 3) := by decide +kernel
theorem dX7_isIn_4 : decode cX7_isIn 4 = .ok (.iload_n 0, 1) := by decide +kernel
theorem dX7_isIn_5 : decode cX7_isIn 5 = .ok (.iload_n 1, 1) := by decide +kernel
theorem dX7_isIn_6 : decode cX7_isIn 6 = .ok (.if_icmp .ge 7, 3) := by decide +kernel
theorem dX7_isIn_9 : decode cX7_isIn 9 = .ok (.iconst 1, 1) := by decide +kernel
theorem dX7_isIn_10 : decode cX7_isIn 10 = .ok (.goto 4, 3) := by decide +kernel
theorem dX7_isIn_13 : decode cX7_isIn 13 = .ok (.iconst 0, 1) := by decide +kernel
theorem dX7_isIn_14 : decode cX7_isIn 14 = .ok (.ireturn, 1) := by decide +kernel
theorem dX7_within_0 : decode cX7_within 0 = .ok (.iload_n 0, 1) := by decide +kernel
theorem dX7_within_1 : decode cX7_within 1 = .ok (.iload_n 1, 1) := by decide +kernel
theorem dX7_within_2 : decode cX7_within 2 = .ok (.if_icmp .ge 8, 3) := by decide +kernel
theorem dX7_within_5 : decode cX7_within 5 = .ok (.bipush (-4), 2) := by decide +kernel
theorem dX7_within_7 : decode cX7_within 7 = .ok (.goto 14, 3) := by decide +kernel
theorem dX7_within_10 : decode cX7_within 10 = .ok (.iload_n 0, 1) := by decide +kernel
theorem dX7_within_11 : decode cX7_within 11 = .ok (.iload_n 2, 1) := by decide +kernel
theorem dX7_within_12 : decode cX7_within 12 = .ok (.if_icmp .le 8, 3) := by decide +kernel
theorem dX7_within_15 : decode cX7_within 15 = .ok (.bipush (-6), 2) := by decide +kernel
theorem dX7_within_17 : decode cX7_within 17 = .ok (.goto 4, 3) := by decide +kernel
theorem dX7_within_20 : decode cX7_within 20 = .ok (.iconst 0, 1) := by decide +kernel
theorem dX7_within_21 : decode cX7_within 21 = .ok (.ireturn, 1) := by decide +kernel
theorem dX7_isBook_0 : decode cX7_isBook 0 = .ok (.iload_n 0, 1) := by decide +kernel
theorem dX7_isBook_1 : decode cX7_isBook 1 = .ok (.iconst 2, 1) := by decide +kernel
theorem dX7_isBook_2 : decode cX7_isBook 2 = .ok (.invokestatic 34, 3) := by decide +kernel
theorem dX7_isBook_5 : decode cX7_isBook 5 = .ok (.ireturn, 1) := by decide +kernel
theorem dX7_get_0 : decode cX7_get 0 = .ok (.aload_n 0, 1) := by decide +kernel
theorem dX7_get_1 : decode cX7_get 1 = .ok (.getfield 13, 3) := by decide +kernel
theorem dX7_get_4 : decode cX7_get 4 = .ok (.bipush 80, 2) := by decide +kernel
theorem dX7_get_6 : decode cX7_get 6 = .ok (.iload_n 1, 1) := by decide +kernel
theorem dX7_get_7 : decode cX7_get 7 = .ok (.imul, 1) := by decide +kernel
theorem dX7_get_8 : decode cX7_get 8 = .ok (.iconst 4, 1) := by decide +kernel
theorem dX7_get_9 : decode cX7_get 9 = .ok (.iload_n 2, 1) := by decide +kernel
theorem dX7_get_10 : decode cX7_get 10 = .ok (.imul, 1) := by decide +kernel
theorem dX7_get_11 : decode cX7_get 11 = .ok (.iadd, 1) := by decide +kernel
theorem dX7_get_12 : decode cX7_get 12 = .ok (.iload_n 3, 1) := by decide +kernel
theorem dX7_get_13 : decode cX7_get 13 = .ok (.iadd, 1) := by decide +kernel
theorem dX7_get_14 : decode cX7_get 14 = .ok (.iaload, 1) := by decide +kernel
theorem dX7_get_15 : decode cX7_get 15 = .ok (.ireturn, 1) := by decide +kernel
theorem dX7_bits_0 : decode cX7_bits 0 = .ok (.iconst 0, 1) := by decide +kernel
theorem dX7_bits_1 : decode cX7_bits 1 = .ok (.istore_n 1, 1) := by decide +kernel
theorem dX7_bits_2 : decode cX7_bits 2 = .ok (.iload_n 0, 1) := by decide +kernel
theorem dX7_bits_3 : decode cX7_bits 3 = .ok (.istore_n 2, 1) := by decide +kernel
theorem dX7_bits_4 : decode cX7_bits 4 = .ok (.iload_n 2, 1) := by decide +kernel
theorem dX7_bits_5 : decode cX7_bits 5 = .ok (.ifCond .le 16, 3) := by decide +kernel
theorem dX7_bits_8 : decode cX7_bits 8 = .ok (.iload_n 1, 1) := by decide +kernel
theorem dX7_bits_9 : decode cX7_bits 9 = .ok (.iload_n 2, 1) := by decide +kernel
theorem dX7_bits_10 : decode cX7_bits 10 = .ok (.iconst 1, 1) := by decide +kernel
theorem dX7_bits_11 : decode cX7_bits 11 = .ok (.iand, 1) := by decide +kernel
theorem dX7_bits_12 : decode cX7_bits 12 = .ok (.iadd, 1) := by decide +kernel
theorem dX7_bits_13 : decode cX7_bits 13 = .ok (.istore_n 1, 1) := by decide +kernel
theorem dX7_bits_14 : decode cX7_bits 14 = .ok (.iload_n 2, 1) := by decide +kernel
theorem dX7_bits_15 : decode cX7_bits 15 = .ok (.iconst 1, 1) := by decide +kernel
theorem dX7_bits_16 : decode cX7_bits 16 = .ok (.ishr, 1) := by decide +kernel
theorem dX7_bits_17 : decode cX7_bits 17 = .ok (.istore_n 2, 1) := by decide +kernel
theorem dX7_bits_18 : decode cX7_bits 18 = .ok (.goto (-14), 3) := by decide +kernel
theorem dX7_bits_21 : decode cX7_bits 21 = .ok (.iload_n 1, 1) := by decide +kernel
theorem dX7_bits_22 : decode cX7_bits 22 = .ok (.ireturn, 1) := by decide +kernel
theorem dX7_feed_0 : decode cX7_feed 0 = .ok (.iload_n 1, 1) := by decide +kernel
theorem dX7_feed_1 : decode cX7_feed 1 = .ok (.iconst 1, 1) := by decide +kernel
theorem dX7_feed_2 : decode cX7_feed 2 = .ok (.if_icmp .ge 10, 3) := by decide +kernel
theorem dX7_feed_5 : decode cX7_feed 5 = .ok (.aload_n 0, 1) := by decide +kernel
theorem dX7_feed_6 : decode cX7_feed 6 = .ok (.bipush (-4), 2) := by decide +kernel
theorem dX7_feed_8 : decode cX7_feed 8 = .ok (.invokevirtual 38, 3) := by decide +kernel
theorem dX7_feed_11 : decode cX7_feed 11 = .ok (.ireturn, 1) := by decide +kernel
theorem dX7_feed_12 : decode cX7_feed 12 = .ok (.iload_n 1, 1) := by decide +kernel
theorem dX7_feed_13 : decode cX7_feed 13 = .ok (.bipush 8, 2) := by decide +kernel
theorem dX7_feed_15 : decode cX7_feed 15 = .ok (.if_icmp .gt 14, 3) := by decide +kernel
theorem dX7_feed_18 : decode cX7_feed 18 = .ok (.aload_n 0, 1) := by decide +kernel
theorem dX7_feed_19 : decode cX7_feed 19 = .ok (.getfield 42, 3) := by decide +kernel
theorem dX7_feed_22 : decode cX7_feed 22 = .ok (.iload_n 1, 1) := by decide +kernel
theorem dX7_feed_23 : decode cX7_feed 23 = .ok (.iadd, 1) := by decide +kernel
theorem dX7_feed_24 : decode cX7_feed 24 = .ok (.bipush 10, 2) := by decide +kernel
theorem dX7_feed_26 : decode cX7_feed 26 = .ok (.if_icmp .le 10, 3) := by decide +kernel
theorem dX7_feed_29 : decode cX7_feed 29 = .ok (.aload_n 0, 1) := by decide +kernel
theorem dX7_feed_30 : decode cX7_feed 30 = .ok (.bipush (-6), 2) := by decide +kernel
theorem dX7_feed_32 : decode cX7_feed 32 = .ok (.invokevirtual 38, 3) := by decide +kernel
theorem dX7_feed_35 : decode cX7_feed 35 = .ok (.ireturn, 1) := by decide +kernel
theorem dX7_feed_36 : decode cX7_feed 36 = .ok (.iconst 0, 1) := by decide +kernel
theorem dX7_feed_37 : decode cX7_feed 37 = .ok (.istore 4, 2) := by decide +kernel
theorem dX7_feed_39 : decode cX7_feed 39 = .ok (.iload 4, 2) := by decide +kernel
theorem dX7_feed_41 : decode cX7_feed 41 = .ok (.iload_n 1, 1) := by decide +kernel
theorem dX7_feed_42 : decode cX7_feed 42 = .ok (.if_icmp .ge 40, 3) := by decide +kernel
theorem dX7_feed_45 : decode cX7_feed 45 = .ok (.aload_n 0, 1) := by decide +kernel
theorem dX7_feed_46 : decode cX7_feed 46 = .ok (.getfield 22, 3) := by decide +kernel
theorem dX7_feed_49 : decode cX7_feed 49 = .ok (.aload_n 0, 1) := by decide +kernel
theorem dX7_feed_50 : decode cX7_feed 50 = .ok (.getfield 42, 3) := by decide +kernel
theorem dX7_feed_53 : decode cX7_feed 53 = .ok (.lload_n 2, 1) := by decide +kernel
theorem dX7_feed_54 : decode cX7_feed 54 = .ok (.bipush 8, 2) := by decide +kernel
theorem dX7_feed_56 : decode cX7_feed 56 = .ok (.iload 4, 2) := by decide +kernel
theorem dX7_feed_58 : decode cX7_feed 58 = .ok (.imul, 1) := by decide +kernel
theorem dX7_feed_59 : decode cX7_feed 59 = .ok (.lshr, 1) := by decide +kernel
theorem dX7_feed_60 : decode cX7_feed 60 = .ok (.ldc2_w 46, 3) := by decide +kernel
theorem dX7_feed_63 : decode cX7_feed 63 = .ok (.land, 1) := by decide +kernel
theorem dX7_feed_64 : decode cX7_feed 64 = .ok (.l2i, 1) := by decide +kernel
theorem dX7_feed_65 : decode cX7_feed 65 = .ok (.iastore, 1) := by decide +kernel
theorem dX7_feed_66 : decode cX7_feed 66 = .ok (.aload_n 0, 1) := by decide +kernel
theorem dX7_feed_67 : decode cX7_feed 67 = .ok (.dup, 1) := by decide +kernel
theorem dX7_feed_68 : decode cX7_feed 68 = .ok (.getfield 42, 3) := by decide +kernel
theorem dX7_feed_71 : decode cX7_feed 71 = .ok (.iconst 1, 1) := by decide +kernel
theorem dX7_feed_72 : decode cX7_feed 72 = .ok (.iadd, 1) := by decide +kernel
theorem dX7_feed_73 : decode cX7_feed 73 = .ok (.putfield 42, 3) := by decide +kernel
theorem dX7_feed_76 : decode cX7_feed 76 = .ok (.iinc 4 1, 3) := by decide +kernel
theorem dX7_feed_79 : decode cX7_feed 79 = .ok (.goto (-40), 3) := by decide +kernel
theorem dX7_feed_82 : decode cX7_feed 82 = .ok (.aload_n 0, 1) := by decide +kernel
theorem dX7_feed_83 : decode cX7_feed 83 = .ok (.getfield 42, 3) := by decide +kernel
theorem dX7_feed_86 : decode cX7_feed 86 = .ok (.ireturn, 1) := by decide +kernel
theorem dX7_sign_0 : decode cX7_sign 0 = .ok (.aload_n 0, 1) := by decide +kernel
theorem dX7_sign_1 : decode cX7_sign 1 = .ok (.getfield 48, 3) := by decide +kernel
theorem dX7_sign_4 : decode cX7_sign 4 = .ok (.aload_n 0, 1) := by decide +kernel
theorem dX7_sign_5 : decode cX7_sign 5 = .ok (.getfield 42, 3) := by decide +kernel
theorem dX7_sign_8 : decode cX7_sign 8 = .ok (.if_icmp .lt 7, 3) := by decide +kernel
theorem dX7_sign_11 : decode cX7_sign 11 = .ok (.iconst (-1), 1) := by decide +kernel
theorem dX7_sign_12 : decode cX7_sign 12 = .ok (.goto 12, 3) := by decide +kernel
theorem dX7_sign_15 : decode cX7_sign 15 = .ok (.aload_n 0, 1) := by decide +kernel
theorem dX7_sign_16 : decode cX7_sign 16 = .ok (.getfield 22, 3) := by decide +kernel
theorem dX7_sign_19 : decode cX7_sign 19 = .ok (.aload_n 0, 1) := by decide +kernel
theorem dX7_sign_20 : decode cX7_sign 20 = .ok (.getfield 48, 3) := by decide +kernel
theorem dX7_sign_23 : decode cX7_sign 23 = .ok (.iaload, 1) := by decide +kernel
theorem dX7_sign_24 : decode cX7_sign 24 = .ok (.ireturn, 1) := by decide +kernel
theorem dX7_isWord_0 : decode cX7_isWord 0 = .ok (.aload_n 0, 1) := by decide +kernel
theorem dX7_isWord_1 : decode cX7_isWord 1 = .ok (.invokevirtual 51, 3) := by decide +kernel
theorem dX7_isWord_4 : decode cX7_isWord 4 = .ok (.bipush 97, 2) := by decide +kernel
theorem dX7_isWord_6 : decode cX7_isWord 6 = .ok (.if_icmp .lt 16, 3) := by decide +kernel
theorem dX7_isWord_9 : decode cX7_isWord 9 = .ok (.aload_n 0, 1) := by decide +kernel
theorem dX7_isWord_10 : decode cX7_isWord 10 = .ok (.invokevirtual 51, 3) := by decide +kernel
theorem dX7_isWord_13 : decode cX7_isWord 13 = .ok (.bipush 108, 2) := by decide +kernel
theorem dX7_isWord_15 : decode cX7_isWord 15 = .ok (.if_icmp .gt 7, 3) := by decide +kernel
theorem dX7_isWord_18 : decode cX7_isWord 18 = .ok (.iconst 1, 1) := by decide +kernel
theorem dX7_isWord_19 : decode cX7_isWord 19 = .ok (.goto 4, 3) := by decide +kernel
theorem dX7_isWord_22 : decode cX7_isWord 22 = .ok (.iconst 0, 1) := by decide +kernel
theorem dX7_isWord_23 : decode cX7_isWord 23 = .ok (.ireturn, 1) := by decide +kernel
theorem dX7_kindOf_0 : decode cX7_kindOf 0 = .ok (.iload_n 0, 1) := by decide +kernel
theorem dX7_kindOf_1 : decode cX7_kindOf 1 = .ok (.bipush 87, 2) := by decide +kernel
theorem dX7_kindOf_3 : decode cX7_kindOf 3 = .ok (.if_icmp .ne 7, 3) := by decide +kernel
theorem dX7_kindOf_6 : decode cX7_kindOf 6 = .ok (.iconst 0, 1) := by decide +kernel
theorem dX7_kindOf_7 : decode cX7_kindOf 7 = .ok (.goto 55, 3) := by decide +kernel
theorem dX7_kindOf_10 : decode cX7_kindOf 10 = .ok (.iload_n 0, 1) := by decide +kernel
theorem dX7_kindOf_11 : decode cX7_kindOf 11 = .ok (.bipush 80, 2) := by decide +kernel
theorem dX7_kindOf_13 : decode cX7_kindOf 13 = .ok (.if_icmp .ne 7, 3) := by decide +kernel
theorem dX7_kindOf_16 : decode cX7_kindOf 16 = .ok (.iconst 1, 1) := by decide +kernel
theorem dX7_kindOf_17 : decode cX7_kindOf 17 = .ok (.goto 45, 3) := by decide +kernel
theorem dX7_kindOf_20 : decode cX7_kindOf 20 = .ok (.iload_n 0, 1) := by decide +kernel
theorem dX7_kindOf_21 : decode cX7_kindOf 21 = .ok (.bipush 75, 2) := by decide +kernel
theorem dX7_kindOf_23 : decode cX7_kindOf 23 = .ok (.if_icmp .ne 7, 3) := by decide +kernel
theorem dX7_kindOf_26 : decode cX7_kindOf 26 = .ok (.iconst 2, 1) := by decide +kernel
theorem dX7_kindOf_27 : decode cX7_kindOf 27 = .ok (.goto 35, 3) := by decide +kernel
theorem dX7_kindOf_30 : decode cX7_kindOf 30 = .ok (.iload_n 0, 1) := by decide +kernel
theorem dX7_kindOf_31 : decode cX7_kindOf 31 = .ok (.bipush 76, 2) := by decide +kernel
theorem dX7_kindOf_33 : decode cX7_kindOf 33 = .ok (.if_icmp .ne 7, 3) := by decide +kernel
theorem dX7_kindOf_36 : decode cX7_kindOf 36 = .ok (.iconst 3, 1) := by decide +kernel
theorem dX7_kindOf_37 : decode cX7_kindOf 37 = .ok (.goto 25, 3) := by decide +kernel
theorem dX7_kindOf_40 : decode cX7_kindOf 40 = .ok (.iload_n 0, 1) := by decide +kernel
theorem dX7_kindOf_41 : decode cX7_kindOf 41 = .ok (.bipush 83, 2) := by decide +kernel
theorem dX7_kindOf_43 : decode cX7_kindOf 43 = .ok (.if_icmp .ne 7, 3) := by decide +kernel
theorem dX7_kindOf_46 : decode cX7_kindOf 46 = .ok (.iconst 4, 1) := by decide +kernel
theorem dX7_kindOf_47 : decode cX7_kindOf 47 = .ok (.goto 15, 3) := by decide +kernel
theorem dX7_kindOf_50 : decode cX7_kindOf 50 = .ok (.iload_n 0, 1) := by decide +kernel
theorem dX7_kindOf_51 : decode cX7_kindOf 51 = .ok (.bipush 82, 2) := by decide +kernel
theorem dX7_kindOf_53 : decode cX7_kindOf 53 = .ok (.if_icmp .ne 7, 3) := by decide +kernel
theorem dX7_kindOf_56 : decode cX7_kindOf 56 = .ok (.iconst 5, 1) := by decide +kernel
theorem dX7_kindOf_57 : decode cX7_kindOf 57 = .ok (.goto 5, 3) := by decide +kernel
theorem dX7_kindOf_60 : decode cX7_kindOf 60 = .ok (.bipush (-9), 2) := by decide +kernel
theorem dX7_kindOf_62 : decode cX7_kindOf 62 = .ok (.ireturn, 1) := by decide +kernel
theorem dX7_fault_0 : decode cX7_fault 0 = .ok (.aload_n 0, 1) := by decide +kernel
theorem dX7_fault_1 : decode cX7_fault 1 = .ok (.iconst 0, 1) := by decide +kernel
theorem dX7_fault_2 : decode cX7_fault 2 = .ok (.putfield 48, 3) := by decide +kernel
theorem dX7_fault_5 : decode cX7_fault 5 = .ok (.aload_n 0, 1) := by decide +kernel
theorem dX7_fault_6 : decode cX7_fault 6 = .ok (.invokevirtual 55, 3) := by decide +kernel
theorem dX7_fault_9 : decode cX7_fault 9 = .ok (.istore_n 1, 1) := by decide +kernel
theorem dX7_fault_10 : decode cX7_fault 10 = .ok (.aload_n 0, 1) := by decide +kernel
theorem dX7_fault_11 : decode cX7_fault 11 = .ok (.iconst 0, 1) := by decide +kernel
theorem dX7_fault_12 : decode cX7_fault 12 = .ok (.putfield 42, 3) := by decide +kernel
theorem dX7_fault_15 : decode cX7_fault 15 = .ok (.iload_n 1, 1) := by decide +kernel
theorem dX7_fault_16 : decode cX7_fault 16 = .ok (.ifCond .eq 8, 3) := by decide +kernel
theorem dX7_fault_19 : decode cX7_fault 19 = .ok (.bipush (-9), 2) := by decide +kernel
theorem dX7_fault_21 : decode cX7_fault 21 = .ok (.goto 7, 3) := by decide +kernel
theorem dX7_fault_24 : decode cX7_fault 24 = .ok (.aload_n 0, 1) := by decide +kernel
theorem dX7_fault_25 : decode cX7_fault 25 = .ok (.getfield 48, 3) := by decide +kernel
theorem dX7_fault_28 : decode cX7_fault 28 = .ok (.ireturn, 1) := by decide +kernel
theorem dX7_reads_0 : decode cX7_reads 0 = .ok (.aload_n 0, 1) := by decide +kernel
theorem dX7_reads_1 : decode cX7_reads 1 = .ok (.invokevirtual 59, 3) := by decide +kernel
theorem dX7_reads_4 : decode cX7_reads 4 = .ok (.ifCond .ne 5, 3) := by decide +kernel
theorem dX7_reads_7 : decode cX7_reads 7 = .ok (.iconst 0, 1) := by decide +kernel
theorem dX7_reads_8 : decode cX7_reads 8 = .ok (.ireturn, 1) := by decide +kernel
theorem dX7_reads_9 : decode cX7_reads 9 = .ok (.aload_n 0, 1) := by decide +kernel
theorem dX7_reads_10 : decode cX7_reads 10 = .ok (.getfield 25, 3) := by decide +kernel
theorem dX7_reads_13 : decode cX7_reads 13 = .ok (.iconst 0, 1) := by decide +kernel
theorem dX7_reads_14 : decode cX7_reads 14 = .ok (.aload_n 0, 1) := by decide +kernel
theorem dX7_reads_15 : decode cX7_reads 15 = .ok (.invokevirtual 51, 3) := by decide +kernel
theorem dX7_reads_18 : decode cX7_reads 18 = .ok (.bipush 97, 2) := by decide +kernel
theorem dX7_reads_20 : decode cX7_reads 20 = .ok (.isub, 1) := by decide +kernel
theorem dX7_reads_21 : decode cX7_reads 21 = .ok (.iastore, 1) := by decide +kernel
theorem dX7_reads_22 : decode cX7_reads 22 = .ok (.aload_n 0, 1) := by decide +kernel
theorem dX7_reads_23 : decode cX7_reads 23 = .ok (.dup, 1) := by decide +kernel
theorem dX7_reads_24 : decode cX7_reads 24 = .ok (.getfield 48, 3) := by decide +kernel
theorem dX7_reads_27 : decode cX7_reads 27 = .ok (.iconst 1, 1) := by decide +kernel
theorem dX7_reads_28 : decode cX7_reads 28 = .ok (.iadd, 1) := by decide +kernel
theorem dX7_reads_29 : decode cX7_reads 29 = .ok (.putfield 48, 3) := by decide +kernel
theorem dX7_reads_32 : decode cX7_reads 32 = .ok (.aload_n 0, 1) := by decide +kernel
theorem dX7_reads_33 : decode cX7_reads 33 = .ok (.getfield 25, 3) := by decide +kernel
theorem dX7_reads_36 : decode cX7_reads 36 = .ok (.iconst 1, 1) := by decide +kernel
theorem dX7_reads_37 : decode cX7_reads 37 = .ok (.aload_n 0, 1) := by decide +kernel
theorem dX7_reads_38 : decode cX7_reads 38 = .ok (.invokevirtual 51, 3) := by decide +kernel
theorem dX7_reads_41 : decode cX7_reads 41 = .ok (.invokestatic 62, 3) := by decide +kernel
theorem dX7_reads_44 : decode cX7_reads 44 = .ok (.iastore, 1) := by decide +kernel
theorem dX7_reads_45 : decode cX7_reads 45 = .ok (.aload_n 0, 1) := by decide +kernel
theorem dX7_reads_46 : decode cX7_reads 46 = .ok (.getfield 25, 3) := by decide +kernel
theorem dX7_reads_49 : decode cX7_reads 49 = .ok (.iconst 1, 1) := by decide +kernel
theorem dX7_reads_50 : decode cX7_reads 50 = .ok (.iaload, 1) := by decide +kernel
theorem dX7_reads_51 : decode cX7_reads 51 = .ok (.ifCond .ge 5, 3) := by decide +kernel
theorem dX7_reads_54 : decode cX7_reads 54 = .ok (.iconst 0, 1) := by decide +kernel
theorem dX7_reads_55 : decode cX7_reads 55 = .ok (.ireturn, 1) := by decide +kernel
theorem dX7_reads_56 : decode cX7_reads 56 = .ok (.aload_n 0, 1) := by decide +kernel
theorem dX7_reads_57 : decode cX7_reads 57 = .ok (.dup, 1) := by decide +kernel
theorem dX7_reads_58 : decode cX7_reads 58 = .ok (.getfield 48, 3) := by decide +kernel
theorem dX7_reads_61 : decode cX7_reads 61 = .ok (.iconst 1, 1) := by decide +kernel
theorem dX7_reads_62 : decode cX7_reads 62 = .ok (.iadd, 1) := by decide +kernel
theorem dX7_reads_63 : decode cX7_reads 63 = .ok (.putfield 48, 3) := by decide +kernel
theorem dX7_reads_66 : decode cX7_reads 66 = .ok (.aload_n 0, 1) := by decide +kernel
theorem dX7_reads_67 : decode cX7_reads 67 = .ok (.getfield 25, 3) := by decide +kernel
theorem dX7_reads_70 : decode cX7_reads 70 = .ok (.iconst 2, 1) := by decide +kernel
theorem dX7_reads_71 : decode cX7_reads 71 = .ok (.iconst 0, 1) := by decide +kernel
theorem dX7_reads_72 : decode cX7_reads 72 = .ok (.iastore, 1) := by decide +kernel
theorem dX7_reads_73 : decode cX7_reads 73 = .ok (.aload_n 0, 1) := by decide +kernel
theorem dX7_reads_74 : decode cX7_reads 74 = .ok (.getfield 25, 3) := by decide +kernel
theorem dX7_reads_77 : decode cX7_reads 77 = .ok (.iconst 3, 1) := by decide +kernel
theorem dX7_reads_78 : decode cX7_reads 78 = .ok (.bipush (-9), 2) := by decide +kernel
theorem dX7_reads_80 : decode cX7_reads 80 = .ok (.iastore, 1) := by decide +kernel
theorem dX7_reads_81 : decode cX7_reads 81 = .ok (.iconst 0, 1) := by decide +kernel
theorem dX7_reads_82 : decode cX7_reads 82 = .ok (.istore_n 1, 1) := by decide +kernel
theorem dX7_reads_83 : decode cX7_reads 83 = .ok (.aload_n 0, 1) := by decide +kernel
theorem dX7_reads_84 : decode cX7_reads 84 = .ok (.getfield 48, 3) := by decide +kernel
theorem dX7_reads_87 : decode cX7_reads 87 = .ok (.aload_n 0, 1) := by decide +kernel
theorem dX7_reads_88 : decode cX7_reads 88 = .ok (.getfield 42, 3) := by decide +kernel
theorem dX7_reads_91 : decode cX7_reads 91 = .ok (.if_icmp .ge 108, 3) := by decide +kernel
theorem dX7_reads_94 : decode cX7_reads 94 = .ok (.aload_n 0, 1) := by decide +kernel
theorem dX7_reads_95 : decode cX7_reads 95 = .ok (.invokevirtual 51, 3) := by decide +kernel
theorem dX7_reads_98 : decode cX7_reads 98 = .ok (.bipush 97, 2) := by decide +kernel
theorem dX7_reads_100 : decode cX7_reads 100 = .ok (.isub, 1) := by decide +kernel
theorem dX7_reads_101 : decode cX7_reads 101 = .ok (.istore_n 2, 1) := by decide +kernel
theorem dX7_reads_102 : decode cX7_reads 102 = .ok (.aload_n 0, 1) := by decide +kernel
theorem dX7_reads_103 : decode cX7_reads 103 = .ok (.invokevirtual 59, 3) := by decide +kernel
theorem dX7_reads_106 : decode cX7_reads 106 = .ok (.ifCond .eq 43, 3) := by decide +kernel
theorem dX7_reads_109 : decode cX7_reads 109 = .ok (.aload_n 0, 1) := by decide +kernel
theorem dX7_reads_110 : decode cX7_reads 110 = .ok (.getfield 25, 3) := by decide +kernel
theorem dX7_reads_113 : decode cX7_reads 113 = .ok (.iconst 1, 1) := by decide +kernel
theorem dX7_reads_114 : decode cX7_reads 114 = .ok (.iaload, 1) := by decide +kernel
theorem dX7_reads_115 : decode cX7_reads 115 = .ok (.iconst 4, 1) := by decide +kernel
theorem dX7_reads_116 : decode cX7_reads 116 = .ok (.if_icmp .eq 33, 3) := by decide +kernel
theorem dX7_reads_119 : decode cX7_reads 119 = .ok (.iload_n 1, 1) := by decide +kernel
theorem dX7_reads_120 : decode cX7_reads 120 = .ok (.bipush 8, 2) := by decide +kernel
theorem dX7_reads_122 : decode cX7_reads 122 = .ok (.if_icmp .eq 27, 3) := by decide +kernel
theorem dX7_reads_125 : decode cX7_reads 125 = .ok (.iload_n 2, 1) := by decide +kernel
theorem dX7_reads_126 : decode cX7_reads 126 = .ok (.aload_n 0, 1) := by decide +kernel
theorem dX7_reads_127 : decode cX7_reads 127 = .ok (.getfield 25, 3) := by decide +kernel
theorem dX7_reads_130 : decode cX7_reads 130 = .ok (.iconst 0, 1) := by decide +kernel
theorem dX7_reads_131 : decode cX7_reads 131 = .ok (.iaload, 1) := by decide +kernel
theorem dX7_reads_132 : decode cX7_reads 132 = .ok (.if_icmp .eq 17, 3) := by decide +kernel
theorem dX7_reads_135 : decode cX7_reads 135 = .ok (.aload_n 0, 1) := by decide +kernel
theorem dX7_reads_136 : decode cX7_reads 136 = .ok (.getfield 25, 3) := by decide +kernel
theorem dX7_reads_139 : decode cX7_reads 139 = .ok (.iconst 2, 1) := by decide +kernel
theorem dX7_reads_140 : decode cX7_reads 140 = .ok (.iaload, 1) := by decide +kernel
theorem dX7_reads_141 : decode cX7_reads 141 = .ok (.iload_n 2, 1) := by decide +kernel
theorem dX7_reads_142 : decode cX7_reads 142 = .ok (.ishr, 1) := by decide +kernel
theorem dX7_reads_143 : decode cX7_reads 143 = .ok (.iconst 1, 1) := by decide +kernel
theorem dX7_reads_144 : decode cX7_reads 144 = .ok (.iand, 1) := by decide +kernel
theorem dX7_reads_145 : decode cX7_reads 145 = .ok (.iconst 1, 1) := by decide +kernel
theorem dX7_reads_146 : decode cX7_reads 146 = .ok (.if_icmp .ne 5, 3) := by decide +kernel
theorem dX7_reads_149 : decode cX7_reads 149 = .ok (.iconst 0, 1) := by decide +kernel
theorem dX7_reads_150 : decode cX7_reads 150 = .ok (.ireturn, 1) := by decide +kernel
theorem dX7_reads_151 : decode cX7_reads 151 = .ok (.aload_n 0, 1) := by decide +kernel
theorem dX7_reads_152 : decode cX7_reads 152 = .ok (.getfield 25, 3) := by decide +kernel
theorem dX7_reads_155 : decode cX7_reads 155 = .ok (.iconst 2, 1) := by decide +kernel
theorem dX7_reads_156 : decode cX7_reads 156 = .ok (.dup2, 1) := by decide +kernel
theorem dX7_reads_157 : decode cX7_reads 157 = .ok (.iaload, 1) := by decide +kernel
theorem dX7_reads_158 : decode cX7_reads 158 = .ok (.iconst 1, 1) := by decide +kernel
theorem dX7_reads_159 : decode cX7_reads 159 = .ok (.iload_n 2, 1) := by decide +kernel
theorem dX7_reads_160 : decode cX7_reads 160 = .ok (.ishl, 1) := by decide +kernel
theorem dX7_reads_161 : decode cX7_reads 161 = .ok (.ior, 1) := by decide +kernel
theorem dX7_reads_162 : decode cX7_reads 162 = .ok (.iastore, 1) := by decide +kernel
theorem dX7_reads_163 : decode cX7_reads 163 = .ok (.aload_n 0, 1) := by decide +kernel
theorem dX7_reads_164 : decode cX7_reads 164 = .ok (.getfield 25, 3) := by decide +kernel
theorem dX7_reads_167 : decode cX7_reads 167 = .ok (.iconst 3, 1) := by decide +kernel
theorem dX7_reads_168 : decode cX7_reads 168 = .ok (.iload_n 1, 1) := by decide +kernel
theorem dX7_reads_169 : decode cX7_reads 169 = .ok (.ifCond .ne 7, 3) := by decide +kernel
theorem dX7_reads_172 : decode cX7_reads 172 = .ok (.iload_n 2, 1) := by decide +kernel
theorem dX7_reads_173 : decode cX7_reads 173 = .ok (.goto 9, 3) := by decide +kernel
theorem dX7_reads_176 : decode cX7_reads 176 = .ok (.aload_n 0, 1) := by decide +kernel
theorem dX7_reads_177 : decode cX7_reads 177 = .ok (.getfield 25, 3) := by decide +kernel
theorem dX7_reads_180 : decode cX7_reads 180 = .ok (.iconst 3, 1) := by decide +kernel
theorem dX7_reads_181 : decode cX7_reads 181 = .ok (.iaload, 1) := by decide +kernel
theorem dX7_reads_182 : decode cX7_reads 182 = .ok (.iastore, 1) := by decide +kernel
theorem dX7_reads_183 : decode cX7_reads 183 = .ok (.iinc 1 1, 3) := by decide +kernel
theorem dX7_reads_186 : decode cX7_reads 186 = .ok (.aload_n 0, 1) := by decide +kernel
theorem dX7_reads_187 : decode cX7_reads 187 = .ok (.dup, 1) := by decide +kernel
theorem dX7_reads_188 : decode cX7_reads 188 = .ok (.getfield 48, 3) := by decide +kernel
theorem dX7_reads_191 : decode cX7_reads 191 = .ok (.iconst 1, 1) := by decide +kernel
theorem dX7_reads_192 : decode cX7_reads 192 = .ok (.iadd, 1) := by decide +kernel
theorem dX7_reads_193 : decode cX7_reads 193 = .ok (.putfield 48, 3) := by decide +kernel
theorem dX7_reads_196 : decode cX7_reads 196 = .ok (.goto (-113), 3) := by decide +kernel
theorem dX7_reads_199 : decode cX7_reads 199 = .ok (.aload_n 0, 1) := by decide +kernel
theorem dX7_reads_200 : decode cX7_reads 200 = .ok (.getfield 25, 3) := by decide +kernel
theorem dX7_reads_203 : decode cX7_reads 203 = .ok (.iconst 1, 1) := by decide +kernel
theorem dX7_reads_204 : decode cX7_reads 204 = .ok (.iaload, 1) := by decide +kernel
theorem dX7_reads_205 : decode cX7_reads 205 = .ok (.iconst 4, 1) := by decide +kernel
theorem dX7_reads_206 : decode cX7_reads 206 = .ok (.if_icmp .eq 7, 3) := by decide +kernel
theorem dX7_reads_209 : decode cX7_reads 209 = .ok (.iload_n 1, 1) := by decide +kernel
theorem dX7_reads_210 : decode cX7_reads 210 = .ok (.ifCond .le 7, 3) := by decide +kernel
theorem dX7_reads_213 : decode cX7_reads 213 = .ok (.iconst 1, 1) := by decide +kernel
theorem dX7_reads_214 : decode cX7_reads 214 = .ok (.goto 4, 3) := by decide +kernel
theorem dX7_reads_217 : decode cX7_reads 217 = .ok (.iconst 0, 1) := by decide +kernel
theorem dX7_reads_218 : decode cX7_reads 218 = .ok (.ireturn, 1) := by decide +kernel
theorem dX7_tellingsOf_0 : decode cX7_tellingsOf 0 = .ok (.iconst 0, 1) := by decide +kernel
theorem dX7_tellingsOf_1 : decode cX7_tellingsOf 1 = .ok (.istore_n 3, 1) := by decide +kernel
theorem dX7_tellingsOf_2 : decode cX7_tellingsOf 2 = .ok (.iconst 0, 1) := by decide +kernel
theorem dX7_tellingsOf_3 : decode cX7_tellingsOf 3 = .ok (.istore 4, 2) := by decide +kernel
theorem dX7_tellingsOf_5 : decode cX7_tellingsOf 5 = .ok (.iload 4, 2) := by decide +kernel
theorem dX7_tellingsOf_7 : decode cX7_tellingsOf 7 = .ok (.aload_n 0, 1) := by decide +kernel
theorem dX7_tellingsOf_8 : decode cX7_tellingsOf 8 = .ok (.getfield 13, 3) := by decide +kernel
theorem dX7_tellingsOf_11 : decode cX7_tellingsOf 11 = .ok (.sipush 160, 3) := by decide +kernel
theorem dX7_tellingsOf_14 : decode cX7_tellingsOf 14 = .ok (.iload_n 1, 1) := by decide +kernel
theorem dX7_tellingsOf_15 : decode cX7_tellingsOf 15 = .ok (.iadd, 1) := by decide +kernel
theorem dX7_tellingsOf_16 : decode cX7_tellingsOf 16 = .ok (.iaload, 1) := by decide +kernel
theorem dX7_tellingsOf_17 : decode cX7_tellingsOf 17 = .ok (.if_icmp .ge 29, 3) := by decide +kernel
theorem dX7_tellingsOf_20 : decode cX7_tellingsOf 20 = .ok (.iload_n 3, 1) := by decide +kernel
theorem dX7_tellingsOf_21 : decode cX7_tellingsOf 21 = .ok (.aload_n 0, 1) := by decide +kernel
theorem dX7_tellingsOf_22 : decode cX7_tellingsOf 22 = .ok (.iload_n 1, 1) := by decide +kernel
theorem dX7_tellingsOf_23 : decode cX7_tellingsOf 23 = .ok (.iload 4, 2) := by decide +kernel
theorem dX7_tellingsOf_25 : decode cX7_tellingsOf 25 = .ok (.iconst 0, 1) := by decide +kernel
theorem dX7_tellingsOf_26 : decode cX7_tellingsOf 26 = .ok (.invokevirtual 65, 3) := by decide +kernel
theorem dX7_tellingsOf_29 : decode cX7_tellingsOf 29 = .ok (.iload_n 2, 1) := by decide +kernel
theorem dX7_tellingsOf_30 : decode cX7_tellingsOf 30 = .ok (.if_icmp .ne 7, 3) := by decide +kernel
theorem dX7_tellingsOf_33 : decode cX7_tellingsOf 33 = .ok (.iconst 1, 1) := by decide +kernel
theorem dX7_tellingsOf_34 : decode cX7_tellingsOf 34 = .ok (.goto 4, 3) := by decide +kernel
theorem dX7_tellingsOf_37 : decode cX7_tellingsOf 37 = .ok (.iconst 0, 1) := by decide +kernel
theorem dX7_tellingsOf_38 : decode cX7_tellingsOf 38 = .ok (.iadd, 1) := by decide +kernel
theorem dX7_tellingsOf_39 : decode cX7_tellingsOf 39 = .ok (.istore_n 3, 1) := by decide +kernel
theorem dX7_tellingsOf_40 : decode cX7_tellingsOf 40 = .ok (.iinc 4 1, 3) := by decide +kernel
theorem dX7_tellingsOf_43 : decode cX7_tellingsOf 43 = .ok (.goto (-38), 3) := by decide +kernel
theorem dX7_tellingsOf_46 : decode cX7_tellingsOf 46 = .ok (.iload_n 3, 1) := by decide +kernel
theorem dX7_tellingsOf_47 : decode cX7_tellingsOf 47 = .ok (.ireturn, 1) := by decide +kernel
theorem dX7_telling_0 : decode cX7_telling 0 = .ok (.iload_n 1, 1) := by decide +kernel
theorem dX7_telling_1 : decode cX7_telling 1 = .ok (.invokestatic 69, 3) := by decide +kernel
theorem dX7_telling_4 : decode cX7_telling 4 = .ok (.ifCond .ne 9, 3) := by decide +kernel
theorem dX7_telling_7 : decode cX7_telling 7 = .ok (.aload_n 0, 1) := by decide +kernel
theorem dX7_telling_8 : decode cX7_telling 8 = .ok (.iconst (-1), 1) := by decide +kernel
theorem dX7_telling_9 : decode cX7_telling 9 = .ok (.invokevirtual 38, 3) := by decide +kernel
theorem dX7_telling_12 : decode cX7_telling 12 = .ok (.ireturn, 1) := by decide +kernel
theorem dX7_telling_13 : decode cX7_telling 13 = .ok (.aload_n 0, 1) := by decide +kernel
theorem dX7_telling_14 : decode cX7_telling 14 = .ok (.getfield 13, 3) := by decide +kernel
theorem dX7_telling_17 : decode cX7_telling 17 = .ok (.sipush 160, 3) := by decide +kernel
theorem dX7_telling_20 : decode cX7_telling 20 = .ok (.iload_n 1, 1) := by decide +kernel
theorem dX7_telling_21 : decode cX7_telling 21 = .ok (.iadd, 1) := by decide +kernel
theorem dX7_telling_22 : decode cX7_telling 22 = .ok (.iaload, 1) := by decide +kernel
theorem dX7_telling_23 : decode cX7_telling 23 = .ok (.bipush 20, 2) := by decide +kernel
theorem dX7_telling_25 : decode cX7_telling 25 = .ok (.if_icmp .ne 10, 3) := by decide +kernel
theorem dX7_telling_28 : decode cX7_telling 28 = .ok (.aload_n 0, 1) := by decide +kernel
theorem dX7_telling_29 : decode cX7_telling 29 = .ok (.bipush (-6), 2) := by decide +kernel
theorem dX7_telling_31 : decode cX7_telling 31 = .ok (.invokevirtual 38, 3) := by decide +kernel
theorem dX7_telling_34 : decode cX7_telling 34 = .ok (.ireturn, 1) := by decide +kernel
theorem dX7_telling_35 : decode cX7_telling 35 = .ok (.aload_n 0, 1) := by decide +kernel
theorem dX7_telling_36 : decode cX7_telling 36 = .ok (.invokevirtual 73, 3) := by decide +kernel
theorem dX7_telling_39 : decode cX7_telling 39 = .ok (.istore_n 2, 1) := by decide +kernel
theorem dX7_telling_40 : decode cX7_telling 40 = .ok (.iload_n 2, 1) := by decide +kernel
theorem dX7_telling_41 : decode cX7_telling 41 = .ok (.ifCond .lt 8, 3) := by decide +kernel
theorem dX7_telling_44 : decode cX7_telling 44 = .ok (.bipush (-20), 2) := by decide +kernel
theorem dX7_telling_46 : decode cX7_telling 46 = .ok (.iload_n 2, 1) := by decide +kernel
theorem dX7_telling_47 : decode cX7_telling 47 = .ok (.isub, 1) := by decide +kernel
theorem dX7_telling_48 : decode cX7_telling 48 = .ok (.ireturn, 1) := by decide +kernel
theorem dX7_telling_49 : decode cX7_telling 49 = .ok (.aload_n 0, 1) := by decide +kernel
theorem dX7_telling_50 : decode cX7_telling 50 = .ok (.iload_n 1, 1) := by decide +kernel
theorem dX7_telling_51 : decode cX7_telling 51 = .ok (.aload_n 0, 1) := by decide +kernel
theorem dX7_telling_52 : decode cX7_telling 52 = .ok (.getfield 25, 3) := by decide +kernel
theorem dX7_telling_55 : decode cX7_telling 55 = .ok (.iconst 0, 1) := by decide +kernel
theorem dX7_telling_56 : decode cX7_telling 56 = .ok (.iaload, 1) := by decide +kernel
theorem dX7_telling_57 : decode cX7_telling 57 = .ok (.invokevirtual 76, 3) := by decide +kernel
theorem dX7_telling_60 : decode cX7_telling 60 = .ok (.iconst 3, 1) := by decide +kernel
theorem dX7_telling_61 : decode cX7_telling 61 = .ok (.if_icmp .ne 10, 3) := by decide +kernel
theorem dX7_telling_64 : decode cX7_telling 64 = .ok (.aload_n 0, 1) := by decide +kernel
theorem dX7_telling_65 : decode cX7_telling 65 = .ok (.bipush (-6), 2) := by decide +kernel
theorem dX7_telling_67 : decode cX7_telling 67 = .ok (.invokevirtual 38, 3) := by decide +kernel
theorem dX7_telling_70 : decode cX7_telling 70 = .ok (.ireturn, 1) := by decide +kernel
theorem dX7_telling_71 : decode cX7_telling 71 = .ok (.iconst 0, 1) := by decide +kernel
theorem dX7_telling_72 : decode cX7_telling 72 = .ok (.istore_n 3, 1) := by decide +kernel
theorem dX7_telling_73 : decode cX7_telling 73 = .ok (.iload_n 3, 1) := by decide +kernel
theorem dX7_telling_74 : decode cX7_telling 74 = .ok (.iconst 4, 1) := by decide +kernel
theorem dX7_telling_75 : decode cX7_telling 75 = .ok (.if_icmp .ge 39, 3) := by decide +kernel
theorem dX7_telling_78 : decode cX7_telling 78 = .ok (.aload_n 0, 1) := by decide +kernel
theorem dX7_telling_79 : decode cX7_telling 79 = .ok (.getfield 13, 3) := by decide +kernel
theorem dX7_telling_82 : decode cX7_telling 82 = .ok (.bipush 80, 2) := by decide +kernel
theorem dX7_telling_84 : decode cX7_telling 84 = .ok (.iload_n 1, 1) := by decide +kernel
theorem dX7_telling_85 : decode cX7_telling 85 = .ok (.imul, 1) := by decide +kernel
theorem dX7_telling_86 : decode cX7_telling 86 = .ok (.iconst 4, 1) := by decide +kernel
theorem dX7_telling_87 : decode cX7_telling 87 = .ok (.aload_n 0, 1) := by decide +kernel
theorem dX7_telling_88 : decode cX7_telling 88 = .ok (.getfield 13, 3) := by decide +kernel
theorem dX7_telling_91 : decode cX7_telling 91 = .ok (.sipush 160, 3) := by decide +kernel
theorem dX7_telling_94 : decode cX7_telling 94 = .ok (.iload_n 1, 1) := by decide +kernel
theorem dX7_telling_95 : decode cX7_telling 95 = .ok (.iadd, 1) := by decide +kernel
theorem dX7_telling_96 : decode cX7_telling 96 = .ok (.iaload, 1) := by decide +kernel
theorem dX7_telling_97 : decode cX7_telling 97 = .ok (.imul, 1) := by decide +kernel
theorem dX7_telling_98 : decode cX7_telling 98 = .ok (.iadd, 1) := by decide +kernel
theorem dX7_telling_99 : decode cX7_telling 99 = .ok (.iload_n 3, 1) := by decide +kernel
theorem dX7_telling_100 : decode cX7_telling 100 = .ok (.iadd, 1) := by decide +kernel
theorem dX7_telling_101 : decode cX7_telling 101 = .ok (.aload_n 0, 1) := by decide +kernel
theorem dX7_telling_102 : decode cX7_telling 102 = .ok (.getfield 25, 3) := by decide +kernel
theorem dX7_telling_105 : decode cX7_telling 105 = .ok (.iload_n 3, 1) := by decide +kernel
theorem dX7_telling_106 : decode cX7_telling 106 = .ok (.iaload, 1) := by decide +kernel
theorem dX7_telling_107 : decode cX7_telling 107 = .ok (.iastore, 1) := by decide +kernel
theorem dX7_telling_108 : decode cX7_telling 108 = .ok (.iinc 3 1, 3) := by decide +kernel
theorem dX7_telling_111 : decode cX7_telling 111 = .ok (.goto (-38), 3) := by decide +kernel
theorem dX7_telling_114 : decode cX7_telling 114 = .ok (.aload_n 0, 1) := by decide +kernel
theorem dX7_telling_115 : decode cX7_telling 115 = .ok (.getfield 13, 3) := by decide +kernel
theorem dX7_telling_118 : decode cX7_telling 118 = .ok (.sipush 160, 3) := by decide +kernel
theorem dX7_telling_121 : decode cX7_telling 121 = .ok (.iload_n 1, 1) := by decide +kernel
theorem dX7_telling_122 : decode cX7_telling 122 = .ok (.iadd, 1) := by decide +kernel
theorem dX7_telling_123 : decode cX7_telling 123 = .ok (.dup2, 1) := by decide +kernel
theorem dX7_telling_124 : decode cX7_telling 124 = .ok (.iaload, 1) := by decide +kernel
theorem dX7_telling_125 : decode cX7_telling 125 = .ok (.iconst 1, 1) := by decide +kernel
theorem dX7_telling_126 : decode cX7_telling 126 = .ok (.iadd, 1) := by decide +kernel
theorem dX7_telling_127 : decode cX7_telling 127 = .ok (.iastore, 1) := by decide +kernel
theorem dX7_telling_128 : decode cX7_telling 128 = .ok (.aload_n 0, 1) := by decide +kernel
theorem dX7_telling_129 : decode cX7_telling 129 = .ok (.getfield 13, 3) := by decide +kernel
theorem dX7_telling_132 : decode cX7_telling 132 = .ok (.sipush 160, 3) := by decide +kernel
theorem dX7_telling_135 : decode cX7_telling 135 = .ok (.iload_n 1, 1) := by decide +kernel
theorem dX7_telling_136 : decode cX7_telling 136 = .ok (.iadd, 1) := by decide +kernel
theorem dX7_telling_137 : decode cX7_telling 137 = .ok (.iaload, 1) := by decide +kernel
theorem dX7_telling_138 : decode cX7_telling 138 = .ok (.iconst 1, 1) := by decide +kernel
theorem dX7_telling_139 : decode cX7_telling 139 = .ok (.isub, 1) := by decide +kernel
theorem dX7_telling_140 : decode cX7_telling 140 = .ok (.ireturn, 1) := by decide +kernel
theorem dX7_isTelling_0 : decode cX7_isTelling 0 = .ok (.iload_n 1, 1) := by decide +kernel
theorem dX7_isTelling_1 : decode cX7_isTelling 1 = .ok (.invokestatic 69, 3) := by decide +kernel
theorem dX7_isTelling_4 : decode cX7_isTelling 4 = .ok (.ifCond .eq 24, 3) := by decide +kernel
theorem dX7_isTelling_7 : decode cX7_isTelling 7 = .ok (.iload_n 2, 1) := by decide +kernel
theorem dX7_isTelling_8 : decode cX7_isTelling 8 = .ok (.aload_n 0, 1) := by decide +kernel
theorem dX7_isTelling_9 : decode cX7_isTelling 9 = .ok (.getfield 13, 3) := by decide +kernel
theorem dX7_isTelling_12 : decode cX7_isTelling 12 = .ok (.sipush 160, 3) := by decide +kernel
theorem dX7_isTelling_15 : decode cX7_isTelling 15 = .ok (.iload_n 1, 1) := by decide +kernel
theorem dX7_isTelling_16 : decode cX7_isTelling 16 = .ok (.iadd, 1) := by decide +kernel
theorem dX7_isTelling_17 : decode cX7_isTelling 17 = .ok (.iaload, 1) := by decide +kernel
theorem dX7_isTelling_18 : decode cX7_isTelling 18 = .ok (.invokestatic 34, 3) := by decide +kernel
theorem dX7_isTelling_21 : decode cX7_isTelling 21 = .ok (.ifCond .eq 7, 3) := by decide +kernel
theorem dX7_isTelling_24 : decode cX7_isTelling 24 = .ok (.iconst 1, 1) := by decide +kernel
theorem dX7_isTelling_25 : decode cX7_isTelling 25 = .ok (.goto 4, 3) := by decide +kernel
theorem dX7_isTelling_28 : decode cX7_isTelling 28 = .ok (.iconst 0, 1) := by decide +kernel
theorem dX7_isTelling_29 : decode cX7_isTelling 29 = .ok (.ireturn, 1) := by decide +kernel
theorem dX7_tellingOf_0 : decode cX7_tellingOf 0 = .ok (.aload_n 0, 1) := by decide +kernel
theorem dX7_tellingOf_1 : decode cX7_tellingOf 1 = .ok (.iload_n 1, 1) := by decide +kernel
theorem dX7_tellingOf_2 : decode cX7_tellingOf 2 = .ok (.iload_n 2, 1) := by decide +kernel
theorem dX7_tellingOf_3 : decode cX7_tellingOf 3 = .ok (.invokevirtual 80, 3) := by decide +kernel
theorem dX7_tellingOf_6 : decode cX7_tellingOf 6 = .ok (.ifCond .ne 11, 3) := by decide +kernel
theorem dX7_tellingOf_9 : decode cX7_tellingOf 9 = .ok (.aload_n 0, 1) := by decide +kernel
theorem dX7_tellingOf_10 : decode cX7_tellingOf 10 = .ok (.iconst (-1), 1) := by decide +kernel
theorem dX7_tellingOf_11 : decode cX7_tellingOf 11 = .ok (.invokevirtual 38, 3) := by decide +kernel
theorem dX7_tellingOf_14 : decode cX7_tellingOf 14 = .ok (.goto 27, 3) := by decide +kernel
theorem dX7_tellingOf_17 : decode cX7_tellingOf 17 = .ok (.iload_n 3, 1) := by decide +kernel
theorem dX7_tellingOf_18 : decode cX7_tellingOf 18 = .ok (.iconst 4, 1) := by decide +kernel
theorem dX7_tellingOf_19 : decode cX7_tellingOf 19 = .ok (.invokestatic 34, 3) := by decide +kernel
theorem dX7_tellingOf_22 : decode cX7_tellingOf 22 = .ok (.ifCond .eq 13, 3) := by decide +kernel
theorem dX7_tellingOf_25 : decode cX7_tellingOf 25 = .ok (.aload_n 0, 1) := by decide +kernel
theorem dX7_tellingOf_26 : decode cX7_tellingOf 26 = .ok (.iload_n 1, 1) := by decide +kernel
theorem dX7_tellingOf_27 : decode cX7_tellingOf 27 = .ok (.iload_n 2, 1) := by decide +kernel
theorem dX7_tellingOf_28 : decode cX7_tellingOf 28 = .ok (.iload_n 3, 1) := by decide +kernel
theorem dX7_tellingOf_29 : decode cX7_tellingOf 29 = .ok (.invokevirtual 65, 3) := by decide +kernel
theorem dX7_tellingOf_32 : decode cX7_tellingOf 32 = .ok (.goto 9, 3) := by decide +kernel
theorem dX7_tellingOf_35 : decode cX7_tellingOf 35 = .ok (.aload_n 0, 1) := by decide +kernel
theorem dX7_tellingOf_36 : decode cX7_tellingOf 36 = .ok (.bipush (-2), 2) := by decide +kernel
theorem dX7_tellingOf_38 : decode cX7_tellingOf 38 = .ok (.invokevirtual 38, 3) := by decide +kernel
theorem dX7_tellingOf_41 : decode cX7_tellingOf 41 = .ok (.ireturn, 1) := by decide +kernel
theorem dX7_word_0 : decode cX7_word 0 = .ok (.iload_n 1, 1) := by decide +kernel
theorem dX7_word_1 : decode cX7_word 1 = .ok (.invokestatic 69, 3) := by decide +kernel
theorem dX7_word_4 : decode cX7_word 4 = .ok (.ifCond .eq 12, 3) := by decide +kernel
theorem dX7_word_7 : decode cX7_word 7 = .ok (.iload_n 2, 1) := by decide +kernel
theorem dX7_word_8 : decode cX7_word 8 = .ok (.bipush 12, 2) := by decide +kernel
theorem dX7_word_10 : decode cX7_word 10 = .ok (.invokestatic 34, 3) := by decide +kernel
theorem dX7_word_13 : decode cX7_word 13 = .ok (.ifCond .ne 9, 3) := by decide +kernel
theorem dX7_word_16 : decode cX7_word 16 = .ok (.aload_n 0, 1) := by decide +kernel
theorem dX7_word_17 : decode cX7_word 17 = .ok (.iconst (-1), 1) := by decide +kernel
theorem dX7_word_18 : decode cX7_word 18 = .ok (.invokevirtual 38, 3) := by decide +kernel
theorem dX7_word_21 : decode cX7_word 21 = .ok (.ireturn, 1) := by decide +kernel
theorem dX7_word_22 : decode cX7_word 22 = .ok (.iload_n 3, 1) := by decide +kernel
theorem dX7_word_23 : decode cX7_word 23 = .ok (.iconst 2, 1) := by decide +kernel
theorem dX7_word_24 : decode cX7_word 24 = .ok (.invokestatic 34, 3) := by decide +kernel
theorem dX7_word_27 : decode cX7_word 27 = .ok (.ifCond .ne 10, 3) := by decide +kernel
theorem dX7_word_30 : decode cX7_word 30 = .ok (.aload_n 0, 1) := by decide +kernel
theorem dX7_word_31 : decode cX7_word 31 = .ok (.bipush (-2), 2) := by decide +kernel
theorem dX7_word_33 : decode cX7_word 33 = .ok (.invokevirtual 38, 3) := by decide +kernel
theorem dX7_word_36 : decode cX7_word 36 = .ok (.ireturn, 1) := by decide +kernel
theorem dX7_word_37 : decode cX7_word 37 = .ok (.iload 4, 2) := by decide +kernel
theorem dX7_word_39 : decode cX7_word 39 = .ok (.iconst 0, 1) := by decide +kernel
theorem dX7_word_40 : decode cX7_word 40 = .ok (.bipush 99, 2) := by decide +kernel
theorem dX7_word_42 : decode cX7_word 42 = .ok (.invokestatic 83, 3) := by decide +kernel
theorem dX7_word_45 : decode cX7_word 45 = .ok (.istore 5, 2) := by decide +kernel
theorem dX7_word_47 : decode cX7_word 47 = .ok (.iload 5, 2) := by decide +kernel
theorem dX7_word_49 : decode cX7_word 49 = .ok (.ifCond .eq 10, 3) := by decide +kernel
theorem dX7_word_52 : decode cX7_word 52 = .ok (.aload_n 0, 1) := by decide +kernel
theorem dX7_word_53 : decode cX7_word 53 = .ok (.iload 5, 2) := by decide +kernel
theorem dX7_word_55 : decode cX7_word 55 = .ok (.invokevirtual 38, 3) := by decide +kernel
theorem dX7_word_58 : decode cX7_word 58 = .ok (.ireturn, 1) := by decide +kernel
theorem dX7_word_59 : decode cX7_word 59 = .ok (.iload_n 3, 1) := by decide +kernel
theorem dX7_word_60 : decode cX7_word 60 = .ok (.ifCond .ne 9, 3) := by decide +kernel
theorem dX7_word_63 : decode cX7_word 63 = .ok (.sipush 162, 3) := by decide +kernel
theorem dX7_word_66 : decode cX7_word 66 = .ok (.goto 6, 3) := by decide +kernel
theorem dX7_word_69 : decode cX7_word 69 = .ok (.sipush 186, 3) := by decide +kernel
theorem dX7_word_72 : decode cX7_word 72 = .ok (.bipush 12, 2) := by decide +kernel
theorem dX7_word_74 : decode cX7_word 74 = .ok (.iload_n 1, 1) := by decide +kernel
theorem dX7_word_75 : decode cX7_word 75 = .ok (.imul, 1) := by decide +kernel
theorem dX7_word_76 : decode cX7_word 76 = .ok (.iadd, 1) := by decide +kernel
theorem dX7_word_77 : decode cX7_word 77 = .ok (.iload_n 2, 1) := by decide +kernel
theorem dX7_word_78 : decode cX7_word 78 = .ok (.iadd, 1) := by decide +kernel
theorem dX7_word_79 : decode cX7_word 79 = .ok (.istore 6, 2) := by decide +kernel
theorem dX7_word_81 : decode cX7_word 81 = .ok (.aload_n 0, 1) := by decide +kernel
theorem dX7_word_82 : decode cX7_word 82 = .ok (.getfield 13, 3) := by decide +kernel
theorem dX7_word_85 : decode cX7_word 85 = .ok (.iload 6, 2) := by decide +kernel
theorem dX7_word_87 : decode cX7_word 87 = .ok (.iaload, 1) := by decide +kernel
theorem dX7_word_88 : decode cX7_word 88 = .ok (.istore 7, 2) := by decide +kernel
theorem dX7_word_90 : decode cX7_word 90 = .ok (.aload_n 0, 1) := by decide +kernel
theorem dX7_word_91 : decode cX7_word 91 = .ok (.getfield 13, 3) := by decide +kernel
theorem dX7_word_94 : decode cX7_word 94 = .ok (.iload 6, 2) := by decide +kernel
theorem dX7_word_96 : decode cX7_word 96 = .ok (.iload 4, 2) := by decide +kernel
theorem dX7_word_98 : decode cX7_word 98 = .ok (.iastore, 1) := by decide +kernel
theorem dX7_word_99 : decode cX7_word 99 = .ok (.iload 7, 2) := by decide +kernel
theorem dX7_word_101 : decode cX7_word 101 = .ok (.ireturn, 1) := by decide +kernel
theorem dX7_all_0 : decode cX7_all 0 = .ok (.iload_n 1, 1) := by decide +kernel
theorem dX7_all_1 : decode cX7_all 1 = .ok (.invokestatic 69, 3) := by decide +kernel
theorem dX7_all_4 : decode cX7_all 4 = .ok (.ifCond .eq 12, 3) := by decide +kernel
theorem dX7_all_7 : decode cX7_all 7 = .ok (.iload_n 2, 1) := by decide +kernel
theorem dX7_all_8 : decode cX7_all 8 = .ok (.bipush 12, 2) := by decide +kernel
theorem dX7_all_10 : decode cX7_all 10 = .ok (.invokestatic 34, 3) := by decide +kernel
theorem dX7_all_13 : decode cX7_all 13 = .ok (.ifCond .ne 9, 3) := by decide +kernel
theorem dX7_all_16 : decode cX7_all 16 = .ok (.aload_n 0, 1) := by decide +kernel
theorem dX7_all_17 : decode cX7_all 17 = .ok (.iconst (-1), 1) := by decide +kernel
theorem dX7_all_18 : decode cX7_all 18 = .ok (.invokevirtual 38, 3) := by decide +kernel
theorem dX7_all_21 : decode cX7_all 21 = .ok (.ireturn, 1) := by decide +kernel
theorem dX7_all_22 : decode cX7_all 22 = .ok (.sipush 210, 3) := by decide +kernel
theorem dX7_all_25 : decode cX7_all 25 = .ok (.bipush 12, 2) := by decide +kernel
theorem dX7_all_27 : decode cX7_all 27 = .ok (.iload_n 1, 1) := by decide +kernel
theorem dX7_all_28 : decode cX7_all 28 = .ok (.imul, 1) := by decide +kernel
theorem dX7_all_29 : decode cX7_all 29 = .ok (.iadd, 1) := by decide +kernel
theorem dX7_all_30 : decode cX7_all 30 = .ok (.iload_n 2, 1) := by decide +kernel
theorem dX7_all_31 : decode cX7_all 31 = .ok (.iadd, 1) := by decide +kernel
theorem dX7_all_32 : decode cX7_all 32 = .ok (.istore 4, 2) := by decide +kernel
theorem dX7_all_34 : decode cX7_all 34 = .ok (.aload_n 0, 1) := by decide +kernel
theorem dX7_all_35 : decode cX7_all 35 = .ok (.getfield 13, 3) := by decide +kernel
theorem dX7_all_38 : decode cX7_all 38 = .ok (.iload 4, 2) := by decide +kernel
theorem dX7_all_40 : decode cX7_all 40 = .ok (.iaload, 1) := by decide +kernel
theorem dX7_all_41 : decode cX7_all 41 = .ok (.iconst 1, 1) := by decide +kernel
theorem dX7_all_42 : decode cX7_all 42 = .ok (.if_icmp .ne 7, 3) := by decide +kernel
theorem dX7_all_45 : decode cX7_all 45 = .ok (.iconst 1, 1) := by decide +kernel
theorem dX7_all_46 : decode cX7_all 46 = .ok (.goto 4, 3) := by decide +kernel
theorem dX7_all_49 : decode cX7_all 49 = .ok (.iconst 0, 1) := by decide +kernel
theorem dX7_all_50 : decode cX7_all 50 = .ok (.istore 5, 2) := by decide +kernel
theorem dX7_all_52 : decode cX7_all 52 = .ok (.aload_n 0, 1) := by decide +kernel
theorem dX7_all_53 : decode cX7_all 53 = .ok (.getfield 13, 3) := by decide +kernel
theorem dX7_all_56 : decode cX7_all 56 = .ok (.iload 4, 2) := by decide +kernel
theorem dX7_all_58 : decode cX7_all 58 = .ok (.iload_n 3, 1) := by decide +kernel
theorem dX7_all_59 : decode cX7_all 59 = .ok (.ifCond .eq 7, 3) := by decide +kernel
theorem dX7_all_62 : decode cX7_all 62 = .ok (.iconst 1, 1) := by decide +kernel
theorem dX7_all_63 : decode cX7_all 63 = .ok (.goto 4, 3) := by decide +kernel
theorem dX7_all_66 : decode cX7_all 66 = .ok (.iconst 0, 1) := by decide +kernel
theorem dX7_all_67 : decode cX7_all 67 = .ok (.iastore, 1) := by decide +kernel
theorem dX7_all_68 : decode cX7_all 68 = .ok (.iload 5, 2) := by decide +kernel
theorem dX7_all_70 : decode cX7_all 70 = .ok (.iload_n 3, 1) := by decide +kernel
theorem dX7_all_71 : decode cX7_all 71 = .ok (.if_icmp .ne 7, 3) := by decide +kernel
theorem dX7_all_74 : decode cX7_all 74 = .ok (.iconst 0, 1) := by decide +kernel
theorem dX7_all_75 : decode cX7_all 75 = .ok (.goto 4, 3) := by decide +kernel
theorem dX7_all_78 : decode cX7_all 78 = .ok (.iconst 1, 1) := by decide +kernel
theorem dX7_all_79 : decode cX7_all 79 = .ok (.ireturn, 1) := by decide +kernel
theorem dX7_teaches_0 : decode cX7_teaches 0 = .ok (.aload_n 0, 1) := by decide +kernel
theorem dX7_teaches_1 : decode cX7_teaches 1 = .ok (.iload_n 1, 1) := by decide +kernel
theorem dX7_teaches_2 : decode cX7_teaches 2 = .ok (.iload_n 2, 1) := by decide +kernel
theorem dX7_teaches_3 : decode cX7_teaches 3 = .ok (.iconst 2, 1) := by decide +kernel
theorem dX7_teaches_4 : decode cX7_teaches 4 = .ok (.invokevirtual 65, 3) := by decide +kernel
theorem dX7_teaches_7 : decode cX7_teaches 7 = .ok (.istore 4, 2) := by decide +kernel
theorem dX7_teaches_9 : decode cX7_teaches 9 = .ok (.iload 4, 2) := by decide +kernel
theorem dX7_teaches_11 : decode cX7_teaches 11 = .ok (.iload_n 3, 1) := by decide +kernel
theorem dX7_teaches_12 : decode cX7_teaches 12 = .ok (.iand, 1) := by decide +kernel
theorem dX7_teaches_13 : decode cX7_teaches 13 = .ok (.invokestatic 86, 3) := by decide +kernel
theorem dX7_teaches_16 : decode cX7_teaches 16 = .ok (.istore 5, 2) := by decide +kernel
theorem dX7_teaches_18 : decode cX7_teaches 18 = .ok (.aload_n 0, 1) := by decide +kernel
theorem dX7_teaches_19 : decode cX7_teaches 19 = .ok (.iload_n 1, 1) := by decide +kernel
theorem dX7_teaches_20 : decode cX7_teaches 20 = .ok (.iload_n 2, 1) := by decide +kernel
theorem dX7_teaches_21 : decode cX7_teaches 21 = .ok (.iconst 1, 1) := by decide +kernel
theorem dX7_teaches_22 : decode cX7_teaches 22 = .ok (.invokevirtual 65, 3) := by decide +kernel
theorem dX7_teaches_25 : decode cX7_teaches 25 = .ok (.tableswitch 118 0 4 #[35, 51, 69, 105, 116], 35) := by decide +kernel
theorem dX7_teaches_60 : decode cX7_teaches 60 = .ok (.iload 5, 2) := by decide +kernel
theorem dX7_teaches_62 : decode cX7_teaches 62 = .ok (.iload 4, 2) := by decide +kernel
theorem dX7_teaches_64 : decode cX7_teaches 64 = .ok (.invokestatic 86, 3) := by decide +kernel
theorem dX7_teaches_67 : decode cX7_teaches 67 = .ok (.if_icmp .ne 7, 3) := by decide +kernel
theorem dX7_teaches_70 : decode cX7_teaches 70 = .ok (.iconst 1, 1) := by decide +kernel
theorem dX7_teaches_71 : decode cX7_teaches 71 = .ok (.goto 4, 3) := by decide +kernel
theorem dX7_teaches_74 : decode cX7_teaches 74 = .ok (.iconst 0, 1) := by decide +kernel
theorem dX7_teaches_75 : decode cX7_teaches 75 = .ok (.ireturn, 1) := by decide +kernel
theorem dX7_teaches_76 : decode cX7_teaches 76 = .ok (.iconst 2, 1) := by decide +kernel
theorem dX7_teaches_77 : decode cX7_teaches 77 = .ok (.iload 5, 2) := by decide +kernel
theorem dX7_teaches_79 : decode cX7_teaches 79 = .ok (.imul, 1) := by decide +kernel
theorem dX7_teaches_80 : decode cX7_teaches 80 = .ok (.iload 4, 2) := by decide +kernel
theorem dX7_teaches_82 : decode cX7_teaches 82 = .ok (.invokestatic 86, 3) := by decide +kernel
theorem dX7_teaches_85 : decode cX7_teaches 85 = .ok (.if_icmp .le 7, 3) := by decide +kernel
theorem dX7_teaches_88 : decode cX7_teaches 88 = .ok (.iconst 1, 1) := by decide +kernel
theorem dX7_teaches_89 : decode cX7_teaches 89 = .ok (.goto 4, 3) := by decide +kernel
theorem dX7_teaches_92 : decode cX7_teaches 92 = .ok (.iconst 0, 1) := by decide +kernel
theorem dX7_teaches_93 : decode cX7_teaches 93 = .ok (.ireturn, 1) := by decide +kernel
theorem dX7_teaches_94 : decode cX7_teaches 94 = .ok (.iload_n 3, 1) := by decide +kernel
theorem dX7_teaches_95 : decode cX7_teaches 95 = .ok (.aload_n 0, 1) := by decide +kernel
theorem dX7_teaches_96 : decode cX7_teaches 96 = .ok (.iload_n 1, 1) := by decide +kernel
theorem dX7_teaches_97 : decode cX7_teaches 97 = .ok (.iload_n 2, 1) := by decide +kernel
theorem dX7_teaches_98 : decode cX7_teaches 98 = .ok (.iconst 3, 1) := by decide +kernel
theorem dX7_teaches_99 : decode cX7_teaches 99 = .ok (.invokevirtual 65, 3) := by decide +kernel
theorem dX7_teaches_102 : decode cX7_teaches 102 = .ok (.ishr, 1) := by decide +kernel
theorem dX7_teaches_103 : decode cX7_teaches 103 = .ok (.iconst 1, 1) := by decide +kernel
theorem dX7_teaches_104 : decode cX7_teaches 104 = .ok (.iand, 1) := by decide +kernel
theorem dX7_teaches_105 : decode cX7_teaches 105 = .ok (.iconst 1, 1) := by decide +kernel
theorem dX7_teaches_106 : decode cX7_teaches 106 = .ok (.if_icmp .ne 22, 3) := by decide +kernel
theorem dX7_teaches_109 : decode cX7_teaches 109 = .ok (.iload 5, 2) := by decide +kernel
theorem dX7_teaches_111 : decode cX7_teaches 111 = .ok (.iconst 1, 1) := by decide +kernel
theorem dX7_teaches_112 : decode cX7_teaches 112 = .ok (.if_icmp .gt 12, 3) := by decide +kernel
theorem dX7_teaches_115 : decode cX7_teaches 115 = .ok (.iload 4, 2) := by decide +kernel
theorem dX7_teaches_117 : decode cX7_teaches 117 = .ok (.invokestatic 86, 3) := by decide +kernel
theorem dX7_teaches_120 : decode cX7_teaches 120 = .ok (.iconst 1, 1) := by decide +kernel
theorem dX7_teaches_121 : decode cX7_teaches 121 = .ok (.if_icmp .ne 7, 3) := by decide +kernel
theorem dX7_teaches_124 : decode cX7_teaches 124 = .ok (.iconst 1, 1) := by decide +kernel
theorem dX7_teaches_125 : decode cX7_teaches 125 = .ok (.goto 4, 3) := by decide +kernel
theorem dX7_teaches_128 : decode cX7_teaches 128 = .ok (.iconst 0, 1) := by decide +kernel
theorem dX7_teaches_129 : decode cX7_teaches 129 = .ok (.ireturn, 1) := by decide +kernel
theorem dX7_teaches_130 : decode cX7_teaches 130 = .ok (.iload 5, 2) := by decide +kernel
theorem dX7_teaches_132 : decode cX7_teaches 132 = .ok (.ifCond .le 7, 3) := by decide +kernel
theorem dX7_teaches_135 : decode cX7_teaches 135 = .ok (.iconst 1, 1) := by decide +kernel
theorem dX7_teaches_136 : decode cX7_teaches 136 = .ok (.goto 4, 3) := by decide +kernel
theorem dX7_teaches_139 : decode cX7_teaches 139 = .ok (.iconst 0, 1) := by decide +kernel
theorem dX7_teaches_140 : decode cX7_teaches 140 = .ok (.ireturn, 1) := by decide +kernel
theorem dX7_teaches_141 : decode cX7_teaches 141 = .ok (.iconst 1, 1) := by decide +kernel
theorem dX7_teaches_142 : decode cX7_teaches 142 = .ok (.ireturn, 1) := by decide +kernel
theorem dX7_teaches_143 : decode cX7_teaches 143 = .ok (.iconst 0, 1) := by decide +kernel
theorem dX7_teaches_144 : decode cX7_teaches 144 = .ok (.ireturn, 1) := by decide +kernel
theorem dX7_next_0 : decode cX7_next 0 = .ok (.iconst 0, 1) := by decide +kernel
theorem dX7_next_1 : decode cX7_next 1 = .ok (.istore_n 3, 1) := by decide +kernel
theorem dX7_next_2 : decode cX7_next 2 = .ok (.iconst 0, 1) := by decide +kernel
theorem dX7_next_3 : decode cX7_next 3 = .ok (.istore 4, 2) := by decide +kernel
theorem dX7_next_5 : decode cX7_next 5 = .ok (.iconst 0, 1) := by decide +kernel
theorem dX7_next_6 : decode cX7_next 6 = .ok (.istore 5, 2) := by decide +kernel
theorem dX7_next_8 : decode cX7_next 8 = .ok (.iload 5, 2) := by decide +kernel
theorem dX7_next_10 : decode cX7_next 10 = .ok (.aload_n 0, 1) := by decide +kernel
theorem dX7_next_11 : decode cX7_next 11 = .ok (.getfield 13, 3) := by decide +kernel
theorem dX7_next_14 : decode cX7_next 14 = .ok (.sipush 160, 3) := by decide +kernel
theorem dX7_next_17 : decode cX7_next 17 = .ok (.iload_n 1, 1) := by decide +kernel
theorem dX7_next_18 : decode cX7_next 18 = .ok (.iadd, 1) := by decide +kernel
theorem dX7_next_19 : decode cX7_next 19 = .ok (.iaload, 1) := by decide +kernel
theorem dX7_next_20 : decode cX7_next 20 = .ok (.if_icmp .ge 51, 3) := by decide +kernel
theorem dX7_next_23 : decode cX7_next 23 = .ok (.aload_n 0, 1) := by decide +kernel
theorem dX7_next_24 : decode cX7_next 24 = .ok (.iload_n 1, 1) := by decide +kernel
theorem dX7_next_25 : decode cX7_next 25 = .ok (.iload 5, 2) := by decide +kernel
theorem dX7_next_27 : decode cX7_next 27 = .ok (.iload_n 2, 1) := by decide +kernel
theorem dX7_next_28 : decode cX7_next 28 = .ok (.invokevirtual 89, 3) := by decide +kernel
theorem dX7_next_31 : decode cX7_next 31 = .ok (.ifCond .eq 19, 3) := by decide +kernel
theorem dX7_next_34 : decode cX7_next 34 = .ok (.iload_n 3, 1) := by decide +kernel
theorem dX7_next_35 : decode cX7_next 35 = .ok (.iconst 1, 1) := by decide +kernel
theorem dX7_next_36 : decode cX7_next 36 = .ok (.aload_n 0, 1) := by decide +kernel
theorem dX7_next_37 : decode cX7_next 37 = .ok (.iload_n 1, 1) := by decide +kernel
theorem dX7_next_38 : decode cX7_next 38 = .ok (.iload 5, 2) := by decide +kernel
theorem dX7_next_40 : decode cX7_next 40 = .ok (.iconst 0, 1) := by decide +kernel
theorem dX7_next_41 : decode cX7_next 41 = .ok (.invokevirtual 65, 3) := by decide +kernel
theorem dX7_next_44 : decode cX7_next 44 = .ok (.ishl, 1) := by decide +kernel
theorem dX7_next_45 : decode cX7_next 45 = .ok (.ior, 1) := by decide +kernel
theorem dX7_next_46 : decode cX7_next 46 = .ok (.istore_n 3, 1) := by decide +kernel
theorem dX7_next_47 : decode cX7_next 47 = .ok (.goto 18, 3) := by decide +kernel
theorem dX7_next_50 : decode cX7_next 50 = .ok (.iload 4, 2) := by decide +kernel
theorem dX7_next_52 : decode cX7_next 52 = .ok (.iconst 1, 1) := by decide +kernel
theorem dX7_next_53 : decode cX7_next 53 = .ok (.aload_n 0, 1) := by decide +kernel
theorem dX7_next_54 : decode cX7_next 54 = .ok (.iload_n 1, 1) := by decide +kernel
theorem dX7_next_55 : decode cX7_next 55 = .ok (.iload 5, 2) := by decide +kernel
theorem dX7_next_57 : decode cX7_next 57 = .ok (.iconst 0, 1) := by decide +kernel
theorem dX7_next_58 : decode cX7_next 58 = .ok (.invokevirtual 65, 3) := by decide +kernel
theorem dX7_next_61 : decode cX7_next 61 = .ok (.ishl, 1) := by decide +kernel
theorem dX7_next_62 : decode cX7_next 62 = .ok (.ior, 1) := by decide +kernel
theorem dX7_next_63 : decode cX7_next 63 = .ok (.istore 4, 2) := by decide +kernel
theorem dX7_next_65 : decode cX7_next 65 = .ok (.iinc 5 1, 3) := by decide +kernel
theorem dX7_next_68 : decode cX7_next 68 = .ok (.goto (-60), 3) := by decide +kernel
theorem dX7_next_71 : decode cX7_next 71 = .ok (.iconst 0, 1) := by decide +kernel
theorem dX7_next_72 : decode cX7_next 72 = .ok (.istore 5, 2) := by decide +kernel
theorem dX7_next_74 : decode cX7_next 74 = .ok (.iload 5, 2) := by decide +kernel
theorem dX7_next_76 : decode cX7_next 76 = .ok (.bipush 12, 2) := by decide +kernel
theorem dX7_next_78 : decode cX7_next 78 = .ok (.if_icmp .ge 49, 3) := by decide +kernel
theorem dX7_next_81 : decode cX7_next 81 = .ok (.aload_n 0, 1) := by decide +kernel
theorem dX7_next_82 : decode cX7_next 82 = .ok (.getfield 13, 3) := by decide +kernel
theorem dX7_next_85 : decode cX7_next 85 = .ok (.sipush 210, 3) := by decide +kernel
theorem dX7_next_88 : decode cX7_next 88 = .ok (.bipush 12, 2) := by decide +kernel
theorem dX7_next_90 : decode cX7_next 90 = .ok (.iload_n 1, 1) := by decide +kernel
theorem dX7_next_91 : decode cX7_next 91 = .ok (.imul, 1) := by decide +kernel
theorem dX7_next_92 : decode cX7_next 92 = .ok (.iadd, 1) := by decide +kernel
theorem dX7_next_93 : decode cX7_next 93 = .ok (.iload 5, 2) := by decide +kernel
theorem dX7_next_95 : decode cX7_next 95 = .ok (.iadd, 1) := by decide +kernel
theorem dX7_next_96 : decode cX7_next 96 = .ok (.iaload, 1) := by decide +kernel
theorem dX7_next_97 : decode cX7_next 97 = .ok (.iconst 1, 1) := by decide +kernel
theorem dX7_next_98 : decode cX7_next 98 = .ok (.if_icmp .ne 23, 3) := by decide +kernel
theorem dX7_next_101 : decode cX7_next 101 = .ok (.iload 4, 2) := by decide +kernel
theorem dX7_next_103 : decode cX7_next 103 = .ok (.iload 5, 2) := by decide +kernel
theorem dX7_next_105 : decode cX7_next 105 = .ok (.ishr, 1) := by decide +kernel
theorem dX7_next_106 : decode cX7_next 106 = .ok (.iconst 1, 1) := by decide +kernel
theorem dX7_next_107 : decode cX7_next 107 = .ok (.iand, 1) := by decide +kernel
theorem dX7_next_108 : decode cX7_next 108 = .ok (.iconst 1, 1) := by decide +kernel
theorem dX7_next_109 : decode cX7_next 109 = .ok (.if_icmp .ne 12, 3) := by decide +kernel
theorem dX7_next_112 : decode cX7_next 112 = .ok (.iload_n 3, 1) := by decide +kernel
theorem dX7_next_113 : decode cX7_next 113 = .ok (.iconst 1, 1) := by decide +kernel
theorem dX7_next_114 : decode cX7_next 114 = .ok (.iload 5, 2) := by decide +kernel
theorem dX7_next_116 : decode cX7_next 116 = .ok (.ishl, 1) := by decide +kernel
theorem dX7_next_117 : decode cX7_next 117 = .ok (.iconst (-1), 1) := by decide +kernel
theorem dX7_next_118 : decode cX7_next 118 = .ok (.ixor, 1) := by decide +kernel
theorem dX7_next_119 : decode cX7_next 119 = .ok (.iand, 1) := by decide +kernel
theorem dX7_next_120 : decode cX7_next 120 = .ok (.istore_n 3, 1) := by decide +kernel
theorem dX7_next_121 : decode cX7_next 121 = .ok (.iinc 5 1, 3) := by decide +kernel
theorem dX7_next_124 : decode cX7_next 124 = .ok (.goto (-50), 3) := by decide +kernel
theorem dX7_next_127 : decode cX7_next 127 = .ok (.iload_n 2, 1) := by decide +kernel
theorem dX7_next_128 : decode cX7_next 128 = .ok (.iload_n 3, 1) := by decide +kernel
theorem dX7_next_129 : decode cX7_next 129 = .ok (.ior, 1) := by decide +kernel
theorem dX7_next_130 : decode cX7_next 130 = .ok (.ireturn, 1) := by decide +kernel
theorem dX7_learntBy_0 : decode cX7_learntBy 0 = .ok (.iload_n 2, 1) := by decide +kernel
theorem dX7_learntBy_1 : decode cX7_learntBy 1 = .ok (.istore_n 3, 1) := by decide +kernel
theorem dX7_learntBy_2 : decode cX7_learntBy 2 = .ok (.aload_n 0, 1) := by decide +kernel
theorem dX7_learntBy_3 : decode cX7_learntBy 3 = .ok (.iload_n 1, 1) := by decide +kernel
theorem dX7_learntBy_4 : decode cX7_learntBy 4 = .ok (.iload_n 3, 1) := by decide +kernel
theorem dX7_learntBy_5 : decode cX7_learntBy 5 = .ok (.invokevirtual 93, 3) := by decide +kernel
theorem dX7_learntBy_8 : decode cX7_learntBy 8 = .ok (.istore 4, 2) := by decide +kernel
theorem dX7_learntBy_10 : decode cX7_learntBy 10 = .ok (.iload 4, 2) := by decide +kernel
theorem dX7_learntBy_12 : decode cX7_learntBy 12 = .ok (.iload_n 3, 1) := by decide +kernel
theorem dX7_learntBy_13 : decode cX7_learntBy 13 = .ok (.if_icmp .eq 17, 3) := by decide +kernel
theorem dX7_learntBy_16 : decode cX7_learntBy 16 = .ok (.iload 4, 2) := by decide +kernel
theorem dX7_learntBy_18 : decode cX7_learntBy 18 = .ok (.istore_n 3, 1) := by decide +kernel
theorem dX7_learntBy_19 : decode cX7_learntBy 19 = .ok (.aload_n 0, 1) := by decide +kernel
theorem dX7_learntBy_20 : decode cX7_learntBy 20 = .ok (.iload_n 1, 1) := by decide +kernel
theorem dX7_learntBy_21 : decode cX7_learntBy 21 = .ok (.iload_n 3, 1) := by decide +kernel
theorem dX7_learntBy_22 : decode cX7_learntBy 22 = .ok (.invokevirtual 93, 3) := by decide +kernel
theorem dX7_learntBy_25 : decode cX7_learntBy 25 = .ok (.istore 4, 2) := by decide +kernel
theorem dX7_learntBy_27 : decode cX7_learntBy 27 = .ok (.goto (-17), 3) := by decide +kernel
theorem dX7_learntBy_30 : decode cX7_learntBy 30 = .ok (.iload_n 3, 1) := by decide +kernel
theorem dX7_learntBy_31 : decode cX7_learntBy 31 = .ok (.ireturn, 1) := by decide +kernel
theorem dX7_isFoundation_0 : decode cX7_isFoundation 0 = .ok (.aload_n 0, 1) := by decide +kernel
theorem dX7_isFoundation_1 : decode cX7_isFoundation 1 = .ok (.iload_n 1, 1) := by decide +kernel
theorem dX7_isFoundation_2 : decode cX7_isFoundation 2 = .ok (.iload_n 2, 1) := by decide +kernel
theorem dX7_isFoundation_3 : decode cX7_isFoundation 3 = .ok (.invokevirtual 96, 3) := by decide +kernel
theorem dX7_isFoundation_6 : decode cX7_isFoundation 6 = .ok (.sipush 4095, 3) := by decide +kernel
theorem dX7_isFoundation_9 : decode cX7_isFoundation 9 = .ok (.if_icmp .ne 7, 3) := by decide +kernel
theorem dX7_isFoundation_12 : decode cX7_isFoundation 12 = .ok (.iconst 1, 1) := by decide +kernel
theorem dX7_isFoundation_13 : decode cX7_isFoundation 13 = .ok (.goto 4, 3) := by decide +kernel
theorem dX7_isFoundation_16 : decode cX7_isFoundation 16 = .ok (.iconst 0, 1) := by decide +kernel
theorem dX7_isFoundation_17 : decode cX7_isFoundation 17 = .ok (.ireturn, 1) := by decide +kernel
theorem dX7_depth_0 : decode cX7_depth 0 = .ok (.iload_n 1, 1) := by decide +kernel
theorem dX7_depth_1 : decode cX7_depth 1 = .ok (.invokestatic 69, 3) := by decide +kernel
theorem dX7_depth_4 : decode cX7_depth 4 = .ok (.ifCond .eq 22, 3) := by decide +kernel
theorem dX7_depth_7 : decode cX7_depth 7 = .ok (.iload_n 2, 1) := by decide +kernel
theorem dX7_depth_8 : decode cX7_depth 8 = .ok (.sipush 4096, 3) := by decide +kernel
theorem dX7_depth_11 : decode cX7_depth 11 = .ok (.invokestatic 34, 3) := by decide +kernel
theorem dX7_depth_14 : decode cX7_depth 14 = .ok (.ifCond .eq 12, 3) := by decide +kernel
theorem dX7_depth_17 : decode cX7_depth 17 = .ok (.iload_n 3, 1) := by decide +kernel
theorem dX7_depth_18 : decode cX7_depth 18 = .ok (.bipush 12, 2) := by decide +kernel
theorem dX7_depth_20 : decode cX7_depth 20 = .ok (.invokestatic 34, 3) := by decide +kernel
theorem dX7_depth_23 : decode cX7_depth 23 = .ok (.ifCond .ne 9, 3) := by decide +kernel
theorem dX7_depth_26 : decode cX7_depth 26 = .ok (.aload_n 0, 1) := by decide +kernel
theorem dX7_depth_27 : decode cX7_depth 27 = .ok (.iconst (-1), 1) := by decide +kernel
theorem dX7_depth_28 : decode cX7_depth 28 = .ok (.invokevirtual 38, 3) := by decide +kernel
theorem dX7_depth_31 : decode cX7_depth 31 = .ok (.ireturn, 1) := by decide +kernel
theorem dX7_depth_32 : decode cX7_depth 32 = .ok (.iload_n 2, 1) := by decide +kernel
theorem dX7_depth_33 : decode cX7_depth 33 = .ok (.istore 4, 2) := by decide +kernel
theorem dX7_depth_35 : decode cX7_depth 35 = .ok (.iconst 0, 1) := by decide +kernel
theorem dX7_depth_36 : decode cX7_depth 36 = .ok (.istore 5, 2) := by decide +kernel
theorem dX7_depth_38 : decode cX7_depth 38 = .ok (.iload 5, 2) := by decide +kernel
theorem dX7_depth_40 : decode cX7_depth 40 = .ok (.bipush 13, 2) := by decide +kernel
theorem dX7_depth_42 : decode cX7_depth 42 = .ok (.if_icmp .ge 31, 3) := by decide +kernel
theorem dX7_depth_45 : decode cX7_depth 45 = .ok (.iload 4, 2) := by decide +kernel
theorem dX7_depth_47 : decode cX7_depth 47 = .ok (.iload_n 3, 1) := by decide +kernel
theorem dX7_depth_48 : decode cX7_depth 48 = .ok (.ishr, 1) := by decide +kernel
theorem dX7_depth_49 : decode cX7_depth 49 = .ok (.iconst 1, 1) := by decide +kernel
theorem dX7_depth_50 : decode cX7_depth 50 = .ok (.iand, 1) := by decide +kernel
theorem dX7_depth_51 : decode cX7_depth 51 = .ok (.iconst 1, 1) := by decide +kernel
theorem dX7_depth_52 : decode cX7_depth 52 = .ok (.if_icmp .ne 6, 3) := by decide +kernel
theorem dX7_depth_55 : decode cX7_depth 55 = .ok (.iload 5, 2) := by decide +kernel
theorem dX7_depth_57 : decode cX7_depth 57 = .ok (.ireturn, 1) := by decide +kernel
theorem dX7_depth_58 : decode cX7_depth 58 = .ok (.aload_n 0, 1) := by decide +kernel
theorem dX7_depth_59 : decode cX7_depth 59 = .ok (.iload_n 1, 1) := by decide +kernel
theorem dX7_depth_60 : decode cX7_depth 60 = .ok (.iload 4, 2) := by decide +kernel
theorem dX7_depth_62 : decode cX7_depth 62 = .ok (.invokevirtual 93, 3) := by decide +kernel
theorem dX7_depth_65 : decode cX7_depth 65 = .ok (.istore 4, 2) := by decide +kernel
theorem dX7_depth_67 : decode cX7_depth 67 = .ok (.iinc 5 1, 3) := by decide +kernel
theorem dX7_depth_70 : decode cX7_depth 70 = .ok (.goto (-32), 3) := by decide +kernel
theorem dX7_depth_73 : decode cX7_depth 73 = .ok (.bipush (-9), 2) := by decide +kernel
theorem dX7_depth_75 : decode cX7_depth 75 = .ok (.ireturn, 1) := by decide +kernel
theorem dX7_learnt_0 : decode cX7_learnt 0 = .ok (.iload_n 1, 1) := by decide +kernel
theorem dX7_learnt_1 : decode cX7_learnt 1 = .ok (.invokestatic 69, 3) := by decide +kernel
theorem dX7_learnt_4 : decode cX7_learnt 4 = .ok (.ifCond .eq 22, 3) := by decide +kernel
theorem dX7_learnt_7 : decode cX7_learnt 7 = .ok (.iload_n 2, 1) := by decide +kernel
theorem dX7_learnt_8 : decode cX7_learnt 8 = .ok (.sipush 4096, 3) := by decide +kernel
theorem dX7_learnt_11 : decode cX7_learnt 11 = .ok (.invokestatic 34, 3) := by decide +kernel
theorem dX7_learnt_14 : decode cX7_learnt 14 = .ok (.ifCond .eq 12, 3) := by decide +kernel
theorem dX7_learnt_17 : decode cX7_learnt 17 = .ok (.aload_n 0, 1) := by decide +kernel
theorem dX7_learnt_18 : decode cX7_learnt 18 = .ok (.iload_n 1, 1) := by decide +kernel
theorem dX7_learnt_19 : decode cX7_learnt 19 = .ok (.iload_n 2, 1) := by decide +kernel
theorem dX7_learnt_20 : decode cX7_learnt 20 = .ok (.invokevirtual 96, 3) := by decide +kernel
theorem dX7_learnt_23 : decode cX7_learnt 23 = .ok (.goto 8, 3) := by decide +kernel
theorem dX7_learnt_26 : decode cX7_learnt 26 = .ok (.aload_n 0, 1) := by decide +kernel
theorem dX7_learnt_27 : decode cX7_learnt 27 = .ok (.iconst (-1), 1) := by decide +kernel
theorem dX7_learnt_28 : decode cX7_learnt 28 = .ok (.invokevirtual 38, 3) := by decide +kernel
theorem dX7_learnt_31 : decode cX7_learnt 31 = .ok (.ireturn, 1) := by decide +kernel
theorem dX7_put_0 : decode cX7_put 0 = .ok (.iload_n 1, 1) := by decide +kernel
theorem dX7_put_1 : decode cX7_put 1 = .ok (.iconst (-1), 1) := by decide +kernel
theorem dX7_put_2 : decode cX7_put 2 = .ok (.bipush 99, 2) := by decide +kernel
theorem dX7_put_4 : decode cX7_put 4 = .ok (.invokestatic 83, 3) := by decide +kernel
theorem dX7_put_7 : decode cX7_put 7 = .ok (.istore_n 2, 1) := by decide +kernel
theorem dX7_put_8 : decode cX7_put 8 = .ok (.iload_n 2, 1) := by decide +kernel
theorem dX7_put_9 : decode cX7_put 9 = .ok (.ifCond .ne 15, 3) := by decide +kernel
theorem dX7_put_12 : decode cX7_put 12 = .ok (.aload_n 0, 1) := by decide +kernel
theorem dX7_put_13 : decode cX7_put 13 = .ok (.getfield 99, 3) := by decide +kernel
theorem dX7_put_16 : decode cX7_put 16 = .ok (.bipush 24, 2) := by decide +kernel
theorem dX7_put_18 : decode cX7_put 18 = .ok (.if_icmp .ne 6, 3) := by decide +kernel
theorem dX7_put_21 : decode cX7_put 21 = .ok (.bipush (-6), 2) := by decide +kernel
theorem dX7_put_23 : decode cX7_put 23 = .ok (.istore_n 2, 1) := by decide +kernel
theorem dX7_put_24 : decode cX7_put 24 = .ok (.iload_n 2, 1) := by decide +kernel
theorem dX7_put_25 : decode cX7_put 25 = .ok (.ifCond .eq 9, 3) := by decide +kernel
theorem dX7_put_28 : decode cX7_put 28 = .ok (.aload_n 0, 1) := by decide +kernel
theorem dX7_put_29 : decode cX7_put 29 = .ok (.iload_n 2, 1) := by decide +kernel
theorem dX7_put_30 : decode cX7_put 30 = .ok (.invokevirtual 38, 3) := by decide +kernel
theorem dX7_put_33 : decode cX7_put 33 = .ok (.ireturn, 1) := by decide +kernel
theorem dX7_put_34 : decode cX7_put 34 = .ok (.aload_n 0, 1) := by decide +kernel
theorem dX7_put_35 : decode cX7_put 35 = .ok (.getfield 28, 3) := by decide +kernel
theorem dX7_put_38 : decode cX7_put 38 = .ok (.aload_n 0, 1) := by decide +kernel
theorem dX7_put_39 : decode cX7_put 39 = .ok (.getfield 99, 3) := by decide +kernel
theorem dX7_put_42 : decode cX7_put 42 = .ok (.iload_n 1, 1) := by decide +kernel
theorem dX7_put_43 : decode cX7_put 43 = .ok (.iastore, 1) := by decide +kernel
theorem dX7_put_44 : decode cX7_put 44 = .ok (.aload_n 0, 1) := by decide +kernel
theorem dX7_put_45 : decode cX7_put 45 = .ok (.dup, 1) := by decide +kernel
theorem dX7_put_46 : decode cX7_put 46 = .ok (.getfield 99, 3) := by decide +kernel
theorem dX7_put_49 : decode cX7_put 49 = .ok (.iconst 1, 1) := by decide +kernel
theorem dX7_put_50 : decode cX7_put 50 = .ok (.iadd, 1) := by decide +kernel
theorem dX7_put_51 : decode cX7_put 51 = .ok (.putfield 99, 3) := by decide +kernel
theorem dX7_put_54 : decode cX7_put 54 = .ok (.aload_n 0, 1) := by decide +kernel
theorem dX7_put_55 : decode cX7_put 55 = .ok (.getfield 99, 3) := by decide +kernel
theorem dX7_put_58 : decode cX7_put 58 = .ok (.ireturn, 1) := by decide +kernel
theorem dX7_judge_0 : decode cX7_judge 0 = .ok (.iload_n 1, 1) := by decide +kernel
theorem dX7_judge_1 : decode cX7_judge 1 = .ok (.invokestatic 69, 3) := by decide +kernel
theorem dX7_judge_4 : decode cX7_judge 4 = .ok (.ifCond .eq 13, 3) := by decide +kernel
theorem dX7_judge_7 : decode cX7_judge 7 = .ok (.iload_n 2, 1) := by decide +kernel
theorem dX7_judge_8 : decode cX7_judge 8 = .ok (.sipush 4096, 3) := by decide +kernel
theorem dX7_judge_11 : decode cX7_judge 11 = .ok (.invokestatic 34, 3) := by decide +kernel
theorem dX7_judge_14 : decode cX7_judge 14 = .ok (.ifCond .ne 9, 3) := by decide +kernel
theorem dX7_judge_17 : decode cX7_judge 17 = .ok (.aload_n 0, 1) := by decide +kernel
theorem dX7_judge_18 : decode cX7_judge 18 = .ok (.iconst (-1), 1) := by decide +kernel
theorem dX7_judge_19 : decode cX7_judge 19 = .ok (.invokevirtual 38, 3) := by decide +kernel
theorem dX7_judge_22 : decode cX7_judge 22 = .ok (.ireturn, 1) := by decide +kernel
theorem dX7_judge_23 : decode cX7_judge 23 = .ok (.aload_n 0, 1) := by decide +kernel
theorem dX7_judge_24 : decode cX7_judge 24 = .ok (.getfield 99, 3) := by decide +kernel
theorem dX7_judge_27 : decode cX7_judge 27 = .ok (.istore_n 3, 1) := by decide +kernel
theorem dX7_judge_28 : decode cX7_judge 28 = .ok (.aload_n 0, 1) := by decide +kernel
theorem dX7_judge_29 : decode cX7_judge 29 = .ok (.iconst 0, 1) := by decide +kernel
theorem dX7_judge_30 : decode cX7_judge 30 = .ok (.putfield 99, 3) := by decide +kernel
theorem dX7_judge_33 : decode cX7_judge 33 = .ok (.iload_n 2, 1) := by decide +kernel
theorem dX7_judge_34 : decode cX7_judge 34 = .ok (.istore 4, 2) := by decide +kernel
theorem dX7_judge_36 : decode cX7_judge 36 = .ok (.iconst 0, 1) := by decide +kernel
theorem dX7_judge_37 : decode cX7_judge 37 = .ok (.istore 5, 2) := by decide +kernel
theorem dX7_judge_39 : decode cX7_judge 39 = .ok (.iload 5, 2) := by decide +kernel
theorem dX7_judge_41 : decode cX7_judge 41 = .ok (.iload_n 3, 1) := by decide +kernel
theorem dX7_judge_42 : decode cX7_judge 42 = .ok (.if_icmp .ge 66, 3) := by decide +kernel
theorem dX7_judge_45 : decode cX7_judge 45 = .ok (.aload_n 0, 1) := by decide +kernel
theorem dX7_judge_46 : decode cX7_judge 46 = .ok (.getfield 28, 3) := by decide +kernel
theorem dX7_judge_49 : decode cX7_judge 49 = .ok (.iload 5, 2) := by decide +kernel
theorem dX7_judge_51 : decode cX7_judge 51 = .ok (.iaload, 1) := by decide +kernel
theorem dX7_judge_52 : decode cX7_judge 52 = .ok (.istore 6, 2) := by decide +kernel
theorem dX7_judge_54 : decode cX7_judge 54 = .ok (.iload 6, 2) := by decide +kernel
theorem dX7_judge_56 : decode cX7_judge 56 = .ok (.bipush 12, 2) := by decide +kernel
theorem dX7_judge_58 : decode cX7_judge 58 = .ok (.invokestatic 34, 3) := by decide +kernel
theorem dX7_judge_61 : decode cX7_judge 61 = .ok (.ifCond .eq 29, 3) := by decide +kernel
theorem dX7_judge_64 : decode cX7_judge 64 = .ok (.iload 4, 2) := by decide +kernel
theorem dX7_judge_66 : decode cX7_judge 66 = .ok (.iload 6, 2) := by decide +kernel
theorem dX7_judge_68 : decode cX7_judge 68 = .ok (.ishr, 1) := by decide +kernel
theorem dX7_judge_69 : decode cX7_judge 69 = .ok (.iconst 1, 1) := by decide +kernel
theorem dX7_judge_70 : decode cX7_judge 70 = .ok (.iand, 1) := by decide +kernel
theorem dX7_judge_71 : decode cX7_judge 71 = .ok (.iconst 1, 1) := by decide +kernel
theorem dX7_judge_72 : decode cX7_judge 72 = .ok (.if_icmp .eq 18, 3) := by decide +kernel
theorem dX7_judge_75 : decode cX7_judge 75 = .ok (.aload_n 0, 1) := by decide +kernel
theorem dX7_judge_76 : decode cX7_judge 76 = .ok (.iload_n 1, 1) := by decide +kernel
theorem dX7_judge_77 : decode cX7_judge 77 = .ok (.iload 4, 2) := by decide +kernel
theorem dX7_judge_79 : decode cX7_judge 79 = .ok (.invokevirtual 93, 3) := by decide +kernel
theorem dX7_judge_82 : decode cX7_judge 82 = .ok (.iload 6, 2) := by decide +kernel
theorem dX7_judge_84 : decode cX7_judge 84 = .ok (.ishr, 1) := by decide +kernel
theorem dX7_judge_85 : decode cX7_judge 85 = .ok (.iconst 1, 1) := by decide +kernel
theorem dX7_judge_86 : decode cX7_judge 86 = .ok (.iand, 1) := by decide +kernel
theorem dX7_judge_87 : decode cX7_judge 87 = .ok (.ifCond .ne 6, 3) := by decide +kernel
theorem dX7_judge_90 : decode cX7_judge 90 = .ok (.iload 5, 2) := by decide +kernel
theorem dX7_judge_92 : decode cX7_judge 92 = .ok (.ireturn, 1) := by decide +kernel
theorem dX7_judge_93 : decode cX7_judge 93 = .ok (.iload 4, 2) := by decide +kernel
theorem dX7_judge_95 : decode cX7_judge 95 = .ok (.iconst 1, 1) := by decide +kernel
theorem dX7_judge_96 : decode cX7_judge 96 = .ok (.iload 6, 2) := by decide +kernel
theorem dX7_judge_98 : decode cX7_judge 98 = .ok (.ishl, 1) := by decide +kernel
theorem dX7_judge_99 : decode cX7_judge 99 = .ok (.ior, 1) := by decide +kernel
theorem dX7_judge_100 : decode cX7_judge 100 = .ok (.istore 4, 2) := by decide +kernel
theorem dX7_judge_102 : decode cX7_judge 102 = .ok (.iinc 5 1, 3) := by decide +kernel
theorem dX7_judge_105 : decode cX7_judge 105 = .ok (.goto (-66), 3) := by decide +kernel
theorem dX7_judge_108 : decode cX7_judge 108 = .ok (.bipush (-9), 2) := by decide +kernel
theorem dX7_judge_110 : decode cX7_judge 110 = .ok (.ireturn, 1) := by decide +kernel
theorem dX7_neededBy_0 : decode cX7_neededBy 0 = .ok (.iconst 0, 1) := by decide +kernel
theorem dX7_neededBy_1 : decode cX7_neededBy 1 = .ok (.istore_n 3, 1) := by decide +kernel
theorem dX7_neededBy_2 : decode cX7_neededBy 2 = .ok (.iconst 0, 1) := by decide +kernel
theorem dX7_neededBy_3 : decode cX7_neededBy 3 = .ok (.istore 4, 2) := by decide +kernel
theorem dX7_neededBy_5 : decode cX7_neededBy 5 = .ok (.iload 4, 2) := by decide +kernel
theorem dX7_neededBy_7 : decode cX7_neededBy 7 = .ok (.aload_n 0, 1) := by decide +kernel
theorem dX7_neededBy_8 : decode cX7_neededBy 8 = .ok (.getfield 13, 3) := by decide +kernel
theorem dX7_neededBy_11 : decode cX7_neededBy 11 = .ok (.sipush 160, 3) := by decide +kernel
theorem dX7_neededBy_14 : decode cX7_neededBy 14 = .ok (.iload_n 1, 1) := by decide +kernel
theorem dX7_neededBy_15 : decode cX7_neededBy 15 = .ok (.iadd, 1) := by decide +kernel
theorem dX7_neededBy_16 : decode cX7_neededBy 16 = .ok (.iaload, 1) := by decide +kernel
theorem dX7_neededBy_17 : decode cX7_neededBy 17 = .ok (.if_icmp .ge 36, 3) := by decide +kernel
theorem dX7_neededBy_20 : decode cX7_neededBy 20 = .ok (.iload_n 3, 1) := by decide +kernel
theorem dX7_neededBy_21 : decode cX7_neededBy 21 = .ok (.aload_n 0, 1) := by decide +kernel
theorem dX7_neededBy_22 : decode cX7_neededBy 22 = .ok (.iload_n 1, 1) := by decide +kernel
theorem dX7_neededBy_23 : decode cX7_neededBy 23 = .ok (.iload 4, 2) := by decide +kernel
theorem dX7_neededBy_25 : decode cX7_neededBy 25 = .ok (.iconst 0, 1) := by decide +kernel
theorem dX7_neededBy_26 : decode cX7_neededBy 26 = .ok (.invokevirtual 65, 3) := by decide +kernel
theorem dX7_neededBy_29 : decode cX7_neededBy 29 = .ok (.iload_n 2, 1) := by decide +kernel
theorem dX7_neededBy_30 : decode cX7_neededBy 30 = .ok (.if_icmp .ne 14, 3) := by decide +kernel
theorem dX7_neededBy_33 : decode cX7_neededBy 33 = .ok (.aload_n 0, 1) := by decide +kernel
theorem dX7_neededBy_34 : decode cX7_neededBy 34 = .ok (.iload_n 1, 1) := by decide +kernel
theorem dX7_neededBy_35 : decode cX7_neededBy 35 = .ok (.iload 4, 2) := by decide +kernel
theorem dX7_neededBy_37 : decode cX7_neededBy 37 = .ok (.iconst 2, 1) := by decide +kernel
theorem dX7_neededBy_38 : decode cX7_neededBy 38 = .ok (.invokevirtual 65, 3) := by decide +kernel
theorem dX7_neededBy_41 : decode cX7_neededBy 41 = .ok (.goto 4, 3) := by decide +kernel
theorem dX7_neededBy_44 : decode cX7_neededBy 44 = .ok (.iconst 0, 1) := by decide +kernel
theorem dX7_neededBy_45 : decode cX7_neededBy 45 = .ok (.ior, 1) := by decide +kernel
theorem dX7_neededBy_46 : decode cX7_neededBy 46 = .ok (.istore_n 3, 1) := by decide +kernel
theorem dX7_neededBy_47 : decode cX7_neededBy 47 = .ok (.iinc 4 1, 3) := by decide +kernel
theorem dX7_neededBy_50 : decode cX7_neededBy 50 = .ok (.goto (-45), 3) := by decide +kernel
theorem dX7_neededBy_53 : decode cX7_neededBy 53 = .ok (.iload_n 3, 1) := by decide +kernel
theorem dX7_neededBy_54 : decode cX7_neededBy 54 = .ok (.ireturn, 1) := by decide +kernel
theorem dX7_needed_0 : decode cX7_needed 0 = .ok (.iload_n 1, 1) := by decide +kernel
theorem dX7_needed_1 : decode cX7_needed 1 = .ok (.invokestatic 69, 3) := by decide +kernel
theorem dX7_needed_4 : decode cX7_needed 4 = .ok (.ifCond .eq 21, 3) := by decide +kernel
theorem dX7_needed_7 : decode cX7_needed 7 = .ok (.iload_n 2, 1) := by decide +kernel
theorem dX7_needed_8 : decode cX7_needed 8 = .ok (.bipush 12, 2) := by decide +kernel
theorem dX7_needed_10 : decode cX7_needed 10 = .ok (.invokestatic 34, 3) := by decide +kernel
theorem dX7_needed_13 : decode cX7_needed 13 = .ok (.ifCond .eq 12, 3) := by decide +kernel
theorem dX7_needed_16 : decode cX7_needed 16 = .ok (.aload_n 0, 1) := by decide +kernel
theorem dX7_needed_17 : decode cX7_needed 17 = .ok (.iload_n 1, 1) := by decide +kernel
theorem dX7_needed_18 : decode cX7_needed 18 = .ok (.iload_n 2, 1) := by decide +kernel
theorem dX7_needed_19 : decode cX7_needed 19 = .ok (.invokevirtual 102, 3) := by decide +kernel
theorem dX7_needed_22 : decode cX7_needed 22 = .ok (.goto 8, 3) := by decide +kernel
theorem dX7_needed_25 : decode cX7_needed 25 = .ok (.aload_n 0, 1) := by decide +kernel
theorem dX7_needed_26 : decode cX7_needed 26 = .ok (.iconst (-1), 1) := by decide +kernel
theorem dX7_needed_27 : decode cX7_needed 27 = .ok (.invokevirtual 38, 3) := by decide +kernel
theorem dX7_needed_30 : decode cX7_needed 30 = .ok (.ireturn, 1) := by decide +kernel
theorem dX7_idle_0 : decode cX7_idle 0 = .ok (.iload_n 1, 1) := by decide +kernel
theorem dX7_idle_1 : decode cX7_idle 1 = .ok (.invokestatic 69, 3) := by decide +kernel
theorem dX7_idle_4 : decode cX7_idle 4 = .ok (.ifCond .ne 9, 3) := by decide +kernel
theorem dX7_idle_7 : decode cX7_idle 7 = .ok (.aload_n 0, 1) := by decide +kernel
theorem dX7_idle_8 : decode cX7_idle 8 = .ok (.iconst (-1), 1) := by decide +kernel
theorem dX7_idle_9 : decode cX7_idle 9 = .ok (.invokevirtual 38, 3) := by decide +kernel
theorem dX7_idle_12 : decode cX7_idle 12 = .ok (.ireturn, 1) := by decide +kernel
theorem dX7_idle_13 : decode cX7_idle 13 = .ok (.iconst 0, 1) := by decide +kernel
theorem dX7_idle_14 : decode cX7_idle 14 = .ok (.istore_n 2, 1) := by decide +kernel
theorem dX7_idle_15 : decode cX7_idle 15 = .ok (.iconst 0, 1) := by decide +kernel
theorem dX7_idle_16 : decode cX7_idle 16 = .ok (.istore_n 3, 1) := by decide +kernel
theorem dX7_idle_17 : decode cX7_idle 17 = .ok (.iload_n 3, 1) := by decide +kernel
theorem dX7_idle_18 : decode cX7_idle 18 = .ok (.bipush 12, 2) := by decide +kernel
theorem dX7_idle_20 : decode cX7_idle 20 = .ok (.if_icmp .ge 18, 3) := by decide +kernel
theorem dX7_idle_23 : decode cX7_idle 23 = .ok (.iload_n 2, 1) := by decide +kernel
theorem dX7_idle_24 : decode cX7_idle 24 = .ok (.aload_n 0, 1) := by decide +kernel
theorem dX7_idle_25 : decode cX7_idle 25 = .ok (.iload_n 1, 1) := by decide +kernel
theorem dX7_idle_26 : decode cX7_idle 26 = .ok (.iload_n 3, 1) := by decide +kernel
theorem dX7_idle_27 : decode cX7_idle 27 = .ok (.invokevirtual 102, 3) := by decide +kernel
theorem dX7_idle_30 : decode cX7_idle 30 = .ok (.ior, 1) := by decide +kernel
theorem dX7_idle_31 : decode cX7_idle 31 = .ok (.istore_n 2, 1) := by decide +kernel
theorem dX7_idle_32 : decode cX7_idle 32 = .ok (.iinc 3 1, 3) := by decide +kernel
theorem dX7_idle_35 : decode cX7_idle 35 = .ok (.goto (-18), 3) := by decide +kernel
theorem dX7_idle_38 : decode cX7_idle 38 = .ok (.iload_n 2, 1) := by decide +kernel
theorem dX7_idle_39 : decode cX7_idle 39 = .ok (.iconst (-1), 1) := by decide +kernel
theorem dX7_idle_40 : decode cX7_idle 40 = .ok (.ixor, 1) := by decide +kernel
theorem dX7_idle_41 : decode cX7_idle 41 = .ok (.sipush 4095, 3) := by decide +kernel
theorem dX7_idle_44 : decode cX7_idle 44 = .ok (.iand, 1) := by decide +kernel
theorem dX7_idle_45 : decode cX7_idle 45 = .ok (.ireturn, 1) := by decide +kernel
theorem dX7_leadsBy_0 : decode cX7_leadsBy 0 = .ok (.aload_n 0, 1) := by decide +kernel
theorem dX7_leadsBy_1 : decode cX7_leadsBy 1 = .ok (.iload_n 1, 1) := by decide +kernel
theorem dX7_leadsBy_2 : decode cX7_leadsBy 2 = .ok (.iload_n 2, 1) := by decide +kernel
theorem dX7_leadsBy_3 : decode cX7_leadsBy 3 = .ok (.invokevirtual 102, 3) := by decide +kernel
theorem dX7_leadsBy_6 : decode cX7_leadsBy 6 = .ok (.istore_n 3, 1) := by decide +kernel
theorem dX7_leadsBy_7 : decode cX7_leadsBy 7 = .ok (.iconst 0, 1) := by decide +kernel
theorem dX7_leadsBy_8 : decode cX7_leadsBy 8 = .ok (.istore 4, 2) := by decide +kernel
theorem dX7_leadsBy_10 : decode cX7_leadsBy 10 = .ok (.iload 4, 2) := by decide +kernel
theorem dX7_leadsBy_12 : decode cX7_leadsBy 12 = .ok (.bipush 12, 2) := by decide +kernel
theorem dX7_leadsBy_14 : decode cX7_leadsBy 14 = .ok (.if_icmp .ge 49, 3) := by decide +kernel
theorem dX7_leadsBy_17 : decode cX7_leadsBy 17 = .ok (.iconst 0, 1) := by decide +kernel
theorem dX7_leadsBy_18 : decode cX7_leadsBy 18 = .ok (.istore 5, 2) := by decide +kernel
theorem dX7_leadsBy_20 : decode cX7_leadsBy 20 = .ok (.iload 5, 2) := by decide +kernel
theorem dX7_leadsBy_22 : decode cX7_leadsBy 22 = .ok (.bipush 12, 2) := by decide +kernel
theorem dX7_leadsBy_24 : decode cX7_leadsBy 24 = .ok (.if_icmp .ge 33, 3) := by decide +kernel
theorem dX7_leadsBy_27 : decode cX7_leadsBy 27 = .ok (.iload_n 3, 1) := by decide +kernel
theorem dX7_leadsBy_28 : decode cX7_leadsBy 28 = .ok (.iload_n 3, 1) := by decide +kernel
theorem dX7_leadsBy_29 : decode cX7_leadsBy 29 = .ok (.iload 5, 2) := by decide +kernel
theorem dX7_leadsBy_31 : decode cX7_leadsBy 31 = .ok (.ishr, 1) := by decide +kernel
theorem dX7_leadsBy_32 : decode cX7_leadsBy 32 = .ok (.iconst 1, 1) := by decide +kernel
theorem dX7_leadsBy_33 : decode cX7_leadsBy 33 = .ok (.iand, 1) := by decide +kernel
theorem dX7_leadsBy_34 : decode cX7_leadsBy 34 = .ok (.iconst 1, 1) := by decide +kernel
theorem dX7_leadsBy_35 : decode cX7_leadsBy 35 = .ok (.if_icmp .ne 13, 3) := by decide +kernel
theorem dX7_leadsBy_38 : decode cX7_leadsBy 38 = .ok (.aload_n 0, 1) := by decide +kernel
theorem dX7_leadsBy_39 : decode cX7_leadsBy 39 = .ok (.iload_n 1, 1) := by decide +kernel
theorem dX7_leadsBy_40 : decode cX7_leadsBy 40 = .ok (.iload 5, 2) := by decide +kernel
theorem dX7_leadsBy_42 : decode cX7_leadsBy 42 = .ok (.invokevirtual 102, 3) := by decide +kernel
theorem dX7_leadsBy_45 : decode cX7_leadsBy 45 = .ok (.goto 4, 3) := by decide +kernel
theorem dX7_leadsBy_48 : decode cX7_leadsBy 48 = .ok (.iconst 0, 1) := by decide +kernel
theorem dX7_leadsBy_49 : decode cX7_leadsBy 49 = .ok (.ior, 1) := by decide +kernel
theorem dX7_leadsBy_50 : decode cX7_leadsBy 50 = .ok (.istore_n 3, 1) := by decide +kernel
theorem dX7_leadsBy_51 : decode cX7_leadsBy 51 = .ok (.iinc 5 1, 3) := by decide +kernel
theorem dX7_leadsBy_54 : decode cX7_leadsBy 54 = .ok (.goto (-34), 3) := by decide +kernel
theorem dX7_leadsBy_57 : decode cX7_leadsBy 57 = .ok (.iinc 4 1, 3) := by decide +kernel
theorem dX7_leadsBy_60 : decode cX7_leadsBy 60 = .ok (.goto (-50), 3) := by decide +kernel
theorem dX7_leadsBy_63 : decode cX7_leadsBy 63 = .ok (.iload_n 3, 1) := by decide +kernel
theorem dX7_leadsBy_64 : decode cX7_leadsBy 64 = .ok (.ireturn, 1) := by decide +kernel
theorem dX7_leads_0 : decode cX7_leads 0 = .ok (.iload_n 1, 1) := by decide +kernel
theorem dX7_leads_1 : decode cX7_leads 1 = .ok (.invokestatic 69, 3) := by decide +kernel
theorem dX7_leads_4 : decode cX7_leads 4 = .ok (.ifCond .eq 21, 3) := by decide +kernel
theorem dX7_leads_7 : decode cX7_leads 7 = .ok (.iload_n 2, 1) := by decide +kernel
theorem dX7_leads_8 : decode cX7_leads 8 = .ok (.bipush 12, 2) := by decide +kernel
theorem dX7_leads_10 : decode cX7_leads 10 = .ok (.invokestatic 34, 3) := by decide +kernel
theorem dX7_leads_13 : decode cX7_leads 13 = .ok (.ifCond .eq 12, 3) := by decide +kernel
theorem dX7_leads_16 : decode cX7_leads 16 = .ok (.aload_n 0, 1) := by decide +kernel
theorem dX7_leads_17 : decode cX7_leads 17 = .ok (.iload_n 1, 1) := by decide +kernel
theorem dX7_leads_18 : decode cX7_leads 18 = .ok (.iload_n 2, 1) := by decide +kernel
theorem dX7_leads_19 : decode cX7_leads 19 = .ok (.invokevirtual 105, 3) := by decide +kernel
theorem dX7_leads_22 : decode cX7_leads 22 = .ok (.goto 8, 3) := by decide +kernel
theorem dX7_leads_25 : decode cX7_leads 25 = .ok (.aload_n 0, 1) := by decide +kernel
theorem dX7_leads_26 : decode cX7_leads 26 = .ok (.iconst (-1), 1) := by decide +kernel
theorem dX7_leads_27 : decode cX7_leads 27 = .ok (.invokevirtual 38, 3) := by decide +kernel
theorem dX7_leads_30 : decode cX7_leads 30 = .ok (.ireturn, 1) := by decide +kernel
theorem dX7_knotBy_0 : decode cX7_knotBy 0 = .ok (.aload_n 0, 1) := by decide +kernel
theorem dX7_knotBy_1 : decode cX7_knotBy 1 = .ok (.iload_n 1, 1) := by decide +kernel
theorem dX7_knotBy_2 : decode cX7_knotBy 2 = .ok (.iload_n 2, 1) := by decide +kernel
theorem dX7_knotBy_3 : decode cX7_knotBy 3 = .ok (.invokevirtual 105, 3) := by decide +kernel
theorem dX7_knotBy_6 : decode cX7_knotBy 6 = .ok (.istore_n 3, 1) := by decide +kernel
theorem dX7_knotBy_7 : decode cX7_knotBy 7 = .ok (.iconst 1, 1) := by decide +kernel
theorem dX7_knotBy_8 : decode cX7_knotBy 8 = .ok (.iload_n 2, 1) := by decide +kernel
theorem dX7_knotBy_9 : decode cX7_knotBy 9 = .ok (.ishl, 1) := by decide +kernel
theorem dX7_knotBy_10 : decode cX7_knotBy 10 = .ok (.istore 4, 2) := by decide +kernel
theorem dX7_knotBy_12 : decode cX7_knotBy 12 = .ok (.iconst 0, 1) := by decide +kernel
theorem dX7_knotBy_13 : decode cX7_knotBy 13 = .ok (.istore 5, 2) := by decide +kernel
theorem dX7_knotBy_15 : decode cX7_knotBy 15 = .ok (.iload 5, 2) := by decide +kernel
theorem dX7_knotBy_17 : decode cX7_knotBy 17 = .ok (.bipush 12, 2) := by decide +kernel
theorem dX7_knotBy_19 : decode cX7_knotBy 19 = .ok (.if_icmp .ge 47, 3) := by decide +kernel
theorem dX7_knotBy_22 : decode cX7_knotBy 22 = .ok (.iload 4, 2) := by decide +kernel
theorem dX7_knotBy_24 : decode cX7_knotBy 24 = .ok (.iload_n 3, 1) := by decide +kernel
theorem dX7_knotBy_25 : decode cX7_knotBy 25 = .ok (.iload 5, 2) := by decide +kernel
theorem dX7_knotBy_27 : decode cX7_knotBy 27 = .ok (.ishr, 1) := by decide +kernel
theorem dX7_knotBy_28 : decode cX7_knotBy 28 = .ok (.iconst 1, 1) := by decide +kernel
theorem dX7_knotBy_29 : decode cX7_knotBy 29 = .ok (.iand, 1) := by decide +kernel
theorem dX7_knotBy_30 : decode cX7_knotBy 30 = .ok (.iconst 1, 1) := by decide +kernel
theorem dX7_knotBy_31 : decode cX7_knotBy 31 = .ok (.if_icmp .ne 25, 3) := by decide +kernel
theorem dX7_knotBy_34 : decode cX7_knotBy 34 = .ok (.aload_n 0, 1) := by decide +kernel
theorem dX7_knotBy_35 : decode cX7_knotBy 35 = .ok (.iload_n 1, 1) := by decide +kernel
theorem dX7_knotBy_36 : decode cX7_knotBy 36 = .ok (.iload 5, 2) := by decide +kernel
theorem dX7_knotBy_38 : decode cX7_knotBy 38 = .ok (.invokevirtual 105, 3) := by decide +kernel
theorem dX7_knotBy_41 : decode cX7_knotBy 41 = .ok (.iload_n 2, 1) := by decide +kernel
theorem dX7_knotBy_42 : decode cX7_knotBy 42 = .ok (.ishr, 1) := by decide +kernel
theorem dX7_knotBy_43 : decode cX7_knotBy 43 = .ok (.iconst 1, 1) := by decide +kernel
theorem dX7_knotBy_44 : decode cX7_knotBy 44 = .ok (.iand, 1) := by decide +kernel
theorem dX7_knotBy_45 : decode cX7_knotBy 45 = .ok (.iconst 1, 1) := by decide +kernel
theorem dX7_knotBy_46 : decode cX7_knotBy 46 = .ok (.if_icmp .ne 10, 3) := by decide +kernel
theorem dX7_knotBy_49 : decode cX7_knotBy 49 = .ok (.iconst 1, 1) := by decide +kernel
theorem dX7_knotBy_50 : decode cX7_knotBy 50 = .ok (.iload 5, 2) := by decide +kernel
theorem dX7_knotBy_52 : decode cX7_knotBy 52 = .ok (.ishl, 1) := by decide +kernel
theorem dX7_knotBy_53 : decode cX7_knotBy 53 = .ok (.goto 4, 3) := by decide +kernel
theorem dX7_knotBy_56 : decode cX7_knotBy 56 = .ok (.iconst 0, 1) := by decide +kernel
theorem dX7_knotBy_57 : decode cX7_knotBy 57 = .ok (.ior, 1) := by decide +kernel
theorem dX7_knotBy_58 : decode cX7_knotBy 58 = .ok (.istore 4, 2) := by decide +kernel
theorem dX7_knotBy_60 : decode cX7_knotBy 60 = .ok (.iinc 5 1, 3) := by decide +kernel
theorem dX7_knotBy_63 : decode cX7_knotBy 63 = .ok (.goto (-48), 3) := by decide +kernel
theorem dX7_knotBy_66 : decode cX7_knotBy 66 = .ok (.iload 4, 2) := by decide +kernel
theorem dX7_knotBy_68 : decode cX7_knotBy 68 = .ok (.ireturn, 1) := by decide +kernel
theorem dX7_knot_0 : decode cX7_knot 0 = .ok (.iload_n 1, 1) := by decide +kernel
theorem dX7_knot_1 : decode cX7_knot 1 = .ok (.invokestatic 69, 3) := by decide +kernel
theorem dX7_knot_4 : decode cX7_knot 4 = .ok (.ifCond .eq 21, 3) := by decide +kernel
theorem dX7_knot_7 : decode cX7_knot 7 = .ok (.iload_n 2, 1) := by decide +kernel
theorem dX7_knot_8 : decode cX7_knot 8 = .ok (.bipush 12, 2) := by decide +kernel
theorem dX7_knot_10 : decode cX7_knot 10 = .ok (.invokestatic 34, 3) := by decide +kernel
theorem dX7_knot_13 : decode cX7_knot 13 = .ok (.ifCond .eq 12, 3) := by decide +kernel
theorem dX7_knot_16 : decode cX7_knot 16 = .ok (.aload_n 0, 1) := by decide +kernel
theorem dX7_knot_17 : decode cX7_knot 17 = .ok (.iload_n 1, 1) := by decide +kernel
theorem dX7_knot_18 : decode cX7_knot 18 = .ok (.iload_n 2, 1) := by decide +kernel
theorem dX7_knot_19 : decode cX7_knot 19 = .ok (.invokevirtual 108, 3) := by decide +kernel
theorem dX7_knot_22 : decode cX7_knot 22 = .ok (.goto 8, 3) := by decide +kernel
theorem dX7_knot_25 : decode cX7_knot 25 = .ok (.aload_n 0, 1) := by decide +kernel
theorem dX7_knot_26 : decode cX7_knot 26 = .ok (.iconst (-1), 1) := by decide +kernel
theorem dX7_knot_27 : decode cX7_knot 27 = .ok (.invokevirtual 38, 3) := by decide +kernel
theorem dX7_knot_30 : decode cX7_knot 30 = .ok (.ireturn, 1) := by decide +kernel
theorem dX7_knots_0 : decode cX7_knots 0 = .ok (.iload_n 1, 1) := by decide +kernel
theorem dX7_knots_1 : decode cX7_knots 1 = .ok (.invokestatic 69, 3) := by decide +kernel
theorem dX7_knots_4 : decode cX7_knots 4 = .ok (.ifCond .ne 9, 3) := by decide +kernel
theorem dX7_knots_7 : decode cX7_knots 7 = .ok (.aload_n 0, 1) := by decide +kernel
theorem dX7_knots_8 : decode cX7_knots 8 = .ok (.iconst (-1), 1) := by decide +kernel
theorem dX7_knots_9 : decode cX7_knots 9 = .ok (.invokevirtual 38, 3) := by decide +kernel
theorem dX7_knots_12 : decode cX7_knots 12 = .ok (.ireturn, 1) := by decide +kernel
theorem dX7_knots_13 : decode cX7_knots 13 = .ok (.iconst 0, 1) := by decide +kernel
theorem dX7_knots_14 : decode cX7_knots 14 = .ok (.istore_n 2, 1) := by decide +kernel
theorem dX7_knots_15 : decode cX7_knots 15 = .ok (.iconst 0, 1) := by decide +kernel
theorem dX7_knots_16 : decode cX7_knots 16 = .ok (.istore_n 3, 1) := by decide +kernel
theorem dX7_knots_17 : decode cX7_knots 17 = .ok (.iload_n 3, 1) := by decide +kernel
theorem dX7_knots_18 : decode cX7_knots 18 = .ok (.bipush 12, 2) := by decide +kernel
theorem dX7_knots_20 : decode cX7_knots 20 = .ok (.if_icmp .ge 45, 3) := by decide +kernel
theorem dX7_knots_23 : decode cX7_knots 23 = .ok (.aload_n 0, 1) := by decide +kernel
theorem dX7_knots_24 : decode cX7_knots 24 = .ok (.iload_n 1, 1) := by decide +kernel
theorem dX7_knots_25 : decode cX7_knots 25 = .ok (.iload_n 3, 1) := by decide +kernel
theorem dX7_knots_26 : decode cX7_knots 26 = .ok (.invokevirtual 108, 3) := by decide +kernel
theorem dX7_knots_29 : decode cX7_knots 29 = .ok (.istore 4, 2) := by decide +kernel
theorem dX7_knots_31 : decode cX7_knots 31 = .ok (.iload_n 2, 1) := by decide +kernel
theorem dX7_knots_32 : decode cX7_knots 32 = .ok (.iload 4, 2) := by decide +kernel
theorem dX7_knots_34 : decode cX7_knots 34 = .ok (.invokestatic 86, 3) := by decide +kernel
theorem dX7_knots_37 : decode cX7_knots 37 = .ok (.iconst 1, 1) := by decide +kernel
theorem dX7_knots_38 : decode cX7_knots 38 = .ok (.if_icmp .le 18, 3) := by decide +kernel
theorem dX7_knots_41 : decode cX7_knots 41 = .ok (.iload 4, 2) := by decide +kernel
theorem dX7_knots_43 : decode cX7_knots 43 = .ok (.iconst 1, 1) := by decide +kernel
theorem dX7_knots_44 : decode cX7_knots 44 = .ok (.iload_n 3, 1) := by decide +kernel
theorem dX7_knots_45 : decode cX7_knots 45 = .ok (.ishl, 1) := by decide +kernel
theorem dX7_knots_46 : decode cX7_knots 46 = .ok (.iconst 1, 1) := by decide +kernel
theorem dX7_knots_47 : decode cX7_knots 47 = .ok (.isub, 1) := by decide +kernel
theorem dX7_knots_48 : decode cX7_knots 48 = .ok (.iand, 1) := by decide +kernel
theorem dX7_knots_49 : decode cX7_knots 49 = .ok (.ifCond .ne 7, 3) := by decide +kernel
theorem dX7_knots_52 : decode cX7_knots 52 = .ok (.iconst 1, 1) := by decide +kernel
theorem dX7_knots_53 : decode cX7_knots 53 = .ok (.goto 4, 3) := by decide +kernel
theorem dX7_knots_56 : decode cX7_knots 56 = .ok (.iconst 0, 1) := by decide +kernel
theorem dX7_knots_57 : decode cX7_knots 57 = .ok (.iadd, 1) := by decide +kernel
theorem dX7_knots_58 : decode cX7_knots 58 = .ok (.istore_n 2, 1) := by decide +kernel
theorem dX7_knots_59 : decode cX7_knots 59 = .ok (.iinc 3 1, 3) := by decide +kernel
theorem dX7_knots_62 : decode cX7_knots 62 = .ok (.goto (-45), 3) := by decide +kernel
theorem dX7_knots_65 : decode cX7_knots 65 = .ok (.iload_n 2, 1) := by decide +kernel
theorem dX7_knots_66 : decode cX7_knots 66 = .ok (.ireturn, 1) := by decide +kernel
theorem dX7_fewestOf_0 : decode cX7_fewestOf 0 = .ok (.iconst 0, 1) := by decide +kernel
theorem dX7_fewestOf_1 : decode cX7_fewestOf 1 = .ok (.istore_n 2, 1) := by decide +kernel
theorem dX7_fewestOf_2 : decode cX7_fewestOf 2 = .ok (.iload_n 2, 1) := by decide +kernel
theorem dX7_fewestOf_3 : decode cX7_fewestOf 3 = .ok (.bipush 12, 2) := by decide +kernel
theorem dX7_fewestOf_5 : decode cX7_fewestOf 5 = .ok (.if_icmp .ge 43, 3) := by decide +kernel
theorem dX7_fewestOf_8 : decode cX7_fewestOf 8 = .ok (.iconst 0, 1) := by decide +kernel
theorem dX7_fewestOf_9 : decode cX7_fewestOf 9 = .ok (.istore_n 3, 1) := by decide +kernel
theorem dX7_fewestOf_10 : decode cX7_fewestOf 10 = .ok (.iload_n 3, 1) := by decide +kernel
theorem dX7_fewestOf_11 : decode cX7_fewestOf 11 = .ok (.sipush 4096, 3) := by decide +kernel
theorem dX7_fewestOf_14 : decode cX7_fewestOf 14 = .ok (.if_icmp .ge 28, 3) := by decide +kernel
theorem dX7_fewestOf_17 : decode cX7_fewestOf 17 = .ok (.iload_n 3, 1) := by decide +kernel
theorem dX7_fewestOf_18 : decode cX7_fewestOf 18 = .ok (.invokestatic 86, 3) := by decide +kernel
theorem dX7_fewestOf_21 : decode cX7_fewestOf 21 = .ok (.iload_n 2, 1) := by decide +kernel
theorem dX7_fewestOf_22 : decode cX7_fewestOf 22 = .ok (.if_icmp .ne 14, 3) := by decide +kernel
theorem dX7_fewestOf_25 : decode cX7_fewestOf 25 = .ok (.aload_n 0, 1) := by decide +kernel
theorem dX7_fewestOf_26 : decode cX7_fewestOf 26 = .ok (.iload_n 1, 1) := by decide +kernel
theorem dX7_fewestOf_27 : decode cX7_fewestOf 27 = .ok (.iload_n 3, 1) := by decide +kernel
theorem dX7_fewestOf_28 : decode cX7_fewestOf 28 = .ok (.invokevirtual 111, 3) := by decide +kernel
theorem dX7_fewestOf_31 : decode cX7_fewestOf 31 = .ok (.ifCond .eq 5, 3) := by decide +kernel
theorem dX7_fewestOf_34 : decode cX7_fewestOf 34 = .ok (.iload_n 3, 1) := by decide +kernel
theorem dX7_fewestOf_35 : decode cX7_fewestOf 35 = .ok (.ireturn, 1) := by decide +kernel
theorem dX7_fewestOf_36 : decode cX7_fewestOf 36 = .ok (.iinc 3 1, 3) := by decide +kernel
theorem dX7_fewestOf_39 : decode cX7_fewestOf 39 = .ok (.goto (-29), 3) := by decide +kernel
theorem dX7_fewestOf_42 : decode cX7_fewestOf 42 = .ok (.iinc 2 1, 3) := by decide +kernel
theorem dX7_fewestOf_45 : decode cX7_fewestOf 45 = .ok (.goto (-43), 3) := by decide +kernel
theorem dX7_fewestOf_48 : decode cX7_fewestOf 48 = .ok (.sipush 4095, 3) := by decide +kernel
theorem dX7_fewestOf_51 : decode cX7_fewestOf 51 = .ok (.ireturn, 1) := by decide +kernel
theorem dX7_fewest_0 : decode cX7_fewest 0 = .ok (.iload_n 1, 1) := by decide +kernel
theorem dX7_fewest_1 : decode cX7_fewest 1 = .ok (.invokestatic 69, 3) := by decide +kernel
theorem dX7_fewest_4 : decode cX7_fewest 4 = .ok (.ifCond .eq 11, 3) := by decide +kernel
theorem dX7_fewest_7 : decode cX7_fewest 7 = .ok (.aload_n 0, 1) := by decide +kernel
theorem dX7_fewest_8 : decode cX7_fewest 8 = .ok (.iload_n 1, 1) := by decide +kernel
theorem dX7_fewest_9 : decode cX7_fewest 9 = .ok (.invokevirtual 114, 3) := by decide +kernel
theorem dX7_fewest_12 : decode cX7_fewest 12 = .ok (.goto 8, 3) := by decide +kernel
theorem dX7_fewest_15 : decode cX7_fewest 15 = .ok (.aload_n 0, 1) := by decide +kernel
theorem dX7_fewest_16 : decode cX7_fewest 16 = .ok (.iconst (-1), 1) := by decide +kernel
theorem dX7_fewest_17 : decode cX7_fewest 17 = .ok (.invokevirtual 38, 3) := by decide +kernel
theorem dX7_fewest_20 : decode cX7_fewest 20 = .ok (.ireturn, 1) := by decide +kernel
theorem dX7_hardOf_0 : decode cX7_hardOf 0 = .ok (.iconst 0, 1) := by decide +kernel
theorem dX7_hardOf_1 : decode cX7_hardOf 1 = .ok (.istore_n 3, 1) := by decide +kernel
theorem dX7_hardOf_2 : decode cX7_hardOf 2 = .ok (.iconst 0, 1) := by decide +kernel
theorem dX7_hardOf_3 : decode cX7_hardOf 3 = .ok (.istore 4, 2) := by decide +kernel
theorem dX7_hardOf_5 : decode cX7_hardOf 5 = .ok (.iload 4, 2) := by decide +kernel
theorem dX7_hardOf_7 : decode cX7_hardOf 7 = .ok (.bipush 12, 2) := by decide +kernel
theorem dX7_hardOf_9 : decode cX7_hardOf 9 = .ok (.if_icmp .ge 35, 3) := by decide +kernel
theorem dX7_hardOf_12 : decode cX7_hardOf 12 = .ok (.iload_n 3, 1) := by decide +kernel
theorem dX7_hardOf_13 : decode cX7_hardOf 13 = .ok (.iload_n 2, 1) := by decide +kernel
theorem dX7_hardOf_14 : decode cX7_hardOf 14 = .ok (.iload 4, 2) := by decide +kernel
theorem dX7_hardOf_16 : decode cX7_hardOf 16 = .ok (.ishr, 1) := by decide +kernel
theorem dX7_hardOf_17 : decode cX7_hardOf 17 = .ok (.iconst 1, 1) := by decide +kernel
theorem dX7_hardOf_18 : decode cX7_hardOf 18 = .ok (.iand, 1) := by decide +kernel
theorem dX7_hardOf_19 : decode cX7_hardOf 19 = .ok (.aload_n 0, 1) := by decide +kernel
theorem dX7_hardOf_20 : decode cX7_hardOf 20 = .ok (.getfield 13, 3) := by decide +kernel
theorem dX7_hardOf_23 : decode cX7_hardOf 23 = .ok (.sipush 162, 3) := by decide +kernel
theorem dX7_hardOf_26 : decode cX7_hardOf 26 = .ok (.bipush 12, 2) := by decide +kernel
theorem dX7_hardOf_28 : decode cX7_hardOf 28 = .ok (.iload_n 1, 1) := by decide +kernel
theorem dX7_hardOf_29 : decode cX7_hardOf 29 = .ok (.imul, 1) := by decide +kernel
theorem dX7_hardOf_30 : decode cX7_hardOf 30 = .ok (.iadd, 1) := by decide +kernel
theorem dX7_hardOf_31 : decode cX7_hardOf 31 = .ok (.iload 4, 2) := by decide +kernel
theorem dX7_hardOf_33 : decode cX7_hardOf 33 = .ok (.iadd, 1) := by decide +kernel
theorem dX7_hardOf_34 : decode cX7_hardOf 34 = .ok (.iaload, 1) := by decide +kernel
theorem dX7_hardOf_35 : decode cX7_hardOf 35 = .ok (.imul, 1) := by decide +kernel
theorem dX7_hardOf_36 : decode cX7_hardOf 36 = .ok (.iadd, 1) := by decide +kernel
theorem dX7_hardOf_37 : decode cX7_hardOf 37 = .ok (.istore_n 3, 1) := by decide +kernel
theorem dX7_hardOf_38 : decode cX7_hardOf 38 = .ok (.iinc 4 1, 3) := by decide +kernel
theorem dX7_hardOf_41 : decode cX7_hardOf 41 = .ok (.goto (-36), 3) := by decide +kernel
theorem dX7_hardOf_44 : decode cX7_hardOf 44 = .ok (.iload_n 3, 1) := by decide +kernel
theorem dX7_hardOf_45 : decode cX7_hardOf 45 = .ok (.ireturn, 1) := by decide +kernel
theorem dX7_lightest_0 : decode cX7_lightest 0 = .ok (.iload_n 1, 1) := by decide +kernel
theorem dX7_lightest_1 : decode cX7_lightest 1 = .ok (.invokestatic 69, 3) := by decide +kernel
theorem dX7_lightest_4 : decode cX7_lightest 4 = .ok (.ifCond .ne 9, 3) := by decide +kernel
theorem dX7_lightest_7 : decode cX7_lightest 7 = .ok (.aload_n 0, 1) := by decide +kernel
theorem dX7_lightest_8 : decode cX7_lightest 8 = .ok (.iconst (-1), 1) := by decide +kernel
theorem dX7_lightest_9 : decode cX7_lightest 9 = .ok (.invokevirtual 38, 3) := by decide +kernel
theorem dX7_lightest_12 : decode cX7_lightest 12 = .ok (.ireturn, 1) := by decide +kernel
theorem dX7_lightest_13 : decode cX7_lightest 13 = .ok (.sipush 4095, 3) := by decide +kernel
theorem dX7_lightest_16 : decode cX7_lightest 16 = .ok (.istore_n 2, 1) := by decide +kernel
theorem dX7_lightest_17 : decode cX7_lightest 17 = .ok (.iconst 0, 1) := by decide +kernel
theorem dX7_lightest_18 : decode cX7_lightest 18 = .ok (.istore_n 3, 1) := by decide +kernel
theorem dX7_lightest_19 : decode cX7_lightest 19 = .ok (.iload_n 3, 1) := by decide +kernel
theorem dX7_lightest_20 : decode cX7_lightest 20 = .ok (.sipush 4096, 3) := by decide +kernel
theorem dX7_lightest_23 : decode cX7_lightest 23 = .ok (.if_icmp .ge 61, 3) := by decide +kernel
theorem dX7_lightest_26 : decode cX7_lightest 26 = .ok (.aload_n 0, 1) := by decide +kernel
theorem dX7_lightest_27 : decode cX7_lightest 27 = .ok (.iload_n 1, 1) := by decide +kernel
theorem dX7_lightest_28 : decode cX7_lightest 28 = .ok (.iload_n 3, 1) := by decide +kernel
theorem dX7_lightest_29 : decode cX7_lightest 29 = .ok (.invokevirtual 117, 3) := by decide +kernel
theorem dX7_lightest_32 : decode cX7_lightest 32 = .ok (.istore 4, 2) := by decide +kernel
theorem dX7_lightest_34 : decode cX7_lightest 34 = .ok (.aload_n 0, 1) := by decide +kernel
theorem dX7_lightest_35 : decode cX7_lightest 35 = .ok (.iload_n 1, 1) := by decide +kernel
theorem dX7_lightest_36 : decode cX7_lightest 36 = .ok (.iload_n 2, 1) := by decide +kernel
theorem dX7_lightest_37 : decode cX7_lightest 37 = .ok (.invokevirtual 117, 3) := by decide +kernel
theorem dX7_lightest_40 : decode cX7_lightest 40 = .ok (.istore 5, 2) := by decide +kernel
theorem dX7_lightest_42 : decode cX7_lightest 42 = .ok (.iload 4, 2) := by decide +kernel
theorem dX7_lightest_44 : decode cX7_lightest 44 = .ok (.iload 5, 2) := by decide +kernel
theorem dX7_lightest_46 : decode cX7_lightest 46 = .ok (.if_icmp .lt 21, 3) := by decide +kernel
theorem dX7_lightest_49 : decode cX7_lightest 49 = .ok (.iload 4, 2) := by decide +kernel
theorem dX7_lightest_51 : decode cX7_lightest 51 = .ok (.iload 5, 2) := by decide +kernel
theorem dX7_lightest_53 : decode cX7_lightest 53 = .ok (.if_icmp .ne 25, 3) := by decide +kernel
theorem dX7_lightest_56 : decode cX7_lightest 56 = .ok (.iload_n 3, 1) := by decide +kernel
theorem dX7_lightest_57 : decode cX7_lightest 57 = .ok (.invokestatic 86, 3) := by decide +kernel
theorem dX7_lightest_60 : decode cX7_lightest 60 = .ok (.iload_n 2, 1) := by decide +kernel
theorem dX7_lightest_61 : decode cX7_lightest 61 = .ok (.invokestatic 86, 3) := by decide +kernel
theorem dX7_lightest_64 : decode cX7_lightest 64 = .ok (.if_icmp .ge 14, 3) := by decide +kernel
theorem dX7_lightest_67 : decode cX7_lightest 67 = .ok (.aload_n 0, 1) := by decide +kernel
theorem dX7_lightest_68 : decode cX7_lightest 68 = .ok (.iload_n 1, 1) := by decide +kernel
theorem dX7_lightest_69 : decode cX7_lightest 69 = .ok (.iload_n 3, 1) := by decide +kernel
theorem dX7_lightest_70 : decode cX7_lightest 70 = .ok (.invokevirtual 111, 3) := by decide +kernel
theorem dX7_lightest_73 : decode cX7_lightest 73 = .ok (.ifCond .eq 5, 3) := by decide +kernel
theorem dX7_lightest_76 : decode cX7_lightest 76 = .ok (.iload_n 3, 1) := by decide +kernel
theorem dX7_lightest_77 : decode cX7_lightest 77 = .ok (.istore_n 2, 1) := by decide +kernel
theorem dX7_lightest_78 : decode cX7_lightest 78 = .ok (.iinc 3 1, 3) := by decide +kernel
theorem dX7_lightest_81 : decode cX7_lightest 81 = .ok (.goto (-62), 3) := by decide +kernel
theorem dX7_lightest_84 : decode cX7_lightest 84 = .ok (.iload_n 2, 1) := by decide +kernel
theorem dX7_lightest_85 : decode cX7_lightest 85 = .ok (.ireturn, 1) := by decide +kernel
theorem dX7_sets_0 : decode cX7_sets 0 = .ok (.iload_n 1, 1) := by decide +kernel
theorem dX7_sets_1 : decode cX7_sets 1 = .ok (.invokestatic 69, 3) := by decide +kernel
theorem dX7_sets_4 : decode cX7_sets 4 = .ok (.ifCond .ne 9, 3) := by decide +kernel
theorem dX7_sets_7 : decode cX7_sets 7 = .ok (.aload_n 0, 1) := by decide +kernel
theorem dX7_sets_8 : decode cX7_sets 8 = .ok (.iconst (-1), 1) := by decide +kernel
theorem dX7_sets_9 : decode cX7_sets 9 = .ok (.invokevirtual 38, 3) := by decide +kernel
theorem dX7_sets_12 : decode cX7_sets 12 = .ok (.ireturn, 1) := by decide +kernel
theorem dX7_sets_13 : decode cX7_sets 13 = .ok (.iload_n 2, 1) := by decide +kernel
theorem dX7_sets_14 : decode cX7_sets 14 = .ok (.iconst 3, 1) := by decide +kernel
theorem dX7_sets_15 : decode cX7_sets 15 = .ok (.invokestatic 34, 3) := by decide +kernel
theorem dX7_sets_18 : decode cX7_sets 18 = .ok (.ifCond .ne 10, 3) := by decide +kernel
theorem dX7_sets_21 : decode cX7_sets 21 = .ok (.aload_n 0, 1) := by decide +kernel
theorem dX7_sets_22 : decode cX7_sets 22 = .ok (.bipush (-2), 2) := by decide +kernel
theorem dX7_sets_24 : decode cX7_sets 24 = .ok (.invokevirtual 38, 3) := by decide +kernel
theorem dX7_sets_27 : decode cX7_sets 27 = .ok (.ireturn, 1) := by decide +kernel
theorem dX7_sets_28 : decode cX7_sets 28 = .ok (.aload_n 0, 1) := by decide +kernel
theorem dX7_sets_29 : decode cX7_sets 29 = .ok (.iload_n 1, 1) := by decide +kernel
theorem dX7_sets_30 : decode cX7_sets 30 = .ok (.invokevirtual 114, 3) := by decide +kernel
theorem dX7_sets_33 : decode cX7_sets 33 = .ok (.invokestatic 86, 3) := by decide +kernel
theorem dX7_sets_36 : decode cX7_sets 36 = .ok (.istore_n 3, 1) := by decide +kernel
theorem dX7_sets_37 : decode cX7_sets 37 = .ok (.iconst 0, 1) := by decide +kernel
theorem dX7_sets_38 : decode cX7_sets 38 = .ok (.istore 4, 2) := by decide +kernel
theorem dX7_sets_40 : decode cX7_sets 40 = .ok (.sipush 4095, 3) := by decide +kernel
theorem dX7_sets_43 : decode cX7_sets 43 = .ok (.istore 5, 2) := by decide +kernel
theorem dX7_sets_45 : decode cX7_sets 45 = .ok (.iconst 0, 1) := by decide +kernel
theorem dX7_sets_46 : decode cX7_sets 46 = .ok (.istore 6, 2) := by decide +kernel
theorem dX7_sets_48 : decode cX7_sets 48 = .ok (.iconst 0, 1) := by decide +kernel
theorem dX7_sets_49 : decode cX7_sets 49 = .ok (.istore 7, 2) := by decide +kernel
theorem dX7_sets_51 : decode cX7_sets 51 = .ok (.iload 7, 2) := by decide +kernel
theorem dX7_sets_53 : decode cX7_sets 53 = .ok (.sipush 4096, 3) := by decide +kernel
theorem dX7_sets_56 : decode cX7_sets 56 = .ok (.if_icmp .ge 48, 3) := by decide +kernel
theorem dX7_sets_59 : decode cX7_sets 59 = .ok (.iload 7, 2) := by decide +kernel
theorem dX7_sets_61 : decode cX7_sets 61 = .ok (.invokestatic 86, 3) := by decide +kernel
theorem dX7_sets_64 : decode cX7_sets 64 = .ok (.iload_n 3, 1) := by decide +kernel
theorem dX7_sets_65 : decode cX7_sets 65 = .ok (.if_icmp .ne 33, 3) := by decide +kernel
theorem dX7_sets_68 : decode cX7_sets 68 = .ok (.aload_n 0, 1) := by decide +kernel
theorem dX7_sets_69 : decode cX7_sets 69 = .ok (.iload_n 1, 1) := by decide +kernel
theorem dX7_sets_70 : decode cX7_sets 70 = .ok (.iload 7, 2) := by decide +kernel
theorem dX7_sets_72 : decode cX7_sets 72 = .ok (.invokevirtual 111, 3) := by decide +kernel
theorem dX7_sets_75 : decode cX7_sets 75 = .ok (.ifCond .ne 6, 3) := by decide +kernel
theorem dX7_sets_78 : decode cX7_sets 78 = .ok (.goto 20, 3) := by decide +kernel
theorem dX7_sets_81 : decode cX7_sets 81 = .ok (.iinc 4 1, 3) := by decide +kernel
theorem dX7_sets_84 : decode cX7_sets 84 = .ok (.iload 5, 2) := by decide +kernel
theorem dX7_sets_86 : decode cX7_sets 86 = .ok (.iload 7, 2) := by decide +kernel
theorem dX7_sets_88 : decode cX7_sets 88 = .ok (.iand, 1) := by decide +kernel
theorem dX7_sets_89 : decode cX7_sets 89 = .ok (.istore 5, 2) := by decide +kernel
theorem dX7_sets_91 : decode cX7_sets 91 = .ok (.iload 6, 2) := by decide +kernel
theorem dX7_sets_93 : decode cX7_sets 93 = .ok (.iload 7, 2) := by decide +kernel
theorem dX7_sets_95 : decode cX7_sets 95 = .ok (.ior, 1) := by decide +kernel
theorem dX7_sets_96 : decode cX7_sets 96 = .ok (.istore 6, 2) := by decide +kernel
theorem dX7_sets_98 : decode cX7_sets 98 = .ok (.iinc 7 1, 3) := by decide +kernel
theorem dX7_sets_101 : decode cX7_sets 101 = .ok (.goto (-50), 3) := by decide +kernel
theorem dX7_sets_104 : decode cX7_sets 104 = .ok (.iload_n 2, 1) := by decide +kernel
theorem dX7_sets_105 : decode cX7_sets 105 = .ok (.ifCond .ne 8, 3) := by decide +kernel
theorem dX7_sets_108 : decode cX7_sets 108 = .ok (.iload 4, 2) := by decide +kernel
theorem dX7_sets_110 : decode cX7_sets 110 = .ok (.goto 15, 3) := by decide +kernel
theorem dX7_sets_113 : decode cX7_sets 113 = .ok (.iload_n 2, 1) := by decide +kernel
theorem dX7_sets_114 : decode cX7_sets 114 = .ok (.iconst 1, 1) := by decide +kernel
theorem dX7_sets_115 : decode cX7_sets 115 = .ok (.if_icmp .ne 8, 3) := by decide +kernel
theorem dX7_sets_118 : decode cX7_sets 118 = .ok (.iload 5, 2) := by decide +kernel
theorem dX7_sets_120 : decode cX7_sets 120 = .ok (.goto 5, 3) := by decide +kernel
theorem dX7_sets_123 : decode cX7_sets 123 = .ok (.iload 6, 2) := by decide +kernel
theorem dX7_sets_125 : decode cX7_sets 125 = .ok (.ireturn, 1) := by decide +kernel
theorem dX7_findSoonest_0 : decode cX7_findSoonest 0 = .ok (.aload_n 0, 1) := by decide +kernel
theorem dX7_findSoonest_1 : decode cX7_findSoonest 1 = .ok (.iload_n 1, 1) := by decide +kernel
theorem dX7_findSoonest_2 : decode cX7_findSoonest 2 = .ok (.invokevirtual 114, 3) := by decide +kernel
theorem dX7_findSoonest_5 : decode cX7_findSoonest 5 = .ok (.istore_n 2, 1) := by decide +kernel
theorem dX7_findSoonest_6 : decode cX7_findSoonest 6 = .ok (.iconst 0, 1) := by decide +kernel
theorem dX7_findSoonest_7 : decode cX7_findSoonest 7 = .ok (.istore_n 3, 1) := by decide +kernel
theorem dX7_findSoonest_8 : decode cX7_findSoonest 8 = .ok (.iload_n 2, 1) := by decide +kernel
theorem dX7_findSoonest_9 : decode cX7_findSoonest 9 = .ok (.sipush 4095, 3) := by decide +kernel
theorem dX7_findSoonest_12 : decode cX7_findSoonest 12 = .ok (.if_icmp .eq 111, 3) := by decide +kernel
theorem dX7_findSoonest_15 : decode cX7_findSoonest 15 = .ok (.aload_n 0, 1) := by decide +kernel
theorem dX7_findSoonest_16 : decode cX7_findSoonest 16 = .ok (.iload_n 1, 1) := by decide +kernel
theorem dX7_findSoonest_17 : decode cX7_findSoonest 17 = .ok (.iload_n 2, 1) := by decide +kernel
theorem dX7_findSoonest_18 : decode cX7_findSoonest 18 = .ok (.invokevirtual 93, 3) := by decide +kernel
theorem dX7_findSoonest_21 : decode cX7_findSoonest 21 = .ok (.iload_n 2, 1) := by decide +kernel
theorem dX7_findSoonest_22 : decode cX7_findSoonest 22 = .ok (.iconst (-1), 1) := by decide +kernel
theorem dX7_findSoonest_23 : decode cX7_findSoonest 23 = .ok (.ixor, 1) := by decide +kernel
theorem dX7_findSoonest_24 : decode cX7_findSoonest 24 = .ok (.iand, 1) := by decide +kernel
theorem dX7_findSoonest_25 : decode cX7_findSoonest 25 = .ok (.istore 4, 2) := by decide +kernel
theorem dX7_findSoonest_27 : decode cX7_findSoonest 27 = .ok (.bipush (-9), 2) := by decide +kernel
theorem dX7_findSoonest_29 : decode cX7_findSoonest 29 = .ok (.istore 5, 2) := by decide +kernel
theorem dX7_findSoonest_31 : decode cX7_findSoonest 31 = .ok (.iconst 0, 1) := by decide +kernel
theorem dX7_findSoonest_32 : decode cX7_findSoonest 32 = .ok (.istore 6, 2) := by decide +kernel
theorem dX7_findSoonest_34 : decode cX7_findSoonest 34 = .ok (.iload 6, 2) := by decide +kernel
theorem dX7_findSoonest_36 : decode cX7_findSoonest 36 = .ok (.bipush 12, 2) := by decide +kernel
theorem dX7_findSoonest_38 : decode cX7_findSoonest 38 = .ok (.if_icmp .ge 64, 3) := by decide +kernel
theorem dX7_findSoonest_41 : decode cX7_findSoonest 41 = .ok (.iload 4, 2) := by decide +kernel
theorem dX7_findSoonest_43 : decode cX7_findSoonest 43 = .ok (.iload 6, 2) := by decide +kernel
theorem dX7_findSoonest_45 : decode cX7_findSoonest 45 = .ok (.ishr, 1) := by decide +kernel
theorem dX7_findSoonest_46 : decode cX7_findSoonest 46 = .ok (.iconst 1, 1) := by decide +kernel
theorem dX7_findSoonest_47 : decode cX7_findSoonest 47 = .ok (.iand, 1) := by decide +kernel
theorem dX7_findSoonest_48 : decode cX7_findSoonest 48 = .ok (.iconst 1, 1) := by decide +kernel
theorem dX7_findSoonest_49 : decode cX7_findSoonest 49 = .ok (.if_icmp .ne 47, 3) := by decide +kernel
theorem dX7_findSoonest_52 : decode cX7_findSoonest 52 = .ok (.iload 5, 2) := by decide +kernel
theorem dX7_findSoonest_54 : decode cX7_findSoonest 54 = .ok (.ifCond .lt 38, 3) := by decide +kernel
theorem dX7_findSoonest_57 : decode cX7_findSoonest 57 = .ok (.aload_n 0, 1) := by decide +kernel
theorem dX7_findSoonest_58 : decode cX7_findSoonest 58 = .ok (.getfield 13, 3) := by decide +kernel
theorem dX7_findSoonest_61 : decode cX7_findSoonest 61 = .ok (.sipush 186, 3) := by decide +kernel
theorem dX7_findSoonest_64 : decode cX7_findSoonest 64 = .ok (.bipush 12, 2) := by decide +kernel
theorem dX7_findSoonest_66 : decode cX7_findSoonest 66 = .ok (.iload_n 1, 1) := by decide +kernel
theorem dX7_findSoonest_67 : decode cX7_findSoonest 67 = .ok (.imul, 1) := by decide +kernel
theorem dX7_findSoonest_68 : decode cX7_findSoonest 68 = .ok (.iadd, 1) := by decide +kernel
theorem dX7_findSoonest_69 : decode cX7_findSoonest 69 = .ok (.iload 6, 2) := by decide +kernel
theorem dX7_findSoonest_71 : decode cX7_findSoonest 71 = .ok (.iadd, 1) := by decide +kernel
theorem dX7_findSoonest_72 : decode cX7_findSoonest 72 = .ok (.iaload, 1) := by decide +kernel
theorem dX7_findSoonest_73 : decode cX7_findSoonest 73 = .ok (.aload_n 0, 1) := by decide +kernel
theorem dX7_findSoonest_74 : decode cX7_findSoonest 74 = .ok (.getfield 13, 3) := by decide +kernel
theorem dX7_findSoonest_77 : decode cX7_findSoonest 77 = .ok (.sipush 186, 3) := by decide +kernel
theorem dX7_findSoonest_80 : decode cX7_findSoonest 80 = .ok (.bipush 12, 2) := by decide +kernel
theorem dX7_findSoonest_82 : decode cX7_findSoonest 82 = .ok (.iload_n 1, 1) := by decide +kernel
theorem dX7_findSoonest_83 : decode cX7_findSoonest 83 = .ok (.imul, 1) := by decide +kernel
theorem dX7_findSoonest_84 : decode cX7_findSoonest 84 = .ok (.iadd, 1) := by decide +kernel
theorem dX7_findSoonest_85 : decode cX7_findSoonest 85 = .ok (.iload 5, 2) := by decide +kernel
theorem dX7_findSoonest_87 : decode cX7_findSoonest 87 = .ok (.iadd, 1) := by decide +kernel
theorem dX7_findSoonest_88 : decode cX7_findSoonest 88 = .ok (.iaload, 1) := by decide +kernel
theorem dX7_findSoonest_89 : decode cX7_findSoonest 89 = .ok (.if_icmp .le 7, 3) := by decide +kernel
theorem dX7_findSoonest_92 : decode cX7_findSoonest 92 = .ok (.iload 6, 2) := by decide +kernel
theorem dX7_findSoonest_94 : decode cX7_findSoonest 94 = .ok (.istore 5, 2) := by decide +kernel
theorem dX7_findSoonest_96 : decode cX7_findSoonest 96 = .ok (.iinc 6 1, 3) := by decide +kernel
theorem dX7_findSoonest_99 : decode cX7_findSoonest 99 = .ok (.goto (-65), 3) := by decide +kernel
theorem dX7_findSoonest_102 : decode cX7_findSoonest 102 = .ok (.aload_n 0, 1) := by decide +kernel
theorem dX7_findSoonest_103 : decode cX7_findSoonest 103 = .ok (.getfield 31, 3) := by decide +kernel
theorem dX7_findSoonest_106 : decode cX7_findSoonest 106 = .ok (.iload_n 3, 1) := by decide +kernel
theorem dX7_findSoonest_107 : decode cX7_findSoonest 107 = .ok (.iload 5, 2) := by decide +kernel
theorem dX7_findSoonest_109 : decode cX7_findSoonest 109 = .ok (.iastore, 1) := by decide +kernel
theorem dX7_findSoonest_110 : decode cX7_findSoonest 110 = .ok (.iinc 3 1, 3) := by decide +kernel
theorem dX7_findSoonest_113 : decode cX7_findSoonest 113 = .ok (.iload_n 2, 1) := by decide +kernel
theorem dX7_findSoonest_114 : decode cX7_findSoonest 114 = .ok (.iconst 1, 1) := by decide +kernel
theorem dX7_findSoonest_115 : decode cX7_findSoonest 115 = .ok (.iload 5, 2) := by decide +kernel
theorem dX7_findSoonest_117 : decode cX7_findSoonest 117 = .ok (.ishl, 1) := by decide +kernel
theorem dX7_findSoonest_118 : decode cX7_findSoonest 118 = .ok (.ior, 1) := by decide +kernel
theorem dX7_findSoonest_119 : decode cX7_findSoonest 119 = .ok (.istore_n 2, 1) := by decide +kernel
theorem dX7_findSoonest_120 : decode cX7_findSoonest 120 = .ok (.goto (-112), 3) := by decide +kernel
theorem dX7_findSoonest_123 : decode cX7_findSoonest 123 = .ok (.iload_n 3, 1) := by decide +kernel
theorem dX7_findSoonest_124 : decode cX7_findSoonest 124 = .ok (.ireturn, 1) := by decide +kernel
theorem dX7_soonest_0 : decode cX7_soonest 0 = .ok (.iload_n 1, 1) := by decide +kernel
theorem dX7_soonest_1 : decode cX7_soonest 1 = .ok (.invokestatic 69, 3) := by decide +kernel
theorem dX7_soonest_4 : decode cX7_soonest 4 = .ok (.ifCond .ne 9, 3) := by decide +kernel
theorem dX7_soonest_7 : decode cX7_soonest 7 = .ok (.aload_n 0, 1) := by decide +kernel
theorem dX7_soonest_8 : decode cX7_soonest 8 = .ok (.iconst (-1), 1) := by decide +kernel
theorem dX7_soonest_9 : decode cX7_soonest 9 = .ok (.invokevirtual 38, 3) := by decide +kernel
theorem dX7_soonest_12 : decode cX7_soonest 12 = .ok (.ireturn, 1) := by decide +kernel
theorem dX7_soonest_13 : decode cX7_soonest 13 = .ok (.iload_n 2, 1) := by decide +kernel
theorem dX7_soonest_14 : decode cX7_soonest 14 = .ok (.aload_n 0, 1) := by decide +kernel
theorem dX7_soonest_15 : decode cX7_soonest 15 = .ok (.iload_n 1, 1) := by decide +kernel
theorem dX7_soonest_16 : decode cX7_soonest 16 = .ok (.invokevirtual 120, 3) := by decide +kernel
theorem dX7_soonest_19 : decode cX7_soonest 19 = .ok (.invokestatic 34, 3) := by decide +kernel
theorem dX7_soonest_22 : decode cX7_soonest 22 = .ok (.ifCond .eq 12, 3) := by decide +kernel
theorem dX7_soonest_25 : decode cX7_soonest 25 = .ok (.aload_n 0, 1) := by decide +kernel
theorem dX7_soonest_26 : decode cX7_soonest 26 = .ok (.getfield 31, 3) := by decide +kernel
theorem dX7_soonest_29 : decode cX7_soonest 29 = .ok (.iload_n 2, 1) := by decide +kernel
theorem dX7_soonest_30 : decode cX7_soonest 30 = .ok (.iaload, 1) := by decide +kernel
theorem dX7_soonest_31 : decode cX7_soonest 31 = .ok (.goto 5, 3) := by decide +kernel
theorem dX7_soonest_34 : decode cX7_soonest 34 = .ok (.bipush (-9), 2) := by decide +kernel
theorem dX7_soonest_36 : decode cX7_soonest 36 = .ok (.ireturn, 1) := by decide +kernel
theorem dX7_waits_0 : decode cX7_waits 0 = .ok (.iload_n 1, 1) := by decide +kernel
theorem dX7_waits_1 : decode cX7_waits 1 = .ok (.invokestatic 69, 3) := by decide +kernel
theorem dX7_waits_4 : decode cX7_waits 4 = .ok (.ifCond .ne 9, 3) := by decide +kernel
theorem dX7_waits_7 : decode cX7_waits 7 = .ok (.aload_n 0, 1) := by decide +kernel
theorem dX7_waits_8 : decode cX7_waits 8 = .ok (.iconst (-1), 1) := by decide +kernel
theorem dX7_waits_9 : decode cX7_waits 9 = .ok (.invokevirtual 38, 3) := by decide +kernel
theorem dX7_waits_12 : decode cX7_waits 12 = .ok (.ireturn, 1) := by decide +kernel
theorem dX7_waits_13 : decode cX7_waits 13 = .ok (.aload_n 0, 1) := by decide +kernel
theorem dX7_waits_14 : decode cX7_waits 14 = .ok (.iload_n 1, 1) := by decide +kernel
theorem dX7_waits_15 : decode cX7_waits 15 = .ok (.invokevirtual 120, 3) := by decide +kernel
theorem dX7_waits_18 : decode cX7_waits 18 = .ok (.istore_n 2, 1) := by decide +kernel
theorem dX7_waits_19 : decode cX7_waits 19 = .ok (.iconst 0, 1) := by decide +kernel
theorem dX7_waits_20 : decode cX7_waits 20 = .ok (.istore_n 3, 1) := by decide +kernel
theorem dX7_waits_21 : decode cX7_waits 21 = .ok (.iconst 0, 1) := by decide +kernel
theorem dX7_waits_22 : decode cX7_waits 22 = .ok (.istore 4, 2) := by decide +kernel
theorem dX7_waits_24 : decode cX7_waits 24 = .ok (.iload 4, 2) := by decide +kernel
theorem dX7_waits_26 : decode cX7_waits 26 = .ok (.iload_n 2, 1) := by decide +kernel
theorem dX7_waits_27 : decode cX7_waits 27 = .ok (.if_icmp .ge 38, 3) := by decide +kernel
theorem dX7_waits_30 : decode cX7_waits 30 = .ok (.iload_n 3, 1) := by decide +kernel
theorem dX7_waits_31 : decode cX7_waits 31 = .ok (.iload 4, 2) := by decide +kernel
theorem dX7_waits_33 : decode cX7_waits 33 = .ok (.iconst 1, 1) := by decide +kernel
theorem dX7_waits_34 : decode cX7_waits 34 = .ok (.iadd, 1) := by decide +kernel
theorem dX7_waits_35 : decode cX7_waits 35 = .ok (.aload_n 0, 1) := by decide +kernel
theorem dX7_waits_36 : decode cX7_waits 36 = .ok (.getfield 13, 3) := by decide +kernel
theorem dX7_waits_39 : decode cX7_waits 39 = .ok (.sipush 186, 3) := by decide +kernel
theorem dX7_waits_42 : decode cX7_waits 42 = .ok (.bipush 12, 2) := by decide +kernel
theorem dX7_waits_44 : decode cX7_waits 44 = .ok (.iload_n 1, 1) := by decide +kernel
theorem dX7_waits_45 : decode cX7_waits 45 = .ok (.imul, 1) := by decide +kernel
theorem dX7_waits_46 : decode cX7_waits 46 = .ok (.iadd, 1) := by decide +kernel
theorem dX7_waits_47 : decode cX7_waits 47 = .ok (.aload_n 0, 1) := by decide +kernel
theorem dX7_waits_48 : decode cX7_waits 48 = .ok (.getfield 31, 3) := by decide +kernel
theorem dX7_waits_51 : decode cX7_waits 51 = .ok (.iload 4, 2) := by decide +kernel
theorem dX7_waits_53 : decode cX7_waits 53 = .ok (.iaload, 1) := by decide +kernel
theorem dX7_waits_54 : decode cX7_waits 54 = .ok (.iadd, 1) := by decide +kernel
theorem dX7_waits_55 : decode cX7_waits 55 = .ok (.iaload, 1) := by decide +kernel
theorem dX7_waits_56 : decode cX7_waits 56 = .ok (.imul, 1) := by decide +kernel
theorem dX7_waits_57 : decode cX7_waits 57 = .ok (.iadd, 1) := by decide +kernel
theorem dX7_waits_58 : decode cX7_waits 58 = .ok (.istore_n 3, 1) := by decide +kernel
theorem dX7_waits_59 : decode cX7_waits 59 = .ok (.iinc 4 1, 3) := by decide +kernel
theorem dX7_waits_62 : decode cX7_waits 62 = .ok (.goto (-38), 3) := by decide +kernel
theorem dX7_waits_65 : decode cX7_waits 65 = .ok (.iload_n 3, 1) := by decide +kernel
theorem dX7_waits_66 : decode cX7_waits 66 = .ok (.ireturn, 1) := by decide +kernel
theorem dX7_change_0 : decode cX7_change 0 = .ok (.aload_n 0, 1) := by decide +kernel
theorem dX7_change_1 : decode cX7_change 1 = .ok (.iload_n 1, 1) := by decide +kernel
theorem dX7_change_2 : decode cX7_change 2 = .ok (.iload_n 2, 1) := by decide +kernel
theorem dX7_change_3 : decode cX7_change 3 = .ok (.invokevirtual 80, 3) := by decide +kernel
theorem dX7_change_6 : decode cX7_change 6 = .ok (.ifCond .ne 9, 3) := by decide +kernel
theorem dX7_change_9 : decode cX7_change 9 = .ok (.aload_n 0, 1) := by decide +kernel
theorem dX7_change_10 : decode cX7_change 10 = .ok (.iconst (-1), 1) := by decide +kernel
theorem dX7_change_11 : decode cX7_change 11 = .ok (.invokevirtual 38, 3) := by decide +kernel
theorem dX7_change_14 : decode cX7_change 14 = .ok (.ireturn, 1) := by decide +kernel
theorem dX7_change_15 : decode cX7_change 15 = .ok (.aload_n 0, 1) := by decide +kernel
theorem dX7_change_16 : decode cX7_change 16 = .ok (.getfield 13, 3) := by decide +kernel
theorem dX7_change_19 : decode cX7_change 19 = .ok (.sipush 258, 3) := by decide +kernel
theorem dX7_change_22 : decode cX7_change 22 = .ok (.iaload, 1) := by decide +kernel
theorem dX7_change_23 : decode cX7_change 23 = .ok (.iconst 4, 1) := by decide +kernel
theorem dX7_change_24 : decode cX7_change 24 = .ok (.if_icmp .ne 10, 3) := by decide +kernel
theorem dX7_change_27 : decode cX7_change 27 = .ok (.aload_n 0, 1) := by decide +kernel
theorem dX7_change_28 : decode cX7_change 28 = .ok (.bipush (-6), 2) := by decide +kernel
theorem dX7_change_30 : decode cX7_change 30 = .ok (.invokevirtual 38, 3) := by decide +kernel
theorem dX7_change_33 : decode cX7_change 33 = .ok (.ireturn, 1) := by decide +kernel
theorem dX7_change_34 : decode cX7_change 34 = .ok (.aload_n 0, 1) := by decide +kernel
theorem dX7_change_35 : decode cX7_change 35 = .ok (.invokevirtual 73, 3) := by decide +kernel
theorem dX7_change_38 : decode cX7_change 38 = .ok (.istore_n 3, 1) := by decide +kernel
theorem dX7_change_39 : decode cX7_change 39 = .ok (.iload_n 3, 1) := by decide +kernel
theorem dX7_change_40 : decode cX7_change 40 = .ok (.ifCond .lt 8, 3) := by decide +kernel
theorem dX7_change_43 : decode cX7_change 43 = .ok (.bipush (-20), 2) := by decide +kernel
theorem dX7_change_45 : decode cX7_change 45 = .ok (.iload_n 3, 1) := by decide +kernel
theorem dX7_change_46 : decode cX7_change 46 = .ok (.isub, 1) := by decide +kernel
theorem dX7_change_47 : decode cX7_change 47 = .ok (.ireturn, 1) := by decide +kernel
theorem dX7_change_48 : decode cX7_change 48 = .ok (.aload_n 0, 1) := by decide +kernel
theorem dX7_change_49 : decode cX7_change 49 = .ok (.getfield 25, 3) := by decide +kernel
theorem dX7_change_52 : decode cX7_change 52 = .ok (.iconst 0, 1) := by decide +kernel
theorem dX7_change_53 : decode cX7_change 53 = .ok (.iaload, 1) := by decide +kernel
theorem dX7_change_54 : decode cX7_change 54 = .ok (.aload_n 0, 1) := by decide +kernel
theorem dX7_change_55 : decode cX7_change 55 = .ok (.iload_n 1, 1) := by decide +kernel
theorem dX7_change_56 : decode cX7_change 56 = .ok (.iload_n 2, 1) := by decide +kernel
theorem dX7_change_57 : decode cX7_change 57 = .ok (.iconst 0, 1) := by decide +kernel
theorem dX7_change_58 : decode cX7_change 58 = .ok (.invokevirtual 65, 3) := by decide +kernel
theorem dX7_change_61 : decode cX7_change 61 = .ok (.if_icmp .eq 10, 3) := by decide +kernel
theorem dX7_change_64 : decode cX7_change 64 = .ok (.aload_n 0, 1) := by decide +kernel
theorem dX7_change_65 : decode cX7_change 65 = .ok (.bipush (-3), 2) := by decide +kernel
theorem dX7_change_67 : decode cX7_change 67 = .ok (.invokevirtual 38, 3) := by decide +kernel
theorem dX7_change_70 : decode cX7_change 70 = .ok (.ireturn, 1) := by decide +kernel
theorem dX7_change_71 : decode cX7_change 71 = .ok (.sipush 234, 3) := by decide +kernel
theorem dX7_change_74 : decode cX7_change 74 = .ok (.bipush 6, 2) := by decide +kernel
theorem dX7_change_76 : decode cX7_change 76 = .ok (.aload_n 0, 1) := by decide +kernel
theorem dX7_change_77 : decode cX7_change 77 = .ok (.getfield 13, 3) := by decide +kernel
theorem dX7_change_80 : decode cX7_change 80 = .ok (.sipush 258, 3) := by decide +kernel
theorem dX7_change_83 : decode cX7_change 83 = .ok (.iaload, 1) := by decide +kernel
theorem dX7_change_84 : decode cX7_change 84 = .ok (.imul, 1) := by decide +kernel
theorem dX7_change_85 : decode cX7_change 85 = .ok (.iadd, 1) := by decide +kernel
theorem dX7_change_86 : decode cX7_change 86 = .ok (.istore 4, 2) := by decide +kernel
theorem dX7_change_88 : decode cX7_change 88 = .ok (.aload_n 0, 1) := by decide +kernel
theorem dX7_change_89 : decode cX7_change 89 = .ok (.getfield 13, 3) := by decide +kernel
theorem dX7_change_92 : decode cX7_change 92 = .ok (.iload 4, 2) := by decide +kernel
theorem dX7_change_94 : decode cX7_change 94 = .ok (.iload_n 1, 1) := by decide +kernel
theorem dX7_change_95 : decode cX7_change 95 = .ok (.iastore, 1) := by decide +kernel
theorem dX7_change_96 : decode cX7_change 96 = .ok (.aload_n 0, 1) := by decide +kernel
theorem dX7_change_97 : decode cX7_change 97 = .ok (.getfield 13, 3) := by decide +kernel
theorem dX7_change_100 : decode cX7_change 100 = .ok (.iload 4, 2) := by decide +kernel
theorem dX7_change_102 : decode cX7_change 102 = .ok (.iconst 1, 1) := by decide +kernel
theorem dX7_change_103 : decode cX7_change 103 = .ok (.iadd, 1) := by decide +kernel
theorem dX7_change_104 : decode cX7_change 104 = .ok (.iload_n 2, 1) := by decide +kernel
theorem dX7_change_105 : decode cX7_change 105 = .ok (.iastore, 1) := by decide +kernel
theorem dX7_change_106 : decode cX7_change 106 = .ok (.iconst 0, 1) := by decide +kernel
theorem dX7_change_107 : decode cX7_change 107 = .ok (.istore 5, 2) := by decide +kernel
theorem dX7_change_109 : decode cX7_change 109 = .ok (.iload 5, 2) := by decide +kernel
theorem dX7_change_111 : decode cX7_change 111 = .ok (.iconst 4, 1) := by decide +kernel
theorem dX7_change_112 : decode cX7_change 112 = .ok (.if_icmp .ge 28, 3) := by decide +kernel
theorem dX7_change_115 : decode cX7_change 115 = .ok (.aload_n 0, 1) := by decide +kernel
theorem dX7_change_116 : decode cX7_change 116 = .ok (.getfield 13, 3) := by decide +kernel
theorem dX7_change_119 : decode cX7_change 119 = .ok (.iload 4, 2) := by decide +kernel
theorem dX7_change_121 : decode cX7_change 121 = .ok (.iconst 2, 1) := by decide +kernel
theorem dX7_change_122 : decode cX7_change 122 = .ok (.iadd, 1) := by decide +kernel
theorem dX7_change_123 : decode cX7_change 123 = .ok (.iload 5, 2) := by decide +kernel
theorem dX7_change_125 : decode cX7_change 125 = .ok (.iadd, 1) := by decide +kernel
theorem dX7_change_126 : decode cX7_change 126 = .ok (.aload_n 0, 1) := by decide +kernel
theorem dX7_change_127 : decode cX7_change 127 = .ok (.getfield 25, 3) := by decide +kernel
theorem dX7_change_130 : decode cX7_change 130 = .ok (.iload 5, 2) := by decide +kernel
theorem dX7_change_132 : decode cX7_change 132 = .ok (.iaload, 1) := by decide +kernel
theorem dX7_change_133 : decode cX7_change 133 = .ok (.iastore, 1) := by decide +kernel
theorem dX7_change_134 : decode cX7_change 134 = .ok (.iinc 5 1, 3) := by decide +kernel
theorem dX7_change_137 : decode cX7_change 137 = .ok (.goto (-28), 3) := by decide +kernel
theorem dX7_change_140 : decode cX7_change 140 = .ok (.aload_n 0, 1) := by decide +kernel
theorem dX7_change_141 : decode cX7_change 141 = .ok (.getfield 13, 3) := by decide +kernel
theorem dX7_change_144 : decode cX7_change 144 = .ok (.sipush 258, 3) := by decide +kernel
theorem dX7_change_147 : decode cX7_change 147 = .ok (.dup2, 1) := by decide +kernel
theorem dX7_change_148 : decode cX7_change 148 = .ok (.iaload, 1) := by decide +kernel
theorem dX7_change_149 : decode cX7_change 149 = .ok (.iconst 1, 1) := by decide +kernel
theorem dX7_change_150 : decode cX7_change 150 = .ok (.iadd, 1) := by decide +kernel
theorem dX7_change_151 : decode cX7_change 151 = .ok (.iastore, 1) := by decide +kernel
theorem dX7_change_152 : decode cX7_change 152 = .ok (.aload_n 0, 1) := by decide +kernel
theorem dX7_change_153 : decode cX7_change 153 = .ok (.getfield 13, 3) := by decide +kernel
theorem dX7_change_156 : decode cX7_change 156 = .ok (.sipush 258, 3) := by decide +kernel
theorem dX7_change_159 : decode cX7_change 159 = .ok (.iaload, 1) := by decide +kernel
theorem dX7_change_160 : decode cX7_change 160 = .ok (.iconst 1, 1) := by decide +kernel
theorem dX7_change_161 : decode cX7_change 161 = .ok (.isub, 1) := by decide +kernel
theorem dX7_change_162 : decode cX7_change 162 = .ok (.ireturn, 1) := by decide +kernel
theorem dX7_mend_0 : decode cX7_mend 0 = .ok (.iload_n 1, 1) := by decide +kernel
theorem dX7_mend_1 : decode cX7_mend 1 = .ok (.invokestatic 69, 3) := by decide +kernel
theorem dX7_mend_4 : decode cX7_mend 4 = .ok (.ifCond .ne 9, 3) := by decide +kernel
theorem dX7_mend_7 : decode cX7_mend 7 = .ok (.aload_n 0, 1) := by decide +kernel
theorem dX7_mend_8 : decode cX7_mend 8 = .ok (.iconst (-1), 1) := by decide +kernel
theorem dX7_mend_9 : decode cX7_mend 9 = .ok (.invokevirtual 38, 3) := by decide +kernel
theorem dX7_mend_12 : decode cX7_mend 12 = .ok (.ireturn, 1) := by decide +kernel
theorem dX7_mend_13 : decode cX7_mend 13 = .ok (.iconst 0, 1) := by decide +kernel
theorem dX7_mend_14 : decode cX7_mend 14 = .ok (.istore_n 2, 1) := by decide +kernel
theorem dX7_mend_15 : decode cX7_mend 15 = .ok (.iload_n 2, 1) := by decide +kernel
theorem dX7_mend_16 : decode cX7_mend 16 = .ok (.sipush 259, 3) := by decide +kernel
theorem dX7_mend_19 : decode cX7_mend 19 = .ok (.if_icmp .ge 21, 3) := by decide +kernel
theorem dX7_mend_22 : decode cX7_mend 22 = .ok (.aload_n 0, 1) := by decide +kernel
theorem dX7_mend_23 : decode cX7_mend 23 = .ok (.getfield 19, 3) := by decide +kernel
theorem dX7_mend_26 : decode cX7_mend 26 = .ok (.iload_n 2, 1) := by decide +kernel
theorem dX7_mend_27 : decode cX7_mend 27 = .ok (.aload_n 0, 1) := by decide +kernel
theorem dX7_mend_28 : decode cX7_mend 28 = .ok (.getfield 13, 3) := by decide +kernel
theorem dX7_mend_31 : decode cX7_mend 31 = .ok (.iload_n 2, 1) := by decide +kernel
theorem dX7_mend_32 : decode cX7_mend 32 = .ok (.iaload, 1) := by decide +kernel
theorem dX7_mend_33 : decode cX7_mend 33 = .ok (.iastore, 1) := by decide +kernel
theorem dX7_mend_34 : decode cX7_mend 34 = .ok (.iinc 2 1, 3) := by decide +kernel
theorem dX7_mend_37 : decode cX7_mend 37 = .ok (.goto (-22), 3) := by decide +kernel
theorem dX7_mend_40 : decode cX7_mend 40 = .ok (.bipush (-9), 2) := by decide +kernel
theorem dX7_mend_42 : decode cX7_mend 42 = .ok (.istore_n 2, 1) := by decide +kernel
theorem dX7_mend_43 : decode cX7_mend 43 = .ok (.iconst 0, 1) := by decide +kernel
theorem dX7_mend_44 : decode cX7_mend 44 = .ok (.istore_n 3, 1) := by decide +kernel
theorem dX7_mend_45 : decode cX7_mend 45 = .ok (.iconst 0, 1) := by decide +kernel
theorem dX7_mend_46 : decode cX7_mend 46 = .ok (.istore 4, 2) := by decide +kernel
theorem dX7_mend_48 : decode cX7_mend 48 = .ok (.iload 4, 2) := by decide +kernel
theorem dX7_mend_50 : decode cX7_mend 50 = .ok (.iconst 1, 1) := by decide +kernel
theorem dX7_mend_51 : decode cX7_mend 51 = .ok (.aload_n 0, 1) := by decide +kernel
theorem dX7_mend_52 : decode cX7_mend 52 = .ok (.getfield 19, 3) := by decide +kernel
theorem dX7_mend_55 : decode cX7_mend 55 = .ok (.sipush 258, 3) := by decide +kernel
theorem dX7_mend_58 : decode cX7_mend 58 = .ok (.iaload, 1) := by decide +kernel
theorem dX7_mend_59 : decode cX7_mend 59 = .ok (.ishl, 1) := by decide +kernel
theorem dX7_mend_60 : decode cX7_mend 60 = .ok (.if_icmp .ge 231, 3) := by decide +kernel
theorem dX7_mend_63 : decode cX7_mend 63 = .ok (.iconst 1, 1) := by decide +kernel
theorem dX7_mend_64 : decode cX7_mend 64 = .ok (.istore 5, 2) := by decide +kernel
theorem dX7_mend_66 : decode cX7_mend 66 = .ok (.iconst 0, 1) := by decide +kernel
theorem dX7_mend_67 : decode cX7_mend 67 = .ok (.istore 6, 2) := by decide +kernel
theorem dX7_mend_69 : decode cX7_mend 69 = .ok (.iload 6, 2) := by decide +kernel
theorem dX7_mend_71 : decode cX7_mend 71 = .ok (.aload_n 0, 1) := by decide +kernel
theorem dX7_mend_72 : decode cX7_mend 72 = .ok (.getfield 19, 3) := by decide +kernel
theorem dX7_mend_75 : decode cX7_mend 75 = .ok (.sipush 258, 3) := by decide +kernel
theorem dX7_mend_78 : decode cX7_mend 78 = .ok (.iaload, 1) := by decide +kernel
theorem dX7_mend_79 : decode cX7_mend 79 = .ok (.if_icmp .ge 113, 3) := by decide +kernel
theorem dX7_mend_82 : decode cX7_mend 82 = .ok (.iload 4, 2) := by decide +kernel
theorem dX7_mend_84 : decode cX7_mend 84 = .ok (.iload 6, 2) := by decide +kernel
theorem dX7_mend_86 : decode cX7_mend 86 = .ok (.ishr, 1) := by decide +kernel
theorem dX7_mend_87 : decode cX7_mend 87 = .ok (.iconst 1, 1) := by decide +kernel
theorem dX7_mend_88 : decode cX7_mend 88 = .ok (.iand, 1) := by decide +kernel
theorem dX7_mend_89 : decode cX7_mend 89 = .ok (.ifCond .ne 6, 3) := by decide +kernel
theorem dX7_mend_92 : decode cX7_mend 92 = .ok (.goto 94, 3) := by decide +kernel
theorem dX7_mend_95 : decode cX7_mend 95 = .ok (.sipush 234, 3) := by decide +kernel
theorem dX7_mend_98 : decode cX7_mend 98 = .ok (.bipush 6, 2) := by decide +kernel
theorem dX7_mend_100 : decode cX7_mend 100 = .ok (.iload 6, 2) := by decide +kernel
theorem dX7_mend_102 : decode cX7_mend 102 = .ok (.imul, 1) := by decide +kernel
theorem dX7_mend_103 : decode cX7_mend 103 = .ok (.iadd, 1) := by decide +kernel
theorem dX7_mend_104 : decode cX7_mend 104 = .ok (.istore 7, 2) := by decide +kernel
theorem dX7_mend_106 : decode cX7_mend 106 = .ok (.iload 5, 2) := by decide +kernel
theorem dX7_mend_108 : decode cX7_mend 108 = .ok (.ifCond .eq 18, 3) := by decide +kernel
theorem dX7_mend_111 : decode cX7_mend 111 = .ok (.aload_n 0, 1) := by decide +kernel
theorem dX7_mend_112 : decode cX7_mend 112 = .ok (.getfield 19, 3) := by decide +kernel
theorem dX7_mend_115 : decode cX7_mend 115 = .ok (.iload 7, 2) := by decide +kernel
theorem dX7_mend_117 : decode cX7_mend 117 = .ok (.iaload, 1) := by decide +kernel
theorem dX7_mend_118 : decode cX7_mend 118 = .ok (.iload_n 1, 1) := by decide +kernel
theorem dX7_mend_119 : decode cX7_mend 119 = .ok (.if_icmp .ne 7, 3) := by decide +kernel
theorem dX7_mend_122 : decode cX7_mend 122 = .ok (.iconst 1, 1) := by decide +kernel
theorem dX7_mend_123 : decode cX7_mend 123 = .ok (.goto 4, 3) := by decide +kernel
theorem dX7_mend_126 : decode cX7_mend 126 = .ok (.iconst 0, 1) := by decide +kernel
theorem dX7_mend_127 : decode cX7_mend 127 = .ok (.istore 5, 2) := by decide +kernel
theorem dX7_mend_129 : decode cX7_mend 129 = .ok (.iconst 0, 1) := by decide +kernel
theorem dX7_mend_130 : decode cX7_mend 130 = .ok (.istore 8, 2) := by decide +kernel
theorem dX7_mend_132 : decode cX7_mend 132 = .ok (.iload 8, 2) := by decide +kernel
theorem dX7_mend_134 : decode cX7_mend 134 = .ok (.iconst 4, 1) := by decide +kernel
theorem dX7_mend_135 : decode cX7_mend 135 = .ok (.if_icmp .ge 51, 3) := by decide +kernel
theorem dX7_mend_138 : decode cX7_mend 138 = .ok (.aload_n 0, 1) := by decide +kernel
theorem dX7_mend_139 : decode cX7_mend 139 = .ok (.getfield 13, 3) := by decide +kernel
theorem dX7_mend_142 : decode cX7_mend 142 = .ok (.bipush 80, 2) := by decide +kernel
theorem dX7_mend_144 : decode cX7_mend 144 = .ok (.aload_n 0, 1) := by decide +kernel
theorem dX7_mend_145 : decode cX7_mend 145 = .ok (.getfield 19, 3) := by decide +kernel
theorem dX7_mend_148 : decode cX7_mend 148 = .ok (.iload 7, 2) := by decide +kernel
theorem dX7_mend_150 : decode cX7_mend 150 = .ok (.iaload, 1) := by decide +kernel
theorem dX7_mend_151 : decode cX7_mend 151 = .ok (.imul, 1) := by decide +kernel
theorem dX7_mend_152 : decode cX7_mend 152 = .ok (.iconst 4, 1) := by decide +kernel
theorem dX7_mend_153 : decode cX7_mend 153 = .ok (.aload_n 0, 1) := by decide +kernel
theorem dX7_mend_154 : decode cX7_mend 154 = .ok (.getfield 19, 3) := by decide +kernel
theorem dX7_mend_157 : decode cX7_mend 157 = .ok (.iload 7, 2) := by decide +kernel
theorem dX7_mend_159 : decode cX7_mend 159 = .ok (.iconst 1, 1) := by decide +kernel
theorem dX7_mend_160 : decode cX7_mend 160 = .ok (.iadd, 1) := by decide +kernel
theorem dX7_mend_161 : decode cX7_mend 161 = .ok (.iaload, 1) := by decide +kernel
theorem dX7_mend_162 : decode cX7_mend 162 = .ok (.imul, 1) := by decide +kernel
theorem dX7_mend_163 : decode cX7_mend 163 = .ok (.iadd, 1) := by decide +kernel
theorem dX7_mend_164 : decode cX7_mend 164 = .ok (.iload 8, 2) := by decide +kernel
theorem dX7_mend_166 : decode cX7_mend 166 = .ok (.iadd, 1) := by decide +kernel
theorem dX7_mend_167 : decode cX7_mend 167 = .ok (.aload_n 0, 1) := by decide +kernel
theorem dX7_mend_168 : decode cX7_mend 168 = .ok (.getfield 19, 3) := by decide +kernel
theorem dX7_mend_171 : decode cX7_mend 171 = .ok (.iload 7, 2) := by decide +kernel
theorem dX7_mend_173 : decode cX7_mend 173 = .ok (.iconst 2, 1) := by decide +kernel
theorem dX7_mend_174 : decode cX7_mend 174 = .ok (.iadd, 1) := by decide +kernel
theorem dX7_mend_175 : decode cX7_mend 175 = .ok (.iload 8, 2) := by decide +kernel
theorem dX7_mend_177 : decode cX7_mend 177 = .ok (.iadd, 1) := by decide +kernel
theorem dX7_mend_178 : decode cX7_mend 178 = .ok (.iaload, 1) := by decide +kernel
theorem dX7_mend_179 : decode cX7_mend 179 = .ok (.iastore, 1) := by decide +kernel
theorem dX7_mend_180 : decode cX7_mend 180 = .ok (.iinc 8 1, 3) := by decide +kernel
theorem dX7_mend_183 : decode cX7_mend 183 = .ok (.goto (-51), 3) := by decide +kernel
theorem dX7_mend_186 : decode cX7_mend 186 = .ok (.iinc 6 1, 3) := by decide +kernel
theorem dX7_mend_189 : decode cX7_mend 189 = .ok (.goto (-120), 3) := by decide +kernel
theorem dX7_mend_192 : decode cX7_mend 192 = .ok (.iload 5, 2) := by decide +kernel
theorem dX7_mend_194 : decode cX7_mend 194 = .ok (.ifCond .eq 14, 3) := by decide +kernel
theorem dX7_mend_197 : decode cX7_mend 197 = .ok (.aload_n 0, 1) := by decide +kernel
theorem dX7_mend_198 : decode cX7_mend 198 = .ok (.iload_n 1, 1) := by decide +kernel
theorem dX7_mend_199 : decode cX7_mend 199 = .ok (.invokevirtual 114, 3) := by decide +kernel
theorem dX7_mend_202 : decode cX7_mend 202 = .ok (.invokestatic 86, 3) := by decide +kernel
theorem dX7_mend_205 : decode cX7_mend 205 = .ok (.goto 5, 3) := by decide +kernel
theorem dX7_mend_208 : decode cX7_mend 208 = .ok (.bipush 99, 2) := by decide +kernel
theorem dX7_mend_210 : decode cX7_mend 210 = .ok (.istore 6, 2) := by decide +kernel
theorem dX7_mend_212 : decode cX7_mend 212 = .ok (.iconst 0, 1) := by decide +kernel
theorem dX7_mend_213 : decode cX7_mend 213 = .ok (.istore 7, 2) := by decide +kernel
theorem dX7_mend_215 : decode cX7_mend 215 = .ok (.iload 7, 2) := by decide +kernel
theorem dX7_mend_217 : decode cX7_mend 217 = .ok (.sipush 259, 3) := by decide +kernel
theorem dX7_mend_220 : decode cX7_mend 220 = .ok (.if_icmp .ge 23, 3) := by decide +kernel
theorem dX7_mend_223 : decode cX7_mend 223 = .ok (.aload_n 0, 1) := by decide +kernel
theorem dX7_mend_224 : decode cX7_mend 224 = .ok (.getfield 13, 3) := by decide +kernel
theorem dX7_mend_227 : decode cX7_mend 227 = .ok (.iload 7, 2) := by decide +kernel
theorem dX7_mend_229 : decode cX7_mend 229 = .ok (.aload_n 0, 1) := by decide +kernel
theorem dX7_mend_230 : decode cX7_mend 230 = .ok (.getfield 19, 3) := by decide +kernel
theorem dX7_mend_233 : decode cX7_mend 233 = .ok (.iload 7, 2) := by decide +kernel
theorem dX7_mend_235 : decode cX7_mend 235 = .ok (.iaload, 1) := by decide +kernel
theorem dX7_mend_236 : decode cX7_mend 236 = .ok (.iastore, 1) := by decide +kernel
theorem dX7_mend_237 : decode cX7_mend 237 = .ok (.iinc 7 1, 3) := by decide +kernel
theorem dX7_mend_240 : decode cX7_mend 240 = .ok (.goto (-25), 3) := by decide +kernel
theorem dX7_mend_243 : decode cX7_mend 243 = .ok (.iload 5, 2) := by decide +kernel
theorem dX7_mend_245 : decode cX7_mend 245 = .ok (.ifCond .eq 40, 3) := by decide +kernel
theorem dX7_mend_248 : decode cX7_mend 248 = .ok (.iload_n 2, 1) := by decide +kernel
theorem dX7_mend_249 : decode cX7_mend 249 = .ok (.ifCond .lt 30, 3) := by decide +kernel
theorem dX7_mend_252 : decode cX7_mend 252 = .ok (.iload 6, 2) := by decide +kernel
theorem dX7_mend_254 : decode cX7_mend 254 = .ok (.iload_n 3, 1) := by decide +kernel
theorem dX7_mend_255 : decode cX7_mend 255 = .ok (.if_icmp .gt 30, 3) := by decide +kernel
theorem dX7_mend_258 : decode cX7_mend 258 = .ok (.iload 6, 2) := by decide +kernel
theorem dX7_mend_260 : decode cX7_mend 260 = .ok (.iload_n 3, 1) := by decide +kernel
theorem dX7_mend_261 : decode cX7_mend 261 = .ok (.if_icmp .ne 18, 3) := by decide +kernel
theorem dX7_mend_264 : decode cX7_mend 264 = .ok (.iload 4, 2) := by decide +kernel
theorem dX7_mend_266 : decode cX7_mend 266 = .ok (.invokestatic 86, 3) := by decide +kernel
theorem dX7_mend_269 : decode cX7_mend 269 = .ok (.iload_n 2, 1) := by decide +kernel
theorem dX7_mend_270 : decode cX7_mend 270 = .ok (.invokestatic 86, 3) := by decide +kernel
theorem dX7_mend_273 : decode cX7_mend 273 = .ok (.if_icmp .lt 6, 3) := by decide +kernel
theorem dX7_mend_276 : decode cX7_mend 276 = .ok (.goto 9, 3) := by decide +kernel
theorem dX7_mend_279 : decode cX7_mend 279 = .ok (.iload 4, 2) := by decide +kernel
theorem dX7_mend_281 : decode cX7_mend 281 = .ok (.istore_n 2, 1) := by decide +kernel
theorem dX7_mend_282 : decode cX7_mend 282 = .ok (.iload 6, 2) := by decide +kernel
theorem dX7_mend_284 : decode cX7_mend 284 = .ok (.istore_n 3, 1) := by decide +kernel
theorem dX7_mend_285 : decode cX7_mend 285 = .ok (.iinc 4 1, 3) := by decide +kernel
theorem dX7_mend_288 : decode cX7_mend 288 = .ok (.goto (-240), 3) := by decide +kernel
theorem dX7_mend_291 : decode cX7_mend 291 = .ok (.iload_n 2, 1) := by decide +kernel
theorem dX7_mend_292 : decode cX7_mend 292 = .ok (.ireturn, 1) := by decide +kernel
theorem dX7_spreads_0 : decode cX7_spreads 0 = .ok (.iload_n 2, 1) := by decide +kernel
theorem dX7_spreads_1 : decode cX7_spreads 1 = .ok (.istore 4, 2) := by decide +kernel
theorem dX7_spreads_3 : decode cX7_spreads 3 = .ok (.iconst 1, 1) := by decide +kernel
theorem dX7_spreads_4 : decode cX7_spreads 4 = .ok (.iload_n 3, 1) := by decide +kernel
theorem dX7_spreads_5 : decode cX7_spreads 5 = .ok (.ishl, 1) := by decide +kernel
theorem dX7_spreads_6 : decode cX7_spreads 6 = .ok (.istore 5, 2) := by decide +kernel
theorem dX7_spreads_8 : decode cX7_spreads 8 = .ok (.aload_n 0, 1) := by decide +kernel
theorem dX7_spreads_9 : decode cX7_spreads 9 = .ok (.iload_n 1, 1) := by decide +kernel
theorem dX7_spreads_10 : decode cX7_spreads 10 = .ok (.iload 4, 2) := by decide +kernel
theorem dX7_spreads_12 : decode cX7_spreads 12 = .ok (.invokevirtual 93, 3) := by decide +kernel
theorem dX7_spreads_15 : decode cX7_spreads 15 = .ok (.istore 6, 2) := by decide +kernel
theorem dX7_spreads_17 : decode cX7_spreads 17 = .ok (.iload 6, 2) := by decide +kernel
theorem dX7_spreads_19 : decode cX7_spreads 19 = .ok (.iload 4, 2) := by decide +kernel
theorem dX7_spreads_21 : decode cX7_spreads 21 = .ok (.if_icmp .eq 82, 3) := by decide +kernel
theorem dX7_spreads_24 : decode cX7_spreads 24 = .ok (.iload 5, 2) := by decide +kernel
theorem dX7_spreads_26 : decode cX7_spreads 26 = .ok (.istore 7, 2) := by decide +kernel
theorem dX7_spreads_28 : decode cX7_spreads 28 = .ok (.iconst 0, 1) := by decide +kernel
theorem dX7_spreads_29 : decode cX7_spreads 29 = .ok (.istore 8, 2) := by decide +kernel
theorem dX7_spreads_31 : decode cX7_spreads 31 = .ok (.iload 8, 2) := by decide +kernel
theorem dX7_spreads_33 : decode cX7_spreads 33 = .ok (.bipush 12, 2) := by decide +kernel
theorem dX7_spreads_35 : decode cX7_spreads 35 = .ok (.if_icmp .ge 48, 3) := by decide +kernel
theorem dX7_spreads_38 : decode cX7_spreads 38 = .ok (.iload 6, 2) := by decide +kernel
theorem dX7_spreads_40 : decode cX7_spreads 40 = .ok (.iload 4, 2) := by decide +kernel
theorem dX7_spreads_42 : decode cX7_spreads 42 = .ok (.iconst (-1), 1) := by decide +kernel
theorem dX7_spreads_43 : decode cX7_spreads 43 = .ok (.ixor, 1) := by decide +kernel
theorem dX7_spreads_44 : decode cX7_spreads 44 = .ok (.iand, 1) := by decide +kernel
theorem dX7_spreads_45 : decode cX7_spreads 45 = .ok (.iload 8, 2) := by decide +kernel
theorem dX7_spreads_47 : decode cX7_spreads 47 = .ok (.ishr, 1) := by decide +kernel
theorem dX7_spreads_48 : decode cX7_spreads 48 = .ok (.iconst 1, 1) := by decide +kernel
theorem dX7_spreads_49 : decode cX7_spreads 49 = .ok (.iand, 1) := by decide +kernel
theorem dX7_spreads_50 : decode cX7_spreads 50 = .ok (.iconst 1, 1) := by decide +kernel
theorem dX7_spreads_51 : decode cX7_spreads 51 = .ok (.if_icmp .ne 26, 3) := by decide +kernel
theorem dX7_spreads_54 : decode cX7_spreads 54 = .ok (.aload_n 0, 1) := by decide +kernel
theorem dX7_spreads_55 : decode cX7_spreads 55 = .ok (.iload_n 1, 1) := by decide +kernel
theorem dX7_spreads_56 : decode cX7_spreads 56 = .ok (.iload 8, 2) := by decide +kernel
theorem dX7_spreads_58 : decode cX7_spreads 58 = .ok (.iload 4, 2) := by decide +kernel
theorem dX7_spreads_60 : decode cX7_spreads 60 = .ok (.iload 5, 2) := by decide +kernel
theorem dX7_spreads_62 : decode cX7_spreads 62 = .ok (.invokevirtual 123, 3) := by decide +kernel
theorem dX7_spreads_65 : decode cX7_spreads 65 = .ok (.ifCond .eq 12, 3) := by decide +kernel
theorem dX7_spreads_68 : decode cX7_spreads 68 = .ok (.iload 7, 2) := by decide +kernel
theorem dX7_spreads_70 : decode cX7_spreads 70 = .ok (.iconst 1, 1) := by decide +kernel
theorem dX7_spreads_71 : decode cX7_spreads 71 = .ok (.iload 8, 2) := by decide +kernel
theorem dX7_spreads_73 : decode cX7_spreads 73 = .ok (.ishl, 1) := by decide +kernel
theorem dX7_spreads_74 : decode cX7_spreads 74 = .ok (.ior, 1) := by decide +kernel
theorem dX7_spreads_75 : decode cX7_spreads 75 = .ok (.istore 7, 2) := by decide +kernel
theorem dX7_spreads_77 : decode cX7_spreads 77 = .ok (.iinc 8 1, 3) := by decide +kernel
theorem dX7_spreads_80 : decode cX7_spreads 80 = .ok (.goto (-49), 3) := by decide +kernel
theorem dX7_spreads_83 : decode cX7_spreads 83 = .ok (.iload 7, 2) := by decide +kernel
theorem dX7_spreads_85 : decode cX7_spreads 85 = .ok (.istore 5, 2) := by decide +kernel
theorem dX7_spreads_87 : decode cX7_spreads 87 = .ok (.iload 6, 2) := by decide +kernel
theorem dX7_spreads_89 : decode cX7_spreads 89 = .ok (.istore 4, 2) := by decide +kernel
theorem dX7_spreads_91 : decode cX7_spreads 91 = .ok (.aload_n 0, 1) := by decide +kernel
theorem dX7_spreads_92 : decode cX7_spreads 92 = .ok (.iload_n 1, 1) := by decide +kernel
theorem dX7_spreads_93 : decode cX7_spreads 93 = .ok (.iload 4, 2) := by decide +kernel
theorem dX7_spreads_95 : decode cX7_spreads 95 = .ok (.invokevirtual 93, 3) := by decide +kernel
theorem dX7_spreads_98 : decode cX7_spreads 98 = .ok (.istore 6, 2) := by decide +kernel
theorem dX7_spreads_100 : decode cX7_spreads 100 = .ok (.goto (-83), 3) := by decide +kernel
theorem dX7_spreads_103 : decode cX7_spreads 103 = .ok (.iload 5, 2) := by decide +kernel
theorem dX7_spreads_105 : decode cX7_spreads 105 = .ok (.ireturn, 1) := by decide +kernel
theorem dX7_isWrong_0 : decode cX7_isWrong 0 = .ok (.iconst 0, 1) := by decide +kernel
theorem dX7_isWrong_1 : decode cX7_isWrong 1 = .ok (.istore 5, 2) := by decide +kernel
theorem dX7_isWrong_3 : decode cX7_isWrong 3 = .ok (.iconst 0, 1) := by decide +kernel
theorem dX7_isWrong_4 : decode cX7_isWrong 4 = .ok (.istore 6, 2) := by decide +kernel
theorem dX7_isWrong_6 : decode cX7_isWrong 6 = .ok (.iload 6, 2) := by decide +kernel
theorem dX7_isWrong_8 : decode cX7_isWrong 8 = .ok (.aload_n 0, 1) := by decide +kernel
theorem dX7_isWrong_9 : decode cX7_isWrong 9 = .ok (.getfield 13, 3) := by decide +kernel
theorem dX7_isWrong_12 : decode cX7_isWrong 12 = .ok (.sipush 160, 3) := by decide +kernel
theorem dX7_isWrong_15 : decode cX7_isWrong 15 = .ok (.iload_n 1, 1) := by decide +kernel
theorem dX7_isWrong_16 : decode cX7_isWrong 16 = .ok (.iadd, 1) := by decide +kernel
theorem dX7_isWrong_17 : decode cX7_isWrong 17 = .ok (.iaload, 1) := by decide +kernel
theorem dX7_isWrong_18 : decode cX7_isWrong 18 = .ok (.if_icmp .ge 84, 3) := by decide +kernel
theorem dX7_isWrong_21 : decode cX7_isWrong 21 = .ok (.aload_n 0, 1) := by decide +kernel
theorem dX7_isWrong_22 : decode cX7_isWrong 22 = .ok (.iload_n 1, 1) := by decide +kernel
theorem dX7_isWrong_23 : decode cX7_isWrong 23 = .ok (.iload 6, 2) := by decide +kernel
theorem dX7_isWrong_25 : decode cX7_isWrong 25 = .ok (.iconst 0, 1) := by decide +kernel
theorem dX7_isWrong_26 : decode cX7_isWrong 26 = .ok (.invokevirtual 65, 3) := by decide +kernel
theorem dX7_isWrong_29 : decode cX7_isWrong 29 = .ok (.iload_n 2, 1) := by decide +kernel
theorem dX7_isWrong_30 : decode cX7_isWrong 30 = .ok (.if_icmp .ne 66, 3) := by decide +kernel
theorem dX7_isWrong_33 : decode cX7_isWrong 33 = .ok (.aload_n 0, 1) := by decide +kernel
theorem dX7_isWrong_34 : decode cX7_isWrong 34 = .ok (.iload_n 1, 1) := by decide +kernel
theorem dX7_isWrong_35 : decode cX7_isWrong 35 = .ok (.iload 6, 2) := by decide +kernel
theorem dX7_isWrong_37 : decode cX7_isWrong 37 = .ok (.iload_n 3, 1) := by decide +kernel
theorem dX7_isWrong_38 : decode cX7_isWrong 38 = .ok (.invokevirtual 89, 3) := by decide +kernel
theorem dX7_isWrong_41 : decode cX7_isWrong 41 = .ok (.ifCond .ne 6, 3) := by decide +kernel
theorem dX7_isWrong_44 : decode cX7_isWrong 44 = .ok (.goto 52, 3) := by decide +kernel
theorem dX7_isWrong_47 : decode cX7_isWrong 47 = .ok (.iload 5, 2) := by decide +kernel
theorem dX7_isWrong_49 : decode cX7_isWrong 49 = .ok (.ifCond .ne 19, 3) := by decide +kernel
theorem dX7_isWrong_52 : decode cX7_isWrong 52 = .ok (.aload_n 0, 1) := by decide +kernel
theorem dX7_isWrong_53 : decode cX7_isWrong 53 = .ok (.iload_n 1, 1) := by decide +kernel
theorem dX7_isWrong_54 : decode cX7_isWrong 54 = .ok (.iload 6, 2) := by decide +kernel
theorem dX7_isWrong_56 : decode cX7_isWrong 56 = .ok (.iconst 2, 1) := by decide +kernel
theorem dX7_isWrong_57 : decode cX7_isWrong 57 = .ok (.invokevirtual 65, 3) := by decide +kernel
theorem dX7_isWrong_60 : decode cX7_isWrong 60 = .ok (.iload_n 3, 1) := by decide +kernel
theorem dX7_isWrong_61 : decode cX7_isWrong 61 = .ok (.iand, 1) := by decide +kernel
theorem dX7_isWrong_62 : decode cX7_isWrong 62 = .ok (.iload 4, 2) := by decide +kernel
theorem dX7_isWrong_64 : decode cX7_isWrong 64 = .ok (.iand, 1) := by decide +kernel
theorem dX7_isWrong_65 : decode cX7_isWrong 65 = .ok (.ifCond .eq 7, 3) := by decide +kernel
theorem dX7_isWrong_68 : decode cX7_isWrong 68 = .ok (.iconst 1, 1) := by decide +kernel
theorem dX7_isWrong_69 : decode cX7_isWrong 69 = .ok (.goto 4, 3) := by decide +kernel
theorem dX7_isWrong_72 : decode cX7_isWrong 72 = .ok (.iconst 0, 1) := by decide +kernel
theorem dX7_isWrong_73 : decode cX7_isWrong 73 = .ok (.istore 5, 2) := by decide +kernel
theorem dX7_isWrong_75 : decode cX7_isWrong 75 = .ok (.aload_n 0, 1) := by decide +kernel
theorem dX7_isWrong_76 : decode cX7_isWrong 76 = .ok (.getfield 13, 3) := by decide +kernel
theorem dX7_isWrong_79 : decode cX7_isWrong 79 = .ok (.sipush 210, 3) := by decide +kernel
theorem dX7_isWrong_82 : decode cX7_isWrong 82 = .ok (.bipush 12, 2) := by decide +kernel
theorem dX7_isWrong_84 : decode cX7_isWrong 84 = .ok (.iload_n 1, 1) := by decide +kernel
theorem dX7_isWrong_85 : decode cX7_isWrong 85 = .ok (.imul, 1) := by decide +kernel
theorem dX7_isWrong_86 : decode cX7_isWrong 86 = .ok (.iadd, 1) := by decide +kernel
theorem dX7_isWrong_87 : decode cX7_isWrong 87 = .ok (.iload_n 2, 1) := by decide +kernel
theorem dX7_isWrong_88 : decode cX7_isWrong 88 = .ok (.iadd, 1) := by decide +kernel
theorem dX7_isWrong_89 : decode cX7_isWrong 89 = .ok (.iaload, 1) := by decide +kernel
theorem dX7_isWrong_90 : decode cX7_isWrong 90 = .ok (.ifCond .ne 6, 3) := by decide +kernel
theorem dX7_isWrong_93 : decode cX7_isWrong 93 = .ok (.iload 5, 2) := by decide +kernel
theorem dX7_isWrong_95 : decode cX7_isWrong 95 = .ok (.ireturn, 1) := by decide +kernel
theorem dX7_isWrong_96 : decode cX7_isWrong 96 = .ok (.iinc 6 1, 3) := by decide +kernel
theorem dX7_isWrong_99 : decode cX7_isWrong 99 = .ok (.goto (-93), 3) := by decide +kernel
theorem dX7_isWrong_102 : decode cX7_isWrong 102 = .ok (.iload 5, 2) := by decide +kernel
theorem dX7_isWrong_104 : decode cX7_isWrong 104 = .ok (.ireturn, 1) := by decide +kernel
theorem dX7_wrongSpread_0 : decode cX7_wrongSpread 0 = .ok (.iload_n 1, 1) := by decide +kernel
theorem dX7_wrongSpread_1 : decode cX7_wrongSpread 1 = .ok (.invokestatic 69, 3) := by decide +kernel
theorem dX7_wrongSpread_4 : decode cX7_wrongSpread 4 = .ok (.ifCond .eq 22, 3) := by decide +kernel
theorem dX7_wrongSpread_7 : decode cX7_wrongSpread 7 = .ok (.iload_n 2, 1) := by decide +kernel
theorem dX7_wrongSpread_8 : decode cX7_wrongSpread 8 = .ok (.sipush 4096, 3) := by decide +kernel
theorem dX7_wrongSpread_11 : decode cX7_wrongSpread 11 = .ok (.invokestatic 34, 3) := by decide +kernel
theorem dX7_wrongSpread_14 : decode cX7_wrongSpread 14 = .ok (.ifCond .eq 12, 3) := by decide +kernel
theorem dX7_wrongSpread_17 : decode cX7_wrongSpread 17 = .ok (.iload_n 3, 1) := by decide +kernel
theorem dX7_wrongSpread_18 : decode cX7_wrongSpread 18 = .ok (.bipush 12, 2) := by decide +kernel
theorem dX7_wrongSpread_20 : decode cX7_wrongSpread 20 = .ok (.invokestatic 34, 3) := by decide +kernel
theorem dX7_wrongSpread_23 : decode cX7_wrongSpread 23 = .ok (.ifCond .ne 7, 3) := by decide +kernel
theorem dX7_wrongSpread_26 : decode cX7_wrongSpread 26 = .ok (.iconst (-1), 1) := by decide +kernel
theorem dX7_wrongSpread_27 : decode cX7_wrongSpread 27 = .ok (.goto 17, 3) := by decide +kernel
theorem dX7_wrongSpread_30 : decode cX7_wrongSpread 30 = .ok (.iload_n 2, 1) := by decide +kernel
theorem dX7_wrongSpread_31 : decode cX7_wrongSpread 31 = .ok (.iload_n 3, 1) := by decide +kernel
theorem dX7_wrongSpread_32 : decode cX7_wrongSpread 32 = .ok (.ishr, 1) := by decide +kernel
theorem dX7_wrongSpread_33 : decode cX7_wrongSpread 33 = .ok (.iconst 1, 1) := by decide +kernel
theorem dX7_wrongSpread_34 : decode cX7_wrongSpread 34 = .ok (.iand, 1) := by decide +kernel
theorem dX7_wrongSpread_35 : decode cX7_wrongSpread 35 = .ok (.ifCond .ne 8, 3) := by decide +kernel
theorem dX7_wrongSpread_38 : decode cX7_wrongSpread 38 = .ok (.bipush (-3), 2) := by decide +kernel
theorem dX7_wrongSpread_40 : decode cX7_wrongSpread 40 = .ok (.goto 4, 3) := by decide +kernel
theorem dX7_wrongSpread_43 : decode cX7_wrongSpread 43 = .ok (.iconst 0, 1) := by decide +kernel
theorem dX7_wrongSpread_44 : decode cX7_wrongSpread 44 = .ok (.ireturn, 1) := by decide +kernel
theorem dX7_spread_0 : decode cX7_spread 0 = .ok (.aload_n 0, 1) := by decide +kernel
theorem dX7_spread_1 : decode cX7_spread 1 = .ok (.iload_n 1, 1) := by decide +kernel
theorem dX7_spread_2 : decode cX7_spread 2 = .ok (.iload_n 2, 1) := by decide +kernel
theorem dX7_spread_3 : decode cX7_spread 3 = .ok (.iload_n 3, 1) := by decide +kernel
theorem dX7_spread_4 : decode cX7_spread 4 = .ok (.invokevirtual 127, 3) := by decide +kernel
theorem dX7_spread_7 : decode cX7_spread 7 = .ok (.istore 4, 2) := by decide +kernel
theorem dX7_spread_9 : decode cX7_spread 9 = .ok (.iload 4, 2) := by decide +kernel
theorem dX7_spread_11 : decode cX7_spread 11 = .ok (.ifCond .eq 12, 3) := by decide +kernel
theorem dX7_spread_14 : decode cX7_spread 14 = .ok (.aload_n 0, 1) := by decide +kernel
theorem dX7_spread_15 : decode cX7_spread 15 = .ok (.iload 4, 2) := by decide +kernel
theorem dX7_spread_17 : decode cX7_spread 17 = .ok (.invokevirtual 38, 3) := by decide +kernel
theorem dX7_spread_20 : decode cX7_spread 20 = .ok (.goto 10, 3) := by decide +kernel
theorem dX7_spread_23 : decode cX7_spread 23 = .ok (.aload_n 0, 1) := by decide +kernel
theorem dX7_spread_24 : decode cX7_spread 24 = .ok (.iload_n 1, 1) := by decide +kernel
theorem dX7_spread_25 : decode cX7_spread 25 = .ok (.iload_n 2, 1) := by decide +kernel
theorem dX7_spread_26 : decode cX7_spread 26 = .ok (.iload_n 3, 1) := by decide +kernel
theorem dX7_spread_27 : decode cX7_spread 27 = .ok (.invokevirtual 130, 3) := by decide +kernel
theorem dX7_spread_30 : decode cX7_spread 30 = .ok (.ireturn, 1) := by decide +kernel
theorem dX7_shows_0 : decode cX7_shows 0 = .ok (.aload_n 0, 1) := by decide +kernel
theorem dX7_shows_1 : decode cX7_shows 1 = .ok (.iload_n 1, 1) := by decide +kernel
theorem dX7_shows_2 : decode cX7_shows 2 = .ok (.iload_n 2, 1) := by decide +kernel
theorem dX7_shows_3 : decode cX7_shows 3 = .ok (.iload_n 3, 1) := by decide +kernel
theorem dX7_shows_4 : decode cX7_shows 4 = .ok (.invokevirtual 127, 3) := by decide +kernel
theorem dX7_shows_7 : decode cX7_shows 7 = .ok (.istore 4, 2) := by decide +kernel
theorem dX7_shows_9 : decode cX7_shows 9 = .ok (.iload 4, 2) := by decide +kernel
theorem dX7_shows_11 : decode cX7_shows 11 = .ok (.ifCond .eq 10, 3) := by decide +kernel
theorem dX7_shows_14 : decode cX7_shows 14 = .ok (.aload_n 0, 1) := by decide +kernel
theorem dX7_shows_15 : decode cX7_shows 15 = .ok (.iload 4, 2) := by decide +kernel
theorem dX7_shows_17 : decode cX7_shows 17 = .ok (.invokevirtual 38, 3) := by decide +kernel
theorem dX7_shows_20 : decode cX7_shows 20 = .ok (.ireturn, 1) := by decide +kernel
theorem dX7_shows_21 : decode cX7_shows 21 = .ok (.aload_n 0, 1) := by decide +kernel
theorem dX7_shows_22 : decode cX7_shows 22 = .ok (.iload_n 1, 1) := by decide +kernel
theorem dX7_shows_23 : decode cX7_shows 23 = .ok (.iload_n 2, 1) := by decide +kernel
theorem dX7_shows_24 : decode cX7_shows 24 = .ok (.iload_n 3, 1) := by decide +kernel
theorem dX7_shows_25 : decode cX7_shows 25 = .ok (.invokevirtual 130, 3) := by decide +kernel
theorem dX7_shows_28 : decode cX7_shows 28 = .ok (.istore 5, 2) := by decide +kernel
theorem dX7_shows_30 : decode cX7_shows 30 = .ok (.iconst 0, 1) := by decide +kernel
theorem dX7_shows_31 : decode cX7_shows 31 = .ok (.istore 6, 2) := by decide +kernel
theorem dX7_shows_33 : decode cX7_shows 33 = .ok (.iconst 0, 1) := by decide +kernel
theorem dX7_shows_34 : decode cX7_shows 34 = .ok (.istore 7, 2) := by decide +kernel
theorem dX7_shows_36 : decode cX7_shows 36 = .ok (.iload 7, 2) := by decide +kernel
theorem dX7_shows_38 : decode cX7_shows 38 = .ok (.aload_n 0, 1) := by decide +kernel
theorem dX7_shows_39 : decode cX7_shows 39 = .ok (.getfield 13, 3) := by decide +kernel
theorem dX7_shows_42 : decode cX7_shows 42 = .ok (.sipush 160, 3) := by decide +kernel
theorem dX7_shows_45 : decode cX7_shows 45 = .ok (.iload_n 1, 1) := by decide +kernel
theorem dX7_shows_46 : decode cX7_shows 46 = .ok (.iadd, 1) := by decide +kernel
theorem dX7_shows_47 : decode cX7_shows 47 = .ok (.iaload, 1) := by decide +kernel
theorem dX7_shows_48 : decode cX7_shows 48 = .ok (.if_icmp .ge 40, 3) := by decide +kernel
theorem dX7_shows_51 : decode cX7_shows 51 = .ok (.iload 6, 2) := by decide +kernel
theorem dX7_shows_53 : decode cX7_shows 53 = .ok (.aload_n 0, 1) := by decide +kernel
theorem dX7_shows_54 : decode cX7_shows 54 = .ok (.iload_n 1, 1) := by decide +kernel
theorem dX7_shows_55 : decode cX7_shows 55 = .ok (.iload 7, 2) := by decide +kernel
theorem dX7_shows_57 : decode cX7_shows 57 = .ok (.iconst 1, 1) := by decide +kernel
theorem dX7_shows_58 : decode cX7_shows 58 = .ok (.invokevirtual 65, 3) := by decide +kernel
theorem dX7_shows_61 : decode cX7_shows 61 = .ok (.iconst 4, 1) := by decide +kernel
theorem dX7_shows_62 : decode cX7_shows 62 = .ok (.if_icmp .ne 16, 3) := by decide +kernel
theorem dX7_shows_65 : decode cX7_shows 65 = .ok (.iconst 1, 1) := by decide +kernel
theorem dX7_shows_66 : decode cX7_shows 66 = .ok (.aload_n 0, 1) := by decide +kernel
theorem dX7_shows_67 : decode cX7_shows 67 = .ok (.iload_n 1, 1) := by decide +kernel
theorem dX7_shows_68 : decode cX7_shows 68 = .ok (.iload 7, 2) := by decide +kernel
theorem dX7_shows_70 : decode cX7_shows 70 = .ok (.iconst 0, 1) := by decide +kernel
theorem dX7_shows_71 : decode cX7_shows 71 = .ok (.invokevirtual 65, 3) := by decide +kernel
theorem dX7_shows_74 : decode cX7_shows 74 = .ok (.ishl, 1) := by decide +kernel
theorem dX7_shows_75 : decode cX7_shows 75 = .ok (.goto 4, 3) := by decide +kernel
theorem dX7_shows_78 : decode cX7_shows 78 = .ok (.iconst 0, 1) := by decide +kernel
theorem dX7_shows_79 : decode cX7_shows 79 = .ok (.ior, 1) := by decide +kernel
theorem dX7_shows_80 : decode cX7_shows 80 = .ok (.istore 6, 2) := by decide +kernel
theorem dX7_shows_82 : decode cX7_shows 82 = .ok (.iinc 7 1, 3) := by decide +kernel
theorem dX7_shows_85 : decode cX7_shows 85 = .ok (.goto (-49), 3) := by decide +kernel
theorem dX7_shows_88 : decode cX7_shows 88 = .ok (.iconst 0, 1) := by decide +kernel
theorem dX7_shows_89 : decode cX7_shows 89 = .ok (.istore 7, 2) := by decide +kernel
theorem dX7_shows_91 : decode cX7_shows 91 = .ok (.iload 7, 2) := by decide +kernel
theorem dX7_shows_93 : decode cX7_shows 93 = .ok (.bipush 12, 2) := by decide +kernel
theorem dX7_shows_95 : decode cX7_shows 95 = .ok (.if_icmp .ge 26, 3) := by decide +kernel
theorem dX7_shows_98 : decode cX7_shows 98 = .ok (.iload 5, 2) := by decide +kernel
theorem dX7_shows_100 : decode cX7_shows 100 = .ok (.iload 6, 2) := by decide +kernel
theorem dX7_shows_102 : decode cX7_shows 102 = .ok (.iand, 1) := by decide +kernel
theorem dX7_shows_103 : decode cX7_shows 103 = .ok (.iload 7, 2) := by decide +kernel
theorem dX7_shows_105 : decode cX7_shows 105 = .ok (.ishr, 1) := by decide +kernel
theorem dX7_shows_106 : decode cX7_shows 106 = .ok (.iconst 1, 1) := by decide +kernel
theorem dX7_shows_107 : decode cX7_shows 107 = .ok (.iand, 1) := by decide +kernel
theorem dX7_shows_108 : decode cX7_shows 108 = .ok (.iconst 1, 1) := by decide +kernel
theorem dX7_shows_109 : decode cX7_shows 109 = .ok (.if_icmp .ne 6, 3) := by decide +kernel
theorem dX7_shows_112 : decode cX7_shows 112 = .ok (.iload 7, 2) := by decide +kernel
theorem dX7_shows_114 : decode cX7_shows 114 = .ok (.ireturn, 1) := by decide +kernel
theorem dX7_shows_115 : decode cX7_shows 115 = .ok (.iinc 7 1, 3) := by decide +kernel
theorem dX7_shows_118 : decode cX7_shows 118 = .ok (.goto (-27), 3) := by decide +kernel
theorem dX7_shows_121 : decode cX7_shows 121 = .ok (.bipush (-9), 2) := by decide +kernel
theorem dX7_shows_123 : decode cX7_shows 123 = .ok (.ireturn, 1) := by decide +kernel
theorem dX7_carries_0 : decode cX7_carries 0 = .ok (.iload_n 1, 1) := by decide +kernel
theorem dX7_carries_1 : decode cX7_carries 1 = .ok (.invokestatic 69, 3) := by decide +kernel
theorem dX7_carries_4 : decode cX7_carries 4 = .ok (.ifCond .ne 11, 3) := by decide +kernel
theorem dX7_carries_7 : decode cX7_carries 7 = .ok (.aload_n 0, 1) := by decide +kernel
theorem dX7_carries_8 : decode cX7_carries 8 = .ok (.iconst (-1), 1) := by decide +kernel
theorem dX7_carries_9 : decode cX7_carries 9 = .ok (.invokevirtual 38, 3) := by decide +kernel
theorem dX7_carries_12 : decode cX7_carries 12 = .ok (.goto 23, 3) := by decide +kernel
theorem dX7_carries_15 : decode cX7_carries 15 = .ok (.aload_n 0, 1) := by decide +kernel
theorem dX7_carries_16 : decode cX7_carries 16 = .ok (.iconst 1, 1) := by decide +kernel
theorem dX7_carries_17 : decode cX7_carries 17 = .ok (.iload_n 1, 1) := by decide +kernel
theorem dX7_carries_18 : decode cX7_carries 18 = .ok (.isub, 1) := by decide +kernel
theorem dX7_carries_19 : decode cX7_carries 19 = .ok (.aload_n 0, 1) := by decide +kernel
theorem dX7_carries_20 : decode cX7_carries 20 = .ok (.iload_n 1, 1) := by decide +kernel
theorem dX7_carries_21 : decode cX7_carries 21 = .ok (.invokevirtual 114, 3) := by decide +kernel
theorem dX7_carries_24 : decode cX7_carries 24 = .ok (.invokevirtual 111, 3) := by decide +kernel
theorem dX7_carries_27 : decode cX7_carries 27 = .ok (.ifCond .eq 7, 3) := by decide +kernel
theorem dX7_carries_30 : decode cX7_carries 30 = .ok (.iconst 1, 1) := by decide +kernel
theorem dX7_carries_31 : decode cX7_carries 31 = .ok (.goto 4, 3) := by decide +kernel
theorem dX7_carries_34 : decode cX7_carries 34 = .ok (.iconst 0, 1) := by decide +kernel
theorem dX7_carries_35 : decode cX7_carries 35 = .ok (.ireturn, 1) := by decide +kernel
theorem dX7_lacks_0 : decode cX7_lacks 0 = .ok (.iload_n 1, 1) := by decide +kernel
theorem dX7_lacks_1 : decode cX7_lacks 1 = .ok (.invokestatic 69, 3) := by decide +kernel
theorem dX7_lacks_4 : decode cX7_lacks 4 = .ok (.ifCond .ne 9, 3) := by decide +kernel
theorem dX7_lacks_7 : decode cX7_lacks 7 = .ok (.aload_n 0, 1) := by decide +kernel
theorem dX7_lacks_8 : decode cX7_lacks 8 = .ok (.iconst (-1), 1) := by decide +kernel
theorem dX7_lacks_9 : decode cX7_lacks 9 = .ok (.invokevirtual 38, 3) := by decide +kernel
theorem dX7_lacks_12 : decode cX7_lacks 12 = .ok (.ireturn, 1) := by decide +kernel
theorem dX7_lacks_13 : decode cX7_lacks 13 = .ok (.aload_n 0, 1) := by decide +kernel
theorem dX7_lacks_14 : decode cX7_lacks 14 = .ok (.iload_n 1, 1) := by decide +kernel
theorem dX7_lacks_15 : decode cX7_lacks 15 = .ok (.invokevirtual 114, 3) := by decide +kernel
theorem dX7_lacks_18 : decode cX7_lacks 18 = .ok (.istore_n 2, 1) := by decide +kernel
theorem dX7_lacks_19 : decode cX7_lacks 19 = .ok (.iload_n 2, 1) := by decide +kernel
theorem dX7_lacks_20 : decode cX7_lacks 20 = .ok (.iconst (-1), 1) := by decide +kernel
theorem dX7_lacks_21 : decode cX7_lacks 21 = .ok (.ixor, 1) := by decide +kernel
theorem dX7_lacks_22 : decode cX7_lacks 22 = .ok (.sipush 4095, 3) := by decide +kernel
theorem dX7_lacks_25 : decode cX7_lacks 25 = .ok (.iand, 1) := by decide +kernel
theorem dX7_lacks_26 : decode cX7_lacks 26 = .ok (.istore_n 3, 1) := by decide +kernel
theorem dX7_lacks_27 : decode cX7_lacks 27 = .ok (.iconst 0, 1) := by decide +kernel
theorem dX7_lacks_28 : decode cX7_lacks 28 = .ok (.istore 4, 2) := by decide +kernel
theorem dX7_lacks_30 : decode cX7_lacks 30 = .ok (.iload 4, 2) := by decide +kernel
theorem dX7_lacks_32 : decode cX7_lacks 32 = .ok (.sipush 4096, 3) := by decide +kernel
theorem dX7_lacks_35 : decode cX7_lacks 35 = .ok (.if_icmp .ge 45, 3) := by decide +kernel
theorem dX7_lacks_38 : decode cX7_lacks 38 = .ok (.iload 4, 2) := by decide +kernel
theorem dX7_lacks_40 : decode cX7_lacks 40 = .ok (.iload_n 2, 1) := by decide +kernel
theorem dX7_lacks_41 : decode cX7_lacks 41 = .ok (.iand, 1) := by decide +kernel
theorem dX7_lacks_42 : decode cX7_lacks 42 = .ok (.ifCond .ne 32, 3) := by decide +kernel
theorem dX7_lacks_45 : decode cX7_lacks 45 = .ok (.iload 4, 2) := by decide +kernel
theorem dX7_lacks_47 : decode cX7_lacks 47 = .ok (.invokestatic 86, 3) := by decide +kernel
theorem dX7_lacks_50 : decode cX7_lacks 50 = .ok (.iload_n 3, 1) := by decide +kernel
theorem dX7_lacks_51 : decode cX7_lacks 51 = .ok (.invokestatic 86, 3) := by decide +kernel
theorem dX7_lacks_54 : decode cX7_lacks 54 = .ok (.if_icmp .ge 20, 3) := by decide +kernel
theorem dX7_lacks_57 : decode cX7_lacks 57 = .ok (.aload_n 0, 1) := by decide +kernel
theorem dX7_lacks_58 : decode cX7_lacks 58 = .ok (.iconst 1, 1) := by decide +kernel
theorem dX7_lacks_59 : decode cX7_lacks 59 = .ok (.iload_n 1, 1) := by decide +kernel
theorem dX7_lacks_60 : decode cX7_lacks 60 = .ok (.isub, 1) := by decide +kernel
theorem dX7_lacks_61 : decode cX7_lacks 61 = .ok (.iload 4, 2) := by decide +kernel
theorem dX7_lacks_63 : decode cX7_lacks 63 = .ok (.iload_n 2, 1) := by decide +kernel
theorem dX7_lacks_64 : decode cX7_lacks 64 = .ok (.ior, 1) := by decide +kernel
theorem dX7_lacks_65 : decode cX7_lacks 65 = .ok (.invokevirtual 111, 3) := by decide +kernel
theorem dX7_lacks_68 : decode cX7_lacks 68 = .ok (.ifCond .eq 6, 3) := by decide +kernel
theorem dX7_lacks_71 : decode cX7_lacks 71 = .ok (.iload 4, 2) := by decide +kernel
theorem dX7_lacks_73 : decode cX7_lacks 73 = .ok (.istore_n 3, 1) := by decide +kernel
theorem dX7_lacks_74 : decode cX7_lacks 74 = .ok (.iinc 4 1, 3) := by decide +kernel
theorem dX7_lacks_77 : decode cX7_lacks 77 = .ok (.goto (-47), 3) := by decide +kernel
theorem dX7_lacks_80 : decode cX7_lacks 80 = .ok (.iload_n 3, 1) := by decide +kernel
theorem dX7_lacks_81 : decode cX7_lacks 81 = .ok (.ireturn, 1) := by decide +kernel
theorem dX7_image_0 : decode cX7_image 0 = .ok (.iconst 0, 1) := by decide +kernel
theorem dX7_image_1 : decode cX7_image 1 = .ok (.istore_n 1, 1) := by decide +kernel
theorem dX7_image_2 : decode cX7_image 2 = .ok (.iload_n 1, 1) := by decide +kernel
theorem dX7_image_3 : decode cX7_image 3 = .ok (.sipush 259, 3) := by decide +kernel
theorem dX7_image_6 : decode cX7_image 6 = .ok (.if_icmp .ge 21, 3) := by decide +kernel
theorem dX7_image_9 : decode cX7_image 9 = .ok (.aload_n 0, 1) := by decide +kernel
theorem dX7_image_10 : decode cX7_image 10 = .ok (.getfield 16, 3) := by decide +kernel
theorem dX7_image_13 : decode cX7_image 13 = .ok (.iload_n 1, 1) := by decide +kernel
theorem dX7_image_14 : decode cX7_image 14 = .ok (.aload_n 0, 1) := by decide +kernel
theorem dX7_image_15 : decode cX7_image 15 = .ok (.getfield 13, 3) := by decide +kernel
theorem dX7_image_18 : decode cX7_image 18 = .ok (.iload_n 1, 1) := by decide +kernel
theorem dX7_image_19 : decode cX7_image 19 = .ok (.iaload, 1) := by decide +kernel
theorem dX7_image_20 : decode cX7_image 20 = .ok (.iastore, 1) := by decide +kernel
theorem dX7_image_21 : decode cX7_image 21 = .ok (.iinc 1 1, 3) := by decide +kernel
theorem dX7_image_24 : decode cX7_image 24 = .ok (.goto (-22), 3) := by decide +kernel
theorem dX7_image_27 : decode cX7_image 27 = .ok (.aload_n 0, 1) := by decide +kernel
theorem dX7_image_28 : decode cX7_image 28 = .ok (.iconst 1, 1) := by decide +kernel
theorem dX7_image_29 : decode cX7_image 29 = .ok (.putfield 133, 3) := by decide +kernel
theorem dX7_image_32 : decode cX7_image 32 = .ok (.aload_n 0, 1) := by decide +kernel
theorem dX7_image_33 : decode cX7_image 33 = .ok (.getfield 13, 3) := by decide +kernel
theorem dX7_image_36 : decode cX7_image 36 = .ok (.sipush 160, 3) := by decide +kernel
theorem dX7_image_39 : decode cX7_image 39 = .ok (.iaload, 1) := by decide +kernel
theorem dX7_image_40 : decode cX7_image 40 = .ok (.aload_n 0, 1) := by decide +kernel
theorem dX7_image_41 : decode cX7_image 41 = .ok (.getfield 13, 3) := by decide +kernel
theorem dX7_image_44 : decode cX7_image 44 = .ok (.sipush 161, 3) := by decide +kernel
theorem dX7_image_47 : decode cX7_image 47 = .ok (.iaload, 1) := by decide +kernel
theorem dX7_image_48 : decode cX7_image 48 = .ok (.iadd, 1) := by decide +kernel
theorem dX7_image_49 : decode cX7_image 49 = .ok (.ireturn, 1) := by decide +kernel
theorem dX7_on_0 : decode cX7_on 0 = .ok (.aload_n 0, 1) := by decide +kernel
theorem dX7_on_1 : decode cX7_on 1 = .ok (.getfield 133, 3) := by decide +kernel
theorem dX7_on_4 : decode cX7_on 4 = .ok (.ifCond .ne 10, 3) := by decide +kernel
theorem dX7_on_7 : decode cX7_on 7 = .ok (.aload_n 0, 1) := by decide +kernel
theorem dX7_on_8 : decode cX7_on 8 = .ok (.bipush (-3), 2) := by decide +kernel
theorem dX7_on_10 : decode cX7_on 10 = .ok (.invokevirtual 38, 3) := by decide +kernel
theorem dX7_on_13 : decode cX7_on 13 = .ok (.ireturn, 1) := by decide +kernel
theorem dX7_on_14 : decode cX7_on 14 = .ok (.iconst 0, 1) := by decide +kernel
theorem dX7_on_15 : decode cX7_on 15 = .ok (.istore_n 1, 1) := by decide +kernel
theorem dX7_on_16 : decode cX7_on 16 = .ok (.iload_n 1, 1) := by decide +kernel
theorem dX7_on_17 : decode cX7_on 17 = .ok (.sipush 259, 3) := by decide +kernel
theorem dX7_on_20 : decode cX7_on 20 = .ok (.if_icmp .ge 21, 3) := by decide +kernel
theorem dX7_on_23 : decode cX7_on 23 = .ok (.aload_n 0, 1) := by decide +kernel
theorem dX7_on_24 : decode cX7_on 24 = .ok (.getfield 13, 3) := by decide +kernel
theorem dX7_on_27 : decode cX7_on 27 = .ok (.iload_n 1, 1) := by decide +kernel
theorem dX7_on_28 : decode cX7_on 28 = .ok (.aload_n 0, 1) := by decide +kernel
theorem dX7_on_29 : decode cX7_on 29 = .ok (.getfield 16, 3) := by decide +kernel
theorem dX7_on_32 : decode cX7_on 32 = .ok (.iload_n 1, 1) := by decide +kernel
theorem dX7_on_33 : decode cX7_on 33 = .ok (.iaload, 1) := by decide +kernel
theorem dX7_on_34 : decode cX7_on 34 = .ok (.iastore, 1) := by decide +kernel
theorem dX7_on_35 : decode cX7_on 35 = .ok (.iinc 1 1, 3) := by decide +kernel
theorem dX7_on_38 : decode cX7_on 38 = .ok (.goto (-22), 3) := by decide +kernel
theorem dX7_on_41 : decode cX7_on 41 = .ok (.aload_n 0, 1) := by decide +kernel
theorem dX7_on_42 : decode cX7_on 42 = .ok (.getfield 13, 3) := by decide +kernel
theorem dX7_on_45 : decode cX7_on 45 = .ok (.sipush 160, 3) := by decide +kernel
theorem dX7_on_48 : decode cX7_on 48 = .ok (.iaload, 1) := by decide +kernel
theorem dX7_on_49 : decode cX7_on 49 = .ok (.aload_n 0, 1) := by decide +kernel
theorem dX7_on_50 : decode cX7_on 50 = .ok (.getfield 13, 3) := by decide +kernel
theorem dX7_on_53 : decode cX7_on 53 = .ok (.sipush 161, 3) := by decide +kernel
theorem dX7_on_56 : decode cX7_on 56 = .ok (.iaload, 1) := by decide +kernel
theorem dX7_on_57 : decode cX7_on 57 = .ok (.iadd, 1) := by decide +kernel
theorem dX7_on_58 : decode cX7_on 58 = .ok (.ireturn, 1) := by decide +kernel
theorem dX7_count_0 : decode cX7_count 0 = .ok (.iload_n 1, 1) := by decide +kernel
theorem dX7_count_1 : decode cX7_count 1 = .ok (.bipush 10, 2) := by decide +kernel
theorem dX7_count_3 : decode cX7_count 3 = .ok (.if_icmp .le 19, 3) := by decide +kernel
theorem dX7_count_6 : decode cX7_count 6 = .ok (.iload_n 1, 1) := by decide +kernel
theorem dX7_count_7 : decode cX7_count 7 = .ok (.bipush 17, 2) := by decide +kernel
theorem dX7_count_9 : decode cX7_count 9 = .ok (.if_icmp .ge 13, 3) := by decide +kernel
theorem dX7_count_12 : decode cX7_count 12 = .ok (.aload_n 0, 1) := by decide +kernel
theorem dX7_count_13 : decode cX7_count 13 = .ok (.getfield 7, 3) := by decide +kernel
theorem dX7_count_16 : decode cX7_count 16 = .ok (.iload_n 1, 1) := by decide +kernel
theorem dX7_count_17 : decode cX7_count 17 = .ok (.bipush 10, 2) := by decide +kernel
theorem dX7_count_19 : decode cX7_count 19 = .ok (.isub, 1) := by decide +kernel
theorem dX7_count_20 : decode cX7_count 20 = .ok (.iaload, 1) := by decide +kernel
theorem dX7_count_21 : decode cX7_count 21 = .ok (.ireturn, 1) := by decide +kernel
theorem dX7_count_22 : decode cX7_count 22 = .ok (.iload_n 1, 1) := by decide +kernel
theorem dX7_count_23 : decode cX7_count 23 = .ok (.tableswitch 63 0 4 #[33, 33, 44, 53, 58], 33) := by decide +kernel
theorem dX7_count_56 : decode cX7_count 56 = .ok (.aload_n 0, 1) := by decide +kernel
theorem dX7_count_57 : decode cX7_count 57 = .ok (.getfield 13, 3) := by decide +kernel
theorem dX7_count_60 : decode cX7_count 60 = .ok (.sipush 160, 3) := by decide +kernel
theorem dX7_count_63 : decode cX7_count 63 = .ok (.iload_n 1, 1) := by decide +kernel
theorem dX7_count_64 : decode cX7_count 64 = .ok (.iadd, 1) := by decide +kernel
theorem dX7_count_65 : decode cX7_count 65 = .ok (.iaload, 1) := by decide +kernel
theorem dX7_count_66 : decode cX7_count 66 = .ok (.ireturn, 1) := by decide +kernel
theorem dX7_count_67 : decode cX7_count 67 = .ok (.aload_n 0, 1) := by decide +kernel
theorem dX7_count_68 : decode cX7_count 68 = .ok (.getfield 13, 3) := by decide +kernel
theorem dX7_count_71 : decode cX7_count 71 = .ok (.sipush 258, 3) := by decide +kernel
theorem dX7_count_74 : decode cX7_count 74 = .ok (.iaload, 1) := by decide +kernel
theorem dX7_count_75 : decode cX7_count 75 = .ok (.ireturn, 1) := by decide +kernel
theorem dX7_count_76 : decode cX7_count 76 = .ok (.aload_n 0, 1) := by decide +kernel
theorem dX7_count_77 : decode cX7_count 77 = .ok (.getfield 42, 3) := by decide +kernel
theorem dX7_count_80 : decode cX7_count 80 = .ok (.ireturn, 1) := by decide +kernel
theorem dX7_count_81 : decode cX7_count 81 = .ok (.aload_n 0, 1) := by decide +kernel
theorem dX7_count_82 : decode cX7_count 82 = .ok (.getfield 99, 3) := by decide +kernel
theorem dX7_count_85 : decode cX7_count 85 = .ok (.ireturn, 1) := by decide +kernel
theorem dX7_count_86 : decode cX7_count 86 = .ok (.bipush (-9), 2) := by decide +kernel
theorem dX7_count_88 : decode cX7_count 88 = .ok (.ireturn, 1) := by decide +kernel
theorem dL_law_0 : decode code 0 = .ok (.new 7, 3) := by decide +kernel
theorem dL_law_3 : decode code 3 = .ok (.dup, 1) := by decide +kernel
theorem dL_law_4 : decode code 4 = .ok (.invokespecial 9, 3) := by decide +kernel
theorem dL_law_7 : decode code 7 = .ok (.astore_n 1, 1) := by decide +kernel
theorem dL_law_8 : decode code 8 = .ok (.new 10, 3) := by decide +kernel
theorem dL_law_11 : decode code 11 = .ok (.dup, 1) := by decide +kernel
theorem dL_law_12 : decode code 12 = .ok (.invokespecial 12, 3) := by decide +kernel
theorem dL_law_15 : decode code 15 = .ok (.astore_n 2, 1) := by decide +kernel
theorem dL_law_16 : decode code 16 = .ok (.iconst 0, 1) := by decide +kernel
theorem dL_law_17 : decode code 17 = .ok (.istore_n 3, 1) := by decide +kernel
theorem dL_law_18 : decode code 18 = .ok (.iload_n 3, 1) := by decide +kernel
theorem dL_law_19 : decode code 19 = .ok (.aload_n 0, 1) := by decide +kernel
theorem dL_law_20 : decode code 20 = .ok (.arraylength, 1) := by decide +kernel
theorem dL_law_21 : decode code 21 = .ok (.iconst 5, 1) := by decide +kernel
theorem dL_law_22 : decode code 22 = .ok (.isub, 1) := by decide +kernel
theorem dL_law_23 : decode code 23 = .ok (.if_icmp .gt 1033, 3) := by decide +kernel
theorem dL_law_26 : decode code 26 = .ok (.aload_n 0, 1) := by decide +kernel
theorem dL_law_27 : decode code 27 = .ok (.iload_n 3, 1) := by decide +kernel
theorem dL_law_28 : decode code 28 = .ok (.iaload, 1) := by decide +kernel
theorem dL_law_29 : decode code 29 = .ok (.bipush 31, 2) := by decide +kernel
theorem dL_law_31 : decode code 31 = .ok (.iand, 1) := by decide +kernel
theorem dL_law_32 : decode code 32 = .ok (.tableswitch 1018 0 27 #[128, 191, 214, 257, 310, 369, 412, 445, 468, 501, 534, 557, 590, 623, 646, 669, 692, 725, 758, 781, 814, 837, 880, 923, 946, 969, 982, 995], 128) := by decide +kernel
theorem dL_law_160 : decode code 160 = .ok (.aload_n 1, 1) := by decide +kernel
theorem dL_law_161 : decode code 161 = .ok (.aload_n 0, 1) := by decide +kernel
theorem dL_law_162 : decode code 162 = .ok (.iload_n 3, 1) := by decide +kernel
theorem dL_law_163 : decode code 163 = .ok (.iconst 1, 1) := by decide +kernel
theorem dL_law_164 : decode code 164 = .ok (.iadd, 1) := by decide +kernel
theorem dL_law_165 : decode code 165 = .ok (.iaload, 1) := by decide +kernel
theorem dL_law_166 : decode code 166 = .ok (.aload_n 0, 1) := by decide +kernel
theorem dL_law_167 : decode code 167 = .ok (.iload_n 3, 1) := by decide +kernel
theorem dL_law_168 : decode code 168 = .ok (.iconst 2, 1) := by decide +kernel
theorem dL_law_169 : decode code 169 = .ok (.iadd, 1) := by decide +kernel
theorem dL_law_170 : decode code 170 = .ok (.iaload, 1) := by decide +kernel
theorem dL_law_171 : decode code 171 = .ok (.i2l, 1) := by decide +kernel
theorem dL_law_172 : decode code 172 = .ok (.bipush 32, 2) := by decide +kernel
theorem dL_law_174 : decode code 174 = .ok (.lshl, 1) := by decide +kernel
theorem dL_law_175 : decode code 175 = .ok (.aload_n 0, 1) := by decide +kernel
theorem dL_law_176 : decode code 176 = .ok (.iload_n 3, 1) := by decide +kernel
theorem dL_law_177 : decode code 177 = .ok (.iconst 3, 1) := by decide +kernel
theorem dL_law_178 : decode code 178 = .ok (.iadd, 1) := by decide +kernel
theorem dL_law_179 : decode code 179 = .ok (.iaload, 1) := by decide +kernel
theorem dL_law_180 : decode code 180 = .ok (.i2l, 1) := by decide +kernel
theorem dL_law_181 : decode code 181 = .ok (.ldc2_w 13, 3) := by decide +kernel
theorem dL_law_184 : decode code 184 = .ok (.land, 1) := by decide +kernel
theorem dL_law_185 : decode code 185 = .ok (.lor, 1) := by decide +kernel
theorem dL_law_186 : decode code 186 = .ok (.invokevirtual 15, 3) := by decide +kernel
theorem dL_law_189 : decode code 189 = .ok (.aload_n 2, 1) := by decide +kernel
theorem dL_law_190 : decode code 190 = .ok (.aload_n 0, 1) := by decide +kernel
theorem dL_law_191 : decode code 191 = .ok (.iload_n 3, 1) := by decide +kernel
theorem dL_law_192 : decode code 192 = .ok (.iconst 1, 1) := by decide +kernel
theorem dL_law_193 : decode code 193 = .ok (.iadd, 1) := by decide +kernel
theorem dL_law_194 : decode code 194 = .ok (.iaload, 1) := by decide +kernel
theorem dL_law_195 : decode code 195 = .ok (.aload_n 0, 1) := by decide +kernel
theorem dL_law_196 : decode code 196 = .ok (.iload_n 3, 1) := by decide +kernel
theorem dL_law_197 : decode code 197 = .ok (.iconst 2, 1) := by decide +kernel
theorem dL_law_198 : decode code 198 = .ok (.iadd, 1) := by decide +kernel
theorem dL_law_199 : decode code 199 = .ok (.iaload, 1) := by decide +kernel
theorem dL_law_200 : decode code 200 = .ok (.i2l, 1) := by decide +kernel
theorem dL_law_201 : decode code 201 = .ok (.bipush 32, 2) := by decide +kernel
theorem dL_law_203 : decode code 203 = .ok (.lshl, 1) := by decide +kernel
theorem dL_law_204 : decode code 204 = .ok (.aload_n 0, 1) := by decide +kernel
theorem dL_law_205 : decode code 205 = .ok (.iload_n 3, 1) := by decide +kernel
theorem dL_law_206 : decode code 206 = .ok (.iconst 3, 1) := by decide +kernel
theorem dL_law_207 : decode code 207 = .ok (.iadd, 1) := by decide +kernel
theorem dL_law_208 : decode code 208 = .ok (.iaload, 1) := by decide +kernel
theorem dL_law_209 : decode code 209 = .ok (.i2l, 1) := by decide +kernel
theorem dL_law_210 : decode code 210 = .ok (.ldc2_w 13, 3) := by decide +kernel
theorem dL_law_213 : decode code 213 = .ok (.land, 1) := by decide +kernel
theorem dL_law_214 : decode code 214 = .ok (.lor, 1) := by decide +kernel
theorem dL_law_215 : decode code 215 = .ok (.invokevirtual 19, 3) := by decide +kernel
theorem dL_law_218 : decode code 218 = .ok (.if_icmp .eq 832, 3) := by decide +kernel
theorem dL_law_221 : decode code 221 = .ok (.iconst 0, 1) := by decide +kernel
theorem dL_law_222 : decode code 222 = .ok (.ireturn, 1) := by decide +kernel
theorem dL_law_223 : decode code 223 = .ok (.aload_n 1, 1) := by decide +kernel
theorem dL_law_224 : decode code 224 = .ok (.aload_n 0, 1) := by decide +kernel
theorem dL_law_225 : decode code 225 = .ok (.iload_n 3, 1) := by decide +kernel
theorem dL_law_226 : decode code 226 = .ok (.iconst 1, 1) := by decide +kernel
theorem dL_law_227 : decode code 227 = .ok (.iadd, 1) := by decide +kernel
theorem dL_law_228 : decode code 228 = .ok (.iaload, 1) := by decide +kernel
theorem dL_law_229 : decode code 229 = .ok (.invokevirtual 20, 3) := by decide +kernel
theorem dL_law_232 : decode code 232 = .ok (.aload_n 2, 1) := by decide +kernel
theorem dL_law_233 : decode code 233 = .ok (.aload_n 0, 1) := by decide +kernel
theorem dL_law_234 : decode code 234 = .ok (.iload_n 3, 1) := by decide +kernel
theorem dL_law_235 : decode code 235 = .ok (.iconst 1, 1) := by decide +kernel
theorem dL_law_236 : decode code 236 = .ok (.iadd, 1) := by decide +kernel
theorem dL_law_237 : decode code 237 = .ok (.iaload, 1) := by decide +kernel
theorem dL_law_238 : decode code 238 = .ok (.invokevirtual 24, 3) := by decide +kernel
theorem dL_law_241 : decode code 241 = .ok (.if_icmp .eq 809, 3) := by decide +kernel
theorem dL_law_244 : decode code 244 = .ok (.iconst 0, 1) := by decide +kernel
theorem dL_law_245 : decode code 245 = .ok (.ireturn, 1) := by decide +kernel
theorem dL_law_246 : decode code 246 = .ok (.aload_n 1, 1) := by decide +kernel
theorem dL_law_247 : decode code 247 = .ok (.aload_n 0, 1) := by decide +kernel
theorem dL_law_248 : decode code 248 = .ok (.iload_n 3, 1) := by decide +kernel
theorem dL_law_249 : decode code 249 = .ok (.iconst 1, 1) := by decide +kernel
theorem dL_law_250 : decode code 250 = .ok (.iadd, 1) := by decide +kernel
theorem dL_law_251 : decode code 251 = .ok (.iaload, 1) := by decide +kernel
theorem dL_law_252 : decode code 252 = .ok (.aload_n 0, 1) := by decide +kernel
theorem dL_law_253 : decode code 253 = .ok (.iload_n 3, 1) := by decide +kernel
theorem dL_law_254 : decode code 254 = .ok (.iconst 2, 1) := by decide +kernel
theorem dL_law_255 : decode code 255 = .ok (.iadd, 1) := by decide +kernel
theorem dL_law_256 : decode code 256 = .ok (.iaload, 1) := by decide +kernel
theorem dL_law_257 : decode code 257 = .ok (.aload_n 0, 1) := by decide +kernel
theorem dL_law_258 : decode code 258 = .ok (.iload_n 3, 1) := by decide +kernel
theorem dL_law_259 : decode code 259 = .ok (.iconst 3, 1) := by decide +kernel
theorem dL_law_260 : decode code 260 = .ok (.iadd, 1) := by decide +kernel
theorem dL_law_261 : decode code 261 = .ok (.iaload, 1) := by decide +kernel
theorem dL_law_262 : decode code 262 = .ok (.invokevirtual 25, 3) := by decide +kernel
theorem dL_law_265 : decode code 265 = .ok (.aload_n 2, 1) := by decide +kernel
theorem dL_law_266 : decode code 266 = .ok (.aload_n 0, 1) := by decide +kernel
theorem dL_law_267 : decode code 267 = .ok (.iload_n 3, 1) := by decide +kernel
theorem dL_law_268 : decode code 268 = .ok (.iconst 1, 1) := by decide +kernel
theorem dL_law_269 : decode code 269 = .ok (.iadd, 1) := by decide +kernel
theorem dL_law_270 : decode code 270 = .ok (.iaload, 1) := by decide +kernel
theorem dL_law_271 : decode code 271 = .ok (.aload_n 0, 1) := by decide +kernel
theorem dL_law_272 : decode code 272 = .ok (.iload_n 3, 1) := by decide +kernel
theorem dL_law_273 : decode code 273 = .ok (.iconst 2, 1) := by decide +kernel
theorem dL_law_274 : decode code 274 = .ok (.iadd, 1) := by decide +kernel
theorem dL_law_275 : decode code 275 = .ok (.iaload, 1) := by decide +kernel
theorem dL_law_276 : decode code 276 = .ok (.aload_n 0, 1) := by decide +kernel
theorem dL_law_277 : decode code 277 = .ok (.iload_n 3, 1) := by decide +kernel
theorem dL_law_278 : decode code 278 = .ok (.iconst 3, 1) := by decide +kernel
theorem dL_law_279 : decode code 279 = .ok (.iadd, 1) := by decide +kernel
theorem dL_law_280 : decode code 280 = .ok (.iaload, 1) := by decide +kernel
theorem dL_law_281 : decode code 281 = .ok (.invokevirtual 29, 3) := by decide +kernel
theorem dL_law_284 : decode code 284 = .ok (.if_icmp .eq 766, 3) := by decide +kernel
theorem dL_law_287 : decode code 287 = .ok (.iconst 0, 1) := by decide +kernel
theorem dL_law_288 : decode code 288 = .ok (.ireturn, 1) := by decide +kernel
theorem dL_law_289 : decode code 289 = .ok (.aload_n 1, 1) := by decide +kernel
theorem dL_law_290 : decode code 290 = .ok (.aload_n 0, 1) := by decide +kernel
theorem dL_law_291 : decode code 291 = .ok (.iload_n 3, 1) := by decide +kernel
theorem dL_law_292 : decode code 292 = .ok (.iconst 1, 1) := by decide +kernel
theorem dL_law_293 : decode code 293 = .ok (.iadd, 1) := by decide +kernel
theorem dL_law_294 : decode code 294 = .ok (.iaload, 1) := by decide +kernel
theorem dL_law_295 : decode code 295 = .ok (.aload_n 0, 1) := by decide +kernel
theorem dL_law_296 : decode code 296 = .ok (.iload_n 3, 1) := by decide +kernel
theorem dL_law_297 : decode code 297 = .ok (.iconst 2, 1) := by decide +kernel
theorem dL_law_298 : decode code 298 = .ok (.iadd, 1) := by decide +kernel
theorem dL_law_299 : decode code 299 = .ok (.iaload, 1) := by decide +kernel
theorem dL_law_300 : decode code 300 = .ok (.aload_n 0, 1) := by decide +kernel
theorem dL_law_301 : decode code 301 = .ok (.iload_n 3, 1) := by decide +kernel
theorem dL_law_302 : decode code 302 = .ok (.iconst 3, 1) := by decide +kernel
theorem dL_law_303 : decode code 303 = .ok (.iadd, 1) := by decide +kernel
theorem dL_law_304 : decode code 304 = .ok (.iaload, 1) := by decide +kernel
theorem dL_law_305 : decode code 305 = .ok (.aload_n 0, 1) := by decide +kernel
theorem dL_law_306 : decode code 306 = .ok (.iload_n 3, 1) := by decide +kernel
theorem dL_law_307 : decode code 307 = .ok (.iconst 4, 1) := by decide +kernel
theorem dL_law_308 : decode code 308 = .ok (.iadd, 1) := by decide +kernel
theorem dL_law_309 : decode code 309 = .ok (.iaload, 1) := by decide +kernel
theorem dL_law_310 : decode code 310 = .ok (.invokevirtual 30, 3) := by decide +kernel
theorem dL_law_313 : decode code 313 = .ok (.aload_n 2, 1) := by decide +kernel
theorem dL_law_314 : decode code 314 = .ok (.aload_n 0, 1) := by decide +kernel
theorem dL_law_315 : decode code 315 = .ok (.iload_n 3, 1) := by decide +kernel
theorem dL_law_316 : decode code 316 = .ok (.iconst 1, 1) := by decide +kernel
theorem dL_law_317 : decode code 317 = .ok (.iadd, 1) := by decide +kernel
theorem dL_law_318 : decode code 318 = .ok (.iaload, 1) := by decide +kernel
theorem dL_law_319 : decode code 319 = .ok (.aload_n 0, 1) := by decide +kernel
theorem dL_law_320 : decode code 320 = .ok (.iload_n 3, 1) := by decide +kernel
theorem dL_law_321 : decode code 321 = .ok (.iconst 2, 1) := by decide +kernel
theorem dL_law_322 : decode code 322 = .ok (.iadd, 1) := by decide +kernel
theorem dL_law_323 : decode code 323 = .ok (.iaload, 1) := by decide +kernel
theorem dL_law_324 : decode code 324 = .ok (.aload_n 0, 1) := by decide +kernel
theorem dL_law_325 : decode code 325 = .ok (.iload_n 3, 1) := by decide +kernel
theorem dL_law_326 : decode code 326 = .ok (.iconst 3, 1) := by decide +kernel
theorem dL_law_327 : decode code 327 = .ok (.iadd, 1) := by decide +kernel
theorem dL_law_328 : decode code 328 = .ok (.iaload, 1) := by decide +kernel
theorem dL_law_329 : decode code 329 = .ok (.aload_n 0, 1) := by decide +kernel
theorem dL_law_330 : decode code 330 = .ok (.iload_n 3, 1) := by decide +kernel
theorem dL_law_331 : decode code 331 = .ok (.iconst 4, 1) := by decide +kernel
theorem dL_law_332 : decode code 332 = .ok (.iadd, 1) := by decide +kernel
theorem dL_law_333 : decode code 333 = .ok (.iaload, 1) := by decide +kernel
theorem dL_law_334 : decode code 334 = .ok (.invokevirtual 34, 3) := by decide +kernel
theorem dL_law_337 : decode code 337 = .ok (.if_icmp .eq 713, 3) := by decide +kernel
theorem dL_law_340 : decode code 340 = .ok (.iconst 0, 1) := by decide +kernel
theorem dL_law_341 : decode code 341 = .ok (.ireturn, 1) := by decide +kernel
theorem dL_law_342 : decode code 342 = .ok (.aload_n 1, 1) := by decide +kernel
theorem dL_law_343 : decode code 343 = .ok (.aload_n 0, 1) := by decide +kernel
theorem dL_law_344 : decode code 344 = .ok (.iload_n 3, 1) := by decide +kernel
theorem dL_law_345 : decode code 345 = .ok (.iconst 1, 1) := by decide +kernel
theorem dL_law_346 : decode code 346 = .ok (.iadd, 1) := by decide +kernel
theorem dL_law_347 : decode code 347 = .ok (.iaload, 1) := by decide +kernel
theorem dL_law_348 : decode code 348 = .ok (.aload_n 0, 1) := by decide +kernel
theorem dL_law_349 : decode code 349 = .ok (.iload_n 3, 1) := by decide +kernel
theorem dL_law_350 : decode code 350 = .ok (.iconst 2, 1) := by decide +kernel
theorem dL_law_351 : decode code 351 = .ok (.iadd, 1) := by decide +kernel
theorem dL_law_352 : decode code 352 = .ok (.iaload, 1) := by decide +kernel
theorem dL_law_353 : decode code 353 = .ok (.aload_n 0, 1) := by decide +kernel
theorem dL_law_354 : decode code 354 = .ok (.iload_n 3, 1) := by decide +kernel
theorem dL_law_355 : decode code 355 = .ok (.iconst 3, 1) := by decide +kernel
theorem dL_law_356 : decode code 356 = .ok (.iadd, 1) := by decide +kernel
theorem dL_law_357 : decode code 357 = .ok (.iaload, 1) := by decide +kernel
theorem dL_law_358 : decode code 358 = .ok (.ifCond .eq 7, 3) := by decide +kernel
theorem dL_law_361 : decode code 361 = .ok (.iconst 1, 1) := by decide +kernel
theorem dL_law_362 : decode code 362 = .ok (.goto 4, 3) := by decide +kernel
theorem dL_law_365 : decode code 365 = .ok (.iconst 0, 1) := by decide +kernel
theorem dL_law_366 : decode code 366 = .ok (.invokevirtual 35, 3) := by decide +kernel
theorem dL_law_369 : decode code 369 = .ok (.aload_n 2, 1) := by decide +kernel
theorem dL_law_370 : decode code 370 = .ok (.aload_n 0, 1) := by decide +kernel
theorem dL_law_371 : decode code 371 = .ok (.iload_n 3, 1) := by decide +kernel
theorem dL_law_372 : decode code 372 = .ok (.iconst 1, 1) := by decide +kernel
theorem dL_law_373 : decode code 373 = .ok (.iadd, 1) := by decide +kernel
theorem dL_law_374 : decode code 374 = .ok (.iaload, 1) := by decide +kernel
theorem dL_law_375 : decode code 375 = .ok (.aload_n 0, 1) := by decide +kernel
theorem dL_law_376 : decode code 376 = .ok (.iload_n 3, 1) := by decide +kernel
theorem dL_law_377 : decode code 377 = .ok (.iconst 2, 1) := by decide +kernel
theorem dL_law_378 : decode code 378 = .ok (.iadd, 1) := by decide +kernel
theorem dL_law_379 : decode code 379 = .ok (.iaload, 1) := by decide +kernel
theorem dL_law_380 : decode code 380 = .ok (.aload_n 0, 1) := by decide +kernel
theorem dL_law_381 : decode code 381 = .ok (.iload_n 3, 1) := by decide +kernel
theorem dL_law_382 : decode code 382 = .ok (.iconst 3, 1) := by decide +kernel
theorem dL_law_383 : decode code 383 = .ok (.iadd, 1) := by decide +kernel
theorem dL_law_384 : decode code 384 = .ok (.iaload, 1) := by decide +kernel
theorem dL_law_385 : decode code 385 = .ok (.ifCond .eq 7, 3) := by decide +kernel
theorem dL_law_388 : decode code 388 = .ok (.iconst 1, 1) := by decide +kernel
theorem dL_law_389 : decode code 389 = .ok (.goto 4, 3) := by decide +kernel
theorem dL_law_392 : decode code 392 = .ok (.iconst 0, 1) := by decide +kernel
theorem dL_law_393 : decode code 393 = .ok (.invokevirtual 39, 3) := by decide +kernel
theorem dL_law_396 : decode code 396 = .ok (.if_icmp .eq 654, 3) := by decide +kernel
theorem dL_law_399 : decode code 399 = .ok (.iconst 0, 1) := by decide +kernel
theorem dL_law_400 : decode code 400 = .ok (.ireturn, 1) := by decide +kernel
theorem dL_law_401 : decode code 401 = .ok (.aload_n 1, 1) := by decide +kernel
theorem dL_law_402 : decode code 402 = .ok (.aload_n 0, 1) := by decide +kernel
theorem dL_law_403 : decode code 403 = .ok (.iload_n 3, 1) := by decide +kernel
theorem dL_law_404 : decode code 404 = .ok (.iconst 1, 1) := by decide +kernel
theorem dL_law_405 : decode code 405 = .ok (.iadd, 1) := by decide +kernel
theorem dL_law_406 : decode code 406 = .ok (.iaload, 1) := by decide +kernel
theorem dL_law_407 : decode code 407 = .ok (.aload_n 0, 1) := by decide +kernel
theorem dL_law_408 : decode code 408 = .ok (.iload_n 3, 1) := by decide +kernel
theorem dL_law_409 : decode code 409 = .ok (.iconst 2, 1) := by decide +kernel
theorem dL_law_410 : decode code 410 = .ok (.iadd, 1) := by decide +kernel
theorem dL_law_411 : decode code 411 = .ok (.iaload, 1) := by decide +kernel
theorem dL_law_412 : decode code 412 = .ok (.aload_n 0, 1) := by decide +kernel
theorem dL_law_413 : decode code 413 = .ok (.iload_n 3, 1) := by decide +kernel
theorem dL_law_414 : decode code 414 = .ok (.iconst 3, 1) := by decide +kernel
theorem dL_law_415 : decode code 415 = .ok (.iadd, 1) := by decide +kernel
theorem dL_law_416 : decode code 416 = .ok (.iaload, 1) := by decide +kernel
theorem dL_law_417 : decode code 417 = .ok (.invokevirtual 40, 3) := by decide +kernel
theorem dL_law_420 : decode code 420 = .ok (.aload_n 2, 1) := by decide +kernel
theorem dL_law_421 : decode code 421 = .ok (.aload_n 0, 1) := by decide +kernel
theorem dL_law_422 : decode code 422 = .ok (.iload_n 3, 1) := by decide +kernel
theorem dL_law_423 : decode code 423 = .ok (.iconst 1, 1) := by decide +kernel
theorem dL_law_424 : decode code 424 = .ok (.iadd, 1) := by decide +kernel
theorem dL_law_425 : decode code 425 = .ok (.iaload, 1) := by decide +kernel
theorem dL_law_426 : decode code 426 = .ok (.aload_n 0, 1) := by decide +kernel
theorem dL_law_427 : decode code 427 = .ok (.iload_n 3, 1) := by decide +kernel
theorem dL_law_428 : decode code 428 = .ok (.iconst 2, 1) := by decide +kernel
theorem dL_law_429 : decode code 429 = .ok (.iadd, 1) := by decide +kernel
theorem dL_law_430 : decode code 430 = .ok (.iaload, 1) := by decide +kernel
theorem dL_law_431 : decode code 431 = .ok (.aload_n 0, 1) := by decide +kernel
theorem dL_law_432 : decode code 432 = .ok (.iload_n 3, 1) := by decide +kernel
theorem dL_law_433 : decode code 433 = .ok (.iconst 3, 1) := by decide +kernel
theorem dL_law_434 : decode code 434 = .ok (.iadd, 1) := by decide +kernel
theorem dL_law_435 : decode code 435 = .ok (.iaload, 1) := by decide +kernel
theorem dL_law_436 : decode code 436 = .ok (.invokevirtual 43, 3) := by decide +kernel
theorem dL_law_439 : decode code 439 = .ok (.if_icmp .eq 611, 3) := by decide +kernel
theorem dL_law_442 : decode code 442 = .ok (.iconst 0, 1) := by decide +kernel
theorem dL_law_443 : decode code 443 = .ok (.ireturn, 1) := by decide +kernel
theorem dL_law_444 : decode code 444 = .ok (.aload_n 1, 1) := by decide +kernel
theorem dL_law_445 : decode code 445 = .ok (.aload_n 0, 1) := by decide +kernel
theorem dL_law_446 : decode code 446 = .ok (.iload_n 3, 1) := by decide +kernel
theorem dL_law_447 : decode code 447 = .ok (.iconst 1, 1) := by decide +kernel
theorem dL_law_448 : decode code 448 = .ok (.iadd, 1) := by decide +kernel
theorem dL_law_449 : decode code 449 = .ok (.iaload, 1) := by decide +kernel
theorem dL_law_450 : decode code 450 = .ok (.aload_n 0, 1) := by decide +kernel
theorem dL_law_451 : decode code 451 = .ok (.iload_n 3, 1) := by decide +kernel
theorem dL_law_452 : decode code 452 = .ok (.iconst 2, 1) := by decide +kernel
theorem dL_law_453 : decode code 453 = .ok (.iadd, 1) := by decide +kernel
theorem dL_law_454 : decode code 454 = .ok (.iaload, 1) := by decide +kernel
theorem dL_law_455 : decode code 455 = .ok (.invokevirtual 44, 3) := by decide +kernel
theorem dL_law_458 : decode code 458 = .ok (.aload_n 2, 1) := by decide +kernel
theorem dL_law_459 : decode code 459 = .ok (.aload_n 0, 1) := by decide +kernel
theorem dL_law_460 : decode code 460 = .ok (.iload_n 3, 1) := by decide +kernel
theorem dL_law_461 : decode code 461 = .ok (.iconst 1, 1) := by decide +kernel
theorem dL_law_462 : decode code 462 = .ok (.iadd, 1) := by decide +kernel
theorem dL_law_463 : decode code 463 = .ok (.iaload, 1) := by decide +kernel
theorem dL_law_464 : decode code 464 = .ok (.aload_n 0, 1) := by decide +kernel
theorem dL_law_465 : decode code 465 = .ok (.iload_n 3, 1) := by decide +kernel
theorem dL_law_466 : decode code 466 = .ok (.iconst 2, 1) := by decide +kernel
theorem dL_law_467 : decode code 467 = .ok (.iadd, 1) := by decide +kernel
theorem dL_law_468 : decode code 468 = .ok (.iaload, 1) := by decide +kernel
theorem dL_law_469 : decode code 469 = .ok (.invokevirtual 48, 3) := by decide +kernel
theorem dL_law_472 : decode code 472 = .ok (.if_icmp .eq 578, 3) := by decide +kernel
theorem dL_law_475 : decode code 475 = .ok (.iconst 0, 1) := by decide +kernel
theorem dL_law_476 : decode code 476 = .ok (.ireturn, 1) := by decide +kernel
theorem dL_law_477 : decode code 477 = .ok (.aload_n 1, 1) := by decide +kernel
theorem dL_law_478 : decode code 478 = .ok (.aload_n 0, 1) := by decide +kernel
theorem dL_law_479 : decode code 479 = .ok (.iload_n 3, 1) := by decide +kernel
theorem dL_law_480 : decode code 480 = .ok (.iconst 1, 1) := by decide +kernel
theorem dL_law_481 : decode code 481 = .ok (.iadd, 1) := by decide +kernel
theorem dL_law_482 : decode code 482 = .ok (.iaload, 1) := by decide +kernel
theorem dL_law_483 : decode code 483 = .ok (.invokevirtual 49, 3) := by decide +kernel
theorem dL_law_486 : decode code 486 = .ok (.aload_n 2, 1) := by decide +kernel
theorem dL_law_487 : decode code 487 = .ok (.aload_n 0, 1) := by decide +kernel
theorem dL_law_488 : decode code 488 = .ok (.iload_n 3, 1) := by decide +kernel
theorem dL_law_489 : decode code 489 = .ok (.iconst 1, 1) := by decide +kernel
theorem dL_law_490 : decode code 490 = .ok (.iadd, 1) := by decide +kernel
theorem dL_law_491 : decode code 491 = .ok (.iaload, 1) := by decide +kernel
theorem dL_law_492 : decode code 492 = .ok (.invokevirtual 52, 3) := by decide +kernel
theorem dL_law_495 : decode code 495 = .ok (.if_icmp .eq 555, 3) := by decide +kernel
theorem dL_law_498 : decode code 498 = .ok (.iconst 0, 1) := by decide +kernel
theorem dL_law_499 : decode code 499 = .ok (.ireturn, 1) := by decide +kernel
theorem dL_law_500 : decode code 500 = .ok (.aload_n 1, 1) := by decide +kernel
theorem dL_law_501 : decode code 501 = .ok (.aload_n 0, 1) := by decide +kernel
theorem dL_law_502 : decode code 502 = .ok (.iload_n 3, 1) := by decide +kernel
theorem dL_law_503 : decode code 503 = .ok (.iconst 1, 1) := by decide +kernel
theorem dL_law_504 : decode code 504 = .ok (.iadd, 1) := by decide +kernel
theorem dL_law_505 : decode code 505 = .ok (.iaload, 1) := by decide +kernel
theorem dL_law_506 : decode code 506 = .ok (.aload_n 0, 1) := by decide +kernel
theorem dL_law_507 : decode code 507 = .ok (.iload_n 3, 1) := by decide +kernel
theorem dL_law_508 : decode code 508 = .ok (.iconst 2, 1) := by decide +kernel
theorem dL_law_509 : decode code 509 = .ok (.iadd, 1) := by decide +kernel
theorem dL_law_510 : decode code 510 = .ok (.iaload, 1) := by decide +kernel
theorem dL_law_511 : decode code 511 = .ok (.invokevirtual 53, 3) := by decide +kernel
theorem dL_law_514 : decode code 514 = .ok (.aload_n 2, 1) := by decide +kernel
theorem dL_law_515 : decode code 515 = .ok (.aload_n 0, 1) := by decide +kernel
theorem dL_law_516 : decode code 516 = .ok (.iload_n 3, 1) := by decide +kernel
theorem dL_law_517 : decode code 517 = .ok (.iconst 1, 1) := by decide +kernel
theorem dL_law_518 : decode code 518 = .ok (.iadd, 1) := by decide +kernel
theorem dL_law_519 : decode code 519 = .ok (.iaload, 1) := by decide +kernel
theorem dL_law_520 : decode code 520 = .ok (.aload_n 0, 1) := by decide +kernel
theorem dL_law_521 : decode code 521 = .ok (.iload_n 3, 1) := by decide +kernel
theorem dL_law_522 : decode code 522 = .ok (.iconst 2, 1) := by decide +kernel
theorem dL_law_523 : decode code 523 = .ok (.iadd, 1) := by decide +kernel
theorem dL_law_524 : decode code 524 = .ok (.iaload, 1) := by decide +kernel
theorem dL_law_525 : decode code 525 = .ok (.invokevirtual 56, 3) := by decide +kernel
theorem dL_law_528 : decode code 528 = .ok (.if_icmp .eq 522, 3) := by decide +kernel
theorem dL_law_531 : decode code 531 = .ok (.iconst 0, 1) := by decide +kernel
theorem dL_law_532 : decode code 532 = .ok (.ireturn, 1) := by decide +kernel
theorem dL_law_533 : decode code 533 = .ok (.aload_n 1, 1) := by decide +kernel
theorem dL_law_534 : decode code 534 = .ok (.aload_n 0, 1) := by decide +kernel
theorem dL_law_535 : decode code 535 = .ok (.iload_n 3, 1) := by decide +kernel
theorem dL_law_536 : decode code 536 = .ok (.iconst 1, 1) := by decide +kernel
theorem dL_law_537 : decode code 537 = .ok (.iadd, 1) := by decide +kernel
theorem dL_law_538 : decode code 538 = .ok (.iaload, 1) := by decide +kernel
theorem dL_law_539 : decode code 539 = .ok (.aload_n 0, 1) := by decide +kernel
theorem dL_law_540 : decode code 540 = .ok (.iload_n 3, 1) := by decide +kernel
theorem dL_law_541 : decode code 541 = .ok (.iconst 2, 1) := by decide +kernel
theorem dL_law_542 : decode code 542 = .ok (.iadd, 1) := by decide +kernel
theorem dL_law_543 : decode code 543 = .ok (.iaload, 1) := by decide +kernel
theorem dL_law_544 : decode code 544 = .ok (.invokevirtual 57, 3) := by decide +kernel
theorem dL_law_547 : decode code 547 = .ok (.aload_n 2, 1) := by decide +kernel
theorem dL_law_548 : decode code 548 = .ok (.aload_n 0, 1) := by decide +kernel
theorem dL_law_549 : decode code 549 = .ok (.iload_n 3, 1) := by decide +kernel
theorem dL_law_550 : decode code 550 = .ok (.iconst 1, 1) := by decide +kernel
theorem dL_law_551 : decode code 551 = .ok (.iadd, 1) := by decide +kernel
theorem dL_law_552 : decode code 552 = .ok (.iaload, 1) := by decide +kernel
theorem dL_law_553 : decode code 553 = .ok (.aload_n 0, 1) := by decide +kernel
theorem dL_law_554 : decode code 554 = .ok (.iload_n 3, 1) := by decide +kernel
theorem dL_law_555 : decode code 555 = .ok (.iconst 2, 1) := by decide +kernel
theorem dL_law_556 : decode code 556 = .ok (.iadd, 1) := by decide +kernel
theorem dL_law_557 : decode code 557 = .ok (.iaload, 1) := by decide +kernel
theorem dL_law_558 : decode code 558 = .ok (.invokevirtual 60, 3) := by decide +kernel
theorem dL_law_561 : decode code 561 = .ok (.if_icmp .eq 489, 3) := by decide +kernel
theorem dL_law_564 : decode code 564 = .ok (.iconst 0, 1) := by decide +kernel
theorem dL_law_565 : decode code 565 = .ok (.ireturn, 1) := by decide +kernel
theorem dL_law_566 : decode code 566 = .ok (.aload_n 1, 1) := by decide +kernel
theorem dL_law_567 : decode code 567 = .ok (.aload_n 0, 1) := by decide +kernel
theorem dL_law_568 : decode code 568 = .ok (.iload_n 3, 1) := by decide +kernel
theorem dL_law_569 : decode code 569 = .ok (.iconst 1, 1) := by decide +kernel
theorem dL_law_570 : decode code 570 = .ok (.iadd, 1) := by decide +kernel
theorem dL_law_571 : decode code 571 = .ok (.iaload, 1) := by decide +kernel
theorem dL_law_572 : decode code 572 = .ok (.invokevirtual 61, 3) := by decide +kernel
theorem dL_law_575 : decode code 575 = .ok (.aload_n 2, 1) := by decide +kernel
theorem dL_law_576 : decode code 576 = .ok (.aload_n 0, 1) := by decide +kernel
theorem dL_law_577 : decode code 577 = .ok (.iload_n 3, 1) := by decide +kernel
theorem dL_law_578 : decode code 578 = .ok (.iconst 1, 1) := by decide +kernel
theorem dL_law_579 : decode code 579 = .ok (.iadd, 1) := by decide +kernel
theorem dL_law_580 : decode code 580 = .ok (.iaload, 1) := by decide +kernel
theorem dL_law_581 : decode code 581 = .ok (.invokevirtual 64, 3) := by decide +kernel
theorem dL_law_584 : decode code 584 = .ok (.if_icmp .eq 466, 3) := by decide +kernel
theorem dL_law_587 : decode code 587 = .ok (.iconst 0, 1) := by decide +kernel
theorem dL_law_588 : decode code 588 = .ok (.ireturn, 1) := by decide +kernel
theorem dL_law_589 : decode code 589 = .ok (.aload_n 1, 1) := by decide +kernel
theorem dL_law_590 : decode code 590 = .ok (.aload_n 0, 1) := by decide +kernel
theorem dL_law_591 : decode code 591 = .ok (.iload_n 3, 1) := by decide +kernel
theorem dL_law_592 : decode code 592 = .ok (.iconst 1, 1) := by decide +kernel
theorem dL_law_593 : decode code 593 = .ok (.iadd, 1) := by decide +kernel
theorem dL_law_594 : decode code 594 = .ok (.iaload, 1) := by decide +kernel
theorem dL_law_595 : decode code 595 = .ok (.aload_n 0, 1) := by decide +kernel
theorem dL_law_596 : decode code 596 = .ok (.iload_n 3, 1) := by decide +kernel
theorem dL_law_597 : decode code 597 = .ok (.iconst 2, 1) := by decide +kernel
theorem dL_law_598 : decode code 598 = .ok (.iadd, 1) := by decide +kernel
theorem dL_law_599 : decode code 599 = .ok (.iaload, 1) := by decide +kernel
theorem dL_law_600 : decode code 600 = .ok (.invokevirtual 65, 3) := by decide +kernel
theorem dL_law_603 : decode code 603 = .ok (.aload_n 2, 1) := by decide +kernel
theorem dL_law_604 : decode code 604 = .ok (.aload_n 0, 1) := by decide +kernel
theorem dL_law_605 : decode code 605 = .ok (.iload_n 3, 1) := by decide +kernel
theorem dL_law_606 : decode code 606 = .ok (.iconst 1, 1) := by decide +kernel
theorem dL_law_607 : decode code 607 = .ok (.iadd, 1) := by decide +kernel
theorem dL_law_608 : decode code 608 = .ok (.iaload, 1) := by decide +kernel
theorem dL_law_609 : decode code 609 = .ok (.aload_n 0, 1) := by decide +kernel
theorem dL_law_610 : decode code 610 = .ok (.iload_n 3, 1) := by decide +kernel
theorem dL_law_611 : decode code 611 = .ok (.iconst 2, 1) := by decide +kernel
theorem dL_law_612 : decode code 612 = .ok (.iadd, 1) := by decide +kernel
theorem dL_law_613 : decode code 613 = .ok (.iaload, 1) := by decide +kernel
theorem dL_law_614 : decode code 614 = .ok (.invokevirtual 68, 3) := by decide +kernel
theorem dL_law_617 : decode code 617 = .ok (.if_icmp .eq 433, 3) := by decide +kernel
theorem dL_law_620 : decode code 620 = .ok (.iconst 0, 1) := by decide +kernel
theorem dL_law_621 : decode code 621 = .ok (.ireturn, 1) := by decide +kernel
theorem dL_law_622 : decode code 622 = .ok (.aload_n 1, 1) := by decide +kernel
theorem dL_law_623 : decode code 623 = .ok (.aload_n 0, 1) := by decide +kernel
theorem dL_law_624 : decode code 624 = .ok (.iload_n 3, 1) := by decide +kernel
theorem dL_law_625 : decode code 625 = .ok (.iconst 1, 1) := by decide +kernel
theorem dL_law_626 : decode code 626 = .ok (.iadd, 1) := by decide +kernel
theorem dL_law_627 : decode code 627 = .ok (.iaload, 1) := by decide +kernel
theorem dL_law_628 : decode code 628 = .ok (.aload_n 0, 1) := by decide +kernel
theorem dL_law_629 : decode code 629 = .ok (.iload_n 3, 1) := by decide +kernel
theorem dL_law_630 : decode code 630 = .ok (.iconst 2, 1) := by decide +kernel
theorem dL_law_631 : decode code 631 = .ok (.iadd, 1) := by decide +kernel
theorem dL_law_632 : decode code 632 = .ok (.iaload, 1) := by decide +kernel
theorem dL_law_633 : decode code 633 = .ok (.invokevirtual 69, 3) := by decide +kernel
theorem dL_law_636 : decode code 636 = .ok (.aload_n 2, 1) := by decide +kernel
theorem dL_law_637 : decode code 637 = .ok (.aload_n 0, 1) := by decide +kernel
theorem dL_law_638 : decode code 638 = .ok (.iload_n 3, 1) := by decide +kernel
theorem dL_law_639 : decode code 639 = .ok (.iconst 1, 1) := by decide +kernel
theorem dL_law_640 : decode code 640 = .ok (.iadd, 1) := by decide +kernel
theorem dL_law_641 : decode code 641 = .ok (.iaload, 1) := by decide +kernel
theorem dL_law_642 : decode code 642 = .ok (.aload_n 0, 1) := by decide +kernel
theorem dL_law_643 : decode code 643 = .ok (.iload_n 3, 1) := by decide +kernel
theorem dL_law_644 : decode code 644 = .ok (.iconst 2, 1) := by decide +kernel
theorem dL_law_645 : decode code 645 = .ok (.iadd, 1) := by decide +kernel
theorem dL_law_646 : decode code 646 = .ok (.iaload, 1) := by decide +kernel
theorem dL_law_647 : decode code 647 = .ok (.invokevirtual 72, 3) := by decide +kernel
theorem dL_law_650 : decode code 650 = .ok (.if_icmp .eq 400, 3) := by decide +kernel
theorem dL_law_653 : decode code 653 = .ok (.iconst 0, 1) := by decide +kernel
theorem dL_law_654 : decode code 654 = .ok (.ireturn, 1) := by decide +kernel
theorem dL_law_655 : decode code 655 = .ok (.aload_n 1, 1) := by decide +kernel
theorem dL_law_656 : decode code 656 = .ok (.aload_n 0, 1) := by decide +kernel
theorem dL_law_657 : decode code 657 = .ok (.iload_n 3, 1) := by decide +kernel
theorem dL_law_658 : decode code 658 = .ok (.iconst 1, 1) := by decide +kernel
theorem dL_law_659 : decode code 659 = .ok (.iadd, 1) := by decide +kernel
theorem dL_law_660 : decode code 660 = .ok (.iaload, 1) := by decide +kernel
theorem dL_law_661 : decode code 661 = .ok (.invokevirtual 73, 3) := by decide +kernel
theorem dL_law_664 : decode code 664 = .ok (.aload_n 2, 1) := by decide +kernel
theorem dL_law_665 : decode code 665 = .ok (.aload_n 0, 1) := by decide +kernel
theorem dL_law_666 : decode code 666 = .ok (.iload_n 3, 1) := by decide +kernel
theorem dL_law_667 : decode code 667 = .ok (.iconst 1, 1) := by decide +kernel
theorem dL_law_668 : decode code 668 = .ok (.iadd, 1) := by decide +kernel
theorem dL_law_669 : decode code 669 = .ok (.iaload, 1) := by decide +kernel
theorem dL_law_670 : decode code 670 = .ok (.invokevirtual 76, 3) := by decide +kernel
theorem dL_law_673 : decode code 673 = .ok (.if_icmp .eq 377, 3) := by decide +kernel
theorem dL_law_676 : decode code 676 = .ok (.iconst 0, 1) := by decide +kernel
theorem dL_law_677 : decode code 677 = .ok (.ireturn, 1) := by decide +kernel
theorem dL_law_678 : decode code 678 = .ok (.aload_n 1, 1) := by decide +kernel
theorem dL_law_679 : decode code 679 = .ok (.aload_n 0, 1) := by decide +kernel
theorem dL_law_680 : decode code 680 = .ok (.iload_n 3, 1) := by decide +kernel
theorem dL_law_681 : decode code 681 = .ok (.iconst 1, 1) := by decide +kernel
theorem dL_law_682 : decode code 682 = .ok (.iadd, 1) := by decide +kernel
theorem dL_law_683 : decode code 683 = .ok (.iaload, 1) := by decide +kernel
theorem dL_law_684 : decode code 684 = .ok (.invokevirtual 77, 3) := by decide +kernel
theorem dL_law_687 : decode code 687 = .ok (.aload_n 2, 1) := by decide +kernel
theorem dL_law_688 : decode code 688 = .ok (.aload_n 0, 1) := by decide +kernel
theorem dL_law_689 : decode code 689 = .ok (.iload_n 3, 1) := by decide +kernel
theorem dL_law_690 : decode code 690 = .ok (.iconst 1, 1) := by decide +kernel
theorem dL_law_691 : decode code 691 = .ok (.iadd, 1) := by decide +kernel
theorem dL_law_692 : decode code 692 = .ok (.iaload, 1) := by decide +kernel
theorem dL_law_693 : decode code 693 = .ok (.invokevirtual 80, 3) := by decide +kernel
theorem dL_law_696 : decode code 696 = .ok (.if_icmp .eq 354, 3) := by decide +kernel
theorem dL_law_699 : decode code 699 = .ok (.iconst 0, 1) := by decide +kernel
theorem dL_law_700 : decode code 700 = .ok (.ireturn, 1) := by decide +kernel
theorem dL_law_701 : decode code 701 = .ok (.aload_n 1, 1) := by decide +kernel
theorem dL_law_702 : decode code 702 = .ok (.aload_n 0, 1) := by decide +kernel
theorem dL_law_703 : decode code 703 = .ok (.iload_n 3, 1) := by decide +kernel
theorem dL_law_704 : decode code 704 = .ok (.iconst 1, 1) := by decide +kernel
theorem dL_law_705 : decode code 705 = .ok (.iadd, 1) := by decide +kernel
theorem dL_law_706 : decode code 706 = .ok (.iaload, 1) := by decide +kernel
theorem dL_law_707 : decode code 707 = .ok (.invokevirtual 81, 3) := by decide +kernel
theorem dL_law_710 : decode code 710 = .ok (.aload_n 2, 1) := by decide +kernel
theorem dL_law_711 : decode code 711 = .ok (.aload_n 0, 1) := by decide +kernel
theorem dL_law_712 : decode code 712 = .ok (.iload_n 3, 1) := by decide +kernel
theorem dL_law_713 : decode code 713 = .ok (.iconst 1, 1) := by decide +kernel
theorem dL_law_714 : decode code 714 = .ok (.iadd, 1) := by decide +kernel
theorem dL_law_715 : decode code 715 = .ok (.iaload, 1) := by decide +kernel
theorem dL_law_716 : decode code 716 = .ok (.invokevirtual 84, 3) := by decide +kernel
theorem dL_law_719 : decode code 719 = .ok (.if_icmp .eq 331, 3) := by decide +kernel
theorem dL_law_722 : decode code 722 = .ok (.iconst 0, 1) := by decide +kernel
theorem dL_law_723 : decode code 723 = .ok (.ireturn, 1) := by decide +kernel
theorem dL_law_724 : decode code 724 = .ok (.aload_n 1, 1) := by decide +kernel
theorem dL_law_725 : decode code 725 = .ok (.aload_n 0, 1) := by decide +kernel
theorem dL_law_726 : decode code 726 = .ok (.iload_n 3, 1) := by decide +kernel
theorem dL_law_727 : decode code 727 = .ok (.iconst 1, 1) := by decide +kernel
theorem dL_law_728 : decode code 728 = .ok (.iadd, 1) := by decide +kernel
theorem dL_law_729 : decode code 729 = .ok (.iaload, 1) := by decide +kernel
theorem dL_law_730 : decode code 730 = .ok (.aload_n 0, 1) := by decide +kernel
theorem dL_law_731 : decode code 731 = .ok (.iload_n 3, 1) := by decide +kernel
theorem dL_law_732 : decode code 732 = .ok (.iconst 2, 1) := by decide +kernel
theorem dL_law_733 : decode code 733 = .ok (.iadd, 1) := by decide +kernel
theorem dL_law_734 : decode code 734 = .ok (.iaload, 1) := by decide +kernel
theorem dL_law_735 : decode code 735 = .ok (.invokevirtual 85, 3) := by decide +kernel
theorem dL_law_738 : decode code 738 = .ok (.aload_n 2, 1) := by decide +kernel
theorem dL_law_739 : decode code 739 = .ok (.aload_n 0, 1) := by decide +kernel
theorem dL_law_740 : decode code 740 = .ok (.iload_n 3, 1) := by decide +kernel
theorem dL_law_741 : decode code 741 = .ok (.iconst 1, 1) := by decide +kernel
theorem dL_law_742 : decode code 742 = .ok (.iadd, 1) := by decide +kernel
theorem dL_law_743 : decode code 743 = .ok (.iaload, 1) := by decide +kernel
theorem dL_law_744 : decode code 744 = .ok (.aload_n 0, 1) := by decide +kernel
theorem dL_law_745 : decode code 745 = .ok (.iload_n 3, 1) := by decide +kernel
theorem dL_law_746 : decode code 746 = .ok (.iconst 2, 1) := by decide +kernel
theorem dL_law_747 : decode code 747 = .ok (.iadd, 1) := by decide +kernel
theorem dL_law_748 : decode code 748 = .ok (.iaload, 1) := by decide +kernel
theorem dL_law_749 : decode code 749 = .ok (.invokevirtual 88, 3) := by decide +kernel
theorem dL_law_752 : decode code 752 = .ok (.if_icmp .eq 298, 3) := by decide +kernel
theorem dL_law_755 : decode code 755 = .ok (.iconst 0, 1) := by decide +kernel
theorem dL_law_756 : decode code 756 = .ok (.ireturn, 1) := by decide +kernel
theorem dL_law_757 : decode code 757 = .ok (.aload_n 1, 1) := by decide +kernel
theorem dL_law_758 : decode code 758 = .ok (.aload_n 0, 1) := by decide +kernel
theorem dL_law_759 : decode code 759 = .ok (.iload_n 3, 1) := by decide +kernel
theorem dL_law_760 : decode code 760 = .ok (.iconst 1, 1) := by decide +kernel
theorem dL_law_761 : decode code 761 = .ok (.iadd, 1) := by decide +kernel
theorem dL_law_762 : decode code 762 = .ok (.iaload, 1) := by decide +kernel
theorem dL_law_763 : decode code 763 = .ok (.aload_n 0, 1) := by decide +kernel
theorem dL_law_764 : decode code 764 = .ok (.iload_n 3, 1) := by decide +kernel
theorem dL_law_765 : decode code 765 = .ok (.iconst 2, 1) := by decide +kernel
theorem dL_law_766 : decode code 766 = .ok (.iadd, 1) := by decide +kernel
theorem dL_law_767 : decode code 767 = .ok (.iaload, 1) := by decide +kernel
theorem dL_law_768 : decode code 768 = .ok (.invokevirtual 89, 3) := by decide +kernel
theorem dL_law_771 : decode code 771 = .ok (.aload_n 2, 1) := by decide +kernel
theorem dL_law_772 : decode code 772 = .ok (.aload_n 0, 1) := by decide +kernel
theorem dL_law_773 : decode code 773 = .ok (.iload_n 3, 1) := by decide +kernel
theorem dL_law_774 : decode code 774 = .ok (.iconst 1, 1) := by decide +kernel
theorem dL_law_775 : decode code 775 = .ok (.iadd, 1) := by decide +kernel
theorem dL_law_776 : decode code 776 = .ok (.iaload, 1) := by decide +kernel
theorem dL_law_777 : decode code 777 = .ok (.aload_n 0, 1) := by decide +kernel
theorem dL_law_778 : decode code 778 = .ok (.iload_n 3, 1) := by decide +kernel
theorem dL_law_779 : decode code 779 = .ok (.iconst 2, 1) := by decide +kernel
theorem dL_law_780 : decode code 780 = .ok (.iadd, 1) := by decide +kernel
theorem dL_law_781 : decode code 781 = .ok (.iaload, 1) := by decide +kernel
theorem dL_law_782 : decode code 782 = .ok (.invokevirtual 92, 3) := by decide +kernel
theorem dL_law_785 : decode code 785 = .ok (.if_icmp .eq 265, 3) := by decide +kernel
theorem dL_law_788 : decode code 788 = .ok (.iconst 0, 1) := by decide +kernel
theorem dL_law_789 : decode code 789 = .ok (.ireturn, 1) := by decide +kernel
theorem dL_law_790 : decode code 790 = .ok (.aload_n 1, 1) := by decide +kernel
theorem dL_law_791 : decode code 791 = .ok (.aload_n 0, 1) := by decide +kernel
theorem dL_law_792 : decode code 792 = .ok (.iload_n 3, 1) := by decide +kernel
theorem dL_law_793 : decode code 793 = .ok (.iconst 1, 1) := by decide +kernel
theorem dL_law_794 : decode code 794 = .ok (.iadd, 1) := by decide +kernel
theorem dL_law_795 : decode code 795 = .ok (.iaload, 1) := by decide +kernel
theorem dL_law_796 : decode code 796 = .ok (.invokevirtual 93, 3) := by decide +kernel
theorem dL_law_799 : decode code 799 = .ok (.aload_n 2, 1) := by decide +kernel
theorem dL_law_800 : decode code 800 = .ok (.aload_n 0, 1) := by decide +kernel
theorem dL_law_801 : decode code 801 = .ok (.iload_n 3, 1) := by decide +kernel
theorem dL_law_802 : decode code 802 = .ok (.iconst 1, 1) := by decide +kernel
theorem dL_law_803 : decode code 803 = .ok (.iadd, 1) := by decide +kernel
theorem dL_law_804 : decode code 804 = .ok (.iaload, 1) := by decide +kernel
theorem dL_law_805 : decode code 805 = .ok (.invokevirtual 96, 3) := by decide +kernel
theorem dL_law_808 : decode code 808 = .ok (.if_icmp .eq 242, 3) := by decide +kernel
theorem dL_law_811 : decode code 811 = .ok (.iconst 0, 1) := by decide +kernel
theorem dL_law_812 : decode code 812 = .ok (.ireturn, 1) := by decide +kernel
theorem dL_law_813 : decode code 813 = .ok (.aload_n 1, 1) := by decide +kernel
theorem dL_law_814 : decode code 814 = .ok (.aload_n 0, 1) := by decide +kernel
theorem dL_law_815 : decode code 815 = .ok (.iload_n 3, 1) := by decide +kernel
theorem dL_law_816 : decode code 816 = .ok (.iconst 1, 1) := by decide +kernel
theorem dL_law_817 : decode code 817 = .ok (.iadd, 1) := by decide +kernel
theorem dL_law_818 : decode code 818 = .ok (.iaload, 1) := by decide +kernel
theorem dL_law_819 : decode code 819 = .ok (.aload_n 0, 1) := by decide +kernel
theorem dL_law_820 : decode code 820 = .ok (.iload_n 3, 1) := by decide +kernel
theorem dL_law_821 : decode code 821 = .ok (.iconst 2, 1) := by decide +kernel
theorem dL_law_822 : decode code 822 = .ok (.iadd, 1) := by decide +kernel
theorem dL_law_823 : decode code 823 = .ok (.iaload, 1) := by decide +kernel
theorem dL_law_824 : decode code 824 = .ok (.invokevirtual 97, 3) := by decide +kernel
theorem dL_law_827 : decode code 827 = .ok (.aload_n 2, 1) := by decide +kernel
theorem dL_law_828 : decode code 828 = .ok (.aload_n 0, 1) := by decide +kernel
theorem dL_law_829 : decode code 829 = .ok (.iload_n 3, 1) := by decide +kernel
theorem dL_law_830 : decode code 830 = .ok (.iconst 1, 1) := by decide +kernel
theorem dL_law_831 : decode code 831 = .ok (.iadd, 1) := by decide +kernel
theorem dL_law_832 : decode code 832 = .ok (.iaload, 1) := by decide +kernel
theorem dL_law_833 : decode code 833 = .ok (.aload_n 0, 1) := by decide +kernel
theorem dL_law_834 : decode code 834 = .ok (.iload_n 3, 1) := by decide +kernel
theorem dL_law_835 : decode code 835 = .ok (.iconst 2, 1) := by decide +kernel
theorem dL_law_836 : decode code 836 = .ok (.iadd, 1) := by decide +kernel
theorem dL_law_837 : decode code 837 = .ok (.iaload, 1) := by decide +kernel
theorem dL_law_838 : decode code 838 = .ok (.invokevirtual 100, 3) := by decide +kernel
theorem dL_law_841 : decode code 841 = .ok (.if_icmp .eq 209, 3) := by decide +kernel
theorem dL_law_844 : decode code 844 = .ok (.iconst 0, 1) := by decide +kernel
theorem dL_law_845 : decode code 845 = .ok (.ireturn, 1) := by decide +kernel
theorem dL_law_846 : decode code 846 = .ok (.aload_n 1, 1) := by decide +kernel
theorem dL_law_847 : decode code 847 = .ok (.aload_n 0, 1) := by decide +kernel
theorem dL_law_848 : decode code 848 = .ok (.iload_n 3, 1) := by decide +kernel
theorem dL_law_849 : decode code 849 = .ok (.iconst 1, 1) := by decide +kernel
theorem dL_law_850 : decode code 850 = .ok (.iadd, 1) := by decide +kernel
theorem dL_law_851 : decode code 851 = .ok (.iaload, 1) := by decide +kernel
theorem dL_law_852 : decode code 852 = .ok (.invokevirtual 101, 3) := by decide +kernel
theorem dL_law_855 : decode code 855 = .ok (.aload_n 2, 1) := by decide +kernel
theorem dL_law_856 : decode code 856 = .ok (.aload_n 0, 1) := by decide +kernel
theorem dL_law_857 : decode code 857 = .ok (.iload_n 3, 1) := by decide +kernel
theorem dL_law_858 : decode code 858 = .ok (.iconst 1, 1) := by decide +kernel
theorem dL_law_859 : decode code 859 = .ok (.iadd, 1) := by decide +kernel
theorem dL_law_860 : decode code 860 = .ok (.iaload, 1) := by decide +kernel
theorem dL_law_861 : decode code 861 = .ok (.invokevirtual 104, 3) := by decide +kernel
theorem dL_law_864 : decode code 864 = .ok (.if_icmp .eq 186, 3) := by decide +kernel
theorem dL_law_867 : decode code 867 = .ok (.iconst 0, 1) := by decide +kernel
theorem dL_law_868 : decode code 868 = .ok (.ireturn, 1) := by decide +kernel
theorem dL_law_869 : decode code 869 = .ok (.aload_n 1, 1) := by decide +kernel
theorem dL_law_870 : decode code 870 = .ok (.aload_n 0, 1) := by decide +kernel
theorem dL_law_871 : decode code 871 = .ok (.iload_n 3, 1) := by decide +kernel
theorem dL_law_872 : decode code 872 = .ok (.iconst 1, 1) := by decide +kernel
theorem dL_law_873 : decode code 873 = .ok (.iadd, 1) := by decide +kernel
theorem dL_law_874 : decode code 874 = .ok (.iaload, 1) := by decide +kernel
theorem dL_law_875 : decode code 875 = .ok (.aload_n 0, 1) := by decide +kernel
theorem dL_law_876 : decode code 876 = .ok (.iload_n 3, 1) := by decide +kernel
theorem dL_law_877 : decode code 877 = .ok (.iconst 2, 1) := by decide +kernel
theorem dL_law_878 : decode code 878 = .ok (.iadd, 1) := by decide +kernel
theorem dL_law_879 : decode code 879 = .ok (.iaload, 1) := by decide +kernel
theorem dL_law_880 : decode code 880 = .ok (.aload_n 0, 1) := by decide +kernel
theorem dL_law_881 : decode code 881 = .ok (.iload_n 3, 1) := by decide +kernel
theorem dL_law_882 : decode code 882 = .ok (.iconst 3, 1) := by decide +kernel
theorem dL_law_883 : decode code 883 = .ok (.iadd, 1) := by decide +kernel
theorem dL_law_884 : decode code 884 = .ok (.iaload, 1) := by decide +kernel
theorem dL_law_885 : decode code 885 = .ok (.invokevirtual 105, 3) := by decide +kernel
theorem dL_law_888 : decode code 888 = .ok (.aload_n 2, 1) := by decide +kernel
theorem dL_law_889 : decode code 889 = .ok (.aload_n 0, 1) := by decide +kernel
theorem dL_law_890 : decode code 890 = .ok (.iload_n 3, 1) := by decide +kernel
theorem dL_law_891 : decode code 891 = .ok (.iconst 1, 1) := by decide +kernel
theorem dL_law_892 : decode code 892 = .ok (.iadd, 1) := by decide +kernel
theorem dL_law_893 : decode code 893 = .ok (.iaload, 1) := by decide +kernel
theorem dL_law_894 : decode code 894 = .ok (.aload_n 0, 1) := by decide +kernel
theorem dL_law_895 : decode code 895 = .ok (.iload_n 3, 1) := by decide +kernel
theorem dL_law_896 : decode code 896 = .ok (.iconst 2, 1) := by decide +kernel
theorem dL_law_897 : decode code 897 = .ok (.iadd, 1) := by decide +kernel
theorem dL_law_898 : decode code 898 = .ok (.iaload, 1) := by decide +kernel
theorem dL_law_899 : decode code 899 = .ok (.aload_n 0, 1) := by decide +kernel
theorem dL_law_900 : decode code 900 = .ok (.iload_n 3, 1) := by decide +kernel
theorem dL_law_901 : decode code 901 = .ok (.iconst 3, 1) := by decide +kernel
theorem dL_law_902 : decode code 902 = .ok (.iadd, 1) := by decide +kernel
theorem dL_law_903 : decode code 903 = .ok (.iaload, 1) := by decide +kernel
theorem dL_law_904 : decode code 904 = .ok (.invokevirtual 108, 3) := by decide +kernel
theorem dL_law_907 : decode code 907 = .ok (.if_icmp .eq 143, 3) := by decide +kernel
theorem dL_law_910 : decode code 910 = .ok (.iconst 0, 1) := by decide +kernel
theorem dL_law_911 : decode code 911 = .ok (.ireturn, 1) := by decide +kernel
theorem dL_law_912 : decode code 912 = .ok (.aload_n 1, 1) := by decide +kernel
theorem dL_law_913 : decode code 913 = .ok (.aload_n 0, 1) := by decide +kernel
theorem dL_law_914 : decode code 914 = .ok (.iload_n 3, 1) := by decide +kernel
theorem dL_law_915 : decode code 915 = .ok (.iconst 1, 1) := by decide +kernel
theorem dL_law_916 : decode code 916 = .ok (.iadd, 1) := by decide +kernel
theorem dL_law_917 : decode code 917 = .ok (.iaload, 1) := by decide +kernel
theorem dL_law_918 : decode code 918 = .ok (.aload_n 0, 1) := by decide +kernel
theorem dL_law_919 : decode code 919 = .ok (.iload_n 3, 1) := by decide +kernel
theorem dL_law_920 : decode code 920 = .ok (.iconst 2, 1) := by decide +kernel
theorem dL_law_921 : decode code 921 = .ok (.iadd, 1) := by decide +kernel
theorem dL_law_922 : decode code 922 = .ok (.iaload, 1) := by decide +kernel
theorem dL_law_923 : decode code 923 = .ok (.aload_n 0, 1) := by decide +kernel
theorem dL_law_924 : decode code 924 = .ok (.iload_n 3, 1) := by decide +kernel
theorem dL_law_925 : decode code 925 = .ok (.iconst 3, 1) := by decide +kernel
theorem dL_law_926 : decode code 926 = .ok (.iadd, 1) := by decide +kernel
theorem dL_law_927 : decode code 927 = .ok (.iaload, 1) := by decide +kernel
theorem dL_law_928 : decode code 928 = .ok (.invokevirtual 109, 3) := by decide +kernel
theorem dL_law_931 : decode code 931 = .ok (.aload_n 2, 1) := by decide +kernel
theorem dL_law_932 : decode code 932 = .ok (.aload_n 0, 1) := by decide +kernel
theorem dL_law_933 : decode code 933 = .ok (.iload_n 3, 1) := by decide +kernel
theorem dL_law_934 : decode code 934 = .ok (.iconst 1, 1) := by decide +kernel
theorem dL_law_935 : decode code 935 = .ok (.iadd, 1) := by decide +kernel
theorem dL_law_936 : decode code 936 = .ok (.iaload, 1) := by decide +kernel
theorem dL_law_937 : decode code 937 = .ok (.aload_n 0, 1) := by decide +kernel
theorem dL_law_938 : decode code 938 = .ok (.iload_n 3, 1) := by decide +kernel
theorem dL_law_939 : decode code 939 = .ok (.iconst 2, 1) := by decide +kernel
theorem dL_law_940 : decode code 940 = .ok (.iadd, 1) := by decide +kernel
theorem dL_law_941 : decode code 941 = .ok (.iaload, 1) := by decide +kernel
theorem dL_law_942 : decode code 942 = .ok (.aload_n 0, 1) := by decide +kernel
theorem dL_law_943 : decode code 943 = .ok (.iload_n 3, 1) := by decide +kernel
theorem dL_law_944 : decode code 944 = .ok (.iconst 3, 1) := by decide +kernel
theorem dL_law_945 : decode code 945 = .ok (.iadd, 1) := by decide +kernel
theorem dL_law_946 : decode code 946 = .ok (.iaload, 1) := by decide +kernel
theorem dL_law_947 : decode code 947 = .ok (.invokevirtual 112, 3) := by decide +kernel
theorem dL_law_950 : decode code 950 = .ok (.if_icmp .eq 100, 3) := by decide +kernel
theorem dL_law_953 : decode code 953 = .ok (.iconst 0, 1) := by decide +kernel
theorem dL_law_954 : decode code 954 = .ok (.ireturn, 1) := by decide +kernel
theorem dL_law_955 : decode code 955 = .ok (.aload_n 1, 1) := by decide +kernel
theorem dL_law_956 : decode code 956 = .ok (.aload_n 0, 1) := by decide +kernel
theorem dL_law_957 : decode code 957 = .ok (.iload_n 3, 1) := by decide +kernel
theorem dL_law_958 : decode code 958 = .ok (.iconst 1, 1) := by decide +kernel
theorem dL_law_959 : decode code 959 = .ok (.iadd, 1) := by decide +kernel
theorem dL_law_960 : decode code 960 = .ok (.iaload, 1) := by decide +kernel
theorem dL_law_961 : decode code 961 = .ok (.invokevirtual 113, 3) := by decide +kernel
theorem dL_law_964 : decode code 964 = .ok (.aload_n 2, 1) := by decide +kernel
theorem dL_law_965 : decode code 965 = .ok (.aload_n 0, 1) := by decide +kernel
theorem dL_law_966 : decode code 966 = .ok (.iload_n 3, 1) := by decide +kernel
theorem dL_law_967 : decode code 967 = .ok (.iconst 1, 1) := by decide +kernel
theorem dL_law_968 : decode code 968 = .ok (.iadd, 1) := by decide +kernel
theorem dL_law_969 : decode code 969 = .ok (.iaload, 1) := by decide +kernel
theorem dL_law_970 : decode code 970 = .ok (.invokevirtual 116, 3) := by decide +kernel
theorem dL_law_973 : decode code 973 = .ok (.if_icmp .eq 77, 3) := by decide +kernel
theorem dL_law_976 : decode code 976 = .ok (.iconst 0, 1) := by decide +kernel
theorem dL_law_977 : decode code 977 = .ok (.ireturn, 1) := by decide +kernel
theorem dL_law_978 : decode code 978 = .ok (.aload_n 1, 1) := by decide +kernel
theorem dL_law_979 : decode code 979 = .ok (.aload_n 0, 1) := by decide +kernel
theorem dL_law_980 : decode code 980 = .ok (.iload_n 3, 1) := by decide +kernel
theorem dL_law_981 : decode code 981 = .ok (.iconst 1, 1) := by decide +kernel
theorem dL_law_982 : decode code 982 = .ok (.iadd, 1) := by decide +kernel
theorem dL_law_983 : decode code 983 = .ok (.iaload, 1) := by decide +kernel
theorem dL_law_984 : decode code 984 = .ok (.invokevirtual 117, 3) := by decide +kernel
theorem dL_law_987 : decode code 987 = .ok (.aload_n 2, 1) := by decide +kernel
theorem dL_law_988 : decode code 988 = .ok (.aload_n 0, 1) := by decide +kernel
theorem dL_law_989 : decode code 989 = .ok (.iload_n 3, 1) := by decide +kernel
theorem dL_law_990 : decode code 990 = .ok (.iconst 1, 1) := by decide +kernel
theorem dL_law_991 : decode code 991 = .ok (.iadd, 1) := by decide +kernel
theorem dL_law_992 : decode code 992 = .ok (.iaload, 1) := by decide +kernel
theorem dL_law_993 : decode code 993 = .ok (.invokevirtual 120, 3) := by decide +kernel
theorem dL_law_996 : decode code 996 = .ok (.if_icmp .eq 54, 3) := by decide +kernel
theorem dL_law_999 : decode code 999 = .ok (.iconst 0, 1) := by decide +kernel
theorem dL_law_1000 : decode code 1000 = .ok (.ireturn, 1) := by decide +kernel
theorem dL_law_1001 : decode code 1001 = .ok (.aload_n 1, 1) := by decide +kernel
theorem dL_law_1002 : decode code 1002 = .ok (.invokevirtual 121, 3) := by decide +kernel
theorem dL_law_1005 : decode code 1005 = .ok (.aload_n 2, 1) := by decide +kernel
theorem dL_law_1006 : decode code 1006 = .ok (.invokevirtual 125, 3) := by decide +kernel
theorem dL_law_1009 : decode code 1009 = .ok (.if_icmp .eq 41, 3) := by decide +kernel
theorem dL_law_1012 : decode code 1012 = .ok (.iconst 0, 1) := by decide +kernel
theorem dL_law_1013 : decode code 1013 = .ok (.ireturn, 1) := by decide +kernel
theorem dL_law_1014 : decode code 1014 = .ok (.aload_n 1, 1) := by decide +kernel
theorem dL_law_1015 : decode code 1015 = .ok (.invokevirtual 126, 3) := by decide +kernel
theorem dL_law_1018 : decode code 1018 = .ok (.aload_n 2, 1) := by decide +kernel
theorem dL_law_1019 : decode code 1019 = .ok (.invokevirtual 129, 3) := by decide +kernel
theorem dL_law_1022 : decode code 1022 = .ok (.if_icmp .eq 28, 3) := by decide +kernel
theorem dL_law_1025 : decode code 1025 = .ok (.iconst 0, 1) := by decide +kernel
theorem dL_law_1026 : decode code 1026 = .ok (.ireturn, 1) := by decide +kernel
theorem dL_law_1027 : decode code 1027 = .ok (.aload_n 1, 1) := by decide +kernel
theorem dL_law_1028 : decode code 1028 = .ok (.aload_n 0, 1) := by decide +kernel
theorem dL_law_1029 : decode code 1029 = .ok (.iload_n 3, 1) := by decide +kernel
theorem dL_law_1030 : decode code 1030 = .ok (.iconst 1, 1) := by decide +kernel
theorem dL_law_1031 : decode code 1031 = .ok (.iadd, 1) := by decide +kernel
theorem dL_law_1032 : decode code 1032 = .ok (.iaload, 1) := by decide +kernel
theorem dL_law_1033 : decode code 1033 = .ok (.invokevirtual 130, 3) := by decide +kernel
theorem dL_law_1036 : decode code 1036 = .ok (.aload_n 2, 1) := by decide +kernel
theorem dL_law_1037 : decode code 1037 = .ok (.aload_n 0, 1) := by decide +kernel
theorem dL_law_1038 : decode code 1038 = .ok (.iload_n 3, 1) := by decide +kernel
theorem dL_law_1039 : decode code 1039 = .ok (.iconst 1, 1) := by decide +kernel
theorem dL_law_1040 : decode code 1040 = .ok (.iadd, 1) := by decide +kernel
theorem dL_law_1041 : decode code 1041 = .ok (.iaload, 1) := by decide +kernel
theorem dL_law_1042 : decode code 1042 = .ok (.invokevirtual 133, 3) := by decide +kernel
theorem dL_law_1045 : decode code 1045 = .ok (.if_icmp .eq 5, 3) := by decide +kernel
theorem dL_law_1048 : decode code 1048 = .ok (.iconst 0, 1) := by decide +kernel
theorem dL_law_1049 : decode code 1049 = .ok (.ireturn, 1) := by decide +kernel
theorem dL_law_1050 : decode code 1050 = .ok (.iinc 3 5, 3) := by decide +kernel
theorem dL_law_1053 : decode code 1053 = .ok (.goto (-1035), 3) := by decide +kernel
theorem dL_law_1056 : decode code 1056 = .ok (.iconst 1, 1) := by decide +kernel
theorem dL_law_1057 : decode code 1057 = .ok (.ireturn, 1) := by decide +kernel
