theorem dX0_init_0 : decode cX0_init 0 = .ok (.aload_n 0, 1) := by decide +kernel
theorem dX0_init_1 : decode cX0_init 1 = .ok (.invokespecial 3, 3) := by decide +kernel
theorem dX0_init_4 : decode cX0_init 4 = .ok (.aload_n 0, 1) := by decide +kernel
theorem dX0_init_5 : decode cX0_init 5 = .ok (.bipush 11, 2) := by decide +kernel
theorem dX0_init_7 : decode cX0_init 7 = .ok (.newarray .int, 2) := by decide +kernel
theorem dX0_init_9 : decode cX0_init 9 = .ok (.putfield 9, 3) := by decide +kernel
theorem dX0_init_12 : decode cX0_init 12 = .ok (.aload_n 0, 1) := by decide +kernel
theorem dX0_init_13 : decode cX0_init 13 = .ok (.bipush 11, 2) := by decide +kernel
theorem dX0_init_15 : decode cX0_init 15 = .ok (.newarray .long, 2) := by decide +kernel
theorem dX0_init_17 : decode cX0_init 17 = .ok (.putfield 15, 3) := by decide +kernel
theorem dX0_init_20 : decode cX0_init 20 = .ok (.aload_n 0, 1) := by decide +kernel
theorem dX0_init_21 : decode cX0_init 21 = .ok (.aload_n 1, 1) := by decide +kernel
theorem dX0_init_22 : decode cX0_init 22 = .ok (.putfield 19, 3) := by decide +kernel
theorem dX0_init_25 : decode cX0_init 25 = .ok (.return_, 1) := by decide +kernel
theorem dX0_howMany_0 : decode cX0_howMany 0 = .ok (.iload_n 2, 1) := by decide +kernel
theorem dX0_howMany_1 : decode cX0_howMany 1 = .ok (.ifCond .ne 7, 3) := by decide +kernel
theorem dX0_howMany_4 : decode cX0_howMany 4 = .ok (.lconst 1, 1) := by decide +kernel
theorem dX0_howMany_5 : decode cX0_howMany 5 = .ok (.goto 20, 3) := by decide +kernel
theorem dX0_howMany_8 : decode cX0_howMany 8 = .ok (.iload_n 1, 1) := by decide +kernel
theorem dX0_howMany_9 : decode cX0_howMany 9 = .ok (.iconst 1, 1) := by decide +kernel
theorem dX0_howMany_10 : decode cX0_howMany 10 = .ok (.iadd, 1) := by decide +kernel
theorem dX0_howMany_11 : decode cX0_howMany 11 = .ok (.iload_n 2, 1) := by decide +kernel
theorem dX0_howMany_12 : decode cX0_howMany 12 = .ok (.isub, 1) := by decide +kernel
theorem dX0_howMany_13 : decode cX0_howMany 13 = .ok (.i2l, 1) := by decide +kernel
theorem dX0_howMany_14 : decode cX0_howMany 14 = .ok (.iload_n 1, 1) := by decide +kernel
theorem dX0_howMany_15 : decode cX0_howMany 15 = .ok (.iconst 1, 1) := by decide +kernel
theorem dX0_howMany_16 : decode cX0_howMany 16 = .ok (.iadd, 1) := by decide +kernel
theorem dX0_howMany_17 : decode cX0_howMany 17 = .ok (.i2l, 1) := by decide +kernel
theorem dX0_howMany_18 : decode cX0_howMany 18 = .ok (.iload_n 2, 1) := by decide +kernel
theorem dX0_howMany_19 : decode cX0_howMany 19 = .ok (.iconst 1, 1) := by decide +kernel
theorem dX0_howMany_20 : decode cX0_howMany 20 = .ok (.isub, 1) := by decide +kernel
theorem dX0_howMany_21 : decode cX0_howMany 21 = .ok (.invokestatic 23, 3) := by decide +kernel
theorem dX0_howMany_24 : decode cX0_howMany 24 = .ok (.lmul, 1) := by decide +kernel
theorem dX0_howMany_25 : decode cX0_howMany 25 = .ok (.lreturn, 1) := by decide +kernel
theorem dX0_primeRows_0 : decode cX0_primeRows 0 = .ok (.iload_n 1, 1) := by decide +kernel
theorem dX0_primeRows_1 : decode cX0_primeRows 1 = .ok (.iconst 1, 1) := by decide +kernel
theorem dX0_primeRows_2 : decode cX0_primeRows 2 = .ok (.isub, 1) := by decide +kernel
theorem dX0_primeRows_3 : decode cX0_primeRows 3 = .ok (.i2l, 1) := by decide +kernel
theorem dX0_primeRows_4 : decode cX0_primeRows 4 = .ok (.iload_n 1, 1) := by decide +kernel
theorem dX0_primeRows_5 : decode cX0_primeRows 5 = .ok (.iconst 1, 1) := by decide +kernel
theorem dX0_primeRows_6 : decode cX0_primeRows 6 = .ok (.isub, 1) := by decide +kernel
theorem dX0_primeRows_7 : decode cX0_primeRows 7 = .ok (.invokestatic 23, 3) := by decide +kernel
theorem dX0_primeRows_10 : decode cX0_primeRows 10 = .ok (.lreturn, 1) := by decide +kernel
theorem dX0_numberOf_0 : decode cX0_numberOf 0 = .ok (.aload_n 0, 1) := by decide +kernel
theorem dX0_numberOf_1 : decode cX0_numberOf 1 = .ok (.invokevirtual 27, 3) := by decide +kernel
theorem dX0_numberOf_4 : decode cX0_numberOf 4 = .ok (.lconst 0, 1) := by decide +kernel
theorem dX0_numberOf_5 : decode cX0_numberOf 5 = .ok (.lstore 4, 2) := by decide +kernel
theorem dX0_numberOf_7 : decode cX0_numberOf 7 = .ok (.iconst 1, 1) := by decide +kernel
theorem dX0_numberOf_8 : decode cX0_numberOf 8 = .ok (.istore 6, 2) := by decide +kernel
theorem dX0_numberOf_10 : decode cX0_numberOf 10 = .ok (.iload 6, 2) := by decide +kernel
theorem dX0_numberOf_12 : decode cX0_numberOf 12 = .ok (.iload_n 3, 1) := by decide +kernel
theorem dX0_numberOf_13 : decode cX0_numberOf 13 = .ok (.if_icmp .gt 56, 3) := by decide +kernel
theorem dX0_numberOf_16 : decode cX0_numberOf 16 = .ok (.iconst 1, 1) := by decide +kernel
theorem dX0_numberOf_17 : decode cX0_numberOf 17 = .ok (.istore 7, 2) := by decide +kernel
theorem dX0_numberOf_19 : decode cX0_numberOf 19 = .ok (.iload 7, 2) := by decide +kernel
theorem dX0_numberOf_21 : decode cX0_numberOf 21 = .ok (.aload_n 1, 1) := by decide +kernel
theorem dX0_numberOf_22 : decode cX0_numberOf 22 = .ok (.iload 6, 2) := by decide +kernel
theorem dX0_numberOf_24 : decode cX0_numberOf 24 = .ok (.iaload, 1) := by decide +kernel
theorem dX0_numberOf_25 : decode cX0_numberOf 25 = .ok (.if_icmp .ge 25, 3) := by decide +kernel
theorem dX0_numberOf_28 : decode cX0_numberOf 28 = .ok (.lload 4, 2) := by decide +kernel
theorem dX0_numberOf_30 : decode cX0_numberOf 30 = .ok (.aload_n 0, 1) := by decide +kernel
theorem dX0_numberOf_31 : decode cX0_numberOf 31 = .ok (.iload 7, 2) := by decide +kernel
theorem dX0_numberOf_33 : decode cX0_numberOf 33 = .ok (.iload_n 2, 1) := by decide +kernel
theorem dX0_numberOf_34 : decode cX0_numberOf 34 = .ok (.iload_n 3, 1) := by decide +kernel
theorem dX0_numberOf_35 : decode cX0_numberOf 35 = .ok (.iload 6, 2) := by decide +kernel
theorem dX0_numberOf_37 : decode cX0_numberOf 37 = .ok (.isub, 1) := by decide +kernel
theorem dX0_numberOf_38 : decode cX0_numberOf 38 = .ok (.invokevirtual 30, 3) := by decide +kernel
theorem dX0_numberOf_41 : decode cX0_numberOf 41 = .ok (.ladd, 1) := by decide +kernel
theorem dX0_numberOf_42 : decode cX0_numberOf 42 = .ok (.lstore 4, 2) := by decide +kernel
theorem dX0_numberOf_44 : decode cX0_numberOf 44 = .ok (.iinc 7 1, 3) := by decide +kernel
theorem dX0_numberOf_47 : decode cX0_numberOf 47 = .ok (.goto (-28), 3) := by decide +kernel
theorem dX0_numberOf_50 : decode cX0_numberOf 50 = .ok (.aload_n 0, 1) := by decide +kernel
theorem dX0_numberOf_51 : decode cX0_numberOf 51 = .ok (.getfield 9, 3) := by decide +kernel
theorem dX0_numberOf_54 : decode cX0_numberOf 54 = .ok (.aload_n 1, 1) := by decide +kernel
theorem dX0_numberOf_55 : decode cX0_numberOf 55 = .ok (.iload 6, 2) := by decide +kernel
theorem dX0_numberOf_57 : decode cX0_numberOf 57 = .ok (.iaload, 1) := by decide +kernel
theorem dX0_numberOf_58 : decode cX0_numberOf 58 = .ok (.dup2, 1) := by decide +kernel
theorem dX0_numberOf_59 : decode cX0_numberOf 59 = .ok (.iaload, 1) := by decide +kernel
theorem dX0_numberOf_60 : decode cX0_numberOf 60 = .ok (.iconst 1, 1) := by decide +kernel
theorem dX0_numberOf_61 : decode cX0_numberOf 61 = .ok (.iadd, 1) := by decide +kernel
theorem dX0_numberOf_62 : decode cX0_numberOf 62 = .ok (.iastore, 1) := by decide +kernel
theorem dX0_numberOf_63 : decode cX0_numberOf 63 = .ok (.iinc 6 1, 3) := by decide +kernel
theorem dX0_numberOf_66 : decode cX0_numberOf 66 = .ok (.goto (-56), 3) := by decide +kernel
theorem dX0_numberOf_69 : decode cX0_numberOf 69 = .ok (.lload 4, 2) := by decide +kernel
theorem dX0_numberOf_71 : decode cX0_numberOf 71 = .ok (.lreturn, 1) := by decide +kernel
theorem dX0_fillRow_0 : decode cX0_fillRow 0 = .ok (.aload_n 0, 1) := by decide +kernel
theorem dX0_fillRow_1 : decode cX0_fillRow 1 = .ok (.invokevirtual 27, 3) := by decide +kernel
theorem dX0_fillRow_4 : decode cX0_fillRow 4 = .ok (.lload 4, 2) := by decide +kernel
theorem dX0_fillRow_6 : decode cX0_fillRow 6 = .ok (.lstore 6, 2) := by decide +kernel
theorem dX0_fillRow_8 : decode cX0_fillRow 8 = .ok (.iconst 1, 1) := by decide +kernel
theorem dX0_fillRow_9 : decode cX0_fillRow 9 = .ok (.istore 8, 2) := by decide +kernel
theorem dX0_fillRow_11 : decode cX0_fillRow 11 = .ok (.iload 8, 2) := by decide +kernel
theorem dX0_fillRow_13 : decode cX0_fillRow 13 = .ok (.iload_n 3, 1) := by decide +kernel
theorem dX0_fillRow_14 : decode cX0_fillRow 14 = .ok (.if_icmp .gt 82, 3) := by decide +kernel
theorem dX0_fillRow_17 : decode cX0_fillRow 17 = .ok (.iconst 1, 1) := by decide +kernel
theorem dX0_fillRow_18 : decode cX0_fillRow 18 = .ok (.istore 9, 2) := by decide +kernel
theorem dX0_fillRow_20 : decode cX0_fillRow 20 = .ok (.aload_n 0, 1) := by decide +kernel
theorem dX0_fillRow_21 : decode cX0_fillRow 21 = .ok (.iload 9, 2) := by decide +kernel
theorem dX0_fillRow_23 : decode cX0_fillRow 23 = .ok (.iload_n 2, 1) := by decide +kernel
theorem dX0_fillRow_24 : decode cX0_fillRow 24 = .ok (.iload_n 3, 1) := by decide +kernel
theorem dX0_fillRow_25 : decode cX0_fillRow 25 = .ok (.iload 8, 2) := by decide +kernel
theorem dX0_fillRow_27 : decode cX0_fillRow 27 = .ok (.isub, 1) := by decide +kernel
theorem dX0_fillRow_28 : decode cX0_fillRow 28 = .ok (.invokevirtual 30, 3) := by decide +kernel
theorem dX0_fillRow_31 : decode cX0_fillRow 31 = .ok (.lstore 10, 2) := by decide +kernel
theorem dX0_fillRow_33 : decode cX0_fillRow 33 = .ok (.lload 6, 2) := by decide +kernel
theorem dX0_fillRow_35 : decode cX0_fillRow 35 = .ok (.lload 10, 2) := by decide +kernel
theorem dX0_fillRow_37 : decode cX0_fillRow 37 = .ok (.lcmp, 1) := by decide +kernel
theorem dX0_fillRow_38 : decode cX0_fillRow 38 = .ok (.ifCond .lt 35, 3) := by decide +kernel
theorem dX0_fillRow_41 : decode cX0_fillRow 41 = .ok (.iload 9, 2) := by decide +kernel
theorem dX0_fillRow_43 : decode cX0_fillRow 43 = .ok (.iload_n 2, 1) := by decide +kernel
theorem dX0_fillRow_44 : decode cX0_fillRow 44 = .ok (.if_icmp .ge 29, 3) := by decide +kernel
theorem dX0_fillRow_47 : decode cX0_fillRow 47 = .ok (.lload 6, 2) := by decide +kernel
theorem dX0_fillRow_49 : decode cX0_fillRow 49 = .ok (.lload 10, 2) := by decide +kernel
theorem dX0_fillRow_51 : decode cX0_fillRow 51 = .ok (.lsub, 1) := by decide +kernel
theorem dX0_fillRow_52 : decode cX0_fillRow 52 = .ok (.lstore 6, 2) := by decide +kernel
theorem dX0_fillRow_54 : decode cX0_fillRow 54 = .ok (.iinc 9 1, 3) := by decide +kernel
theorem dX0_fillRow_57 : decode cX0_fillRow 57 = .ok (.aload_n 0, 1) := by decide +kernel
theorem dX0_fillRow_58 : decode cX0_fillRow 58 = .ok (.iload 9, 2) := by decide +kernel
theorem dX0_fillRow_60 : decode cX0_fillRow 60 = .ok (.iload_n 2, 1) := by decide +kernel
theorem dX0_fillRow_61 : decode cX0_fillRow 61 = .ok (.iload_n 3, 1) := by decide +kernel
theorem dX0_fillRow_62 : decode cX0_fillRow 62 = .ok (.iload 8, 2) := by decide +kernel
theorem dX0_fillRow_64 : decode cX0_fillRow 64 = .ok (.isub, 1) := by decide +kernel
theorem dX0_fillRow_65 : decode cX0_fillRow 65 = .ok (.invokevirtual 30, 3) := by decide +kernel
theorem dX0_fillRow_68 : decode cX0_fillRow 68 = .ok (.lstore 10, 2) := by decide +kernel
theorem dX0_fillRow_70 : decode cX0_fillRow 70 = .ok (.goto (-37), 3) := by decide +kernel
theorem dX0_fillRow_73 : decode cX0_fillRow 73 = .ok (.aload_n 1, 1) := by decide +kernel
theorem dX0_fillRow_74 : decode cX0_fillRow 74 = .ok (.iload 8, 2) := by decide +kernel
theorem dX0_fillRow_76 : decode cX0_fillRow 76 = .ok (.iload 9, 2) := by decide +kernel
theorem dX0_fillRow_78 : decode cX0_fillRow 78 = .ok (.iastore, 1) := by decide +kernel
theorem dX0_fillRow_79 : decode cX0_fillRow 79 = .ok (.aload_n 0, 1) := by decide +kernel
theorem dX0_fillRow_80 : decode cX0_fillRow 80 = .ok (.getfield 9, 3) := by decide +kernel
theorem dX0_fillRow_83 : decode cX0_fillRow 83 = .ok (.iload 9, 2) := by decide +kernel
theorem dX0_fillRow_85 : decode cX0_fillRow 85 = .ok (.dup2, 1) := by decide +kernel
theorem dX0_fillRow_86 : decode cX0_fillRow 86 = .ok (.iaload, 1) := by decide +kernel
theorem dX0_fillRow_87 : decode cX0_fillRow 87 = .ok (.iconst 1, 1) := by decide +kernel
theorem dX0_fillRow_88 : decode cX0_fillRow 88 = .ok (.iadd, 1) := by decide +kernel
theorem dX0_fillRow_89 : decode cX0_fillRow 89 = .ok (.iastore, 1) := by decide +kernel
theorem dX0_fillRow_90 : decode cX0_fillRow 90 = .ok (.iinc 8 1, 3) := by decide +kernel
theorem dX0_fillRow_93 : decode cX0_fillRow 93 = .ok (.goto (-82), 3) := by decide +kernel
theorem dX0_fillRow_96 : decode cX0_fillRow 96 = .ok (.return_, 1) := by decide +kernel
theorem dX0_stepOn_0 : decode cX0_stepOn 0 = .ok (.iload_n 3, 1) := by decide +kernel
theorem dX0_stepOn_1 : decode cX0_stepOn 1 = .ok (.istore 4, 2) := by decide +kernel
theorem dX0_stepOn_3 : decode cX0_stepOn 3 = .ok (.iload 4, 2) := by decide +kernel
theorem dX0_stepOn_5 : decode cX0_stepOn 5 = .ok (.iconst 1, 1) := by decide +kernel
theorem dX0_stepOn_6 : decode cX0_stepOn 6 = .ok (.if_icmp .lt 53, 3) := by decide +kernel
theorem dX0_stepOn_9 : decode cX0_stepOn 9 = .ok (.aload_n 0, 1) := by decide +kernel
theorem dX0_stepOn_10 : decode cX0_stepOn 10 = .ok (.aload_n 1, 1) := by decide +kernel
theorem dX0_stepOn_11 : decode cX0_stepOn 11 = .ok (.iload_n 2, 1) := by decide +kernel
theorem dX0_stepOn_12 : decode cX0_stepOn 12 = .ok (.iload 4, 2) := by decide +kernel
theorem dX0_stepOn_14 : decode cX0_stepOn 14 = .ok (.invokevirtual 34, 3) := by decide +kernel
theorem dX0_stepOn_17 : decode cX0_stepOn 17 = .ok (.ifCond .eq 36, 3) := by decide +kernel
theorem dX0_stepOn_20 : decode cX0_stepOn 20 = .ok (.aload_n 1, 1) := by decide +kernel
theorem dX0_stepOn_21 : decode cX0_stepOn 21 = .ok (.iload 4, 2) := by decide +kernel
theorem dX0_stepOn_23 : decode cX0_stepOn 23 = .ok (.dup2, 1) := by decide +kernel
theorem dX0_stepOn_24 : decode cX0_stepOn 24 = .ok (.iaload, 1) := by decide +kernel
theorem dX0_stepOn_25 : decode cX0_stepOn 25 = .ok (.iconst 1, 1) := by decide +kernel
theorem dX0_stepOn_26 : decode cX0_stepOn 26 = .ok (.iadd, 1) := by decide +kernel
theorem dX0_stepOn_27 : decode cX0_stepOn 27 = .ok (.iastore, 1) := by decide +kernel
theorem dX0_stepOn_28 : decode cX0_stepOn 28 = .ok (.iload 4, 2) := by decide +kernel
theorem dX0_stepOn_30 : decode cX0_stepOn 30 = .ok (.iconst 1, 1) := by decide +kernel
theorem dX0_stepOn_31 : decode cX0_stepOn 31 = .ok (.iadd, 1) := by decide +kernel
theorem dX0_stepOn_32 : decode cX0_stepOn 32 = .ok (.istore 5, 2) := by decide +kernel
theorem dX0_stepOn_34 : decode cX0_stepOn 34 = .ok (.iload 5, 2) := by decide +kernel
theorem dX0_stepOn_36 : decode cX0_stepOn 36 = .ok (.iload_n 3, 1) := by decide +kernel
theorem dX0_stepOn_37 : decode cX0_stepOn 37 = .ok (.if_icmp .gt 14, 3) := by decide +kernel
theorem dX0_stepOn_40 : decode cX0_stepOn 40 = .ok (.aload_n 1, 1) := by decide +kernel
theorem dX0_stepOn_41 : decode cX0_stepOn 41 = .ok (.iload 5, 2) := by decide +kernel
theorem dX0_stepOn_43 : decode cX0_stepOn 43 = .ok (.iconst 1, 1) := by decide +kernel
theorem dX0_stepOn_44 : decode cX0_stepOn 44 = .ok (.iastore, 1) := by decide +kernel
theorem dX0_stepOn_45 : decode cX0_stepOn 45 = .ok (.iinc 5 1, 3) := by decide +kernel
theorem dX0_stepOn_48 : decode cX0_stepOn 48 = .ok (.goto (-14), 3) := by decide +kernel
theorem dX0_stepOn_51 : decode cX0_stepOn 51 = .ok (.iconst 1, 1) := by decide +kernel
theorem dX0_stepOn_52 : decode cX0_stepOn 52 = .ok (.ireturn, 1) := by decide +kernel
theorem dX0_stepOn_53 : decode cX0_stepOn 53 = .ok (.iinc 4 (-1), 3) := by decide +kernel
theorem dX0_stepOn_56 : decode cX0_stepOn 56 = .ok (.goto (-53), 3) := by decide +kernel
theorem dX0_stepOn_59 : decode cX0_stepOn 59 = .ok (.iconst 0, 1) := by decide +kernel
theorem dX0_stepOn_60 : decode cX0_stepOn 60 = .ok (.ireturn, 1) := by decide +kernel
theorem dX0_canWishOneMore_0 : decode cX0_canWishOneMore 0 = .ok (.iconst 1, 1) := by decide +kernel
theorem dX0_canWishOneMore_1 : decode cX0_canWishOneMore 1 = .ok (.istore 4, 2) := by decide +kernel
theorem dX0_canWishOneMore_3 : decode cX0_canWishOneMore 3 = .ok (.iconst 1, 1) := by decide +kernel
theorem dX0_canWishOneMore_4 : decode cX0_canWishOneMore 4 = .ok (.istore 5, 2) := by decide +kernel
theorem dX0_canWishOneMore_6 : decode cX0_canWishOneMore 6 = .ok (.iload 5, 2) := by decide +kernel
theorem dX0_canWishOneMore_8 : decode cX0_canWishOneMore 8 = .ok (.iload_n 3, 1) := by decide +kernel
theorem dX0_canWishOneMore_9 : decode cX0_canWishOneMore 9 = .ok (.if_icmp .ge 22, 3) := by decide +kernel
theorem dX0_canWishOneMore_12 : decode cX0_canWishOneMore 12 = .ok (.aload_n 1, 1) := by decide +kernel
theorem dX0_canWishOneMore_13 : decode cX0_canWishOneMore 13 = .ok (.iload 5, 2) := by decide +kernel
theorem dX0_canWishOneMore_15 : decode cX0_canWishOneMore 15 = .ok (.iaload, 1) := by decide +kernel
theorem dX0_canWishOneMore_16 : decode cX0_canWishOneMore 16 = .ok (.aload_n 1, 1) := by decide +kernel
theorem dX0_canWishOneMore_17 : decode cX0_canWishOneMore 17 = .ok (.iload_n 3, 1) := by decide +kernel
theorem dX0_canWishOneMore_18 : decode cX0_canWishOneMore 18 = .ok (.iaload, 1) := by decide +kernel
theorem dX0_canWishOneMore_19 : decode cX0_canWishOneMore 19 = .ok (.if_icmp .le 6, 3) := by decide +kernel
theorem dX0_canWishOneMore_22 : decode cX0_canWishOneMore 22 = .ok (.iinc 4 1, 3) := by decide +kernel
theorem dX0_canWishOneMore_25 : decode cX0_canWishOneMore 25 = .ok (.iinc 5 1, 3) := by decide +kernel
theorem dX0_canWishOneMore_28 : decode cX0_canWishOneMore 28 = .ok (.goto (-22), 3) := by decide +kernel
theorem dX0_canWishOneMore_31 : decode cX0_canWishOneMore 31 = .ok (.iload 4, 2) := by decide +kernel
theorem dX0_canWishOneMore_33 : decode cX0_canWishOneMore 33 = .ok (.iload_n 2, 1) := by decide +kernel
theorem dX0_canWishOneMore_34 : decode cX0_canWishOneMore 34 = .ok (.aload_n 1, 1) := by decide +kernel
theorem dX0_canWishOneMore_35 : decode cX0_canWishOneMore 35 = .ok (.iload_n 3, 1) := by decide +kernel
theorem dX0_canWishOneMore_36 : decode cX0_canWishOneMore 36 = .ok (.iaload, 1) := by decide +kernel
theorem dX0_canWishOneMore_37 : decode cX0_canWishOneMore 37 = .ok (.isub, 1) := by decide +kernel
theorem dX0_canWishOneMore_38 : decode cX0_canWishOneMore 38 = .ok (.if_icmp .gt 7, 3) := by decide +kernel
theorem dX0_canWishOneMore_41 : decode cX0_canWishOneMore 41 = .ok (.iconst 1, 1) := by decide +kernel
theorem dX0_canWishOneMore_42 : decode cX0_canWishOneMore 42 = .ok (.goto 4, 3) := by decide +kernel
theorem dX0_canWishOneMore_45 : decode cX0_canWishOneMore 45 = .ok (.iconst 0, 1) := by decide +kernel
theorem dX0_canWishOneMore_46 : decode cX0_canWishOneMore 46 = .ok (.ireturn, 1) := by decide +kernel
theorem dX0_forgetWishers_0 : decode cX0_forgetWishers 0 = .ok (.iconst 0, 1) := by decide +kernel
theorem dX0_forgetWishers_1 : decode cX0_forgetWishers 1 = .ok (.istore_n 1, 1) := by decide +kernel
theorem dX0_forgetWishers_2 : decode cX0_forgetWishers 2 = .ok (.iload_n 1, 1) := by decide +kernel
theorem dX0_forgetWishers_3 : decode cX0_forgetWishers 3 = .ok (.bipush 10, 2) := by decide +kernel
theorem dX0_forgetWishers_5 : decode cX0_forgetWishers 5 = .ok (.if_icmp .gt 16, 3) := by decide +kernel
theorem dX0_forgetWishers_8 : decode cX0_forgetWishers 8 = .ok (.aload_n 0, 1) := by decide +kernel
theorem dX0_forgetWishers_9 : decode cX0_forgetWishers 9 = .ok (.getfield 9, 3) := by decide +kernel
theorem dX0_forgetWishers_12 : decode cX0_forgetWishers 12 = .ok (.iload_n 1, 1) := by decide +kernel
theorem dX0_forgetWishers_13 : decode cX0_forgetWishers 13 = .ok (.iconst 0, 1) := by decide +kernel
theorem dX0_forgetWishers_14 : decode cX0_forgetWishers 14 = .ok (.iastore, 1) := by decide +kernel
theorem dX0_forgetWishers_15 : decode cX0_forgetWishers 15 = .ok (.iinc 1 1, 3) := by decide +kernel
theorem dX0_forgetWishers_18 : decode cX0_forgetWishers 18 = .ok (.goto (-16), 3) := by decide +kernel
theorem dX0_forgetWishers_21 : decode cX0_forgetWishers 21 = .ok (.return_, 1) := by decide +kernel
theorem dX0_rowsWith_0 : decode cX0_rowsWith 0 = .ok (.aload_n 0, 1) := by decide +kernel
theorem dX0_rowsWith_1 : decode cX0_rowsWith 1 = .ok (.getfield 9, 3) := by decide +kernel
theorem dX0_rowsWith_4 : decode cX0_rowsWith 4 = .ok (.iload_n 1, 1) := by decide +kernel
theorem dX0_rowsWith_5 : decode cX0_rowsWith 5 = .ok (.dup2, 1) := by decide +kernel
theorem dX0_rowsWith_6 : decode cX0_rowsWith 6 = .ok (.iaload, 1) := by decide +kernel
theorem dX0_rowsWith_7 : decode cX0_rowsWith 7 = .ok (.iconst 1, 1) := by decide +kernel
theorem dX0_rowsWith_8 : decode cX0_rowsWith 8 = .ok (.iadd, 1) := by decide +kernel
theorem dX0_rowsWith_9 : decode cX0_rowsWith 9 = .ok (.iastore, 1) := by decide +kernel
theorem dX0_rowsWith_10 : decode cX0_rowsWith 10 = .ok (.aload_n 0, 1) := by decide +kernel
theorem dX0_rowsWith_11 : decode cX0_rowsWith 11 = .ok (.iload_n 2, 1) := by decide +kernel
theorem dX0_rowsWith_12 : decode cX0_rowsWith 12 = .ok (.iload_n 3, 1) := by decide +kernel
theorem dX0_rowsWith_13 : decode cX0_rowsWith 13 = .ok (.invokevirtual 38, 3) := by decide +kernel
theorem dX0_rowsWith_16 : decode cX0_rowsWith 16 = .ok (.lstore 4, 2) := by decide +kernel
theorem dX0_rowsWith_18 : decode cX0_rowsWith 18 = .ok (.aload_n 0, 1) := by decide +kernel
theorem dX0_rowsWith_19 : decode cX0_rowsWith 19 = .ok (.getfield 9, 3) := by decide +kernel
theorem dX0_rowsWith_22 : decode cX0_rowsWith 22 = .ok (.iload_n 1, 1) := by decide +kernel
theorem dX0_rowsWith_23 : decode cX0_rowsWith 23 = .ok (.dup2, 1) := by decide +kernel
theorem dX0_rowsWith_24 : decode cX0_rowsWith 24 = .ok (.iaload, 1) := by decide +kernel
theorem dX0_rowsWith_25 : decode cX0_rowsWith 25 = .ok (.iconst 1, 1) := by decide +kernel
theorem dX0_rowsWith_26 : decode cX0_rowsWith 26 = .ok (.isub, 1) := by decide +kernel
theorem dX0_rowsWith_27 : decode cX0_rowsWith 27 = .ok (.iastore, 1) := by decide +kernel
theorem dX0_rowsWith_28 : decode cX0_rowsWith 28 = .ok (.lload 4, 2) := by decide +kernel
theorem dX0_rowsWith_30 : decode cX0_rowsWith 30 = .ok (.lreturn, 1) := by decide +kernel
theorem dX0_endings_0 : decode cX0_endings 0 = .ok (.iconst 1, 1) := by decide +kernel
theorem dX0_endings_1 : decode cX0_endings 1 = .ok (.istore_n 3, 1) := by decide +kernel
theorem dX0_endings_2 : decode cX0_endings 2 = .ok (.iload_n 3, 1) := by decide +kernel
theorem dX0_endings_3 : decode cX0_endings 3 = .ok (.iload_n 2, 1) := by decide +kernel
theorem dX0_endings_4 : decode cX0_endings 4 = .ok (.if_icmp .gt 16, 3) := by decide +kernel
theorem dX0_endings_7 : decode cX0_endings 7 = .ok (.aload_n 0, 1) := by decide +kernel
theorem dX0_endings_8 : decode cX0_endings 8 = .ok (.getfield 15, 3) := by decide +kernel
theorem dX0_endings_11 : decode cX0_endings 11 = .ok (.iload_n 3, 1) := by decide +kernel
theorem dX0_endings_12 : decode cX0_endings 12 = .ok (.lconst 0, 1) := by decide +kernel
theorem dX0_endings_13 : decode cX0_endings 13 = .ok (.lastore, 1) := by decide +kernel
theorem dX0_endings_14 : decode cX0_endings 14 = .ok (.iinc 3 1, 3) := by decide +kernel
theorem dX0_endings_17 : decode cX0_endings 17 = .ok (.goto (-15), 3) := by decide +kernel
theorem dX0_endings_20 : decode cX0_endings 20 = .ok (.aload_n 0, 1) := by decide +kernel
theorem dX0_endings_21 : decode cX0_endings 21 = .ok (.getfield 15, 3) := by decide +kernel
theorem dX0_endings_24 : decode cX0_endings 24 = .ok (.iconst 0, 1) := by decide +kernel
theorem dX0_endings_25 : decode cX0_endings 25 = .ok (.lconst 1, 1) := by decide +kernel
theorem dX0_endings_26 : decode cX0_endings 26 = .ok (.lastore, 1) := by decide +kernel
theorem dX0_endings_27 : decode cX0_endings 27 = .ok (.iconst 0, 1) := by decide +kernel
theorem dX0_endings_28 : decode cX0_endings 28 = .ok (.istore_n 3, 1) := by decide +kernel
theorem dX0_endings_29 : decode cX0_endings 29 = .ok (.iload_n 1, 1) := by decide +kernel
theorem dX0_endings_30 : decode cX0_endings 30 = .ok (.istore 4, 2) := by decide +kernel
theorem dX0_endings_32 : decode cX0_endings 32 = .ok (.iload 4, 2) := by decide +kernel
theorem dX0_endings_34 : decode cX0_endings 34 = .ok (.iconst 1, 1) := by decide +kernel
theorem dX0_endings_35 : decode cX0_endings 35 = .ok (.if_icmp .lt 59, 3) := by decide +kernel
theorem dX0_endings_38 : decode cX0_endings 38 = .ok (.iload_n 3, 1) := by decide +kernel
theorem dX0_endings_39 : decode cX0_endings 39 = .ok (.iconst 1, 1) := by decide +kernel
theorem dX0_endings_40 : decode cX0_endings 40 = .ok (.aload_n 0, 1) := by decide +kernel
theorem dX0_endings_41 : decode cX0_endings 41 = .ok (.getfield 9, 3) := by decide +kernel
theorem dX0_endings_44 : decode cX0_endings 44 = .ok (.iload 4, 2) := by decide +kernel
theorem dX0_endings_46 : decode cX0_endings 46 = .ok (.iaload, 1) := by decide +kernel
theorem dX0_endings_47 : decode cX0_endings 47 = .ok (.isub, 1) := by decide +kernel
theorem dX0_endings_48 : decode cX0_endings 48 = .ok (.iadd, 1) := by decide +kernel
theorem dX0_endings_49 : decode cX0_endings 49 = .ok (.istore_n 3, 1) := by decide +kernel
theorem dX0_endings_50 : decode cX0_endings 50 = .ok (.iload_n 2, 1) := by decide +kernel
theorem dX0_endings_51 : decode cX0_endings 51 = .ok (.istore 5, 2) := by decide +kernel
theorem dX0_endings_53 : decode cX0_endings 53 = .ok (.iload 5, 2) := by decide +kernel
theorem dX0_endings_55 : decode cX0_endings 55 = .ok (.ifCond .lt 33, 3) := by decide +kernel
theorem dX0_endings_58 : decode cX0_endings 58 = .ok (.aload_n 0, 1) := by decide +kernel
theorem dX0_endings_59 : decode cX0_endings 59 = .ok (.getfield 15, 3) := by decide +kernel
theorem dX0_endings_62 : decode cX0_endings 62 = .ok (.iload 5, 2) := by decide +kernel
theorem dX0_endings_64 : decode cX0_endings 64 = .ok (.iload 5, 2) := by decide +kernel
theorem dX0_endings_66 : decode cX0_endings 66 = .ok (.iload_n 3, 1) := by decide +kernel
theorem dX0_endings_67 : decode cX0_endings 67 = .ok (.if_icmp .le 7, 3) := by decide +kernel
theorem dX0_endings_70 : decode cX0_endings 70 = .ok (.lconst 0, 1) := by decide +kernel
theorem dX0_endings_71 : decode cX0_endings 71 = .ok (.goto 10, 3) := by decide +kernel
theorem dX0_endings_74 : decode cX0_endings 74 = .ok (.aload_n 0, 1) := by decide +kernel
theorem dX0_endings_75 : decode cX0_endings 75 = .ok (.iload 5, 2) := by decide +kernel
theorem dX0_endings_77 : decode cX0_endings 77 = .ok (.iload_n 2, 1) := by decide +kernel
theorem dX0_endings_78 : decode cX0_endings 78 = .ok (.invokevirtual 42, 3) := by decide +kernel
theorem dX0_endings_81 : decode cX0_endings 81 = .ok (.lastore, 1) := by decide +kernel
theorem dX0_endings_82 : decode cX0_endings 82 = .ok (.iinc 5 (-1), 3) := by decide +kernel
theorem dX0_endings_85 : decode cX0_endings 85 = .ok (.goto (-32), 3) := by decide +kernel
theorem dX0_endings_88 : decode cX0_endings 88 = .ok (.iinc 4 (-1), 3) := by decide +kernel
theorem dX0_endings_91 : decode cX0_endings 91 = .ok (.goto (-59), 3) := by decide +kernel
theorem dX0_endings_94 : decode cX0_endings 94 = .ok (.aload_n 0, 1) := by decide +kernel
theorem dX0_endings_95 : decode cX0_endings 95 = .ok (.getfield 15, 3) := by decide +kernel
theorem dX0_endings_98 : decode cX0_endings 98 = .ok (.iload_n 2, 1) := by decide +kernel
theorem dX0_endings_99 : decode cX0_endings 99 = .ok (.laload, 1) := by decide +kernel
theorem dX0_endings_100 : decode cX0_endings 100 = .ok (.lreturn, 1) := by decide +kernel
theorem dX0_wishHere_0 : decode cX0_wishHere 0 = .ok (.lconst 0, 1) := by decide +kernel
theorem dX0_wishHere_1 : decode cX0_wishHere 1 = .ok (.lstore_n 3, 1) := by decide +kernel
theorem dX0_wishHere_2 : decode cX0_wishHere 2 = .ok (.iconst 0, 1) := by decide +kernel
theorem dX0_wishHere_3 : decode cX0_wishHere 3 = .ok (.istore 5, 2) := by decide +kernel
theorem dX0_wishHere_5 : decode cX0_wishHere 5 = .ok (.iload 5, 2) := by decide +kernel
theorem dX0_wishHere_7 : decode cX0_wishHere 7 = .ok (.iload_n 1, 1) := by decide +kernel
theorem dX0_wishHere_8 : decode cX0_wishHere 8 = .ok (.if_icmp .gt 36, 3) := by decide +kernel
theorem dX0_wishHere_11 : decode cX0_wishHere 11 = .ok (.lload_n 3, 1) := by decide +kernel
theorem dX0_wishHere_12 : decode cX0_wishHere 12 = .ok (.aload_n 0, 1) := by decide +kernel
theorem dX0_wishHere_13 : decode cX0_wishHere 13 = .ok (.getfield 15, 3) := by decide +kernel
theorem dX0_wishHere_16 : decode cX0_wishHere 16 = .ok (.iload 5, 2) := by decide +kernel
theorem dX0_wishHere_18 : decode cX0_wishHere 18 = .ok (.laload, 1) := by decide +kernel
theorem dX0_wishHere_19 : decode cX0_wishHere 19 = .ok (.aload_n 0, 1) := by decide +kernel
theorem dX0_wishHere_20 : decode cX0_wishHere 20 = .ok (.getfield 19, 3) := by decide +kernel
theorem dX0_wishHere_23 : decode cX0_wishHere 23 = .ok (.iload_n 2, 1) := by decide +kernel
theorem dX0_wishHere_24 : decode cX0_wishHere 24 = .ok (.iload 5, 2) := by decide +kernel
theorem dX0_wishHere_26 : decode cX0_wishHere 26 = .ok (.isub, 1) := by decide +kernel
theorem dX0_wishHere_27 : decode cX0_wishHere 27 = .ok (.iload_n 1, 1) := by decide +kernel
theorem dX0_wishHere_28 : decode cX0_wishHere 28 = .ok (.iload 5, 2) := by decide +kernel
theorem dX0_wishHere_30 : decode cX0_wishHere 30 = .ok (.isub, 1) := by decide +kernel
theorem dX0_wishHere_31 : decode cX0_wishHere 31 = .ok (.invokevirtual 45, 3) := by decide +kernel
theorem dX0_wishHere_34 : decode cX0_wishHere 34 = .ok (.i2l, 1) := by decide +kernel
theorem dX0_wishHere_35 : decode cX0_wishHere 35 = .ok (.lmul, 1) := by decide +kernel
theorem dX0_wishHere_36 : decode cX0_wishHere 36 = .ok (.ladd, 1) := by decide +kernel
theorem dX0_wishHere_37 : decode cX0_wishHere 37 = .ok (.lstore_n 3, 1) := by decide +kernel
theorem dX0_wishHere_38 : decode cX0_wishHere 38 = .ok (.iinc 5 1, 3) := by decide +kernel
theorem dX0_wishHere_41 : decode cX0_wishHere 41 = .ok (.goto (-36), 3) := by decide +kernel
theorem dX0_wishHere_44 : decode cX0_wishHere 44 = .ok (.lload_n 3, 1) := by decide +kernel
theorem dX0_wishHere_45 : decode cX0_wishHere 45 = .ok (.lreturn, 1) := by decide +kernel
theorem dX1_init_0 : decode cX1_init 0 = .ok (.aload_n 0, 1) := by decide +kernel
theorem dX1_init_1 : decode cX1_init 1 = .ok (.invokespecial 3, 3) := by decide +kernel
theorem dX1_init_4 : decode cX1_init 4 = .ok (.aload_n 0, 1) := by decide +kernel
theorem dX1_init_5 : decode cX1_init 5 = .ok (.bipush 11, 2) := by decide +kernel
theorem dX1_init_7 : decode cX1_init 7 = .ok (.bipush 11, 2) := by decide +kernel
theorem dX1_init_9 : decode cX1_init 9 = .ok (.multianewarray 9 2, 4) := by decide +kernel
theorem dX1_init_13 : decode cX1_init 13 = .ok (.putfield 11, 3) := by decide +kernel
theorem dX1_init_16 : decode cX1_init 16 = .ok (.iconst 0, 1) := by decide +kernel
theorem dX1_init_17 : decode cX1_init 17 = .ok (.istore_n 1, 1) := by decide +kernel
theorem dX1_init_18 : decode cX1_init 18 = .ok (.iload_n 1, 1) := by decide +kernel
theorem dX1_init_19 : decode cX1_init 19 = .ok (.bipush 10, 2) := by decide +kernel
theorem dX1_init_21 : decode cX1_init 21 = .ok (.if_icmp .gt 62, 3) := by decide +kernel
theorem dX1_init_24 : decode cX1_init 24 = .ok (.aload_n 0, 1) := by decide +kernel
theorem dX1_init_25 : decode cX1_init 25 = .ok (.getfield 11, 3) := by decide +kernel
theorem dX1_init_28 : decode cX1_init 28 = .ok (.iload_n 1, 1) := by decide +kernel
theorem dX1_init_29 : decode cX1_init 29 = .ok (.aaload, 1) := by decide +kernel
theorem dX1_init_30 : decode cX1_init 30 = .ok (.iconst 0, 1) := by decide +kernel
theorem dX1_init_31 : decode cX1_init 31 = .ok (.iconst 1, 1) := by decide +kernel
theorem dX1_init_32 : decode cX1_init 32 = .ok (.iastore, 1) := by decide +kernel
theorem dX1_init_33 : decode cX1_init 33 = .ok (.iconst 1, 1) := by decide +kernel
theorem dX1_init_34 : decode cX1_init 34 = .ok (.istore_n 2, 1) := by decide +kernel
theorem dX1_init_35 : decode cX1_init 35 = .ok (.iload_n 2, 1) := by decide +kernel
theorem dX1_init_36 : decode cX1_init 36 = .ok (.iload_n 1, 1) := by decide +kernel
theorem dX1_init_37 : decode cX1_init 37 = .ok (.if_icmp .gt 40, 3) := by decide +kernel
theorem dX1_init_40 : decode cX1_init 40 = .ok (.aload_n 0, 1) := by decide +kernel
theorem dX1_init_41 : decode cX1_init 41 = .ok (.getfield 11, 3) := by decide +kernel
theorem dX1_init_44 : decode cX1_init 44 = .ok (.iload_n 1, 1) := by decide +kernel
theorem dX1_init_45 : decode cX1_init 45 = .ok (.aaload, 1) := by decide +kernel
theorem dX1_init_46 : decode cX1_init 46 = .ok (.iload_n 2, 1) := by decide +kernel
theorem dX1_init_47 : decode cX1_init 47 = .ok (.aload_n 0, 1) := by decide +kernel
theorem dX1_init_48 : decode cX1_init 48 = .ok (.getfield 11, 3) := by decide +kernel
theorem dX1_init_51 : decode cX1_init 51 = .ok (.iload_n 1, 1) := by decide +kernel
theorem dX1_init_52 : decode cX1_init 52 = .ok (.iconst 1, 1) := by decide +kernel
theorem dX1_init_53 : decode cX1_init 53 = .ok (.isub, 1) := by decide +kernel
theorem dX1_init_54 : decode cX1_init 54 = .ok (.aaload, 1) := by decide +kernel
theorem dX1_init_55 : decode cX1_init 55 = .ok (.iload_n 2, 1) := by decide +kernel
theorem dX1_init_56 : decode cX1_init 56 = .ok (.iconst 1, 1) := by decide +kernel
theorem dX1_init_57 : decode cX1_init 57 = .ok (.isub, 1) := by decide +kernel
theorem dX1_init_58 : decode cX1_init 58 = .ok (.iaload, 1) := by decide +kernel
theorem dX1_init_59 : decode cX1_init 59 = .ok (.aload_n 0, 1) := by decide +kernel
theorem dX1_init_60 : decode cX1_init 60 = .ok (.getfield 11, 3) := by decide +kernel
theorem dX1_init_63 : decode cX1_init 63 = .ok (.iload_n 1, 1) := by decide +kernel
theorem dX1_init_64 : decode cX1_init 64 = .ok (.iconst 1, 1) := by decide +kernel
theorem dX1_init_65 : decode cX1_init 65 = .ok (.isub, 1) := by decide +kernel
theorem dX1_init_66 : decode cX1_init 66 = .ok (.aaload, 1) := by decide +kernel
theorem dX1_init_67 : decode cX1_init 67 = .ok (.iload_n 2, 1) := by decide +kernel
theorem dX1_init_68 : decode cX1_init 68 = .ok (.iaload, 1) := by decide +kernel
theorem dX1_init_69 : decode cX1_init 69 = .ok (.iadd, 1) := by decide +kernel
theorem dX1_init_70 : decode cX1_init 70 = .ok (.iastore, 1) := by decide +kernel
theorem dX1_init_71 : decode cX1_init 71 = .ok (.iinc 2 1, 3) := by decide +kernel
theorem dX1_init_74 : decode cX1_init 74 = .ok (.goto (-39), 3) := by decide +kernel
theorem dX1_init_77 : decode cX1_init 77 = .ok (.iinc 1 1, 3) := by decide +kernel
theorem dX1_init_80 : decode cX1_init 80 = .ok (.goto (-62), 3) := by decide +kernel
theorem dX1_init_83 : decode cX1_init 83 = .ok (.return_, 1) := by decide +kernel
theorem dX1_of_0 : decode cX1_of 0 = .ok (.iload_n 2, 1) := by decide +kernel
theorem dX1_of_1 : decode cX1_of 1 = .ok (.ifCond .lt 14, 3) := by decide +kernel
theorem dX1_of_4 : decode cX1_of 4 = .ok (.iload_n 2, 1) := by decide +kernel
theorem dX1_of_5 : decode cX1_of 5 = .ok (.iload_n 1, 1) := by decide +kernel
theorem dX1_of_6 : decode cX1_of 6 = .ok (.if_icmp .gt 9, 3) := by decide +kernel
theorem dX1_of_9 : decode cX1_of 9 = .ok (.iload_n 1, 1) := by decide +kernel
theorem dX1_of_10 : decode cX1_of 10 = .ok (.bipush 10, 2) := by decide +kernel
theorem dX1_of_12 : decode cX1_of 12 = .ok (.if_icmp .le 7, 3) := by decide +kernel
theorem dX1_of_15 : decode cX1_of 15 = .ok (.iconst 0, 1) := by decide +kernel
theorem dX1_of_16 : decode cX1_of 16 = .ok (.goto 11, 3) := by decide +kernel
theorem dX1_of_19 : decode cX1_of 19 = .ok (.aload_n 0, 1) := by decide +kernel
theorem dX1_of_20 : decode cX1_of 20 = .ok (.getfield 11, 3) := by decide +kernel
theorem dX1_of_23 : decode cX1_of 23 = .ok (.iload_n 1, 1) := by decide +kernel
theorem dX1_of_24 : decode cX1_of 24 = .ok (.aaload, 1) := by decide +kernel
theorem dX1_of_25 : decode cX1_of 25 = .ok (.iload_n 2, 1) := by decide +kernel
theorem dX1_of_26 : decode cX1_of 26 = .ok (.iaload, 1) := by decide +kernel
theorem dX1_of_27 : decode cX1_of 27 = .ok (.ireturn, 1) := by decide +kernel
theorem dX2_init_0 : decode cX2_init 0 = .ok (.aload_n 0, 1) := by decide +kernel
theorem dX2_init_1 : decode cX2_init 1 = .ok (.invokespecial 3, 3) := by decide +kernel
theorem dX2_init_4 : decode cX2_init 4 = .ok (.aload_n 0, 1) := by decide +kernel
theorem dX2_init_5 : decode cX2_init 5 = .ok (.sipush 1024, 3) := by decide +kernel
theorem dX2_init_8 : decode cX2_init 8 = .ok (.newarray .int, 2) := by decide +kernel
theorem dX2_init_10 : decode cX2_init 10 = .ok (.putfield 9, 3) := by decide +kernel
theorem dX2_init_13 : decode cX2_init 13 = .ok (.return_, 1) := by decide +kernel
theorem dX2_goodRows_0 : decode cX2_goodRows 0 = .ok (.iconst 1, 1) := by decide +kernel
theorem dX2_goodRows_1 : decode cX2_goodRows 1 = .ok (.aload_n 1, 1) := by decide +kernel
theorem dX2_goodRows_2 : decode cX2_goodRows 2 = .ok (.getfield 15, 3) := by decide +kernel
theorem dX2_goodRows_5 : decode cX2_goodRows 5 = .ok (.ishl, 1) := by decide +kernel
theorem dX2_goodRows_6 : decode cX2_goodRows 6 = .ok (.istore_n 2, 1) := by decide +kernel
theorem dX2_goodRows_7 : decode cX2_goodRows 7 = .ok (.iconst 0, 1) := by decide +kernel
theorem dX2_goodRows_8 : decode cX2_goodRows 8 = .ok (.istore_n 3, 1) := by decide +kernel
theorem dX2_goodRows_9 : decode cX2_goodRows 9 = .ok (.iload_n 3, 1) := by decide +kernel
theorem dX2_goodRows_10 : decode cX2_goodRows 10 = .ok (.iload_n 2, 1) := by decide +kernel
theorem dX2_goodRows_11 : decode cX2_goodRows 11 = .ok (.if_icmp .ge 16, 3) := by decide +kernel
theorem dX2_goodRows_14 : decode cX2_goodRows 14 = .ok (.aload_n 0, 1) := by decide +kernel
theorem dX2_goodRows_15 : decode cX2_goodRows 15 = .ok (.getfield 9, 3) := by decide +kernel
theorem dX2_goodRows_18 : decode cX2_goodRows 18 = .ok (.iload_n 3, 1) := by decide +kernel
theorem dX2_goodRows_19 : decode cX2_goodRows 19 = .ok (.iconst 0, 1) := by decide +kernel
theorem dX2_goodRows_20 : decode cX2_goodRows 20 = .ok (.iastore, 1) := by decide +kernel
theorem dX2_goodRows_21 : decode cX2_goodRows 21 = .ok (.iinc 3 1, 3) := by decide +kernel
theorem dX2_goodRows_24 : decode cX2_goodRows 24 = .ok (.goto (-15), 3) := by decide +kernel
theorem dX2_goodRows_27 : decode cX2_goodRows 27 = .ok (.aload_n 0, 1) := by decide +kernel
theorem dX2_goodRows_28 : decode cX2_goodRows 28 = .ok (.getfield 9, 3) := by decide +kernel
theorem dX2_goodRows_31 : decode cX2_goodRows 31 = .ok (.iconst 0, 1) := by decide +kernel
theorem dX2_goodRows_32 : decode cX2_goodRows 32 = .ok (.iconst 1, 1) := by decide +kernel
theorem dX2_goodRows_33 : decode cX2_goodRows 33 = .ok (.iastore, 1) := by decide +kernel
theorem dX2_goodRows_34 : decode cX2_goodRows 34 = .ok (.iconst 1, 1) := by decide +kernel
theorem dX2_goodRows_35 : decode cX2_goodRows 35 = .ok (.istore_n 3, 1) := by decide +kernel
theorem dX2_goodRows_36 : decode cX2_goodRows 36 = .ok (.iload_n 3, 1) := by decide +kernel
theorem dX2_goodRows_37 : decode cX2_goodRows 37 = .ok (.aload_n 1, 1) := by decide +kernel
theorem dX2_goodRows_38 : decode cX2_goodRows 38 = .ok (.getfield 21, 3) := by decide +kernel
theorem dX2_goodRows_41 : decode cX2_goodRows 41 = .ok (.if_icmp .gt 48, 3) := by decide +kernel
theorem dX2_goodRows_44 : decode cX2_goodRows 44 = .ok (.iload_n 2, 1) := by decide +kernel
theorem dX2_goodRows_45 : decode cX2_goodRows 45 = .ok (.iconst 1, 1) := by decide +kernel
theorem dX2_goodRows_46 : decode cX2_goodRows 46 = .ok (.isub, 1) := by decide +kernel
theorem dX2_goodRows_47 : decode cX2_goodRows 47 = .ok (.istore 4, 2) := by decide +kernel
theorem dX2_goodRows_49 : decode cX2_goodRows 49 = .ok (.iload 4, 2) := by decide +kernel
theorem dX2_goodRows_51 : decode cX2_goodRows 51 = .ok (.ifCond .lt 32, 3) := by decide +kernel
theorem dX2_goodRows_54 : decode cX2_goodRows 54 = .ok (.aload_n 0, 1) := by decide +kernel
theorem dX2_goodRows_55 : decode cX2_goodRows 55 = .ok (.getfield 9, 3) := by decide +kernel
theorem dX2_goodRows_58 : decode cX2_goodRows 58 = .ok (.iload 4, 2) := by decide +kernel
theorem dX2_goodRows_60 : decode cX2_goodRows 60 = .ok (.iaload, 1) := by decide +kernel
theorem dX2_goodRows_61 : decode cX2_goodRows 61 = .ok (.ifCond .eq 16, 3) := by decide +kernel
theorem dX2_goodRows_64 : decode cX2_goodRows 64 = .ok (.aload_n 0, 1) := by decide +kernel
theorem dX2_goodRows_65 : decode cX2_goodRows 65 = .ok (.aload_n 1, 1) := by decide +kernel
theorem dX2_goodRows_66 : decode cX2_goodRows 66 = .ok (.iload 4, 2) := by decide +kernel
theorem dX2_goodRows_68 : decode cX2_goodRows 68 = .ok (.aload_n 1, 1) := by decide +kernel
theorem dX2_goodRows_69 : decode cX2_goodRows 69 = .ok (.getfield 24, 3) := by decide +kernel
theorem dX2_goodRows_72 : decode cX2_goodRows 72 = .ok (.iload_n 3, 1) := by decide +kernel
theorem dX2_goodRows_73 : decode cX2_goodRows 73 = .ok (.iaload, 1) := by decide +kernel
theorem dX2_goodRows_74 : decode cX2_goodRows 74 = .ok (.invokevirtual 27, 3) := by decide +kernel
theorem dX2_goodRows_77 : decode cX2_goodRows 77 = .ok (.iinc 4 (-1), 3) := by decide +kernel
theorem dX2_goodRows_80 : decode cX2_goodRows 80 = .ok (.goto (-31), 3) := by decide +kernel
theorem dX2_goodRows_83 : decode cX2_goodRows 83 = .ok (.iinc 3 1, 3) := by decide +kernel
theorem dX2_goodRows_86 : decode cX2_goodRows 86 = .ok (.goto (-50), 3) := by decide +kernel
theorem dX2_goodRows_89 : decode cX2_goodRows 89 = .ok (.iconst 0, 1) := by decide +kernel
theorem dX2_goodRows_90 : decode cX2_goodRows 90 = .ok (.istore_n 3, 1) := by decide +kernel
theorem dX2_goodRows_91 : decode cX2_goodRows 91 = .ok (.iconst 0, 1) := by decide +kernel
theorem dX2_goodRows_92 : decode cX2_goodRows 92 = .ok (.istore 4, 2) := by decide +kernel
theorem dX2_goodRows_94 : decode cX2_goodRows 94 = .ok (.iload 4, 2) := by decide +kernel
theorem dX2_goodRows_96 : decode cX2_goodRows 96 = .ok (.iload_n 2, 1) := by decide +kernel
theorem dX2_goodRows_97 : decode cX2_goodRows 97 = .ok (.if_icmp .ge 19, 3) := by decide +kernel
theorem dX2_goodRows_100 : decode cX2_goodRows 100 = .ok (.iload_n 3, 1) := by decide +kernel
theorem dX2_goodRows_101 : decode cX2_goodRows 101 = .ok (.aload_n 0, 1) := by decide +kernel
theorem dX2_goodRows_102 : decode cX2_goodRows 102 = .ok (.getfield 9, 3) := by decide +kernel
theorem dX2_goodRows_105 : decode cX2_goodRows 105 = .ok (.iload 4, 2) := by decide +kernel
theorem dX2_goodRows_107 : decode cX2_goodRows 107 = .ok (.iaload, 1) := by decide +kernel
theorem dX2_goodRows_108 : decode cX2_goodRows 108 = .ok (.iadd, 1) := by decide +kernel
theorem dX2_goodRows_109 : decode cX2_goodRows 109 = .ok (.istore_n 3, 1) := by decide +kernel
theorem dX2_goodRows_110 : decode cX2_goodRows 110 = .ok (.iinc 4 1, 3) := by decide +kernel
theorem dX2_goodRows_113 : decode cX2_goodRows 113 = .ok (.goto (-19), 3) := by decide +kernel
theorem dX2_goodRows_116 : decode cX2_goodRows 116 = .ok (.iload_n 3, 1) := by decide +kernel
theorem dX2_goodRows_117 : decode cX2_goodRows 117 = .ok (.ireturn, 1) := by decide +kernel
theorem dX2_moveOn_0 : decode cX2_moveOn 0 = .ok (.aload_n 0, 1) := by decide +kernel
theorem dX2_moveOn_1 : decode cX2_moveOn 1 = .ok (.getfield 9, 3) := by decide +kernel
theorem dX2_moveOn_4 : decode cX2_moveOn 4 = .ok (.iload_n 2, 1) := by decide +kernel
theorem dX2_moveOn_5 : decode cX2_moveOn 5 = .ok (.iaload, 1) := by decide +kernel
theorem dX2_moveOn_6 : decode cX2_moveOn 6 = .ok (.istore 4, 2) := by decide +kernel
theorem dX2_moveOn_8 : decode cX2_moveOn 8 = .ok (.aload_n 0, 1) := by decide +kernel
theorem dX2_moveOn_9 : decode cX2_moveOn 9 = .ok (.getfield 9, 3) := by decide +kernel
theorem dX2_moveOn_12 : decode cX2_moveOn 12 = .ok (.iload_n 2, 1) := by decide +kernel
theorem dX2_moveOn_13 : decode cX2_moveOn 13 = .ok (.iconst 0, 1) := by decide +kernel
theorem dX2_moveOn_14 : decode cX2_moveOn 14 = .ok (.iastore, 1) := by decide +kernel
theorem dX2_moveOn_15 : decode cX2_moveOn 15 = .ok (.iconst 1, 1) := by decide +kernel
theorem dX2_moveOn_16 : decode cX2_moveOn 16 = .ok (.istore 5, 2) := by decide +kernel
theorem dX2_moveOn_18 : decode cX2_moveOn 18 = .ok (.iload 5, 2) := by decide +kernel
theorem dX2_moveOn_20 : decode cX2_moveOn 20 = .ok (.aload_n 1, 1) := by decide +kernel
theorem dX2_moveOn_21 : decode cX2_moveOn 21 = .ok (.getfield 15, 3) := by decide +kernel
theorem dX2_moveOn_24 : decode cX2_moveOn 24 = .ok (.if_icmp .gt 43, 3) := by decide +kernel
theorem dX2_moveOn_27 : decode cX2_moveOn 27 = .ok (.aload_n 1, 1) := by decide +kernel
theorem dX2_moveOn_28 : decode cX2_moveOn 28 = .ok (.iload_n 2, 1) := by decide +kernel
theorem dX2_moveOn_29 : decode cX2_moveOn 29 = .ok (.aload_n 1, 1) := by decide +kernel
theorem dX2_moveOn_30 : decode cX2_moveOn 30 = .ok (.iload_n 2, 1) := by decide +kernel
theorem dX2_moveOn_31 : decode cX2_moveOn 31 = .ok (.iload 5, 2) := by decide +kernel
theorem dX2_moveOn_33 : decode cX2_moveOn 33 = .ok (.invokevirtual 31, 3) := by decide +kernel
theorem dX2_moveOn_36 : decode cX2_moveOn 36 = .ok (.iload_n 3, 1) := by decide +kernel
theorem dX2_moveOn_37 : decode cX2_moveOn 37 = .ok (.invokevirtual 35, 3) := by decide +kernel
theorem dX2_moveOn_40 : decode cX2_moveOn 40 = .ok (.istore 6, 2) := by decide +kernel
theorem dX2_moveOn_42 : decode cX2_moveOn 42 = .ok (.iload 6, 2) := by decide +kernel
theorem dX2_moveOn_44 : decode cX2_moveOn 44 = .ok (.ifCond .eq 17, 3) := by decide +kernel
theorem dX2_moveOn_47 : decode cX2_moveOn 47 = .ok (.aload_n 0, 1) := by decide +kernel
theorem dX2_moveOn_48 : decode cX2_moveOn 48 = .ok (.getfield 9, 3) := by decide +kernel
theorem dX2_moveOn_51 : decode cX2_moveOn 51 = .ok (.iload_n 2, 1) := by decide +kernel
theorem dX2_moveOn_52 : decode cX2_moveOn 52 = .ok (.iload 6, 2) := by decide +kernel
theorem dX2_moveOn_54 : decode cX2_moveOn 54 = .ok (.ior, 1) := by decide +kernel
theorem dX2_moveOn_55 : decode cX2_moveOn 55 = .ok (.dup2, 1) := by decide +kernel
theorem dX2_moveOn_56 : decode cX2_moveOn 56 = .ok (.iaload, 1) := by decide +kernel
theorem dX2_moveOn_57 : decode cX2_moveOn 57 = .ok (.iload 4, 2) := by decide +kernel
theorem dX2_moveOn_59 : decode cX2_moveOn 59 = .ok (.iadd, 1) := by decide +kernel
theorem dX2_moveOn_60 : decode cX2_moveOn 60 = .ok (.iastore, 1) := by decide +kernel
theorem dX2_moveOn_61 : decode cX2_moveOn 61 = .ok (.iinc 5 1, 3) := by decide +kernel
theorem dX2_moveOn_64 : decode cX2_moveOn 64 = .ok (.goto (-46), 3) := by decide +kernel
theorem dX2_moveOn_67 : decode cX2_moveOn 67 = .ok (.return_, 1) := by decide +kernel
theorem dX3_init_0 : decode cX3_init 0 = .ok (.aload_n 0, 1) := by decide +kernel
theorem dX3_init_1 : decode cX3_init 1 = .ok (.invokespecial 3, 3) := by decide +kernel
theorem dX3_init_4 : decode cX3_init 4 = .ok (.aload_n 0, 1) := by decide +kernel
theorem dX3_init_5 : decode cX3_init 5 = .ok (.bipush 6, 2) := by decide +kernel
theorem dX3_init_7 : decode cX3_init 7 = .ok (.newarray .boolean, 2) := by decide +kernel
theorem dX3_init_9 : decode cX3_init 9 = .ok (.putfield 9, 3) := by decide +kernel
theorem dX3_init_12 : decode cX3_init 12 = .ok (.aload_n 0, 1) := by decide +kernel
theorem dX3_init_13 : decode cX3_init 13 = .ok (.bipush 6, 2) := by decide +kernel
theorem dX3_init_15 : decode cX3_init 15 = .ok (.bipush 121, 2) := by decide +kernel
theorem dX3_init_17 : decode cX3_init 17 = .ok (.multianewarray 15 2, 4) := by decide +kernel
theorem dX3_init_21 : decode cX3_init 21 = .ok (.putfield 17, 3) := by decide +kernel
theorem dX3_init_24 : decode cX3_init 24 = .ok (.aload_n 0, 1) := by decide +kernel
theorem dX3_init_25 : decode cX3_init 25 = .ok (.bipush 6, 2) := by decide +kernel
theorem dX3_init_27 : decode cX3_init 27 = .ok (.newarray .int, 2) := by decide +kernel
theorem dX3_init_29 : decode cX3_init 29 = .ok (.putfield 20, 3) := by decide +kernel
theorem dX3_init_32 : decode cX3_init 32 = .ok (.return_, 1) := by decide +kernel
theorem dX3_fill_0 : decode cX3_fill 0 = .ok (.aload_n 0, 1) := by decide +kernel
theorem dX3_fill_1 : decode cX3_fill 1 = .ok (.getfield 9, 3) := by decide +kernel
theorem dX3_fill_4 : decode cX3_fill 4 = .ok (.iload_n 1, 1) := by decide +kernel
theorem dX3_fill_5 : decode cX3_fill 5 = .ok (.baload, 1) := by decide +kernel
theorem dX3_fill_6 : decode cX3_fill 6 = .ok (.ifCond .eq 4, 3) := by decide +kernel
theorem dX3_fill_9 : decode cX3_fill 9 = .ok (.return_, 1) := by decide +kernel
theorem dX3_fill_10 : decode cX3_fill 10 = .ok (.aload_n 0, 1) := by decide +kernel
theorem dX3_fill_11 : decode cX3_fill 11 = .ok (.getfield 9, 3) := by decide +kernel
theorem dX3_fill_14 : decode cX3_fill 14 = .ok (.iload_n 1, 1) := by decide +kernel
theorem dX3_fill_15 : decode cX3_fill 15 = .ok (.iconst 1, 1) := by decide +kernel
theorem dX3_fill_16 : decode cX3_fill 16 = .ok (.bastore, 1) := by decide +kernel
theorem dX3_fill_17 : decode cX3_fill 17 = .ok (.iconst 1, 1) := by decide +kernel
theorem dX3_fill_18 : decode cX3_fill 18 = .ok (.istore 4, 2) := by decide +kernel
theorem dX3_fill_20 : decode cX3_fill 20 = .ok (.iload 4, 2) := by decide +kernel
theorem dX3_fill_22 : decode cX3_fill 22 = .ok (.iload_n 1, 1) := by decide +kernel
theorem dX3_fill_23 : decode cX3_fill 23 = .ok (.if_icmp .gt 17, 3) := by decide +kernel
theorem dX3_fill_26 : decode cX3_fill 26 = .ok (.aload_n 0, 1) := by decide +kernel
theorem dX3_fill_27 : decode cX3_fill 27 = .ok (.getfield 20, 3) := by decide +kernel
theorem dX3_fill_30 : decode cX3_fill 30 = .ok (.iload 4, 2) := by decide +kernel
theorem dX3_fill_32 : decode cX3_fill 32 = .ok (.iconst 1, 1) := by decide +kernel
theorem dX3_fill_33 : decode cX3_fill 33 = .ok (.iastore, 1) := by decide +kernel
theorem dX3_fill_34 : decode cX3_fill 34 = .ok (.iinc 4 1, 3) := by decide +kernel
theorem dX3_fill_37 : decode cX3_fill 37 = .ok (.goto (-17), 3) := by decide +kernel
theorem dX3_fill_40 : decode cX3_fill 40 = .ok (.aload_n 2, 1) := by decide +kernel
theorem dX3_fill_41 : decode cX3_fill 41 = .ok (.iload_n 1, 1) := by decide +kernel
theorem dX3_fill_42 : decode cX3_fill 42 = .ok (.iload_n 1, 1) := by decide +kernel
theorem dX3_fill_43 : decode cX3_fill 43 = .ok (.invokevirtual 24, 3) := by decide +kernel
theorem dX3_fill_46 : decode cX3_fill 46 = .ok (.lstore 4, 2) := by decide +kernel
theorem dX3_fill_48 : decode cX3_fill 48 = .ok (.lload 4, 2) := by decide +kernel
theorem dX3_fill_50 : decode cX3_fill 50 = .ok (.lconst 0, 1) := by decide +kernel
theorem dX3_fill_51 : decode cX3_fill 51 = .ok (.lcmp, 1) := by decide +kernel
theorem dX3_fill_52 : decode cX3_fill 52 = .ok (.ifCond .le 55, 3) := by decide +kernel
theorem dX3_fill_55 : decode cX3_fill 55 = .ok (.aload_n 3, 1) := by decide +kernel
theorem dX3_fill_56 : decode cX3_fill 56 = .ok (.aload_n 0, 1) := by decide +kernel
theorem dX3_fill_57 : decode cX3_fill 57 = .ok (.getfield 20, 3) := by decide +kernel
theorem dX3_fill_60 : decode cX3_fill 60 = .ok (.iload_n 1, 1) := by decide +kernel
theorem dX3_fill_61 : decode cX3_fill 61 = .ok (.invokevirtual 30, 3) := by decide +kernel
theorem dX3_fill_64 : decode cX3_fill 64 = .ok (.aload_n 0, 1) := by decide +kernel
theorem dX3_fill_65 : decode cX3_fill 65 = .ok (.getfield 17, 3) := by decide +kernel
theorem dX3_fill_68 : decode cX3_fill 68 = .ok (.iload_n 1, 1) := by decide +kernel
theorem dX3_fill_69 : decode cX3_fill 69 = .ok (.aaload, 1) := by decide +kernel
theorem dX3_fill_70 : decode cX3_fill 70 = .ok (.aload_n 0, 1) := by decide +kernel
theorem dX3_fill_71 : decode cX3_fill 71 = .ok (.aload_n 3, 1) := by decide +kernel
theorem dX3_fill_72 : decode cX3_fill 72 = .ok (.invokevirtual 36, 3) := by decide +kernel
theorem dX3_fill_75 : decode cX3_fill 75 = .ok (.aload_n 3, 1) := by decide +kernel
theorem dX3_fill_76 : decode cX3_fill 76 = .ok (.invokevirtual 40, 3) := by decide +kernel
theorem dX3_fill_79 : decode cX3_fill 79 = .ok (.invokevirtual 43, 3) := by decide +kernel
theorem dX3_fill_82 : decode cX3_fill 82 = .ok (.dup2, 1) := by decide +kernel
theorem dX3_fill_83 : decode cX3_fill 83 = .ok (.iaload, 1) := by decide +kernel
theorem dX3_fill_84 : decode cX3_fill 84 = .ok (.iconst 1, 1) := by decide +kernel
theorem dX3_fill_85 : decode cX3_fill 85 = .ok (.iadd, 1) := by decide +kernel
theorem dX3_fill_86 : decode cX3_fill 86 = .ok (.iastore, 1) := by decide +kernel
theorem dX3_fill_87 : decode cX3_fill 87 = .ok (.aload_n 2, 1) := by decide +kernel
theorem dX3_fill_88 : decode cX3_fill 88 = .ok (.aload_n 0, 1) := by decide +kernel
theorem dX3_fill_89 : decode cX3_fill 89 = .ok (.getfield 20, 3) := by decide +kernel
theorem dX3_fill_92 : decode cX3_fill 92 = .ok (.iload_n 1, 1) := by decide +kernel
theorem dX3_fill_93 : decode cX3_fill 93 = .ok (.iload_n 1, 1) := by decide +kernel
theorem dX3_fill_94 : decode cX3_fill 94 = .ok (.invokevirtual 47, 3) := by decide +kernel
theorem dX3_fill_97 : decode cX3_fill 97 = .ok (.pop, 1) := by decide +kernel
theorem dX3_fill_98 : decode cX3_fill 98 = .ok (.lload 4, 2) := by decide +kernel
theorem dX3_fill_100 : decode cX3_fill 100 = .ok (.lconst 1, 1) := by decide +kernel
theorem dX3_fill_101 : decode cX3_fill 101 = .ok (.lsub, 1) := by decide +kernel
theorem dX3_fill_102 : decode cX3_fill 102 = .ok (.lstore 4, 2) := by decide +kernel
theorem dX3_fill_104 : decode cX3_fill 104 = .ok (.goto (-56), 3) := by decide +kernel
theorem dX3_fill_107 : decode cX3_fill 107 = .ok (.return_, 1) := by decide +kernel
theorem dX3_rowsWith_0 : decode cX3_rowsWith 0 = .ok (.aload_n 0, 1) := by decide +kernel
theorem dX3_rowsWith_1 : decode cX3_rowsWith 1 = .ok (.getfield 17, 3) := by decide +kernel
theorem dX3_rowsWith_4 : decode cX3_rowsWith 4 = .ok (.iload_n 1, 1) := by decide +kernel
theorem dX3_rowsWith_5 : decode cX3_rowsWith 5 = .ok (.aaload, 1) := by decide +kernel
theorem dX3_rowsWith_6 : decode cX3_rowsWith 6 = .ok (.aload_n 0, 1) := by decide +kernel
theorem dX3_rowsWith_7 : decode cX3_rowsWith 7 = .ok (.iload_n 2, 1) := by decide +kernel
theorem dX3_rowsWith_8 : decode cX3_rowsWith 8 = .ok (.iload_n 3, 1) := by decide +kernel
theorem dX3_rowsWith_9 : decode cX3_rowsWith 9 = .ok (.invokevirtual 43, 3) := by decide +kernel
theorem dX3_rowsWith_12 : decode cX3_rowsWith 12 = .ok (.iaload, 1) := by decide +kernel
theorem dX3_rowsWith_13 : decode cX3_rowsWith 13 = .ok (.ireturn, 1) := by decide +kernel
theorem dX3_element_0 : decode cX3_element 0 = .ok (.iload_n 1, 1) := by decide +kernel
theorem dX3_element_1 : decode cX3_element 1 = .ok (.bipush 11, 2) := by decide +kernel
theorem dX3_element_3 : decode cX3_element 3 = .ok (.imul, 1) := by decide +kernel
theorem dX3_element_4 : decode cX3_element 4 = .ok (.iload_n 2, 1) := by decide +kernel
theorem dX3_element_5 : decode cX3_element 5 = .ok (.iadd, 1) := by decide +kernel
theorem dX3_element_6 : decode cX3_element 6 = .ok (.ireturn, 1) := by decide +kernel
theorem dX4_init_0 : decode cX4_init 0 = .ok (.aload_n 0, 1) := by decide +kernel
theorem dX4_init_1 : decode cX4_init 1 = .ok (.invokespecial 3, 3) := by decide +kernel
theorem dX4_init_4 : decode cX4_init 4 = .ok (.aload_n 0, 1) := by decide +kernel
theorem dX4_init_5 : decode cX4_init 5 = .ok (.bipush 12, 2) := by decide +kernel
theorem dX4_init_7 : decode cX4_init 7 = .ok (.bipush 12, 2) := by decide +kernel
theorem dX4_init_9 : decode cX4_init 9 = .ok (.multianewarray 9 2, 4) := by decide +kernel
theorem dX4_init_13 : decode cX4_init 13 = .ok (.putfield 11, 3) := by decide +kernel
theorem dX4_init_16 : decode cX4_init 16 = .ok (.return_, 1) := by decide +kernel
theorem dX4_howMany_0 : decode cX4_howMany 0 = .ok (.aload_n 0, 1) := by decide +kernel
theorem dX4_howMany_1 : decode cX4_howMany 1 = .ok (.iload_n 1, 1) := by decide +kernel
theorem dX4_howMany_2 : decode cX4_howMany 2 = .ok (.iload_n 2, 1) := by decide +kernel
theorem dX4_howMany_3 : decode cX4_howMany 3 = .ok (.invokevirtual 16, 3) := by decide +kernel
theorem dX4_howMany_6 : decode cX4_howMany 6 = .ok (.aload_n 0, 1) := by decide +kernel
theorem dX4_howMany_7 : decode cX4_howMany 7 = .ok (.getfield 11, 3) := by decide +kernel
theorem dX4_howMany_10 : decode cX4_howMany 10 = .ok (.iconst 1, 1) := by decide +kernel
theorem dX4_howMany_11 : decode cX4_howMany 11 = .ok (.aaload, 1) := by decide +kernel
theorem dX4_howMany_12 : decode cX4_howMany 12 = .ok (.iconst 1, 1) := by decide +kernel
theorem dX4_howMany_13 : decode cX4_howMany 13 = .ok (.laload, 1) := by decide +kernel
theorem dX4_howMany_14 : decode cX4_howMany 14 = .ok (.lreturn, 1) := by decide +kernel
theorem dX4_numberOf_0 : decode cX4_numberOf 0 = .ok (.aload_n 0, 1) := by decide +kernel
theorem dX4_numberOf_1 : decode cX4_numberOf 1 = .ok (.iload_n 2, 1) := by decide +kernel
theorem dX4_numberOf_2 : decode cX4_numberOf 2 = .ok (.iload_n 3, 1) := by decide +kernel
theorem dX4_numberOf_3 : decode cX4_numberOf 3 = .ok (.invokevirtual 16, 3) := by decide +kernel
theorem dX4_numberOf_6 : decode cX4_numberOf 6 = .ok (.lconst 0, 1) := by decide +kernel
theorem dX4_numberOf_7 : decode cX4_numberOf 7 = .ok (.lstore 4, 2) := by decide +kernel
theorem dX4_numberOf_9 : decode cX4_numberOf 9 = .ok (.iconst 1, 1) := by decide +kernel
theorem dX4_numberOf_10 : decode cX4_numberOf 10 = .ok (.istore 6, 2) := by decide +kernel
theorem dX4_numberOf_12 : decode cX4_numberOf 12 = .ok (.iconst 1, 1) := by decide +kernel
theorem dX4_numberOf_13 : decode cX4_numberOf 13 = .ok (.istore 7, 2) := by decide +kernel
theorem dX4_numberOf_15 : decode cX4_numberOf 15 = .ok (.iload 7, 2) := by decide +kernel
theorem dX4_numberOf_17 : decode cX4_numberOf 17 = .ok (.iload_n 3, 1) := by decide +kernel
theorem dX4_numberOf_18 : decode cX4_numberOf 18 = .ok (.if_icmp .gt 51, 3) := by decide +kernel
theorem dX4_numberOf_21 : decode cX4_numberOf 21 = .ok (.iload 6, 2) := by decide +kernel
theorem dX4_numberOf_23 : decode cX4_numberOf 23 = .ok (.istore 8, 2) := by decide +kernel
theorem dX4_numberOf_25 : decode cX4_numberOf 25 = .ok (.iload 8, 2) := by decide +kernel
theorem dX4_numberOf_27 : decode cX4_numberOf 27 = .ok (.aload_n 1, 1) := by decide +kernel
theorem dX4_numberOf_28 : decode cX4_numberOf 28 = .ok (.iload 7, 2) := by decide +kernel
theorem dX4_numberOf_30 : decode cX4_numberOf 30 = .ok (.iaload, 1) := by decide +kernel
theorem dX4_numberOf_31 : decode cX4_numberOf 31 = .ok (.if_icmp .ge 26, 3) := by decide +kernel
theorem dX4_numberOf_34 : decode cX4_numberOf 34 = .ok (.lload 4, 2) := by decide +kernel
theorem dX4_numberOf_36 : decode cX4_numberOf 36 = .ok (.aload_n 0, 1) := by decide +kernel
theorem dX4_numberOf_37 : decode cX4_numberOf 37 = .ok (.getfield 11, 3) := by decide +kernel
theorem dX4_numberOf_40 : decode cX4_numberOf 40 = .ok (.iload 7, 2) := by decide +kernel
theorem dX4_numberOf_42 : decode cX4_numberOf 42 = .ok (.iconst 1, 1) := by decide +kernel
theorem dX4_numberOf_43 : decode cX4_numberOf 43 = .ok (.iadd, 1) := by decide +kernel
theorem dX4_numberOf_44 : decode cX4_numberOf 44 = .ok (.aaload, 1) := by decide +kernel
theorem dX4_numberOf_45 : decode cX4_numberOf 45 = .ok (.iload 8, 2) := by decide +kernel
theorem dX4_numberOf_47 : decode cX4_numberOf 47 = .ok (.laload, 1) := by decide +kernel
theorem dX4_numberOf_48 : decode cX4_numberOf 48 = .ok (.ladd, 1) := by decide +kernel
theorem dX4_numberOf_49 : decode cX4_numberOf 49 = .ok (.lstore 4, 2) := by decide +kernel
theorem dX4_numberOf_51 : decode cX4_numberOf 51 = .ok (.iinc 8 1, 3) := by decide +kernel
theorem dX4_numberOf_54 : decode cX4_numberOf 54 = .ok (.goto (-29), 3) := by decide +kernel
theorem dX4_numberOf_57 : decode cX4_numberOf 57 = .ok (.aload_n 1, 1) := by decide +kernel
theorem dX4_numberOf_58 : decode cX4_numberOf 58 = .ok (.iload 7, 2) := by decide +kernel
theorem dX4_numberOf_60 : decode cX4_numberOf 60 = .ok (.iaload, 1) := by decide +kernel
theorem dX4_numberOf_61 : decode cX4_numberOf 61 = .ok (.istore 6, 2) := by decide +kernel
theorem dX4_numberOf_63 : decode cX4_numberOf 63 = .ok (.iinc 7 1, 3) := by decide +kernel
theorem dX4_numberOf_66 : decode cX4_numberOf 66 = .ok (.goto (-51), 3) := by decide +kernel
theorem dX4_numberOf_69 : decode cX4_numberOf 69 = .ok (.lload 4, 2) := by decide +kernel
theorem dX4_numberOf_71 : decode cX4_numberOf 71 = .ok (.lreturn, 1) := by decide +kernel
theorem dX4_fillRow_0 : decode cX4_fillRow 0 = .ok (.aload_n 0, 1) := by decide +kernel
theorem dX4_fillRow_1 : decode cX4_fillRow 1 = .ok (.iload_n 2, 1) := by decide +kernel
theorem dX4_fillRow_2 : decode cX4_fillRow 2 = .ok (.iload_n 3, 1) := by decide +kernel
theorem dX4_fillRow_3 : decode cX4_fillRow 3 = .ok (.invokevirtual 16, 3) := by decide +kernel
theorem dX4_fillRow_6 : decode cX4_fillRow 6 = .ok (.lload 4, 2) := by decide +kernel
theorem dX4_fillRow_8 : decode cX4_fillRow 8 = .ok (.lstore 6, 2) := by decide +kernel
theorem dX4_fillRow_10 : decode cX4_fillRow 10 = .ok (.iconst 1, 1) := by decide +kernel
theorem dX4_fillRow_11 : decode cX4_fillRow 11 = .ok (.istore 8, 2) := by decide +kernel
theorem dX4_fillRow_13 : decode cX4_fillRow 13 = .ok (.iconst 1, 1) := by decide +kernel
theorem dX4_fillRow_14 : decode cX4_fillRow 14 = .ok (.istore 9, 2) := by decide +kernel
theorem dX4_fillRow_16 : decode cX4_fillRow 16 = .ok (.iload 9, 2) := by decide +kernel
theorem dX4_fillRow_18 : decode cX4_fillRow 18 = .ok (.iload_n 3, 1) := by decide +kernel
theorem dX4_fillRow_19 : decode cX4_fillRow 19 = .ok (.if_icmp .gt 67, 3) := by decide +kernel
theorem dX4_fillRow_22 : decode cX4_fillRow 22 = .ok (.lload 6, 2) := by decide +kernel
theorem dX4_fillRow_24 : decode cX4_fillRow 24 = .ok (.aload_n 0, 1) := by decide +kernel
theorem dX4_fillRow_25 : decode cX4_fillRow 25 = .ok (.getfield 11, 3) := by decide +kernel
theorem dX4_fillRow_28 : decode cX4_fillRow 28 = .ok (.iload 9, 2) := by decide +kernel
theorem dX4_fillRow_30 : decode cX4_fillRow 30 = .ok (.iconst 1, 1) := by decide +kernel
theorem dX4_fillRow_31 : decode cX4_fillRow 31 = .ok (.iadd, 1) := by decide +kernel
theorem dX4_fillRow_32 : decode cX4_fillRow 32 = .ok (.aaload, 1) := by decide +kernel
theorem dX4_fillRow_33 : decode cX4_fillRow 33 = .ok (.iload 8, 2) := by decide +kernel
theorem dX4_fillRow_35 : decode cX4_fillRow 35 = .ok (.laload, 1) := by decide +kernel
theorem dX4_fillRow_36 : decode cX4_fillRow 36 = .ok (.lcmp, 1) := by decide +kernel
theorem dX4_fillRow_37 : decode cX4_fillRow 37 = .ok (.ifCond .lt 37, 3) := by decide +kernel
theorem dX4_fillRow_40 : decode cX4_fillRow 40 = .ok (.iload 8, 2) := by decide +kernel
theorem dX4_fillRow_42 : decode cX4_fillRow 42 = .ok (.iload_n 2, 1) := by decide +kernel
theorem dX4_fillRow_43 : decode cX4_fillRow 43 = .ok (.iload_n 3, 1) := by decide +kernel
theorem dX4_fillRow_44 : decode cX4_fillRow 44 = .ok (.isub, 1) := by decide +kernel
theorem dX4_fillRow_45 : decode cX4_fillRow 45 = .ok (.iload 9, 2) := by decide +kernel
theorem dX4_fillRow_47 : decode cX4_fillRow 47 = .ok (.iadd, 1) := by decide +kernel
theorem dX4_fillRow_48 : decode cX4_fillRow 48 = .ok (.if_icmp .ge 26, 3) := by decide +kernel
theorem dX4_fillRow_51 : decode cX4_fillRow 51 = .ok (.lload 6, 2) := by decide +kernel
theorem dX4_fillRow_53 : decode cX4_fillRow 53 = .ok (.aload_n 0, 1) := by decide +kernel
theorem dX4_fillRow_54 : decode cX4_fillRow 54 = .ok (.getfield 11, 3) := by decide +kernel
theorem dX4_fillRow_57 : decode cX4_fillRow 57 = .ok (.iload 9, 2) := by decide +kernel
theorem dX4_fillRow_59 : decode cX4_fillRow 59 = .ok (.iconst 1, 1) := by decide +kernel
theorem dX4_fillRow_60 : decode cX4_fillRow 60 = .ok (.iadd, 1) := by decide +kernel
theorem dX4_fillRow_61 : decode cX4_fillRow 61 = .ok (.aaload, 1) := by decide +kernel
theorem dX4_fillRow_62 : decode cX4_fillRow 62 = .ok (.iload 8, 2) := by decide +kernel
theorem dX4_fillRow_64 : decode cX4_fillRow 64 = .ok (.laload, 1) := by decide +kernel
theorem dX4_fillRow_65 : decode cX4_fillRow 65 = .ok (.lsub, 1) := by decide +kernel
theorem dX4_fillRow_66 : decode cX4_fillRow 66 = .ok (.lstore 6, 2) := by decide +kernel
theorem dX4_fillRow_68 : decode cX4_fillRow 68 = .ok (.iinc 8 1, 3) := by decide +kernel
theorem dX4_fillRow_71 : decode cX4_fillRow 71 = .ok (.goto (-49), 3) := by decide +kernel
theorem dX4_fillRow_74 : decode cX4_fillRow 74 = .ok (.aload_n 1, 1) := by decide +kernel
theorem dX4_fillRow_75 : decode cX4_fillRow 75 = .ok (.iload 9, 2) := by decide +kernel
theorem dX4_fillRow_77 : decode cX4_fillRow 77 = .ok (.iload 8, 2) := by decide +kernel
theorem dX4_fillRow_79 : decode cX4_fillRow 79 = .ok (.iastore, 1) := by decide +kernel
theorem dX4_fillRow_80 : decode cX4_fillRow 80 = .ok (.iinc 9 1, 3) := by decide +kernel
theorem dX4_fillRow_83 : decode cX4_fillRow 83 = .ok (.goto (-67), 3) := by decide +kernel
theorem dX4_fillRow_86 : decode cX4_fillRow 86 = .ok (.return_, 1) := by decide +kernel
theorem dX4_fillEndings_0 : decode cX4_fillEndings 0 = .ok (.iconst 1, 1) := by decide +kernel
theorem dX4_fillEndings_1 : decode cX4_fillEndings 1 = .ok (.istore_n 3, 1) := by decide +kernel
theorem dX4_fillEndings_2 : decode cX4_fillEndings 2 = .ok (.iload_n 3, 1) := by decide +kernel
theorem dX4_fillEndings_3 : decode cX4_fillEndings 3 = .ok (.iload_n 1, 1) := by decide +kernel
theorem dX4_fillEndings_4 : decode cX4_fillEndings 4 = .ok (.iconst 1, 1) := by decide +kernel
theorem dX4_fillEndings_5 : decode cX4_fillEndings 5 = .ok (.iadd, 1) := by decide +kernel
theorem dX4_fillEndings_6 : decode cX4_fillEndings 6 = .ok (.if_icmp .gt 20, 3) := by decide +kernel
theorem dX4_fillEndings_9 : decode cX4_fillEndings 9 = .ok (.aload_n 0, 1) := by decide +kernel
theorem dX4_fillEndings_10 : decode cX4_fillEndings 10 = .ok (.getfield 11, 3) := by decide +kernel
theorem dX4_fillEndings_13 : decode cX4_fillEndings 13 = .ok (.iload_n 2, 1) := by decide +kernel
theorem dX4_fillEndings_14 : decode cX4_fillEndings 14 = .ok (.iconst 1, 1) := by decide +kernel
theorem dX4_fillEndings_15 : decode cX4_fillEndings 15 = .ok (.iadd, 1) := by decide +kernel
theorem dX4_fillEndings_16 : decode cX4_fillEndings 16 = .ok (.aaload, 1) := by decide +kernel
theorem dX4_fillEndings_17 : decode cX4_fillEndings 17 = .ok (.iload_n 3, 1) := by decide +kernel
theorem dX4_fillEndings_18 : decode cX4_fillEndings 18 = .ok (.lconst 1, 1) := by decide +kernel
theorem dX4_fillEndings_19 : decode cX4_fillEndings 19 = .ok (.lastore, 1) := by decide +kernel
theorem dX4_fillEndings_20 : decode cX4_fillEndings 20 = .ok (.iinc 3 1, 3) := by decide +kernel
theorem dX4_fillEndings_23 : decode cX4_fillEndings 23 = .ok (.goto (-21), 3) := by decide +kernel
theorem dX4_fillEndings_26 : decode cX4_fillEndings 26 = .ok (.iload_n 2, 1) := by decide +kernel
theorem dX4_fillEndings_27 : decode cX4_fillEndings 27 = .ok (.istore_n 3, 1) := by decide +kernel
theorem dX4_fillEndings_28 : decode cX4_fillEndings 28 = .ok (.iload_n 3, 1) := by decide +kernel
theorem dX4_fillEndings_29 : decode cX4_fillEndings 29 = .ok (.iconst 1, 1) := by decide +kernel
theorem dX4_fillEndings_30 : decode cX4_fillEndings 30 = .ok (.if_icmp .lt 72, 3) := by decide +kernel
theorem dX4_fillEndings_33 : decode cX4_fillEndings 33 = .ok (.iload_n 1, 1) := by decide +kernel
theorem dX4_fillEndings_34 : decode cX4_fillEndings 34 = .ok (.iconst 1, 1) := by decide +kernel
theorem dX4_fillEndings_35 : decode cX4_fillEndings 35 = .ok (.iadd, 1) := by decide +kernel
theorem dX4_fillEndings_36 : decode cX4_fillEndings 36 = .ok (.istore 4, 2) := by decide +kernel
theorem dX4_fillEndings_38 : decode cX4_fillEndings 38 = .ok (.iload 4, 2) := by decide +kernel
theorem dX4_fillEndings_40 : decode cX4_fillEndings 40 = .ok (.iconst 1, 1) := by decide +kernel
theorem dX4_fillEndings_41 : decode cX4_fillEndings 41 = .ok (.if_icmp .lt 55, 3) := by decide +kernel
theorem dX4_fillEndings_44 : decode cX4_fillEndings 44 = .ok (.aload_n 0, 1) := by decide +kernel
theorem dX4_fillEndings_45 : decode cX4_fillEndings 45 = .ok (.getfield 11, 3) := by decide +kernel
theorem dX4_fillEndings_48 : decode cX4_fillEndings 48 = .ok (.iload_n 3, 1) := by decide +kernel
theorem dX4_fillEndings_49 : decode cX4_fillEndings 49 = .ok (.aaload, 1) := by decide +kernel
theorem dX4_fillEndings_50 : decode cX4_fillEndings 50 = .ok (.iload 4, 2) := by decide +kernel
theorem dX4_fillEndings_52 : decode cX4_fillEndings 52 = .ok (.iload 4, 2) := by decide +kernel
theorem dX4_fillEndings_54 : decode cX4_fillEndings 54 = .ok (.iload_n 1, 1) := by decide +kernel
theorem dX4_fillEndings_55 : decode cX4_fillEndings 55 = .ok (.iload_n 2, 1) := by decide +kernel
theorem dX4_fillEndings_56 : decode cX4_fillEndings 56 = .ok (.isub, 1) := by decide +kernel
theorem dX4_fillEndings_57 : decode cX4_fillEndings 57 = .ok (.iload_n 3, 1) := by decide +kernel
theorem dX4_fillEndings_58 : decode cX4_fillEndings 58 = .ok (.iadd, 1) := by decide +kernel
theorem dX4_fillEndings_59 : decode cX4_fillEndings 59 = .ok (.if_icmp .le 7, 3) := by decide +kernel
theorem dX4_fillEndings_62 : decode cX4_fillEndings 62 = .ok (.lconst 0, 1) := by decide +kernel
theorem dX4_fillEndings_63 : decode cX4_fillEndings 63 = .ok (.goto 26, 3) := by decide +kernel
theorem dX4_fillEndings_66 : decode cX4_fillEndings 66 = .ok (.aload_n 0, 1) := by decide +kernel
theorem dX4_fillEndings_67 : decode cX4_fillEndings 67 = .ok (.getfield 11, 3) := by decide +kernel
theorem dX4_fillEndings_70 : decode cX4_fillEndings 70 = .ok (.iload_n 3, 1) := by decide +kernel
theorem dX4_fillEndings_71 : decode cX4_fillEndings 71 = .ok (.aaload, 1) := by decide +kernel
theorem dX4_fillEndings_72 : decode cX4_fillEndings 72 = .ok (.iload 4, 2) := by decide +kernel
theorem dX4_fillEndings_74 : decode cX4_fillEndings 74 = .ok (.iconst 1, 1) := by decide +kernel
theorem dX4_fillEndings_75 : decode cX4_fillEndings 75 = .ok (.iadd, 1) := by decide +kernel
theorem dX4_fillEndings_76 : decode cX4_fillEndings 76 = .ok (.laload, 1) := by decide +kernel
theorem dX4_fillEndings_77 : decode cX4_fillEndings 77 = .ok (.aload_n 0, 1) := by decide +kernel
theorem dX4_fillEndings_78 : decode cX4_fillEndings 78 = .ok (.getfield 11, 3) := by decide +kernel
theorem dX4_fillEndings_81 : decode cX4_fillEndings 81 = .ok (.iload_n 3, 1) := by decide +kernel
theorem dX4_fillEndings_82 : decode cX4_fillEndings 82 = .ok (.iconst 1, 1) := by decide +kernel
theorem dX4_fillEndings_83 : decode cX4_fillEndings 83 = .ok (.iadd, 1) := by decide +kernel
theorem dX4_fillEndings_84 : decode cX4_fillEndings 84 = .ok (.aaload, 1) := by decide +kernel
theorem dX4_fillEndings_85 : decode cX4_fillEndings 85 = .ok (.iload 4, 2) := by decide +kernel
theorem dX4_fillEndings_87 : decode cX4_fillEndings 87 = .ok (.laload, 1) := by decide +kernel
theorem dX4_fillEndings_88 : decode cX4_fillEndings 88 = .ok (.ladd, 1) := by decide +kernel
theorem dX4_fillEndings_89 : decode cX4_fillEndings 89 = .ok (.lastore, 1) := by decide +kernel
theorem dX4_fillEndings_90 : decode cX4_fillEndings 90 = .ok (.iinc 4 (-1), 3) := by decide +kernel
theorem dX4_fillEndings_93 : decode cX4_fillEndings 93 = .ok (.goto (-55), 3) := by decide +kernel
theorem dX4_fillEndings_96 : decode cX4_fillEndings 96 = .ok (.iinc 3 (-1), 3) := by decide +kernel
theorem dX4_fillEndings_99 : decode cX4_fillEndings 99 = .ok (.goto (-71), 3) := by decide +kernel
theorem dX4_fillEndings_102 : decode cX4_fillEndings 102 = .ok (.return_, 1) := by decide +kernel
theorem dX5_init_0 : decode cX5_init 0 = .ok (.aload_n 0, 1) := by decide +kernel
theorem dX5_init_1 : decode cX5_init 1 = .ok (.invokespecial 3, 3) := by decide +kernel
theorem dX5_init_4 : decode cX5_init 4 = .ok (.aload_n 0, 1) := by decide +kernel
theorem dX5_init_5 : decode cX5_init 5 = .ok (.iconst 0, 1) := by decide +kernel
theorem dX5_init_6 : decode cX5_init 6 = .ok (.putfield 9, 3) := by decide +kernel
theorem dX5_init_9 : decode cX5_init 9 = .ok (.aload_n 0, 1) := by decide +kernel
theorem dX5_init_10 : decode cX5_init 10 = .ok (.iconst 5, 1) := by decide +kernel
theorem dX5_init_11 : decode cX5_init 11 = .ok (.putfield 15, 3) := by decide +kernel
theorem dX5_init_14 : decode cX5_init 14 = .ok (.aload_n 0, 1) := by decide +kernel
theorem dX5_init_15 : decode cX5_init 15 = .ok (.iconst 0, 1) := by decide +kernel
theorem dX5_init_16 : decode cX5_init 16 = .ok (.putfield 18, 3) := by decide +kernel
theorem dX5_init_19 : decode cX5_init 19 = .ok (.aload_n 0, 1) := by decide +kernel
theorem dX5_init_20 : decode cX5_init 20 = .ok (.iconst 0, 1) := by decide +kernel
theorem dX5_init_21 : decode cX5_init 21 = .ok (.putfield 21, 3) := by decide +kernel
theorem dX5_init_24 : decode cX5_init 24 = .ok (.aload_n 0, 1) := by decide +kernel
theorem dX5_init_25 : decode cX5_init 25 = .ok (.iconst 0, 1) := by decide +kernel
theorem dX5_init_26 : decode cX5_init 26 = .ok (.putfield 24, 3) := by decide +kernel
theorem dX5_init_29 : decode cX5_init 29 = .ok (.aload_n 0, 1) := by decide +kernel
theorem dX5_init_30 : decode cX5_init 30 = .ok (.bipush 11, 2) := by decide +kernel
theorem dX5_init_32 : decode cX5_init 32 = .ok (.newarray .int, 2) := by decide +kernel
theorem dX5_init_34 : decode cX5_init 34 = .ok (.putfield 27, 3) := by decide +kernel
theorem dX5_init_37 : decode cX5_init 37 = .ok (.aload_n 0, 1) := by decide +kernel
theorem dX5_init_38 : decode cX5_init 38 = .ok (.bipush 11, 2) := by decide +kernel
theorem dX5_init_40 : decode cX5_init 40 = .ok (.newarray .int, 2) := by decide +kernel
theorem dX5_init_42 : decode cX5_init 42 = .ok (.putfield 31, 3) := by decide +kernel
theorem dX5_init_45 : decode cX5_init 45 = .ok (.aload_n 0, 1) := by decide +kernel
theorem dX5_init_46 : decode cX5_init 46 = .ok (.bipush 11, 2) := by decide +kernel
theorem dX5_init_48 : decode cX5_init 48 = .ok (.newarray .int, 2) := by decide +kernel
theorem dX5_init_50 : decode cX5_init 50 = .ok (.putfield 34, 3) := by decide +kernel
theorem dX5_init_53 : decode cX5_init 53 = .ok (.aload_n 0, 1) := by decide +kernel
theorem dX5_init_54 : decode cX5_init 54 = .ok (.bipush 11, 2) := by decide +kernel
theorem dX5_init_56 : decode cX5_init 56 = .ok (.newarray .int, 2) := by decide +kernel
theorem dX5_init_58 : decode cX5_init 58 = .ok (.putfield 37, 3) := by decide +kernel
theorem dX5_init_61 : decode cX5_init 61 = .ok (.aload_n 0, 1) := by decide +kernel
theorem dX5_init_62 : decode cX5_init 62 = .ok (.bipush 11, 2) := by decide +kernel
theorem dX5_init_64 : decode cX5_init 64 = .ok (.newarray .int, 2) := by decide +kernel
theorem dX5_init_66 : decode cX5_init 66 = .ok (.putfield 40, 3) := by decide +kernel
theorem dX5_init_69 : decode cX5_init 69 = .ok (.return_, 1) := by decide +kernel
theorem dX5_lay_0 : decode cX5_lay 0 = .ok (.aload_n 0, 1) := by decide +kernel
theorem dX5_lay_1 : decode cX5_lay 1 = .ok (.iload_n 1, 1) := by decide +kernel
theorem dX5_lay_2 : decode cX5_lay 2 = .ok (.putfield 9, 3) := by decide +kernel
theorem dX5_lay_5 : decode cX5_lay 5 = .ok (.aload_n 0, 1) := by decide +kernel
theorem dX5_lay_6 : decode cX5_lay 6 = .ok (.iload_n 2, 1) := by decide +kernel
theorem dX5_lay_7 : decode cX5_lay 7 = .ok (.putfield 15, 3) := by decide +kernel
theorem dX5_lay_10 : decode cX5_lay 10 = .ok (.aload_n 0, 1) := by decide +kernel
theorem dX5_lay_11 : decode cX5_lay 11 = .ok (.iload_n 3, 1) := by decide +kernel
theorem dX5_lay_12 : decode cX5_lay 12 = .ok (.putfield 18, 3) := by decide +kernel
theorem dX5_lay_15 : decode cX5_lay 15 = .ok (.aload_n 0, 1) := by decide +kernel
theorem dX5_lay_16 : decode cX5_lay 16 = .ok (.iconst 0, 1) := by decide +kernel
theorem dX5_lay_17 : decode cX5_lay 17 = .ok (.invokevirtual 43, 3) := by decide +kernel
theorem dX5_lay_20 : decode cX5_lay 20 = .ok (.return_, 1) := by decide +kernel
theorem dX5_add_0 : decode cX5_add 0 = .ok (.aload_n 0, 1) := by decide +kernel
theorem dX5_add_1 : decode cX5_add 1 = .ok (.dup, 1) := by decide +kernel
theorem dX5_add_2 : decode cX5_add 2 = .ok (.getfield 21, 3) := by decide +kernel
theorem dX5_add_5 : decode cX5_add 5 = .ok (.iconst 1, 1) := by decide +kernel
theorem dX5_add_6 : decode cX5_add 6 = .ok (.iadd, 1) := by decide +kernel
theorem dX5_add_7 : decode cX5_add 7 = .ok (.putfield 21, 3) := by decide +kernel
theorem dX5_add_10 : decode cX5_add 10 = .ok (.aload_n 0, 1) := by decide +kernel
theorem dX5_add_11 : decode cX5_add 11 = .ok (.getfield 27, 3) := by decide +kernel
theorem dX5_add_14 : decode cX5_add 14 = .ok (.aload_n 0, 1) := by decide +kernel
theorem dX5_add_15 : decode cX5_add 15 = .ok (.getfield 21, 3) := by decide +kernel
theorem dX5_add_18 : decode cX5_add 18 = .ok (.iload_n 1, 1) := by decide +kernel
theorem dX5_add_19 : decode cX5_add 19 = .ok (.iastore, 1) := by decide +kernel
theorem dX5_add_20 : decode cX5_add 20 = .ok (.aload_n 0, 1) := by decide +kernel
theorem dX5_add_21 : decode cX5_add 21 = .ok (.getfield 31, 3) := by decide +kernel
theorem dX5_add_24 : decode cX5_add 24 = .ok (.aload_n 0, 1) := by decide +kernel
theorem dX5_add_25 : decode cX5_add 25 = .ok (.getfield 21, 3) := by decide +kernel
theorem dX5_add_28 : decode cX5_add 28 = .ok (.iconst 1, 1) := by decide +kernel
theorem dX5_add_29 : decode cX5_add 29 = .ok (.iastore, 1) := by decide +kernel
theorem dX5_add_30 : decode cX5_add 30 = .ok (.return_, 1) := by decide +kernel
theorem dX5_leaveOnly_0 : decode cX5_leaveOnly 0 = .ok (.aload_n 0, 1) := by decide +kernel
theorem dX5_leaveOnly_1 : decode cX5_leaveOnly 1 = .ok (.iload_n 1, 1) := by decide +kernel
theorem dX5_leaveOnly_2 : decode cX5_leaveOnly 2 = .ok (.putfield 21, 3) := by decide +kernel
theorem dX5_leaveOnly_5 : decode cX5_leaveOnly 5 = .ok (.aload_n 0, 1) := by decide +kernel
theorem dX5_leaveOnly_6 : decode cX5_leaveOnly 6 = .ok (.invokevirtual 47, 3) := by decide +kernel
theorem dX5_leaveOnly_9 : decode cX5_leaveOnly 9 = .ok (.return_, 1) := by decide +kernel
theorem dX5_take_0 : decode cX5_take 0 = .ok (.aload_n 0, 1) := by decide +kernel
theorem dX5_take_1 : decode cX5_take 1 = .ok (.iconst 0, 1) := by decide +kernel
theorem dX5_take_2 : decode cX5_take 2 = .ok (.putfield 21, 3) := by decide +kernel
theorem dX5_take_5 : decode cX5_take 5 = .ok (.iconst 1, 1) := by decide +kernel
theorem dX5_take_6 : decode cX5_take 6 = .ok (.istore_n 3, 1) := by decide +kernel
theorem dX5_take_7 : decode cX5_take 7 = .ok (.iload_n 3, 1) := by decide +kernel
theorem dX5_take_8 : decode cX5_take 8 = .ok (.iload_n 2, 1) := by decide +kernel
theorem dX5_take_9 : decode cX5_take 9 = .ok (.if_icmp .gt 16, 3) := by decide +kernel
theorem dX5_take_12 : decode cX5_take 12 = .ok (.aload_n 0, 1) := by decide +kernel
theorem dX5_take_13 : decode cX5_take 13 = .ok (.aload_n 1, 1) := by decide +kernel
theorem dX5_take_14 : decode cX5_take 14 = .ok (.iload_n 3, 1) := by decide +kernel
theorem dX5_take_15 : decode cX5_take 15 = .ok (.iaload, 1) := by decide +kernel
theorem dX5_take_16 : decode cX5_take 16 = .ok (.invokevirtual 50, 3) := by decide +kernel
theorem dX5_take_19 : decode cX5_take 19 = .ok (.iinc 3 1, 3) := by decide +kernel
theorem dX5_take_22 : decode cX5_take 22 = .ok (.goto (-15), 3) := by decide +kernel
theorem dX5_take_25 : decode cX5_take 25 = .ok (.aload_n 0, 1) := by decide +kernel
theorem dX5_take_26 : decode cX5_take 26 = .ok (.invokevirtual 47, 3) := by decide +kernel
theorem dX5_take_29 : decode cX5_take 29 = .ok (.return_, 1) := by decide +kernel
theorem dX5_settle_0 : decode cX5_settle 0 = .ok (.aload_n 0, 1) := by decide +kernel
theorem dX5_settle_1 : decode cX5_settle 1 = .ok (.iconst 0, 1) := by decide +kernel
theorem dX5_settle_2 : decode cX5_settle 2 = .ok (.putfield 24, 3) := by decide +kernel
theorem dX5_settle_5 : decode cX5_settle 5 = .ok (.iconst 1, 1) := by decide +kernel
theorem dX5_settle_6 : decode cX5_settle 6 = .ok (.istore_n 1, 1) := by decide +kernel
theorem dX5_settle_7 : decode cX5_settle 7 = .ok (.iload_n 1, 1) := by decide +kernel
theorem dX5_settle_8 : decode cX5_settle 8 = .ok (.aload_n 0, 1) := by decide +kernel
theorem dX5_settle_9 : decode cX5_settle 9 = .ok (.getfield 21, 3) := by decide +kernel
theorem dX5_settle_12 : decode cX5_settle 12 = .ok (.if_icmp .gt 80, 3) := by decide +kernel
theorem dX5_settle_15 : decode cX5_settle 15 = .ok (.aload_n 0, 1) := by decide +kernel
theorem dX5_settle_16 : decode cX5_settle 16 = .ok (.aload_n 0, 1) := by decide +kernel
theorem dX5_settle_17 : decode cX5_settle 17 = .ok (.getfield 24, 3) := by decide +kernel
theorem dX5_settle_20 : decode cX5_settle 20 = .ok (.aload_n 0, 1) := by decide +kernel
theorem dX5_settle_21 : decode cX5_settle 21 = .ok (.getfield 27, 3) := by decide +kernel
theorem dX5_settle_24 : decode cX5_settle 24 = .ok (.iload_n 1, 1) := by decide +kernel
theorem dX5_settle_25 : decode cX5_settle 25 = .ok (.iaload, 1) := by decide +kernel
theorem dX5_settle_26 : decode cX5_settle 26 = .ok (.invokevirtual 53, 3) := by decide +kernel
theorem dX5_settle_29 : decode cX5_settle 29 = .ok (.istore_n 2, 1) := by decide +kernel
theorem dX5_settle_30 : decode cX5_settle 30 = .ok (.aload_n 0, 1) := by decide +kernel
theorem dX5_settle_31 : decode cX5_settle 31 = .ok (.getfield 37, 3) := by decide +kernel
theorem dX5_settle_34 : decode cX5_settle 34 = .ok (.iload_n 1, 1) := by decide +kernel
theorem dX5_settle_35 : decode cX5_settle 35 = .ok (.aload_n 0, 1) := by decide +kernel
theorem dX5_settle_36 : decode cX5_settle 36 = .ok (.aload_n 0, 1) := by decide +kernel
theorem dX5_settle_37 : decode cX5_settle 37 = .ok (.getfield 24, 3) := by decide +kernel
theorem dX5_settle_40 : decode cX5_settle 40 = .ok (.iload_n 2, 1) := by decide +kernel
theorem dX5_settle_41 : decode cX5_settle 41 = .ok (.aload_n 0, 1) := by decide +kernel
theorem dX5_settle_42 : decode cX5_settle 42 = .ok (.getfield 31, 3) := by decide +kernel
theorem dX5_settle_45 : decode cX5_settle 45 = .ok (.iload_n 1, 1) := by decide +kernel
theorem dX5_settle_46 : decode cX5_settle 46 = .ok (.iaload, 1) := by decide +kernel
theorem dX5_settle_47 : decode cX5_settle 47 = .ok (.invokevirtual 57, 3) := by decide +kernel
theorem dX5_settle_50 : decode cX5_settle 50 = .ok (.iastore, 1) := by decide +kernel
theorem dX5_settle_51 : decode cX5_settle 51 = .ok (.aload_n 0, 1) := by decide +kernel
theorem dX5_settle_52 : decode cX5_settle 52 = .ok (.getfield 34, 3) := by decide +kernel
theorem dX5_settle_55 : decode cX5_settle 55 = .ok (.iload_n 1, 1) := by decide +kernel
theorem dX5_settle_56 : decode cX5_settle 56 = .ok (.aload_n 0, 1) := by decide +kernel
theorem dX5_settle_57 : decode cX5_settle 57 = .ok (.getfield 37, 3) := by decide +kernel
theorem dX5_settle_60 : decode cX5_settle 60 = .ok (.iload_n 1, 1) := by decide +kernel
theorem dX5_settle_61 : decode cX5_settle 61 = .ok (.iaload, 1) := by decide +kernel
theorem dX5_settle_62 : decode cX5_settle 62 = .ok (.ifCond .ne 7, 3) := by decide +kernel
theorem dX5_settle_65 : decode cX5_settle 65 = .ok (.iconst 0, 1) := by decide +kernel
theorem dX5_settle_66 : decode cX5_settle 66 = .ok (.goto 4, 3) := by decide +kernel
theorem dX5_settle_69 : decode cX5_settle 69 = .ok (.iload_n 2, 1) := by decide +kernel
theorem dX5_settle_70 : decode cX5_settle 70 = .ok (.iastore, 1) := by decide +kernel
theorem dX5_settle_71 : decode cX5_settle 71 = .ok (.aload_n 0, 1) := by decide +kernel
theorem dX5_settle_72 : decode cX5_settle 72 = .ok (.dup, 1) := by decide +kernel
theorem dX5_settle_73 : decode cX5_settle 73 = .ok (.getfield 24, 3) := by decide +kernel
theorem dX5_settle_76 : decode cX5_settle 76 = .ok (.aload_n 0, 1) := by decide +kernel
theorem dX5_settle_77 : decode cX5_settle 77 = .ok (.getfield 37, 3) := by decide +kernel
theorem dX5_settle_80 : decode cX5_settle 80 = .ok (.iload_n 1, 1) := by decide +kernel
theorem dX5_settle_81 : decode cX5_settle 81 = .ok (.iaload, 1) := by decide +kernel
theorem dX5_settle_82 : decode cX5_settle 82 = .ok (.ior, 1) := by decide +kernel
theorem dX5_settle_83 : decode cX5_settle 83 = .ok (.putfield 24, 3) := by decide +kernel
theorem dX5_settle_86 : decode cX5_settle 86 = .ok (.iinc 1 1, 3) := by decide +kernel
theorem dX5_settle_89 : decode cX5_settle 89 = .ok (.goto (-82), 3) := by decide +kernel
theorem dX5_settle_92 : decode cX5_settle 92 = .ok (.return_, 1) := by decide +kernel
theorem dX5_isFree_0 : decode cX5_isFree 0 = .ok (.iload_n 1, 1) := by decide +kernel
theorem dX5_isFree_1 : decode cX5_isFree 1 = .ok (.iload_n 2, 1) := by decide +kernel
theorem dX5_isFree_2 : decode cX5_isFree 2 = .ok (.iconst 1, 1) := by decide +kernel
theorem dX5_isFree_3 : decode cX5_isFree 3 = .ok (.isub, 1) := by decide +kernel
theorem dX5_isFree_4 : decode cX5_isFree 4 = .ok (.ishr, 1) := by decide +kernel
theorem dX5_isFree_5 : decode cX5_isFree 5 = .ok (.iconst 1, 1) := by decide +kernel
theorem dX5_isFree_6 : decode cX5_isFree 6 = .ok (.iand, 1) := by decide +kernel
theorem dX5_isFree_7 : decode cX5_isFree 7 = .ok (.ifCond .ne 7, 3) := by decide +kernel
theorem dX5_isFree_10 : decode cX5_isFree 10 = .ok (.iconst 1, 1) := by decide +kernel
theorem dX5_isFree_11 : decode cX5_isFree 11 = .ok (.goto 4, 3) := by decide +kernel
theorem dX5_isFree_14 : decode cX5_isFree 14 = .ok (.iconst 0, 1) := by decide +kernel
theorem dX5_isFree_15 : decode cX5_isFree 15 = .ok (.ireturn, 1) := by decide +kernel
theorem dX5_firstFree_0 : decode cX5_firstFree 0 = .ok (.aload_n 0, 1) := by decide +kernel
theorem dX5_firstFree_1 : decode cX5_firstFree 1 = .ok (.getfield 9, 3) := by decide +kernel
theorem dX5_firstFree_4 : decode cX5_firstFree 4 = .ok (.iconst 2, 1) := by decide +kernel
theorem dX5_firstFree_5 : decode cX5_firstFree 5 = .ok (.if_icmp .ne 48, 3) := by decide +kernel
theorem dX5_firstFree_8 : decode cX5_firstFree 8 = .ok (.aload_n 0, 1) := by decide +kernel
theorem dX5_firstFree_9 : decode cX5_firstFree 9 = .ok (.iload_n 1, 1) := by decide +kernel
theorem dX5_firstFree_10 : decode cX5_firstFree 10 = .ok (.iload_n 2, 1) := by decide +kernel
theorem dX5_firstFree_11 : decode cX5_firstFree 11 = .ok (.invokevirtual 61, 3) := by decide +kernel
theorem dX5_firstFree_14 : decode cX5_firstFree 14 = .ok (.ifCond .ne 39, 3) := by decide +kernel
theorem dX5_firstFree_17 : decode cX5_firstFree 17 = .ok (.iload_n 2, 1) := by decide +kernel
theorem dX5_firstFree_18 : decode cX5_firstFree 18 = .ok (.iconst 1, 1) := by decide +kernel
theorem dX5_firstFree_19 : decode cX5_firstFree 19 = .ok (.isub, 1) := by decide +kernel
theorem dX5_firstFree_20 : decode cX5_firstFree 20 = .ok (.istore_n 3, 1) := by decide +kernel
theorem dX5_firstFree_21 : decode cX5_firstFree 21 = .ok (.iload_n 3, 1) := by decide +kernel
theorem dX5_firstFree_22 : decode cX5_firstFree 22 = .ok (.iconst 1, 1) := by decide +kernel
theorem dX5_firstFree_23 : decode cX5_firstFree 23 = .ok (.if_icmp .lt 30, 3) := by decide +kernel
theorem dX5_firstFree_26 : decode cX5_firstFree 26 = .ok (.iload_n 3, 1) := by decide +kernel
theorem dX5_firstFree_27 : decode cX5_firstFree 27 = .ok (.iload_n 2, 1) := by decide +kernel
theorem dX5_firstFree_28 : decode cX5_firstFree 28 = .ok (.aload_n 0, 1) := by decide +kernel
theorem dX5_firstFree_29 : decode cX5_firstFree 29 = .ok (.getfield 18, 3) := by decide +kernel
theorem dX5_firstFree_32 : decode cX5_firstFree 32 = .ok (.isub, 1) := by decide +kernel
theorem dX5_firstFree_33 : decode cX5_firstFree 33 = .ok (.if_icmp .lt 20, 3) := by decide +kernel
theorem dX5_firstFree_36 : decode cX5_firstFree 36 = .ok (.aload_n 0, 1) := by decide +kernel
theorem dX5_firstFree_37 : decode cX5_firstFree 37 = .ok (.iload_n 1, 1) := by decide +kernel
theorem dX5_firstFree_38 : decode cX5_firstFree 38 = .ok (.iload_n 3, 1) := by decide +kernel
theorem dX5_firstFree_39 : decode cX5_firstFree 39 = .ok (.invokevirtual 61, 3) := by decide +kernel
theorem dX5_firstFree_42 : decode cX5_firstFree 42 = .ok (.ifCond .eq 5, 3) := by decide +kernel
theorem dX5_firstFree_45 : decode cX5_firstFree 45 = .ok (.iload_n 3, 1) := by decide +kernel
theorem dX5_firstFree_46 : decode cX5_firstFree 46 = .ok (.ireturn, 1) := by decide +kernel
theorem dX5_firstFree_47 : decode cX5_firstFree 47 = .ok (.iinc 3 (-1), 3) := by decide +kernel
theorem dX5_firstFree_50 : decode cX5_firstFree 50 = .ok (.goto (-29), 3) := by decide +kernel
theorem dX5_firstFree_53 : decode cX5_firstFree 53 = .ok (.iload_n 2, 1) := by decide +kernel
theorem dX5_firstFree_54 : decode cX5_firstFree 54 = .ok (.istore_n 3, 1) := by decide +kernel
theorem dX5_firstFree_55 : decode cX5_firstFree 55 = .ok (.iload_n 3, 1) := by decide +kernel
theorem dX5_firstFree_56 : decode cX5_firstFree 56 = .ok (.aload_n 0, 1) := by decide +kernel
theorem dX5_firstFree_57 : decode cX5_firstFree 57 = .ok (.getfield 15, 3) := by decide +kernel
theorem dX5_firstFree_60 : decode cX5_firstFree 60 = .ok (.if_icmp .gt 20, 3) := by decide +kernel
theorem dX5_firstFree_63 : decode cX5_firstFree 63 = .ok (.aload_n 0, 1) := by decide +kernel
theorem dX5_firstFree_64 : decode cX5_firstFree 64 = .ok (.iload_n 1, 1) := by decide +kernel
theorem dX5_firstFree_65 : decode cX5_firstFree 65 = .ok (.iload_n 3, 1) := by decide +kernel
theorem dX5_firstFree_66 : decode cX5_firstFree 66 = .ok (.invokevirtual 61, 3) := by decide +kernel
theorem dX5_firstFree_69 : decode cX5_firstFree 69 = .ok (.ifCond .eq 5, 3) := by decide +kernel
theorem dX5_firstFree_72 : decode cX5_firstFree 72 = .ok (.iload_n 3, 1) := by decide +kernel
theorem dX5_firstFree_73 : decode cX5_firstFree 73 = .ok (.ireturn, 1) := by decide +kernel
theorem dX5_firstFree_74 : decode cX5_firstFree 74 = .ok (.iinc 3 1, 3) := by decide +kernel
theorem dX5_firstFree_77 : decode cX5_firstFree 77 = .ok (.goto (-22), 3) := by decide +kernel
theorem dX5_firstFree_80 : decode cX5_firstFree 80 = .ok (.iconst 1, 1) := by decide +kernel
theorem dX5_firstFree_81 : decode cX5_firstFree 81 = .ok (.istore_n 3, 1) := by decide +kernel
theorem dX5_firstFree_82 : decode cX5_firstFree 82 = .ok (.aload_n 0, 1) := by decide +kernel
theorem dX5_firstFree_83 : decode cX5_firstFree 83 = .ok (.getfield 9, 3) := by decide +kernel
theorem dX5_firstFree_86 : decode cX5_firstFree 86 = .ok (.iconst 1, 1) := by decide +kernel
theorem dX5_firstFree_87 : decode cX5_firstFree 87 = .ok (.if_icmp .ne 25, 3) := by decide +kernel
theorem dX5_firstFree_90 : decode cX5_firstFree 90 = .ok (.iload_n 3, 1) := by decide +kernel
theorem dX5_firstFree_91 : decode cX5_firstFree 91 = .ok (.iload_n 2, 1) := by decide +kernel
theorem dX5_firstFree_92 : decode cX5_firstFree 92 = .ok (.if_icmp .ge 20, 3) := by decide +kernel
theorem dX5_firstFree_95 : decode cX5_firstFree 95 = .ok (.aload_n 0, 1) := by decide +kernel
theorem dX5_firstFree_96 : decode cX5_firstFree 96 = .ok (.iload_n 1, 1) := by decide +kernel
theorem dX5_firstFree_97 : decode cX5_firstFree 97 = .ok (.iload_n 3, 1) := by decide +kernel
theorem dX5_firstFree_98 : decode cX5_firstFree 98 = .ok (.invokevirtual 61, 3) := by decide +kernel
theorem dX5_firstFree_101 : decode cX5_firstFree 101 = .ok (.ifCond .eq 5, 3) := by decide +kernel
theorem dX5_firstFree_104 : decode cX5_firstFree 104 = .ok (.iload_n 3, 1) := by decide +kernel
theorem dX5_firstFree_105 : decode cX5_firstFree 105 = .ok (.ireturn, 1) := by decide +kernel
theorem dX5_firstFree_106 : decode cX5_firstFree 106 = .ok (.iinc 3 1, 3) := by decide +kernel
theorem dX5_firstFree_109 : decode cX5_firstFree 109 = .ok (.goto (-27), 3) := by decide +kernel
theorem dX5_firstFree_112 : decode cX5_firstFree 112 = .ok (.iconst 0, 1) := by decide +kernel
theorem dX5_firstFree_113 : decode cX5_firstFree 113 = .ok (.ireturn, 1) := by decide +kernel
theorem dX5_bodyAt_0 : decode cX5_bodyAt 0 = .ok (.iload_n 2, 1) := by decide +kernel
theorem dX5_bodyAt_1 : decode cX5_bodyAt 1 = .ok (.ifCond .eq 11, 3) := by decide +kernel
theorem dX5_bodyAt_4 : decode cX5_bodyAt 4 = .ok (.iload_n 3, 1) := by decide +kernel
theorem dX5_bodyAt_5 : decode cX5_bodyAt 5 = .ok (.aload_n 0, 1) := by decide +kernel
theorem dX5_bodyAt_6 : decode cX5_bodyAt 6 = .ok (.getfield 15, 3) := by decide +kernel
theorem dX5_bodyAt_9 : decode cX5_bodyAt 9 = .ok (.if_icmp .le 5, 3) := by decide +kernel
theorem dX5_bodyAt_12 : decode cX5_bodyAt 12 = .ok (.iconst 0, 1) := by decide +kernel
theorem dX5_bodyAt_13 : decode cX5_bodyAt 13 = .ok (.ireturn, 1) := by decide +kernel
theorem dX5_bodyAt_14 : decode cX5_bodyAt 14 = .ok (.iconst 0, 1) := by decide +kernel
theorem dX5_bodyAt_15 : decode cX5_bodyAt 15 = .ok (.istore 4, 2) := by decide +kernel
theorem dX5_bodyAt_17 : decode cX5_bodyAt 17 = .ok (.iload_n 2, 1) := by decide +kernel
theorem dX5_bodyAt_18 : decode cX5_bodyAt 18 = .ok (.istore 5, 2) := by decide +kernel
theorem dX5_bodyAt_20 : decode cX5_bodyAt 20 = .ok (.iload 5, 2) := by decide +kernel
theorem dX5_bodyAt_22 : decode cX5_bodyAt 22 = .ok (.iload_n 2, 1) := by decide +kernel
theorem dX5_bodyAt_23 : decode cX5_bodyAt 23 = .ok (.iload_n 3, 1) := by decide +kernel
theorem dX5_bodyAt_24 : decode cX5_bodyAt 24 = .ok (.iadd, 1) := by decide +kernel
theorem dX5_bodyAt_25 : decode cX5_bodyAt 25 = .ok (.if_icmp .ge 74, 3) := by decide +kernel
theorem dX5_bodyAt_28 : decode cX5_bodyAt 28 = .ok (.iload 5, 2) := by decide +kernel
theorem dX5_bodyAt_30 : decode cX5_bodyAt 30 = .ok (.aload_n 0, 1) := by decide +kernel
theorem dX5_bodyAt_31 : decode cX5_bodyAt 31 = .ok (.getfield 15, 3) := by decide +kernel
theorem dX5_bodyAt_34 : decode cX5_bodyAt 34 = .ok (.if_icmp .le 13, 3) := by decide +kernel
theorem dX5_bodyAt_37 : decode cX5_bodyAt 37 = .ok (.aload_n 0, 1) := by decide +kernel
theorem dX5_bodyAt_38 : decode cX5_bodyAt 38 = .ok (.getfield 9, 3) := by decide +kernel
theorem dX5_bodyAt_41 : decode cX5_bodyAt 41 = .ok (.iconst 1, 1) := by decide +kernel
theorem dX5_bodyAt_42 : decode cX5_bodyAt 42 = .ok (.if_icmp .eq 5, 3) := by decide +kernel
theorem dX5_bodyAt_45 : decode cX5_bodyAt 45 = .ok (.iconst 0, 1) := by decide +kernel
theorem dX5_bodyAt_46 : decode cX5_bodyAt 46 = .ok (.ireturn, 1) := by decide +kernel
theorem dX5_bodyAt_47 : decode cX5_bodyAt 47 = .ok (.iload 5, 2) := by decide +kernel
theorem dX5_bodyAt_49 : decode cX5_bodyAt 49 = .ok (.aload_n 0, 1) := by decide +kernel
theorem dX5_bodyAt_50 : decode cX5_bodyAt 50 = .ok (.getfield 15, 3) := by decide +kernel
theorem dX5_bodyAt_53 : decode cX5_bodyAt 53 = .ok (.if_icmp .le 13, 3) := by decide +kernel
theorem dX5_bodyAt_56 : decode cX5_bodyAt 56 = .ok (.iload 5, 2) := by decide +kernel
theorem dX5_bodyAt_58 : decode cX5_bodyAt 58 = .ok (.aload_n 0, 1) := by decide +kernel
theorem dX5_bodyAt_59 : decode cX5_bodyAt 59 = .ok (.getfield 15, 3) := by decide +kernel
theorem dX5_bodyAt_62 : decode cX5_bodyAt 62 = .ok (.isub, 1) := by decide +kernel
theorem dX5_bodyAt_63 : decode cX5_bodyAt 63 = .ok (.goto 5, 3) := by decide +kernel
theorem dX5_bodyAt_66 : decode cX5_bodyAt 66 = .ok (.iload 5, 2) := by decide +kernel
theorem dX5_bodyAt_68 : decode cX5_bodyAt 68 = .ok (.istore 6, 2) := by decide +kernel
theorem dX5_bodyAt_70 : decode cX5_bodyAt 70 = .ok (.aload_n 0, 1) := by decide +kernel
theorem dX5_bodyAt_71 : decode cX5_bodyAt 71 = .ok (.iload_n 1, 1) := by decide +kernel
theorem dX5_bodyAt_72 : decode cX5_bodyAt 72 = .ok (.iload 6, 2) := by decide +kernel
theorem dX5_bodyAt_74 : decode cX5_bodyAt 74 = .ok (.invokevirtual 61, 3) := by decide +kernel
theorem dX5_bodyAt_77 : decode cX5_bodyAt 77 = .ok (.ifCond .ne 5, 3) := by decide +kernel
theorem dX5_bodyAt_80 : decode cX5_bodyAt 80 = .ok (.iconst 0, 1) := by decide +kernel
theorem dX5_bodyAt_81 : decode cX5_bodyAt 81 = .ok (.ireturn, 1) := by decide +kernel
theorem dX5_bodyAt_82 : decode cX5_bodyAt 82 = .ok (.iload 4, 2) := by decide +kernel
theorem dX5_bodyAt_84 : decode cX5_bodyAt 84 = .ok (.iconst 1, 1) := by decide +kernel
theorem dX5_bodyAt_85 : decode cX5_bodyAt 85 = .ok (.iload 6, 2) := by decide +kernel
theorem dX5_bodyAt_87 : decode cX5_bodyAt 87 = .ok (.iconst 1, 1) := by decide +kernel
theorem dX5_bodyAt_88 : decode cX5_bodyAt 88 = .ok (.isub, 1) := by decide +kernel
theorem dX5_bodyAt_89 : decode cX5_bodyAt 89 = .ok (.ishl, 1) := by decide +kernel
theorem dX5_bodyAt_90 : decode cX5_bodyAt 90 = .ok (.ior, 1) := by decide +kernel
theorem dX5_bodyAt_91 : decode cX5_bodyAt 91 = .ok (.istore 4, 2) := by decide +kernel
theorem dX5_bodyAt_93 : decode cX5_bodyAt 93 = .ok (.iinc 5 1, 3) := by decide +kernel
theorem dX5_bodyAt_96 : decode cX5_bodyAt 96 = .ok (.goto (-76), 3) := by decide +kernel
theorem dX5_bodyAt_99 : decode cX5_bodyAt 99 = .ok (.iload 4, 2) := by decide +kernel
theorem dX5_bodyAt_101 : decode cX5_bodyAt 101 = .ok (.ireturn, 1) := by decide +kernel
theorem dX5_hasPlace_0 : decode cX5_hasPlace 0 = .ok (.iload_n 1, 1) := by decide +kernel
theorem dX5_hasPlace_1 : decode cX5_hasPlace 1 = .ok (.iconst 1, 1) := by decide +kernel
theorem dX5_hasPlace_2 : decode cX5_hasPlace 2 = .ok (.if_icmp .lt 15, 3) := by decide +kernel
theorem dX5_hasPlace_5 : decode cX5_hasPlace 5 = .ok (.iload_n 1, 1) := by decide +kernel
theorem dX5_hasPlace_6 : decode cX5_hasPlace 6 = .ok (.aload_n 0, 1) := by decide +kernel
theorem dX5_hasPlace_7 : decode cX5_hasPlace 7 = .ok (.getfield 15, 3) := by decide +kernel
theorem dX5_hasPlace_10 : decode cX5_hasPlace 10 = .ok (.if_icmp .gt 7, 3) := by decide +kernel
theorem dX5_hasPlace_13 : decode cX5_hasPlace 13 = .ok (.iconst 1, 1) := by decide +kernel
theorem dX5_hasPlace_14 : decode cX5_hasPlace 14 = .ok (.goto 4, 3) := by decide +kernel
theorem dX5_hasPlace_17 : decode cX5_hasPlace 17 = .ok (.iconst 0, 1) := by decide +kernel
theorem dX5_hasPlace_18 : decode cX5_hasPlace 18 = .ok (.ireturn, 1) := by decide +kernel
theorem dX5_hasCar_0 : decode cX5_hasCar 0 = .ok (.iload_n 1, 1) := by decide +kernel
theorem dX5_hasCar_1 : decode cX5_hasCar 1 = .ok (.iconst 1, 1) := by decide +kernel
theorem dX5_hasCar_2 : decode cX5_hasCar 2 = .ok (.if_icmp .lt 15, 3) := by decide +kernel
theorem dX5_hasCar_5 : decode cX5_hasCar 5 = .ok (.iload_n 1, 1) := by decide +kernel
theorem dX5_hasCar_6 : decode cX5_hasCar 6 = .ok (.aload_n 0, 1) := by decide +kernel
theorem dX5_hasCar_7 : decode cX5_hasCar 7 = .ok (.getfield 21, 3) := by decide +kernel
theorem dX5_hasCar_10 : decode cX5_hasCar 10 = .ok (.if_icmp .gt 7, 3) := by decide +kernel
theorem dX5_hasCar_13 : decode cX5_hasCar 13 = .ok (.iconst 1, 1) := by decide +kernel
theorem dX5_hasCar_14 : decode cX5_hasCar 14 = .ok (.goto 4, 3) := by decide +kernel
theorem dX5_hasCar_17 : decode cX5_hasCar 17 = .ok (.iconst 0, 1) := by decide +kernel
theorem dX5_hasCar_18 : decode cX5_hasCar 18 = .ok (.ireturn, 1) := by decide +kernel
theorem dX5_comesIn_0 : decode cX5_comesIn 0 = .ok (.aload_n 0, 1) := by decide +kernel
theorem dX5_comesIn_1 : decode cX5_comesIn 1 = .ok (.getfield 34, 3) := by decide +kernel
theorem dX5_comesIn_4 : decode cX5_comesIn 4 = .ok (.iload_n 1, 1) := by decide +kernel
theorem dX5_comesIn_5 : decode cX5_comesIn 5 = .ok (.iaload, 1) := by decide +kernel
theorem dX5_comesIn_6 : decode cX5_comesIn 6 = .ok (.ifCond .eq 7, 3) := by decide +kernel
theorem dX5_comesIn_9 : decode cX5_comesIn 9 = .ok (.iconst 1, 1) := by decide +kernel
theorem dX5_comesIn_10 : decode cX5_comesIn 10 = .ok (.goto 4, 3) := by decide +kernel
theorem dX5_comesIn_13 : decode cX5_comesIn 13 = .ok (.iconst 0, 1) := by decide +kernel
theorem dX5_comesIn_14 : decode cX5_comesIn 14 = .ok (.ireturn, 1) := by decide +kernel
theorem dX5_isLucky_0 : decode cX5_isLucky 0 = .ok (.aload_n 0, 1) := by decide +kernel
theorem dX5_isLucky_1 : decode cX5_isLucky 1 = .ok (.getfield 34, 3) := by decide +kernel
theorem dX5_isLucky_4 : decode cX5_isLucky 4 = .ok (.iload_n 1, 1) := by decide +kernel
theorem dX5_isLucky_5 : decode cX5_isLucky 5 = .ok (.iaload, 1) := by decide +kernel
theorem dX5_isLucky_6 : decode cX5_isLucky 6 = .ok (.aload_n 0, 1) := by decide +kernel
theorem dX5_isLucky_7 : decode cX5_isLucky 7 = .ok (.getfield 27, 3) := by decide +kernel
theorem dX5_isLucky_10 : decode cX5_isLucky 10 = .ok (.iload_n 1, 1) := by decide +kernel
theorem dX5_isLucky_11 : decode cX5_isLucky 11 = .ok (.iaload, 1) := by decide +kernel
theorem dX5_isLucky_12 : decode cX5_isLucky 12 = .ok (.if_icmp .ne 7, 3) := by decide +kernel
theorem dX5_isLucky_15 : decode cX5_isLucky 15 = .ok (.iconst 1, 1) := by decide +kernel
theorem dX5_isLucky_16 : decode cX5_isLucky 16 = .ok (.goto 4, 3) := by decide +kernel
theorem dX5_isLucky_19 : decode cX5_isLucky 19 = .ok (.iconst 0, 1) := by decide +kernel
theorem dX5_isLucky_20 : decode cX5_isLucky 20 = .ok (.ireturn, 1) := by decide +kernel
theorem dX5_far_0 : decode cX5_far 0 = .ok (.aload_n 0, 1) := by decide +kernel
theorem dX5_far_1 : decode cX5_far 1 = .ok (.getfield 34, 3) := by decide +kernel
theorem dX5_far_4 : decode cX5_far 4 = .ok (.iload_n 1, 1) := by decide +kernel
theorem dX5_far_5 : decode cX5_far 5 = .ok (.iaload, 1) := by decide +kernel
theorem dX5_far_6 : decode cX5_far 6 = .ok (.aload_n 0, 1) := by decide +kernel
theorem dX5_far_7 : decode cX5_far 7 = .ok (.getfield 27, 3) := by decide +kernel
theorem dX5_far_10 : decode cX5_far 10 = .ok (.iload_n 1, 1) := by decide +kernel
theorem dX5_far_11 : decode cX5_far 11 = .ok (.iaload, 1) := by decide +kernel
theorem dX5_far_12 : decode cX5_far 12 = .ok (.isub, 1) := by decide +kernel
theorem dX5_far_13 : decode cX5_far 13 = .ok (.istore_n 2, 1) := by decide +kernel
theorem dX5_far_14 : decode cX5_far 14 = .ok (.iload_n 2, 1) := by decide +kernel
theorem dX5_far_15 : decode cX5_far 15 = .ok (.ifCond .lt 5, 3) := by decide +kernel
theorem dX5_far_18 : decode cX5_far 18 = .ok (.iload_n 2, 1) := by decide +kernel
theorem dX5_far_19 : decode cX5_far 19 = .ok (.ireturn, 1) := by decide +kernel
theorem dX5_far_20 : decode cX5_far 20 = .ok (.aload_n 0, 1) := by decide +kernel
theorem dX5_far_21 : decode cX5_far 21 = .ok (.getfield 9, 3) := by decide +kernel
theorem dX5_far_24 : decode cX5_far 24 = .ok (.iconst 1, 1) := by decide +kernel
theorem dX5_far_25 : decode cX5_far 25 = .ok (.if_icmp .ne 12, 3) := by decide +kernel
theorem dX5_far_28 : decode cX5_far 28 = .ok (.iload_n 2, 1) := by decide +kernel
theorem dX5_far_29 : decode cX5_far 29 = .ok (.aload_n 0, 1) := by decide +kernel
theorem dX5_far_30 : decode cX5_far 30 = .ok (.getfield 15, 3) := by decide +kernel
theorem dX5_far_33 : decode cX5_far 33 = .ok (.iadd, 1) := by decide +kernel
theorem dX5_far_34 : decode cX5_far 34 = .ok (.goto 5, 3) := by decide +kernel
theorem dX5_far_37 : decode cX5_far 37 = .ok (.iload_n 2, 1) := by decide +kernel
theorem dX5_far_38 : decode cX5_far 38 = .ok (.ineg, 1) := by decide +kernel
theorem dX5_far_39 : decode cX5_far 39 = .ok (.ireturn, 1) := by decide +kernel
theorem dX5_carOn_0 : decode cX5_carOn 0 = .ok (.iconst 1, 1) := by decide +kernel
theorem dX5_carOn_1 : decode cX5_carOn 1 = .ok (.istore_n 2, 1) := by decide +kernel
theorem dX5_carOn_2 : decode cX5_carOn 2 = .ok (.iload_n 2, 1) := by decide +kernel
theorem dX5_carOn_3 : decode cX5_carOn 3 = .ok (.aload_n 0, 1) := by decide +kernel
theorem dX5_carOn_4 : decode cX5_carOn 4 = .ok (.getfield 21, 3) := by decide +kernel
theorem dX5_carOn_7 : decode cX5_carOn 7 = .ok (.if_icmp .gt 25, 3) := by decide +kernel
theorem dX5_carOn_10 : decode cX5_carOn 10 = .ok (.aload_n 0, 1) := by decide +kernel
theorem dX5_carOn_11 : decode cX5_carOn 11 = .ok (.aload_n 0, 1) := by decide +kernel
theorem dX5_carOn_12 : decode cX5_carOn 12 = .ok (.getfield 37, 3) := by decide +kernel
theorem dX5_carOn_15 : decode cX5_carOn 15 = .ok (.iload_n 2, 1) := by decide +kernel
theorem dX5_carOn_16 : decode cX5_carOn 16 = .ok (.iaload, 1) := by decide +kernel
theorem dX5_carOn_17 : decode cX5_carOn 17 = .ok (.iload_n 1, 1) := by decide +kernel
theorem dX5_carOn_18 : decode cX5_carOn 18 = .ok (.invokevirtual 61, 3) := by decide +kernel
theorem dX5_carOn_21 : decode cX5_carOn 21 = .ok (.ifCond .ne 5, 3) := by decide +kernel
theorem dX5_carOn_24 : decode cX5_carOn 24 = .ok (.iload_n 2, 1) := by decide +kernel
theorem dX5_carOn_25 : decode cX5_carOn 25 = .ok (.ireturn, 1) := by decide +kernel
theorem dX5_carOn_26 : decode cX5_carOn 26 = .ok (.iinc 2 1, 3) := by decide +kernel
theorem dX5_carOn_29 : decode cX5_carOn 29 = .ok (.goto (-27), 3) := by decide +kernel
theorem dX5_carOn_32 : decode cX5_carOn 32 = .ok (.bipush (-4), 2) := by decide +kernel
theorem dX5_carOn_34 : decode cX5_carOn 34 = .ok (.ireturn, 1) := by decide +kernel
theorem dX5_howManyIn_0 : decode cX5_howManyIn 0 = .ok (.iconst 0, 1) := by decide +kernel
theorem dX5_howManyIn_1 : decode cX5_howManyIn 1 = .ok (.istore_n 1, 1) := by decide +kernel
theorem dX5_howManyIn_2 : decode cX5_howManyIn 2 = .ok (.iconst 1, 1) := by decide +kernel
theorem dX5_howManyIn_3 : decode cX5_howManyIn 3 = .ok (.istore_n 2, 1) := by decide +kernel
theorem dX5_howManyIn_4 : decode cX5_howManyIn 4 = .ok (.iload_n 2, 1) := by decide +kernel
theorem dX5_howManyIn_5 : decode cX5_howManyIn 5 = .ok (.aload_n 0, 1) := by decide +kernel
theorem dX5_howManyIn_6 : decode cX5_howManyIn 6 = .ok (.getfield 21, 3) := by decide +kernel
theorem dX5_howManyIn_9 : decode cX5_howManyIn 9 = .ok (.if_icmp .gt 20, 3) := by decide +kernel
theorem dX5_howManyIn_12 : decode cX5_howManyIn 12 = .ok (.aload_n 0, 1) := by decide +kernel
theorem dX5_howManyIn_13 : decode cX5_howManyIn 13 = .ok (.iload_n 2, 1) := by decide +kernel
theorem dX5_howManyIn_14 : decode cX5_howManyIn 14 = .ok (.invokevirtual 65, 3) := by decide +kernel
theorem dX5_howManyIn_17 : decode cX5_howManyIn 17 = .ok (.ifCond .eq 6, 3) := by decide +kernel
theorem dX5_howManyIn_20 : decode cX5_howManyIn 20 = .ok (.iinc 1 1, 3) := by decide +kernel
theorem dX5_howManyIn_23 : decode cX5_howManyIn 23 = .ok (.iinc 2 1, 3) := by decide +kernel
theorem dX5_howManyIn_26 : decode cX5_howManyIn 26 = .ok (.goto (-22), 3) := by decide +kernel
theorem dX5_howManyIn_29 : decode cX5_howManyIn 29 = .ok (.iload_n 1, 1) := by decide +kernel
theorem dX5_howManyIn_30 : decode cX5_howManyIn 30 = .ok (.ireturn, 1) := by decide +kernel
theorem dX5_howManyLucky_0 : decode cX5_howManyLucky 0 = .ok (.iconst 0, 1) := by decide +kernel
theorem dX5_howManyLucky_1 : decode cX5_howManyLucky 1 = .ok (.istore_n 1, 1) := by decide +kernel
theorem dX5_howManyLucky_2 : decode cX5_howManyLucky 2 = .ok (.iconst 1, 1) := by decide +kernel
theorem dX5_howManyLucky_3 : decode cX5_howManyLucky 3 = .ok (.istore_n 2, 1) := by decide +kernel
theorem dX5_howManyLucky_4 : decode cX5_howManyLucky 4 = .ok (.iload_n 2, 1) := by decide +kernel
theorem dX5_howManyLucky_5 : decode cX5_howManyLucky 5 = .ok (.aload_n 0, 1) := by decide +kernel
theorem dX5_howManyLucky_6 : decode cX5_howManyLucky 6 = .ok (.getfield 21, 3) := by decide +kernel
theorem dX5_howManyLucky_9 : decode cX5_howManyLucky 9 = .ok (.if_icmp .gt 20, 3) := by decide +kernel
theorem dX5_howManyLucky_12 : decode cX5_howManyLucky 12 = .ok (.aload_n 0, 1) := by decide +kernel
theorem dX5_howManyLucky_13 : decode cX5_howManyLucky 13 = .ok (.iload_n 2, 1) := by decide +kernel
theorem dX5_howManyLucky_14 : decode cX5_howManyLucky 14 = .ok (.invokevirtual 69, 3) := by decide +kernel
theorem dX5_howManyLucky_17 : decode cX5_howManyLucky 17 = .ok (.ifCond .eq 6, 3) := by decide +kernel
theorem dX5_howManyLucky_20 : decode cX5_howManyLucky 20 = .ok (.iinc 1 1, 3) := by decide +kernel
theorem dX5_howManyLucky_23 : decode cX5_howManyLucky 23 = .ok (.iinc 2 1, 3) := by decide +kernel
theorem dX5_howManyLucky_26 : decode cX5_howManyLucky 26 = .ok (.goto (-22), 3) := by decide +kernel
theorem dX5_howManyLucky_29 : decode cX5_howManyLucky 29 = .ok (.iload_n 1, 1) := by decide +kernel
theorem dX5_howManyLucky_30 : decode cX5_howManyLucky 30 = .ok (.ireturn, 1) := by decide +kernel
theorem dX5_farOfAll_0 : decode cX5_farOfAll 0 = .ok (.iconst 0, 1) := by decide +kernel
theorem dX5_farOfAll_1 : decode cX5_farOfAll 1 = .ok (.istore_n 1, 1) := by decide +kernel
theorem dX5_farOfAll_2 : decode cX5_farOfAll 2 = .ok (.iconst 1, 1) := by decide +kernel
theorem dX5_farOfAll_3 : decode cX5_farOfAll 3 = .ok (.istore_n 2, 1) := by decide +kernel
theorem dX5_farOfAll_4 : decode cX5_farOfAll 4 = .ok (.iload_n 2, 1) := by decide +kernel
theorem dX5_farOfAll_5 : decode cX5_farOfAll 5 = .ok (.aload_n 0, 1) := by decide +kernel
theorem dX5_farOfAll_6 : decode cX5_farOfAll 6 = .ok (.getfield 21, 3) := by decide +kernel
theorem dX5_farOfAll_9 : decode cX5_farOfAll 9 = .ok (.if_icmp .gt 25, 3) := by decide +kernel
theorem dX5_farOfAll_12 : decode cX5_farOfAll 12 = .ok (.aload_n 0, 1) := by decide +kernel
theorem dX5_farOfAll_13 : decode cX5_farOfAll 13 = .ok (.iload_n 2, 1) := by decide +kernel
theorem dX5_farOfAll_14 : decode cX5_farOfAll 14 = .ok (.invokevirtual 65, 3) := by decide +kernel
theorem dX5_farOfAll_17 : decode cX5_farOfAll 17 = .ok (.ifCond .eq 11, 3) := by decide +kernel
theorem dX5_farOfAll_20 : decode cX5_farOfAll 20 = .ok (.iload_n 1, 1) := by decide +kernel
theorem dX5_farOfAll_21 : decode cX5_farOfAll 21 = .ok (.aload_n 0, 1) := by decide +kernel
theorem dX5_farOfAll_22 : decode cX5_farOfAll 22 = .ok (.iload_n 2, 1) := by decide +kernel
theorem dX5_farOfAll_23 : decode cX5_farOfAll 23 = .ok (.invokevirtual 72, 3) := by decide +kernel
theorem dX5_farOfAll_26 : decode cX5_farOfAll 26 = .ok (.iadd, 1) := by decide +kernel
theorem dX5_farOfAll_27 : decode cX5_farOfAll 27 = .ok (.istore_n 1, 1) := by decide +kernel
theorem dX5_farOfAll_28 : decode cX5_farOfAll 28 = .ok (.iinc 2 1, 3) := by decide +kernel
theorem dX5_farOfAll_31 : decode cX5_farOfAll 31 = .ok (.goto (-27), 3) := by decide +kernel
theorem dX5_farOfAll_34 : decode cX5_farOfAll 34 = .ok (.iload_n 1, 1) := by decide +kernel
theorem dX5_farOfAll_35 : decode cX5_farOfAll 35 = .ok (.ireturn, 1) := by decide +kernel
theorem dX5_farthest_0 : decode cX5_farthest 0 = .ok (.iconst 0, 1) := by decide +kernel
theorem dX5_farthest_1 : decode cX5_farthest 1 = .ok (.istore_n 1, 1) := by decide +kernel
theorem dX5_farthest_2 : decode cX5_farthest 2 = .ok (.iconst 1, 1) := by decide +kernel
theorem dX5_farthest_3 : decode cX5_farthest 3 = .ok (.istore_n 2, 1) := by decide +kernel
theorem dX5_farthest_4 : decode cX5_farthest 4 = .ok (.iload_n 2, 1) := by decide +kernel
theorem dX5_farthest_5 : decode cX5_farthest 5 = .ok (.aload_n 0, 1) := by decide +kernel
theorem dX5_farthest_6 : decode cX5_farthest 6 = .ok (.getfield 21, 3) := by decide +kernel
theorem dX5_farthest_9 : decode cX5_farthest 9 = .ok (.if_icmp .gt 27, 3) := by decide +kernel
theorem dX5_farthest_12 : decode cX5_farthest 12 = .ok (.aload_n 0, 1) := by decide +kernel
theorem dX5_farthest_13 : decode cX5_farthest 13 = .ok (.iload_n 2, 1) := by decide +kernel
theorem dX5_farthest_14 : decode cX5_farthest 14 = .ok (.invokevirtual 65, 3) := by decide +kernel
theorem dX5_farthest_17 : decode cX5_farthest 17 = .ok (.ifCond .eq 13, 3) := by decide +kernel
theorem dX5_farthest_20 : decode cX5_farthest 20 = .ok (.iload_n 1, 1) := by decide +kernel
theorem dX5_farthest_21 : decode cX5_farthest 21 = .ok (.aload_n 0, 1) := by decide +kernel
theorem dX5_farthest_22 : decode cX5_farthest 22 = .ok (.iload_n 2, 1) := by decide +kernel
theorem dX5_farthest_23 : decode cX5_farthest 23 = .ok (.invokevirtual 72, 3) := by decide +kernel
theorem dX5_farthest_26 : decode cX5_farthest 26 = .ok (.invokestatic 76, 3) := by decide +kernel
theorem dX5_farthest_29 : decode cX5_farthest 29 = .ok (.istore_n 1, 1) := by decide +kernel
theorem dX5_farthest_30 : decode cX5_farthest 30 = .ok (.iinc 2 1, 3) := by decide +kernel
theorem dX5_farthest_33 : decode cX5_farthest 33 = .ok (.goto (-29), 3) := by decide +kernel
theorem dX5_farthest_36 : decode cX5_farthest 36 = .ok (.iload_n 1, 1) := by decide +kernel
theorem dX5_farthest_37 : decode cX5_farthest 37 = .ok (.ireturn, 1) := by decide +kernel
theorem dX5_allIn_0 : decode cX5_allIn 0 = .ok (.aload_n 0, 1) := by decide +kernel
theorem dX5_allIn_1 : decode cX5_allIn 1 = .ok (.invokevirtual 81, 3) := by decide +kernel
theorem dX5_allIn_4 : decode cX5_allIn 4 = .ok (.aload_n 0, 1) := by decide +kernel
theorem dX5_allIn_5 : decode cX5_allIn 5 = .ok (.getfield 21, 3) := by decide +kernel
theorem dX5_allIn_8 : decode cX5_allIn 8 = .ok (.if_icmp .ne 7, 3) := by decide +kernel
theorem dX5_allIn_11 : decode cX5_allIn 11 = .ok (.iconst 1, 1) := by decide +kernel
theorem dX5_allIn_12 : decode cX5_allIn 12 = .ok (.goto 4, 3) := by decide +kernel
theorem dX5_allIn_15 : decode cX5_allIn 15 = .ok (.iconst 0, 1) := by decide +kernel
theorem dX5_allIn_16 : decode cX5_allIn 16 = .ok (.ireturn, 1) := by decide +kernel
theorem dX5_isPlain_0 : decode cX5_isPlain 0 = .ok (.iconst 1, 1) := by decide +kernel
theorem dX5_isPlain_1 : decode cX5_isPlain 1 = .ok (.istore_n 1, 1) := by decide +kernel
theorem dX5_isPlain_2 : decode cX5_isPlain 2 = .ok (.iload_n 1, 1) := by decide +kernel
theorem dX5_isPlain_3 : decode cX5_isPlain 3 = .ok (.aload_n 0, 1) := by decide +kernel
theorem dX5_isPlain_4 : decode cX5_isPlain 4 = .ok (.getfield 21, 3) := by decide +kernel
theorem dX5_isPlain_7 : decode cX5_isPlain 7 = .ok (.if_icmp .gt 21, 3) := by decide +kernel
theorem dX5_isPlain_10 : decode cX5_isPlain 10 = .ok (.aload_n 0, 1) := by decide +kernel
theorem dX5_isPlain_11 : decode cX5_isPlain 11 = .ok (.getfield 31, 3) := by decide +kernel
theorem dX5_isPlain_14 : decode cX5_isPlain 14 = .ok (.iload_n 1, 1) := by decide +kernel
theorem dX5_isPlain_15 : decode cX5_isPlain 15 = .ok (.iaload, 1) := by decide +kernel
theorem dX5_isPlain_16 : decode cX5_isPlain 16 = .ok (.iconst 1, 1) := by decide +kernel
theorem dX5_isPlain_17 : decode cX5_isPlain 17 = .ok (.if_icmp .eq 5, 3) := by decide +kernel
theorem dX5_isPlain_20 : decode cX5_isPlain 20 = .ok (.iconst 0, 1) := by decide +kernel
theorem dX5_isPlain_21 : decode cX5_isPlain 21 = .ok (.ireturn, 1) := by decide +kernel
theorem dX5_isPlain_22 : decode cX5_isPlain 22 = .ok (.iinc 1 1, 3) := by decide +kernel
theorem dX5_isPlain_25 : decode cX5_isPlain 25 = .ok (.goto (-23), 3) := by decide +kernel
theorem dX5_isPlain_28 : decode cX5_isPlain 28 = .ok (.aload_n 0, 1) := by decide +kernel
theorem dX5_isPlain_29 : decode cX5_isPlain 29 = .ok (.getfield 9, 3) := by decide +kernel
theorem dX5_isPlain_32 : decode cX5_isPlain 32 = .ok (.ifCond .ne 7, 3) := by decide +kernel
theorem dX5_isPlain_35 : decode cX5_isPlain 35 = .ok (.iconst 1, 1) := by decide +kernel
theorem dX5_isPlain_36 : decode cX5_isPlain 36 = .ok (.goto 4, 3) := by decide +kernel
theorem dX5_isPlain_39 : decode cX5_isPlain 39 = .ok (.iconst 0, 1) := by decide +kernel
theorem dX5_isPlain_40 : decode cX5_isPlain 40 = .ok (.ireturn, 1) := by decide +kernel
theorem dX5_isRising_0 : decode cX5_isRising 0 = .ok (.iconst 2, 1) := by decide +kernel
theorem dX5_isRising_1 : decode cX5_isRising 1 = .ok (.istore_n 1, 1) := by decide +kernel
theorem dX5_isRising_2 : decode cX5_isRising 2 = .ok (.iload_n 1, 1) := by decide +kernel
theorem dX5_isRising_3 : decode cX5_isRising 3 = .ok (.aload_n 0, 1) := by decide +kernel
theorem dX5_isRising_4 : decode cX5_isRising 4 = .ok (.getfield 21, 3) := by decide +kernel
theorem dX5_isRising_7 : decode cX5_isRising 7 = .ok (.if_icmp .gt 28, 3) := by decide +kernel
theorem dX5_isRising_10 : decode cX5_isRising 10 = .ok (.aload_n 0, 1) := by decide +kernel
theorem dX5_isRising_11 : decode cX5_isRising 11 = .ok (.getfield 27, 3) := by decide +kernel
theorem dX5_isRising_14 : decode cX5_isRising 14 = .ok (.iload_n 1, 1) := by decide +kernel
theorem dX5_isRising_15 : decode cX5_isRising 15 = .ok (.iaload, 1) := by decide +kernel
theorem dX5_isRising_16 : decode cX5_isRising 16 = .ok (.aload_n 0, 1) := by decide +kernel
theorem dX5_isRising_17 : decode cX5_isRising 17 = .ok (.getfield 27, 3) := by decide +kernel
theorem dX5_isRising_20 : decode cX5_isRising 20 = .ok (.iload_n 1, 1) := by decide +kernel
theorem dX5_isRising_21 : decode cX5_isRising 21 = .ok (.iconst 1, 1) := by decide +kernel
theorem dX5_isRising_22 : decode cX5_isRising 22 = .ok (.isub, 1) := by decide +kernel
theorem dX5_isRising_23 : decode cX5_isRising 23 = .ok (.iaload, 1) := by decide +kernel
theorem dX5_isRising_24 : decode cX5_isRising 24 = .ok (.if_icmp .ge 5, 3) := by decide +kernel
theorem dX5_isRising_27 : decode cX5_isRising 27 = .ok (.iconst 0, 1) := by decide +kernel
theorem dX5_isRising_28 : decode cX5_isRising 28 = .ok (.ireturn, 1) := by decide +kernel
theorem dX5_isRising_29 : decode cX5_isRising 29 = .ok (.iinc 1 1, 3) := by decide +kernel
theorem dX5_isRising_32 : decode cX5_isRising 32 = .ok (.goto (-30), 3) := by decide +kernel
theorem dX5_isRising_35 : decode cX5_isRising 35 = .ok (.iconst 1, 1) := by decide +kernel
theorem dX5_isRising_36 : decode cX5_isRising 36 = .ok (.ireturn, 1) := by decide +kernel
theorem dX5_hasFewRows_0 : decode cX5_hasFewRows 0 = .ok (.iconst 1, 1) := by decide +kernel
theorem dX5_hasFewRows_1 : decode cX5_hasFewRows 1 = .ok (.istore_n 1, 1) := by decide +kernel
theorem dX5_hasFewRows_2 : decode cX5_hasFewRows 2 = .ok (.iconst 1, 1) := by decide +kernel
theorem dX5_hasFewRows_3 : decode cX5_hasFewRows 3 = .ok (.istore_n 2, 1) := by decide +kernel
theorem dX5_hasFewRows_4 : decode cX5_hasFewRows 4 = .ok (.iload_n 2, 1) := by decide +kernel
theorem dX5_hasFewRows_5 : decode cX5_hasFewRows 5 = .ok (.aload_n 0, 1) := by decide +kernel
theorem dX5_hasFewRows_6 : decode cX5_hasFewRows 6 = .ok (.getfield 21, 3) := by decide +kernel
theorem dX5_hasFewRows_9 : decode cX5_hasFewRows 9 = .ok (.if_icmp .gt 22, 3) := by decide +kernel
theorem dX5_hasFewRows_12 : decode cX5_hasFewRows 12 = .ok (.iload_n 1, 1) := by decide +kernel
theorem dX5_hasFewRows_13 : decode cX5_hasFewRows 13 = .ok (.ldc 85, 2) := by decide +kernel
theorem dX5_hasFewRows_15 : decode cX5_hasFewRows 15 = .ok (.if_icmp .gt 16, 3) := by decide +kernel
theorem dX5_hasFewRows_18 : decode cX5_hasFewRows 18 = .ok (.iload_n 1, 1) := by decide +kernel
theorem dX5_hasFewRows_19 : decode cX5_hasFewRows 19 = .ok (.aload_n 0, 1) := by decide +kernel
theorem dX5_hasFewRows_20 : decode cX5_hasFewRows 20 = .ok (.getfield 15, 3) := by decide +kernel
theorem dX5_hasFewRows_23 : decode cX5_hasFewRows 23 = .ok (.imul, 1) := by decide +kernel
theorem dX5_hasFewRows_24 : decode cX5_hasFewRows 24 = .ok (.istore_n 1, 1) := by decide +kernel
theorem dX5_hasFewRows_25 : decode cX5_hasFewRows 25 = .ok (.iinc 2 1, 3) := by decide +kernel
theorem dX5_hasFewRows_28 : decode cX5_hasFewRows 28 = .ok (.goto (-24), 3) := by decide +kernel
theorem dX5_hasFewRows_31 : decode cX5_hasFewRows 31 = .ok (.iload_n 1, 1) := by decide +kernel
theorem dX5_hasFewRows_32 : decode cX5_hasFewRows 32 = .ok (.ldc 85, 2) := by decide +kernel
theorem dX5_hasFewRows_34 : decode cX5_hasFewRows 34 = .ok (.if_icmp .gt 7, 3) := by decide +kernel
theorem dX5_hasFewRows_37 : decode cX5_hasFewRows 37 = .ok (.iconst 1, 1) := by decide +kernel
theorem dX5_hasFewRows_38 : decode cX5_hasFewRows 38 = .ok (.goto 4, 3) := by decide +kernel
theorem dX5_hasFewRows_41 : decode cX5_hasFewRows 41 = .ok (.iconst 0, 1) := by decide +kernel
theorem dX5_hasFewRows_42 : decode cX5_hasFewRows 42 = .ok (.ireturn, 1) := by decide +kernel
theorem dX5_rowsLikeIt_0 : decode cX5_rowsLikeIt 0 = .ok (.lconst 1, 1) := by decide +kernel
theorem dX5_rowsLikeIt_1 : decode cX5_rowsLikeIt 1 = .ok (.lstore_n 1, 1) := by decide +kernel
theorem dX5_rowsLikeIt_2 : decode cX5_rowsLikeIt 2 = .ok (.iconst 0, 1) := by decide +kernel
theorem dX5_rowsLikeIt_3 : decode cX5_rowsLikeIt 3 = .ok (.istore_n 3, 1) := by decide +kernel
theorem dX5_rowsLikeIt_4 : decode cX5_rowsLikeIt 4 = .ok (.iconst 1, 1) := by decide +kernel
theorem dX5_rowsLikeIt_5 : decode cX5_rowsLikeIt 5 = .ok (.istore 4, 2) := by decide +kernel
theorem dX5_rowsLikeIt_7 : decode cX5_rowsLikeIt 7 = .ok (.iload 4, 2) := by decide +kernel
theorem dX5_rowsLikeIt_9 : decode cX5_rowsLikeIt 9 = .ok (.aload_n 0, 1) := by decide +kernel
theorem dX5_rowsLikeIt_10 : decode cX5_rowsLikeIt 10 = .ok (.getfield 21, 3) := by decide +kernel
theorem dX5_rowsLikeIt_13 : decode cX5_rowsLikeIt 13 = .ok (.if_icmp .gt 68, 3) := by decide +kernel
theorem dX5_rowsLikeIt_16 : decode cX5_rowsLikeIt 16 = .ok (.aload_n 0, 1) := by decide +kernel
theorem dX5_rowsLikeIt_17 : decode cX5_rowsLikeIt 17 = .ok (.getfield 34, 3) := by decide +kernel
theorem dX5_rowsLikeIt_20 : decode cX5_rowsLikeIt 20 = .ok (.iload 4, 2) := by decide +kernel
theorem dX5_rowsLikeIt_22 : decode cX5_rowsLikeIt 22 = .ok (.iaload, 1) := by decide +kernel
theorem dX5_rowsLikeIt_23 : decode cX5_rowsLikeIt 23 = .ok (.istore 5, 2) := by decide +kernel
theorem dX5_rowsLikeIt_25 : decode cX5_rowsLikeIt 25 = .ok (.iload 5, 2) := by decide +kernel
theorem dX5_rowsLikeIt_27 : decode cX5_rowsLikeIt 27 = .ok (.iconst 1, 1) := by decide +kernel
theorem dX5_rowsLikeIt_28 : decode cX5_rowsLikeIt 28 = .ok (.if_icmp .le 21, 3) := by decide +kernel
theorem dX5_rowsLikeIt_31 : decode cX5_rowsLikeIt 31 = .ok (.aload_n 0, 1) := by decide +kernel
theorem dX5_rowsLikeIt_32 : decode cX5_rowsLikeIt 32 = .ok (.iload_n 3, 1) := by decide +kernel
theorem dX5_rowsLikeIt_33 : decode cX5_rowsLikeIt 33 = .ok (.iload 5, 2) := by decide +kernel
theorem dX5_rowsLikeIt_35 : decode cX5_rowsLikeIt 35 = .ok (.iconst 1, 1) := by decide +kernel
theorem dX5_rowsLikeIt_36 : decode cX5_rowsLikeIt 36 = .ok (.isub, 1) := by decide +kernel
theorem dX5_rowsLikeIt_37 : decode cX5_rowsLikeIt 37 = .ok (.invokevirtual 61, 3) := by decide +kernel
theorem dX5_rowsLikeIt_40 : decode cX5_rowsLikeIt 40 = .ok (.ifCond .ne 9, 3) := by decide +kernel
theorem dX5_rowsLikeIt_43 : decode cX5_rowsLikeIt 43 = .ok (.iinc 5 (-1), 3) := by decide +kernel
theorem dX5_rowsLikeIt_46 : decode cX5_rowsLikeIt 46 = .ok (.goto (-21), 3) := by decide +kernel
theorem dX5_rowsLikeIt_49 : decode cX5_rowsLikeIt 49 = .ok (.lload_n 1, 1) := by decide +kernel
theorem dX5_rowsLikeIt_50 : decode cX5_rowsLikeIt 50 = .ok (.aload_n 0, 1) := by decide +kernel
theorem dX5_rowsLikeIt_51 : decode cX5_rowsLikeIt 51 = .ok (.getfield 34, 3) := by decide +kernel
theorem dX5_rowsLikeIt_54 : decode cX5_rowsLikeIt 54 = .ok (.iload 4, 2) := by decide +kernel
theorem dX5_rowsLikeIt_56 : decode cX5_rowsLikeIt 56 = .ok (.iaload, 1) := by decide +kernel
theorem dX5_rowsLikeIt_57 : decode cX5_rowsLikeIt 57 = .ok (.iload 5, 2) := by decide +kernel
theorem dX5_rowsLikeIt_59 : decode cX5_rowsLikeIt 59 = .ok (.isub, 1) := by decide +kernel
theorem dX5_rowsLikeIt_60 : decode cX5_rowsLikeIt 60 = .ok (.iconst 1, 1) := by decide +kernel
theorem dX5_rowsLikeIt_61 : decode cX5_rowsLikeIt 61 = .ok (.iadd, 1) := by decide +kernel
theorem dX5_rowsLikeIt_62 : decode cX5_rowsLikeIt 62 = .ok (.i2l, 1) := by decide +kernel
theorem dX5_rowsLikeIt_63 : decode cX5_rowsLikeIt 63 = .ok (.lmul, 1) := by decide +kernel
theorem dX5_rowsLikeIt_64 : decode cX5_rowsLikeIt 64 = .ok (.lstore_n 1, 1) := by decide +kernel
theorem dX5_rowsLikeIt_65 : decode cX5_rowsLikeIt 65 = .ok (.iload_n 3, 1) := by decide +kernel
theorem dX5_rowsLikeIt_66 : decode cX5_rowsLikeIt 66 = .ok (.aload_n 0, 1) := by decide +kernel
theorem dX5_rowsLikeIt_67 : decode cX5_rowsLikeIt 67 = .ok (.getfield 37, 3) := by decide +kernel
theorem dX5_rowsLikeIt_70 : decode cX5_rowsLikeIt 70 = .ok (.iload 4, 2) := by decide +kernel
theorem dX5_rowsLikeIt_72 : decode cX5_rowsLikeIt 72 = .ok (.iaload, 1) := by decide +kernel
theorem dX5_rowsLikeIt_73 : decode cX5_rowsLikeIt 73 = .ok (.ior, 1) := by decide +kernel
theorem dX5_rowsLikeIt_74 : decode cX5_rowsLikeIt 74 = .ok (.istore_n 3, 1) := by decide +kernel
theorem dX5_rowsLikeIt_75 : decode cX5_rowsLikeIt 75 = .ok (.iinc 4 1, 3) := by decide +kernel
theorem dX5_rowsLikeIt_78 : decode cX5_rowsLikeIt 78 = .ok (.goto (-71), 3) := by decide +kernel
theorem dX5_rowsLikeIt_81 : decode cX5_rowsLikeIt 81 = .ok (.lload_n 1, 1) := by decide +kernel
theorem dX5_rowsLikeIt_82 : decode cX5_rowsLikeIt 82 = .ok (.lreturn, 1) := by decide +kernel
theorem dX5_ordersOfWishes_0 : decode cX5_ordersOfWishes 0 = .ok (.lconst 1, 1) := by decide +kernel
theorem dX5_ordersOfWishes_1 : decode cX5_ordersOfWishes 1 = .ok (.lstore_n 1, 1) := by decide +kernel
theorem dX5_ordersOfWishes_2 : decode cX5_ordersOfWishes 2 = .ok (.iconst 1, 1) := by decide +kernel
theorem dX5_ordersOfWishes_3 : decode cX5_ordersOfWishes 3 = .ok (.istore_n 3, 1) := by decide +kernel
theorem dX5_ordersOfWishes_4 : decode cX5_ordersOfWishes 4 = .ok (.iload_n 3, 1) := by decide +kernel
theorem dX5_ordersOfWishes_5 : decode cX5_ordersOfWishes 5 = .ok (.aload_n 0, 1) := by decide +kernel
theorem dX5_ordersOfWishes_6 : decode cX5_ordersOfWishes 6 = .ok (.getfield 21, 3) := by decide +kernel
theorem dX5_ordersOfWishes_9 : decode cX5_ordersOfWishes 9 = .ok (.if_icmp .gt 55, 3) := by decide +kernel
theorem dX5_ordersOfWishes_12 : decode cX5_ordersOfWishes 12 = .ok (.iconst 1, 1) := by decide +kernel
theorem dX5_ordersOfWishes_13 : decode cX5_ordersOfWishes 13 = .ok (.istore 4, 2) := by decide +kernel
theorem dX5_ordersOfWishes_15 : decode cX5_ordersOfWishes 15 = .ok (.iconst 1, 1) := by decide +kernel
theorem dX5_ordersOfWishes_16 : decode cX5_ordersOfWishes 16 = .ok (.istore 5, 2) := by decide +kernel
theorem dX5_ordersOfWishes_18 : decode cX5_ordersOfWishes 18 = .ok (.iload 5, 2) := by decide +kernel
theorem dX5_ordersOfWishes_20 : decode cX5_ordersOfWishes 20 = .ok (.iload_n 3, 1) := by decide +kernel
theorem dX5_ordersOfWishes_21 : decode cX5_ordersOfWishes 21 = .ok (.if_icmp .ge 28, 3) := by decide +kernel
theorem dX5_ordersOfWishes_24 : decode cX5_ordersOfWishes 24 = .ok (.aload_n 0, 1) := by decide +kernel
theorem dX5_ordersOfWishes_25 : decode cX5_ordersOfWishes 25 = .ok (.getfield 27, 3) := by decide +kernel
theorem dX5_ordersOfWishes_28 : decode cX5_ordersOfWishes 28 = .ok (.iload 5, 2) := by decide +kernel
theorem dX5_ordersOfWishes_30 : decode cX5_ordersOfWishes 30 = .ok (.iaload, 1) := by decide +kernel
theorem dX5_ordersOfWishes_31 : decode cX5_ordersOfWishes 31 = .ok (.aload_n 0, 1) := by decide +kernel
theorem dX5_ordersOfWishes_32 : decode cX5_ordersOfWishes 32 = .ok (.getfield 27, 3) := by decide +kernel
theorem dX5_ordersOfWishes_35 : decode cX5_ordersOfWishes 35 = .ok (.iload_n 3, 1) := by decide +kernel
theorem dX5_ordersOfWishes_36 : decode cX5_ordersOfWishes 36 = .ok (.iaload, 1) := by decide +kernel
theorem dX5_ordersOfWishes_37 : decode cX5_ordersOfWishes 37 = .ok (.if_icmp .ne 6, 3) := by decide +kernel
theorem dX5_ordersOfWishes_40 : decode cX5_ordersOfWishes 40 = .ok (.iinc 4 1, 3) := by decide +kernel
theorem dX5_ordersOfWishes_43 : decode cX5_ordersOfWishes 43 = .ok (.iinc 5 1, 3) := by decide +kernel
theorem dX5_ordersOfWishes_46 : decode cX5_ordersOfWishes 46 = .ok (.goto (-28), 3) := by decide +kernel
theorem dX5_ordersOfWishes_49 : decode cX5_ordersOfWishes 49 = .ok (.lload_n 1, 1) := by decide +kernel
theorem dX5_ordersOfWishes_50 : decode cX5_ordersOfWishes 50 = .ok (.iload_n 3, 1) := by decide +kernel
theorem dX5_ordersOfWishes_51 : decode cX5_ordersOfWishes 51 = .ok (.i2l, 1) := by decide +kernel
theorem dX5_ordersOfWishes_52 : decode cX5_ordersOfWishes 52 = .ok (.lmul, 1) := by decide +kernel
theorem dX5_ordersOfWishes_53 : decode cX5_ordersOfWishes 53 = .ok (.iload 4, 2) := by decide +kernel
theorem dX5_ordersOfWishes_55 : decode cX5_ordersOfWishes 55 = .ok (.i2l, 1) := by decide +kernel
theorem dX5_ordersOfWishes_56 : decode cX5_ordersOfWishes 56 = .ok (.ldiv, 1) := by decide +kernel
theorem dX5_ordersOfWishes_57 : decode cX5_ordersOfWishes 57 = .ok (.lstore_n 1, 1) := by decide +kernel
theorem dX5_ordersOfWishes_58 : decode cX5_ordersOfWishes 58 = .ok (.iinc 3 1, 3) := by decide +kernel
theorem dX5_ordersOfWishes_61 : decode cX5_ordersOfWishes 61 = .ok (.goto (-57), 3) := by decide +kernel
theorem dX5_ordersOfWishes_64 : decode cX5_ordersOfWishes 64 = .ok (.lload_n 1, 1) := by decide +kernel
theorem dX5_ordersOfWishes_65 : decode cX5_ordersOfWishes 65 = .ok (.lreturn, 1) := by decide +kernel
theorem dX5_wishesUpTo_0 : decode cX5_wishesUpTo 0 = .ok (.iconst 0, 1) := by decide +kernel
theorem dX5_wishesUpTo_1 : decode cX5_wishesUpTo 1 = .ok (.istore_n 2, 1) := by decide +kernel
theorem dX5_wishesUpTo_2 : decode cX5_wishesUpTo 2 = .ok (.iconst 1, 1) := by decide +kernel
theorem dX5_wishesUpTo_3 : decode cX5_wishesUpTo 3 = .ok (.istore_n 3, 1) := by decide +kernel
theorem dX5_wishesUpTo_4 : decode cX5_wishesUpTo 4 = .ok (.iload_n 3, 1) := by decide +kernel
theorem dX5_wishesUpTo_5 : decode cX5_wishesUpTo 5 = .ok (.aload_n 0, 1) := by decide +kernel
theorem dX5_wishesUpTo_6 : decode cX5_wishesUpTo 6 = .ok (.getfield 21, 3) := by decide +kernel
theorem dX5_wishesUpTo_9 : decode cX5_wishesUpTo 9 = .ok (.if_icmp .gt 22, 3) := by decide +kernel
theorem dX5_wishesUpTo_12 : decode cX5_wishesUpTo 12 = .ok (.aload_n 0, 1) := by decide +kernel
theorem dX5_wishesUpTo_13 : decode cX5_wishesUpTo 13 = .ok (.getfield 27, 3) := by decide +kernel
theorem dX5_wishesUpTo_16 : decode cX5_wishesUpTo 16 = .ok (.iload_n 3, 1) := by decide +kernel
theorem dX5_wishesUpTo_17 : decode cX5_wishesUpTo 17 = .ok (.iaload, 1) := by decide +kernel
theorem dX5_wishesUpTo_18 : decode cX5_wishesUpTo 18 = .ok (.iload_n 1, 1) := by decide +kernel
theorem dX5_wishesUpTo_19 : decode cX5_wishesUpTo 19 = .ok (.if_icmp .gt 6, 3) := by decide +kernel
theorem dX5_wishesUpTo_22 : decode cX5_wishesUpTo 22 = .ok (.iinc 2 1, 3) := by decide +kernel
theorem dX5_wishesUpTo_25 : decode cX5_wishesUpTo 25 = .ok (.iinc 3 1, 3) := by decide +kernel
theorem dX5_wishesUpTo_28 : decode cX5_wishesUpTo 28 = .ok (.goto (-24), 3) := by decide +kernel
theorem dX5_wishesUpTo_31 : decode cX5_wishesUpTo 31 = .ok (.iload_n 2, 1) := by decide +kernel
theorem dX5_wishesUpTo_32 : decode cX5_wishesUpTo 32 = .ok (.ireturn, 1) := by decide +kernel
theorem dX5_sortWishes_0 : decode cX5_sortWishes 0 = .ok (.aload_n 0, 1) := by decide +kernel
theorem dX5_sortWishes_1 : decode cX5_sortWishes 1 = .ok (.getfield 27, 3) := by decide +kernel
theorem dX5_sortWishes_4 : decode cX5_sortWishes 4 = .ok (.iconst 0, 1) := by decide +kernel
theorem dX5_sortWishes_5 : decode cX5_sortWishes 5 = .ok (.aload_n 0, 1) := by decide +kernel
theorem dX5_sortWishes_6 : decode cX5_sortWishes 6 = .ok (.getfield 40, 3) := by decide +kernel
theorem dX5_sortWishes_9 : decode cX5_sortWishes 9 = .ok (.iconst 0, 1) := by decide +kernel
theorem dX5_sortWishes_10 : decode cX5_sortWishes 10 = .ok (.aload_n 0, 1) := by decide +kernel
theorem dX5_sortWishes_11 : decode cX5_sortWishes 11 = .ok (.getfield 27, 3) := by decide +kernel
theorem dX5_sortWishes_14 : decode cX5_sortWishes 14 = .ok (.arraylength, 1) := by decide +kernel
theorem dX5_sortWishes_15 : decode cX5_sortWishes 15 = .ok (.invokestatic 86, 3) := by decide +kernel
theorem dX5_sortWishes_18 : decode cX5_sortWishes 18 = .ok (.iconst 0, 1) := by decide +kernel
theorem dX5_sortWishes_19 : decode cX5_sortWishes 19 = .ok (.istore_n 1, 1) := by decide +kernel
theorem dX5_sortWishes_20 : decode cX5_sortWishes 20 = .ok (.iconst 1, 1) := by decide +kernel
theorem dX5_sortWishes_21 : decode cX5_sortWishes 21 = .ok (.istore_n 2, 1) := by decide +kernel
theorem dX5_sortWishes_22 : decode cX5_sortWishes 22 = .ok (.iload_n 2, 1) := by decide +kernel
theorem dX5_sortWishes_23 : decode cX5_sortWishes 23 = .ok (.aload_n 0, 1) := by decide +kernel
theorem dX5_sortWishes_24 : decode cX5_sortWishes 24 = .ok (.getfield 15, 3) := by decide +kernel
theorem dX5_sortWishes_27 : decode cX5_sortWishes 27 = .ok (.if_icmp .gt 45, 3) := by decide +kernel
theorem dX5_sortWishes_30 : decode cX5_sortWishes 30 = .ok (.iconst 1, 1) := by decide +kernel
theorem dX5_sortWishes_31 : decode cX5_sortWishes 31 = .ok (.istore_n 3, 1) := by decide +kernel
theorem dX5_sortWishes_32 : decode cX5_sortWishes 32 = .ok (.iload_n 3, 1) := by decide +kernel
theorem dX5_sortWishes_33 : decode cX5_sortWishes 33 = .ok (.aload_n 0, 1) := by decide +kernel
theorem dX5_sortWishes_34 : decode cX5_sortWishes 34 = .ok (.getfield 21, 3) := by decide +kernel
theorem dX5_sortWishes_37 : decode cX5_sortWishes 37 = .ok (.if_icmp .gt 29, 3) := by decide +kernel
theorem dX5_sortWishes_40 : decode cX5_sortWishes 40 = .ok (.aload_n 0, 1) := by decide +kernel
theorem dX5_sortWishes_41 : decode cX5_sortWishes 41 = .ok (.getfield 40, 3) := by decide +kernel
theorem dX5_sortWishes_44 : decode cX5_sortWishes 44 = .ok (.iload_n 3, 1) := by decide +kernel
theorem dX5_sortWishes_45 : decode cX5_sortWishes 45 = .ok (.iaload, 1) := by decide +kernel
theorem dX5_sortWishes_46 : decode cX5_sortWishes 46 = .ok (.iload_n 2, 1) := by decide +kernel
theorem dX5_sortWishes_47 : decode cX5_sortWishes 47 = .ok (.if_icmp .ne 13, 3) := by decide +kernel
theorem dX5_sortWishes_50 : decode cX5_sortWishes 50 = .ok (.iinc 1 1, 3) := by decide +kernel
theorem dX5_sortWishes_53 : decode cX5_sortWishes 53 = .ok (.aload_n 0, 1) := by decide +kernel
theorem dX5_sortWishes_54 : decode cX5_sortWishes 54 = .ok (.getfield 27, 3) := by decide +kernel
theorem dX5_sortWishes_57 : decode cX5_sortWishes 57 = .ok (.iload_n 1, 1) := by decide +kernel
theorem dX5_sortWishes_58 : decode cX5_sortWishes 58 = .ok (.iload_n 2, 1) := by decide +kernel
theorem dX5_sortWishes_59 : decode cX5_sortWishes 59 = .ok (.iastore, 1) := by decide +kernel
theorem dX5_sortWishes_60 : decode cX5_sortWishes 60 = .ok (.iinc 3 1, 3) := by decide +kernel
theorem dX5_sortWishes_63 : decode cX5_sortWishes 63 = .ok (.goto (-31), 3) := by decide +kernel
theorem dX5_sortWishes_66 : decode cX5_sortWishes 66 = .ok (.iinc 2 1, 3) := by decide +kernel
theorem dX5_sortWishes_69 : decode cX5_sortWishes 69 = .ok (.goto (-47), 3) := by decide +kernel
theorem dX5_sortWishes_72 : decode cX5_sortWishes 72 = .ok (.iconst 0, 1) := by decide +kernel
theorem dX5_sortWishes_73 : decode cX5_sortWishes 73 = .ok (.istore_n 2, 1) := by decide +kernel
theorem dX5_sortWishes_74 : decode cX5_sortWishes 74 = .ok (.iconst 1, 1) := by decide +kernel
theorem dX5_sortWishes_75 : decode cX5_sortWishes 75 = .ok (.istore_n 3, 1) := by decide +kernel
theorem dX5_sortWishes_76 : decode cX5_sortWishes 76 = .ok (.iload_n 3, 1) := by decide +kernel
theorem dX5_sortWishes_77 : decode cX5_sortWishes 77 = .ok (.aload_n 0, 1) := by decide +kernel
theorem dX5_sortWishes_78 : decode cX5_sortWishes 78 = .ok (.getfield 21, 3) := by decide +kernel
theorem dX5_sortWishes_81 : decode cX5_sortWishes 81 = .ok (.if_icmp .gt 27, 3) := by decide +kernel
theorem dX5_sortWishes_84 : decode cX5_sortWishes 84 = .ok (.aload_n 0, 1) := by decide +kernel
theorem dX5_sortWishes_85 : decode cX5_sortWishes 85 = .ok (.getfield 27, 3) := by decide +kernel
theorem dX5_sortWishes_88 : decode cX5_sortWishes 88 = .ok (.iload_n 3, 1) := by decide +kernel
theorem dX5_sortWishes_89 : decode cX5_sortWishes 89 = .ok (.iaload, 1) := by decide +kernel
theorem dX5_sortWishes_90 : decode cX5_sortWishes 90 = .ok (.aload_n 0, 1) := by decide +kernel
theorem dX5_sortWishes_91 : decode cX5_sortWishes 91 = .ok (.getfield 40, 3) := by decide +kernel
theorem dX5_sortWishes_94 : decode cX5_sortWishes 94 = .ok (.iload_n 3, 1) := by decide +kernel
theorem dX5_sortWishes_95 : decode cX5_sortWishes 95 = .ok (.iaload, 1) := by decide +kernel
theorem dX5_sortWishes_96 : decode cX5_sortWishes 96 = .ok (.if_icmp .eq 6, 3) := by decide +kernel
theorem dX5_sortWishes_99 : decode cX5_sortWishes 99 = .ok (.iinc 2 1, 3) := by decide +kernel
theorem dX5_sortWishes_102 : decode cX5_sortWishes 102 = .ok (.iinc 3 1, 3) := by decide +kernel
theorem dX5_sortWishes_105 : decode cX5_sortWishes 105 = .ok (.goto (-29), 3) := by decide +kernel
theorem dX5_sortWishes_108 : decode cX5_sortWishes 108 = .ok (.iload_n 2, 1) := by decide +kernel
theorem dX5_sortWishes_109 : decode cX5_sortWishes 109 = .ok (.ireturn, 1) := by decide +kernel
theorem dX5_cutBits_0 : decode cX5_cutBits 0 = .ok (.iconst 0, 1) := by decide +kernel
theorem dX5_cutBits_1 : decode cX5_cutBits 1 = .ok (.istore_n 1, 1) := by decide +kernel
theorem dX5_cutBits_2 : decode cX5_cutBits 2 = .ok (.iconst 1, 1) := by decide +kernel
theorem dX5_cutBits_3 : decode cX5_cutBits 3 = .ok (.istore_n 2, 1) := by decide +kernel
theorem dX5_cutBits_4 : decode cX5_cutBits 4 = .ok (.iload_n 2, 1) := by decide +kernel
theorem dX5_cutBits_5 : decode cX5_cutBits 5 = .ok (.aload_n 0, 1) := by decide +kernel
theorem dX5_cutBits_6 : decode cX5_cutBits 6 = .ok (.getfield 15, 3) := by decide +kernel
theorem dX5_cutBits_9 : decode cX5_cutBits 9 = .ok (.if_icmp .ge 24, 3) := by decide +kernel
theorem dX5_cutBits_12 : decode cX5_cutBits 12 = .ok (.aload_n 0, 1) := by decide +kernel
theorem dX5_cutBits_13 : decode cX5_cutBits 13 = .ok (.iload_n 2, 1) := by decide +kernel
theorem dX5_cutBits_14 : decode cX5_cutBits 14 = .ok (.invokevirtual 92, 3) := by decide +kernel
theorem dX5_cutBits_17 : decode cX5_cutBits 17 = .ok (.iload_n 2, 1) := by decide +kernel
theorem dX5_cutBits_18 : decode cX5_cutBits 18 = .ok (.if_icmp .ne 9, 3) := by decide +kernel
theorem dX5_cutBits_21 : decode cX5_cutBits 21 = .ok (.iload_n 1, 1) := by decide +kernel
theorem dX5_cutBits_22 : decode cX5_cutBits 22 = .ok (.iconst 1, 1) := by decide +kernel
theorem dX5_cutBits_23 : decode cX5_cutBits 23 = .ok (.iload_n 2, 1) := by decide +kernel
theorem dX5_cutBits_24 : decode cX5_cutBits 24 = .ok (.ishl, 1) := by decide +kernel
theorem dX5_cutBits_25 : decode cX5_cutBits 25 = .ok (.ior, 1) := by decide +kernel
theorem dX5_cutBits_26 : decode cX5_cutBits 26 = .ok (.istore_n 1, 1) := by decide +kernel
theorem dX5_cutBits_27 : decode cX5_cutBits 27 = .ok (.iinc 2 1, 3) := by decide +kernel
theorem dX5_cutBits_30 : decode cX5_cutBits 30 = .ok (.goto (-26), 3) := by decide +kernel
theorem dX5_cutBits_33 : decode cX5_cutBits 33 = .ok (.iload_n 1, 1) := by decide +kernel
theorem dX5_cutBits_34 : decode cX5_cutBits 34 = .ok (.ireturn, 1) := by decide +kernel
theorem dX5_mendWishes_0 : decode cX5_mendWishes 0 = .ok (.iconst 0, 1) := by decide +kernel
theorem dX5_mendWishes_1 : decode cX5_mendWishes 1 = .ok (.istore_n 1, 1) := by decide +kernel
theorem dX5_mendWishes_2 : decode cX5_mendWishes 2 = .ok (.iconst 1, 1) := by decide +kernel
theorem dX5_mendWishes_3 : decode cX5_mendWishes 3 = .ok (.istore_n 2, 1) := by decide +kernel
theorem dX5_mendWishes_4 : decode cX5_mendWishes 4 = .ok (.iload_n 2, 1) := by decide +kernel
theorem dX5_mendWishes_5 : decode cX5_mendWishes 5 = .ok (.aload_n 0, 1) := by decide +kernel
theorem dX5_mendWishes_6 : decode cX5_mendWishes 6 = .ok (.getfield 15, 3) := by decide +kernel
theorem dX5_mendWishes_9 : decode cX5_mendWishes 9 = .ok (.if_icmp .gt 21, 3) := by decide +kernel
theorem dX5_mendWishes_12 : decode cX5_mendWishes 12 = .ok (.iload_n 1, 1) := by decide +kernel
theorem dX5_mendWishes_13 : decode cX5_mendWishes 13 = .ok (.iload_n 2, 1) := by decide +kernel
theorem dX5_mendWishes_14 : decode cX5_mendWishes 14 = .ok (.aload_n 0, 1) := by decide +kernel
theorem dX5_mendWishes_15 : decode cX5_mendWishes 15 = .ok (.iload_n 2, 1) := by decide +kernel
theorem dX5_mendWishes_16 : decode cX5_mendWishes 16 = .ok (.invokevirtual 92, 3) := by decide +kernel
theorem dX5_mendWishes_19 : decode cX5_mendWishes 19 = .ok (.isub, 1) := by decide +kernel
theorem dX5_mendWishes_20 : decode cX5_mendWishes 20 = .ok (.invokestatic 76, 3) := by decide +kernel
theorem dX5_mendWishes_23 : decode cX5_mendWishes 23 = .ok (.istore_n 1, 1) := by decide +kernel
theorem dX5_mendWishes_24 : decode cX5_mendWishes 24 = .ok (.iinc 2 1, 3) := by decide +kernel
theorem dX5_mendWishes_27 : decode cX5_mendWishes 27 = .ok (.goto (-23), 3) := by decide +kernel
theorem dX5_mendWishes_30 : decode cX5_mendWishes 30 = .ok (.iconst 0, 1) := by decide +kernel
theorem dX5_mendWishes_31 : decode cX5_mendWishes 31 = .ok (.istore_n 2, 1) := by decide +kernel
theorem dX5_mendWishes_32 : decode cX5_mendWishes 32 = .ok (.iload_n 2, 1) := by decide +kernel
theorem dX5_mendWishes_33 : decode cX5_mendWishes 33 = .ok (.iload_n 1, 1) := by decide +kernel
theorem dX5_mendWishes_34 : decode cX5_mendWishes 34 = .ok (.if_icmp .ge 19, 3) := by decide +kernel
theorem dX5_mendWishes_37 : decode cX5_mendWishes 37 = .ok (.aload_n 0, 1) := by decide +kernel
theorem dX5_mendWishes_38 : decode cX5_mendWishes 38 = .ok (.getfield 27, 3) := by decide +kernel
theorem dX5_mendWishes_41 : decode cX5_mendWishes 41 = .ok (.aload_n 0, 1) := by decide +kernel
theorem dX5_mendWishes_42 : decode cX5_mendWishes 42 = .ok (.invokevirtual 95, 3) := by decide +kernel
theorem dX5_mendWishes_45 : decode cX5_mendWishes 45 = .ok (.iconst 1, 1) := by decide +kernel
theorem dX5_mendWishes_46 : decode cX5_mendWishes 46 = .ok (.iastore, 1) := by decide +kernel
theorem dX5_mendWishes_47 : decode cX5_mendWishes 47 = .ok (.iinc 2 1, 3) := by decide +kernel
theorem dX5_mendWishes_50 : decode cX5_mendWishes 50 = .ok (.goto (-18), 3) := by decide +kernel
theorem dX5_mendWishes_53 : decode cX5_mendWishes 53 = .ok (.iload_n 1, 1) := by decide +kernel
theorem dX5_mendWishes_54 : decode cX5_mendWishes 54 = .ok (.ireturn, 1) := by decide +kernel
theorem dX5_lastOfGreatestWish_0 : decode cX5_lastOfGreatestWish 0 = .ok (.iconst 1, 1) := by decide +kernel
theorem dX5_lastOfGreatestWish_1 : decode cX5_lastOfGreatestWish 1 = .ok (.istore_n 1, 1) := by decide +kernel
theorem dX5_lastOfGreatestWish_2 : decode cX5_lastOfGreatestWish 2 = .ok (.iconst 2, 1) := by decide +kernel
theorem dX5_lastOfGreatestWish_3 : decode cX5_lastOfGreatestWish 3 = .ok (.istore_n 2, 1) := by decide +kernel
theorem dX5_lastOfGreatestWish_4 : decode cX5_lastOfGreatestWish 4 = .ok (.iload_n 2, 1) := by decide +kernel
theorem dX5_lastOfGreatestWish_5 : decode cX5_lastOfGreatestWish 5 = .ok (.aload_n 0, 1) := by decide +kernel
theorem dX5_lastOfGreatestWish_6 : decode cX5_lastOfGreatestWish 6 = .ok (.getfield 21, 3) := by decide +kernel
theorem dX5_lastOfGreatestWish_9 : decode cX5_lastOfGreatestWish 9 = .ok (.if_icmp .gt 26, 3) := by decide +kernel
theorem dX5_lastOfGreatestWish_12 : decode cX5_lastOfGreatestWish 12 = .ok (.aload_n 0, 1) := by decide +kernel
theorem dX5_lastOfGreatestWish_13 : decode cX5_lastOfGreatestWish 13 = .ok (.getfield 27, 3) := by decide +kernel
theorem dX5_lastOfGreatestWish_16 : decode cX5_lastOfGreatestWish 16 = .ok (.iload_n 2, 1) := by decide +kernel
theorem dX5_lastOfGreatestWish_17 : decode cX5_lastOfGreatestWish 17 = .ok (.iaload, 1) := by decide +kernel
theorem dX5_lastOfGreatestWish_18 : decode cX5_lastOfGreatestWish 18 = .ok (.aload_n 0, 1) := by decide +kernel
theorem dX5_lastOfGreatestWish_19 : decode cX5_lastOfGreatestWish 19 = .ok (.getfield 27, 3) := by decide +kernel
theorem dX5_lastOfGreatestWish_22 : decode cX5_lastOfGreatestWish 22 = .ok (.iload_n 1, 1) := by decide +kernel
theorem dX5_lastOfGreatestWish_23 : decode cX5_lastOfGreatestWish 23 = .ok (.iaload, 1) := by decide +kernel
theorem dX5_lastOfGreatestWish_24 : decode cX5_lastOfGreatestWish 24 = .ok (.if_icmp .lt 5, 3) := by decide +kernel
theorem dX5_lastOfGreatestWish_27 : decode cX5_lastOfGreatestWish 27 = .ok (.iload_n 2, 1) := by decide +kernel
theorem dX5_lastOfGreatestWish_28 : decode cX5_lastOfGreatestWish 28 = .ok (.istore_n 1, 1) := by decide +kernel
theorem dX5_lastOfGreatestWish_29 : decode cX5_lastOfGreatestWish 29 = .ok (.iinc 2 1, 3) := by decide +kernel
theorem dX5_lastOfGreatestWish_32 : decode cX5_lastOfGreatestWish 32 = .ok (.goto (-28), 3) := by decide +kernel
theorem dX5_lastOfGreatestWish_35 : decode cX5_lastOfGreatestWish 35 = .ok (.iload_n 1, 1) := by decide +kernel
theorem dX5_lastOfGreatestWish_36 : decode cX5_lastOfGreatestWish 36 = .ok (.ireturn, 1) := by decide +kernel
theorem dX6_init_0 : decode cX6_init 0 = .ok (.aload_n 0, 1) := by decide +kernel
theorem dX6_init_1 : decode cX6_init 1 = .ok (.invokespecial 3, 3) := by decide +kernel
theorem dX6_init_4 : decode cX6_init 4 = .ok (.aload_n 0, 1) := by decide +kernel
theorem dX6_init_5 : decode cX6_init 5 = .ok (.iconst 4, 1) := by decide +kernel
theorem dX6_init_6 : decode cX6_init 6 = .ok (.newarray .int, 2) := by decide +kernel
theorem dX6_init_8 : decode cX6_init 8 = .ok (.putfield 9, 3) := by decide +kernel
theorem dX6_init_11 : decode cX6_init 11 = .ok (.aload_n 0, 1) := by decide +kernel
theorem dX6_init_12 : decode cX6_init 12 = .ok (.iconst 4, 1) := by decide +kernel
theorem dX6_init_13 : decode cX6_init 13 = .ok (.newarray .int, 2) := by decide +kernel
theorem dX6_init_15 : decode cX6_init 15 = .ok (.putfield 15, 3) := by decide +kernel
theorem dX6_init_18 : decode cX6_init 18 = .ok (.aload_n 0, 1) := by decide +kernel
theorem dX6_init_19 : decode cX6_init 19 = .ok (.iconst 4, 1) := by decide +kernel
theorem dX6_init_20 : decode cX6_init 20 = .ok (.bipush 20, 2) := by decide +kernel
theorem dX6_init_22 : decode cX6_init 22 = .ok (.multianewarray 18 2, 4) := by decide +kernel
theorem dX6_init_26 : decode cX6_init 26 = .ok (.putfield 20, 3) := by decide +kernel
theorem dX6_init_29 : decode cX6_init 29 = .ok (.iconst 0, 1) := by decide +kernel
theorem dX6_init_30 : decode cX6_init 30 = .ok (.istore_n 1, 1) := by decide +kernel
theorem dX6_init_31 : decode cX6_init 31 = .ok (.iload_n 1, 1) := by decide +kernel
theorem dX6_init_32 : decode cX6_init 32 = .ok (.iconst 4, 1) := by decide +kernel
theorem dX6_init_33 : decode cX6_init 33 = .ok (.if_icmp .ge 16, 3) := by decide +kernel
theorem dX6_init_36 : decode cX6_init 36 = .ok (.aload_n 0, 1) := by decide +kernel
theorem dX6_init_37 : decode cX6_init 37 = .ok (.getfield 9, 3) := by decide +kernel
theorem dX6_init_40 : decode cX6_init 40 = .ok (.iload_n 1, 1) := by decide +kernel
theorem dX6_init_41 : decode cX6_init 41 = .ok (.iconst (-1), 1) := by decide +kernel
theorem dX6_init_42 : decode cX6_init 42 = .ok (.iastore, 1) := by decide +kernel
theorem dX6_init_43 : decode cX6_init 43 = .ok (.iinc 1 1, 3) := by decide +kernel
theorem dX6_init_46 : decode cX6_init 46 = .ok (.goto (-15), 3) := by decide +kernel
theorem dX6_init_49 : decode cX6_init 49 = .ok (.return_, 1) := by decide +kernel
theorem dX6_hasSheet_0 : decode cX6_hasSheet 0 = .ok (.iload_n 1, 1) := by decide +kernel
theorem dX6_hasSheet_1 : decode cX6_hasSheet 1 = .ok (.ifCond .lt 12, 3) := by decide +kernel
theorem dX6_hasSheet_4 : decode cX6_hasSheet 4 = .ok (.iload_n 1, 1) := by decide +kernel
theorem dX6_hasSheet_5 : decode cX6_hasSheet 5 = .ok (.iconst 4, 1) := by decide +kernel
theorem dX6_hasSheet_6 : decode cX6_hasSheet 6 = .ok (.if_icmp .ge 7, 3) := by decide +kernel
theorem dX6_hasSheet_9 : decode cX6_hasSheet 9 = .ok (.iconst 1, 1) := by decide +kernel
theorem dX6_hasSheet_10 : decode cX6_hasSheet 10 = .ok (.goto 4, 3) := by decide +kernel
theorem dX6_hasSheet_13 : decode cX6_hasSheet 13 = .ok (.iconst 0, 1) := by decide +kernel
theorem dX6_hasSheet_14 : decode cX6_hasSheet 14 = .ok (.ireturn, 1) := by decide +kernel
theorem dX6_hasLane_0 : decode cX6_hasLane 0 = .ok (.iload_n 1, 1) := by decide +kernel
theorem dX6_hasLane_1 : decode cX6_hasLane 1 = .ok (.ifCond .lt 12, 3) := by decide +kernel
theorem dX6_hasLane_4 : decode cX6_hasLane 4 = .ok (.iload_n 1, 1) := by decide +kernel
theorem dX6_hasLane_5 : decode cX6_hasLane 5 = .ok (.iconst 2, 1) := by decide +kernel
theorem dX6_hasLane_6 : decode cX6_hasLane 6 = .ok (.if_icmp .gt 7, 3) := by decide +kernel
theorem dX6_hasLane_9 : decode cX6_hasLane 9 = .ok (.iconst 1, 1) := by decide +kernel
theorem dX6_hasLane_10 : decode cX6_hasLane 10 = .ok (.goto 4, 3) := by decide +kernel
theorem dX6_hasLane_13 : decode cX6_hasLane 13 = .ok (.iconst 0, 1) := by decide +kernel
theorem dX6_hasLane_14 : decode cX6_hasLane 14 = .ok (.ireturn, 1) := by decide +kernel
theorem dX6_holdsNothing_0 : decode cX6_holdsNothing 0 = .ok (.aload_n 0, 1) := by decide +kernel
theorem dX6_holdsNothing_1 : decode cX6_holdsNothing 1 = .ok (.getfield 9, 3) := by decide +kernel
theorem dX6_holdsNothing_4 : decode cX6_holdsNothing 4 = .ok (.iload_n 1, 1) := by decide +kernel
theorem dX6_holdsNothing_5 : decode cX6_holdsNothing 5 = .ok (.iaload, 1) := by decide +kernel
theorem dX6_holdsNothing_6 : decode cX6_holdsNothing 6 = .ok (.iconst (-1), 1) := by decide +kernel
theorem dX6_holdsNothing_7 : decode cX6_holdsNothing 7 = .ok (.if_icmp .ne 7, 3) := by decide +kernel
theorem dX6_holdsNothing_10 : decode cX6_holdsNothing 10 = .ok (.iconst 1, 1) := by decide +kernel
theorem dX6_holdsNothing_11 : decode cX6_holdsNothing 11 = .ok (.goto 4, 3) := by decide +kernel
theorem dX6_holdsNothing_14 : decode cX6_holdsNothing 14 = .ok (.iconst 0, 1) := by decide +kernel
theorem dX6_holdsNothing_15 : decode cX6_holdsNothing 15 = .ok (.ireturn, 1) := by decide +kernel
theorem dX6_refusal_0 : decode cX6_refusal 0 = .ok (.aload_n 0, 1) := by decide +kernel
theorem dX6_refusal_1 : decode cX6_refusal 1 = .ok (.iload_n 1, 1) := by decide +kernel
theorem dX6_refusal_2 : decode cX6_refusal 2 = .ok (.invokevirtual 23, 3) := by decide +kernel
theorem dX6_refusal_5 : decode cX6_refusal 5 = .ok (.ifCond .eq 11, 3) := by decide +kernel
theorem dX6_refusal_8 : decode cX6_refusal 8 = .ok (.aload_n 0, 1) := by decide +kernel
theorem dX6_refusal_9 : decode cX6_refusal 9 = .ok (.iload_n 2, 1) := by decide +kernel
theorem dX6_refusal_10 : decode cX6_refusal 10 = .ok (.invokevirtual 27, 3) := by decide +kernel
theorem dX6_refusal_13 : decode cX6_refusal 13 = .ok (.ifCond .ne 5, 3) := by decide +kernel
theorem dX6_refusal_16 : decode cX6_refusal 16 = .ok (.iconst (-1), 1) := by decide +kernel
theorem dX6_refusal_17 : decode cX6_refusal 17 = .ok (.ireturn, 1) := by decide +kernel
theorem dX6_refusal_18 : decode cX6_refusal 18 = .ok (.aload_n 0, 1) := by decide +kernel
theorem dX6_refusal_19 : decode cX6_refusal 19 = .ok (.iload_n 1, 1) := by decide +kernel
theorem dX6_refusal_20 : decode cX6_refusal 20 = .ok (.invokevirtual 30, 3) := by decide +kernel
theorem dX6_refusal_23 : decode cX6_refusal 23 = .ok (.ifCond .eq 6, 3) := by decide +kernel
theorem dX6_refusal_26 : decode cX6_refusal 26 = .ok (.bipush (-11), 2) := by decide +kernel
theorem dX6_refusal_28 : decode cX6_refusal 28 = .ok (.ireturn, 1) := by decide +kernel
theorem dX6_refusal_29 : decode cX6_refusal 29 = .ok (.aload_n 0, 1) := by decide +kernel
theorem dX6_refusal_30 : decode cX6_refusal 30 = .ok (.getfield 9, 3) := by decide +kernel
theorem dX6_refusal_33 : decode cX6_refusal 33 = .ok (.iload_n 1, 1) := by decide +kernel
theorem dX6_refusal_34 : decode cX6_refusal 34 = .ok (.iaload, 1) := by decide +kernel
theorem dX6_refusal_35 : decode cX6_refusal 35 = .ok (.iload_n 2, 1) := by decide +kernel
theorem dX6_refusal_36 : decode cX6_refusal 36 = .ok (.if_icmp .eq 6, 3) := by decide +kernel
theorem dX6_refusal_39 : decode cX6_refusal 39 = .ok (.bipush (-12), 2) := by decide +kernel
theorem dX6_refusal_41 : decode cX6_refusal 41 = .ok (.ireturn, 1) := by decide +kernel
theorem dX6_refusal_42 : decode cX6_refusal 42 = .ok (.iload_n 3, 1) := by decide +kernel
theorem dX6_refusal_43 : decode cX6_refusal 43 = .ok (.ifCond .lt 16, 3) := by decide +kernel
theorem dX6_refusal_46 : decode cX6_refusal 46 = .ok (.iload_n 3, 1) := by decide +kernel
theorem dX6_refusal_47 : decode cX6_refusal 47 = .ok (.aload_n 0, 1) := by decide +kernel
theorem dX6_refusal_48 : decode cX6_refusal 48 = .ok (.getfield 15, 3) := by decide +kernel
theorem dX6_refusal_51 : decode cX6_refusal 51 = .ok (.iload_n 1, 1) := by decide +kernel
theorem dX6_refusal_52 : decode cX6_refusal 52 = .ok (.iaload, 1) := by decide +kernel
theorem dX6_refusal_53 : decode cX6_refusal 53 = .ok (.iload 4, 2) := by decide +kernel
theorem dX6_refusal_55 : decode cX6_refusal 55 = .ok (.isub, 1) := by decide +kernel
theorem dX6_refusal_56 : decode cX6_refusal 56 = .ok (.if_icmp .le 8, 3) := by decide +kernel
theorem dX6_refusal_59 : decode cX6_refusal 59 = .ok (.bipush (-13), 2) := by decide +kernel
theorem dX6_refusal_61 : decode cX6_refusal 61 = .ok (.goto 4, 3) := by decide +kernel
theorem dX6_refusal_64 : decode cX6_refusal 64 = .ok (.iconst 0, 1) := by decide +kernel
theorem dX6_refusal_65 : decode cX6_refusal 65 = .ok (.ireturn, 1) := by decide +kernel
theorem dX6_renew_0 : decode cX6_renew 0 = .ok (.aload_n 0, 1) := by decide +kernel
theorem dX6_renew_1 : decode cX6_renew 1 = .ok (.getfield 9, 3) := by decide +kernel
theorem dX6_renew_4 : decode cX6_renew 4 = .ok (.iload_n 1, 1) := by decide +kernel
theorem dX6_renew_5 : decode cX6_renew 5 = .ok (.iload_n 2, 1) := by decide +kernel
theorem dX6_renew_6 : decode cX6_renew 6 = .ok (.iastore, 1) := by decide +kernel
theorem dX6_renew_7 : decode cX6_renew 7 = .ok (.aload_n 0, 1) := by decide +kernel
theorem dX6_renew_8 : decode cX6_renew 8 = .ok (.getfield 15, 3) := by decide +kernel
theorem dX6_renew_11 : decode cX6_renew 11 = .ok (.iload_n 1, 1) := by decide +kernel
theorem dX6_renew_12 : decode cX6_renew 12 = .ok (.iload_n 3, 1) := by decide +kernel
theorem dX6_renew_13 : decode cX6_renew 13 = .ok (.iastore, 1) := by decide +kernel
theorem dX6_renew_14 : decode cX6_renew 14 = .ok (.iconst 0, 1) := by decide +kernel
theorem dX6_renew_15 : decode cX6_renew 15 = .ok (.istore 4, 2) := by decide +kernel
theorem dX6_renew_17 : decode cX6_renew 17 = .ok (.iload 4, 2) := by decide +kernel
theorem dX6_renew_19 : decode cX6_renew 19 = .ok (.bipush 20, 2) := by decide +kernel
theorem dX6_renew_21 : decode cX6_renew 21 = .ok (.if_icmp .ge 19, 3) := by decide +kernel
theorem dX6_renew_24 : decode cX6_renew 24 = .ok (.aload_n 0, 1) := by decide +kernel
theorem dX6_renew_25 : decode cX6_renew 25 = .ok (.getfield 20, 3) := by decide +kernel
theorem dX6_renew_28 : decode cX6_renew 28 = .ok (.iload_n 1, 1) := by decide +kernel
theorem dX6_renew_29 : decode cX6_renew 29 = .ok (.aaload, 1) := by decide +kernel
theorem dX6_renew_30 : decode cX6_renew 30 = .ok (.iload 4, 2) := by decide +kernel
theorem dX6_renew_32 : decode cX6_renew 32 = .ok (.iconst 0, 1) := by decide +kernel
theorem dX6_renew_33 : decode cX6_renew 33 = .ok (.iastore, 1) := by decide +kernel
theorem dX6_renew_34 : decode cX6_renew 34 = .ok (.iinc 4 1, 3) := by decide +kernel
theorem dX6_renew_37 : decode cX6_renew 37 = .ok (.goto (-20), 3) := by decide +kernel
theorem dX6_renew_40 : decode cX6_renew 40 = .ok (.return_, 1) := by decide +kernel
theorem dX6_remove_0 : decode cX6_remove 0 = .ok (.aload_n 0, 1) := by decide +kernel
theorem dX6_remove_1 : decode cX6_remove 1 = .ok (.getfield 9, 3) := by decide +kernel
theorem dX6_remove_4 : decode cX6_remove 4 = .ok (.iload_n 1, 1) := by decide +kernel
theorem dX6_remove_5 : decode cX6_remove 5 = .ok (.iconst (-1), 1) := by decide +kernel
theorem dX6_remove_6 : decode cX6_remove 6 = .ok (.iastore, 1) := by decide +kernel
theorem dX6_remove_7 : decode cX6_remove 7 = .ok (.aload_n 0, 1) := by decide +kernel
theorem dX6_remove_8 : decode cX6_remove 8 = .ok (.getfield 15, 3) := by decide +kernel
theorem dX6_remove_11 : decode cX6_remove 11 = .ok (.iload_n 1, 1) := by decide +kernel
theorem dX6_remove_12 : decode cX6_remove 12 = .ok (.iaload, 1) := by decide +kernel
theorem dX6_remove_13 : decode cX6_remove 13 = .ok (.ireturn, 1) := by decide +kernel
theorem dX6_put_0 : decode cX6_put 0 = .ok (.aload_n 0, 1) := by decide +kernel
theorem dX6_put_1 : decode cX6_put 1 = .ok (.getfield 9, 3) := by decide +kernel
theorem dX6_put_4 : decode cX6_put 4 = .ok (.iload_n 1, 1) := by decide +kernel
theorem dX6_put_5 : decode cX6_put 5 = .ok (.iaload, 1) := by decide +kernel
theorem dX6_put_6 : decode cX6_put 6 = .ok (.lookupswitch 52 #[(0, 26), (1, 39)], 26) := by decide +kernel
theorem dX6_put_32 : decode cX6_put 32 = .ok (.aload_n 0, 1) := by decide +kernel
theorem dX6_put_33 : decode cX6_put 33 = .ok (.getfield 20, 3) := by decide +kernel
theorem dX6_put_36 : decode cX6_put 36 = .ok (.iload_n 1, 1) := by decide +kernel
theorem dX6_put_37 : decode cX6_put 37 = .ok (.aaload, 1) := by decide +kernel
theorem dX6_put_38 : decode cX6_put 38 = .ok (.iload_n 2, 1) := by decide +kernel
theorem dX6_put_39 : decode cX6_put 39 = .ok (.iload_n 3, 1) := by decide +kernel
theorem dX6_put_40 : decode cX6_put 40 = .ok (.i2b, 1) := by decide +kernel
theorem dX6_put_41 : decode cX6_put 41 = .ok (.iastore, 1) := by decide +kernel
theorem dX6_put_42 : decode cX6_put 42 = .ok (.goto 25, 3) := by decide +kernel
theorem dX6_put_45 : decode cX6_put 45 = .ok (.aload_n 0, 1) := by decide +kernel
theorem dX6_put_46 : decode cX6_put 46 = .ok (.getfield 20, 3) := by decide +kernel
theorem dX6_put_49 : decode cX6_put 49 = .ok (.iload_n 1, 1) := by decide +kernel
theorem dX6_put_50 : decode cX6_put 50 = .ok (.aaload, 1) := by decide +kernel
theorem dX6_put_51 : decode cX6_put 51 = .ok (.iload_n 2, 1) := by decide +kernel
theorem dX6_put_52 : decode cX6_put 52 = .ok (.iload_n 3, 1) := by decide +kernel
theorem dX6_put_53 : decode cX6_put 53 = .ok (.i2s, 1) := by decide +kernel
theorem dX6_put_54 : decode cX6_put 54 = .ok (.iastore, 1) := by decide +kernel
theorem dX6_put_55 : decode cX6_put 55 = .ok (.goto 12, 3) := by decide +kernel
theorem dX6_put_58 : decode cX6_put 58 = .ok (.aload_n 0, 1) := by decide +kernel
theorem dX6_put_59 : decode cX6_put 59 = .ok (.getfield 20, 3) := by decide +kernel
theorem dX6_put_62 : decode cX6_put 62 = .ok (.iload_n 1, 1) := by decide +kernel
theorem dX6_put_63 : decode cX6_put 63 = .ok (.aaload, 1) := by decide +kernel
theorem dX6_put_64 : decode cX6_put 64 = .ok (.iload_n 2, 1) := by decide +kernel
theorem dX6_put_65 : decode cX6_put 65 = .ok (.iload_n 3, 1) := by decide +kernel
theorem dX6_put_66 : decode cX6_put 66 = .ok (.iastore, 1) := by decide +kernel
theorem dX6_put_67 : decode cX6_put 67 = .ok (.return_, 1) := by decide +kernel
theorem dX6_allWithin_0 : decode cX6_allWithin 0 = .ok (.iload_n 2, 1) := by decide +kernel
theorem dX6_allWithin_1 : decode cX6_allWithin 1 = .ok (.istore 6, 2) := by decide +kernel
theorem dX6_allWithin_3 : decode cX6_allWithin 3 = .ok (.iload 6, 2) := by decide +kernel
theorem dX6_allWithin_5 : decode cX6_allWithin 5 = .ok (.iload_n 2, 1) := by decide +kernel
theorem dX6_allWithin_6 : decode cX6_allWithin 6 = .ok (.iload_n 3, 1) := by decide +kernel
theorem dX6_allWithin_7 : decode cX6_allWithin 7 = .ok (.iadd, 1) := by decide +kernel
theorem dX6_allWithin_8 : decode cX6_allWithin 8 = .ok (.if_icmp .ge 39, 3) := by decide +kernel
theorem dX6_allWithin_11 : decode cX6_allWithin 11 = .ok (.aload_n 0, 1) := by decide +kernel
theorem dX6_allWithin_12 : decode cX6_allWithin 12 = .ok (.getfield 20, 3) := by decide +kernel
theorem dX6_allWithin_15 : decode cX6_allWithin 15 = .ok (.iload_n 1, 1) := by decide +kernel
theorem dX6_allWithin_16 : decode cX6_allWithin 16 = .ok (.aaload, 1) := by decide +kernel
theorem dX6_allWithin_17 : decode cX6_allWithin 17 = .ok (.iload 6, 2) := by decide +kernel
theorem dX6_allWithin_19 : decode cX6_allWithin 19 = .ok (.iaload, 1) := by decide +kernel
theorem dX6_allWithin_20 : decode cX6_allWithin 20 = .ok (.iload 4, 2) := by decide +kernel
theorem dX6_allWithin_22 : decode cX6_allWithin 22 = .ok (.if_icmp .lt 17, 3) := by decide +kernel
theorem dX6_allWithin_25 : decode cX6_allWithin 25 = .ok (.aload_n 0, 1) := by decide +kernel
theorem dX6_allWithin_26 : decode cX6_allWithin 26 = .ok (.getfield 20, 3) := by decide +kernel
theorem dX6_allWithin_29 : decode cX6_allWithin 29 = .ok (.iload_n 1, 1) := by decide +kernel
theorem dX6_allWithin_30 : decode cX6_allWithin 30 = .ok (.aaload, 1) := by decide +kernel
theorem dX6_allWithin_31 : decode cX6_allWithin 31 = .ok (.iload 6, 2) := by decide +kernel
theorem dX6_allWithin_33 : decode cX6_allWithin 33 = .ok (.iaload, 1) := by decide +kernel
theorem dX6_allWithin_34 : decode cX6_allWithin 34 = .ok (.iload 5, 2) := by decide +kernel
theorem dX6_allWithin_36 : decode cX6_allWithin 36 = .ok (.if_icmp .le 5, 3) := by decide +kernel
theorem dX6_allWithin_39 : decode cX6_allWithin 39 = .ok (.iconst 0, 1) := by decide +kernel
theorem dX6_allWithin_40 : decode cX6_allWithin 40 = .ok (.ireturn, 1) := by decide +kernel
theorem dX6_allWithin_41 : decode cX6_allWithin 41 = .ok (.iinc 6 1, 3) := by decide +kernel
theorem dX6_allWithin_44 : decode cX6_allWithin 44 = .ok (.goto (-41), 3) := by decide +kernel
theorem dX6_allWithin_47 : decode cX6_allWithin 47 = .ok (.iconst 1, 1) := by decide +kernel
theorem dX6_allWithin_48 : decode cX6_allWithin 48 = .ok (.ireturn, 1) := by decide +kernel
theorem dX6_copyTo_0 : decode cX6_copyTo 0 = .ok (.iconst 1, 1) := by decide +kernel
theorem dX6_copyTo_1 : decode cX6_copyTo 1 = .ok (.istore 5, 2) := by decide +kernel
theorem dX6_copyTo_3 : decode cX6_copyTo 3 = .ok (.iload 5, 2) := by decide +kernel
theorem dX6_copyTo_5 : decode cX6_copyTo 5 = .ok (.iload 4, 2) := by decide +kernel
theorem dX6_copyTo_7 : decode cX6_copyTo 7 = .ok (.if_icmp .gt 26, 3) := by decide +kernel
theorem dX6_copyTo_10 : decode cX6_copyTo 10 = .ok (.aload_n 1, 1) := by decide +kernel
theorem dX6_copyTo_11 : decode cX6_copyTo 11 = .ok (.iload 5, 2) := by decide +kernel
theorem dX6_copyTo_13 : decode cX6_copyTo 13 = .ok (.aload_n 0, 1) := by decide +kernel
theorem dX6_copyTo_14 : decode cX6_copyTo 14 = .ok (.getfield 20, 3) := by decide +kernel
theorem dX6_copyTo_17 : decode cX6_copyTo 17 = .ok (.iload_n 2, 1) := by decide +kernel
theorem dX6_copyTo_18 : decode cX6_copyTo 18 = .ok (.aaload, 1) := by decide +kernel
theorem dX6_copyTo_19 : decode cX6_copyTo 19 = .ok (.iload_n 3, 1) := by decide +kernel
theorem dX6_copyTo_20 : decode cX6_copyTo 20 = .ok (.iload 5, 2) := by decide +kernel
theorem dX6_copyTo_22 : decode cX6_copyTo 22 = .ok (.iadd, 1) := by decide +kernel
theorem dX6_copyTo_23 : decode cX6_copyTo 23 = .ok (.iconst 1, 1) := by decide +kernel
theorem dX6_copyTo_24 : decode cX6_copyTo 24 = .ok (.isub, 1) := by decide +kernel
theorem dX6_copyTo_25 : decode cX6_copyTo 25 = .ok (.iaload, 1) := by decide +kernel
theorem dX6_copyTo_26 : decode cX6_copyTo 26 = .ok (.iastore, 1) := by decide +kernel
theorem dX6_copyTo_27 : decode cX6_copyTo 27 = .ok (.iinc 5 1, 3) := by decide +kernel
theorem dX6_copyTo_30 : decode cX6_copyTo 30 = .ok (.goto (-27), 3) := by decide +kernel
theorem dX6_copyTo_33 : decode cX6_copyTo 33 = .ok (.return_, 1) := by decide +kernel
theorem dX7_init_0 : decode cX7_init 0 = .ok (.aload_n 0, 1) := by decide +kernel
theorem dX7_init_1 : decode cX7_init 1 = .ok (.invokespecial 3, 3) := by decide +kernel
theorem dX7_init_4 : decode cX7_init 4 = .ok (.aload_n 0, 1) := by decide +kernel
theorem dX7_init_5 : decode cX7_init 5 = .ok (.iconst 0, 1) := by decide +kernel
theorem dX7_init_6 : decode cX7_init 6 = .ok (.putfield 9, 3) := by decide +kernel
theorem dX7_init_9 : decode cX7_init 9 = .ok (.aload_n 0, 1) := by decide +kernel
theorem dX7_init_10 : decode cX7_init 10 = .ok (.bipush 11, 2) := by decide +kernel
theorem dX7_init_12 : decode cX7_init 12 = .ok (.bipush 46, 2) := by decide +kernel
theorem dX7_init_14 : decode cX7_init 14 = .ok (.multianewarray 15 2, 4) := by decide +kernel
theorem dX7_init_18 : decode cX7_init 18 = .ok (.putfield 17, 3) := by decide +kernel
theorem dX7_init_21 : decode cX7_init 21 = .ok (.aload_n 0, 1) := by decide +kernel
theorem dX7_init_22 : decode cX7_init 22 = .ok (.bipush 11, 2) := by decide +kernel
theorem dX7_init_24 : decode cX7_init 24 = .ok (.bipush 11, 2) := by decide +kernel
theorem dX7_init_26 : decode cX7_init 26 = .ok (.multianewarray 15 2, 4) := by decide +kernel
theorem dX7_init_30 : decode cX7_init 30 = .ok (.putfield 20, 3) := by decide +kernel
theorem dX7_init_33 : decode cX7_init 33 = .ok (.aload_n 0, 1) := by decide +kernel
theorem dX7_init_34 : decode cX7_init 34 = .ok (.bipush 11, 2) := by decide +kernel
theorem dX7_init_36 : decode cX7_init 36 = .ok (.newarray .long, 2) := by decide +kernel
theorem dX7_init_38 : decode cX7_init 38 = .ok (.putfield 23, 3) := by decide +kernel
theorem dX7_init_41 : decode cX7_init 41 = .ok (.aload_n 0, 1) := by decide +kernel
theorem dX7_init_42 : decode cX7_init 42 = .ok (.aload_n 1, 1) := by decide +kernel
theorem dX7_init_43 : decode cX7_init 43 = .ok (.putfield 27, 3) := by decide +kernel
theorem dX7_init_46 : decode cX7_init 46 = .ok (.aload_n 0, 1) := by decide +kernel
theorem dX7_init_47 : decode cX7_init 47 = .ok (.getfield 17, 3) := by decide +kernel
theorem dX7_init_50 : decode cX7_init 50 = .ok (.iconst 0, 1) := by decide +kernel
theorem dX7_init_51 : decode cX7_init 51 = .ok (.aaload, 1) := by decide +kernel
theorem dX7_init_52 : decode cX7_init 52 = .ok (.iconst 0, 1) := by decide +kernel
theorem dX7_init_53 : decode cX7_init 53 = .ok (.lconst 1, 1) := by decide +kernel
theorem dX7_init_54 : decode cX7_init 54 = .ok (.lastore, 1) := by decide +kernel
theorem dX7_init_55 : decode cX7_init 55 = .ok (.aload_n 0, 1) := by decide +kernel
theorem dX7_init_56 : decode cX7_init 56 = .ok (.getfield 20, 3) := by decide +kernel
theorem dX7_init_59 : decode cX7_init 59 = .ok (.iconst 0, 1) := by decide +kernel
theorem dX7_init_60 : decode cX7_init 60 = .ok (.aaload, 1) := by decide +kernel
theorem dX7_init_61 : decode cX7_init 61 = .ok (.iconst 0, 1) := by decide +kernel
theorem dX7_init_62 : decode cX7_init 62 = .ok (.lconst 1, 1) := by decide +kernel
theorem dX7_init_63 : decode cX7_init 63 = .ok (.lastore, 1) := by decide +kernel
theorem dX7_init_64 : decode cX7_init 64 = .ok (.return_, 1) := by decide +kernel
theorem dX7_withGoes_0 : decode cX7_withGoes 0 = .ok (.aload_n 0, 1) := by decide +kernel
theorem dX7_withGoes_1 : decode cX7_withGoes 1 = .ok (.iload_n 1, 1) := by decide +kernel
theorem dX7_withGoes_2 : decode cX7_withGoes 2 = .ok (.invokevirtual 31, 3) := by decide +kernel
theorem dX7_withGoes_5 : decode cX7_withGoes 5 = .ok (.iload_n 2, 1) := by decide +kernel
theorem dX7_withGoes_6 : decode cX7_withGoes 6 = .ok (.ifCond .lt 9, 3) := by decide +kernel
theorem dX7_withGoes_9 : decode cX7_withGoes 9 = .ok (.iload_n 2, 1) := by decide +kernel
theorem dX7_withGoes_10 : decode cX7_withGoes 10 = .ok (.bipush 45, 2) := by decide +kernel
theorem dX7_withGoes_12 : decode cX7_withGoes 12 = .ok (.if_icmp .le 7, 3) := by decide +kernel
theorem dX7_withGoes_15 : decode cX7_withGoes 15 = .ok (.lconst 0, 1) := by decide +kernel
theorem dX7_withGoes_16 : decode cX7_withGoes 16 = .ok (.goto 11, 3) := by decide +kernel
theorem dX7_withGoes_19 : decode cX7_withGoes 19 = .ok (.aload_n 0, 1) := by decide +kernel
theorem dX7_withGoes_20 : decode cX7_withGoes 20 = .ok (.getfield 17, 3) := by decide +kernel
theorem dX7_withGoes_23 : decode cX7_withGoes 23 = .ok (.iload_n 1, 1) := by decide +kernel
theorem dX7_withGoes_24 : decode cX7_withGoes 24 = .ok (.aaload, 1) := by decide +kernel
theorem dX7_withGoes_25 : decode cX7_withGoes 25 = .ok (.iload_n 2, 1) := by decide +kernel
theorem dX7_withGoes_26 : decode cX7_withGoes 26 = .ok (.laload, 1) := by decide +kernel
theorem dX7_withGoes_27 : decode cX7_withGoes 27 = .ok (.lreturn, 1) := by decide +kernel
theorem dX7_withLucky_0 : decode cX7_withLucky 0 = .ok (.aload_n 0, 1) := by decide +kernel
theorem dX7_withLucky_1 : decode cX7_withLucky 1 = .ok (.iload_n 1, 1) := by decide +kernel
theorem dX7_withLucky_2 : decode cX7_withLucky 2 = .ok (.invokevirtual 31, 3) := by decide +kernel
theorem dX7_withLucky_5 : decode cX7_withLucky 5 = .ok (.iload_n 2, 1) := by decide +kernel
theorem dX7_withLucky_6 : decode cX7_withLucky 6 = .ok (.ifCond .lt 8, 3) := by decide +kernel
theorem dX7_withLucky_9 : decode cX7_withLucky 9 = .ok (.iload_n 2, 1) := by decide +kernel
theorem dX7_withLucky_10 : decode cX7_withLucky 10 = .ok (.iload_n 1, 1) := by decide +kernel
theorem dX7_withLucky_11 : decode cX7_withLucky 11 = .ok (.if_icmp .le 7, 3) := by decide +kernel
theorem dX7_withLucky_14 : decode cX7_withLucky 14 = .ok (.lconst 0, 1) := by decide +kernel
theorem dX7_withLucky_15 : decode cX7_withLucky 15 = .ok (.goto 11, 3) := by decide +kernel
theorem dX7_withLucky_18 : decode cX7_withLucky 18 = .ok (.aload_n 0, 1) := by decide +kernel
theorem dX7_withLucky_19 : decode cX7_withLucky 19 = .ok (.getfield 20, 3) := by decide +kernel
theorem dX7_withLucky_22 : decode cX7_withLucky 22 = .ok (.iload_n 1, 1) := by decide +kernel
theorem dX7_withLucky_23 : decode cX7_withLucky 23 = .ok (.aaload, 1) := by decide +kernel
theorem dX7_withLucky_24 : decode cX7_withLucky 24 = .ok (.iload_n 2, 1) := by decide +kernel
theorem dX7_withLucky_25 : decode cX7_withLucky 25 = .ok (.laload, 1) := by decide +kernel
theorem dX7_withLucky_26 : decode cX7_withLucky 26 = .ok (.lreturn, 1) := by decide +kernel
theorem dX7_withLastAt_0 : decode cX7_withLastAt 0 = .ok (.iload_n 2, 1) := by decide +kernel
theorem dX7_withLastAt_1 : decode cX7_withLastAt 1 = .ok (.iconst 1, 1) := by decide +kernel
theorem dX7_withLastAt_2 : decode cX7_withLastAt 2 = .ok (.if_icmp .lt 8, 3) := by decide +kernel
theorem dX7_withLastAt_5 : decode cX7_withLastAt 5 = .ok (.iload_n 2, 1) := by decide +kernel
theorem dX7_withLastAt_6 : decode cX7_withLastAt 6 = .ok (.iload_n 1, 1) := by decide +kernel
theorem dX7_withLastAt_7 : decode cX7_withLastAt 7 = .ok (.if_icmp .le 7, 3) := by decide +kernel
theorem dX7_withLastAt_10 : decode cX7_withLastAt 10 = .ok (.lconst 0, 1) := by decide +kernel
theorem dX7_withLastAt_11 : decode cX7_withLastAt 11 = .ok (.goto 12, 3) := by decide +kernel
theorem dX7_withLastAt_14 : decode cX7_withLastAt 14 = .ok (.iload_n 2, 1) := by decide +kernel
theorem dX7_withLastAt_15 : decode cX7_withLastAt 15 = .ok (.i2l, 1) := by decide +kernel
theorem dX7_withLastAt_16 : decode cX7_withLastAt 16 = .ok (.aload_n 0, 1) := by decide +kernel
theorem dX7_withLastAt_17 : decode cX7_withLastAt 17 = .ok (.iload_n 1, 1) := by decide +kernel
theorem dX7_withLastAt_18 : decode cX7_withLastAt 18 = .ok (.iload_n 2, 1) := by decide +kernel
theorem dX7_withLastAt_19 : decode cX7_withLastAt 19 = .ok (.invokevirtual 35, 3) := by decide +kernel
theorem dX7_withLastAt_22 : decode cX7_withLastAt 22 = .ok (.lmul, 1) := by decide +kernel
theorem dX7_withLastAt_23 : decode cX7_withLastAt 23 = .ok (.lreturn, 1) := by decide +kernel
theorem dX7_withFirstWish_0 : decode cX7_withFirstWish 0 = .ok (.lconst 0, 1) := by decide +kernel
theorem dX7_withFirstWish_1 : decode cX7_withFirstWish 1 = .ok (.lstore_n 3, 1) := by decide +kernel
theorem dX7_withFirstWish_2 : decode cX7_withFirstWish 2 = .ok (.iload_n 2, 1) := by decide +kernel
theorem dX7_withFirstWish_3 : decode cX7_withFirstWish 3 = .ok (.iconst 1, 1) := by decide +kernel
theorem dX7_withFirstWish_4 : decode cX7_withFirstWish 4 = .ok (.invokestatic 39, 3) := by decide +kernel
theorem dX7_withFirstWish_7 : decode cX7_withFirstWish 7 = .ok (.istore 5, 2) := by decide +kernel
theorem dX7_withFirstWish_9 : decode cX7_withFirstWish 9 = .ok (.iload_n 2, 1) := by decide +kernel
theorem dX7_withFirstWish_10 : decode cX7_withFirstWish 10 = .ok (.iconst 1, 1) := by decide +kernel
theorem dX7_withFirstWish_11 : decode cX7_withFirstWish 11 = .ok (.if_icmp .lt 25, 3) := by decide +kernel
theorem dX7_withFirstWish_14 : decode cX7_withFirstWish 14 = .ok (.iload 5, 2) := by decide +kernel
theorem dX7_withFirstWish_16 : decode cX7_withFirstWish 16 = .ok (.iload_n 1, 1) := by decide +kernel
theorem dX7_withFirstWish_17 : decode cX7_withFirstWish 17 = .ok (.if_icmp .gt 19, 3) := by decide +kernel
theorem dX7_withFirstWish_20 : decode cX7_withFirstWish 20 = .ok (.lload_n 3, 1) := by decide +kernel
theorem dX7_withFirstWish_21 : decode cX7_withFirstWish 21 = .ok (.aload_n 0, 1) := by decide +kernel
theorem dX7_withFirstWish_22 : decode cX7_withFirstWish 22 = .ok (.iload_n 1, 1) := by decide +kernel
theorem dX7_withFirstWish_23 : decode cX7_withFirstWish 23 = .ok (.iload 5, 2) := by decide +kernel
theorem dX7_withFirstWish_25 : decode cX7_withFirstWish 25 = .ok (.invokevirtual 35, 3) := by decide +kernel
theorem dX7_withFirstWish_28 : decode cX7_withFirstWish 28 = .ok (.ladd, 1) := by decide +kernel
theorem dX7_withFirstWish_29 : decode cX7_withFirstWish 29 = .ok (.lstore_n 3, 1) := by decide +kernel
theorem dX7_withFirstWish_30 : decode cX7_withFirstWish 30 = .ok (.iinc 5 1, 3) := by decide +kernel
theorem dX7_withFirstWish_33 : decode cX7_withFirstWish 33 = .ok (.goto (-24), 3) := by decide +kernel
theorem dX7_withFirstWish_36 : decode cX7_withFirstWish 36 = .ok (.lload_n 3, 1) := by decide +kernel
theorem dX7_withFirstWish_37 : decode cX7_withFirstWish 37 = .ok (.lreturn, 1) := by decide +kernel
theorem dX7_withOnes_0 : decode cX7_withOnes 0 = .ok (.iload_n 2, 1) := by decide +kernel
theorem dX7_withOnes_1 : decode cX7_withOnes 1 = .ok (.iconst 1, 1) := by decide +kernel
theorem dX7_withOnes_2 : decode cX7_withOnes 2 = .ok (.if_icmp .lt 8, 3) := by decide +kernel
theorem dX7_withOnes_5 : decode cX7_withOnes 5 = .ok (.iload_n 2, 1) := by decide +kernel
theorem dX7_withOnes_6 : decode cX7_withOnes 6 = .ok (.iload_n 1, 1) := by decide +kernel
theorem dX7_withOnes_7 : decode cX7_withOnes 7 = .ok (.if_icmp .le 7, 3) := by decide +kernel
theorem dX7_withOnes_10 : decode cX7_withOnes 10 = .ok (.lconst 0, 1) := by decide +kernel
theorem dX7_withOnes_11 : decode cX7_withOnes 11 = .ok (.goto 26, 3) := by decide +kernel
theorem dX7_withOnes_14 : decode cX7_withOnes 14 = .ok (.aload_n 0, 1) := by decide +kernel
theorem dX7_withOnes_15 : decode cX7_withOnes 15 = .ok (.getfield 27, 3) := by decide +kernel
theorem dX7_withOnes_18 : decode cX7_withOnes 18 = .ok (.iload_n 1, 1) := by decide +kernel
theorem dX7_withOnes_19 : decode cX7_withOnes 19 = .ok (.iconst 1, 1) := by decide +kernel
theorem dX7_withOnes_20 : decode cX7_withOnes 20 = .ok (.isub, 1) := by decide +kernel
theorem dX7_withOnes_21 : decode cX7_withOnes 21 = .ok (.iload_n 2, 1) := by decide +kernel
theorem dX7_withOnes_22 : decode cX7_withOnes 22 = .ok (.iconst 1, 1) := by decide +kernel
theorem dX7_withOnes_23 : decode cX7_withOnes 23 = .ok (.isub, 1) := by decide +kernel
theorem dX7_withOnes_24 : decode cX7_withOnes 24 = .ok (.invokevirtual 45, 3) := by decide +kernel
theorem dX7_withOnes_27 : decode cX7_withOnes 27 = .ok (.i2l, 1) := by decide +kernel
theorem dX7_withOnes_28 : decode cX7_withOnes 28 = .ok (.iload_n 1, 1) := by decide +kernel
theorem dX7_withOnes_29 : decode cX7_withOnes 29 = .ok (.i2l, 1) := by decide +kernel
theorem dX7_withOnes_30 : decode cX7_withOnes 30 = .ok (.iload_n 1, 1) := by decide +kernel
theorem dX7_withOnes_31 : decode cX7_withOnes 31 = .ok (.iload_n 2, 1) := by decide +kernel
theorem dX7_withOnes_32 : decode cX7_withOnes 32 = .ok (.isub, 1) := by decide +kernel
theorem dX7_withOnes_33 : decode cX7_withOnes 33 = .ok (.invokestatic 50, 3) := by decide +kernel
theorem dX7_withOnes_36 : decode cX7_withOnes 36 = .ok (.lmul, 1) := by decide +kernel
theorem dX7_withOnes_37 : decode cX7_withOnes 37 = .ok (.lreturn, 1) := by decide +kernel
theorem dX7_withCuts_0 : decode cX7_withCuts 0 = .ok (.iload_n 2, 1) := by decide +kernel
theorem dX7_withCuts_1 : decode cX7_withCuts 1 = .ok (.ifCond .lt 8, 3) := by decide +kernel
theorem dX7_withCuts_4 : decode cX7_withCuts 4 = .ok (.iload_n 2, 1) := by decide +kernel
theorem dX7_withCuts_5 : decode cX7_withCuts 5 = .ok (.iload_n 1, 1) := by decide +kernel
theorem dX7_withCuts_6 : decode cX7_withCuts 6 = .ok (.if_icmp .lt 5, 3) := by decide +kernel
theorem dX7_withCuts_9 : decode cX7_withCuts 9 = .ok (.lconst 0, 1) := by decide +kernel
theorem dX7_withCuts_10 : decode cX7_withCuts 10 = .ok (.lreturn, 1) := by decide +kernel
theorem dX7_withCuts_11 : decode cX7_withCuts 11 = .ok (.iconst 1, 1) := by decide +kernel
theorem dX7_withCuts_12 : decode cX7_withCuts 12 = .ok (.istore_n 3, 1) := by decide +kernel
theorem dX7_withCuts_13 : decode cX7_withCuts 13 = .ok (.iload_n 3, 1) := by decide +kernel
theorem dX7_withCuts_14 : decode cX7_withCuts 14 = .ok (.iload_n 1, 1) := by decide +kernel
theorem dX7_withCuts_15 : decode cX7_withCuts 15 = .ok (.if_icmp .gt 16, 3) := by decide +kernel
theorem dX7_withCuts_18 : decode cX7_withCuts 18 = .ok (.aload_n 0, 1) := by decide +kernel
theorem dX7_withCuts_19 : decode cX7_withCuts 19 = .ok (.getfield 23, 3) := by decide +kernel
theorem dX7_withCuts_22 : decode cX7_withCuts 22 = .ok (.iload_n 3, 1) := by decide +kernel
theorem dX7_withCuts_23 : decode cX7_withCuts 23 = .ok (.lconst 0, 1) := by decide +kernel
theorem dX7_withCuts_24 : decode cX7_withCuts 24 = .ok (.lastore, 1) := by decide +kernel
theorem dX7_withCuts_25 : decode cX7_withCuts 25 = .ok (.iinc 3 1, 3) := by decide +kernel
theorem dX7_withCuts_28 : decode cX7_withCuts 28 = .ok (.goto (-15), 3) := by decide +kernel
theorem dX7_withCuts_31 : decode cX7_withCuts 31 = .ok (.aload_n 0, 1) := by decide +kernel
theorem dX7_withCuts_32 : decode cX7_withCuts 32 = .ok (.getfield 23, 3) := by decide +kernel
theorem dX7_withCuts_35 : decode cX7_withCuts 35 = .ok (.iconst 0, 1) := by decide +kernel
theorem dX7_withCuts_36 : decode cX7_withCuts 36 = .ok (.lconst 1, 1) := by decide +kernel
theorem dX7_withCuts_37 : decode cX7_withCuts 37 = .ok (.lastore, 1) := by decide +kernel
theorem dX7_withCuts_38 : decode cX7_withCuts 38 = .ok (.iconst 0, 1) := by decide +kernel
theorem dX7_withCuts_39 : decode cX7_withCuts 39 = .ok (.istore_n 3, 1) := by decide +kernel
theorem dX7_withCuts_40 : decode cX7_withCuts 40 = .ok (.iload_n 3, 1) := by decide +kernel
theorem dX7_withCuts_41 : decode cX7_withCuts 41 = .ok (.iload_n 2, 1) := by decide +kernel
theorem dX7_withCuts_42 : decode cX7_withCuts 42 = .ok (.if_icmp .gt 36, 3) := by decide +kernel
theorem dX7_withCuts_45 : decode cX7_withCuts 45 = .ok (.iload_n 1, 1) := by decide +kernel
theorem dX7_withCuts_46 : decode cX7_withCuts 46 = .ok (.istore 4, 2) := by decide +kernel
theorem dX7_withCuts_48 : decode cX7_withCuts 48 = .ok (.iload 4, 2) := by decide +kernel
theorem dX7_withCuts_50 : decode cX7_withCuts 50 = .ok (.ifCond .lt 22, 3) := by decide +kernel
theorem dX7_withCuts_53 : decode cX7_withCuts 53 = .ok (.aload_n 0, 1) := by decide +kernel
theorem dX7_withCuts_54 : decode cX7_withCuts 54 = .ok (.getfield 23, 3) := by decide +kernel
theorem dX7_withCuts_57 : decode cX7_withCuts 57 = .ok (.iload 4, 2) := by decide +kernel
theorem dX7_withCuts_59 : decode cX7_withCuts 59 = .ok (.aload_n 0, 1) := by decide +kernel
theorem dX7_withCuts_60 : decode cX7_withCuts 60 = .ok (.iload 4, 2) := by decide +kernel
theorem dX7_withCuts_62 : decode cX7_withCuts 62 = .ok (.invokevirtual 54, 3) := by decide +kernel
theorem dX7_withCuts_65 : decode cX7_withCuts 65 = .ok (.lastore, 1) := by decide +kernel
theorem dX7_withCuts_66 : decode cX7_withCuts 66 = .ok (.iinc 4 (-1), 3) := by decide +kernel
theorem dX7_withCuts_69 : decode cX7_withCuts 69 = .ok (.goto (-21), 3) := by decide +kernel
theorem dX7_withCuts_72 : decode cX7_withCuts 72 = .ok (.iinc 3 1, 3) := by decide +kernel
theorem dX7_withCuts_75 : decode cX7_withCuts 75 = .ok (.goto (-35), 3) := by decide +kernel
theorem dX7_withCuts_78 : decode cX7_withCuts 78 = .ok (.aload_n 0, 1) := by decide +kernel
theorem dX7_withCuts_79 : decode cX7_withCuts 79 = .ok (.getfield 23, 3) := by decide +kernel
theorem dX7_withCuts_82 : decode cX7_withCuts 82 = .ok (.iload_n 1, 1) := by decide +kernel
theorem dX7_withCuts_83 : decode cX7_withCuts 83 = .ok (.laload, 1) := by decide +kernel
theorem dX7_withCuts_84 : decode cX7_withCuts 84 = .ok (.lreturn, 1) := by decide +kernel
theorem dX7_withOnePartMore_0 : decode cX7_withOnePartMore 0 = .ok (.lconst 0, 1) := by decide +kernel
theorem dX7_withOnePartMore_1 : decode cX7_withOnePartMore 1 = .ok (.lstore_n 2, 1) := by decide +kernel
theorem dX7_withOnePartMore_2 : decode cX7_withOnePartMore 2 = .ok (.iconst 1, 1) := by decide +kernel
theorem dX7_withOnePartMore_3 : decode cX7_withOnePartMore 3 = .ok (.istore 4, 2) := by decide +kernel
theorem dX7_withOnePartMore_5 : decode cX7_withOnePartMore 5 = .ok (.iload 4, 2) := by decide +kernel
theorem dX7_withOnePartMore_7 : decode cX7_withOnePartMore 7 = .ok (.iload_n 1, 1) := by decide +kernel
theorem dX7_withOnePartMore_8 : decode cX7_withOnePartMore 8 = .ok (.if_icmp .gt 46, 3) := by decide +kernel
theorem dX7_withOnePartMore_11 : decode cX7_withOnePartMore 11 = .ok (.lload_n 2, 1) := by decide +kernel
theorem dX7_withOnePartMore_12 : decode cX7_withOnePartMore 12 = .ok (.aload_n 0, 1) := by decide +kernel
theorem dX7_withOnePartMore_13 : decode cX7_withOnePartMore 13 = .ok (.getfield 27, 3) := by decide +kernel
theorem dX7_withOnePartMore_16 : decode cX7_withOnePartMore 16 = .ok (.iload_n 1, 1) := by decide +kernel
theorem dX7_withOnePartMore_17 : decode cX7_withOnePartMore 17 = .ok (.iload 4, 2) := by decide +kernel
theorem dX7_withOnePartMore_19 : decode cX7_withOnePartMore 19 = .ok (.invokevirtual 45, 3) := by decide +kernel
theorem dX7_withOnePartMore_22 : decode cX7_withOnePartMore 22 = .ok (.i2l, 1) := by decide +kernel
theorem dX7_withOnePartMore_23 : decode cX7_withOnePartMore 23 = .ok (.iload 4, 2) := by decide +kernel
theorem dX7_withOnePartMore_25 : decode cX7_withOnePartMore 25 = .ok (.iconst 1, 1) := by decide +kernel
theorem dX7_withOnePartMore_26 : decode cX7_withOnePartMore 26 = .ok (.isub, 1) := by decide +kernel
theorem dX7_withOnePartMore_27 : decode cX7_withOnePartMore 27 = .ok (.i2l, 1) := by decide +kernel
theorem dX7_withOnePartMore_28 : decode cX7_withOnePartMore 28 = .ok (.iload 4, 2) := by decide +kernel
theorem dX7_withOnePartMore_30 : decode cX7_withOnePartMore 30 = .ok (.iconst 1, 1) := by decide +kernel
theorem dX7_withOnePartMore_31 : decode cX7_withOnePartMore 31 = .ok (.isub, 1) := by decide +kernel
theorem dX7_withOnePartMore_32 : decode cX7_withOnePartMore 32 = .ok (.invokestatic 50, 3) := by decide +kernel
theorem dX7_withOnePartMore_35 : decode cX7_withOnePartMore 35 = .ok (.lmul, 1) := by decide +kernel
theorem dX7_withOnePartMore_36 : decode cX7_withOnePartMore 36 = .ok (.aload_n 0, 1) := by decide +kernel
theorem dX7_withOnePartMore_37 : decode cX7_withOnePartMore 37 = .ok (.getfield 23, 3) := by decide +kernel
theorem dX7_withOnePartMore_40 : decode cX7_withOnePartMore 40 = .ok (.iload_n 1, 1) := by decide +kernel
theorem dX7_withOnePartMore_41 : decode cX7_withOnePartMore 41 = .ok (.iload 4, 2) := by decide +kernel
theorem dX7_withOnePartMore_43 : decode cX7_withOnePartMore 43 = .ok (.isub, 1) := by decide +kernel
theorem dX7_withOnePartMore_44 : decode cX7_withOnePartMore 44 = .ok (.laload, 1) := by decide +kernel
theorem dX7_withOnePartMore_45 : decode cX7_withOnePartMore 45 = .ok (.lmul, 1) := by decide +kernel
theorem dX7_withOnePartMore_46 : decode cX7_withOnePartMore 46 = .ok (.ladd, 1) := by decide +kernel
theorem dX7_withOnePartMore_47 : decode cX7_withOnePartMore 47 = .ok (.lstore_n 2, 1) := by decide +kernel
theorem dX7_withOnePartMore_48 : decode cX7_withOnePartMore 48 = .ok (.iinc 4 1, 3) := by decide +kernel
theorem dX7_withOnePartMore_51 : decode cX7_withOnePartMore 51 = .ok (.goto (-46), 3) := by decide +kernel
theorem dX7_withOnePartMore_54 : decode cX7_withOnePartMore 54 = .ok (.lload_n 2, 1) := by decide +kernel
theorem dX7_withOnePartMore_55 : decode cX7_withOnePartMore 55 = .ok (.lreturn, 1) := by decide +kernel
theorem dX7_sidesOf_0 : decode cX7_sidesOf 0 = .ok (.aload_n 0, 1) := by decide +kernel
theorem dX7_sidesOf_1 : decode cX7_sidesOf 1 = .ok (.getfield 27, 3) := by decide +kernel
theorem dX7_sidesOf_4 : decode cX7_sidesOf 4 = .ok (.iload_n 1, 1) := by decide +kernel
theorem dX7_sidesOf_5 : decode cX7_sidesOf 5 = .ok (.iconst 1, 1) := by decide +kernel
theorem dX7_sidesOf_6 : decode cX7_sidesOf 6 = .ok (.isub, 1) := by decide +kernel
theorem dX7_sidesOf_7 : decode cX7_sidesOf 7 = .ok (.iload_n 2, 1) := by decide +kernel
theorem dX7_sidesOf_8 : decode cX7_sidesOf 8 = .ok (.iconst 1, 1) := by decide +kernel
theorem dX7_sidesOf_9 : decode cX7_sidesOf 9 = .ok (.isub, 1) := by decide +kernel
theorem dX7_sidesOf_10 : decode cX7_sidesOf 10 = .ok (.invokevirtual 45, 3) := by decide +kernel
theorem dX7_sidesOf_13 : decode cX7_sidesOf 13 = .ok (.i2l, 1) := by decide +kernel
theorem dX7_sidesOf_14 : decode cX7_sidesOf 14 = .ok (.aload_n 0, 1) := by decide +kernel
theorem dX7_sidesOf_15 : decode cX7_sidesOf 15 = .ok (.iload_n 2, 1) := by decide +kernel
theorem dX7_sidesOf_16 : decode cX7_sidesOf 16 = .ok (.iconst 1, 1) := by decide +kernel
theorem dX7_sidesOf_17 : decode cX7_sidesOf 17 = .ok (.isub, 1) := by decide +kernel
theorem dX7_sidesOf_18 : decode cX7_sidesOf 18 = .ok (.invokevirtual 58, 3) := by decide +kernel
theorem dX7_sidesOf_21 : decode cX7_sidesOf 21 = .ok (.lmul, 1) := by decide +kernel
theorem dX7_sidesOf_22 : decode cX7_sidesOf 22 = .ok (.aload_n 0, 1) := by decide +kernel
theorem dX7_sidesOf_23 : decode cX7_sidesOf 23 = .ok (.iload_n 1, 1) := by decide +kernel
theorem dX7_sidesOf_24 : decode cX7_sidesOf 24 = .ok (.iload_n 2, 1) := by decide +kernel
theorem dX7_sidesOf_25 : decode cX7_sidesOf 25 = .ok (.isub, 1) := by decide +kernel
theorem dX7_sidesOf_26 : decode cX7_sidesOf 26 = .ok (.invokevirtual 58, 3) := by decide +kernel
theorem dX7_sidesOf_29 : decode cX7_sidesOf 29 = .ok (.lmul, 1) := by decide +kernel
theorem dX7_sidesOf_30 : decode cX7_sidesOf 30 = .ok (.lreturn, 1) := by decide +kernel
theorem dX7_goodRows_0 : decode cX7_goodRows 0 = .ok (.iload_n 1, 1) := by decide +kernel
theorem dX7_goodRows_1 : decode cX7_goodRows 1 = .ok (.ifCond .ne 7, 3) := by decide +kernel
theorem dX7_goodRows_4 : decode cX7_goodRows 4 = .ok (.lconst 1, 1) := by decide +kernel
theorem dX7_goodRows_5 : decode cX7_goodRows 5 = .ok (.goto 13, 3) := by decide +kernel
theorem dX7_goodRows_8 : decode cX7_goodRows 8 = .ok (.iload_n 1, 1) := by decide +kernel
theorem dX7_goodRows_9 : decode cX7_goodRows 9 = .ok (.iconst 1, 1) := by decide +kernel
theorem dX7_goodRows_10 : decode cX7_goodRows 10 = .ok (.iadd, 1) := by decide +kernel
theorem dX7_goodRows_11 : decode cX7_goodRows 11 = .ok (.i2l, 1) := by decide +kernel
theorem dX7_goodRows_12 : decode cX7_goodRows 12 = .ok (.iload_n 1, 1) := by decide +kernel
theorem dX7_goodRows_13 : decode cX7_goodRows 13 = .ok (.iconst 1, 1) := by decide +kernel
theorem dX7_goodRows_14 : decode cX7_goodRows 14 = .ok (.isub, 1) := by decide +kernel
theorem dX7_goodRows_15 : decode cX7_goodRows 15 = .ok (.invokestatic 50, 3) := by decide +kernel
theorem dX7_goodRows_18 : decode cX7_goodRows 18 = .ok (.lreturn, 1) := by decide +kernel
theorem dX7_learn_0 : decode cX7_learn 0 = .ok (.aload_n 0, 1) := by decide +kernel
theorem dX7_learn_1 : decode cX7_learn 1 = .ok (.getfield 9, 3) := by decide +kernel
theorem dX7_learn_4 : decode cX7_learn 4 = .ok (.iconst 1, 1) := by decide +kernel
theorem dX7_learn_5 : decode cX7_learn 5 = .ok (.iadd, 1) := by decide +kernel
theorem dX7_learn_6 : decode cX7_learn 6 = .ok (.istore_n 2, 1) := by decide +kernel
theorem dX7_learn_7 : decode cX7_learn 7 = .ok (.iload_n 2, 1) := by decide +kernel
theorem dX7_learn_8 : decode cX7_learn 8 = .ok (.iload_n 1, 1) := by decide +kernel
theorem dX7_learn_9 : decode cX7_learn 9 = .ok (.if_icmp .gt 34, 3) := by decide +kernel
theorem dX7_learn_12 : decode cX7_learn 12 = .ok (.iconst 1, 1) := by decide +kernel
theorem dX7_learn_13 : decode cX7_learn 13 = .ok (.istore_n 3, 1) := by decide +kernel
theorem dX7_learn_14 : decode cX7_learn 14 = .ok (.iload_n 3, 1) := by decide +kernel
theorem dX7_learn_15 : decode cX7_learn 15 = .ok (.iload_n 2, 1) := by decide +kernel
theorem dX7_learn_16 : decode cX7_learn 16 = .ok (.if_icmp .gt 21, 3) := by decide +kernel
theorem dX7_learn_19 : decode cX7_learn 19 = .ok (.aload_n 0, 1) := by decide +kernel
theorem dX7_learn_20 : decode cX7_learn 20 = .ok (.iload_n 2, 1) := by decide +kernel
theorem dX7_learn_21 : decode cX7_learn 21 = .ok (.iload_n 3, 1) := by decide +kernel
theorem dX7_learn_22 : decode cX7_learn 22 = .ok (.invokevirtual 61, 3) := by decide +kernel
theorem dX7_learn_25 : decode cX7_learn 25 = .ok (.aload_n 0, 1) := by decide +kernel
theorem dX7_learn_26 : decode cX7_learn 26 = .ok (.iload_n 2, 1) := by decide +kernel
theorem dX7_learn_27 : decode cX7_learn 27 = .ok (.iload_n 3, 1) := by decide +kernel
theorem dX7_learn_28 : decode cX7_learn 28 = .ok (.invokevirtual 65, 3) := by decide +kernel
theorem dX7_learn_31 : decode cX7_learn 31 = .ok (.iinc 3 1, 3) := by decide +kernel
theorem dX7_learn_34 : decode cX7_learn 34 = .ok (.goto (-20), 3) := by decide +kernel
theorem dX7_learn_37 : decode cX7_learn 37 = .ok (.iinc 2 1, 3) := by decide +kernel
theorem dX7_learn_40 : decode cX7_learn 40 = .ok (.goto (-33), 3) := by decide +kernel
theorem dX7_learn_43 : decode cX7_learn 43 = .ok (.aload_n 0, 1) := by decide +kernel
theorem dX7_learn_44 : decode cX7_learn 44 = .ok (.aload_n 0, 1) := by decide +kernel
theorem dX7_learn_45 : decode cX7_learn 45 = .ok (.getfield 9, 3) := by decide +kernel
theorem dX7_learn_48 : decode cX7_learn 48 = .ok (.iload_n 1, 1) := by decide +kernel
theorem dX7_learn_49 : decode cX7_learn 49 = .ok (.invokestatic 39, 3) := by decide +kernel
theorem dX7_learn_52 : decode cX7_learn 52 = .ok (.putfield 9, 3) := by decide +kernel
theorem dX7_learn_55 : decode cX7_learn 55 = .ok (.return_, 1) := by decide +kernel
theorem dX7_mostGoes_0 : decode cX7_mostGoes 0 = .ok (.iload_n 1, 1) := by decide +kernel
theorem dX7_mostGoes_1 : decode cX7_mostGoes 1 = .ok (.iload_n 1, 1) := by decide +kernel
theorem dX7_mostGoes_2 : decode cX7_mostGoes 2 = .ok (.iconst 1, 1) := by decide +kernel
theorem dX7_mostGoes_3 : decode cX7_mostGoes 3 = .ok (.isub, 1) := by decide +kernel
theorem dX7_mostGoes_4 : decode cX7_mostGoes 4 = .ok (.imul, 1) := by decide +kernel
theorem dX7_mostGoes_5 : decode cX7_mostGoes 5 = .ok (.iconst 2, 1) := by decide +kernel
theorem dX7_mostGoes_6 : decode cX7_mostGoes 6 = .ok (.idiv, 1) := by decide +kernel
theorem dX7_mostGoes_7 : decode cX7_mostGoes 7 = .ok (.ireturn, 1) := by decide +kernel
theorem dX7_addGoes_0 : decode cX7_addGoes 0 = .ok (.iload_n 2, 1) := by decide +kernel
theorem dX7_addGoes_1 : decode cX7_addGoes 1 = .ok (.iconst 1, 1) := by decide +kernel
theorem dX7_addGoes_2 : decode cX7_addGoes 2 = .ok (.isub, 1) := by decide +kernel
theorem dX7_addGoes_3 : decode cX7_addGoes 3 = .ok (.istore_n 3, 1) := by decide +kernel
theorem dX7_addGoes_4 : decode cX7_addGoes 4 = .ok (.iload_n 1, 1) := by decide +kernel
theorem dX7_addGoes_5 : decode cX7_addGoes 5 = .ok (.iload_n 2, 1) := by decide +kernel
theorem dX7_addGoes_6 : decode cX7_addGoes 6 = .ok (.isub, 1) := by decide +kernel
theorem dX7_addGoes_7 : decode cX7_addGoes 7 = .ok (.istore 4, 2) := by decide +kernel
theorem dX7_addGoes_9 : decode cX7_addGoes 9 = .ok (.iconst 0, 1) := by decide +kernel
theorem dX7_addGoes_10 : decode cX7_addGoes 10 = .ok (.istore 5, 2) := by decide +kernel
theorem dX7_addGoes_12 : decode cX7_addGoes 12 = .ok (.iload 5, 2) := by decide +kernel
theorem dX7_addGoes_14 : decode cX7_addGoes 14 = .ok (.aload_n 0, 1) := by decide +kernel
theorem dX7_addGoes_15 : decode cX7_addGoes 15 = .ok (.iload_n 3, 1) := by decide +kernel
theorem dX7_addGoes_16 : decode cX7_addGoes 16 = .ok (.invokevirtual 68, 3) := by decide +kernel
theorem dX7_addGoes_19 : decode cX7_addGoes 19 = .ok (.if_icmp .gt 99, 3) := by decide +kernel
theorem dX7_addGoes_22 : decode cX7_addGoes 22 = .ok (.iconst 0, 1) := by decide +kernel
theorem dX7_addGoes_23 : decode cX7_addGoes 23 = .ok (.istore 6, 2) := by decide +kernel
theorem dX7_addGoes_25 : decode cX7_addGoes 25 = .ok (.iload 6, 2) := by decide +kernel
theorem dX7_addGoes_27 : decode cX7_addGoes 27 = .ok (.aload_n 0, 1) := by decide +kernel
theorem dX7_addGoes_28 : decode cX7_addGoes 28 = .ok (.iload 4, 2) := by decide +kernel
theorem dX7_addGoes_30 : decode cX7_addGoes 30 = .ok (.invokevirtual 68, 3) := by decide +kernel
theorem dX7_addGoes_33 : decode cX7_addGoes 33 = .ok (.if_icmp .gt 79, 3) := by decide +kernel
theorem dX7_addGoes_36 : decode cX7_addGoes 36 = .ok (.aload_n 0, 1) := by decide +kernel
theorem dX7_addGoes_37 : decode cX7_addGoes 37 = .ok (.getfield 27, 3) := by decide +kernel
theorem dX7_addGoes_40 : decode cX7_addGoes 40 = .ok (.iload_n 1, 1) := by decide +kernel
theorem dX7_addGoes_41 : decode cX7_addGoes 41 = .ok (.iconst 1, 1) := by decide +kernel
theorem dX7_addGoes_42 : decode cX7_addGoes 42 = .ok (.isub, 1) := by decide +kernel
theorem dX7_addGoes_43 : decode cX7_addGoes 43 = .ok (.iload_n 3, 1) := by decide +kernel
theorem dX7_addGoes_44 : decode cX7_addGoes 44 = .ok (.invokevirtual 45, 3) := by decide +kernel
theorem dX7_addGoes_47 : decode cX7_addGoes 47 = .ok (.i2l, 1) := by decide +kernel
theorem dX7_addGoes_48 : decode cX7_addGoes 48 = .ok (.aload_n 0, 1) := by decide +kernel
theorem dX7_addGoes_49 : decode cX7_addGoes 49 = .ok (.getfield 17, 3) := by decide +kernel
theorem dX7_addGoes_52 : decode cX7_addGoes 52 = .ok (.iload_n 3, 1) := by decide +kernel
theorem dX7_addGoes_53 : decode cX7_addGoes 53 = .ok (.aaload, 1) := by decide +kernel
theorem dX7_addGoes_54 : decode cX7_addGoes 54 = .ok (.iload 5, 2) := by decide +kernel
theorem dX7_addGoes_56 : decode cX7_addGoes 56 = .ok (.laload, 1) := by decide +kernel
theorem dX7_addGoes_57 : decode cX7_addGoes 57 = .ok (.lmul, 1) := by decide +kernel
theorem dX7_addGoes_58 : decode cX7_addGoes 58 = .ok (.aload_n 0, 1) := by decide +kernel
theorem dX7_addGoes_59 : decode cX7_addGoes 59 = .ok (.getfield 17, 3) := by decide +kernel
theorem dX7_addGoes_62 : decode cX7_addGoes 62 = .ok (.iload 4, 2) := by decide +kernel
theorem dX7_addGoes_64 : decode cX7_addGoes 64 = .ok (.aaload, 1) := by decide +kernel
theorem dX7_addGoes_65 : decode cX7_addGoes 65 = .ok (.iload 6, 2) := by decide +kernel
theorem dX7_addGoes_67 : decode cX7_addGoes 67 = .ok (.laload, 1) := by decide +kernel
theorem dX7_addGoes_68 : decode cX7_addGoes 68 = .ok (.lmul, 1) := by decide +kernel
theorem dX7_addGoes_69 : decode cX7_addGoes 69 = .ok (.lstore 7, 2) := by decide +kernel
theorem dX7_addGoes_71 : decode cX7_addGoes 71 = .ok (.iconst 0, 1) := by decide +kernel
theorem dX7_addGoes_72 : decode cX7_addGoes 72 = .ok (.istore 9, 2) := by decide +kernel
theorem dX7_addGoes_74 : decode cX7_addGoes 74 = .ok (.iload 9, 2) := by decide +kernel
theorem dX7_addGoes_76 : decode cX7_addGoes 76 = .ok (.iload_n 2, 1) := by decide +kernel
theorem dX7_addGoes_77 : decode cX7_addGoes 77 = .ok (.if_icmp .ge 29, 3) := by decide +kernel
theorem dX7_addGoes_80 : decode cX7_addGoes 80 = .ok (.aload_n 0, 1) := by decide +kernel
theorem dX7_addGoes_81 : decode cX7_addGoes 81 = .ok (.getfield 17, 3) := by decide +kernel
theorem dX7_addGoes_84 : decode cX7_addGoes 84 = .ok (.iload_n 1, 1) := by decide +kernel
theorem dX7_addGoes_85 : decode cX7_addGoes 85 = .ok (.aaload, 1) := by decide +kernel
theorem dX7_addGoes_86 : decode cX7_addGoes 86 = .ok (.iload 5, 2) := by decide +kernel
theorem dX7_addGoes_88 : decode cX7_addGoes 88 = .ok (.iload 6, 2) := by decide +kernel
theorem dX7_addGoes_90 : decode cX7_addGoes 90 = .ok (.iadd, 1) := by decide +kernel
theorem dX7_addGoes_91 : decode cX7_addGoes 91 = .ok (.iload 9, 2) := by decide +kernel
theorem dX7_addGoes_93 : decode cX7_addGoes 93 = .ok (.iadd, 1) := by decide +kernel
theorem dX7_addGoes_94 : decode cX7_addGoes 94 = .ok (.dup2, 1) := by decide +kernel
theorem dX7_addGoes_95 : decode cX7_addGoes 95 = .ok (.laload, 1) := by decide +kernel
theorem dX7_addGoes_96 : decode cX7_addGoes 96 = .ok (.lload 7, 2) := by decide +kernel
theorem dX7_addGoes_98 : decode cX7_addGoes 98 = .ok (.ladd, 1) := by decide +kernel
theorem dX7_addGoes_99 : decode cX7_addGoes 99 = .ok (.lastore, 1) := by decide +kernel
theorem dX7_addGoes_100 : decode cX7_addGoes 100 = .ok (.iinc 9 1, 3) := by decide +kernel
theorem dX7_addGoes_103 : decode cX7_addGoes 103 = .ok (.goto (-29), 3) := by decide +kernel
theorem dX7_addGoes_106 : decode cX7_addGoes 106 = .ok (.iinc 6 1, 3) := by decide +kernel
theorem dX7_addGoes_109 : decode cX7_addGoes 109 = .ok (.goto (-84), 3) := by decide +kernel
theorem dX7_addGoes_112 : decode cX7_addGoes 112 = .ok (.iinc 5 1, 3) := by decide +kernel
theorem dX7_addGoes_115 : decode cX7_addGoes 115 = .ok (.goto (-103), 3) := by decide +kernel
theorem dX7_addGoes_118 : decode cX7_addGoes 118 = .ok (.return_, 1) := by decide +kernel
theorem dX7_addLucky_0 : decode cX7_addLucky 0 = .ok (.iload_n 2, 1) := by decide +kernel
theorem dX7_addLucky_1 : decode cX7_addLucky 1 = .ok (.iconst 1, 1) := by decide +kernel
theorem dX7_addLucky_2 : decode cX7_addLucky 2 = .ok (.isub, 1) := by decide +kernel
theorem dX7_addLucky_3 : decode cX7_addLucky 3 = .ok (.istore_n 3, 1) := by decide +kernel
theorem dX7_addLucky_4 : decode cX7_addLucky 4 = .ok (.iload_n 1, 1) := by decide +kernel
theorem dX7_addLucky_5 : decode cX7_addLucky 5 = .ok (.iload_n 2, 1) := by decide +kernel
theorem dX7_addLucky_6 : decode cX7_addLucky 6 = .ok (.isub, 1) := by decide +kernel
theorem dX7_addLucky_7 : decode cX7_addLucky 7 = .ok (.istore 4, 2) := by decide +kernel
theorem dX7_addLucky_9 : decode cX7_addLucky 9 = .ok (.iconst 0, 1) := by decide +kernel
theorem dX7_addLucky_10 : decode cX7_addLucky 10 = .ok (.istore 5, 2) := by decide +kernel
theorem dX7_addLucky_12 : decode cX7_addLucky 12 = .ok (.iload 5, 2) := by decide +kernel
theorem dX7_addLucky_14 : decode cX7_addLucky 14 = .ok (.iload_n 3, 1) := by decide +kernel
theorem dX7_addLucky_15 : decode cX7_addLucky 15 = .ok (.if_icmp .gt 99, 3) := by decide +kernel
theorem dX7_addLucky_18 : decode cX7_addLucky 18 = .ok (.iconst 0, 1) := by decide +kernel
theorem dX7_addLucky_19 : decode cX7_addLucky 19 = .ok (.istore 6, 2) := by decide +kernel
theorem dX7_addLucky_21 : decode cX7_addLucky 21 = .ok (.iload 6, 2) := by decide +kernel
theorem dX7_addLucky_23 : decode cX7_addLucky 23 = .ok (.iload 4, 2) := by decide +kernel
theorem dX7_addLucky_25 : decode cX7_addLucky 25 = .ok (.if_icmp .gt 83, 3) := by decide +kernel
theorem dX7_addLucky_28 : decode cX7_addLucky 28 = .ok (.aload_n 0, 1) := by decide +kernel
theorem dX7_addLucky_29 : decode cX7_addLucky 29 = .ok (.getfield 27, 3) := by decide +kernel
theorem dX7_addLucky_32 : decode cX7_addLucky 32 = .ok (.iload_n 1, 1) := by decide +kernel
theorem dX7_addLucky_33 : decode cX7_addLucky 33 = .ok (.iconst 1, 1) := by decide +kernel
theorem dX7_addLucky_34 : decode cX7_addLucky 34 = .ok (.isub, 1) := by decide +kernel
theorem dX7_addLucky_35 : decode cX7_addLucky 35 = .ok (.iload_n 3, 1) := by decide +kernel
theorem dX7_addLucky_36 : decode cX7_addLucky 36 = .ok (.invokevirtual 45, 3) := by decide +kernel
theorem dX7_addLucky_39 : decode cX7_addLucky 39 = .ok (.i2l, 1) := by decide +kernel
theorem dX7_addLucky_40 : decode cX7_addLucky 40 = .ok (.aload_n 0, 1) := by decide +kernel
theorem dX7_addLucky_41 : decode cX7_addLucky 41 = .ok (.getfield 20, 3) := by decide +kernel
theorem dX7_addLucky_44 : decode cX7_addLucky 44 = .ok (.iload_n 3, 1) := by decide +kernel
theorem dX7_addLucky_45 : decode cX7_addLucky 45 = .ok (.aaload, 1) := by decide +kernel
theorem dX7_addLucky_46 : decode cX7_addLucky 46 = .ok (.iload 5, 2) := by decide +kernel
theorem dX7_addLucky_48 : decode cX7_addLucky 48 = .ok (.laload, 1) := by decide +kernel
theorem dX7_addLucky_49 : decode cX7_addLucky 49 = .ok (.lmul, 1) := by decide +kernel
theorem dX7_addLucky_50 : decode cX7_addLucky 50 = .ok (.aload_n 0, 1) := by decide +kernel
theorem dX7_addLucky_51 : decode cX7_addLucky 51 = .ok (.getfield 20, 3) := by decide +kernel
theorem dX7_addLucky_54 : decode cX7_addLucky 54 = .ok (.iload 4, 2) := by decide +kernel
theorem dX7_addLucky_56 : decode cX7_addLucky 56 = .ok (.aaload, 1) := by decide +kernel
theorem dX7_addLucky_57 : decode cX7_addLucky 57 = .ok (.iload 6, 2) := by decide +kernel
theorem dX7_addLucky_59 : decode cX7_addLucky 59 = .ok (.laload, 1) := by decide +kernel
theorem dX7_addLucky_60 : decode cX7_addLucky 60 = .ok (.lmul, 1) := by decide +kernel
theorem dX7_addLucky_61 : decode cX7_addLucky 61 = .ok (.lstore 7, 2) := by decide +kernel
theorem dX7_addLucky_63 : decode cX7_addLucky 63 = .ok (.aload_n 0, 1) := by decide +kernel
theorem dX7_addLucky_64 : decode cX7_addLucky 64 = .ok (.getfield 20, 3) := by decide +kernel
theorem dX7_addLucky_67 : decode cX7_addLucky 67 = .ok (.iload_n 1, 1) := by decide +kernel
theorem dX7_addLucky_68 : decode cX7_addLucky 68 = .ok (.aaload, 1) := by decide +kernel
theorem dX7_addLucky_69 : decode cX7_addLucky 69 = .ok (.iload 5, 2) := by decide +kernel
theorem dX7_addLucky_71 : decode cX7_addLucky 71 = .ok (.iload 6, 2) := by decide +kernel
theorem dX7_addLucky_73 : decode cX7_addLucky 73 = .ok (.iadd, 1) := by decide +kernel
theorem dX7_addLucky_74 : decode cX7_addLucky 74 = .ok (.dup2, 1) := by decide +kernel
theorem dX7_addLucky_75 : decode cX7_addLucky 75 = .ok (.laload, 1) := by decide +kernel
theorem dX7_addLucky_76 : decode cX7_addLucky 76 = .ok (.lload 7, 2) := by decide +kernel
theorem dX7_addLucky_78 : decode cX7_addLucky 78 = .ok (.iload_n 3, 1) := by decide +kernel
theorem dX7_addLucky_79 : decode cX7_addLucky 79 = .ok (.i2l, 1) := by decide +kernel
theorem dX7_addLucky_80 : decode cX7_addLucky 80 = .ok (.lmul, 1) := by decide +kernel
theorem dX7_addLucky_81 : decode cX7_addLucky 81 = .ok (.ladd, 1) := by decide +kernel
theorem dX7_addLucky_82 : decode cX7_addLucky 82 = .ok (.lastore, 1) := by decide +kernel
theorem dX7_addLucky_83 : decode cX7_addLucky 83 = .ok (.aload_n 0, 1) := by decide +kernel
theorem dX7_addLucky_84 : decode cX7_addLucky 84 = .ok (.getfield 20, 3) := by decide +kernel
theorem dX7_addLucky_87 : decode cX7_addLucky 87 = .ok (.iload_n 1, 1) := by decide +kernel
theorem dX7_addLucky_88 : decode cX7_addLucky 88 = .ok (.aaload, 1) := by decide +kernel
theorem dX7_addLucky_89 : decode cX7_addLucky 89 = .ok (.iload 5, 2) := by decide +kernel
theorem dX7_addLucky_91 : decode cX7_addLucky 91 = .ok (.iload 6, 2) := by decide +kernel
theorem dX7_addLucky_93 : decode cX7_addLucky 93 = .ok (.iadd, 1) := by decide +kernel
theorem dX7_addLucky_94 : decode cX7_addLucky 94 = .ok (.iconst 1, 1) := by decide +kernel
theorem dX7_addLucky_95 : decode cX7_addLucky 95 = .ok (.iadd, 1) := by decide +kernel
theorem dX7_addLucky_96 : decode cX7_addLucky 96 = .ok (.dup2, 1) := by decide +kernel
theorem dX7_addLucky_97 : decode cX7_addLucky 97 = .ok (.laload, 1) := by decide +kernel
theorem dX7_addLucky_98 : decode cX7_addLucky 98 = .ok (.lload 7, 2) := by decide +kernel
theorem dX7_addLucky_100 : decode cX7_addLucky 100 = .ok (.ladd, 1) := by decide +kernel
theorem dX7_addLucky_101 : decode cX7_addLucky 101 = .ok (.lastore, 1) := by decide +kernel
theorem dX7_addLucky_102 : decode cX7_addLucky 102 = .ok (.iinc 6 1, 3) := by decide +kernel
theorem dX7_addLucky_105 : decode cX7_addLucky 105 = .ok (.goto (-84), 3) := by decide +kernel
theorem dX7_addLucky_108 : decode cX7_addLucky 108 = .ok (.iinc 5 1, 3) := by decide +kernel
theorem dX7_addLucky_111 : decode cX7_addLucky 111 = .ok (.goto (-99), 3) := by decide +kernel
theorem dX7_addLucky_114 : decode cX7_addLucky 114 = .ok (.return_, 1) := by decide +kernel
theorem dX8_init_0 : decode cX8_init 0 = .ok (.aload_n 0, 1) := by decide +kernel
theorem dX8_init_1 : decode cX8_init 1 = .ok (.invokespecial 3, 3) := by decide +kernel
theorem dX8_init_4 : decode cX8_init 4 = .ok (.aload_n 0, 1) := by decide +kernel
theorem dX8_init_5 : decode cX8_init 5 = .ok (.iconst 0, 1) := by decide +kernel
theorem dX8_init_6 : decode cX8_init 6 = .ok (.putfield 9, 3) := by decide +kernel
theorem dX8_init_9 : decode cX8_init 9 = .ok (.aload_n 0, 1) := by decide +kernel
theorem dX8_init_10 : decode cX8_init 10 = .ok (.bipush 11, 2) := by decide +kernel
theorem dX8_init_12 : decode cX8_init 12 = .ok (.newarray .int, 2) := by decide +kernel
theorem dX8_init_14 : decode cX8_init 14 = .ok (.putfield 15, 3) := by decide +kernel
theorem dX8_init_17 : decode cX8_init 17 = .ok (.aload_n 0, 1) := by decide +kernel
theorem dX8_init_18 : decode cX8_init 18 = .ok (.bipush 11, 2) := by decide +kernel
theorem dX8_init_20 : decode cX8_init 20 = .ok (.newarray .int, 2) := by decide +kernel
theorem dX8_init_22 : decode cX8_init 22 = .ok (.putfield 19, 3) := by decide +kernel
theorem dX8_init_25 : decode cX8_init 25 = .ok (.aload_n 0, 1) := by decide +kernel
theorem dX8_init_26 : decode cX8_init 26 = .ok (.bipush 11, 2) := by decide +kernel
theorem dX8_init_28 : decode cX8_init 28 = .ok (.newarray .int, 2) := by decide +kernel
theorem dX8_init_30 : decode cX8_init 30 = .ok (.putfield 22, 3) := by decide +kernel
theorem dX8_init_33 : decode cX8_init 33 = .ok (.aload_n 0, 1) := by decide +kernel
theorem dX8_init_34 : decode cX8_init 34 = .ok (.bipush 11, 2) := by decide +kernel
theorem dX8_init_36 : decode cX8_init 36 = .ok (.newarray .int, 2) := by decide +kernel
theorem dX8_init_38 : decode cX8_init 38 = .ok (.putfield 25, 3) := by decide +kernel
theorem dX8_init_41 : decode cX8_init 41 = .ok (.aload_n 0, 1) := by decide +kernel
theorem dX8_init_42 : decode cX8_init 42 = .ok (.bipush 11, 2) := by decide +kernel
theorem dX8_init_44 : decode cX8_init 44 = .ok (.newarray .int, 2) := by decide +kernel
theorem dX8_init_46 : decode cX8_init 46 = .ok (.putfield 28, 3) := by decide +kernel
theorem dX8_init_49 : decode cX8_init 49 = .ok (.aload_n 0, 1) := by decide +kernel
theorem dX8_init_50 : decode cX8_init 50 = .ok (.bipush 12, 2) := by decide +kernel
theorem dX8_init_52 : decode cX8_init 52 = .ok (.newarray .int, 2) := by decide +kernel
theorem dX8_init_54 : decode cX8_init 54 = .ok (.putfield 31, 3) := by decide +kernel
theorem dX8_init_57 : decode cX8_init 57 = .ok (.aload_n 0, 1) := by decide +kernel
theorem dX8_init_58 : decode cX8_init 58 = .ok (.bipush 11, 2) := by decide +kernel
theorem dX8_init_60 : decode cX8_init 60 = .ok (.newarray .int, 2) := by decide +kernel
theorem dX8_init_62 : decode cX8_init 62 = .ok (.putfield 34, 3) := by decide +kernel
theorem dX8_init_65 : decode cX8_init 65 = .ok (.return_, 1) := by decide +kernel
theorem dX8_build_0 : decode cX8_build 0 = .ok (.aload_n 0, 1) := by decide +kernel
theorem dX8_build_1 : decode cX8_build 1 = .ok (.iload_n 2, 1) := by decide +kernel
theorem dX8_build_2 : decode cX8_build 2 = .ok (.putfield 9, 3) := by decide +kernel
theorem dX8_build_5 : decode cX8_build 5 = .ok (.iconst 0, 1) := by decide +kernel
theorem dX8_build_6 : decode cX8_build 6 = .ok (.istore_n 3, 1) := by decide +kernel
theorem dX8_build_7 : decode cX8_build 7 = .ok (.iload_n 3, 1) := by decide +kernel
theorem dX8_build_8 : decode cX8_build 8 = .ok (.aload_n 0, 1) := by decide +kernel
theorem dX8_build_9 : decode cX8_build 9 = .ok (.getfield 9, 3) := by decide +kernel
theorem dX8_build_12 : decode cX8_build 12 = .ok (.if_icmp .gt 23, 3) := by decide +kernel
theorem dX8_build_15 : decode cX8_build 15 = .ok (.aload_n 0, 1) := by decide +kernel
theorem dX8_build_16 : decode cX8_build 16 = .ok (.getfield 22, 3) := by decide +kernel
theorem dX8_build_19 : decode cX8_build 19 = .ok (.iload_n 3, 1) := by decide +kernel
theorem dX8_build_20 : decode cX8_build 20 = .ok (.iconst 0, 1) := by decide +kernel
theorem dX8_build_21 : decode cX8_build 21 = .ok (.iastore, 1) := by decide +kernel
theorem dX8_build_22 : decode cX8_build 22 = .ok (.aload_n 0, 1) := by decide +kernel
theorem dX8_build_23 : decode cX8_build 23 = .ok (.getfield 25, 3) := by decide +kernel
theorem dX8_build_26 : decode cX8_build 26 = .ok (.iload_n 3, 1) := by decide +kernel
theorem dX8_build_27 : decode cX8_build 27 = .ok (.iconst 0, 1) := by decide +kernel
theorem dX8_build_28 : decode cX8_build 28 = .ok (.iastore, 1) := by decide +kernel
theorem dX8_build_29 : decode cX8_build 29 = .ok (.iinc 3 1, 3) := by decide +kernel
theorem dX8_build_32 : decode cX8_build 32 = .ok (.goto (-25), 3) := by decide +kernel
theorem dX8_build_35 : decode cX8_build 35 = .ok (.aload_n 0, 1) := by decide +kernel
theorem dX8_build_36 : decode cX8_build 36 = .ok (.aload_n 1, 1) := by decide +kernel
theorem dX8_build_37 : decode cX8_build 37 = .ok (.invokevirtual 37, 3) := by decide +kernel
theorem dX8_build_40 : decode cX8_build 40 = .ok (.aload_n 0, 1) := by decide +kernel
theorem dX8_build_41 : decode cX8_build 41 = .ok (.getfield 9, 3) := by decide +kernel
theorem dX8_build_44 : decode cX8_build 44 = .ok (.iconst 1, 1) := by decide +kernel
theorem dX8_build_45 : decode cX8_build 45 = .ok (.iadd, 1) := by decide +kernel
theorem dX8_build_46 : decode cX8_build 46 = .ok (.istore_n 3, 1) := by decide +kernel
theorem dX8_build_47 : decode cX8_build 47 = .ok (.iload_n 3, 1) := by decide +kernel
theorem dX8_build_48 : decode cX8_build 48 = .ok (.iconst 2, 1) := by decide +kernel
theorem dX8_build_49 : decode cX8_build 49 = .ok (.if_icmp .lt 41, 3) := by decide +kernel
theorem dX8_build_52 : decode cX8_build 52 = .ok (.aload_n 0, 1) := by decide +kernel
theorem dX8_build_53 : decode cX8_build 53 = .ok (.getfield 25, 3) := by decide +kernel
theorem dX8_build_56 : decode cX8_build 56 = .ok (.aload_n 0, 1) := by decide +kernel
theorem dX8_build_57 : decode cX8_build 57 = .ok (.getfield 15, 3) := by decide +kernel
theorem dX8_build_60 : decode cX8_build 60 = .ok (.aload_n 0, 1) := by decide +kernel
theorem dX8_build_61 : decode cX8_build 61 = .ok (.getfield 31, 3) := by decide +kernel
theorem dX8_build_64 : decode cX8_build 64 = .ok (.iload_n 3, 1) := by decide +kernel
theorem dX8_build_65 : decode cX8_build 65 = .ok (.iaload, 1) := by decide +kernel
theorem dX8_build_66 : decode cX8_build 66 = .ok (.iaload, 1) := by decide +kernel
theorem dX8_build_67 : decode cX8_build 67 = .ok (.dup2, 1) := by decide +kernel
theorem dX8_build_68 : decode cX8_build 68 = .ok (.iaload, 1) := by decide +kernel
theorem dX8_build_69 : decode cX8_build 69 = .ok (.aload_n 0, 1) := by decide +kernel
theorem dX8_build_70 : decode cX8_build 70 = .ok (.getfield 25, 3) := by decide +kernel
theorem dX8_build_73 : decode cX8_build 73 = .ok (.aload_n 0, 1) := by decide +kernel
theorem dX8_build_74 : decode cX8_build 74 = .ok (.getfield 31, 3) := by decide +kernel
theorem dX8_build_77 : decode cX8_build 77 = .ok (.iload_n 3, 1) := by decide +kernel
theorem dX8_build_78 : decode cX8_build 78 = .ok (.iaload, 1) := by decide +kernel
theorem dX8_build_79 : decode cX8_build 79 = .ok (.iaload, 1) := by decide +kernel
theorem dX8_build_80 : decode cX8_build 80 = .ok (.iconst 1, 1) := by decide +kernel
theorem dX8_build_81 : decode cX8_build 81 = .ok (.iadd, 1) := by decide +kernel
theorem dX8_build_82 : decode cX8_build 82 = .ok (.iadd, 1) := by decide +kernel
theorem dX8_build_83 : decode cX8_build 83 = .ok (.iastore, 1) := by decide +kernel
theorem dX8_build_84 : decode cX8_build 84 = .ok (.iinc 3 (-1), 3) := by decide +kernel
theorem dX8_build_87 : decode cX8_build 87 = .ok (.goto (-40), 3) := by decide +kernel
theorem dX8_build_90 : decode cX8_build 90 = .ok (.return_, 1) := by decide +kernel
theorem dX8_hangCars_0 : decode cX8_hangCars 0 = .ok (.aload_n 0, 1) := by decide +kernel
theorem dX8_hangCars_1 : decode cX8_hangCars 1 = .ok (.getfield 31, 3) := by decide +kernel
theorem dX8_hangCars_4 : decode cX8_hangCars 4 = .ok (.iconst 1, 1) := by decide +kernel
theorem dX8_hangCars_5 : decode cX8_hangCars 5 = .ok (.iconst 0, 1) := by decide +kernel
theorem dX8_hangCars_6 : decode cX8_hangCars 6 = .ok (.iastore, 1) := by decide +kernel
theorem dX8_hangCars_7 : decode cX8_hangCars 7 = .ok (.aload_n 0, 1) := by decide +kernel
theorem dX8_hangCars_8 : decode cX8_hangCars 8 = .ok (.getfield 19, 3) := by decide +kernel
theorem dX8_hangCars_11 : decode cX8_hangCars 11 = .ok (.iconst 0, 1) := by decide +kernel
theorem dX8_hangCars_12 : decode cX8_hangCars 12 = .ok (.iconst 0, 1) := by decide +kernel
theorem dX8_hangCars_13 : decode cX8_hangCars 13 = .ok (.iastore, 1) := by decide +kernel
theorem dX8_hangCars_14 : decode cX8_hangCars 14 = .ok (.iconst 1, 1) := by decide +kernel
theorem dX8_hangCars_15 : decode cX8_hangCars 15 = .ok (.istore_n 2, 1) := by decide +kernel
theorem dX8_hangCars_16 : decode cX8_hangCars 16 = .ok (.iconst 1, 1) := by decide +kernel
theorem dX8_hangCars_17 : decode cX8_hangCars 17 = .ok (.istore_n 3, 1) := by decide +kernel
theorem dX8_hangCars_18 : decode cX8_hangCars 18 = .ok (.iload_n 3, 1) := by decide +kernel
theorem dX8_hangCars_19 : decode cX8_hangCars 19 = .ok (.aload_n 0, 1) := by decide +kernel
theorem dX8_hangCars_20 : decode cX8_hangCars 20 = .ok (.getfield 9, 3) := by decide +kernel
theorem dX8_hangCars_23 : decode cX8_hangCars 23 = .ok (.if_icmp .gt 102, 3) := by decide +kernel
theorem dX8_hangCars_26 : decode cX8_hangCars 26 = .ok (.iconst 1, 1) := by decide +kernel
theorem dX8_hangCars_27 : decode cX8_hangCars 27 = .ok (.istore 4, 2) := by decide +kernel
theorem dX8_hangCars_29 : decode cX8_hangCars 29 = .ok (.iload 4, 2) := by decide +kernel
theorem dX8_hangCars_31 : decode cX8_hangCars 31 = .ok (.aload_n 0, 1) := by decide +kernel
theorem dX8_hangCars_32 : decode cX8_hangCars 32 = .ok (.getfield 9, 3) := by decide +kernel
theorem dX8_hangCars_35 : decode cX8_hangCars 35 = .ok (.if_icmp .gt 84, 3) := by decide +kernel
theorem dX8_hangCars_38 : decode cX8_hangCars 38 = .ok (.aload_n 1, 1) := by decide +kernel
theorem dX8_hangCars_39 : decode cX8_hangCars 39 = .ok (.iload 4, 2) := by decide +kernel
theorem dX8_hangCars_41 : decode cX8_hangCars 41 = .ok (.iaload, 1) := by decide +kernel
theorem dX8_hangCars_42 : decode cX8_hangCars 42 = .ok (.iload_n 3, 1) := by decide +kernel
theorem dX8_hangCars_43 : decode cX8_hangCars 43 = .ok (.if_icmp .ne 70, 3) := by decide +kernel
theorem dX8_hangCars_46 : decode cX8_hangCars 46 = .ok (.iinc 2 1, 3) := by decide +kernel
theorem dX8_hangCars_49 : decode cX8_hangCars 49 = .ok (.aload_n 0, 1) := by decide +kernel
theorem dX8_hangCars_50 : decode cX8_hangCars 50 = .ok (.getfield 31, 3) := by decide +kernel
theorem dX8_hangCars_53 : decode cX8_hangCars 53 = .ok (.iload_n 2, 1) := by decide +kernel
theorem dX8_hangCars_54 : decode cX8_hangCars 54 = .ok (.iload 4, 2) := by decide +kernel
theorem dX8_hangCars_56 : decode cX8_hangCars 56 = .ok (.iastore, 1) := by decide +kernel
theorem dX8_hangCars_57 : decode cX8_hangCars 57 = .ok (.aload_n 0, 1) := by decide +kernel
theorem dX8_hangCars_58 : decode cX8_hangCars 58 = .ok (.getfield 28, 3) := by decide +kernel
theorem dX8_hangCars_61 : decode cX8_hangCars 61 = .ok (.iload 4, 2) := by decide +kernel
theorem dX8_hangCars_63 : decode cX8_hangCars 63 = .ok (.iload_n 2, 1) := by decide +kernel
theorem dX8_hangCars_64 : decode cX8_hangCars 64 = .ok (.iastore, 1) := by decide +kernel
theorem dX8_hangCars_65 : decode cX8_hangCars 65 = .ok (.aload_n 0, 1) := by decide +kernel
theorem dX8_hangCars_66 : decode cX8_hangCars 66 = .ok (.getfield 15, 3) := by decide +kernel
theorem dX8_hangCars_69 : decode cX8_hangCars 69 = .ok (.iload 4, 2) := by decide +kernel
theorem dX8_hangCars_71 : decode cX8_hangCars 71 = .ok (.aload_n 0, 1) := by decide +kernel
theorem dX8_hangCars_72 : decode cX8_hangCars 72 = .ok (.getfield 31, 3) := by decide +kernel
theorem dX8_hangCars_75 : decode cX8_hangCars 75 = .ok (.iload_n 3, 1) := by decide +kernel
theorem dX8_hangCars_76 : decode cX8_hangCars 76 = .ok (.iaload, 1) := by decide +kernel
theorem dX8_hangCars_77 : decode cX8_hangCars 77 = .ok (.iastore, 1) := by decide +kernel
theorem dX8_hangCars_78 : decode cX8_hangCars 78 = .ok (.aload_n 0, 1) := by decide +kernel
theorem dX8_hangCars_79 : decode cX8_hangCars 79 = .ok (.getfield 19, 3) := by decide +kernel
theorem dX8_hangCars_82 : decode cX8_hangCars 82 = .ok (.iload 4, 2) := by decide +kernel
theorem dX8_hangCars_84 : decode cX8_hangCars 84 = .ok (.aload_n 0, 1) := by decide +kernel
theorem dX8_hangCars_85 : decode cX8_hangCars 85 = .ok (.getfield 19, 3) := by decide +kernel
theorem dX8_hangCars_88 : decode cX8_hangCars 88 = .ok (.aload_n 0, 1) := by decide +kernel
theorem dX8_hangCars_89 : decode cX8_hangCars 89 = .ok (.getfield 31, 3) := by decide +kernel
theorem dX8_hangCars_92 : decode cX8_hangCars 92 = .ok (.iload_n 3, 1) := by decide +kernel
theorem dX8_hangCars_93 : decode cX8_hangCars 93 = .ok (.iaload, 1) := by decide +kernel
theorem dX8_hangCars_94 : decode cX8_hangCars 94 = .ok (.iaload, 1) := by decide +kernel
theorem dX8_hangCars_95 : decode cX8_hangCars 95 = .ok (.iconst 1, 1) := by decide +kernel
theorem dX8_hangCars_96 : decode cX8_hangCars 96 = .ok (.iadd, 1) := by decide +kernel
theorem dX8_hangCars_97 : decode cX8_hangCars 97 = .ok (.iastore, 1) := by decide +kernel
theorem dX8_hangCars_98 : decode cX8_hangCars 98 = .ok (.aload_n 0, 1) := by decide +kernel
theorem dX8_hangCars_99 : decode cX8_hangCars 99 = .ok (.getfield 22, 3) := by decide +kernel
theorem dX8_hangCars_102 : decode cX8_hangCars 102 = .ok (.aload_n 0, 1) := by decide +kernel
theorem dX8_hangCars_103 : decode cX8_hangCars 103 = .ok (.getfield 31, 3) := by decide +kernel
theorem dX8_hangCars_106 : decode cX8_hangCars 106 = .ok (.iload_n 3, 1) := by decide +kernel
theorem dX8_hangCars_107 : decode cX8_hangCars 107 = .ok (.iaload, 1) := by decide +kernel
theorem dX8_hangCars_108 : decode cX8_hangCars 108 = .ok (.dup2, 1) := by decide +kernel
theorem dX8_hangCars_109 : decode cX8_hangCars 109 = .ok (.iaload, 1) := by decide +kernel
theorem dX8_hangCars_110 : decode cX8_hangCars 110 = .ok (.iconst 1, 1) := by decide +kernel
theorem dX8_hangCars_111 : decode cX8_hangCars 111 = .ok (.iadd, 1) := by decide +kernel
theorem dX8_hangCars_112 : decode cX8_hangCars 112 = .ok (.iastore, 1) := by decide +kernel
theorem dX8_hangCars_113 : decode cX8_hangCars 113 = .ok (.iinc 4 1, 3) := by decide +kernel
theorem dX8_hangCars_116 : decode cX8_hangCars 116 = .ok (.goto (-87), 3) := by decide +kernel
theorem dX8_hangCars_119 : decode cX8_hangCars 119 = .ok (.iinc 3 1, 3) := by decide +kernel
theorem dX8_hangCars_122 : decode cX8_hangCars 122 = .ok (.goto (-104), 3) := by decide +kernel
theorem dX8_hangCars_125 : decode cX8_hangCars 125 = .ok (.return_, 1) := by decide +kernel
theorem dX8_inversions_0 : decode cX8_inversions 0 = .ok (.iconst 0, 1) := by decide +kernel
theorem dX8_inversions_1 : decode cX8_inversions 1 = .ok (.istore_n 1, 1) := by decide +kernel
theorem dX8_inversions_2 : decode cX8_inversions 2 = .ok (.iconst 1, 1) := by decide +kernel
theorem dX8_inversions_3 : decode cX8_inversions 3 = .ok (.istore_n 2, 1) := by decide +kernel
theorem dX8_inversions_4 : decode cX8_inversions 4 = .ok (.iload_n 2, 1) := by decide +kernel
theorem dX8_inversions_5 : decode cX8_inversions 5 = .ok (.aload_n 0, 1) := by decide +kernel
theorem dX8_inversions_6 : decode cX8_inversions 6 = .ok (.getfield 9, 3) := by decide +kernel
theorem dX8_inversions_9 : decode cX8_inversions 9 = .ok (.if_icmp .gt 51, 3) := by decide +kernel
theorem dX8_inversions_12 : decode cX8_inversions 12 = .ok (.aload_n 0, 1) := by decide +kernel
theorem dX8_inversions_13 : decode cX8_inversions 13 = .ok (.getfield 15, 3) := by decide +kernel
theorem dX8_inversions_16 : decode cX8_inversions 16 = .ok (.iload_n 2, 1) := by decide +kernel
theorem dX8_inversions_17 : decode cX8_inversions 17 = .ok (.iaload, 1) := by decide +kernel
theorem dX8_inversions_18 : decode cX8_inversions 18 = .ok (.istore_n 3, 1) := by decide +kernel
theorem dX8_inversions_19 : decode cX8_inversions 19 = .ok (.iconst 1, 1) := by decide +kernel
theorem dX8_inversions_20 : decode cX8_inversions 20 = .ok (.istore 4, 2) := by decide +kernel
theorem dX8_inversions_22 : decode cX8_inversions 22 = .ok (.iload 4, 2) := by decide +kernel
theorem dX8_inversions_24 : decode cX8_inversions 24 = .ok (.aload_n 0, 1) := by decide +kernel
theorem dX8_inversions_25 : decode cX8_inversions 25 = .ok (.getfield 19, 3) := by decide +kernel
theorem dX8_inversions_28 : decode cX8_inversions 28 = .ok (.iload_n 2, 1) := by decide +kernel
theorem dX8_inversions_29 : decode cX8_inversions 29 = .ok (.iaload, 1) := by decide +kernel
theorem dX8_inversions_30 : decode cX8_inversions 30 = .ok (.if_icmp .ge 24, 3) := by decide +kernel
theorem dX8_inversions_33 : decode cX8_inversions 33 = .ok (.iload_n 3, 1) := by decide +kernel
theorem dX8_inversions_34 : decode cX8_inversions 34 = .ok (.iload_n 2, 1) := by decide +kernel
theorem dX8_inversions_35 : decode cX8_inversions 35 = .ok (.if_icmp .le 6, 3) := by decide +kernel
theorem dX8_inversions_38 : decode cX8_inversions 38 = .ok (.iinc 1 1, 3) := by decide +kernel
theorem dX8_inversions_41 : decode cX8_inversions 41 = .ok (.aload_n 0, 1) := by decide +kernel
theorem dX8_inversions_42 : decode cX8_inversions 42 = .ok (.getfield 15, 3) := by decide +kernel
theorem dX8_inversions_45 : decode cX8_inversions 45 = .ok (.iload_n 3, 1) := by decide +kernel
theorem dX8_inversions_46 : decode cX8_inversions 46 = .ok (.iaload, 1) := by decide +kernel
theorem dX8_inversions_47 : decode cX8_inversions 47 = .ok (.istore_n 3, 1) := by decide +kernel
theorem dX8_inversions_48 : decode cX8_inversions 48 = .ok (.iinc 4 1, 3) := by decide +kernel
theorem dX8_inversions_51 : decode cX8_inversions 51 = .ok (.goto (-29), 3) := by decide +kernel
theorem dX8_inversions_54 : decode cX8_inversions 54 = .ok (.iinc 2 1, 3) := by decide +kernel
theorem dX8_inversions_57 : decode cX8_inversions 57 = .ok (.goto (-53), 3) := by decide +kernel
theorem dX8_inversions_60 : decode cX8_inversions 60 = .ok (.iload_n 1, 1) := by decide +kernel
theorem dX8_inversions_61 : decode cX8_inversions 61 = .ok (.ireturn, 1) := by decide +kernel
theorem dX8_codeNumber_0 : decode cX8_codeNumber 0 = .ok (.aload_n 0, 1) := by decide +kernel
theorem dX8_codeNumber_1 : decode cX8_codeNumber 1 = .ok (.getfield 34, 3) := by decide +kernel
theorem dX8_codeNumber_4 : decode cX8_codeNumber 4 = .ok (.iconst 0, 1) := by decide +kernel
theorem dX8_codeNumber_5 : decode cX8_codeNumber 5 = .ok (.aload_n 0, 1) := by decide +kernel
theorem dX8_codeNumber_6 : decode cX8_codeNumber 6 = .ok (.getfield 22, 3) := by decide +kernel
theorem dX8_codeNumber_9 : decode cX8_codeNumber 9 = .ok (.iconst 0, 1) := by decide +kernel
theorem dX8_codeNumber_10 : decode cX8_codeNumber 10 = .ok (.iaload, 1) := by decide +kernel
theorem dX8_codeNumber_11 : decode cX8_codeNumber 11 = .ok (.iastore, 1) := by decide +kernel
theorem dX8_codeNumber_12 : decode cX8_codeNumber 12 = .ok (.iconst 1, 1) := by decide +kernel
theorem dX8_codeNumber_13 : decode cX8_codeNumber 13 = .ok (.istore_n 2, 1) := by decide +kernel
theorem dX8_codeNumber_14 : decode cX8_codeNumber 14 = .ok (.iload_n 2, 1) := by decide +kernel
theorem dX8_codeNumber_15 : decode cX8_codeNumber 15 = .ok (.aload_n 0, 1) := by decide +kernel
theorem dX8_codeNumber_16 : decode cX8_codeNumber 16 = .ok (.getfield 9, 3) := by decide +kernel
theorem dX8_codeNumber_19 : decode cX8_codeNumber 19 = .ok (.if_icmp .gt 23, 3) := by decide +kernel
theorem dX8_codeNumber_22 : decode cX8_codeNumber 22 = .ok (.aload_n 0, 1) := by decide +kernel
theorem dX8_codeNumber_23 : decode cX8_codeNumber 23 = .ok (.getfield 34, 3) := by decide +kernel
theorem dX8_codeNumber_26 : decode cX8_codeNumber 26 = .ok (.iload_n 2, 1) := by decide +kernel
theorem dX8_codeNumber_27 : decode cX8_codeNumber 27 = .ok (.aload_n 0, 1) := by decide +kernel
theorem dX8_codeNumber_28 : decode cX8_codeNumber 28 = .ok (.getfield 22, 3) := by decide +kernel
theorem dX8_codeNumber_31 : decode cX8_codeNumber 31 = .ok (.iload_n 2, 1) := by decide +kernel
theorem dX8_codeNumber_32 : decode cX8_codeNumber 32 = .ok (.iaload, 1) := by decide +kernel
theorem dX8_codeNumber_33 : decode cX8_codeNumber 33 = .ok (.iconst 1, 1) := by decide +kernel
theorem dX8_codeNumber_34 : decode cX8_codeNumber 34 = .ok (.iadd, 1) := by decide +kernel
theorem dX8_codeNumber_35 : decode cX8_codeNumber 35 = .ok (.iastore, 1) := by decide +kernel
theorem dX8_codeNumber_36 : decode cX8_codeNumber 36 = .ok (.iinc 2 1, 3) := by decide +kernel
theorem dX8_codeNumber_39 : decode cX8_codeNumber 39 = .ok (.goto (-25), 3) := by decide +kernel
theorem dX8_codeNumber_42 : decode cX8_codeNumber 42 = .ok (.iconst 0, 1) := by decide +kernel
theorem dX8_codeNumber_43 : decode cX8_codeNumber 43 = .ok (.istore_n 2, 1) := by decide +kernel
theorem dX8_codeNumber_44 : decode cX8_codeNumber 44 = .ok (.iconst 0, 1) := by decide +kernel
theorem dX8_codeNumber_45 : decode cX8_codeNumber 45 = .ok (.istore_n 3, 1) := by decide +kernel
theorem dX8_codeNumber_46 : decode cX8_codeNumber 46 = .ok (.iload_n 3, 1) := by decide +kernel
theorem dX8_codeNumber_47 : decode cX8_codeNumber 47 = .ok (.iload_n 1, 1) := by decide +kernel
theorem dX8_codeNumber_48 : decode cX8_codeNumber 48 = .ok (.if_icmp .gt 28, 3) := by decide +kernel
theorem dX8_codeNumber_51 : decode cX8_codeNumber 51 = .ok (.aload_n 0, 1) := by decide +kernel
theorem dX8_codeNumber_52 : decode cX8_codeNumber 52 = .ok (.getfield 15, 3) := by decide +kernel
theorem dX8_codeNumber_55 : decode cX8_codeNumber 55 = .ok (.aload_n 0, 1) := by decide +kernel
theorem dX8_codeNumber_56 : decode cX8_codeNumber 56 = .ok (.invokevirtual 41, 3) := by decide +kernel
theorem dX8_codeNumber_59 : decode cX8_codeNumber 59 = .ok (.iaload, 1) := by decide +kernel
theorem dX8_codeNumber_60 : decode cX8_codeNumber 60 = .ok (.istore_n 2, 1) := by decide +kernel
theorem dX8_codeNumber_61 : decode cX8_codeNumber 61 = .ok (.aload_n 0, 1) := by decide +kernel
theorem dX8_codeNumber_62 : decode cX8_codeNumber 62 = .ok (.aload_n 0, 1) := by decide +kernel
theorem dX8_codeNumber_63 : decode cX8_codeNumber 63 = .ok (.invokevirtual 41, 3) := by decide +kernel
theorem dX8_codeNumber_66 : decode cX8_codeNumber 66 = .ok (.iload_n 2, 1) := by decide +kernel
theorem dX8_codeNumber_67 : decode cX8_codeNumber 67 = .ok (.invokevirtual 45, 3) := by decide +kernel
theorem dX8_codeNumber_70 : decode cX8_codeNumber 70 = .ok (.iinc 3 1, 3) := by decide +kernel
theorem dX8_codeNumber_73 : decode cX8_codeNumber 73 = .ok (.goto (-27), 3) := by decide +kernel
theorem dX8_codeNumber_76 : decode cX8_codeNumber 76 = .ok (.iload_n 2, 1) := by decide +kernel
theorem dX8_codeNumber_77 : decode cX8_codeNumber 77 = .ok (.ireturn, 1) := by decide +kernel
theorem dX8_parentsOfCode_0 : decode cX8_parentsOfCode 0 = .ok (.aload_n 0, 1) := by decide +kernel
theorem dX8_parentsOfCode_1 : decode cX8_parentsOfCode 1 = .ok (.iload_n 2, 1) := by decide +kernel
theorem dX8_parentsOfCode_2 : decode cX8_parentsOfCode 2 = .ok (.putfield 9, 3) := by decide +kernel
theorem dX8_parentsOfCode_5 : decode cX8_parentsOfCode 5 = .ok (.iconst 0, 1) := by decide +kernel
theorem dX8_parentsOfCode_6 : decode cX8_parentsOfCode 6 = .ok (.istore_n 3, 1) := by decide +kernel
theorem dX8_parentsOfCode_7 : decode cX8_parentsOfCode 7 = .ok (.iload_n 3, 1) := by decide +kernel
theorem dX8_parentsOfCode_8 : decode cX8_parentsOfCode 8 = .ok (.aload_n 0, 1) := by decide +kernel
theorem dX8_parentsOfCode_9 : decode cX8_parentsOfCode 9 = .ok (.getfield 9, 3) := by decide +kernel
theorem dX8_parentsOfCode_12 : decode cX8_parentsOfCode 12 = .ok (.if_icmp .gt 16, 3) := by decide +kernel
theorem dX8_parentsOfCode_15 : decode cX8_parentsOfCode 15 = .ok (.aload_n 0, 1) := by decide +kernel
theorem dX8_parentsOfCode_16 : decode cX8_parentsOfCode 16 = .ok (.getfield 34, 3) := by decide +kernel
theorem dX8_parentsOfCode_19 : decode cX8_parentsOfCode 19 = .ok (.iload_n 3, 1) := by decide +kernel
theorem dX8_parentsOfCode_20 : decode cX8_parentsOfCode 20 = .ok (.iconst 1, 1) := by decide +kernel
theorem dX8_parentsOfCode_21 : decode cX8_parentsOfCode 21 = .ok (.iastore, 1) := by decide +kernel
theorem dX8_parentsOfCode_22 : decode cX8_parentsOfCode 22 = .ok (.iinc 3 1, 3) := by decide +kernel
theorem dX8_parentsOfCode_25 : decode cX8_parentsOfCode 25 = .ok (.goto (-18), 3) := by decide +kernel
theorem dX8_parentsOfCode_28 : decode cX8_parentsOfCode 28 = .ok (.iconst 1, 1) := by decide +kernel
theorem dX8_parentsOfCode_29 : decode cX8_parentsOfCode 29 = .ok (.istore_n 3, 1) := by decide +kernel
theorem dX8_parentsOfCode_30 : decode cX8_parentsOfCode 30 = .ok (.iload_n 3, 1) := by decide +kernel
theorem dX8_parentsOfCode_31 : decode cX8_parentsOfCode 31 = .ok (.aload_n 0, 1) := by decide +kernel
theorem dX8_parentsOfCode_32 : decode cX8_parentsOfCode 32 = .ok (.getfield 9, 3) := by decide +kernel
theorem dX8_parentsOfCode_35 : decode cX8_parentsOfCode 35 = .ok (.if_icmp .ge 21, 3) := by decide +kernel
theorem dX8_parentsOfCode_38 : decode cX8_parentsOfCode 38 = .ok (.aload_n 0, 1) := by decide +kernel
theorem dX8_parentsOfCode_39 : decode cX8_parentsOfCode 39 = .ok (.getfield 34, 3) := by decide +kernel
theorem dX8_parentsOfCode_42 : decode cX8_parentsOfCode 42 = .ok (.aload_n 1, 1) := by decide +kernel
theorem dX8_parentsOfCode_43 : decode cX8_parentsOfCode 43 = .ok (.iload_n 3, 1) := by decide +kernel
theorem dX8_parentsOfCode_44 : decode cX8_parentsOfCode 44 = .ok (.iaload, 1) := by decide +kernel
theorem dX8_parentsOfCode_45 : decode cX8_parentsOfCode 45 = .ok (.dup2, 1) := by decide +kernel
theorem dX8_parentsOfCode_46 : decode cX8_parentsOfCode 46 = .ok (.iaload, 1) := by decide +kernel
theorem dX8_parentsOfCode_47 : decode cX8_parentsOfCode 47 = .ok (.iconst 1, 1) := by decide +kernel
theorem dX8_parentsOfCode_48 : decode cX8_parentsOfCode 48 = .ok (.iadd, 1) := by decide +kernel
theorem dX8_parentsOfCode_49 : decode cX8_parentsOfCode 49 = .ok (.iastore, 1) := by decide +kernel
theorem dX8_parentsOfCode_50 : decode cX8_parentsOfCode 50 = .ok (.iinc 3 1, 3) := by decide +kernel
theorem dX8_parentsOfCode_53 : decode cX8_parentsOfCode 53 = .ok (.goto (-23), 3) := by decide +kernel
theorem dX8_parentsOfCode_56 : decode cX8_parentsOfCode 56 = .ok (.iconst 1, 1) := by decide +kernel
theorem dX8_parentsOfCode_57 : decode cX8_parentsOfCode 57 = .ok (.istore_n 3, 1) := by decide +kernel
theorem dX8_parentsOfCode_58 : decode cX8_parentsOfCode 58 = .ok (.iload_n 3, 1) := by decide +kernel
theorem dX8_parentsOfCode_59 : decode cX8_parentsOfCode 59 = .ok (.aload_n 0, 1) := by decide +kernel
theorem dX8_parentsOfCode_60 : decode cX8_parentsOfCode 60 = .ok (.getfield 9, 3) := by decide +kernel
theorem dX8_parentsOfCode_63 : decode cX8_parentsOfCode 63 = .ok (.if_icmp .ge 34, 3) := by decide +kernel
theorem dX8_parentsOfCode_66 : decode cX8_parentsOfCode 66 = .ok (.aload_n 0, 1) := by decide +kernel
theorem dX8_parentsOfCode_67 : decode cX8_parentsOfCode 67 = .ok (.invokevirtual 41, 3) := by decide +kernel
theorem dX8_parentsOfCode_70 : decode cX8_parentsOfCode 70 = .ok (.istore 4, 2) := by decide +kernel
theorem dX8_parentsOfCode_72 : decode cX8_parentsOfCode 72 = .ok (.aload_n 0, 1) := by decide +kernel
theorem dX8_parentsOfCode_73 : decode cX8_parentsOfCode 73 = .ok (.getfield 15, 3) := by decide +kernel
theorem dX8_parentsOfCode_76 : decode cX8_parentsOfCode 76 = .ok (.iload 4, 2) := by decide +kernel
theorem dX8_parentsOfCode_78 : decode cX8_parentsOfCode 78 = .ok (.aload_n 1, 1) := by decide +kernel
theorem dX8_parentsOfCode_79 : decode cX8_parentsOfCode 79 = .ok (.iload_n 3, 1) := by decide +kernel
theorem dX8_parentsOfCode_80 : decode cX8_parentsOfCode 80 = .ok (.iaload, 1) := by decide +kernel
theorem dX8_parentsOfCode_81 : decode cX8_parentsOfCode 81 = .ok (.iastore, 1) := by decide +kernel
theorem dX8_parentsOfCode_82 : decode cX8_parentsOfCode 82 = .ok (.aload_n 0, 1) := by decide +kernel
theorem dX8_parentsOfCode_83 : decode cX8_parentsOfCode 83 = .ok (.iload 4, 2) := by decide +kernel
theorem dX8_parentsOfCode_85 : decode cX8_parentsOfCode 85 = .ok (.aload_n 1, 1) := by decide +kernel
theorem dX8_parentsOfCode_86 : decode cX8_parentsOfCode 86 = .ok (.iload_n 3, 1) := by decide +kernel
theorem dX8_parentsOfCode_87 : decode cX8_parentsOfCode 87 = .ok (.iaload, 1) := by decide +kernel
theorem dX8_parentsOfCode_88 : decode cX8_parentsOfCode 88 = .ok (.invokevirtual 45, 3) := by decide +kernel
theorem dX8_parentsOfCode_91 : decode cX8_parentsOfCode 91 = .ok (.iinc 3 1, 3) := by decide +kernel
theorem dX8_parentsOfCode_94 : decode cX8_parentsOfCode 94 = .ok (.goto (-36), 3) := by decide +kernel
theorem dX8_parentsOfCode_97 : decode cX8_parentsOfCode 97 = .ok (.aload_n 0, 1) := by decide +kernel
theorem dX8_parentsOfCode_98 : decode cX8_parentsOfCode 98 = .ok (.getfield 15, 3) := by decide +kernel
theorem dX8_parentsOfCode_101 : decode cX8_parentsOfCode 101 = .ok (.aload_n 0, 1) := by decide +kernel
theorem dX8_parentsOfCode_102 : decode cX8_parentsOfCode 102 = .ok (.invokevirtual 41, 3) := by decide +kernel
theorem dX8_parentsOfCode_105 : decode cX8_parentsOfCode 105 = .ok (.iconst 0, 1) := by decide +kernel
theorem dX8_parentsOfCode_106 : decode cX8_parentsOfCode 106 = .ok (.iastore, 1) := by decide +kernel
theorem dX8_parentsOfCode_107 : decode cX8_parentsOfCode 107 = .ok (.return_, 1) := by decide +kernel
theorem dX8_greatestWithOne_0 : decode cX8_greatestWithOne 0 = .ok (.aload_n 0, 1) := by decide +kernel
theorem dX8_greatestWithOne_1 : decode cX8_greatestWithOne 1 = .ok (.getfield 9, 3) := by decide +kernel
theorem dX8_greatestWithOne_4 : decode cX8_greatestWithOne 4 = .ok (.istore_n 1, 1) := by decide +kernel
theorem dX8_greatestWithOne_5 : decode cX8_greatestWithOne 5 = .ok (.iload_n 1, 1) := by decide +kernel
theorem dX8_greatestWithOne_6 : decode cX8_greatestWithOne 6 = .ok (.ifCond .le 21, 3) := by decide +kernel
theorem dX8_greatestWithOne_9 : decode cX8_greatestWithOne 9 = .ok (.aload_n 0, 1) := by decide +kernel
theorem dX8_greatestWithOne_10 : decode cX8_greatestWithOne 10 = .ok (.getfield 34, 3) := by decide +kernel
theorem dX8_greatestWithOne_13 : decode cX8_greatestWithOne 13 = .ok (.iload_n 1, 1) := by decide +kernel
theorem dX8_greatestWithOne_14 : decode cX8_greatestWithOne 14 = .ok (.iaload, 1) := by decide +kernel
theorem dX8_greatestWithOne_15 : decode cX8_greatestWithOne 15 = .ok (.iconst 1, 1) := by decide +kernel
theorem dX8_greatestWithOne_16 : decode cX8_greatestWithOne 16 = .ok (.if_icmp .ne 5, 3) := by decide +kernel
theorem dX8_greatestWithOne_19 : decode cX8_greatestWithOne 19 = .ok (.iload_n 1, 1) := by decide +kernel
theorem dX8_greatestWithOne_20 : decode cX8_greatestWithOne 20 = .ok (.ireturn, 1) := by decide +kernel
theorem dX8_greatestWithOne_21 : decode cX8_greatestWithOne 21 = .ok (.iinc 1 (-1), 3) := by decide +kernel
theorem dX8_greatestWithOne_24 : decode cX8_greatestWithOne 24 = .ok (.goto (-19), 3) := by decide +kernel
theorem dX8_greatestWithOne_27 : decode cX8_greatestWithOne 27 = .ok (.iconst 0, 1) := by decide +kernel
theorem dX8_greatestWithOne_28 : decode cX8_greatestWithOne 28 = .ok (.ireturn, 1) := by decide +kernel
theorem dX8_strike_0 : decode cX8_strike 0 = .ok (.aload_n 0, 1) := by decide +kernel
theorem dX8_strike_1 : decode cX8_strike 1 = .ok (.getfield 34, 3) := by decide +kernel
theorem dX8_strike_4 : decode cX8_strike 4 = .ok (.iload_n 1, 1) := by decide +kernel
theorem dX8_strike_5 : decode cX8_strike 5 = .ok (.iconst 0, 1) := by decide +kernel
theorem dX8_strike_6 : decode cX8_strike 6 = .ok (.iastore, 1) := by decide +kernel
theorem dX8_strike_7 : decode cX8_strike 7 = .ok (.aload_n 0, 1) := by decide +kernel
theorem dX8_strike_8 : decode cX8_strike 8 = .ok (.getfield 34, 3) := by decide +kernel
theorem dX8_strike_11 : decode cX8_strike 11 = .ok (.iload_n 2, 1) := by decide +kernel
theorem dX8_strike_12 : decode cX8_strike 12 = .ok (.dup2, 1) := by decide +kernel
theorem dX8_strike_13 : decode cX8_strike 13 = .ok (.iaload, 1) := by decide +kernel
theorem dX8_strike_14 : decode cX8_strike 14 = .ok (.iconst 1, 1) := by decide +kernel
theorem dX8_strike_15 : decode cX8_strike 15 = .ok (.isub, 1) := by decide +kernel
theorem dX8_strike_16 : decode cX8_strike 16 = .ok (.iastore, 1) := by decide +kernel
theorem dX8_strike_17 : decode cX8_strike 17 = .ok (.return_, 1) := by decide +kernel
theorem dX8_takeParents_0 : decode cX8_takeParents 0 = .ok (.aload_n 0, 1) := by decide +kernel
theorem dX8_takeParents_1 : decode cX8_takeParents 1 = .ok (.iload_n 2, 1) := by decide +kernel
theorem dX8_takeParents_2 : decode cX8_takeParents 2 = .ok (.putfield 9, 3) := by decide +kernel
theorem dX8_takeParents_5 : decode cX8_takeParents 5 = .ok (.iconst 1, 1) := by decide +kernel
theorem dX8_takeParents_6 : decode cX8_takeParents 6 = .ok (.istore_n 3, 1) := by decide +kernel
theorem dX8_takeParents_7 : decode cX8_takeParents 7 = .ok (.iload_n 3, 1) := by decide +kernel
theorem dX8_takeParents_8 : decode cX8_takeParents 8 = .ok (.aload_n 0, 1) := by decide +kernel
theorem dX8_takeParents_9 : decode cX8_takeParents 9 = .ok (.getfield 9, 3) := by decide +kernel
theorem dX8_takeParents_12 : decode cX8_takeParents 12 = .ok (.if_icmp .gt 18, 3) := by decide +kernel
theorem dX8_takeParents_15 : decode cX8_takeParents 15 = .ok (.aload_n 0, 1) := by decide +kernel
theorem dX8_takeParents_16 : decode cX8_takeParents 16 = .ok (.getfield 15, 3) := by decide +kernel
theorem dX8_takeParents_19 : decode cX8_takeParents 19 = .ok (.iload_n 3, 1) := by decide +kernel
theorem dX8_takeParents_20 : decode cX8_takeParents 20 = .ok (.aload_n 1, 1) := by decide +kernel
theorem dX8_takeParents_21 : decode cX8_takeParents 21 = .ok (.iload_n 3, 1) := by decide +kernel
theorem dX8_takeParents_22 : decode cX8_takeParents 22 = .ok (.iaload, 1) := by decide +kernel
theorem dX8_takeParents_23 : decode cX8_takeParents 23 = .ok (.iastore, 1) := by decide +kernel
theorem dX8_takeParents_24 : decode cX8_takeParents 24 = .ok (.iinc 3 1, 3) := by decide +kernel
theorem dX8_takeParents_27 : decode cX8_takeParents 27 = .ok (.goto (-20), 3) := by decide +kernel
theorem dX8_takeParents_30 : decode cX8_takeParents 30 = .ok (.return_, 1) := by decide +kernel
theorem dX8_wishesOfParents_0 : decode cX8_wishesOfParents 0 = .ok (.aload_n 0, 1) := by decide +kernel
theorem dX8_wishesOfParents_1 : decode cX8_wishesOfParents 1 = .ok (.getfield 31, 3) := by decide +kernel
theorem dX8_wishesOfParents_4 : decode cX8_wishesOfParents 4 = .ok (.iconst 1, 1) := by decide +kernel
theorem dX8_wishesOfParents_5 : decode cX8_wishesOfParents 5 = .ok (.iconst 0, 1) := by decide +kernel
theorem dX8_wishesOfParents_6 : decode cX8_wishesOfParents 6 = .ok (.iastore, 1) := by decide +kernel
theorem dX8_wishesOfParents_7 : decode cX8_wishesOfParents 7 = .ok (.iconst 1, 1) := by decide +kernel
theorem dX8_wishesOfParents_8 : decode cX8_wishesOfParents 8 = .ok (.istore_n 2, 1) := by decide +kernel
theorem dX8_wishesOfParents_9 : decode cX8_wishesOfParents 9 = .ok (.iconst 1, 1) := by decide +kernel
theorem dX8_wishesOfParents_10 : decode cX8_wishesOfParents 10 = .ok (.istore_n 3, 1) := by decide +kernel
theorem dX8_wishesOfParents_11 : decode cX8_wishesOfParents 11 = .ok (.iload_n 3, 1) := by decide +kernel
theorem dX8_wishesOfParents_12 : decode cX8_wishesOfParents 12 = .ok (.aload_n 0, 1) := by decide +kernel
theorem dX8_wishesOfParents_13 : decode cX8_wishesOfParents 13 = .ok (.getfield 9, 3) := by decide +kernel
theorem dX8_wishesOfParents_16 : decode cX8_wishesOfParents 16 = .ok (.if_icmp .gt 72, 3) := by decide +kernel
theorem dX8_wishesOfParents_19 : decode cX8_wishesOfParents 19 = .ok (.iload_n 3, 1) := by decide +kernel
theorem dX8_wishesOfParents_20 : decode cX8_wishesOfParents 20 = .ok (.iload_n 2, 1) := by decide +kernel
theorem dX8_wishesOfParents_21 : decode cX8_wishesOfParents 21 = .ok (.if_icmp .gt 67, 3) := by decide +kernel
theorem dX8_wishesOfParents_24 : decode cX8_wishesOfParents 24 = .ok (.iconst 1, 1) := by decide +kernel
theorem dX8_wishesOfParents_25 : decode cX8_wishesOfParents 25 = .ok (.istore 4, 2) := by decide +kernel
theorem dX8_wishesOfParents_27 : decode cX8_wishesOfParents 27 = .ok (.iload 4, 2) := by decide +kernel
theorem dX8_wishesOfParents_29 : decode cX8_wishesOfParents 29 = .ok (.aload_n 0, 1) := by decide +kernel
theorem dX8_wishesOfParents_30 : decode cX8_wishesOfParents 30 = .ok (.getfield 9, 3) := by decide +kernel
theorem dX8_wishesOfParents_33 : decode cX8_wishesOfParents 33 = .ok (.if_icmp .gt 49, 3) := by decide +kernel
theorem dX8_wishesOfParents_36 : decode cX8_wishesOfParents 36 = .ok (.aload_n 0, 1) := by decide +kernel
theorem dX8_wishesOfParents_37 : decode cX8_wishesOfParents 37 = .ok (.getfield 15, 3) := by decide +kernel
theorem dX8_wishesOfParents_40 : decode cX8_wishesOfParents 40 = .ok (.iload 4, 2) := by decide +kernel
theorem dX8_wishesOfParents_42 : decode cX8_wishesOfParents 42 = .ok (.iaload, 1) := by decide +kernel
theorem dX8_wishesOfParents_43 : decode cX8_wishesOfParents 43 = .ok (.aload_n 0, 1) := by decide +kernel
theorem dX8_wishesOfParents_44 : decode cX8_wishesOfParents 44 = .ok (.getfield 31, 3) := by decide +kernel
theorem dX8_wishesOfParents_47 : decode cX8_wishesOfParents 47 = .ok (.iload_n 3, 1) := by decide +kernel
theorem dX8_wishesOfParents_48 : decode cX8_wishesOfParents 48 = .ok (.iaload, 1) := by decide +kernel
theorem dX8_wishesOfParents_49 : decode cX8_wishesOfParents 49 = .ok (.if_icmp .ne 27, 3) := by decide +kernel
theorem dX8_wishesOfParents_52 : decode cX8_wishesOfParents 52 = .ok (.iload_n 2, 1) := by decide +kernel
theorem dX8_wishesOfParents_53 : decode cX8_wishesOfParents 53 = .ok (.aload_n 0, 1) := by decide +kernel
theorem dX8_wishesOfParents_54 : decode cX8_wishesOfParents 54 = .ok (.getfield 9, 3) := by decide +kernel
theorem dX8_wishesOfParents_57 : decode cX8_wishesOfParents 57 = .ok (.if_icmp .gt 19, 3) := by decide +kernel
theorem dX8_wishesOfParents_60 : decode cX8_wishesOfParents 60 = .ok (.aload_n 1, 1) := by decide +kernel
theorem dX8_wishesOfParents_61 : decode cX8_wishesOfParents 61 = .ok (.iload 4, 2) := by decide +kernel
theorem dX8_wishesOfParents_63 : decode cX8_wishesOfParents 63 = .ok (.iload_n 3, 1) := by decide +kernel
theorem dX8_wishesOfParents_64 : decode cX8_wishesOfParents 64 = .ok (.iastore, 1) := by decide +kernel
theorem dX8_wishesOfParents_65 : decode cX8_wishesOfParents 65 = .ok (.iinc 2 1, 3) := by decide +kernel
theorem dX8_wishesOfParents_68 : decode cX8_wishesOfParents 68 = .ok (.aload_n 0, 1) := by decide +kernel
theorem dX8_wishesOfParents_69 : decode cX8_wishesOfParents 69 = .ok (.getfield 31, 3) := by decide +kernel
theorem dX8_wishesOfParents_72 : decode cX8_wishesOfParents 72 = .ok (.iload_n 2, 1) := by decide +kernel
theorem dX8_wishesOfParents_73 : decode cX8_wishesOfParents 73 = .ok (.iload 4, 2) := by decide +kernel
theorem dX8_wishesOfParents_75 : decode cX8_wishesOfParents 75 = .ok (.iastore, 1) := by decide +kernel
theorem dX8_wishesOfParents_76 : decode cX8_wishesOfParents 76 = .ok (.iinc 4 1, 3) := by decide +kernel
theorem dX8_wishesOfParents_79 : decode cX8_wishesOfParents 79 = .ok (.goto (-52), 3) := by decide +kernel
theorem dX8_wishesOfParents_82 : decode cX8_wishesOfParents 82 = .ok (.iinc 3 1, 3) := by decide +kernel
theorem dX8_wishesOfParents_85 : decode cX8_wishesOfParents 85 = .ok (.goto (-74), 3) := by decide +kernel
theorem dX8_wishesOfParents_88 : decode cX8_wishesOfParents 88 = .ok (.iload_n 2, 1) := by decide +kernel
theorem dX8_wishesOfParents_89 : decode cX8_wishesOfParents 89 = .ok (.aload_n 0, 1) := by decide +kernel
theorem dX8_wishesOfParents_90 : decode cX8_wishesOfParents 90 = .ok (.getfield 9, 3) := by decide +kernel
theorem dX8_wishesOfParents_93 : decode cX8_wishesOfParents 93 = .ok (.iconst 1, 1) := by decide +kernel
theorem dX8_wishesOfParents_94 : decode cX8_wishesOfParents 94 = .ok (.iadd, 1) := by decide +kernel
theorem dX8_wishesOfParents_95 : decode cX8_wishesOfParents 95 = .ok (.if_icmp .ne 7, 3) := by decide +kernel
theorem dX8_wishesOfParents_98 : decode cX8_wishesOfParents 98 = .ok (.iconst 1, 1) := by decide +kernel
theorem dX8_wishesOfParents_99 : decode cX8_wishesOfParents 99 = .ok (.goto 4, 3) := by decide +kernel
theorem dX8_wishesOfParents_102 : decode cX8_wishesOfParents 102 = .ok (.iconst 0, 1) := by decide +kernel
theorem dX8_wishesOfParents_103 : decode cX8_wishesOfParents 103 = .ok (.ireturn, 1) := by decide +kernel
theorem dX9_init_0 : decode cX9_init 0 = .ok (.aload_n 0, 1) := by decide +kernel
theorem dX9_init_1 : decode cX9_init 1 = .ok (.invokespecial 3, 3) := by decide +kernel
theorem dX9_init_4 : decode cX9_init 4 = .ok (.aload_n 0, 1) := by decide +kernel
theorem dX9_init_5 : decode cX9_init 5 = .ok (.iconst 0, 1) := by decide +kernel
theorem dX9_init_6 : decode cX9_init 6 = .ok (.putfield 9, 3) := by decide +kernel
theorem dX9_init_9 : decode cX9_init 9 = .ok (.aload_n 0, 1) := by decide +kernel
theorem dX9_init_10 : decode cX9_init 10 = .ok (.bipush 11, 2) := by decide +kernel
theorem dX9_init_12 : decode cX9_init 12 = .ok (.newarray .int, 2) := by decide +kernel
theorem dX9_init_14 : decode cX9_init 14 = .ok (.putfield 15, 3) := by decide +kernel
theorem dX9_init_17 : decode cX9_init 17 = .ok (.aload_n 0, 1) := by decide +kernel
theorem dX9_init_18 : decode cX9_init 18 = .ok (.bipush 11, 2) := by decide +kernel
theorem dX9_init_20 : decode cX9_init 20 = .ok (.newarray .int, 2) := by decide +kernel
theorem dX9_init_22 : decode cX9_init 22 = .ok (.putfield 19, 3) := by decide +kernel
theorem dX9_init_25 : decode cX9_init 25 = .ok (.return_, 1) := by decide +kernel
theorem dX9_build_0 : decode cX9_build 0 = .ok (.aload_n 0, 1) := by decide +kernel
theorem dX9_build_1 : decode cX9_build 1 = .ok (.iload_n 2, 1) := by decide +kernel
theorem dX9_build_2 : decode cX9_build 2 = .ok (.putfield 9, 3) := by decide +kernel
theorem dX9_build_5 : decode cX9_build 5 = .ok (.iconst 0, 1) := by decide +kernel
theorem dX9_build_6 : decode cX9_build 6 = .ok (.istore_n 3, 1) := by decide +kernel
theorem dX9_build_7 : decode cX9_build 7 = .ok (.iconst 1, 1) := by decide +kernel
theorem dX9_build_8 : decode cX9_build 8 = .ok (.istore 4, 2) := by decide +kernel
theorem dX9_build_10 : decode cX9_build 10 = .ok (.iload 4, 2) := by decide +kernel
theorem dX9_build_12 : decode cX9_build 12 = .ok (.aload_n 0, 1) := by decide +kernel
theorem dX9_build_13 : decode cX9_build 13 = .ok (.getfield 9, 3) := by decide +kernel
theorem dX9_build_16 : decode cX9_build 16 = .ok (.if_icmp .gt 57, 3) := by decide +kernel
theorem dX9_build_19 : decode cX9_build 19 = .ok (.iconst 1, 1) := by decide +kernel
theorem dX9_build_20 : decode cX9_build 20 = .ok (.istore 5, 2) := by decide +kernel
theorem dX9_build_22 : decode cX9_build 22 = .ok (.iload 5, 2) := by decide +kernel
theorem dX9_build_24 : decode cX9_build 24 = .ok (.aload_n 0, 1) := by decide +kernel
theorem dX9_build_25 : decode cX9_build 25 = .ok (.getfield 9, 3) := by decide +kernel
theorem dX9_build_28 : decode cX9_build 28 = .ok (.if_icmp .gt 39, 3) := by decide +kernel
theorem dX9_build_31 : decode cX9_build 31 = .ok (.aload_n 1, 1) := by decide +kernel
theorem dX9_build_32 : decode cX9_build 32 = .ok (.iload 5, 2) := by decide +kernel
theorem dX9_build_34 : decode cX9_build 34 = .ok (.iaload, 1) := by decide +kernel
theorem dX9_build_35 : decode cX9_build 35 = .ok (.iload 4, 2) := by decide +kernel
theorem dX9_build_37 : decode cX9_build 37 = .ok (.if_icmp .ne 24, 3) := by decide +kernel
theorem dX9_build_40 : decode cX9_build 40 = .ok (.iinc 3 1, 3) := by decide +kernel
theorem dX9_build_43 : decode cX9_build 43 = .ok (.aload_n 0, 1) := by decide +kernel
theorem dX9_build_44 : decode cX9_build 44 = .ok (.getfield 15, 3) := by decide +kernel
theorem dX9_build_47 : decode cX9_build 47 = .ok (.iload_n 3, 1) := by decide +kernel
theorem dX9_build_48 : decode cX9_build 48 = .ok (.iload 5, 2) := by decide +kernel
theorem dX9_build_50 : decode cX9_build 50 = .ok (.iastore, 1) := by decide +kernel
theorem dX9_build_51 : decode cX9_build 51 = .ok (.aload_n 0, 1) := by decide +kernel
theorem dX9_build_52 : decode cX9_build 52 = .ok (.getfield 19, 3) := by decide +kernel
theorem dX9_build_55 : decode cX9_build 55 = .ok (.iload_n 3, 1) := by decide +kernel
theorem dX9_build_56 : decode cX9_build 56 = .ok (.iload_n 3, 1) := by decide +kernel
theorem dX9_build_57 : decode cX9_build 57 = .ok (.iload 4, 2) := by decide +kernel
theorem dX9_build_59 : decode cX9_build 59 = .ok (.isub, 1) := by decide +kernel
theorem dX9_build_60 : decode cX9_build 60 = .ok (.iastore, 1) := by decide +kernel
theorem dX9_build_61 : decode cX9_build 61 = .ok (.iinc 5 1, 3) := by decide +kernel
theorem dX9_build_64 : decode cX9_build 64 = .ok (.goto (-42), 3) := by decide +kernel
theorem dX9_build_67 : decode cX9_build 67 = .ok (.iinc 4 1, 3) := by decide +kernel
theorem dX9_build_70 : decode cX9_build 70 = .ok (.goto (-60), 3) := by decide +kernel
theorem dX9_build_73 : decode cX9_build 73 = .ok (.return_, 1) := by decide +kernel
theorem dX9_area_0 : decode cX9_area 0 = .ok (.iconst 0, 1) := by decide +kernel
theorem dX9_area_1 : decode cX9_area 1 = .ok (.istore_n 1, 1) := by decide +kernel
theorem dX9_area_2 : decode cX9_area 2 = .ok (.iconst 1, 1) := by decide +kernel
theorem dX9_area_3 : decode cX9_area 3 = .ok (.istore_n 2, 1) := by decide +kernel
theorem dX9_area_4 : decode cX9_area 4 = .ok (.iload_n 2, 1) := by decide +kernel
theorem dX9_area_5 : decode cX9_area 5 = .ok (.aload_n 0, 1) := by decide +kernel
theorem dX9_area_6 : decode cX9_area 6 = .ok (.getfield 9, 3) := by decide +kernel
theorem dX9_area_9 : decode cX9_area 9 = .ok (.if_icmp .gt 18, 3) := by decide +kernel
theorem dX9_area_12 : decode cX9_area 12 = .ok (.iload_n 1, 1) := by decide +kernel
theorem dX9_area_13 : decode cX9_area 13 = .ok (.aload_n 0, 1) := by decide +kernel
theorem dX9_area_14 : decode cX9_area 14 = .ok (.getfield 19, 3) := by decide +kernel
theorem dX9_area_17 : decode cX9_area 17 = .ok (.iload_n 2, 1) := by decide +kernel
theorem dX9_area_18 : decode cX9_area 18 = .ok (.iaload, 1) := by decide +kernel
theorem dX9_area_19 : decode cX9_area 19 = .ok (.iadd, 1) := by decide +kernel
theorem dX9_area_20 : decode cX9_area 20 = .ok (.istore_n 1, 1) := by decide +kernel
theorem dX9_area_21 : decode cX9_area 21 = .ok (.iinc 2 1, 3) := by decide +kernel
theorem dX9_area_24 : decode cX9_area 24 = .ok (.goto (-20), 3) := by decide +kernel
theorem dX9_area_27 : decode cX9_area 27 = .ok (.iload_n 1, 1) := by decide +kernel
theorem dX9_area_28 : decode cX9_area 28 = .ok (.ireturn, 1) := by decide +kernel
theorem dX9_dinv_0 : decode cX9_dinv 0 = .ok (.iconst 0, 1) := by decide +kernel
theorem dX9_dinv_1 : decode cX9_dinv 1 = .ok (.istore_n 1, 1) := by decide +kernel
theorem dX9_dinv_2 : decode cX9_dinv 2 = .ok (.iconst 2, 1) := by decide +kernel
theorem dX9_dinv_3 : decode cX9_dinv 3 = .ok (.istore_n 2, 1) := by decide +kernel
theorem dX9_dinv_4 : decode cX9_dinv 4 = .ok (.iload_n 2, 1) := by decide +kernel
theorem dX9_dinv_5 : decode cX9_dinv 5 = .ok (.aload_n 0, 1) := by decide +kernel
theorem dX9_dinv_6 : decode cX9_dinv 6 = .ok (.getfield 9, 3) := by decide +kernel
theorem dX9_dinv_9 : decode cX9_dinv 9 = .ok (.if_icmp .gt 34, 3) := by decide +kernel
theorem dX9_dinv_12 : decode cX9_dinv 12 = .ok (.iconst 1, 1) := by decide +kernel
theorem dX9_dinv_13 : decode cX9_dinv 13 = .ok (.istore_n 3, 1) := by decide +kernel
theorem dX9_dinv_14 : decode cX9_dinv 14 = .ok (.iload_n 3, 1) := by decide +kernel
theorem dX9_dinv_15 : decode cX9_dinv 15 = .ok (.iload_n 2, 1) := by decide +kernel
theorem dX9_dinv_16 : decode cX9_dinv 16 = .ok (.if_icmp .ge 21, 3) := by decide +kernel
theorem dX9_dinv_19 : decode cX9_dinv 19 = .ok (.aload_n 0, 1) := by decide +kernel
theorem dX9_dinv_20 : decode cX9_dinv 20 = .ok (.iload_n 3, 1) := by decide +kernel
theorem dX9_dinv_21 : decode cX9_dinv 21 = .ok (.iload_n 2, 1) := by decide +kernel
theorem dX9_dinv_22 : decode cX9_dinv 22 = .ok (.invokevirtual 22, 3) := by decide +kernel
theorem dX9_dinv_25 : decode cX9_dinv 25 = .ok (.ifCond .eq 6, 3) := by decide +kernel
theorem dX9_dinv_28 : decode cX9_dinv 28 = .ok (.iinc 1 1, 3) := by decide +kernel
theorem dX9_dinv_31 : decode cX9_dinv 31 = .ok (.iinc 3 1, 3) := by decide +kernel
theorem dX9_dinv_34 : decode cX9_dinv 34 = .ok (.goto (-20), 3) := by decide +kernel
theorem dX9_dinv_37 : decode cX9_dinv 37 = .ok (.iinc 2 1, 3) := by decide +kernel
theorem dX9_dinv_40 : decode cX9_dinv 40 = .ok (.goto (-36), 3) := by decide +kernel
theorem dX9_dinv_43 : decode cX9_dinv 43 = .ok (.iload_n 1, 1) := by decide +kernel
theorem dX9_dinv_44 : decode cX9_dinv 44 = .ok (.ireturn, 1) := by decide +kernel
theorem dX9_countsFor_0 : decode cX9_countsFor 0 = .ok (.aload_n 0, 1) := by decide +kernel
theorem dX9_countsFor_1 : decode cX9_countsFor 1 = .ok (.getfield 19, 3) := by decide +kernel
theorem dX9_countsFor_4 : decode cX9_countsFor 4 = .ok (.iload_n 1, 1) := by decide +kernel
theorem dX9_countsFor_5 : decode cX9_countsFor 5 = .ok (.iaload, 1) := by decide +kernel
theorem dX9_countsFor_6 : decode cX9_countsFor 6 = .ok (.aload_n 0, 1) := by decide +kernel
theorem dX9_countsFor_7 : decode cX9_countsFor 7 = .ok (.getfield 19, 3) := by decide +kernel
theorem dX9_countsFor_10 : decode cX9_countsFor 10 = .ok (.iload_n 2, 1) := by decide +kernel
theorem dX9_countsFor_11 : decode cX9_countsFor 11 = .ok (.iaload, 1) := by decide +kernel
theorem dX9_countsFor_12 : decode cX9_countsFor 12 = .ok (.if_icmp .ne 24, 3) := by decide +kernel
theorem dX9_countsFor_15 : decode cX9_countsFor 15 = .ok (.aload_n 0, 1) := by decide +kernel
theorem dX9_countsFor_16 : decode cX9_countsFor 16 = .ok (.getfield 15, 3) := by decide +kernel
theorem dX9_countsFor_19 : decode cX9_countsFor 19 = .ok (.iload_n 1, 1) := by decide +kernel
theorem dX9_countsFor_20 : decode cX9_countsFor 20 = .ok (.iaload, 1) := by decide +kernel
theorem dX9_countsFor_21 : decode cX9_countsFor 21 = .ok (.aload_n 0, 1) := by decide +kernel
theorem dX9_countsFor_22 : decode cX9_countsFor 22 = .ok (.getfield 15, 3) := by decide +kernel
theorem dX9_countsFor_25 : decode cX9_countsFor 25 = .ok (.iload_n 2, 1) := by decide +kernel
theorem dX9_countsFor_26 : decode cX9_countsFor 26 = .ok (.iaload, 1) := by decide +kernel
theorem dX9_countsFor_27 : decode cX9_countsFor 27 = .ok (.if_icmp .ge 7, 3) := by decide +kernel
theorem dX9_countsFor_30 : decode cX9_countsFor 30 = .ok (.iconst 1, 1) := by decide +kernel
theorem dX9_countsFor_31 : decode cX9_countsFor 31 = .ok (.goto 4, 3) := by decide +kernel
theorem dX9_countsFor_34 : decode cX9_countsFor 34 = .ok (.iconst 0, 1) := by decide +kernel
theorem dX9_countsFor_35 : decode cX9_countsFor 35 = .ok (.ireturn, 1) := by decide +kernel
theorem dX9_countsFor_36 : decode cX9_countsFor 36 = .ok (.aload_n 0, 1) := by decide +kernel
theorem dX9_countsFor_37 : decode cX9_countsFor 37 = .ok (.getfield 19, 3) := by decide +kernel
theorem dX9_countsFor_40 : decode cX9_countsFor 40 = .ok (.iload_n 1, 1) := by decide +kernel
theorem dX9_countsFor_41 : decode cX9_countsFor 41 = .ok (.iaload, 1) := by decide +kernel
theorem dX9_countsFor_42 : decode cX9_countsFor 42 = .ok (.aload_n 0, 1) := by decide +kernel
theorem dX9_countsFor_43 : decode cX9_countsFor 43 = .ok (.getfield 19, 3) := by decide +kernel
theorem dX9_countsFor_46 : decode cX9_countsFor 46 = .ok (.iload_n 2, 1) := by decide +kernel
theorem dX9_countsFor_47 : decode cX9_countsFor 47 = .ok (.iaload, 1) := by decide +kernel
theorem dX9_countsFor_48 : decode cX9_countsFor 48 = .ok (.iconst 1, 1) := by decide +kernel
theorem dX9_countsFor_49 : decode cX9_countsFor 49 = .ok (.iadd, 1) := by decide +kernel
theorem dX9_countsFor_50 : decode cX9_countsFor 50 = .ok (.if_icmp .ne 22, 3) := by decide +kernel
theorem dX9_countsFor_53 : decode cX9_countsFor 53 = .ok (.aload_n 0, 1) := by decide +kernel
theorem dX9_countsFor_54 : decode cX9_countsFor 54 = .ok (.getfield 15, 3) := by decide +kernel
theorem dX9_countsFor_57 : decode cX9_countsFor 57 = .ok (.iload_n 1, 1) := by decide +kernel
theorem dX9_countsFor_58 : decode cX9_countsFor 58 = .ok (.iaload, 1) := by decide +kernel
theorem dX9_countsFor_59 : decode cX9_countsFor 59 = .ok (.aload_n 0, 1) := by decide +kernel
theorem dX9_countsFor_60 : decode cX9_countsFor 60 = .ok (.getfield 15, 3) := by decide +kernel
theorem dX9_countsFor_63 : decode cX9_countsFor 63 = .ok (.iload_n 2, 1) := by decide +kernel
theorem dX9_countsFor_64 : decode cX9_countsFor 64 = .ok (.iaload, 1) := by decide +kernel
theorem dX9_countsFor_65 : decode cX9_countsFor 65 = .ok (.if_icmp .le 7, 3) := by decide +kernel
theorem dX9_countsFor_68 : decode cX9_countsFor 68 = .ok (.iconst 1, 1) := by decide +kernel
theorem dX9_countsFor_69 : decode cX9_countsFor 69 = .ok (.goto 4, 3) := by decide +kernel
theorem dX9_countsFor_72 : decode cX9_countsFor 72 = .ok (.iconst 0, 1) := by decide +kernel
theorem dX9_countsFor_73 : decode cX9_countsFor 73 = .ok (.ireturn, 1) := by decide +kernel
theorem dX10_init_0 : decode cX10_init 0 = .ok (.aload_n 0, 1) := by decide +kernel
theorem dX10_init_1 : decode cX10_init 1 = .ok (.invokespecial 1, 3) := by decide +kernel
theorem dX10_init_4 : decode cX10_init 4 = .ok (.new 7, 3) := by decide +kernel
theorem dX10_init_7 : decode cX10_init 7 = .ok (.dup, 1) := by decide +kernel
theorem dX10_init_8 : decode cX10_init 8 = .ok (.invokespecial 9, 3) := by decide +kernel
theorem dX10_init_11 : decode cX10_init 11 = .ok (.astore_n 1, 1) := by decide +kernel
theorem dX10_init_12 : decode cX10_init 12 = .ok (.aload_n 0, 1) := by decide +kernel
theorem dX10_init_13 : decode cX10_init 13 = .ok (.new 10, 3) := by decide +kernel
theorem dX10_init_16 : decode cX10_init 16 = .ok (.dup, 1) := by decide +kernel
theorem dX10_init_17 : decode cX10_init 17 = .ok (.invokespecial 12, 3) := by decide +kernel
theorem dX10_init_20 : decode cX10_init 20 = .ok (.putfield 13, 3) := by decide +kernel
theorem dX10_init_23 : decode cX10_init 23 = .ok (.aload_n 0, 1) := by decide +kernel
theorem dX10_init_24 : decode cX10_init 24 = .ok (.new 19, 3) := by decide +kernel
theorem dX10_init_27 : decode cX10_init 27 = .ok (.dup, 1) := by decide +kernel
theorem dX10_init_28 : decode cX10_init 28 = .ok (.invokespecial 21, 3) := by decide +kernel
theorem dX10_init_31 : decode cX10_init 31 = .ok (.putfield 22, 3) := by decide +kernel
theorem dX10_init_34 : decode cX10_init 34 = .ok (.aload_n 0, 1) := by decide +kernel
theorem dX10_init_35 : decode cX10_init 35 = .ok (.new 26, 3) := by decide +kernel
theorem dX10_init_38 : decode cX10_init 38 = .ok (.dup, 1) := by decide +kernel
theorem dX10_init_39 : decode cX10_init 39 = .ok (.aload_n 1, 1) := by decide +kernel
theorem dX10_init_40 : decode cX10_init 40 = .ok (.invokespecial 28, 3) := by decide +kernel
theorem dX10_init_43 : decode cX10_init 43 = .ok (.putfield 31, 3) := by decide +kernel
theorem dX10_init_46 : decode cX10_init 46 = .ok (.aload_n 0, 1) := by decide +kernel
theorem dX10_init_47 : decode cX10_init 47 = .ok (.new 35, 3) := by decide +kernel
theorem dX10_init_50 : decode cX10_init 50 = .ok (.dup, 1) := by decide +kernel
theorem dX10_init_51 : decode cX10_init 51 = .ok (.invokespecial 37, 3) := by decide +kernel
theorem dX10_init_54 : decode cX10_init 54 = .ok (.putfield 38, 3) := by decide +kernel
theorem dX10_init_57 : decode cX10_init 57 = .ok (.aload_n 0, 1) := by decide +kernel
theorem dX10_init_58 : decode cX10_init 58 = .ok (.new 42, 3) := by decide +kernel
theorem dX10_init_61 : decode cX10_init 61 = .ok (.dup, 1) := by decide +kernel
theorem dX10_init_62 : decode cX10_init 62 = .ok (.invokespecial 44, 3) := by decide +kernel
theorem dX10_init_65 : decode cX10_init 65 = .ok (.putfield 45, 3) := by decide +kernel
theorem dX10_init_68 : decode cX10_init 68 = .ok (.aload_n 0, 1) := by decide +kernel
theorem dX10_init_69 : decode cX10_init 69 = .ok (.new 49, 3) := by decide +kernel
theorem dX10_init_72 : decode cX10_init 72 = .ok (.dup, 1) := by decide +kernel
theorem dX10_init_73 : decode cX10_init 73 = .ok (.invokespecial 51, 3) := by decide +kernel
theorem dX10_init_76 : decode cX10_init 76 = .ok (.putfield 52, 3) := by decide +kernel
theorem dX10_init_79 : decode cX10_init 79 = .ok (.aload_n 0, 1) := by decide +kernel
theorem dX10_init_80 : decode cX10_init 80 = .ok (.new 56, 3) := by decide +kernel
theorem dX10_init_83 : decode cX10_init 83 = .ok (.dup, 1) := by decide +kernel
theorem dX10_init_84 : decode cX10_init 84 = .ok (.invokespecial 58, 3) := by decide +kernel
theorem dX10_init_87 : decode cX10_init 87 = .ok (.putfield 59, 3) := by decide +kernel
theorem dX10_init_90 : decode cX10_init 90 = .ok (.aload_n 0, 1) := by decide +kernel
theorem dX10_init_91 : decode cX10_init 91 = .ok (.new 63, 3) := by decide +kernel
theorem dX10_init_94 : decode cX10_init 94 = .ok (.dup, 1) := by decide +kernel
theorem dX10_init_95 : decode cX10_init 95 = .ok (.aload_n 1, 1) := by decide +kernel
theorem dX10_init_96 : decode cX10_init 96 = .ok (.invokespecial 65, 3) := by decide +kernel
theorem dX10_init_99 : decode cX10_init 99 = .ok (.putfield 66, 3) := by decide +kernel
theorem dX10_init_102 : decode cX10_init 102 = .ok (.aload_n 0, 1) := by decide +kernel
theorem dX10_init_103 : decode cX10_init 103 = .ok (.new 70, 3) := by decide +kernel
theorem dX10_init_106 : decode cX10_init 106 = .ok (.dup, 1) := by decide +kernel
theorem dX10_init_107 : decode cX10_init 107 = .ok (.invokespecial 72, 3) := by decide +kernel
theorem dX10_init_110 : decode cX10_init 110 = .ok (.putfield 73, 3) := by decide +kernel
theorem dX10_init_113 : decode cX10_init 113 = .ok (.aload_n 0, 1) := by decide +kernel
theorem dX10_init_114 : decode cX10_init 114 = .ok (.bipush 11, 2) := by decide +kernel
theorem dX10_init_116 : decode cX10_init 116 = .ok (.newarray .int, 2) := by decide +kernel
theorem dX10_init_118 : decode cX10_init 118 = .ok (.putfield 77, 3) := by decide +kernel
theorem dX10_init_121 : decode cX10_init 121 = .ok (.return_, 1) := by decide +kernel
theorem dX10_road_0 : decode cX10_road 0 = .ok (.iload_n 1, 1) := by decide +kernel
theorem dX10_road_1 : decode cX10_road 1 = .ok (.ifCond .lt 19, 3) := by decide +kernel
theorem dX10_road_4 : decode cX10_road 4 = .ok (.iload_n 1, 1) := by decide +kernel
theorem dX10_road_5 : decode cX10_road 5 = .ok (.iconst 2, 1) := by decide +kernel
theorem dX10_road_6 : decode cX10_road 6 = .ok (.if_icmp .gt 14, 3) := by decide +kernel
theorem dX10_road_9 : decode cX10_road 9 = .ok (.iload_n 2, 1) := by decide +kernel
theorem dX10_road_10 : decode cX10_road 10 = .ok (.iconst 1, 1) := by decide +kernel
theorem dX10_road_11 : decode cX10_road 11 = .ok (.if_icmp .lt 9, 3) := by decide +kernel
theorem dX10_road_14 : decode cX10_road 14 = .ok (.iload_n 2, 1) := by decide +kernel
theorem dX10_road_15 : decode cX10_road 15 = .ok (.bipush 10, 2) := by decide +kernel
theorem dX10_road_17 : decode cX10_road 17 = .ok (.if_icmp .le 5, 3) := by decide +kernel
theorem dX10_road_20 : decode cX10_road 20 = .ok (.iconst (-1), 1) := by decide +kernel
theorem dX10_road_21 : decode cX10_road 21 = .ok (.ireturn, 1) := by decide +kernel
theorem dX10_road_22 : decode cX10_road 22 = .ok (.iload_n 1, 1) := by decide +kernel
theorem dX10_road_23 : decode cX10_road 23 = .ok (.iconst 2, 1) := by decide +kernel
theorem dX10_road_24 : decode cX10_road 24 = .ok (.if_icmp .ne 15, 3) := by decide +kernel
theorem dX10_road_27 : decode cX10_road 27 = .ok (.iload_n 3, 1) := by decide +kernel
theorem dX10_road_28 : decode cX10_road 28 = .ok (.ifCond .lt 9, 3) := by decide +kernel
theorem dX10_road_31 : decode cX10_road 31 = .ok (.iload_n 3, 1) := by decide +kernel
theorem dX10_road_32 : decode cX10_road 32 = .ok (.bipush 9, 2) := by decide +kernel
theorem dX10_road_34 : decode cX10_road 34 = .ok (.if_icmp .le 5, 3) := by decide +kernel
theorem dX10_road_37 : decode cX10_road 37 = .ok (.iconst (-1), 1) := by decide +kernel
theorem dX10_road_38 : decode cX10_road 38 = .ok (.ireturn, 1) := by decide +kernel
theorem dX10_road_39 : decode cX10_road 39 = .ok (.aload_n 0, 1) := by decide +kernel
theorem dX10_road_40 : decode cX10_road 40 = .ok (.getfield 13, 3) := by decide +kernel
theorem dX10_road_43 : decode cX10_road 43 = .ok (.iload_n 1, 1) := by decide +kernel
theorem dX10_road_44 : decode cX10_road 44 = .ok (.iload_n 2, 1) := by decide +kernel
theorem dX10_road_45 : decode cX10_road 45 = .ok (.iload_n 3, 1) := by decide +kernel
theorem dX10_road_46 : decode cX10_road 46 = .ok (.invokevirtual 81, 3) := by decide +kernel
theorem dX10_road_49 : decode cX10_road 49 = .ok (.iconst 1, 1) := by decide +kernel
theorem dX10_road_50 : decode cX10_road 50 = .ok (.ireturn, 1) := by decide +kernel
theorem dX10_car_0 : decode cX10_car 0 = .ok (.aload_n 0, 1) := by decide +kernel
theorem dX10_car_1 : decode cX10_car 1 = .ok (.getfield 13, 3) := by decide +kernel
theorem dX10_car_4 : decode cX10_car 4 = .ok (.iload_n 1, 1) := by decide +kernel
theorem dX10_car_5 : decode cX10_car 5 = .ok (.invokevirtual 85, 3) := by decide +kernel
theorem dX10_car_8 : decode cX10_car 8 = .ok (.ifCond .ne 5, 3) := by decide +kernel
theorem dX10_car_11 : decode cX10_car 11 = .ok (.iconst (-1), 1) := by decide +kernel
theorem dX10_car_12 : decode cX10_car 12 = .ok (.ireturn, 1) := by decide +kernel
theorem dX10_car_13 : decode cX10_car 13 = .ok (.aload_n 0, 1) := by decide +kernel
theorem dX10_car_14 : decode cX10_car 14 = .ok (.getfield 13, 3) := by decide +kernel
theorem dX10_car_17 : decode cX10_car 17 = .ok (.getfield 89, 3) := by decide +kernel
theorem dX10_car_20 : decode cX10_car 20 = .ok (.aload_n 0, 1) := by decide +kernel
theorem dX10_car_21 : decode cX10_car 21 = .ok (.getfield 13, 3) := by decide +kernel
theorem dX10_car_24 : decode cX10_car 24 = .ok (.getfield 93, 3) := by decide +kernel
theorem dX10_car_27 : decode cX10_car 27 = .ok (.if_icmp .lt 6, 3) := by decide +kernel
theorem dX10_car_30 : decode cX10_car 30 = .ok (.bipush (-3), 2) := by decide +kernel
theorem dX10_car_32 : decode cX10_car 32 = .ok (.ireturn, 1) := by decide +kernel
theorem dX10_car_33 : decode cX10_car 33 = .ok (.aload_n 0, 1) := by decide +kernel
theorem dX10_car_34 : decode cX10_car 34 = .ok (.getfield 13, 3) := by decide +kernel
theorem dX10_car_37 : decode cX10_car 37 = .ok (.iload_n 1, 1) := by decide +kernel
theorem dX10_car_38 : decode cX10_car 38 = .ok (.invokevirtual 96, 3) := by decide +kernel
theorem dX10_car_41 : decode cX10_car 41 = .ok (.aload_n 0, 1) := by decide +kernel
theorem dX10_car_42 : decode cX10_car 42 = .ok (.getfield 13, 3) := by decide +kernel
theorem dX10_car_45 : decode cX10_car 45 = .ok (.invokevirtual 100, 3) := by decide +kernel
theorem dX10_car_48 : decode cX10_car 48 = .ok (.aload_n 0, 1) := by decide +kernel
theorem dX10_car_49 : decode cX10_car 49 = .ok (.getfield 13, 3) := by decide +kernel
theorem dX10_car_52 : decode cX10_car 52 = .ok (.getfield 89, 3) := by decide +kernel
theorem dX10_car_55 : decode cX10_car 55 = .ok (.ireturn, 1) := by decide +kernel
theorem dX10_wish_0 : decode cX10_wish 0 = .ok (.aload_n 0, 1) := by decide +kernel
theorem dX10_wish_1 : decode cX10_wish 1 = .ok (.getfield 13, 3) := by decide +kernel
theorem dX10_wish_4 : decode cX10_wish 4 = .ok (.iload_n 1, 1) := by decide +kernel
theorem dX10_wish_5 : decode cX10_wish 5 = .ok (.invokevirtual 103, 3) := by decide +kernel
theorem dX10_wish_8 : decode cX10_wish 8 = .ok (.ifCond .eq 14, 3) := by decide +kernel
theorem dX10_wish_11 : decode cX10_wish 11 = .ok (.aload_n 0, 1) := by decide +kernel
theorem dX10_wish_12 : decode cX10_wish 12 = .ok (.getfield 13, 3) := by decide +kernel
theorem dX10_wish_15 : decode cX10_wish 15 = .ok (.iload_n 2, 1) := by decide +kernel
theorem dX10_wish_16 : decode cX10_wish 16 = .ok (.invokevirtual 85, 3) := by decide +kernel
theorem dX10_wish_19 : decode cX10_wish 19 = .ok (.ifCond .ne 5, 3) := by decide +kernel
theorem dX10_wish_22 : decode cX10_wish 22 = .ok (.iconst (-1), 1) := by decide +kernel
theorem dX10_wish_23 : decode cX10_wish 23 = .ok (.ireturn, 1) := by decide +kernel
theorem dX10_wish_24 : decode cX10_wish 24 = .ok (.aload_n 0, 1) := by decide +kernel
theorem dX10_wish_25 : decode cX10_wish 25 = .ok (.getfield 13, 3) := by decide +kernel
theorem dX10_wish_28 : decode cX10_wish 28 = .ok (.getfield 106, 3) := by decide +kernel
theorem dX10_wish_31 : decode cX10_wish 31 = .ok (.iload_n 1, 1) := by decide +kernel
theorem dX10_wish_32 : decode cX10_wish 32 = .ok (.iaload, 1) := by decide +kernel
theorem dX10_wish_33 : decode cX10_wish 33 = .ok (.istore_n 3, 1) := by decide +kernel
theorem dX10_wish_34 : decode cX10_wish 34 = .ok (.aload_n 0, 1) := by decide +kernel
theorem dX10_wish_35 : decode cX10_wish 35 = .ok (.getfield 13, 3) := by decide +kernel
theorem dX10_wish_38 : decode cX10_wish 38 = .ok (.getfield 106, 3) := by decide +kernel
theorem dX10_wish_41 : decode cX10_wish 41 = .ok (.iload_n 1, 1) := by decide +kernel
theorem dX10_wish_42 : decode cX10_wish 42 = .ok (.iload_n 2, 1) := by decide +kernel
theorem dX10_wish_43 : decode cX10_wish 43 = .ok (.iastore, 1) := by decide +kernel
theorem dX10_wish_44 : decode cX10_wish 44 = .ok (.aload_n 0, 1) := by decide +kernel
theorem dX10_wish_45 : decode cX10_wish 45 = .ok (.getfield 13, 3) := by decide +kernel
theorem dX10_wish_48 : decode cX10_wish 48 = .ok (.invokevirtual 100, 3) := by decide +kernel
theorem dX10_wish_51 : decode cX10_wish 51 = .ok (.iload_n 3, 1) := by decide +kernel
theorem dX10_wish_52 : decode cX10_wish 52 = .ok (.ireturn, 1) := by decide +kernel
theorem dX10_length_0 : decode cX10_length 0 = .ok (.aload_n 0, 1) := by decide +kernel
theorem dX10_length_1 : decode cX10_length 1 = .ok (.getfield 13, 3) := by decide +kernel
theorem dX10_length_4 : decode cX10_length 4 = .ok (.iload_n 1, 1) := by decide +kernel
theorem dX10_length_5 : decode cX10_length 5 = .ok (.invokevirtual 103, 3) := by decide +kernel
theorem dX10_length_8 : decode cX10_length 8 = .ok (.ifCond .eq 13, 3) := by decide +kernel
theorem dX10_length_11 : decode cX10_length 11 = .ok (.iload_n 2, 1) := by decide +kernel
theorem dX10_length_12 : decode cX10_length 12 = .ok (.iconst 1, 1) := by decide +kernel
theorem dX10_length_13 : decode cX10_length 13 = .ok (.if_icmp .lt 8, 3) := by decide +kernel
theorem dX10_length_16 : decode cX10_length 16 = .ok (.iload_n 2, 1) := by decide +kernel
theorem dX10_length_17 : decode cX10_length 17 = .ok (.iconst 4, 1) := by decide +kernel
theorem dX10_length_18 : decode cX10_length 18 = .ok (.if_icmp .le 5, 3) := by decide +kernel
theorem dX10_length_21 : decode cX10_length 21 = .ok (.iconst (-1), 1) := by decide +kernel
theorem dX10_length_22 : decode cX10_length 22 = .ok (.ireturn, 1) := by decide +kernel
theorem dX10_length_23 : decode cX10_length 23 = .ok (.aload_n 0, 1) := by decide +kernel
theorem dX10_length_24 : decode cX10_length 24 = .ok (.getfield 13, 3) := by decide +kernel
theorem dX10_length_27 : decode cX10_length 27 = .ok (.getfield 109, 3) := by decide +kernel
theorem dX10_length_30 : decode cX10_length 30 = .ok (.iload_n 1, 1) := by decide +kernel
theorem dX10_length_31 : decode cX10_length 31 = .ok (.iaload, 1) := by decide +kernel
theorem dX10_length_32 : decode cX10_length 32 = .ok (.istore_n 3, 1) := by decide +kernel
theorem dX10_length_33 : decode cX10_length 33 = .ok (.aload_n 0, 1) := by decide +kernel
theorem dX10_length_34 : decode cX10_length 34 = .ok (.getfield 13, 3) := by decide +kernel
theorem dX10_length_37 : decode cX10_length 37 = .ok (.getfield 109, 3) := by decide +kernel
theorem dX10_length_40 : decode cX10_length 40 = .ok (.iload_n 1, 1) := by decide +kernel
theorem dX10_length_41 : decode cX10_length 41 = .ok (.iload_n 2, 1) := by decide +kernel
theorem dX10_length_42 : decode cX10_length 42 = .ok (.iastore, 1) := by decide +kernel
theorem dX10_length_43 : decode cX10_length 43 = .ok (.aload_n 0, 1) := by decide +kernel
theorem dX10_length_44 : decode cX10_length 44 = .ok (.getfield 13, 3) := by decide +kernel
theorem dX10_length_47 : decode cX10_length 47 = .ok (.invokevirtual 100, 3) := by decide +kernel
theorem dX10_length_50 : decode cX10_length 50 = .ok (.iload_n 3, 1) := by decide +kernel
theorem dX10_length_51 : decode cX10_length 51 = .ok (.ireturn, 1) := by decide +kernel
theorem dX10_undo_0 : decode cX10_undo 0 = .ok (.aload_n 0, 1) := by decide +kernel
theorem dX10_undo_1 : decode cX10_undo 1 = .ok (.getfield 13, 3) := by decide +kernel
theorem dX10_undo_4 : decode cX10_undo 4 = .ok (.getfield 89, 3) := by decide +kernel
theorem dX10_undo_7 : decode cX10_undo 7 = .ok (.ifCond .ne 6, 3) := by decide +kernel
theorem dX10_undo_10 : decode cX10_undo 10 = .ok (.bipush (-2), 2) := by decide +kernel
theorem dX10_undo_12 : decode cX10_undo 12 = .ok (.ireturn, 1) := by decide +kernel
theorem dX10_undo_13 : decode cX10_undo 13 = .ok (.aload_n 0, 1) := by decide +kernel
theorem dX10_undo_14 : decode cX10_undo 14 = .ok (.getfield 13, 3) := by decide +kernel
theorem dX10_undo_17 : decode cX10_undo 17 = .ok (.aload_n 0, 1) := by decide +kernel
theorem dX10_undo_18 : decode cX10_undo 18 = .ok (.getfield 13, 3) := by decide +kernel
theorem dX10_undo_21 : decode cX10_undo 21 = .ok (.getfield 89, 3) := by decide +kernel
theorem dX10_undo_24 : decode cX10_undo 24 = .ok (.iconst 1, 1) := by decide +kernel
theorem dX10_undo_25 : decode cX10_undo 25 = .ok (.isub, 1) := by decide +kernel
theorem dX10_undo_26 : decode cX10_undo 26 = .ok (.invokevirtual 112, 3) := by decide +kernel
theorem dX10_undo_29 : decode cX10_undo 29 = .ok (.aload_n 0, 1) := by decide +kernel
theorem dX10_undo_30 : decode cX10_undo 30 = .ok (.getfield 13, 3) := by decide +kernel
theorem dX10_undo_33 : decode cX10_undo 33 = .ok (.getfield 89, 3) := by decide +kernel
theorem dX10_undo_36 : decode cX10_undo 36 = .ok (.ireturn, 1) := by decide +kernel
theorem dX10_clear_0 : decode cX10_clear 0 = .ok (.aload_n 0, 1) := by decide +kernel
theorem dX10_clear_1 : decode cX10_clear 1 = .ok (.getfield 13, 3) := by decide +kernel
theorem dX10_clear_4 : decode cX10_clear 4 = .ok (.getfield 89, 3) := by decide +kernel
theorem dX10_clear_7 : decode cX10_clear 7 = .ok (.istore_n 1, 1) := by decide +kernel
theorem dX10_clear_8 : decode cX10_clear 8 = .ok (.aload_n 0, 1) := by decide +kernel
theorem dX10_clear_9 : decode cX10_clear 9 = .ok (.getfield 13, 3) := by decide +kernel
theorem dX10_clear_12 : decode cX10_clear 12 = .ok (.iconst 0, 1) := by decide +kernel
theorem dX10_clear_13 : decode cX10_clear 13 = .ok (.invokevirtual 112, 3) := by decide +kernel
theorem dX10_clear_16 : decode cX10_clear 16 = .ok (.iload_n 1, 1) := by decide +kernel
theorem dX10_clear_17 : decode cX10_clear 17 = .ok (.ireturn, 1) := by decide +kernel
theorem dX10_told_0 : decode cX10_told 0 = .ok (.aload_n 0, 1) := by decide +kernel
theorem dX10_told_1 : decode cX10_told 1 = .ok (.getfield 13, 3) := by decide +kernel
