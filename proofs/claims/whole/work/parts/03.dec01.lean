theorem dX7_writeSign_1 : decode cX7_writeSign 1 = .ok (.iload_n 2, 1) := by decide +kernel
theorem dX7_writeSign_2 : decode cX7_writeSign 2 = .ok (.invokevirtual 84, 3) := by decide +kernel
theorem dX7_writeSign_5 : decode cX7_writeSign 5 = .ok (.lstore_n 3, 1) := by decide +kernel
theorem dX7_writeSign_6 : decode cX7_writeSign 6 = .ok (.iload_n 1, 1) := by decide +kernel
theorem dX7_writeSign_7 : decode cX7_writeSign 7 = .ok (.iconst 1, 1) := by decide +kernel
theorem dX7_writeSign_8 : decode cX7_writeSign 8 = .ok (.if_icmp .ne 11, 3) := by decide +kernel
theorem dX7_writeSign_11 : decode cX7_writeSign 11 = .ok (.aload_n 0, 1) := by decide +kernel
theorem dX7_writeSign_12 : decode cX7_writeSign 12 = .ok (.lload_n 3, 1) := by decide +kernel
theorem dX7_writeSign_13 : decode cX7_writeSign 13 = .ok (.putfield 25, 3) := by decide +kernel
theorem dX7_writeSign_16 : decode cX7_writeSign 16 = .ok (.goto 23, 3) := by decide +kernel
theorem dX7_writeSign_19 : decode cX7_writeSign 19 = .ok (.aload_n 0, 1) := by decide +kernel
theorem dX7_writeSign_20 : decode cX7_writeSign 20 = .ok (.dup, 1) := by decide +kernel
theorem dX7_writeSign_21 : decode cX7_writeSign 21 = .ok (.getfield 19, 3) := by decide +kernel
theorem dX7_writeSign_24 : decode cX7_writeSign 24 = .ok (.lload_n 3, 1) := by decide +kernel
theorem dX7_writeSign_25 : decode cX7_writeSign 25 = .ok (.ladd, 1) := by decide +kernel
theorem dX7_writeSign_26 : decode cX7_writeSign 26 = .ok (.putfield 19, 3) := by decide +kernel
theorem dX7_writeSign_29 : decode cX7_writeSign 29 = .ok (.aload_n 0, 1) := by decide +kernel
theorem dX7_writeSign_30 : decode cX7_writeSign 30 = .ok (.dup, 1) := by decide +kernel
theorem dX7_writeSign_31 : decode cX7_writeSign 31 = .ok (.getfield 25, 3) := by decide +kernel
theorem dX7_writeSign_34 : decode cX7_writeSign 34 = .ok (.lload_n 3, 1) := by decide +kernel
theorem dX7_writeSign_35 : decode cX7_writeSign 35 = .ok (.lsub, 1) := by decide +kernel
theorem dX7_writeSign_36 : decode cX7_writeSign 36 = .ok (.putfield 25, 3) := by decide +kernel
theorem dX7_writeSign_39 : decode cX7_writeSign 39 = .ok (.iconst 0, 1) := by decide +kernel
theorem dX7_writeSign_40 : decode cX7_writeSign 40 = .ok (.istore 5, 2) := by decide +kernel
theorem dX7_writeSign_42 : decode cX7_writeSign 42 = .ok (.iload 5, 2) := by decide +kernel
theorem dX7_writeSign_44 : decode cX7_writeSign 44 = .ok (.iconst 2, 1) := by decide +kernel
theorem dX7_writeSign_45 : decode cX7_writeSign 45 = .ok (.if_icmp .ge 36, 3) := by decide +kernel
theorem dX7_writeSign_48 : decode cX7_writeSign 48 = .ok (.aload_n 0, 1) := by decide +kernel
theorem dX7_writeSign_49 : decode cX7_writeSign 49 = .ok (.getfield 25, 3) := by decide +kernel
theorem dX7_writeSign_52 : decode cX7_writeSign 52 = .ok (.ldc2_w 88, 3) := by decide +kernel
theorem dX7_writeSign_55 : decode cX7_writeSign 55 = .ok (.lcmp, 1) := by decide +kernel
theorem dX7_writeSign_56 : decode cX7_writeSign 56 = .ok (.ifCond .ge 25, 3) := by decide +kernel
theorem dX7_writeSign_59 : decode cX7_writeSign 59 = .ok (.aload_n 0, 1) := by decide +kernel
theorem dX7_writeSign_60 : decode cX7_writeSign 60 = .ok (.invokevirtual 47, 3) := by decide +kernel
theorem dX7_writeSign_63 : decode cX7_writeSign 63 = .ok (.aload_n 0, 1) := by decide +kernel
theorem dX7_writeSign_64 : decode cX7_writeSign 64 = .ok (.dup, 1) := by decide +kernel
theorem dX7_writeSign_65 : decode cX7_writeSign 65 = .ok (.getfield 25, 3) := by decide +kernel
theorem dX7_writeSign_68 : decode cX7_writeSign 68 = .ok (.ldc2_w 90, 3) := by decide +kernel
theorem dX7_writeSign_71 : decode cX7_writeSign 71 = .ok (.lmul, 1) := by decide +kernel
theorem dX7_writeSign_72 : decode cX7_writeSign 72 = .ok (.putfield 25, 3) := by decide +kernel
theorem dX7_writeSign_75 : decode cX7_writeSign 75 = .ok (.iinc 5 1, 3) := by decide +kernel
theorem dX7_writeSign_78 : decode cX7_writeSign 78 = .ok (.goto (-36), 3) := by decide +kernel
theorem dX7_writeSign_81 : decode cX7_writeSign 81 = .ok (.return_, 1) := by decide +kernel
theorem dX7_readSign_0 : decode cX7_readSign 0 = .ok (.aload_n 0, 1) := by decide +kernel
theorem dX7_readSign_1 : decode cX7_readSign 1 = .ok (.iload_n 1, 1) := by decide +kernel
theorem dX7_readSign_2 : decode cX7_readSign 2 = .ok (.invokevirtual 84, 3) := by decide +kernel
theorem dX7_readSign_5 : decode cX7_readSign 5 = .ok (.lstore_n 2, 1) := by decide +kernel
theorem dX7_readSign_6 : decode cX7_readSign 6 = .ok (.aload_n 0, 1) := by decide +kernel
theorem dX7_readSign_7 : decode cX7_readSign 7 = .ok (.getfield 28, 3) := by decide +kernel
theorem dX7_readSign_10 : decode cX7_readSign 10 = .ok (.lload_n 2, 1) := by decide +kernel
theorem dX7_readSign_11 : decode cX7_readSign 11 = .ok (.lcmp, 1) := by decide +kernel
theorem dX7_readSign_12 : decode cX7_readSign 12 = .ok (.ifCond .ge 7, 3) := by decide +kernel
theorem dX7_readSign_15 : decode cX7_readSign 15 = .ok (.iconst 1, 1) := by decide +kernel
theorem dX7_readSign_16 : decode cX7_readSign 16 = .ok (.goto 4, 3) := by decide +kernel
theorem dX7_readSign_19 : decode cX7_readSign 19 = .ok (.iconst 0, 1) := by decide +kernel
theorem dX7_readSign_20 : decode cX7_readSign 20 = .ok (.istore 4, 2) := by decide +kernel
theorem dX7_readSign_22 : decode cX7_readSign 22 = .ok (.iload 4, 2) := by decide +kernel
theorem dX7_readSign_24 : decode cX7_readSign 24 = .ok (.iconst 1, 1) := by decide +kernel
theorem dX7_readSign_25 : decode cX7_readSign 25 = .ok (.if_icmp .ne 11, 3) := by decide +kernel
theorem dX7_readSign_28 : decode cX7_readSign 28 = .ok (.aload_n 0, 1) := by decide +kernel
theorem dX7_readSign_29 : decode cX7_readSign 29 = .ok (.lload_n 2, 1) := by decide +kernel
theorem dX7_readSign_30 : decode cX7_readSign 30 = .ok (.putfield 25, 3) := by decide +kernel
theorem dX7_readSign_33 : decode cX7_readSign 33 = .ok (.goto 23, 3) := by decide +kernel
theorem dX7_readSign_36 : decode cX7_readSign 36 = .ok (.aload_n 0, 1) := by decide +kernel
theorem dX7_readSign_37 : decode cX7_readSign 37 = .ok (.dup, 1) := by decide +kernel
theorem dX7_readSign_38 : decode cX7_readSign 38 = .ok (.getfield 28, 3) := by decide +kernel
theorem dX7_readSign_41 : decode cX7_readSign 41 = .ok (.lload_n 2, 1) := by decide +kernel
theorem dX7_readSign_42 : decode cX7_readSign 42 = .ok (.lsub, 1) := by decide +kernel
theorem dX7_readSign_43 : decode cX7_readSign 43 = .ok (.putfield 28, 3) := by decide +kernel
theorem dX7_readSign_46 : decode cX7_readSign 46 = .ok (.aload_n 0, 1) := by decide +kernel
theorem dX7_readSign_47 : decode cX7_readSign 47 = .ok (.dup, 1) := by decide +kernel
theorem dX7_readSign_48 : decode cX7_readSign 48 = .ok (.getfield 25, 3) := by decide +kernel
theorem dX7_readSign_51 : decode cX7_readSign 51 = .ok (.lload_n 2, 1) := by decide +kernel
theorem dX7_readSign_52 : decode cX7_readSign 52 = .ok (.lsub, 1) := by decide +kernel
theorem dX7_readSign_53 : decode cX7_readSign 53 = .ok (.putfield 25, 3) := by decide +kernel
theorem dX7_readSign_56 : decode cX7_readSign 56 = .ok (.iconst 0, 1) := by decide +kernel
theorem dX7_readSign_57 : decode cX7_readSign 57 = .ok (.istore 5, 2) := by decide +kernel
theorem dX7_readSign_59 : decode cX7_readSign 59 = .ok (.iload 5, 2) := by decide +kernel
theorem dX7_readSign_61 : decode cX7_readSign 61 = .ok (.iconst 2, 1) := by decide +kernel
theorem dX7_readSign_62 : decode cX7_readSign 62 = .ok (.if_icmp .ge 36, 3) := by decide +kernel
theorem dX7_readSign_65 : decode cX7_readSign 65 = .ok (.aload_n 0, 1) := by decide +kernel
theorem dX7_readSign_66 : decode cX7_readSign 66 = .ok (.getfield 25, 3) := by decide +kernel
theorem dX7_readSign_69 : decode cX7_readSign 69 = .ok (.ldc2_w 88, 3) := by decide +kernel
theorem dX7_readSign_72 : decode cX7_readSign 72 = .ok (.lcmp, 1) := by decide +kernel
theorem dX7_readSign_73 : decode cX7_readSign 73 = .ok (.ifCond .ge 25, 3) := by decide +kernel
theorem dX7_readSign_76 : decode cX7_readSign 76 = .ok (.aload_n 0, 1) := by decide +kernel
theorem dX7_readSign_77 : decode cX7_readSign 77 = .ok (.invokevirtual 69, 3) := by decide +kernel
theorem dX7_readSign_80 : decode cX7_readSign 80 = .ok (.aload_n 0, 1) := by decide +kernel
theorem dX7_readSign_81 : decode cX7_readSign 81 = .ok (.dup, 1) := by decide +kernel
theorem dX7_readSign_82 : decode cX7_readSign 82 = .ok (.getfield 25, 3) := by decide +kernel
theorem dX7_readSign_85 : decode cX7_readSign 85 = .ok (.ldc2_w 90, 3) := by decide +kernel
theorem dX7_readSign_88 : decode cX7_readSign 88 = .ok (.lmul, 1) := by decide +kernel
theorem dX7_readSign_89 : decode cX7_readSign 89 = .ok (.putfield 25, 3) := by decide +kernel
theorem dX7_readSign_92 : decode cX7_readSign 92 = .ok (.iinc 5 1, 3) := by decide +kernel
theorem dX7_readSign_95 : decode cX7_readSign 95 = .ok (.goto (-36), 3) := by decide +kernel
theorem dX7_readSign_98 : decode cX7_readSign 98 = .ok (.iload 4, 2) := by decide +kernel
theorem dX7_readSign_100 : decode cX7_readSign 100 = .ok (.ireturn, 1) := by decide +kernel
theorem dX7_partOfOne_0 : decode cX7_partOfOne 0 = .ok (.aload_n 0, 1) := by decide +kernel
theorem dX7_partOfOne_1 : decode cX7_partOfOne 1 = .ok (.getfield 25, 3) := by decide +kernel
theorem dX7_partOfOne_4 : decode cX7_partOfOne 4 = .ok (.ldc2_w 92, 3) := by decide +kernel
theorem dX7_partOfOne_7 : decode cX7_partOfOne 7 = .ok (.ldiv, 1) := by decide +kernel
theorem dX7_partOfOne_8 : decode cX7_partOfOne 8 = .ok (.iload_n 1, 1) := by decide +kernel
theorem dX7_partOfOne_9 : decode cX7_partOfOne 9 = .ok (.i2l, 1) := by decide +kernel
theorem dX7_partOfOne_10 : decode cX7_partOfOne 10 = .ok (.lmul, 1) := by decide +kernel
theorem dX7_partOfOne_11 : decode cX7_partOfOne 11 = .ok (.lreturn, 1) := by decide +kernel
theorem dX7_sendByte_0 : decode cX7_sendByte 0 = .ok (.aload_n 0, 1) := by decide +kernel
theorem dX7_sendByte_1 : decode cX7_sendByte 1 = .ok (.getfield 19, 3) := by decide +kernel
theorem dX7_sendByte_4 : decode cX7_sendByte 4 = .ok (.ldc2_w 88, 3) := by decide +kernel
theorem dX7_sendByte_7 : decode cX7_sendByte 7 = .ok (.ldiv, 1) := by decide +kernel
theorem dX7_sendByte_8 : decode cX7_sendByte 8 = .ok (.lstore_n 1, 1) := by decide +kernel
theorem dX7_sendByte_9 : decode cX7_sendByte 9 = .ok (.lload_n 1, 1) := by decide +kernel
theorem dX7_sendByte_10 : decode cX7_sendByte 10 = .ok (.ldc2_w 94, 3) := by decide +kernel
theorem dX7_sendByte_13 : decode cX7_sendByte 13 = .ok (.lcmp, 1) := by decide +kernel
theorem dX7_sendByte_14 : decode cX7_sendByte 14 = .ok (.ifCond .le 7, 3) := by decide +kernel
theorem dX7_sendByte_17 : decode cX7_sendByte 17 = .ok (.aload_n 0, 1) := by decide +kernel
theorem dX7_sendByte_18 : decode cX7_sendByte 18 = .ok (.invokevirtual 96, 3) := by decide +kernel
theorem dX7_sendByte_21 : decode cX7_sendByte 21 = .ok (.aload_n 0, 1) := by decide +kernel
theorem dX7_sendByte_22 : decode cX7_sendByte 22 = .ok (.getfield 15, 3) := by decide +kernel
theorem dX7_sendByte_25 : decode cX7_sendByte 25 = .ok (.iconst 0, 1) := by decide +kernel
theorem dX7_sendByte_26 : decode cX7_sendByte 26 = .ok (.sipush 203, 3) := by decide +kernel
theorem dX7_sendByte_29 : decode cX7_sendByte 29 = .ok (.invokestatic 50, 3) := by decide +kernel
theorem dX7_sendByte_32 : decode cX7_sendByte 32 = .ok (.ifCond .eq 28, 3) := by decide +kernel
theorem dX7_sendByte_35 : decode cX7_sendByte 35 = .ok (.aload_n 0, 1) := by decide +kernel
theorem dX7_sendByte_36 : decode cX7_sendByte 36 = .ok (.getfield 9, 3) := by decide +kernel
theorem dX7_sendByte_39 : decode cX7_sendByte 39 = .ok (.aload_n 0, 1) := by decide +kernel
theorem dX7_sendByte_40 : decode cX7_sendByte 40 = .ok (.getfield 15, 3) := by decide +kernel
theorem dX7_sendByte_43 : decode cX7_sendByte 43 = .ok (.lload_n 1, 1) := by decide +kernel
theorem dX7_sendByte_44 : decode cX7_sendByte 44 = .ok (.ldc2_w 94, 3) := by decide +kernel
theorem dX7_sendByte_47 : decode cX7_sendByte 47 = .ok (.land, 1) := by decide +kernel
theorem dX7_sendByte_48 : decode cX7_sendByte 48 = .ok (.l2i, 1) := by decide +kernel
theorem dX7_sendByte_49 : decode cX7_sendByte 49 = .ok (.iastore, 1) := by decide +kernel
theorem dX7_sendByte_50 : decode cX7_sendByte 50 = .ok (.aload_n 0, 1) := by decide +kernel
theorem dX7_sendByte_51 : decode cX7_sendByte 51 = .ok (.dup, 1) := by decide +kernel
theorem dX7_sendByte_52 : decode cX7_sendByte 52 = .ok (.getfield 15, 3) := by decide +kernel
theorem dX7_sendByte_55 : decode cX7_sendByte 55 = .ok (.iconst 1, 1) := by decide +kernel
theorem dX7_sendByte_56 : decode cX7_sendByte 56 = .ok (.iadd, 1) := by decide +kernel
theorem dX7_sendByte_57 : decode cX7_sendByte 57 = .ok (.putfield 15, 3) := by decide +kernel
theorem dX7_sendByte_60 : decode cX7_sendByte 60 = .ok (.aload_n 0, 1) := by decide +kernel
theorem dX7_sendByte_61 : decode cX7_sendByte 61 = .ok (.aload_n 0, 1) := by decide +kernel
theorem dX7_sendByte_62 : decode cX7_sendByte 62 = .ok (.getfield 19, 3) := by decide +kernel
theorem dX7_sendByte_65 : decode cX7_sendByte 65 = .ok (.ldc2_w 88, 3) := by decide +kernel
theorem dX7_sendByte_68 : decode cX7_sendByte 68 = .ok (.lrem, 1) := by decide +kernel
theorem dX7_sendByte_69 : decode cX7_sendByte 69 = .ok (.ldc2_w 90, 3) := by decide +kernel
theorem dX7_sendByte_72 : decode cX7_sendByte 72 = .ok (.lmul, 1) := by decide +kernel
theorem dX7_sendByte_73 : decode cX7_sendByte 73 = .ok (.putfield 19, 3) := by decide +kernel
theorem dX7_sendByte_76 : decode cX7_sendByte 76 = .ok (.return_, 1) := by decide +kernel
theorem dX7_carry_0 : decode cX7_carry 0 = .ok (.aload_n 0, 1) := by decide +kernel
theorem dX7_carry_1 : decode cX7_carry 1 = .ok (.getfield 15, 3) := by decide +kernel
theorem dX7_carry_4 : decode cX7_carry 4 = .ok (.iconst 1, 1) := by decide +kernel
theorem dX7_carry_5 : decode cX7_carry 5 = .ok (.isub, 1) := by decide +kernel
theorem dX7_carry_6 : decode cX7_carry 6 = .ok (.istore_n 1, 1) := by decide +kernel
theorem dX7_carry_7 : decode cX7_carry 7 = .ok (.iload_n 1, 1) := by decide +kernel
theorem dX7_carry_8 : decode cX7_carry 8 = .ok (.ifCond .lt 39, 3) := by decide +kernel
theorem dX7_carry_11 : decode cX7_carry 11 = .ok (.aload_n 0, 1) := by decide +kernel
theorem dX7_carry_12 : decode cX7_carry 12 = .ok (.getfield 9, 3) := by decide +kernel
theorem dX7_carry_15 : decode cX7_carry 15 = .ok (.iload_n 1, 1) := by decide +kernel
theorem dX7_carry_16 : decode cX7_carry 16 = .ok (.aload_n 0, 1) := by decide +kernel
theorem dX7_carry_17 : decode cX7_carry 17 = .ok (.getfield 9, 3) := by decide +kernel
theorem dX7_carry_20 : decode cX7_carry 20 = .ok (.iload_n 1, 1) := by decide +kernel
theorem dX7_carry_21 : decode cX7_carry 21 = .ok (.iaload, 1) := by decide +kernel
theorem dX7_carry_22 : decode cX7_carry 22 = .ok (.iconst 1, 1) := by decide +kernel
theorem dX7_carry_23 : decode cX7_carry 23 = .ok (.iadd, 1) := by decide +kernel
theorem dX7_carry_24 : decode cX7_carry 24 = .ok (.sipush 255, 3) := by decide +kernel
theorem dX7_carry_27 : decode cX7_carry 27 = .ok (.iand, 1) := by decide +kernel
theorem dX7_carry_28 : decode cX7_carry 28 = .ok (.iastore, 1) := by decide +kernel
theorem dX7_carry_29 : decode cX7_carry 29 = .ok (.aload_n 0, 1) := by decide +kernel
theorem dX7_carry_30 : decode cX7_carry 30 = .ok (.getfield 9, 3) := by decide +kernel
theorem dX7_carry_33 : decode cX7_carry 33 = .ok (.iload_n 1, 1) := by decide +kernel
theorem dX7_carry_34 : decode cX7_carry 34 = .ok (.iaload, 1) := by decide +kernel
theorem dX7_carry_35 : decode cX7_carry 35 = .ok (.ifCond .eq 6, 3) := by decide +kernel
theorem dX7_carry_38 : decode cX7_carry 38 = .ok (.goto 9, 3) := by decide +kernel
theorem dX7_carry_41 : decode cX7_carry 41 = .ok (.iinc 1 (-1), 3) := by decide +kernel
theorem dX7_carry_44 : decode cX7_carry 44 = .ok (.goto (-37), 3) := by decide +kernel
theorem dX7_carry_47 : decode cX7_carry 47 = .ok (.return_, 1) := by decide +kernel
theorem dX7_fetchByte_0 : decode cX7_fetchByte 0 = .ok (.aload_n 0, 1) := by decide +kernel
theorem dX7_fetchByte_1 : decode cX7_fetchByte 1 = .ok (.aload_n 0, 1) := by decide +kernel
theorem dX7_fetchByte_2 : decode cX7_fetchByte 2 = .ok (.getfield 28, 3) := by decide +kernel
theorem dX7_fetchByte_5 : decode cX7_fetchByte 5 = .ok (.ldc2_w 90, 3) := by decide +kernel
theorem dX7_fetchByte_8 : decode cX7_fetchByte 8 = .ok (.lmul, 1) := by decide +kernel
theorem dX7_fetchByte_9 : decode cX7_fetchByte 9 = .ok (.aload_n 0, 1) := by decide +kernel
theorem dX7_fetchByte_10 : decode cX7_fetchByte 10 = .ok (.aload_n 0, 1) := by decide +kernel
theorem dX7_fetchByte_11 : decode cX7_fetchByte 11 = .ok (.getfield 31, 3) := by decide +kernel
theorem dX7_fetchByte_14 : decode cX7_fetchByte 14 = .ok (.invokevirtual 99, 3) := by decide +kernel
theorem dX7_fetchByte_17 : decode cX7_fetchByte 17 = .ok (.i2l, 1) := by decide +kernel
theorem dX7_fetchByte_18 : decode cX7_fetchByte 18 = .ok (.ladd, 1) := by decide +kernel
theorem dX7_fetchByte_19 : decode cX7_fetchByte 19 = .ok (.putfield 28, 3) := by decide +kernel
theorem dX7_fetchByte_22 : decode cX7_fetchByte 22 = .ok (.aload_n 0, 1) := by decide +kernel
theorem dX7_fetchByte_23 : decode cX7_fetchByte 23 = .ok (.dup, 1) := by decide +kernel
theorem dX7_fetchByte_24 : decode cX7_fetchByte 24 = .ok (.getfield 31, 3) := by decide +kernel
theorem dX7_fetchByte_27 : decode cX7_fetchByte 27 = .ok (.iconst 1, 1) := by decide +kernel
theorem dX7_fetchByte_28 : decode cX7_fetchByte 28 = .ok (.iadd, 1) := by decide +kernel
theorem dX7_fetchByte_29 : decode cX7_fetchByte 29 = .ok (.putfield 31, 3) := by decide +kernel
theorem dX7_fetchByte_32 : decode cX7_fetchByte 32 = .ok (.return_, 1) := by decide +kernel
theorem dX8_init_0 : decode cX8_init 0 = .ok (.aload_n 0, 1) := by decide +kernel
theorem dX8_init_1 : decode cX8_init 1 = .ok (.invokespecial 3, 3) := by decide +kernel
theorem dX8_init_4 : decode cX8_init 4 = .ok (.aload_n 0, 1) := by decide +kernel
theorem dX8_init_5 : decode cX8_init 5 = .ok (.new 9, 3) := by decide +kernel
theorem dX8_init_8 : decode cX8_init 8 = .ok (.dup, 1) := by decide +kernel
theorem dX8_init_9 : decode cX8_init 9 = .ok (.invokespecial 11, 3) := by decide +kernel
theorem dX8_init_12 : decode cX8_init 12 = .ok (.putfield 12, 3) := by decide +kernel
theorem dX8_init_15 : decode cX8_init 15 = .ok (.aload_n 0, 1) := by decide +kernel
theorem dX8_init_16 : decode cX8_init 16 = .ok (.new 16, 3) := by decide +kernel
theorem dX8_init_19 : decode cX8_init 19 = .ok (.dup, 1) := by decide +kernel
theorem dX8_init_20 : decode cX8_init 20 = .ok (.invokespecial 18, 3) := by decide +kernel
theorem dX8_init_23 : decode cX8_init 23 = .ok (.putfield 19, 3) := by decide +kernel
theorem dX8_init_26 : decode cX8_init 26 = .ok (.aload_n 0, 1) := by decide +kernel
theorem dX8_init_27 : decode cX8_init 27 = .ok (.new 23, 3) := by decide +kernel
theorem dX8_init_30 : decode cX8_init 30 = .ok (.dup, 1) := by decide +kernel
theorem dX8_init_31 : decode cX8_init 31 = .ok (.invokespecial 25, 3) := by decide +kernel
theorem dX8_init_34 : decode cX8_init 34 = .ok (.putfield 26, 3) := by decide +kernel
theorem dX8_init_37 : decode cX8_init 37 = .ok (.aload_n 0, 1) := by decide +kernel
theorem dX8_init_38 : decode cX8_init 38 = .ok (.new 30, 3) := by decide +kernel
theorem dX8_init_41 : decode cX8_init 41 = .ok (.dup, 1) := by decide +kernel
theorem dX8_init_42 : decode cX8_init 42 = .ok (.invokespecial 32, 3) := by decide +kernel
theorem dX8_init_45 : decode cX8_init 45 = .ok (.putfield 33, 3) := by decide +kernel
theorem dX8_init_48 : decode cX8_init 48 = .ok (.aload_n 0, 1) := by decide +kernel
theorem dX8_init_49 : decode cX8_init 49 = .ok (.new 37, 3) := by decide +kernel
theorem dX8_init_52 : decode cX8_init 52 = .ok (.dup, 1) := by decide +kernel
theorem dX8_init_53 : decode cX8_init 53 = .ok (.invokespecial 39, 3) := by decide +kernel
theorem dX8_init_56 : decode cX8_init 56 = .ok (.putfield 40, 3) := by decide +kernel
theorem dX8_init_59 : decode cX8_init 59 = .ok (.aload_n 0, 1) := by decide +kernel
theorem dX8_init_60 : decode cX8_init 60 = .ok (.new 44, 3) := by decide +kernel
theorem dX8_init_63 : decode cX8_init 63 = .ok (.dup, 1) := by decide +kernel
theorem dX8_init_64 : decode cX8_init 64 = .ok (.invokespecial 46, 3) := by decide +kernel
theorem dX8_init_67 : decode cX8_init 67 = .ok (.putfield 47, 3) := by decide +kernel
theorem dX8_init_70 : decode cX8_init 70 = .ok (.aload_n 0, 1) := by decide +kernel
theorem dX8_init_71 : decode cX8_init 71 = .ok (.new 51, 3) := by decide +kernel
theorem dX8_init_74 : decode cX8_init 74 = .ok (.dup, 1) := by decide +kernel
theorem dX8_init_75 : decode cX8_init 75 = .ok (.invokespecial 53, 3) := by decide +kernel
theorem dX8_init_78 : decode cX8_init 78 = .ok (.putfield 54, 3) := by decide +kernel
theorem dX8_init_81 : decode cX8_init 81 = .ok (.aload_n 0, 1) := by decide +kernel
theorem dX8_init_82 : decode cX8_init 82 = .ok (.iconst 0, 1) := by decide +kernel
theorem dX8_init_83 : decode cX8_init 83 = .ok (.putfield 58, 3) := by decide +kernel
theorem dX8_init_86 : decode cX8_init 86 = .ok (.aload_n 0, 1) := by decide +kernel
theorem dX8_init_87 : decode cX8_init 87 = .ok (.iconst 0, 1) := by decide +kernel
theorem dX8_init_88 : decode cX8_init 88 = .ok (.putfield 62, 3) := by decide +kernel
theorem dX8_init_91 : decode cX8_init 91 = .ok (.aload_n 0, 1) := by decide +kernel
theorem dX8_init_92 : decode cX8_init 92 = .ok (.iconst 0, 1) := by decide +kernel
theorem dX8_init_93 : decode cX8_init 93 = .ok (.putfield 65, 3) := by decide +kernel
theorem dX8_init_96 : decode cX8_init 96 = .ok (.return_, 1) := by decide +kernel
theorem dX8_sign_0 : decode cX8_sign 0 = .ok (.iload_n 1, 1) := by decide +kernel
theorem dX8_sign_1 : decode cX8_sign 1 = .ok (.iconst 0, 1) := by decide +kernel
theorem dX8_sign_2 : decode cX8_sign 2 = .ok (.iconst 1, 1) := by decide +kernel
theorem dX8_sign_3 : decode cX8_sign 3 = .ok (.invokestatic 68, 3) := by decide +kernel
theorem dX8_sign_6 : decode cX8_sign 6 = .ok (.ifCond .ne 10, 3) := by decide +kernel
theorem dX8_sign_9 : decode cX8_sign 9 = .ok (.aload_n 0, 1) := by decide +kernel
theorem dX8_sign_10 : decode cX8_sign 10 = .ok (.bipush (-2), 2) := by decide +kernel
theorem dX8_sign_12 : decode cX8_sign 12 = .ok (.invokevirtual 72, 3) := by decide +kernel
theorem dX8_sign_15 : decode cX8_sign 15 = .ok (.ireturn, 1) := by decide +kernel
theorem dX8_sign_16 : decode cX8_sign 16 = .ok (.aload_n 0, 1) := by decide +kernel
theorem dX8_sign_17 : decode cX8_sign 17 = .ok (.iconst 1, 1) := by decide +kernel
theorem dX8_sign_18 : decode cX8_sign 18 = .ok (.invokevirtual 76, 3) := by decide +kernel
theorem dX8_sign_21 : decode cX8_sign 21 = .ok (.ifCond .ne 10, 3) := by decide +kernel
theorem dX8_sign_24 : decode cX8_sign 24 = .ok (.aload_n 0, 1) := by decide +kernel
theorem dX8_sign_25 : decode cX8_sign 25 = .ok (.bipush (-4), 2) := by decide +kernel
theorem dX8_sign_27 : decode cX8_sign 27 = .ok (.invokevirtual 72, 3) := by decide +kernel
theorem dX8_sign_30 : decode cX8_sign 30 = .ok (.ireturn, 1) := by decide +kernel
theorem dX8_sign_31 : decode cX8_sign 31 = .ok (.aload_n 0, 1) := by decide +kernel
theorem dX8_sign_32 : decode cX8_sign 32 = .ok (.getfield 54, 3) := by decide +kernel
theorem dX8_sign_35 : decode cX8_sign 35 = .ok (.aload_n 0, 1) := by decide +kernel
theorem dX8_sign_36 : decode cX8_sign 36 = .ok (.getfield 12, 3) := by decide +kernel
theorem dX8_sign_39 : decode cX8_sign 39 = .ok (.invokevirtual 80, 3) := by decide +kernel
theorem dX8_sign_42 : decode cX8_sign 42 = .ok (.aload_n 0, 1) := by decide +kernel
theorem dX8_sign_43 : decode cX8_sign 43 = .ok (.getfield 12, 3) := by decide +kernel
theorem dX8_sign_46 : decode cX8_sign 46 = .ok (.iload_n 1, 1) := by decide +kernel
theorem dX8_sign_47 : decode cX8_sign 47 = .ok (.invokevirtual 84, 3) := by decide +kernel
theorem dX8_sign_50 : decode cX8_sign 50 = .ok (.ireturn, 1) := by decide +kernel
theorem dX8_signs_0 : decode cX8_signs 0 = .ok (.iload_n 3, 1) := by decide +kernel
theorem dX8_signs_1 : decode cX8_signs 1 = .ok (.iconst 1, 1) := by decide +kernel
theorem dX8_signs_2 : decode cX8_signs 2 = .ok (.bipush 64, 2) := by decide +kernel
theorem dX8_signs_4 : decode cX8_signs 4 = .ok (.invokestatic 68, 3) := by decide +kernel
theorem dX8_signs_7 : decode cX8_signs 7 = .ok (.ifCond .ne 10, 3) := by decide +kernel
theorem dX8_signs_10 : decode cX8_signs 10 = .ok (.aload_n 0, 1) := by decide +kernel
theorem dX8_signs_11 : decode cX8_signs 11 = .ok (.bipush (-2), 2) := by decide +kernel
theorem dX8_signs_13 : decode cX8_signs 13 = .ok (.invokevirtual 72, 3) := by decide +kernel
theorem dX8_signs_16 : decode cX8_signs 16 = .ok (.ireturn, 1) := by decide +kernel
theorem dX8_signs_17 : decode cX8_signs 17 = .ok (.aload_n 0, 1) := by decide +kernel
theorem dX8_signs_18 : decode cX8_signs 18 = .ok (.iload_n 3, 1) := by decide +kernel
theorem dX8_signs_19 : decode cX8_signs 19 = .ok (.invokevirtual 76, 3) := by decide +kernel
theorem dX8_signs_22 : decode cX8_signs 22 = .ok (.ifCond .ne 10, 3) := by decide +kernel
theorem dX8_signs_25 : decode cX8_signs 25 = .ok (.aload_n 0, 1) := by decide +kernel
theorem dX8_signs_26 : decode cX8_signs 26 = .ok (.bipush (-4), 2) := by decide +kernel
theorem dX8_signs_28 : decode cX8_signs 28 = .ok (.invokevirtual 72, 3) := by decide +kernel
theorem dX8_signs_31 : decode cX8_signs 31 = .ok (.ireturn, 1) := by decide +kernel
theorem dX8_signs_32 : decode cX8_signs 32 = .ok (.aload_n 0, 1) := by decide +kernel
theorem dX8_signs_33 : decode cX8_signs 33 = .ok (.getfield 54, 3) := by decide +kernel
theorem dX8_signs_36 : decode cX8_signs 36 = .ok (.aload_n 0, 1) := by decide +kernel
theorem dX8_signs_37 : decode cX8_signs 37 = .ok (.getfield 12, 3) := by decide +kernel
theorem dX8_signs_40 : decode cX8_signs 40 = .ok (.invokevirtual 80, 3) := by decide +kernel
theorem dX8_signs_43 : decode cX8_signs 43 = .ok (.iconst 0, 1) := by decide +kernel
theorem dX8_signs_44 : decode cX8_signs 44 = .ok (.istore 4, 2) := by decide +kernel
theorem dX8_signs_46 : decode cX8_signs 46 = .ok (.iconst 0, 1) := by decide +kernel
theorem dX8_signs_47 : decode cX8_signs 47 = .ok (.istore 5, 2) := by decide +kernel
theorem dX8_signs_49 : decode cX8_signs 49 = .ok (.iload 5, 2) := by decide +kernel
theorem dX8_signs_51 : decode cX8_signs 51 = .ok (.iload_n 3, 1) := by decide +kernel
theorem dX8_signs_52 : decode cX8_signs 52 = .ok (.if_icmp .ge 28, 3) := by decide +kernel
theorem dX8_signs_55 : decode cX8_signs 55 = .ok (.iload 4, 2) := by decide +kernel
theorem dX8_signs_57 : decode cX8_signs 57 = .ok (.aload_n 0, 1) := by decide +kernel
theorem dX8_signs_58 : decode cX8_signs 58 = .ok (.getfield 12, 3) := by decide +kernel
theorem dX8_signs_61 : decode cX8_signs 61 = .ok (.lload_n 1, 1) := by decide +kernel
theorem dX8_signs_62 : decode cX8_signs 62 = .ok (.iload 5, 2) := by decide +kernel
theorem dX8_signs_64 : decode cX8_signs 64 = .ok (.lushr, 1) := by decide +kernel
theorem dX8_signs_65 : decode cX8_signs 65 = .ok (.lconst 1, 1) := by decide +kernel
theorem dX8_signs_66 : decode cX8_signs 66 = .ok (.land, 1) := by decide +kernel
theorem dX8_signs_67 : decode cX8_signs 67 = .ok (.l2i, 1) := by decide +kernel
theorem dX8_signs_68 : decode cX8_signs 68 = .ok (.invokevirtual 84, 3) := by decide +kernel
theorem dX8_signs_71 : decode cX8_signs 71 = .ok (.iadd, 1) := by decide +kernel
theorem dX8_signs_72 : decode cX8_signs 72 = .ok (.istore 4, 2) := by decide +kernel
theorem dX8_signs_74 : decode cX8_signs 74 = .ok (.iinc 5 1, 3) := by decide +kernel
theorem dX8_signs_77 : decode cX8_signs 77 = .ok (.goto (-28), 3) := by decide +kernel
theorem dX8_signs_80 : decode cX8_signs 80 = .ok (.iload 4, 2) := by decide +kernel
theorem dX8_signs_82 : decode cX8_signs 82 = .ok (.ireturn, 1) := by decide +kernel
theorem dX8_draw_0 : decode cX8_draw 0 = .ok (.iload_n 1, 1) := by decide +kernel
theorem dX8_draw_1 : decode cX8_draw 1 = .ok (.iconst 0, 1) := by decide +kernel
theorem dX8_draw_2 : decode cX8_draw 2 = .ok (.ldc 87, 2) := by decide +kernel
theorem dX8_draw_4 : decode cX8_draw 4 = .ok (.invokestatic 68, 3) := by decide +kernel
theorem dX8_draw_7 : decode cX8_draw 7 = .ok (.ifCond .eq 23, 3) := by decide +kernel
theorem dX8_draw_10 : decode cX8_draw 10 = .ok (.iload_n 2, 1) := by decide +kernel
theorem dX8_draw_11 : decode cX8_draw 11 = .ok (.iconst 1, 1) := by decide +kernel
theorem dX8_draw_12 : decode cX8_draw 12 = .ok (.bipush 100, 2) := by decide +kernel
theorem dX8_draw_14 : decode cX8_draw 14 = .ok (.invokestatic 68, 3) := by decide +kernel
theorem dX8_draw_17 : decode cX8_draw 17 = .ok (.ifCond .eq 13, 3) := by decide +kernel
theorem dX8_draw_20 : decode cX8_draw 20 = .ok (.iload_n 3, 1) := by decide +kernel
theorem dX8_draw_21 : decode cX8_draw 21 = .ok (.iconst 0, 1) := by decide +kernel
theorem dX8_draw_22 : decode cX8_draw 22 = .ok (.bipush 100, 2) := by decide +kernel
theorem dX8_draw_24 : decode cX8_draw 24 = .ok (.invokestatic 68, 3) := by decide +kernel
theorem dX8_draw_27 : decode cX8_draw 27 = .ok (.ifCond .ne 10, 3) := by decide +kernel
theorem dX8_draw_30 : decode cX8_draw 30 = .ok (.aload_n 0, 1) := by decide +kernel
theorem dX8_draw_31 : decode cX8_draw 31 = .ok (.bipush (-2), 2) := by decide +kernel
theorem dX8_draw_33 : decode cX8_draw 33 = .ok (.invokevirtual 72, 3) := by decide +kernel
theorem dX8_draw_36 : decode cX8_draw 36 = .ok (.ireturn, 1) := by decide +kernel
theorem dX8_draw_37 : decode cX8_draw 37 = .ok (.aload_n 0, 1) := by decide +kernel
theorem dX8_draw_38 : decode cX8_draw 38 = .ok (.iload_n 2, 1) := by decide +kernel
theorem dX8_draw_39 : decode cX8_draw 39 = .ok (.invokevirtual 76, 3) := by decide +kernel
theorem dX8_draw_42 : decode cX8_draw 42 = .ok (.ifCond .ne 10, 3) := by decide +kernel
theorem dX8_draw_45 : decode cX8_draw 45 = .ok (.aload_n 0, 1) := by decide +kernel
theorem dX8_draw_46 : decode cX8_draw 46 = .ok (.bipush (-4), 2) := by decide +kernel
theorem dX8_draw_48 : decode cX8_draw 48 = .ok (.invokevirtual 72, 3) := by decide +kernel
theorem dX8_draw_51 : decode cX8_draw 51 = .ok (.ireturn, 1) := by decide +kernel
theorem dX8_draw_52 : decode cX8_draw 52 = .ok (.aload_n 0, 1) := by decide +kernel
theorem dX8_draw_53 : decode cX8_draw 53 = .ok (.getfield 54, 3) := by decide +kernel
theorem dX8_draw_56 : decode cX8_draw 56 = .ok (.aload_n 0, 1) := by decide +kernel
theorem dX8_draw_57 : decode cX8_draw 57 = .ok (.getfield 12, 3) := by decide +kernel
theorem dX8_draw_60 : decode cX8_draw 60 = .ok (.invokevirtual 80, 3) := by decide +kernel
theorem dX8_draw_63 : decode cX8_draw 63 = .ok (.iload_n 1, 1) := by decide +kernel
theorem dX8_draw_64 : decode cX8_draw 64 = .ok (.i2l, 1) := by decide +kernel
theorem dX8_draw_65 : decode cX8_draw 65 = .ok (.lstore 4, 2) := by decide +kernel
theorem dX8_draw_67 : decode cX8_draw 67 = .ok (.iconst 0, 1) := by decide +kernel
theorem dX8_draw_68 : decode cX8_draw 68 = .ok (.istore 6, 2) := by decide +kernel
theorem dX8_draw_70 : decode cX8_draw 70 = .ok (.iconst 0, 1) := by decide +kernel
theorem dX8_draw_71 : decode cX8_draw 71 = .ok (.istore 7, 2) := by decide +kernel
theorem dX8_draw_73 : decode cX8_draw 73 = .ok (.iload 7, 2) := by decide +kernel
theorem dX8_draw_75 : decode cX8_draw 75 = .ok (.iload_n 2, 1) := by decide +kernel
theorem dX8_draw_76 : decode cX8_draw 76 = .ok (.if_icmp .ge 65, 3) := by decide +kernel
theorem dX8_draw_79 : decode cX8_draw 79 = .ok (.lload 4, 2) := by decide +kernel
theorem dX8_draw_81 : decode cX8_draw 81 = .ok (.ldc2_w 88, 3) := by decide +kernel
theorem dX8_draw_84 : decode cX8_draw 84 = .ok (.lmul, 1) := by decide +kernel
theorem dX8_draw_85 : decode cX8_draw 85 = .ok (.ldc2_w 90, 3) := by decide +kernel
theorem dX8_draw_88 : decode cX8_draw 88 = .ok (.ladd, 1) := by decide +kernel
theorem dX8_draw_89 : decode cX8_draw 89 = .ok (.ldc2_w 92, 3) := by decide +kernel
theorem dX8_draw_92 : decode cX8_draw 92 = .ok (.lrem, 1) := by decide +kernel
theorem dX8_draw_93 : decode cX8_draw 93 = .ok (.lstore 4, 2) := by decide +kernel
theorem dX8_draw_95 : decode cX8_draw 95 = .ok (.lload 4, 2) := by decide +kernel
theorem dX8_draw_97 : decode cX8_draw 97 = .ok (.ldc2_w 94, 3) := by decide +kernel
theorem dX8_draw_100 : decode cX8_draw 100 = .ok (.ldiv, 1) := by decide +kernel
theorem dX8_draw_101 : decode cX8_draw 101 = .ok (.ldc2_w 96, 3) := by decide +kernel
theorem dX8_draw_104 : decode cX8_draw 104 = .ok (.lrem, 1) := by decide +kernel
theorem dX8_draw_105 : decode cX8_draw 105 = .ok (.iload_n 3, 1) := by decide +kernel
theorem dX8_draw_106 : decode cX8_draw 106 = .ok (.i2l, 1) := by decide +kernel
theorem dX8_draw_107 : decode cX8_draw 107 = .ok (.lcmp, 1) := by decide +kernel
theorem dX8_draw_108 : decode cX8_draw 108 = .ok (.ifCond .ge 7, 3) := by decide +kernel
theorem dX8_draw_111 : decode cX8_draw 111 = .ok (.iconst 1, 1) := by decide +kernel
theorem dX8_draw_112 : decode cX8_draw 112 = .ok (.goto 4, 3) := by decide +kernel
theorem dX8_draw_115 : decode cX8_draw 115 = .ok (.iconst 0, 1) := by decide +kernel
theorem dX8_draw_116 : decode cX8_draw 116 = .ok (.istore 8, 2) := by decide +kernel
theorem dX8_draw_118 : decode cX8_draw 118 = .ok (.aload_n 0, 1) := by decide +kernel
theorem dX8_draw_119 : decode cX8_draw 119 = .ok (.getfield 12, 3) := by decide +kernel
theorem dX8_draw_122 : decode cX8_draw 122 = .ok (.iload 8, 2) := by decide +kernel
theorem dX8_draw_124 : decode cX8_draw 124 = .ok (.invokevirtual 84, 3) := by decide +kernel
theorem dX8_draw_127 : decode cX8_draw 127 = .ok (.pop, 1) := by decide +kernel
theorem dX8_draw_128 : decode cX8_draw 128 = .ok (.iload 6, 2) := by decide +kernel
theorem dX8_draw_130 : decode cX8_draw 130 = .ok (.iload 8, 2) := by decide +kernel
theorem dX8_draw_132 : decode cX8_draw 132 = .ok (.iadd, 1) := by decide +kernel
theorem dX8_draw_133 : decode cX8_draw 133 = .ok (.istore 6, 2) := by decide +kernel
theorem dX8_draw_135 : decode cX8_draw 135 = .ok (.iinc 7 1, 3) := by decide +kernel
theorem dX8_draw_138 : decode cX8_draw 138 = .ok (.goto (-65), 3) := by decide +kernel
theorem dX8_draw_141 : decode cX8_draw 141 = .ok (.iload 6, 2) := by decide +kernel
theorem dX8_draw_143 : decode cX8_draw 143 = .ok (.ireturn, 1) := by decide +kernel
theorem dX8_sets_0 : decode cX8_sets 0 = .ok (.iload_n 1, 1) := by decide +kernel
theorem dX8_sets_1 : decode cX8_sets 1 = .ok (.iconst 0, 1) := by decide +kernel
theorem dX8_sets_2 : decode cX8_sets 2 = .ok (.iconst 1, 1) := by decide +kernel
theorem dX8_sets_3 : decode cX8_sets 3 = .ok (.invokestatic 68, 3) := by decide +kernel
theorem dX8_sets_6 : decode cX8_sets 6 = .ok (.ifCond .ne 10, 3) := by decide +kernel
theorem dX8_sets_9 : decode cX8_sets 9 = .ok (.aload_n 0, 1) := by decide +kernel
theorem dX8_sets_10 : decode cX8_sets 10 = .ok (.bipush (-2), 2) := by decide +kernel
theorem dX8_sets_12 : decode cX8_sets 12 = .ok (.invokevirtual 72, 3) := by decide +kernel
theorem dX8_sets_15 : decode cX8_sets 15 = .ok (.ireturn, 1) := by decide +kernel
theorem dX8_sets_16 : decode cX8_sets 16 = .ok (.iload_n 2, 1) := by decide +kernel
theorem dX8_sets_17 : decode cX8_sets 17 = .ok (.iconst 0, 1) := by decide +kernel
theorem dX8_sets_18 : decode cX8_sets 18 = .ok (.iload_n 1, 1) := by decide +kernel
theorem dX8_sets_19 : decode cX8_sets 19 = .ok (.ifCond .ne 8, 3) := by decide +kernel
theorem dX8_sets_22 : decode cX8_sets 22 = .ok (.bipush 6, 2) := by decide +kernel
theorem dX8_sets_24 : decode cX8_sets 24 = .ok (.goto 4, 3) := by decide +kernel
theorem dX8_sets_27 : decode cX8_sets 27 = .ok (.iconst 3, 1) := by decide +kernel
theorem dX8_sets_28 : decode cX8_sets 28 = .ok (.invokestatic 68, 3) := by decide +kernel
theorem dX8_sets_31 : decode cX8_sets 31 = .ok (.ifCond .ne 10, 3) := by decide +kernel
theorem dX8_sets_34 : decode cX8_sets 34 = .ok (.aload_n 0, 1) := by decide +kernel
theorem dX8_sets_35 : decode cX8_sets 35 = .ok (.bipush (-2), 2) := by decide +kernel
theorem dX8_sets_37 : decode cX8_sets 37 = .ok (.invokevirtual 72, 3) := by decide +kernel
theorem dX8_sets_40 : decode cX8_sets 40 = .ok (.ireturn, 1) := by decide +kernel
theorem dX8_sets_41 : decode cX8_sets 41 = .ok (.aload_n 0, 1) := by decide +kernel
theorem dX8_sets_42 : decode cX8_sets 42 = .ok (.getfield 54, 3) := by decide +kernel
theorem dX8_sets_45 : decode cX8_sets 45 = .ok (.aload_n 0, 1) := by decide +kernel
theorem dX8_sets_46 : decode cX8_sets 46 = .ok (.getfield 12, 3) := by decide +kernel
theorem dX8_sets_49 : decode cX8_sets 49 = .ok (.invokevirtual 80, 3) := by decide +kernel
theorem dX8_sets_52 : decode cX8_sets 52 = .ok (.aload_n 0, 1) := by decide +kernel
theorem dX8_sets_53 : decode cX8_sets 53 = .ok (.getfield 12, 3) := by decide +kernel
theorem dX8_sets_56 : decode cX8_sets 56 = .ok (.getfield 98, 3) := by decide +kernel
theorem dX8_sets_59 : decode cX8_sets 59 = .ok (.getfield 101, 3) := by decide +kernel
theorem dX8_sets_62 : decode cX8_sets 62 = .ok (.istore_n 3, 1) := by decide +kernel
theorem dX8_sets_63 : decode cX8_sets 63 = .ok (.aload_n 0, 1) := by decide +kernel
theorem dX8_sets_64 : decode cX8_sets 64 = .ok (.getfield 12, 3) := by decide +kernel
theorem dX8_sets_67 : decode cX8_sets 67 = .ok (.getfield 98, 3) := by decide +kernel
theorem dX8_sets_70 : decode cX8_sets 70 = .ok (.getfield 104, 3) := by decide +kernel
theorem dX8_sets_73 : decode cX8_sets 73 = .ok (.istore 4, 2) := by decide +kernel
theorem dX8_sets_75 : decode cX8_sets 75 = .ok (.iload_n 1, 1) := by decide +kernel
theorem dX8_sets_76 : decode cX8_sets 76 = .ok (.ifCond .ne 22, 3) := by decide +kernel
theorem dX8_sets_79 : decode cX8_sets 79 = .ok (.aload_n 0, 1) := by decide +kernel
theorem dX8_sets_80 : decode cX8_sets 80 = .ok (.getfield 12, 3) := by decide +kernel
theorem dX8_sets_83 : decode cX8_sets 83 = .ok (.aload_n 0, 1) := by decide +kernel
theorem dX8_sets_84 : decode cX8_sets 84 = .ok (.getfield 12, 3) := by decide +kernel
theorem dX8_sets_87 : decode cX8_sets 87 = .ok (.getfield 107, 3) := by decide +kernel
theorem dX8_sets_90 : decode cX8_sets 90 = .ok (.iload_n 2, 1) := by decide +kernel
theorem dX8_sets_91 : decode cX8_sets 91 = .ok (.iload 4, 2) := by decide +kernel
theorem dX8_sets_93 : decode cX8_sets 93 = .ok (.invokevirtual 110, 3) := by decide +kernel
theorem dX8_sets_96 : decode cX8_sets 96 = .ok (.iload_n 3, 1) := by decide +kernel
theorem dX8_sets_97 : decode cX8_sets 97 = .ok (.ireturn, 1) := by decide +kernel
theorem dX8_sets_98 : decode cX8_sets 98 = .ok (.aload_n 0, 1) := by decide +kernel
theorem dX8_sets_99 : decode cX8_sets 99 = .ok (.getfield 12, 3) := by decide +kernel
theorem dX8_sets_102 : decode cX8_sets 102 = .ok (.aload_n 0, 1) := by decide +kernel
theorem dX8_sets_103 : decode cX8_sets 103 = .ok (.getfield 12, 3) := by decide +kernel
theorem dX8_sets_106 : decode cX8_sets 106 = .ok (.getfield 107, 3) := by decide +kernel
theorem dX8_sets_109 : decode cX8_sets 109 = .ok (.iload_n 3, 1) := by decide +kernel
theorem dX8_sets_110 : decode cX8_sets 110 = .ok (.iload_n 2, 1) := by decide +kernel
theorem dX8_sets_111 : decode cX8_sets 111 = .ok (.invokevirtual 110, 3) := by decide +kernel
theorem dX8_sets_114 : decode cX8_sets 114 = .ok (.iload 4, 2) := by decide +kernel
theorem dX8_sets_116 : decode cX8_sets 116 = .ok (.ireturn, 1) := by decide +kernel
theorem dX8_empties_0 : decode cX8_empties 0 = .ok (.aload_n 0, 1) := by decide +kernel
theorem dX8_empties_1 : decode cX8_empties 1 = .ok (.getfield 54, 3) := by decide +kernel
theorem dX8_empties_4 : decode cX8_empties 4 = .ok (.aload_n 0, 1) := by decide +kernel
theorem dX8_empties_5 : decode cX8_empties 5 = .ok (.getfield 12, 3) := by decide +kernel
theorem dX8_empties_8 : decode cX8_empties 8 = .ok (.invokevirtual 80, 3) := by decide +kernel
theorem dX8_empties_11 : decode cX8_empties 11 = .ok (.aload_n 0, 1) := by decide +kernel
theorem dX8_empties_12 : decode cX8_empties 12 = .ok (.getfield 12, 3) := by decide +kernel
theorem dX8_empties_15 : decode cX8_empties 15 = .ok (.getfield 107, 3) := by decide +kernel
theorem dX8_empties_18 : decode cX8_empties 18 = .ok (.istore_n 1, 1) := by decide +kernel
theorem dX8_empties_19 : decode cX8_empties 19 = .ok (.aload_n 0, 1) := by decide +kernel
theorem dX8_empties_20 : decode cX8_empties 20 = .ok (.getfield 12, 3) := by decide +kernel
theorem dX8_empties_23 : decode cX8_empties 23 = .ok (.iconst 0, 1) := by decide +kernel
theorem dX8_empties_24 : decode cX8_empties 24 = .ok (.aload_n 0, 1) := by decide +kernel
theorem dX8_empties_25 : decode cX8_empties 25 = .ok (.getfield 12, 3) := by decide +kernel
theorem dX8_empties_28 : decode cX8_empties 28 = .ok (.getfield 98, 3) := by decide +kernel
theorem dX8_empties_31 : decode cX8_empties 31 = .ok (.getfield 101, 3) := by decide +kernel
theorem dX8_empties_34 : decode cX8_empties 34 = .ok (.aload_n 0, 1) := by decide +kernel
theorem dX8_empties_35 : decode cX8_empties 35 = .ok (.getfield 12, 3) := by decide +kernel
theorem dX8_empties_38 : decode cX8_empties 38 = .ok (.getfield 98, 3) := by decide +kernel
theorem dX8_empties_41 : decode cX8_empties 41 = .ok (.getfield 104, 3) := by decide +kernel
theorem dX8_empties_44 : decode cX8_empties 44 = .ok (.invokevirtual 110, 3) := by decide +kernel
theorem dX8_empties_47 : decode cX8_empties 47 = .ok (.iload_n 1, 1) := by decide +kernel
theorem dX8_empties_48 : decode cX8_empties 48 = .ok (.ireturn, 1) := by decide +kernel
theorem dX8_drop_0 : decode cX8_drop 0 = .ok (.aload_n 0, 1) := by decide +kernel
theorem dX8_drop_1 : decode cX8_drop 1 = .ok (.getfield 12, 3) := by decide +kernel
theorem dX8_drop_4 : decode cX8_drop 4 = .ok (.getfield 107, 3) := by decide +kernel
theorem dX8_drop_7 : decode cX8_drop 7 = .ok (.iconst 1, 1) := by decide +kernel
theorem dX8_drop_8 : decode cX8_drop 8 = .ok (.if_icmp .ge 10, 3) := by decide +kernel
theorem dX8_drop_11 : decode cX8_drop 11 = .ok (.aload_n 0, 1) := by decide +kernel
theorem dX8_drop_12 : decode cX8_drop 12 = .ok (.bipush (-3), 2) := by decide +kernel
theorem dX8_drop_14 : decode cX8_drop 14 = .ok (.invokevirtual 72, 3) := by decide +kernel
theorem dX8_drop_17 : decode cX8_drop 17 = .ok (.ireturn, 1) := by decide +kernel
theorem dX8_drop_18 : decode cX8_drop 18 = .ok (.aload_n 0, 1) := by decide +kernel
theorem dX8_drop_19 : decode cX8_drop 19 = .ok (.getfield 54, 3) := by decide +kernel
theorem dX8_drop_22 : decode cX8_drop 22 = .ok (.aload_n 0, 1) := by decide +kernel
theorem dX8_drop_23 : decode cX8_drop 23 = .ok (.getfield 12, 3) := by decide +kernel
theorem dX8_drop_26 : decode cX8_drop 26 = .ok (.invokevirtual 80, 3) := by decide +kernel
theorem dX8_drop_29 : decode cX8_drop 29 = .ok (.aload_n 0, 1) := by decide +kernel
theorem dX8_drop_30 : decode cX8_drop 30 = .ok (.getfield 12, 3) := by decide +kernel
theorem dX8_drop_33 : decode cX8_drop 33 = .ok (.aload_n 0, 1) := by decide +kernel
theorem dX8_drop_34 : decode cX8_drop 34 = .ok (.getfield 12, 3) := by decide +kernel
theorem dX8_drop_37 : decode cX8_drop 37 = .ok (.getfield 107, 3) := by decide +kernel
theorem dX8_drop_40 : decode cX8_drop 40 = .ok (.iconst 1, 1) := by decide +kernel
theorem dX8_drop_41 : decode cX8_drop 41 = .ok (.isub, 1) := by decide +kernel
theorem dX8_drop_42 : decode cX8_drop 42 = .ok (.aload_n 0, 1) := by decide +kernel
theorem dX8_drop_43 : decode cX8_drop 43 = .ok (.getfield 12, 3) := by decide +kernel
theorem dX8_drop_46 : decode cX8_drop 46 = .ok (.getfield 98, 3) := by decide +kernel
theorem dX8_drop_49 : decode cX8_drop 49 = .ok (.getfield 101, 3) := by decide +kernel
theorem dX8_drop_52 : decode cX8_drop 52 = .ok (.aload_n 0, 1) := by decide +kernel
theorem dX8_drop_53 : decode cX8_drop 53 = .ok (.getfield 12, 3) := by decide +kernel
theorem dX8_drop_56 : decode cX8_drop 56 = .ok (.getfield 98, 3) := by decide +kernel
theorem dX8_drop_59 : decode cX8_drop 59 = .ok (.getfield 104, 3) := by decide +kernel
theorem dX8_drop_62 : decode cX8_drop 62 = .ok (.invokevirtual 110, 3) := by decide +kernel
theorem dX8_drop_65 : decode cX8_drop 65 = .ok (.aload_n 0, 1) := by decide +kernel
theorem dX8_drop_66 : decode cX8_drop 66 = .ok (.getfield 12, 3) := by decide +kernel
theorem dX8_drop_69 : decode cX8_drop 69 = .ok (.getfield 107, 3) := by decide +kernel
theorem dX8_drop_72 : decode cX8_drop 72 = .ok (.ireturn, 1) := by decide +kernel
theorem dX8_at_0 : decode cX8_at 0 = .ok (.aload_n 0, 1) := by decide +kernel
theorem dX8_at_1 : decode cX8_at 1 = .ok (.getfield 12, 3) := by decide +kernel
theorem dX8_at_4 : decode cX8_at 4 = .ok (.iload_n 1, 1) := by decide +kernel
theorem dX8_at_5 : decode cX8_at 5 = .ok (.invokevirtual 114, 3) := by decide +kernel
theorem dX8_at_8 : decode cX8_at 8 = .ok (.ifCond .ne 10, 3) := by decide +kernel
theorem dX8_at_11 : decode cX8_at 11 = .ok (.aload_n 0, 1) := by decide +kernel
theorem dX8_at_12 : decode cX8_at 12 = .ok (.bipush (-2), 2) := by decide +kernel
theorem dX8_at_14 : decode cX8_at 14 = .ok (.invokevirtual 72, 3) := by decide +kernel
theorem dX8_at_17 : decode cX8_at 17 = .ok (.ireturn, 1) := by decide +kernel
theorem dX8_at_18 : decode cX8_at 18 = .ok (.aload_n 0, 1) := by decide +kernel
theorem dX8_at_19 : decode cX8_at 19 = .ok (.getfield 12, 3) := by decide +kernel
theorem dX8_at_22 : decode cX8_at 22 = .ok (.getfield 117, 3) := by decide +kernel
theorem dX8_at_25 : decode cX8_at 25 = .ok (.iload_n 1, 1) := by decide +kernel
theorem dX8_at_26 : decode cX8_at 26 = .ok (.iaload, 1) := by decide +kernel
theorem dX8_at_27 : decode cX8_at 27 = .ok (.ireturn, 1) := by decide +kernel
theorem dX8_guess_0 : decode cX8_guess 0 = .ok (.aload_n 0, 1) := by decide +kernel
theorem dX8_guess_1 : decode cX8_guess 1 = .ok (.getfield 12, 3) := by decide +kernel
theorem dX8_guess_4 : decode cX8_guess 4 = .ok (.getfield 98, 3) := by decide +kernel
theorem dX8_guess_7 : decode cX8_guess 7 = .ok (.invokevirtual 121, 3) := by decide +kernel
theorem dX8_guess_10 : decode cX8_guess 10 = .ok (.ireturn, 1) := by decide +kernel
theorem dX8_was_0 : decode cX8_was 0 = .ok (.aload_n 0, 1) := by decide +kernel
theorem dX8_was_1 : decode cX8_was 1 = .ok (.getfield 12, 3) := by decide +kernel
theorem dX8_was_4 : decode cX8_was 4 = .ok (.iload_n 1, 1) := by decide +kernel
theorem dX8_was_5 : decode cX8_was 5 = .ok (.invokevirtual 114, 3) := by decide +kernel
theorem dX8_was_8 : decode cX8_was 8 = .ok (.ifCond .eq 12, 3) := by decide +kernel
theorem dX8_was_11 : decode cX8_was 11 = .ok (.iload_n 2, 1) := by decide +kernel
theorem dX8_was_12 : decode cX8_was 12 = .ok (.iconst 0, 1) := by decide +kernel
theorem dX8_was_13 : decode cX8_was 13 = .ok (.iconst 1, 1) := by decide +kernel
theorem dX8_was_14 : decode cX8_was 14 = .ok (.invokestatic 68, 3) := by decide +kernel
theorem dX8_was_17 : decode cX8_was 17 = .ok (.ifCond .ne 10, 3) := by decide +kernel
theorem dX8_was_20 : decode cX8_was 20 = .ok (.aload_n 0, 1) := by decide +kernel
theorem dX8_was_21 : decode cX8_was 21 = .ok (.bipush (-2), 2) := by decide +kernel
theorem dX8_was_23 : decode cX8_was 23 = .ok (.invokevirtual 72, 3) := by decide +kernel
theorem dX8_was_26 : decode cX8_was 26 = .ok (.ireturn, 1) := by decide +kernel
theorem dX8_was_27 : decode cX8_was 27 = .ok (.iload_n 2, 1) := by decide +kernel
theorem dX8_was_28 : decode cX8_was 28 = .ok (.ifCond .ne 15, 3) := by decide +kernel
theorem dX8_was_31 : decode cX8_was 31 = .ok (.aload_n 0, 1) := by decide +kernel
theorem dX8_was_32 : decode cX8_was 32 = .ok (.getfield 12, 3) := by decide +kernel
theorem dX8_was_35 : decode cX8_was 35 = .ok (.getfield 125, 3) := by decide +kernel
theorem dX8_was_38 : decode cX8_was 38 = .ok (.iload_n 1, 1) := by decide +kernel
theorem dX8_was_39 : decode cX8_was 39 = .ok (.iaload, 1) := by decide +kernel
theorem dX8_was_40 : decode cX8_was 40 = .ok (.goto 12, 3) := by decide +kernel
theorem dX8_was_43 : decode cX8_was 43 = .ok (.aload_n 0, 1) := by decide +kernel
theorem dX8_was_44 : decode cX8_was 44 = .ok (.getfield 12, 3) := by decide +kernel
theorem dX8_was_47 : decode cX8_was 47 = .ok (.getfield 128, 3) := by decide +kernel
theorem dX8_was_50 : decode cX8_was 50 = .ok (.iload_n 1, 1) := by decide +kernel
theorem dX8_was_51 : decode cX8_was 51 = .ok (.iaload, 1) := by decide +kernel
theorem dX8_was_52 : decode cX8_was 52 = .ok (.ireturn, 1) := by decide +kernel
theorem dX8_node_0 : decode cX8_node 0 = .ok (.aload_n 0, 1) := by decide +kernel
theorem dX8_node_1 : decode cX8_node 1 = .ok (.getfield 12, 3) := by decide +kernel
theorem dX8_node_4 : decode cX8_node 4 = .ok (.getfield 98, 3) := by decide +kernel
theorem dX8_node_7 : decode cX8_node 7 = .ok (.iload_n 1, 1) := by decide +kernel
theorem dX8_node_8 : decode cX8_node 8 = .ok (.iload_n 2, 1) := by decide +kernel
theorem dX8_node_9 : decode cX8_node 9 = .ok (.invokevirtual 131, 3) := by decide +kernel
theorem dX8_node_12 : decode cX8_node 12 = .ok (.ifCond .eq 12, 3) := by decide +kernel
theorem dX8_node_15 : decode cX8_node 15 = .ok (.iload_n 3, 1) := by decide +kernel
theorem dX8_node_16 : decode cX8_node 16 = .ok (.iconst 0, 1) := by decide +kernel
theorem dX8_node_17 : decode cX8_node 17 = .ok (.iconst 3, 1) := by decide +kernel
theorem dX8_node_18 : decode cX8_node 18 = .ok (.invokestatic 68, 3) := by decide +kernel
theorem dX8_node_21 : decode cX8_node 21 = .ok (.ifCond .ne 10, 3) := by decide +kernel
theorem dX8_node_24 : decode cX8_node 24 = .ok (.aload_n 0, 1) := by decide +kernel
theorem dX8_node_25 : decode cX8_node 25 = .ok (.bipush (-2), 2) := by decide +kernel
theorem dX8_node_27 : decode cX8_node 27 = .ok (.invokevirtual 72, 3) := by decide +kernel
theorem dX8_node_30 : decode cX8_node 30 = .ok (.ireturn, 1) := by decide +kernel
theorem dX8_node_31 : decode cX8_node 31 = .ok (.iload_n 1, 1) := by decide +kernel
theorem dX8_node_32 : decode cX8_node 32 = .ok (.iload_n 2, 1) := by decide +kernel
theorem dX8_node_33 : decode cX8_node 33 = .ok (.invokestatic 134, 3) := by decide +kernel
theorem dX8_node_36 : decode cX8_node 36 = .ok (.istore 4, 2) := by decide +kernel
theorem dX8_node_38 : decode cX8_node 38 = .ok (.iload_n 3, 1) := by decide +kernel
theorem dX8_node_39 : decode cX8_node 39 = .ok (.tableswitch 93 0 2 #[25, 39, 53], 25) := by decide +kernel
theorem dX8_node_64 : decode cX8_node 64 = .ok (.aload_n 0, 1) := by decide +kernel
theorem dX8_node_65 : decode cX8_node 65 = .ok (.getfield 12, 3) := by decide +kernel
theorem dX8_node_68 : decode cX8_node 68 = .ok (.getfield 98, 3) := by decide +kernel
theorem dX8_node_71 : decode cX8_node 71 = .ok (.getfield 138, 3) := by decide +kernel
theorem dX8_node_74 : decode cX8_node 74 = .ok (.iload 4, 2) := by decide +kernel
theorem dX8_node_76 : decode cX8_node 76 = .ok (.iaload, 1) := by decide +kernel
theorem dX8_node_77 : decode cX8_node 77 = .ok (.ireturn, 1) := by decide +kernel
theorem dX8_node_78 : decode cX8_node 78 = .ok (.aload_n 0, 1) := by decide +kernel
theorem dX8_node_79 : decode cX8_node 79 = .ok (.getfield 12, 3) := by decide +kernel
theorem dX8_node_82 : decode cX8_node 82 = .ok (.getfield 98, 3) := by decide +kernel
theorem dX8_node_85 : decode cX8_node 85 = .ok (.getfield 141, 3) := by decide +kernel
theorem dX8_node_88 : decode cX8_node 88 = .ok (.iload 4, 2) := by decide +kernel
theorem dX8_node_90 : decode cX8_node 90 = .ok (.iaload, 1) := by decide +kernel
theorem dX8_node_91 : decode cX8_node 91 = .ok (.ireturn, 1) := by decide +kernel
theorem dX8_node_92 : decode cX8_node 92 = .ok (.aload_n 0, 1) := by decide +kernel
theorem dX8_node_93 : decode cX8_node 93 = .ok (.getfield 12, 3) := by decide +kernel
theorem dX8_node_96 : decode cX8_node 96 = .ok (.getfield 98, 3) := by decide +kernel
theorem dX8_node_99 : decode cX8_node 99 = .ok (.getfield 104, 3) := by decide +kernel
theorem dX8_node_102 : decode cX8_node 102 = .ok (.aload_n 0, 1) := by decide +kernel
theorem dX8_node_103 : decode cX8_node 103 = .ok (.getfield 12, 3) := by decide +kernel
theorem dX8_node_106 : decode cX8_node 106 = .ok (.getfield 98, 3) := by decide +kernel
theorem dX8_node_109 : decode cX8_node 109 = .ok (.getfield 138, 3) := by decide +kernel
theorem dX8_node_112 : decode cX8_node 112 = .ok (.iload 4, 2) := by decide +kernel
theorem dX8_node_114 : decode cX8_node 114 = .ok (.iaload, 1) := by decide +kernel
theorem dX8_node_115 : decode cX8_node 115 = .ok (.aload_n 0, 1) := by decide +kernel
theorem dX8_node_116 : decode cX8_node 116 = .ok (.getfield 12, 3) := by decide +kernel
theorem dX8_node_119 : decode cX8_node 119 = .ok (.getfield 98, 3) := by decide +kernel
theorem dX8_node_122 : decode cX8_node 122 = .ok (.getfield 141, 3) := by decide +kernel
theorem dX8_node_125 : decode cX8_node 125 = .ok (.iload 4, 2) := by decide +kernel
theorem dX8_node_127 : decode cX8_node 127 = .ok (.iaload, 1) := by decide +kernel
theorem dX8_node_128 : decode cX8_node 128 = .ok (.invokestatic 144, 3) := by decide +kernel
theorem dX8_node_131 : decode cX8_node 131 = .ok (.ireturn, 1) := by decide +kernel
theorem dX8_node_132 : decode cX8_node 132 = .ok (.iload_n 1, 1) := by decide +kernel
theorem dX8_node_133 : decode cX8_node 133 = .ok (.aload_n 0, 1) := by decide +kernel
theorem dX8_node_134 : decode cX8_node 134 = .ok (.getfield 12, 3) := by decide +kernel
theorem dX8_node_137 : decode cX8_node 137 = .ok (.getfield 98, 3) := by decide +kernel
theorem dX8_node_140 : decode cX8_node 140 = .ok (.getfield 101, 3) := by decide +kernel
theorem dX8_node_143 : decode cX8_node 143 = .ok (.if_icmp .ne 8, 3) := by decide +kernel
theorem dX8_node_146 : decode cX8_node 146 = .ok (.ldc 148, 2) := by decide +kernel
theorem dX8_node_148 : decode cX8_node 148 = .ok (.goto 16, 3) := by decide +kernel
theorem dX8_node_151 : decode cX8_node 151 = .ok (.aload_n 0, 1) := by decide +kernel
theorem dX8_node_152 : decode cX8_node 152 = .ok (.getfield 12, 3) := by decide +kernel
theorem dX8_node_155 : decode cX8_node 155 = .ok (.getfield 98, 3) := by decide +kernel
theorem dX8_node_158 : decode cX8_node 158 = .ok (.getfield 149, 3) := by decide +kernel
theorem dX8_node_161 : decode cX8_node 161 = .ok (.iload 4, 2) := by decide +kernel
theorem dX8_node_163 : decode cX8_node 163 = .ok (.iaload, 1) := by decide +kernel
theorem dX8_node_164 : decode cX8_node 164 = .ok (.ireturn, 1) := by decide +kernel
theorem dX8_cost_0 : decode cX8_cost 0 = .ok (.aload_n 0, 1) := by decide +kernel
theorem dX8_cost_1 : decode cX8_cost 1 = .ok (.getfield 12, 3) := by decide +kernel
theorem dX8_cost_4 : decode cX8_cost 4 = .ok (.getfield 152, 3) := by decide +kernel
theorem dX8_cost_7 : decode cX8_cost 7 = .ok (.ireturn, 1) := by decide +kernel
theorem dX8_costBy_0 : decode cX8_costBy 0 = .ok (.iload_n 1, 1) := by decide +kernel
theorem dX8_costBy_1 : decode cX8_costBy 1 = .ok (.iconst 0, 1) := by decide +kernel
theorem dX8_costBy_2 : decode cX8_costBy 2 = .ok (.bipush 6, 2) := by decide +kernel
theorem dX8_costBy_4 : decode cX8_costBy 4 = .ok (.invokestatic 68, 3) := by decide +kernel
theorem dX8_costBy_7 : decode cX8_costBy 7 = .ok (.ifCond .eq 12, 3) := by decide +kernel
theorem dX8_costBy_10 : decode cX8_costBy 10 = .ok (.iload_n 2, 1) := by decide +kernel
theorem dX8_costBy_11 : decode cX8_costBy 11 = .ok (.iconst 0, 1) := by decide +kernel
theorem dX8_costBy_12 : decode cX8_costBy 12 = .ok (.iconst 3, 1) := by decide +kernel
theorem dX8_costBy_13 : decode cX8_costBy 13 = .ok (.invokestatic 68, 3) := by decide +kernel
theorem dX8_costBy_16 : decode cX8_costBy 16 = .ok (.ifCond .ne 10, 3) := by decide +kernel
theorem dX8_costBy_19 : decode cX8_costBy 19 = .ok (.aload_n 0, 1) := by decide +kernel
theorem dX8_costBy_20 : decode cX8_costBy 20 = .ok (.bipush (-2), 2) := by decide +kernel
theorem dX8_costBy_22 : decode cX8_costBy 22 = .ok (.invokevirtual 72, 3) := by decide +kernel
theorem dX8_costBy_25 : decode cX8_costBy 25 = .ok (.ireturn, 1) := by decide +kernel
theorem dX8_costBy_26 : decode cX8_costBy 26 = .ok (.aload_n 0, 1) := by decide +kernel
theorem dX8_costBy_27 : decode cX8_costBy 27 = .ok (.getfield 12, 3) := by decide +kernel
theorem dX8_costBy_30 : decode cX8_costBy 30 = .ok (.aload_n 0, 1) := by decide +kernel
theorem dX8_costBy_31 : decode cX8_costBy 31 = .ok (.getfield 19, 3) := by decide +kernel
theorem dX8_costBy_34 : decode cX8_costBy 34 = .ok (.iload_n 1, 1) := by decide +kernel
theorem dX8_costBy_35 : decode cX8_costBy 35 = .ok (.iload_n 2, 1) := by decide +kernel
theorem dX8_costBy_36 : decode cX8_costBy 36 = .ok (.invokevirtual 155, 3) := by decide +kernel
theorem dX8_costBy_39 : decode cX8_costBy 39 = .ok (.ireturn, 1) := by decide +kernel
theorem dX8_best_0 : decode cX8_best 0 = .ok (.iload_n 1, 1) := by decide +kernel
theorem dX8_best_1 : decode cX8_best 1 = .ok (.iconst 0, 1) := by decide +kernel
theorem dX8_best_2 : decode cX8_best 2 = .ok (.iconst 2, 1) := by decide +kernel
theorem dX8_best_3 : decode cX8_best 3 = .ok (.invokestatic 68, 3) := by decide +kernel
theorem dX8_best_6 : decode cX8_best 6 = .ok (.ifCond .ne 10, 3) := by decide +kernel
theorem dX8_best_9 : decode cX8_best 9 = .ok (.aload_n 0, 1) := by decide +kernel
theorem dX8_best_10 : decode cX8_best 10 = .ok (.bipush (-2), 2) := by decide +kernel
theorem dX8_best_12 : decode cX8_best 12 = .ok (.invokevirtual 72, 3) := by decide +kernel
theorem dX8_best_15 : decode cX8_best 15 = .ok (.ireturn, 1) := by decide +kernel
theorem dX8_best_16 : decode cX8_best 16 = .ok (.aload_n 0, 1) := by decide +kernel
theorem dX8_best_17 : decode cX8_best 17 = .ok (.getfield 26, 3) := by decide +kernel
theorem dX8_best_20 : decode cX8_best 20 = .ok (.aload_n 0, 1) := by decide +kernel
theorem dX8_best_21 : decode cX8_best 21 = .ok (.getfield 12, 3) := by decide +kernel
theorem dX8_best_24 : decode cX8_best 24 = .ok (.aload_n 0, 1) := by decide +kernel
theorem dX8_best_25 : decode cX8_best 25 = .ok (.getfield 19, 3) := by decide +kernel
theorem dX8_best_28 : decode cX8_best 28 = .ok (.invokevirtual 159, 3) := by decide +kernel
theorem dX8_best_31 : decode cX8_best 31 = .ok (.iload_n 1, 1) := by decide +kernel
theorem dX8_best_32 : decode cX8_best 32 = .ok (.lookupswitch 44 #[(0, 28), (1, 36)], 28) := by decide +kernel
theorem dX8_best_60 : decode cX8_best 60 = .ok (.aload_n 0, 1) := by decide +kernel
theorem dX8_best_61 : decode cX8_best 61 = .ok (.getfield 26, 3) := by decide +kernel
theorem dX8_best_64 : decode cX8_best 64 = .ok (.getfield 163, 3) := by decide +kernel
theorem dX8_best_67 : decode cX8_best 67 = .ok (.ireturn, 1) := by decide +kernel
theorem dX8_best_68 : decode cX8_best 68 = .ok (.aload_n 0, 1) := by decide +kernel
theorem dX8_best_69 : decode cX8_best 69 = .ok (.getfield 26, 3) := by decide +kernel
theorem dX8_best_72 : decode cX8_best 72 = .ok (.getfield 164, 3) := by decide +kernel
theorem dX8_best_75 : decode cX8_best 75 = .ok (.ireturn, 1) := by decide +kernel
theorem dX8_best_76 : decode cX8_best 76 = .ok (.aload_n 0, 1) := by decide +kernel
theorem dX8_best_77 : decode cX8_best 77 = .ok (.getfield 26, 3) := by decide +kernel
theorem dX8_best_80 : decode cX8_best 80 = .ok (.getfield 165, 3) := by decide +kernel
theorem dX8_best_83 : decode cX8_best 83 = .ok (.ireturn, 1) := by decide +kernel
theorem dX8_follows_0 : decode cX8_follows 0 = .ok (.iload_n 1, 1) := by decide +kernel
theorem dX8_follows_1 : decode cX8_follows 1 = .ok (.iconst 1, 1) := by decide +kernel
theorem dX8_follows_2 : decode cX8_follows 2 = .ok (.bipush 16, 2) := by decide +kernel
theorem dX8_follows_4 : decode cX8_follows 4 = .ok (.invokestatic 68, 3) := by decide +kernel
theorem dX8_follows_7 : decode cX8_follows 7 = .ok (.ifCond .ne 10, 3) := by decide +kernel
theorem dX8_follows_10 : decode cX8_follows 10 = .ok (.aload_n 0, 1) := by decide +kernel
theorem dX8_follows_11 : decode cX8_follows 11 = .ok (.bipush (-2), 2) := by decide +kernel
theorem dX8_follows_13 : decode cX8_follows 13 = .ok (.invokevirtual 72, 3) := by decide +kernel
theorem dX8_follows_16 : decode cX8_follows 16 = .ok (.ireturn, 1) := by decide +kernel
theorem dX8_follows_17 : decode cX8_follows 17 = .ok (.aload_n 0, 1) := by decide +kernel
theorem dX8_follows_18 : decode cX8_follows 18 = .ok (.getfield 12, 3) := by decide +kernel
theorem dX8_follows_21 : decode cX8_follows 21 = .ok (.aload_n 0, 1) := by decide +kernel
theorem dX8_follows_22 : decode cX8_follows 22 = .ok (.getfield 19, 3) := by decide +kernel
theorem dX8_follows_25 : decode cX8_follows 25 = .ok (.aload_n 0, 1) := by decide +kernel
theorem dX8_follows_26 : decode cX8_follows 26 = .ok (.getfield 12, 3) := by decide +kernel
theorem dX8_follows_29 : decode cX8_follows 29 = .ok (.getfield 98, 3) := by decide +kernel
theorem dX8_follows_32 : decode cX8_follows 32 = .ok (.getfield 101, 3) := by decide +kernel
theorem dX8_follows_35 : decode cX8_follows 35 = .ok (.aload_n 0, 1) := by decide +kernel
theorem dX8_follows_36 : decode cX8_follows 36 = .ok (.getfield 12, 3) := by decide +kernel
theorem dX8_follows_39 : decode cX8_follows 39 = .ok (.getfield 98, 3) := by decide +kernel
theorem dX8_follows_42 : decode cX8_follows 42 = .ok (.getfield 104, 3) := by decide +kernel
theorem dX8_follows_45 : decode cX8_follows 45 = .ok (.invokevirtual 155, 3) := by decide +kernel
theorem dX8_follows_48 : decode cX8_follows 48 = .ok (.pop, 1) := by decide +kernel
theorem dX8_follows_49 : decode cX8_follows 49 = .ok (.iconst 0, 1) := by decide +kernel
theorem dX8_follows_50 : decode cX8_follows 50 = .ok (.istore_n 2, 1) := by decide +kernel
theorem dX8_follows_51 : decode cX8_follows 51 = .ok (.iconst 0, 1) := by decide +kernel
theorem dX8_follows_52 : decode cX8_follows 52 = .ok (.istore_n 3, 1) := by decide +kernel
theorem dX8_follows_53 : decode cX8_follows 53 = .ok (.iload_n 3, 1) := by decide +kernel
theorem dX8_follows_54 : decode cX8_follows 54 = .ok (.iload_n 1, 1) := by decide +kernel
theorem dX8_follows_55 : decode cX8_follows 55 = .ok (.if_icmp .ge 44, 3) := by decide +kernel
theorem dX8_follows_58 : decode cX8_follows 58 = .ok (.aload_n 0, 1) := by decide +kernel
theorem dX8_follows_59 : decode cX8_follows 59 = .ok (.getfield 19, 3) := by decide +kernel
theorem dX8_follows_62 : decode cX8_follows 62 = .ok (.invokevirtual 121, 3) := by decide +kernel
theorem dX8_follows_65 : decode cX8_follows 65 = .ok (.ldc 168, 2) := by decide +kernel
theorem dX8_follows_67 : decode cX8_follows 67 = .ok (.if_icmp .lt 7, 3) := by decide +kernel
theorem dX8_follows_70 : decode cX8_follows 70 = .ok (.iconst 1, 1) := by decide +kernel
theorem dX8_follows_71 : decode cX8_follows 71 = .ok (.goto 4, 3) := by decide +kernel
theorem dX8_follows_74 : decode cX8_follows 74 = .ok (.iconst 0, 1) := by decide +kernel
theorem dX8_follows_75 : decode cX8_follows 75 = .ok (.istore 4, 2) := by decide +kernel
theorem dX8_follows_77 : decode cX8_follows 77 = .ok (.iload_n 2, 1) := by decide +kernel
theorem dX8_follows_78 : decode cX8_follows 78 = .ok (.iload 4, 2) := by decide +kernel
theorem dX8_follows_80 : decode cX8_follows 80 = .ok (.iload_n 3, 1) := by decide +kernel
theorem dX8_follows_81 : decode cX8_follows 81 = .ok (.ishl, 1) := by decide +kernel
theorem dX8_follows_82 : decode cX8_follows 82 = .ok (.ior, 1) := by decide +kernel
theorem dX8_follows_83 : decode cX8_follows 83 = .ok (.istore_n 2, 1) := by decide +kernel
theorem dX8_follows_84 : decode cX8_follows 84 = .ok (.aload_n 0, 1) := by decide +kernel
theorem dX8_follows_85 : decode cX8_follows 85 = .ok (.getfield 19, 3) := by decide +kernel
theorem dX8_follows_88 : decode cX8_follows 88 = .ok (.iload 4, 2) := by decide +kernel
theorem dX8_follows_90 : decode cX8_follows 90 = .ok (.invokevirtual 169, 3) := by decide +kernel
theorem dX8_follows_93 : decode cX8_follows 93 = .ok (.iinc 3 1, 3) := by decide +kernel
theorem dX8_follows_96 : decode cX8_follows 96 = .ok (.goto (-43), 3) := by decide +kernel
theorem dX8_follows_99 : decode cX8_follows 99 = .ok (.iload_n 2, 1) := by decide +kernel
theorem dX8_follows_100 : decode cX8_follows 100 = .ok (.ireturn, 1) := by decide +kernel
theorem dX8_tree_0 : decode cX8_tree 0 = .ok (.iload_n 1, 1) := by decide +kernel
theorem dX8_tree_1 : decode cX8_tree 1 = .ok (.iconst 0, 1) := by decide +kernel
theorem dX8_tree_2 : decode cX8_tree 2 = .ok (.iconst 2, 1) := by decide +kernel
theorem dX8_tree_3 : decode cX8_tree 3 = .ok (.invokestatic 68, 3) := by decide +kernel
theorem dX8_tree_6 : decode cX8_tree 6 = .ok (.ifCond .ne 10, 3) := by decide +kernel
theorem dX8_tree_9 : decode cX8_tree 9 = .ok (.aload_n 0, 1) := by decide +kernel
theorem dX8_tree_10 : decode cX8_tree 10 = .ok (.bipush (-2), 2) := by decide +kernel
theorem dX8_tree_12 : decode cX8_tree 12 = .ok (.invokevirtual 72, 3) := by decide +kernel
theorem dX8_tree_15 : decode cX8_tree 15 = .ok (.ireturn, 1) := by decide +kernel
theorem dX8_tree_16 : decode cX8_tree 16 = .ok (.aload_n 0, 1) := by decide +kernel
theorem dX8_tree_17 : decode cX8_tree 17 = .ok (.getfield 33, 3) := by decide +kernel
theorem dX8_tree_20 : decode cX8_tree 20 = .ok (.aload_n 0, 1) := by decide +kernel
theorem dX8_tree_21 : decode cX8_tree 21 = .ok (.getfield 12, 3) := by decide +kernel
theorem dX8_tree_24 : decode cX8_tree 24 = .ok (.getfield 98, 3) := by decide +kernel
theorem dX8_tree_27 : decode cX8_tree 27 = .ok (.invokevirtual 173, 3) := by decide +kernel
theorem dX8_tree_30 : decode cX8_tree 30 = .ok (.iload_n 1, 1) := by decide +kernel
theorem dX8_tree_31 : decode cX8_tree 31 = .ok (.lookupswitch 41 #[(0, 25), (1, 33)], 25) := by decide +kernel
theorem dX8_tree_56 : decode cX8_tree 56 = .ok (.aload_n 0, 1) := by decide +kernel
theorem dX8_tree_57 : decode cX8_tree 57 = .ok (.getfield 33, 3) := by decide +kernel
theorem dX8_tree_60 : decode cX8_tree 60 = .ok (.invokevirtual 177, 3) := by decide +kernel
theorem dX8_tree_63 : decode cX8_tree 63 = .ok (.ireturn, 1) := by decide +kernel
theorem dX8_tree_64 : decode cX8_tree 64 = .ok (.aload_n 0, 1) := by decide +kernel
theorem dX8_tree_65 : decode cX8_tree 65 = .ok (.getfield 33, 3) := by decide +kernel
theorem dX8_tree_68 : decode cX8_tree 68 = .ok (.getfield 179, 3) := by decide +kernel
theorem dX8_tree_71 : decode cX8_tree 71 = .ok (.ireturn, 1) := by decide +kernel
theorem dX8_tree_72 : decode cX8_tree 72 = .ok (.aload_n 0, 1) := by decide +kernel
theorem dX8_tree_73 : decode cX8_tree 73 = .ok (.getfield 33, 3) := by decide +kernel
theorem dX8_tree_76 : decode cX8_tree 76 = .ok (.getfield 182, 3) := by decide +kernel
theorem dX8_tree_79 : decode cX8_tree 79 = .ok (.ireturn, 1) := by decide +kernel
theorem dX8_leaf_0 : decode cX8_leaf 0 = .ok (.aload_n 0, 1) := by decide +kernel
theorem dX8_leaf_1 : decode cX8_leaf 1 = .ok (.getfield 12, 3) := by decide +kernel
theorem dX8_leaf_4 : decode cX8_leaf 4 = .ok (.getfield 98, 3) := by decide +kernel
theorem dX8_leaf_7 : decode cX8_leaf 7 = .ok (.iload_n 1, 1) := by decide +kernel
theorem dX8_leaf_8 : decode cX8_leaf 8 = .ok (.iload_n 2, 1) := by decide +kernel
theorem dX8_leaf_9 : decode cX8_leaf 9 = .ok (.invokevirtual 131, 3) := by decide +kernel
theorem dX8_leaf_12 : decode cX8_leaf 12 = .ok (.ifCond .ne 10, 3) := by decide +kernel
theorem dX8_leaf_15 : decode cX8_leaf 15 = .ok (.aload_n 0, 1) := by decide +kernel
theorem dX8_leaf_16 : decode cX8_leaf 16 = .ok (.bipush (-2), 2) := by decide +kernel
theorem dX8_leaf_18 : decode cX8_leaf 18 = .ok (.invokevirtual 72, 3) := by decide +kernel
theorem dX8_leaf_21 : decode cX8_leaf 21 = .ok (.ireturn, 1) := by decide +kernel
theorem dX8_leaf_22 : decode cX8_leaf 22 = .ok (.aload_n 0, 1) := by decide +kernel
theorem dX8_leaf_23 : decode cX8_leaf 23 = .ok (.getfield 33, 3) := by decide +kernel
theorem dX8_leaf_26 : decode cX8_leaf 26 = .ok (.aload_n 0, 1) := by decide +kernel
theorem dX8_leaf_27 : decode cX8_leaf 27 = .ok (.getfield 12, 3) := by decide +kernel
theorem dX8_leaf_30 : decode cX8_leaf 30 = .ok (.getfield 98, 3) := by decide +kernel
theorem dX8_leaf_33 : decode cX8_leaf 33 = .ok (.invokevirtual 173, 3) := by decide +kernel
theorem dX8_leaf_36 : decode cX8_leaf 36 = .ok (.aload_n 0, 1) := by decide +kernel
theorem dX8_leaf_37 : decode cX8_leaf 37 = .ok (.getfield 33, 3) := by decide +kernel
theorem dX8_leaf_40 : decode cX8_leaf 40 = .ok (.getfield 185, 3) := by decide +kernel
theorem dX8_leaf_43 : decode cX8_leaf 43 = .ok (.iload_n 1, 1) := by decide +kernel
theorem dX8_leaf_44 : decode cX8_leaf 44 = .ok (.iload_n 2, 1) := by decide +kernel
theorem dX8_leaf_45 : decode cX8_leaf 45 = .ok (.invokestatic 134, 3) := by decide +kernel
theorem dX8_leaf_48 : decode cX8_leaf 48 = .ok (.iaload, 1) := by decide +kernel
theorem dX8_leaf_49 : decode cX8_leaf 49 = .ok (.ireturn, 1) := by decide +kernel
theorem dX8_written_0 : decode cX8_written 0 = .ok (.iload_n 1, 1) := by decide +kernel
theorem dX8_written_1 : decode cX8_written 1 = .ok (.iconst (-1), 1) := by decide +kernel
theorem dX8_written_2 : decode cX8_written 2 = .ok (.if_icmp .ge 13, 3) := by decide +kernel
theorem dX8_written_5 : decode cX8_written 5 = .ok (.aload_n 0, 1) := by decide +kernel
theorem dX8_written_6 : decode cX8_written 6 = .ok (.bipush (-2), 2) := by decide +kernel
theorem dX8_written_8 : decode cX8_written 8 = .ok (.invokevirtual 72, 3) := by decide +kernel
theorem dX8_written_11 : decode cX8_written 11 = .ok (.pop, 1) := by decide +kernel
theorem dX8_written_12 : decode cX8_written 12 = .ok (.bipush (-10), 2) := by decide +kernel
theorem dX8_written_14 : decode cX8_written 14 = .ok (.ireturn, 1) := by decide +kernel
theorem dX8_written_15 : decode cX8_written 15 = .ok (.aload_n 0, 1) := by decide +kernel
theorem dX8_written_16 : decode cX8_written 16 = .ok (.getfield 40, 3) := by decide +kernel
theorem dX8_written_19 : decode cX8_written 19 = .ok (.aload_n 0, 1) := by decide +kernel
theorem dX8_written_20 : decode cX8_written 20 = .ok (.getfield 12, 3) := by decide +kernel
theorem dX8_written_23 : decode cX8_written 23 = .ok (.invokevirtual 188, 3) := by decide +kernel
theorem dX8_written_26 : decode cX8_written 26 = .ok (.iload_n 1, 1) := by decide +kernel
theorem dX8_written_27 : decode cX8_written 27 = .ok (.iconst (-1), 1) := by decide +kernel
theorem dX8_written_28 : decode cX8_written 28 = .ok (.if_icmp .ne 11, 3) := by decide +kernel
theorem dX8_written_31 : decode cX8_written 31 = .ok (.aload_n 0, 1) := by decide +kernel
theorem dX8_written_32 : decode cX8_written 32 = .ok (.getfield 40, 3) := by decide +kernel
theorem dX8_written_35 : decode cX8_written 35 = .ok (.getfield 191, 3) := by decide +kernel
theorem dX8_written_38 : decode cX8_written 38 = .ok (.ireturn, 1) := by decide +kernel
theorem dX8_written_39 : decode cX8_written 39 = .ok (.iload_n 1, 1) := by decide +kernel
theorem dX8_written_40 : decode cX8_written 40 = .ok (.aload_n 0, 1) := by decide +kernel
theorem dX8_written_41 : decode cX8_written 41 = .ok (.getfield 40, 3) := by decide +kernel
theorem dX8_written_44 : decode cX8_written 44 = .ok (.getfield 191, 3) := by decide +kernel
theorem dX8_written_47 : decode cX8_written 47 = .ok (.if_icmp .ge 14, 3) := by decide +kernel
theorem dX8_written_50 : decode cX8_written 50 = .ok (.aload_n 0, 1) := by decide +kernel
theorem dX8_written_51 : decode cX8_written 51 = .ok (.getfield 40, 3) := by decide +kernel
theorem dX8_written_54 : decode cX8_written 54 = .ok (.iload_n 1, 1) := by decide +kernel
theorem dX8_written_55 : decode cX8_written 55 = .ok (.invokevirtual 192, 3) := by decide +kernel
theorem dX8_written_58 : decode cX8_written 58 = .ok (.goto 5, 3) := by decide +kernel
theorem dX8_written_61 : decode cX8_written 61 = .ok (.bipush (-5), 2) := by decide +kernel
theorem dX8_written_63 : decode cX8_written 63 = .ok (.ireturn, 1) := by decide +kernel
theorem dX8_reads_0 : decode cX8_reads 0 = .ok (.iload_n 1, 1) := by decide +kernel
theorem dX8_reads_1 : decode cX8_reads 1 = .ok (.iconst (-1), 1) := by decide +kernel
theorem dX8_reads_2 : decode cX8_reads 2 = .ok (.if_icmp .ge 10, 3) := by decide +kernel
theorem dX8_reads_5 : decode cX8_reads 5 = .ok (.aload_n 0, 1) := by decide +kernel
theorem dX8_reads_6 : decode cX8_reads 6 = .ok (.bipush (-2), 2) := by decide +kernel
theorem dX8_reads_8 : decode cX8_reads 8 = .ok (.invokevirtual 72, 3) := by decide +kernel
theorem dX8_reads_11 : decode cX8_reads 11 = .ok (.ireturn, 1) := by decide +kernel
theorem dX8_reads_12 : decode cX8_reads 12 = .ok (.aload_n 0, 1) := by decide +kernel
theorem dX8_reads_13 : decode cX8_reads 13 = .ok (.getfield 40, 3) := by decide +kernel
theorem dX8_reads_16 : decode cX8_reads 16 = .ok (.aload_n 0, 1) := by decide +kernel
theorem dX8_reads_17 : decode cX8_reads 17 = .ok (.getfield 12, 3) := by decide +kernel
theorem dX8_reads_20 : decode cX8_reads 20 = .ok (.invokevirtual 188, 3) := by decide +kernel
theorem dX8_reads_23 : decode cX8_reads 23 = .ok (.iload_n 1, 1) := by decide +kernel
theorem dX8_reads_24 : decode cX8_reads 24 = .ok (.aload_n 0, 1) := by decide +kernel
theorem dX8_reads_25 : decode cX8_reads 25 = .ok (.getfield 40, 3) := by decide +kernel
theorem dX8_reads_28 : decode cX8_reads 28 = .ok (.getfield 191, 3) := by decide +kernel
theorem dX8_reads_31 : decode cX8_reads 31 = .ok (.if_icmp .lt 10, 3) := by decide +kernel
theorem dX8_reads_34 : decode cX8_reads 34 = .ok (.aload_n 0, 1) := by decide +kernel
theorem dX8_reads_35 : decode cX8_reads 35 = .ok (.bipush (-2), 2) := by decide +kernel
theorem dX8_reads_37 : decode cX8_reads 37 = .ok (.invokevirtual 72, 3) := by decide +kernel
theorem dX8_reads_40 : decode cX8_reads 40 = .ok (.ireturn, 1) := by decide +kernel
theorem dX8_reads_41 : decode cX8_reads 41 = .ok (.iload_n 1, 1) := by decide +kernel
theorem dX8_reads_42 : decode cX8_reads 42 = .ok (.iconst (-1), 1) := by decide +kernel
theorem dX8_reads_43 : decode cX8_reads 43 = .ok (.if_icmp .eq 21, 3) := by decide +kernel
theorem dX8_reads_46 : decode cX8_reads 46 = .ok (.iload_n 2, 1) := by decide +kernel
theorem dX8_reads_47 : decode cX8_reads 47 = .ok (.iconst 1, 1) := by decide +kernel
theorem dX8_reads_48 : decode cX8_reads 48 = .ok (.sipush 255, 3) := by decide +kernel
theorem dX8_reads_51 : decode cX8_reads 51 = .ok (.invokestatic 68, 3) := by decide +kernel
theorem dX8_reads_54 : decode cX8_reads 54 = .ok (.ifCond .ne 10, 3) := by decide +kernel
theorem dX8_reads_57 : decode cX8_reads 57 = .ok (.aload_n 0, 1) := by decide +kernel
theorem dX8_reads_58 : decode cX8_reads 58 = .ok (.bipush (-2), 2) := by decide +kernel
theorem dX8_reads_60 : decode cX8_reads 60 = .ok (.invokevirtual 72, 3) := by decide +kernel
theorem dX8_reads_63 : decode cX8_reads 63 = .ok (.ireturn, 1) := by decide +kernel
theorem dX8_reads_64 : decode cX8_reads 64 = .ok (.iload_n 1, 1) := by decide +kernel
theorem dX8_reads_65 : decode cX8_reads 65 = .ok (.iconst (-1), 1) := by decide +kernel
theorem dX8_reads_66 : decode cX8_reads 66 = .ok (.if_icmp .eq 12, 3) := by decide +kernel
theorem dX8_reads_69 : decode cX8_reads 69 = .ok (.aload_n 0, 1) := by decide +kernel
theorem dX8_reads_70 : decode cX8_reads 70 = .ok (.getfield 40, 3) := by decide +kernel
theorem dX8_reads_73 : decode cX8_reads 73 = .ok (.iload_n 1, 1) := by decide +kernel
theorem dX8_reads_74 : decode cX8_reads 74 = .ok (.iload_n 2, 1) := by decide +kernel
theorem dX8_reads_75 : decode cX8_reads 75 = .ok (.invokevirtual 195, 3) := by decide +kernel
theorem dX8_reads_78 : decode cX8_reads 78 = .ok (.aload_n 0, 1) := by decide +kernel
theorem dX8_reads_79 : decode cX8_reads 79 = .ok (.getfield 40, 3) := by decide +kernel
theorem dX8_reads_82 : decode cX8_reads 82 = .ok (.aload_n 0, 1) := by decide +kernel
theorem dX8_reads_83 : decode cX8_reads 83 = .ok (.getfield 12, 3) := by decide +kernel
theorem dX8_reads_86 : decode cX8_reads 86 = .ok (.aload_n 0, 1) := by decide +kernel
theorem dX8_reads_87 : decode cX8_reads 87 = .ok (.getfield 19, 3) := by decide +kernel
theorem dX8_reads_90 : decode cX8_reads 90 = .ok (.invokevirtual 199, 3) := by decide +kernel
theorem dX8_reads_93 : decode cX8_reads 93 = .ok (.ireturn, 1) := by decide +kernel
theorem dX8_type_0 : decode cX8_type 0 = .ok (.iload_n 1, 1) := by decide +kernel
theorem dX8_type_1 : decode cX8_type 1 = .ok (.iconst 0, 1) := by decide +kernel
theorem dX8_type_2 : decode cX8_type 2 = .ok (.bipush 127, 2) := by decide +kernel
theorem dX8_type_4 : decode cX8_type 4 = .ok (.invokestatic 68, 3) := by decide +kernel
theorem dX8_type_7 : decode cX8_type 7 = .ok (.ifCond .ne 10, 3) := by decide +kernel
theorem dX8_type_10 : decode cX8_type 10 = .ok (.aload_n 0, 1) := by decide +kernel
theorem dX8_type_11 : decode cX8_type 11 = .ok (.bipush (-2), 2) := by decide +kernel
theorem dX8_type_13 : decode cX8_type 13 = .ok (.invokevirtual 72, 3) := by decide +kernel
theorem dX8_type_16 : decode cX8_type 16 = .ok (.ireturn, 1) := by decide +kernel
theorem dX8_type_17 : decode cX8_type 17 = .ok (.aload_n 0, 1) := by decide +kernel
theorem dX8_type_18 : decode cX8_type 18 = .ok (.getfield 47, 3) := by decide +kernel
theorem dX8_type_21 : decode cX8_type 21 = .ok (.getfield 203, 3) := by decide +kernel
theorem dX8_type_24 : decode cX8_type 24 = .ok (.bipush 120, 2) := by decide +kernel
theorem dX8_type_26 : decode cX8_type 26 = .ok (.if_icmp .lt 10, 3) := by decide +kernel
theorem dX8_type_29 : decode cX8_type 29 = .ok (.aload_n 0, 1) := by decide +kernel
theorem dX8_type_30 : decode cX8_type 30 = .ok (.bipush (-4), 2) := by decide +kernel
theorem dX8_type_32 : decode cX8_type 32 = .ok (.invokevirtual 72, 3) := by decide +kernel
theorem dX8_type_35 : decode cX8_type 35 = .ok (.ireturn, 1) := by decide +kernel
theorem dX8_type_36 : decode cX8_type 36 = .ok (.aload_n 0, 1) := by decide +kernel
theorem dX8_type_37 : decode cX8_type 37 = .ok (.getfield 47, 3) := by decide +kernel
theorem dX8_type_40 : decode cX8_type 40 = .ok (.iload_n 1, 1) := by decide +kernel
theorem dX8_type_41 : decode cX8_type 41 = .ok (.invokevirtual 204, 3) := by decide +kernel
theorem dX8_type_44 : decode cX8_type 44 = .ok (.ireturn, 1) := by decide +kernel
theorem dX8_clear_0 : decode cX8_clear 0 = .ok (.aload_n 0, 1) := by decide +kernel
theorem dX8_clear_1 : decode cX8_clear 1 = .ok (.getfield 47, 3) := by decide +kernel
theorem dX8_clear_4 : decode cX8_clear 4 = .ok (.getfield 203, 3) := by decide +kernel
theorem dX8_clear_7 : decode cX8_clear 7 = .ok (.istore_n 1, 1) := by decide +kernel
theorem dX8_clear_8 : decode cX8_clear 8 = .ok (.aload_n 0, 1) := by decide +kernel
theorem dX8_clear_9 : decode cX8_clear 9 = .ok (.getfield 47, 3) := by decide +kernel
theorem dX8_clear_12 : decode cX8_clear 12 = .ok (.iconst 0, 1) := by decide +kernel
theorem dX8_clear_13 : decode cX8_clear 13 = .ok (.putfield 203, 3) := by decide +kernel
theorem dX8_clear_16 : decode cX8_clear 16 = .ok (.iload_n 1, 1) := by decide +kernel
theorem dX8_clear_17 : decode cX8_clear 17 = .ok (.ireturn, 1) := by decide +kernel
theorem dX8_told_0 : decode cX8_told 0 = .ok (.aload_n 0, 1) := by decide +kernel
theorem dX8_told_1 : decode cX8_told 1 = .ok (.getfield 47, 3) := by decide +kernel
theorem dX8_told_4 : decode cX8_told 4 = .ok (.bipush 100, 2) := by decide +kernel
theorem dX8_told_6 : decode cX8_told 6 = .ok (.aload_n 0, 1) := by decide +kernel
theorem dX8_told_7 : decode cX8_told 7 = .ok (.getfield 12, 3) := by decide +kernel
theorem dX8_told_10 : decode cX8_told 10 = .ok (.getfield 107, 3) := by decide +kernel
theorem dX8_told_13 : decode cX8_told 13 = .ok (.isub, 1) := by decide +kernel
theorem dX8_told_14 : decode cX8_told 14 = .ok (.invokevirtual 207, 3) := by decide +kernel
theorem dX8_told_17 : decode cX8_told 17 = .ok (.aload_n 0, 1) := by decide +kernel
theorem dX8_told_18 : decode cX8_told 18 = .ok (.getfield 47, 3) := by decide +kernel
theorem dX8_told_21 : decode cX8_told 21 = .ok (.getfield 210, 3) := by decide +kernel
theorem dX8_told_24 : decode cX8_told 24 = .ok (.iconst (-1), 1) := by decide +kernel
theorem dX8_told_25 : decode cX8_told 25 = .ok (.if_icmp .eq 14, 3) := by decide +kernel
theorem dX8_told_28 : decode cX8_told 28 = .ok (.bipush (-10), 2) := by decide +kernel
theorem dX8_told_30 : decode cX8_told 30 = .ok (.aload_n 0, 1) := by decide +kernel
theorem dX8_told_31 : decode cX8_told 31 = .ok (.getfield 47, 3) := by decide +kernel
theorem dX8_told_34 : decode cX8_told 34 = .ok (.getfield 210, 3) := by decide +kernel
theorem dX8_told_37 : decode cX8_told 37 = .ok (.isub, 1) := by decide +kernel
theorem dX8_told_38 : decode cX8_told 38 = .ok (.ireturn, 1) := by decide +kernel
theorem dX8_told_39 : decode cX8_told 39 = .ok (.aload_n 0, 1) := by decide +kernel
theorem dX8_told_40 : decode cX8_told 40 = .ok (.getfield 54, 3) := by decide +kernel
theorem dX8_told_43 : decode cX8_told 43 = .ok (.aload_n 0, 1) := by decide +kernel
theorem dX8_told_44 : decode cX8_told 44 = .ok (.getfield 12, 3) := by decide +kernel
theorem dX8_told_47 : decode cX8_told 47 = .ok (.invokevirtual 80, 3) := by decide +kernel
theorem dX8_told_50 : decode cX8_told 50 = .ok (.iconst 0, 1) := by decide +kernel
theorem dX8_told_51 : decode cX8_told 51 = .ok (.istore_n 1, 1) := by decide +kernel
theorem dX8_told_52 : decode cX8_told 52 = .ok (.iload_n 1, 1) := by decide +kernel
theorem dX8_told_53 : decode cX8_told 53 = .ok (.aload_n 0, 1) := by decide +kernel
theorem dX8_told_54 : decode cX8_told 54 = .ok (.getfield 47, 3) := by decide +kernel
theorem dX8_told_57 : decode cX8_told 57 = .ok (.getfield 213, 3) := by decide +kernel
theorem dX8_told_60 : decode cX8_told 60 = .ok (.if_icmp .ge 26, 3) := by decide +kernel
theorem dX8_told_63 : decode cX8_told 63 = .ok (.aload_n 0, 1) := by decide +kernel
theorem dX8_told_64 : decode cX8_told 64 = .ok (.getfield 12, 3) := by decide +kernel
theorem dX8_told_67 : decode cX8_told 67 = .ok (.aload_n 0, 1) := by decide +kernel
theorem dX8_told_68 : decode cX8_told 68 = .ok (.getfield 47, 3) := by decide +kernel
theorem dX8_told_71 : decode cX8_told 71 = .ok (.getfield 216, 3) := by decide +kernel
theorem dX8_told_74 : decode cX8_told 74 = .ok (.iload_n 1, 1) := by decide +kernel
theorem dX8_told_75 : decode cX8_told 75 = .ok (.iaload, 1) := by decide +kernel
theorem dX8_told_76 : decode cX8_told 76 = .ok (.invokevirtual 84, 3) := by decide +kernel
theorem dX8_told_79 : decode cX8_told 79 = .ok (.pop, 1) := by decide +kernel
theorem dX8_told_80 : decode cX8_told 80 = .ok (.iinc 1 1, 3) := by decide +kernel
theorem dX8_told_83 : decode cX8_told 83 = .ok (.goto (-31), 3) := by decide +kernel
theorem dX8_told_86 : decode cX8_told 86 = .ok (.aload_n 0, 1) := by decide +kernel
theorem dX8_told_87 : decode cX8_told 87 = .ok (.getfield 47, 3) := by decide +kernel
theorem dX8_told_90 : decode cX8_told 90 = .ok (.getfield 213, 3) := by decide +kernel
theorem dX8_told_93 : decode cX8_told 93 = .ok (.ireturn, 1) := by decide +kernel
theorem dX8_back_0 : decode cX8_back 0 = .ok (.aload_n 0, 1) := by decide +kernel
theorem dX8_back_1 : decode cX8_back 1 = .ok (.getfield 54, 3) := by decide +kernel
theorem dX8_back_4 : decode cX8_back 4 = .ok (.getfield 217, 3) := by decide +kernel
theorem dX8_back_7 : decode cX8_back 7 = .ok (.iconst 1, 1) := by decide +kernel
theorem dX8_back_8 : decode cX8_back 8 = .ok (.if_icmp .ge 10, 3) := by decide +kernel
theorem dX8_back_11 : decode cX8_back 11 = .ok (.aload_n 0, 1) := by decide +kernel
theorem dX8_back_12 : decode cX8_back 12 = .ok (.bipush (-3), 2) := by decide +kernel
theorem dX8_back_14 : decode cX8_back 14 = .ok (.invokevirtual 72, 3) := by decide +kernel
theorem dX8_back_17 : decode cX8_back 17 = .ok (.ireturn, 1) := by decide +kernel
theorem dX8_back_18 : decode cX8_back 18 = .ok (.aload_n 0, 1) := by decide +kernel
theorem dX8_back_19 : decode cX8_back 19 = .ok (.getfield 54, 3) := by decide +kernel
theorem dX8_back_22 : decode cX8_back 22 = .ok (.invokevirtual 220, 3) := by decide +kernel
theorem dX8_back_25 : decode cX8_back 25 = .ok (.astore_n 1, 1) := by decide +kernel
theorem dX8_back_26 : decode cX8_back 26 = .ok (.aload_n 1, 1) := by decide +kernel
theorem dX8_back_27 : decode cX8_back 27 = .ok (.aload_n 0, 1) := by decide +kernel
theorem dX8_back_28 : decode cX8_back 28 = .ok (.getfield 12, 3) := by decide +kernel
theorem dX8_back_31 : decode cX8_back 31 = .ok (.invokevirtual 224, 3) := by decide +kernel
theorem dX8_back_34 : decode cX8_back 34 = .ok (.aload_n 0, 1) := by decide +kernel
theorem dX8_back_35 : decode cX8_back 35 = .ok (.getfield 12, 3) := by decide +kernel
theorem dX8_back_38 : decode cX8_back 38 = .ok (.aload_n 1, 1) := by decide +kernel
theorem dX8_back_39 : decode cX8_back 39 = .ok (.getfield 229, 3) := by decide +kernel
theorem dX8_back_42 : decode cX8_back 42 = .ok (.aload_n 1, 1) := by decide +kernel
theorem dX8_back_43 : decode cX8_back 43 = .ok (.getfield 230, 3) := by decide +kernel
theorem dX8_back_46 : decode cX8_back 46 = .ok (.aload_n 1, 1) := by decide +kernel
theorem dX8_back_47 : decode cX8_back 47 = .ok (.getfield 231, 3) := by decide +kernel
theorem dX8_back_50 : decode cX8_back 50 = .ok (.invokevirtual 110, 3) := by decide +kernel
theorem dX8_back_53 : decode cX8_back 53 = .ok (.aload_n 0, 1) := by decide +kernel
theorem dX8_back_54 : decode cX8_back 54 = .ok (.getfield 54, 3) := by decide +kernel
theorem dX8_back_57 : decode cX8_back 57 = .ok (.getfield 217, 3) := by decide +kernel
theorem dX8_back_60 : decode cX8_back 60 = .ok (.ireturn, 1) := by decide +kernel
theorem dX8_count_0 : decode cX8_count 0 = .ok (.iload_n 1, 1) := by decide +kernel
theorem dX8_count_1 : decode cX8_count 1 = .ok (.tableswitch 108 0 7 #[47, 52, 57, 62, 70, 78, 89, 100], 47) := by decide +kernel
theorem dX8_count_48 : decode cX8_count 48 = .ok (.aload_n 0, 1) := by decide +kernel
theorem dX8_count_49 : decode cX8_count 49 = .ok (.getfield 58, 3) := by decide +kernel
theorem dX8_count_52 : decode cX8_count 52 = .ok (.ireturn, 1) := by decide +kernel
theorem dX8_count_53 : decode cX8_count 53 = .ok (.aload_n 0, 1) := by decide +kernel
theorem dX8_count_54 : decode cX8_count 54 = .ok (.getfield 62, 3) := by decide +kernel
theorem dX8_count_57 : decode cX8_count 57 = .ok (.ireturn, 1) := by decide +kernel
theorem dX8_count_58 : decode cX8_count 58 = .ok (.aload_n 0, 1) := by decide +kernel
theorem dX8_count_59 : decode cX8_count 59 = .ok (.getfield 65, 3) := by decide +kernel
theorem dX8_count_62 : decode cX8_count 62 = .ok (.ireturn, 1) := by decide +kernel
theorem dX8_count_63 : decode cX8_count 63 = .ok (.aload_n 0, 1) := by decide +kernel
theorem dX8_count_64 : decode cX8_count 64 = .ok (.getfield 47, 3) := by decide +kernel
theorem dX8_count_67 : decode cX8_count 67 = .ok (.getfield 203, 3) := by decide +kernel
theorem dX8_count_70 : decode cX8_count 70 = .ok (.ireturn, 1) := by decide +kernel
theorem dX8_count_71 : decode cX8_count 71 = .ok (.aload_n 0, 1) := by decide +kernel
theorem dX8_count_72 : decode cX8_count 72 = .ok (.getfield 12, 3) := by decide +kernel
theorem dX8_count_75 : decode cX8_count 75 = .ok (.getfield 107, 3) := by decide +kernel
theorem dX8_count_78 : decode cX8_count 78 = .ok (.ireturn, 1) := by decide +kernel
theorem dX8_count_79 : decode cX8_count 79 = .ok (.aload_n 0, 1) := by decide +kernel
theorem dX8_count_80 : decode cX8_count 80 = .ok (.getfield 12, 3) := by decide +kernel
theorem dX8_count_83 : decode cX8_count 83 = .ok (.getfield 98, 3) := by decide +kernel
theorem dX8_count_86 : decode cX8_count 86 = .ok (.getfield 101, 3) := by decide +kernel
theorem dX8_count_89 : decode cX8_count 89 = .ok (.ireturn, 1) := by decide +kernel
theorem dX8_count_90 : decode cX8_count 90 = .ok (.aload_n 0, 1) := by decide +kernel
theorem dX8_count_91 : decode cX8_count 91 = .ok (.getfield 12, 3) := by decide +kernel
theorem dX8_count_94 : decode cX8_count 94 = .ok (.getfield 98, 3) := by decide +kernel
theorem dX8_count_97 : decode cX8_count 97 = .ok (.getfield 104, 3) := by decide +kernel
theorem dX8_count_100 : decode cX8_count 100 = .ok (.ireturn, 1) := by decide +kernel
theorem dX8_count_101 : decode cX8_count 101 = .ok (.aload_n 0, 1) := by decide +kernel
theorem dX8_count_102 : decode cX8_count 102 = .ok (.getfield 54, 3) := by decide +kernel
theorem dX8_count_105 : decode cX8_count 105 = .ok (.getfield 217, 3) := by decide +kernel
theorem dX8_count_108 : decode cX8_count 108 = .ok (.ireturn, 1) := by decide +kernel
theorem dX8_count_109 : decode cX8_count 109 = .ok (.aload_n 0, 1) := by decide +kernel
theorem dX8_count_110 : decode cX8_count 110 = .ok (.bipush (-2), 2) := by decide +kernel
theorem dX8_count_112 : decode cX8_count 112 = .ok (.invokevirtual 72, 3) := by decide +kernel
theorem dX8_count_115 : decode cX8_count 115 = .ok (.ireturn, 1) := by decide +kernel
theorem dX8_digest_0 : decode cX8_digest 0 = .ok (.ldc2_w 232, 3) := by decide +kernel
theorem dX8_digest_3 : decode cX8_digest 3 = .ok (.lstore_n 1, 1) := by decide +kernel
theorem dX8_digest_4 : decode cX8_digest 4 = .ok (.iconst 0, 1) := by decide +kernel
theorem dX8_digest_5 : decode cX8_digest 5 = .ok (.istore_n 3, 1) := by decide +kernel
theorem dX8_digest_6 : decode cX8_digest 6 = .ok (.iload_n 3, 1) := by decide +kernel
theorem dX8_digest_7 : decode cX8_digest 7 = .ok (.bipush 7, 2) := by decide +kernel
theorem dX8_digest_9 : decode cX8_digest 9 = .ok (.if_icmp .gt 22, 3) := by decide +kernel
theorem dX8_digest_12 : decode cX8_digest 12 = .ok (.ldc2_w 234, 3) := by decide +kernel
theorem dX8_digest_15 : decode cX8_digest 15 = .ok (.lload_n 1, 1) := by decide +kernel
theorem dX8_digest_16 : decode cX8_digest 16 = .ok (.lmul, 1) := by decide +kernel
theorem dX8_digest_17 : decode cX8_digest 17 = .ok (.aload_n 0, 1) := by decide +kernel
theorem dX8_digest_18 : decode cX8_digest 18 = .ok (.iload_n 3, 1) := by decide +kernel
theorem dX8_digest_19 : decode cX8_digest 19 = .ok (.invokevirtual 236, 3) := by decide +kernel
theorem dX8_digest_22 : decode cX8_digest 22 = .ok (.i2l, 1) := by decide +kernel
theorem dX8_digest_23 : decode cX8_digest 23 = .ok (.ladd, 1) := by decide +kernel
theorem dX8_digest_24 : decode cX8_digest 24 = .ok (.lstore_n 1, 1) := by decide +kernel
theorem dX8_digest_25 : decode cX8_digest 25 = .ok (.iinc 3 1, 3) := by decide +kernel
theorem dX8_digest_28 : decode cX8_digest 28 = .ok (.goto (-22), 3) := by decide +kernel
theorem dX8_digest_31 : decode cX8_digest 31 = .ok (.iconst 0, 1) := by decide +kernel
theorem dX8_digest_32 : decode cX8_digest 32 = .ok (.istore_n 3, 1) := by decide +kernel
theorem dX8_digest_33 : decode cX8_digest 33 = .ok (.iload_n 3, 1) := by decide +kernel
theorem dX8_digest_34 : decode cX8_digest 34 = .ok (.aload_n 0, 1) := by decide +kernel
theorem dX8_digest_35 : decode cX8_digest 35 = .ok (.getfield 12, 3) := by decide +kernel
theorem dX8_digest_38 : decode cX8_digest 38 = .ok (.getfield 107, 3) := by decide +kernel
theorem dX8_digest_41 : decode cX8_digest 41 = .ok (.if_icmp .ge 26, 3) := by decide +kernel
theorem dX8_digest_44 : decode cX8_digest 44 = .ok (.ldc2_w 234, 3) := by decide +kernel
theorem dX8_digest_47 : decode cX8_digest 47 = .ok (.lload_n 1, 1) := by decide +kernel
theorem dX8_digest_48 : decode cX8_digest 48 = .ok (.lmul, 1) := by decide +kernel
theorem dX8_digest_49 : decode cX8_digest 49 = .ok (.aload_n 0, 1) := by decide +kernel
theorem dX8_digest_50 : decode cX8_digest 50 = .ok (.getfield 12, 3) := by decide +kernel
theorem dX8_digest_53 : decode cX8_digest 53 = .ok (.getfield 117, 3) := by decide +kernel
theorem dX8_digest_56 : decode cX8_digest 56 = .ok (.iload_n 3, 1) := by decide +kernel
theorem dX8_digest_57 : decode cX8_digest 57 = .ok (.iaload, 1) := by decide +kernel
theorem dX8_digest_58 : decode cX8_digest 58 = .ok (.i2l, 1) := by decide +kernel
theorem dX8_digest_59 : decode cX8_digest 59 = .ok (.ladd, 1) := by decide +kernel
theorem dX8_digest_60 : decode cX8_digest 60 = .ok (.lstore_n 1, 1) := by decide +kernel
theorem dX8_digest_61 : decode cX8_digest 61 = .ok (.iinc 3 1, 3) := by decide +kernel
theorem dX8_digest_64 : decode cX8_digest 64 = .ok (.goto (-31), 3) := by decide +kernel
theorem dX8_digest_67 : decode cX8_digest 67 = .ok (.ldc2_w 234, 3) := by decide +kernel
theorem dX8_digest_70 : decode cX8_digest 70 = .ok (.lload_n 1, 1) := by decide +kernel
theorem dX8_digest_71 : decode cX8_digest 71 = .ok (.lmul, 1) := by decide +kernel
theorem dX8_digest_72 : decode cX8_digest 72 = .ok (.aload_n 0, 1) := by decide +kernel
theorem dX8_digest_73 : decode cX8_digest 73 = .ok (.invokevirtual 239, 3) := by decide +kernel
theorem dX8_digest_76 : decode cX8_digest 76 = .ok (.i2l, 1) := by decide +kernel
theorem dX8_digest_77 : decode cX8_digest 77 = .ok (.ladd, 1) := by decide +kernel
theorem dX8_digest_78 : decode cX8_digest 78 = .ok (.lstore_n 1, 1) := by decide +kernel
theorem dX8_digest_79 : decode cX8_digest 79 = .ok (.ldc2_w 234, 3) := by decide +kernel
theorem dX8_digest_82 : decode cX8_digest 82 = .ok (.lload_n 1, 1) := by decide +kernel
theorem dX8_digest_83 : decode cX8_digest 83 = .ok (.lmul, 1) := by decide +kernel
theorem dX8_digest_84 : decode cX8_digest 84 = .ok (.aload_n 0, 1) := by decide +kernel
theorem dX8_digest_85 : decode cX8_digest 85 = .ok (.invokevirtual 242, 3) := by decide +kernel
theorem dX8_digest_88 : decode cX8_digest 88 = .ok (.i2l, 1) := by decide +kernel
theorem dX8_digest_89 : decode cX8_digest 89 = .ok (.ladd, 1) := by decide +kernel
theorem dX8_digest_90 : decode cX8_digest 90 = .ok (.lstore_n 1, 1) := by decide +kernel
theorem dX8_digest_91 : decode cX8_digest 91 = .ok (.ldc2_w 234, 3) := by decide +kernel
theorem dX8_digest_94 : decode cX8_digest 94 = .ok (.lload_n 1, 1) := by decide +kernel
theorem dX8_digest_95 : decode cX8_digest 95 = .ok (.lmul, 1) := by decide +kernel
theorem dX8_digest_96 : decode cX8_digest 96 = .ok (.aload_n 0, 1) := by decide +kernel
theorem dX8_digest_97 : decode cX8_digest 97 = .ok (.iconst 0, 1) := by decide +kernel
theorem dX8_digest_98 : decode cX8_digest 98 = .ok (.invokevirtual 245, 3) := by decide +kernel
theorem dX8_digest_101 : decode cX8_digest 101 = .ok (.i2l, 1) := by decide +kernel
theorem dX8_digest_102 : decode cX8_digest 102 = .ok (.ladd, 1) := by decide +kernel
theorem dX8_digest_103 : decode cX8_digest 103 = .ok (.lstore_n 1, 1) := by decide +kernel
theorem dX8_digest_104 : decode cX8_digest 104 = .ok (.aload_n 0, 1) := by decide +kernel
theorem dX8_digest_105 : decode cX8_digest 105 = .ok (.getfield 40, 3) := by decide +kernel
theorem dX8_digest_108 : decode cX8_digest 108 = .ok (.aload_n 0, 1) := by decide +kernel
theorem dX8_digest_109 : decode cX8_digest 109 = .ok (.getfield 12, 3) := by decide +kernel
theorem dX8_digest_112 : decode cX8_digest 112 = .ok (.invokevirtual 188, 3) := by decide +kernel
theorem dX8_digest_115 : decode cX8_digest 115 = .ok (.iconst 0, 1) := by decide +kernel
theorem dX8_digest_116 : decode cX8_digest 116 = .ok (.istore_n 3, 1) := by decide +kernel
theorem dX8_digest_117 : decode cX8_digest 117 = .ok (.iload_n 3, 1) := by decide +kernel
theorem dX8_digest_118 : decode cX8_digest 118 = .ok (.aload_n 0, 1) := by decide +kernel
theorem dX8_digest_119 : decode cX8_digest 119 = .ok (.getfield 40, 3) := by decide +kernel
theorem dX8_digest_122 : decode cX8_digest 122 = .ok (.getfield 191, 3) := by decide +kernel
theorem dX8_digest_125 : decode cX8_digest 125 = .ok (.if_icmp .ge 25, 3) := by decide +kernel
theorem dX8_digest_128 : decode cX8_digest 128 = .ok (.ldc2_w 234, 3) := by decide +kernel
theorem dX8_digest_131 : decode cX8_digest 131 = .ok (.lload_n 1, 1) := by decide +kernel
theorem dX8_digest_132 : decode cX8_digest 132 = .ok (.lmul, 1) := by decide +kernel
theorem dX8_digest_133 : decode cX8_digest 133 = .ok (.aload_n 0, 1) := by decide +kernel
theorem dX8_digest_134 : decode cX8_digest 134 = .ok (.getfield 40, 3) := by decide +kernel
theorem dX8_digest_137 : decode cX8_digest 137 = .ok (.iload_n 3, 1) := by decide +kernel
theorem dX8_digest_138 : decode cX8_digest 138 = .ok (.invokevirtual 192, 3) := by decide +kernel
theorem dX8_digest_141 : decode cX8_digest 141 = .ok (.i2l, 1) := by decide +kernel
theorem dX8_digest_142 : decode cX8_digest 142 = .ok (.ladd, 1) := by decide +kernel
theorem dX8_digest_143 : decode cX8_digest 143 = .ok (.lstore_n 1, 1) := by decide +kernel
theorem dX8_digest_144 : decode cX8_digest 144 = .ok (.iinc 3 1, 3) := by decide +kernel
theorem dX8_digest_147 : decode cX8_digest 147 = .ok (.goto (-30), 3) := by decide +kernel
theorem dX8_digest_150 : decode cX8_digest 150 = .ok (.lload_n 1, 1) := by decide +kernel
theorem dX8_digest_151 : decode cX8_digest 151 = .ok (.lreturn, 1) := by decide +kernel
theorem dX8_refuse_0 : decode cX8_refuse 0 = .ok (.iload_n 1, 1) := by decide +kernel
theorem dX8_refuse_1 : decode cX8_refuse 1 = .ok (.bipush (-2), 2) := by decide +kernel
theorem dX8_refuse_3 : decode cX8_refuse 3 = .ok (.if_icmp .ne 16, 3) := by decide +kernel
theorem dX8_refuse_6 : decode cX8_refuse 6 = .ok (.aload_n 0, 1) := by decide +kernel
theorem dX8_refuse_7 : decode cX8_refuse 7 = .ok (.dup, 1) := by decide +kernel
theorem dX8_refuse_8 : decode cX8_refuse 8 = .ok (.getfield 58, 3) := by decide +kernel
theorem dX8_refuse_11 : decode cX8_refuse 11 = .ok (.iconst 1, 1) := by decide +kernel
theorem dX8_refuse_12 : decode cX8_refuse 12 = .ok (.iadd, 1) := by decide +kernel
theorem dX8_refuse_13 : decode cX8_refuse 13 = .ok (.putfield 58, 3) := by decide +kernel
theorem dX8_refuse_16 : decode cX8_refuse 16 = .ok (.goto 32, 3) := by decide +kernel
theorem dX8_refuse_19 : decode cX8_refuse 19 = .ok (.iload_n 1, 1) := by decide +kernel
theorem dX8_refuse_20 : decode cX8_refuse 20 = .ok (.bipush (-3), 2) := by decide +kernel
theorem dX8_refuse_22 : decode cX8_refuse 22 = .ok (.if_icmp .ne 16, 3) := by decide +kernel
theorem dX8_refuse_25 : decode cX8_refuse 25 = .ok (.aload_n 0, 1) := by decide +kernel
theorem dX8_refuse_26 : decode cX8_refuse 26 = .ok (.dup, 1) := by decide +kernel
theorem dX8_refuse_27 : decode cX8_refuse 27 = .ok (.getfield 62, 3) := by decide +kernel
theorem dX8_refuse_30 : decode cX8_refuse 30 = .ok (.iconst 1, 1) := by decide +kernel
theorem dX8_refuse_31 : decode cX8_refuse 31 = .ok (.iadd, 1) := by decide +kernel
theorem dX8_refuse_32 : decode cX8_refuse 32 = .ok (.putfield 62, 3) := by decide +kernel
theorem dX8_refuse_35 : decode cX8_refuse 35 = .ok (.goto 13, 3) := by decide +kernel
theorem dX8_refuse_38 : decode cX8_refuse 38 = .ok (.aload_n 0, 1) := by decide +kernel
theorem dX8_refuse_39 : decode cX8_refuse 39 = .ok (.dup, 1) := by decide +kernel
theorem dX8_refuse_40 : decode cX8_refuse 40 = .ok (.getfield 65, 3) := by decide +kernel
theorem dX8_refuse_43 : decode cX8_refuse 43 = .ok (.iconst 1, 1) := by decide +kernel
theorem dX8_refuse_44 : decode cX8_refuse 44 = .ok (.iadd, 1) := by decide +kernel
theorem dX8_refuse_45 : decode cX8_refuse 45 = .ok (.putfield 65, 3) := by decide +kernel
theorem dX8_refuse_48 : decode cX8_refuse 48 = .ok (.iload_n 1, 1) := by decide +kernel
theorem dX8_refuse_49 : decode cX8_refuse 49 = .ok (.ireturn, 1) := by decide +kernel
theorem dX8_hasRoom_0 : decode cX8_hasRoom 0 = .ok (.aload_n 0, 1) := by decide +kernel
theorem dX8_hasRoom_1 : decode cX8_hasRoom 1 = .ok (.getfield 12, 3) := by decide +kernel
theorem dX8_hasRoom_4 : decode cX8_hasRoom 4 = .ok (.getfield 107, 3) := by decide +kernel
theorem dX8_hasRoom_7 : decode cX8_hasRoom 7 = .ok (.iload_n 1, 1) := by decide +kernel
theorem dX8_hasRoom_8 : decode cX8_hasRoom 8 = .ok (.iadd, 1) := by decide +kernel
theorem dX8_hasRoom_9 : decode cX8_hasRoom 9 = .ok (.bipush 100, 2) := by decide +kernel
theorem dX8_hasRoom_11 : decode cX8_hasRoom 11 = .ok (.if_icmp .gt 7, 3) := by decide +kernel
theorem dX8_hasRoom_14 : decode cX8_hasRoom 14 = .ok (.iconst 1, 1) := by decide +kernel
theorem dX8_hasRoom_15 : decode cX8_hasRoom 15 = .ok (.goto 4, 3) := by decide +kernel
theorem dX8_hasRoom_18 : decode cX8_hasRoom 18 = .ok (.iconst 0, 1) := by decide +kernel
theorem dX8_hasRoom_19 : decode cX8_hasRoom 19 = .ok (.ireturn, 1) := by decide +kernel
theorem dX8_within_0 : decode cX8_within 0 = .ok (.iload_n 0, 1) := by decide +kernel
theorem dX8_within_1 : decode cX8_within 1 = .ok (.iload_n 1, 1) := by decide +kernel
theorem dX8_within_2 : decode cX8_within 2 = .ok (.if_icmp .lt 12, 3) := by decide +kernel
theorem dX8_within_5 : decode cX8_within 5 = .ok (.iload_n 0, 1) := by decide +kernel
theorem dX8_within_6 : decode cX8_within 6 = .ok (.iload_n 2, 1) := by decide +kernel
theorem dX8_within_7 : decode cX8_within 7 = .ok (.if_icmp .gt 7, 3) := by decide +kernel
theorem dX8_within_10 : decode cX8_within 10 = .ok (.iconst 1, 1) := by decide +kernel
theorem dX8_within_11 : decode cX8_within 11 = .ok (.goto 4, 3) := by decide +kernel
theorem dX8_within_14 : decode cX8_within 14 = .ok (.iconst 0, 1) := by decide +kernel
theorem dX8_within_15 : decode cX8_within 15 = .ok (.ireturn, 1) := by decide +kernel
theorem dX8_kept_0 : decode cX8_kept 0 = .ok (.lload_n 0, 1) := by decide +kernel
theorem dX8_kept_1 : decode cX8_kept 1 = .ok (.iload_n 2, 1) := by decide +kernel
theorem dX8_kept_2 : decode cX8_kept 2 = .ok (.i2l, 1) := by decide +kernel
theorem dX8_kept_3 : decode cX8_kept 3 = .ok (.lcmp, 1) := by decide +kernel
theorem dX8_kept_4 : decode cX8_kept 4 = .ok (.ifCond .ge 7, 3) := by decide +kernel
theorem dX8_kept_7 : decode cX8_kept 7 = .ok (.iload_n 2, 1) := by decide +kernel
theorem dX8_kept_8 : decode cX8_kept 8 = .ok (.goto 16, 3) := by decide +kernel
theorem dX8_kept_11 : decode cX8_kept 11 = .ok (.lload_n 0, 1) := by decide +kernel
theorem dX8_kept_12 : decode cX8_kept 12 = .ok (.iload_n 3, 1) := by decide +kernel
theorem dX8_kept_13 : decode cX8_kept 13 = .ok (.i2l, 1) := by decide +kernel
theorem dX8_kept_14 : decode cX8_kept 14 = .ok (.lcmp, 1) := by decide +kernel
theorem dX8_kept_15 : decode cX8_kept 15 = .ok (.ifCond .le 7, 3) := by decide +kernel
theorem dX8_kept_18 : decode cX8_kept 18 = .ok (.iload_n 3, 1) := by decide +kernel
theorem dX8_kept_19 : decode cX8_kept 19 = .ok (.goto 5, 3) := by decide +kernel
theorem dX8_kept_22 : decode cX8_kept 22 = .ok (.lload_n 0, 1) := by decide +kernel
theorem dX8_kept_23 : decode cX8_kept 23 = .ok (.l2i, 1) := by decide +kernel
theorem dX8_kept_24 : decode cX8_kept 24 = .ok (.ireturn, 1) := by decide +kernel
theorem dX8_nodeOf_0 : decode cX8_nodeOf 0 = .ok (.iconst 1, 1) := by decide +kernel
theorem dX8_nodeOf_1 : decode cX8_nodeOf 1 = .ok (.iload_n 0, 1) := by decide +kernel
theorem dX8_nodeOf_2 : decode cX8_nodeOf 2 = .ok (.i2l, 1) := by decide +kernel
theorem dX8_nodeOf_3 : decode cX8_nodeOf 3 = .ok (.iconst 0, 1) := by decide +kernel
theorem dX8_nodeOf_4 : decode cX8_nodeOf 4 = .ok (.bipush 6, 2) := by decide +kernel
theorem dX8_nodeOf_6 : decode cX8_nodeOf 6 = .ok (.invokestatic 248, 3) := by decide +kernel
theorem dX8_nodeOf_9 : decode cX8_nodeOf 9 = .ok (.ishl, 1) := by decide +kernel
theorem dX8_nodeOf_10 : decode cX8_nodeOf 10 = .ok (.istore_n 2, 1) := by decide +kernel
theorem dX8_nodeOf_11 : decode cX8_nodeOf 11 = .ok (.iload_n 2, 1) := by decide +kernel
theorem dX8_nodeOf_12 : decode cX8_nodeOf 12 = .ok (.iload_n 1, 1) := by decide +kernel
theorem dX8_nodeOf_13 : decode cX8_nodeOf 13 = .ok (.iload_n 2, 1) := by decide +kernel
theorem dX8_nodeOf_14 : decode cX8_nodeOf 14 = .ok (.iconst 1, 1) := by decide +kernel
theorem dX8_nodeOf_15 : decode cX8_nodeOf 15 = .ok (.isub, 1) := by decide +kernel
theorem dX8_nodeOf_16 : decode cX8_nodeOf 16 = .ok (.iand, 1) := by decide +kernel
theorem dX8_nodeOf_17 : decode cX8_nodeOf 17 = .ok (.ior, 1) := by decide +kernel
theorem dX8_nodeOf_18 : decode cX8_nodeOf 18 = .ok (.ireturn, 1) := by decide +kernel
theorem dX8_quotient_0 : decode cX8_quotient 0 = .ok (.lload_n 2, 1) := by decide +kernel
theorem dX8_quotient_1 : decode cX8_quotient 1 = .ok (.lconst 1, 1) := by decide +kernel
theorem dX8_quotient_2 : decode cX8_quotient 2 = .ok (.lcmp, 1) := by decide +kernel
theorem dX8_quotient_3 : decode cX8_quotient 3 = .ok (.ifCond .ge 7, 3) := by decide +kernel
theorem dX8_quotient_6 : decode cX8_quotient 6 = .ok (.lconst 0, 1) := by decide +kernel
theorem dX8_quotient_7 : decode cX8_quotient 7 = .ok (.goto 6, 3) := by decide +kernel
theorem dX8_quotient_10 : decode cX8_quotient 10 = .ok (.lload_n 0, 1) := by decide +kernel
theorem dX8_quotient_11 : decode cX8_quotient 11 = .ok (.lload_n 2, 1) := by decide +kernel
theorem dX8_quotient_12 : decode cX8_quotient 12 = .ok (.ldiv, 1) := by decide +kernel
theorem dX8_quotient_13 : decode cX8_quotient 13 = .ok (.lreturn, 1) := by decide +kernel
theorem dX8_opinion_0 : decode cX8_opinion 0 = .ok (.iconst 2, 1) := by decide +kernel
theorem dX8_opinion_1 : decode cX8_opinion 1 = .ok (.iload_n 2, 1) := by decide +kernel
theorem dX8_opinion_2 : decode cX8_opinion 2 = .ok (.imul, 1) := by decide +kernel
theorem dX8_opinion_3 : decode cX8_opinion 3 = .ok (.iconst 1, 1) := by decide +kernel
theorem dX8_opinion_4 : decode cX8_opinion 4 = .ok (.iadd, 1) := by decide +kernel
theorem dX8_opinion_5 : decode cX8_opinion 5 = .ok (.i2l, 1) := by decide +kernel
theorem dX8_opinion_6 : decode cX8_opinion 6 = .ok (.lstore_n 3, 1) := by decide +kernel
theorem dX8_opinion_7 : decode cX8_opinion 7 = .ok (.iconst 2, 1) := by decide +kernel
theorem dX8_opinion_8 : decode cX8_opinion 8 = .ok (.iload_n 1, 1) := by decide +kernel
theorem dX8_opinion_9 : decode cX8_opinion 9 = .ok (.imul, 1) := by decide +kernel
theorem dX8_opinion_10 : decode cX8_opinion 10 = .ok (.iconst 2, 1) := by decide +kernel
theorem dX8_opinion_11 : decode cX8_opinion 11 = .ok (.iload_n 2, 1) := by decide +kernel
theorem dX8_opinion_12 : decode cX8_opinion 12 = .ok (.imul, 1) := by decide +kernel
theorem dX8_opinion_13 : decode cX8_opinion 13 = .ok (.iadd, 1) := by decide +kernel
theorem dX8_opinion_14 : decode cX8_opinion 14 = .ok (.iconst 2, 1) := by decide +kernel
theorem dX8_opinion_15 : decode cX8_opinion 15 = .ok (.iadd, 1) := by decide +kernel
theorem dX8_opinion_16 : decode cX8_opinion 16 = .ok (.i2l, 1) := by decide +kernel
theorem dX8_opinion_17 : decode cX8_opinion 17 = .ok (.lstore 5, 2) := by decide +kernel
theorem dX8_opinion_19 : decode cX8_opinion 19 = .ok (.iload_n 0, 1) := by decide +kernel
theorem dX8_opinion_20 : decode cX8_opinion 20 = .ok (.iconst 1, 1) := by decide +kernel
theorem dX8_opinion_21 : decode cX8_opinion 21 = .ok (.if_icmp .ne 19, 3) := by decide +kernel
theorem dX8_opinion_24 : decode cX8_opinion 24 = .ok (.iload_n 2, 1) := by decide +kernel
theorem dX8_opinion_25 : decode cX8_opinion 25 = .ok (.iconst 1, 1) := by decide +kernel
theorem dX8_opinion_26 : decode cX8_opinion 26 = .ok (.iadd, 1) := by decide +kernel
theorem dX8_opinion_27 : decode cX8_opinion 27 = .ok (.i2l, 1) := by decide +kernel
theorem dX8_opinion_28 : decode cX8_opinion 28 = .ok (.lstore_n 3, 1) := by decide +kernel
theorem dX8_opinion_29 : decode cX8_opinion 29 = .ok (.iload_n 1, 1) := by decide +kernel
theorem dX8_opinion_30 : decode cX8_opinion 30 = .ok (.iload_n 2, 1) := by decide +kernel
theorem dX8_opinion_31 : decode cX8_opinion 31 = .ok (.iadd, 1) := by decide +kernel
theorem dX8_opinion_32 : decode cX8_opinion 32 = .ok (.iconst 2, 1) := by decide +kernel
theorem dX8_opinion_33 : decode cX8_opinion 33 = .ok (.iadd, 1) := by decide +kernel
theorem dX8_opinion_34 : decode cX8_opinion 34 = .ok (.i2l, 1) := by decide +kernel
theorem dX8_opinion_35 : decode cX8_opinion 35 = .ok (.lstore 5, 2) := by decide +kernel
theorem dX8_opinion_37 : decode cX8_opinion 37 = .ok (.goto 60, 3) := by decide +kernel
theorem dX8_opinion_40 : decode cX8_opinion 40 = .ok (.iload_n 0, 1) := by decide +kernel
theorem dX8_opinion_41 : decode cX8_opinion 41 = .ok (.iconst 2, 1) := by decide +kernel
theorem dX8_opinion_42 : decode cX8_opinion 42 = .ok (.if_icmp .ne 25, 3) := by decide +kernel
theorem dX8_opinion_45 : decode cX8_opinion 45 = .ok (.iconst 4, 1) := by decide +kernel
theorem dX8_opinion_46 : decode cX8_opinion 46 = .ok (.iload_n 2, 1) := by decide +kernel
theorem dX8_opinion_47 : decode cX8_opinion 47 = .ok (.imul, 1) := by decide +kernel
theorem dX8_opinion_48 : decode cX8_opinion 48 = .ok (.iconst 1, 1) := by decide +kernel
theorem dX8_opinion_49 : decode cX8_opinion 49 = .ok (.iadd, 1) := by decide +kernel
theorem dX8_opinion_50 : decode cX8_opinion 50 = .ok (.i2l, 1) := by decide +kernel
theorem dX8_opinion_51 : decode cX8_opinion 51 = .ok (.lstore_n 3, 1) := by decide +kernel
theorem dX8_opinion_52 : decode cX8_opinion 52 = .ok (.iconst 4, 1) := by decide +kernel
theorem dX8_opinion_53 : decode cX8_opinion 53 = .ok (.iload_n 1, 1) := by decide +kernel
theorem dX8_opinion_54 : decode cX8_opinion 54 = .ok (.imul, 1) := by decide +kernel
theorem dX8_opinion_55 : decode cX8_opinion 55 = .ok (.iconst 4, 1) := by decide +kernel
theorem dX8_opinion_56 : decode cX8_opinion 56 = .ok (.iload_n 2, 1) := by decide +kernel
theorem dX8_opinion_57 : decode cX8_opinion 57 = .ok (.imul, 1) := by decide +kernel
theorem dX8_opinion_58 : decode cX8_opinion 58 = .ok (.iadd, 1) := by decide +kernel
theorem dX8_opinion_59 : decode cX8_opinion 59 = .ok (.iconst 2, 1) := by decide +kernel
theorem dX8_opinion_60 : decode cX8_opinion 60 = .ok (.iadd, 1) := by decide +kernel
theorem dX8_opinion_61 : decode cX8_opinion 61 = .ok (.i2l, 1) := by decide +kernel
theorem dX8_opinion_62 : decode cX8_opinion 62 = .ok (.lstore 5, 2) := by decide +kernel
theorem dX8_opinion_64 : decode cX8_opinion 64 = .ok (.goto 33, 3) := by decide +kernel
theorem dX8_opinion_67 : decode cX8_opinion 67 = .ok (.iload_n 0, 1) := by decide +kernel
theorem dX8_opinion_68 : decode cX8_opinion 68 = .ok (.iconst 3, 1) := by decide +kernel
theorem dX8_opinion_69 : decode cX8_opinion 69 = .ok (.if_icmp .ne 28, 3) := by decide +kernel
theorem dX8_opinion_72 : decode cX8_opinion 72 = .ok (.iconst 2, 1) := by decide +kernel
theorem dX8_opinion_73 : decode cX8_opinion 73 = .ok (.iload_n 2, 1) := by decide +kernel
theorem dX8_opinion_74 : decode cX8_opinion 74 = .ok (.iconst 2, 1) := by decide +kernel
theorem dX8_opinion_75 : decode cX8_opinion 75 = .ok (.idiv, 1) := by decide +kernel
theorem dX8_opinion_76 : decode cX8_opinion 76 = .ok (.imul, 1) := by decide +kernel
theorem dX8_opinion_77 : decode cX8_opinion 77 = .ok (.iconst 1, 1) := by decide +kernel
theorem dX8_opinion_78 : decode cX8_opinion 78 = .ok (.iadd, 1) := by decide +kernel
theorem dX8_opinion_79 : decode cX8_opinion 79 = .ok (.i2l, 1) := by decide +kernel
theorem dX8_opinion_80 : decode cX8_opinion 80 = .ok (.lstore_n 3, 1) := by decide +kernel
theorem dX8_opinion_81 : decode cX8_opinion 81 = .ok (.iconst 2, 1) := by decide +kernel
theorem dX8_opinion_82 : decode cX8_opinion 82 = .ok (.iload_n 1, 1) := by decide +kernel
theorem dX8_opinion_83 : decode cX8_opinion 83 = .ok (.iconst 2, 1) := by decide +kernel
theorem dX8_opinion_84 : decode cX8_opinion 84 = .ok (.idiv, 1) := by decide +kernel
theorem dX8_opinion_85 : decode cX8_opinion 85 = .ok (.imul, 1) := by decide +kernel
theorem dX8_opinion_86 : decode cX8_opinion 86 = .ok (.iconst 2, 1) := by decide +kernel
theorem dX8_opinion_87 : decode cX8_opinion 87 = .ok (.iload_n 2, 1) := by decide +kernel
theorem dX8_opinion_88 : decode cX8_opinion 88 = .ok (.iconst 2, 1) := by decide +kernel
theorem dX8_opinion_89 : decode cX8_opinion 89 = .ok (.idiv, 1) := by decide +kernel
theorem dX8_opinion_90 : decode cX8_opinion 90 = .ok (.imul, 1) := by decide +kernel
theorem dX8_opinion_91 : decode cX8_opinion 91 = .ok (.iadd, 1) := by decide +kernel
theorem dX8_opinion_92 : decode cX8_opinion 92 = .ok (.iconst 2, 1) := by decide +kernel
theorem dX8_opinion_93 : decode cX8_opinion 93 = .ok (.iadd, 1) := by decide +kernel
theorem dX8_opinion_94 : decode cX8_opinion 94 = .ok (.i2l, 1) := by decide +kernel
theorem dX8_opinion_95 : decode cX8_opinion 95 = .ok (.lstore 5, 2) := by decide +kernel
theorem dX8_opinion_97 : decode cX8_opinion 97 = .ok (.ldc2_w 94, 3) := by decide +kernel
theorem dX8_opinion_100 : decode cX8_opinion 100 = .ok (.lload_n 3, 1) := by decide +kernel
theorem dX8_opinion_101 : decode cX8_opinion 101 = .ok (.lmul, 1) := by decide +kernel
theorem dX8_opinion_102 : decode cX8_opinion 102 = .ok (.lload 5, 2) := by decide +kernel
theorem dX8_opinion_104 : decode cX8_opinion 104 = .ok (.invokestatic 252, 3) := by decide +kernel
theorem dX8_opinion_107 : decode cX8_opinion 107 = .ok (.iconst 1, 1) := by decide +kernel
theorem dX8_opinion_108 : decode cX8_opinion 108 = .ok (.ldc_w 256, 3) := by decide +kernel
theorem dX8_opinion_111 : decode cX8_opinion 111 = .ok (.invokestatic 248, 3) := by decide +kernel
theorem dX8_opinion_114 : decode cX8_opinion 114 = .ok (.ireturn, 1) := by decide +kernel
theorem dX8_ofSign_0 : decode cX8_ofSign 0 = .ok (.iload_n 0, 1) := by decide +kernel
theorem dX8_ofSign_1 : decode cX8_ofSign 1 = .ok (.iconst 1, 1) := by decide +kernel
theorem dX8_ofSign_2 : decode cX8_ofSign 2 = .ok (.if_icmp .ne 7, 3) := by decide +kernel
theorem dX8_ofSign_5 : decode cX8_ofSign 5 = .ok (.iload_n 1, 1) := by decide +kernel
theorem dX8_ofSign_6 : decode cX8_ofSign 6 = .ok (.goto 7, 3) := by decide +kernel
theorem dX8_ofSign_9 : decode cX8_ofSign 9 = .ok (.ldc 148, 2) := by decide +kernel
theorem dX8_ofSign_11 : decode cX8_ofSign 11 = .ok (.iload_n 1, 1) := by decide +kernel
theorem dX8_ofSign_12 : decode cX8_ofSign 12 = .ok (.isub, 1) := by decide +kernel
theorem dX8_ofSign_13 : decode cX8_ofSign 13 = .ok (.ireturn, 1) := by decide +kernel
theorem dX8_bitsOf_0 : decode cX8_bitsOf 0 = .ok (.bipush 15, 2) := by decide +kernel
theorem dX8_bitsOf_2 : decode cX8_bitsOf 2 = .ok (.istore_n 1, 1) := by decide +kernel
theorem dX8_bitsOf_3 : decode cX8_bitsOf 3 = .ok (.bipush 15, 2) := by decide +kernel
theorem dX8_bitsOf_5 : decode cX8_bitsOf 5 = .ok (.istore_n 2, 1) := by decide +kernel
theorem dX8_bitsOf_6 : decode cX8_bitsOf 6 = .ok (.iload_n 2, 1) := by decide +kernel
theorem dX8_bitsOf_7 : decode cX8_bitsOf 7 = .ok (.ifCond .le 19, 3) := by decide +kernel
theorem dX8_bitsOf_10 : decode cX8_bitsOf 10 = .ok (.iload_n 0, 1) := by decide +kernel
theorem dX8_bitsOf_11 : decode cX8_bitsOf 11 = .ok (.iload_n 2, 1) := by decide +kernel
theorem dX8_bitsOf_12 : decode cX8_bitsOf 12 = .ok (.ishr, 1) := by decide +kernel
theorem dX8_bitsOf_13 : decode cX8_bitsOf 13 = .ok (.ifCond .ne 13, 3) := by decide +kernel
theorem dX8_bitsOf_16 : decode cX8_bitsOf 16 = .ok (.iload_n 2, 1) := by decide +kernel
theorem dX8_bitsOf_17 : decode cX8_bitsOf 17 = .ok (.iconst 1, 1) := by decide +kernel
theorem dX8_bitsOf_18 : decode cX8_bitsOf 18 = .ok (.isub, 1) := by decide +kernel
theorem dX8_bitsOf_19 : decode cX8_bitsOf 19 = .ok (.istore_n 1, 1) := by decide +kernel
theorem dX8_bitsOf_20 : decode cX8_bitsOf 20 = .ok (.iinc 2 (-1), 3) := by decide +kernel
theorem dX8_bitsOf_23 : decode cX8_bitsOf 23 = .ok (.goto (-17), 3) := by decide +kernel
theorem dX8_bitsOf_26 : decode cX8_bitsOf 26 = .ok (.iload_n 1, 1) := by decide +kernel
theorem dX8_bitsOf_27 : decode cX8_bitsOf 27 = .ok (.iconst 4, 1) := by decide +kernel
theorem dX8_bitsOf_28 : decode cX8_bitsOf 28 = .ok (.if_icmp .lt 11, 3) := by decide +kernel
theorem dX8_bitsOf_31 : decode cX8_bitsOf 31 = .ok (.iload_n 0, 1) := by decide +kernel
theorem dX8_bitsOf_32 : decode cX8_bitsOf 32 = .ok (.iload_n 1, 1) := by decide +kernel
theorem dX8_bitsOf_33 : decode cX8_bitsOf 33 = .ok (.iconst 4, 1) := by decide +kernel
theorem dX8_bitsOf_34 : decode cX8_bitsOf 34 = .ok (.isub, 1) := by decide +kernel
theorem dX8_bitsOf_35 : decode cX8_bitsOf 35 = .ok (.ishr, 1) := by decide +kernel
theorem dX8_bitsOf_36 : decode cX8_bitsOf 36 = .ok (.goto 8, 3) := by decide +kernel
theorem dX8_bitsOf_39 : decode cX8_bitsOf 39 = .ok (.iload_n 0, 1) := by decide +kernel
theorem dX8_bitsOf_40 : decode cX8_bitsOf 40 = .ok (.iconst 4, 1) := by decide +kernel
theorem dX8_bitsOf_41 : decode cX8_bitsOf 41 = .ok (.iload_n 1, 1) := by decide +kernel
theorem dX8_bitsOf_42 : decode cX8_bitsOf 42 = .ok (.isub, 1) := by decide +kernel
theorem dX8_bitsOf_43 : decode cX8_bitsOf 43 = .ok (.ishl, 1) := by decide +kernel
theorem dX8_bitsOf_44 : decode cX8_bitsOf 44 = .ok (.istore_n 2, 1) := by decide +kernel
theorem dX8_bitsOf_45 : decode cX8_bitsOf 45 = .ok (.bipush 16, 2) := by decide +kernel
theorem dX8_bitsOf_47 : decode cX8_bitsOf 47 = .ok (.bipush 16, 2) := by decide +kernel
theorem dX8_bitsOf_49 : decode cX8_bitsOf 49 = .ok (.iload_n 1, 1) := by decide +kernel
theorem dX8_bitsOf_50 : decode cX8_bitsOf 50 = .ok (.isub, 1) := by decide +kernel
theorem dX8_bitsOf_51 : decode cX8_bitsOf 51 = .ok (.imul, 1) := by decide +kernel
theorem dX8_bitsOf_52 : decode cX8_bitsOf 52 = .ok (.iload_n 2, 1) := by decide +kernel
theorem dX8_bitsOf_53 : decode cX8_bitsOf 53 = .ok (.bipush 15, 2) := by decide +kernel
theorem dX8_bitsOf_55 : decode cX8_bitsOf 55 = .ok (.iand, 1) := by decide +kernel
theorem dX8_bitsOf_56 : decode cX8_bitsOf 56 = .ok (.isub, 1) := by decide +kernel
theorem dX8_bitsOf_57 : decode cX8_bitsOf 57 = .ok (.ireturn, 1) := by decide +kernel
theorem dX9_init_0 : decode cX9_init 0 = .ok (.aload_n 0, 1) := by decide +kernel
theorem dX9_init_1 : decode cX9_init 1 = .ok (.invokespecial 1, 3) := by decide +kernel
theorem dX9_init_4 : decode cX9_init 4 = .ok (.aload_n 0, 1) := by decide +kernel
theorem dX9_init_5 : decode cX9_init 5 = .ok (.bipush 103, 2) := by decide +kernel
theorem dX9_init_7 : decode cX9_init 7 = .ok (.newarray .int, 2) := by decide +kernel
theorem dX9_init_9 : decode cX9_init 9 = .ok (.putfield 7, 3) := by decide +kernel
theorem dX9_init_12 : decode cX9_init 12 = .ok (.aload_n 0, 1) := by decide +kernel
theorem dX9_init_13 : decode cX9_init 13 = .ok (.sipush 618, 3) := by decide +kernel
theorem dX9_init_16 : decode cX9_init 16 = .ok (.newarray .int, 2) := by decide +kernel
theorem dX9_init_18 : decode cX9_init 18 = .ok (.putfield 13, 3) := by decide +kernel
theorem dX9_init_21 : decode cX9_init 21 = .ok (.aload_n 0, 1) := by decide +kernel
theorem dX9_init_22 : decode cX9_init 22 = .ok (.iconst 3, 1) := by decide +kernel
theorem dX9_init_23 : decode cX9_init 23 = .ok (.newarray .int, 2) := by decide +kernel
theorem dX9_init_25 : decode cX9_init 25 = .ok (.putfield 16, 3) := by decide +kernel
theorem dX9_init_28 : decode cX9_init 28 = .ok (.aload_n 0, 1) := by decide +kernel
theorem dX9_init_29 : decode cX9_init 29 = .ok (.sipush 128, 3) := by decide +kernel
theorem dX9_init_32 : decode cX9_init 32 = .ok (.newarray .int, 2) := by decide +kernel
theorem dX9_init_34 : decode cX9_init 34 = .ok (.putfield 19, 3) := by decide +kernel
theorem dX9_init_37 : decode cX9_init 37 = .ok (.aload_n 0, 1) := by decide +kernel
theorem dX9_init_38 : decode cX9_init 38 = .ok (.bipush 127, 2) := by decide +kernel
theorem dX9_init_40 : decode cX9_init 40 = .ok (.newarray .int, 2) := by decide +kernel
theorem dX9_init_42 : decode cX9_init 42 = .ok (.putfield 22, 3) := by decide +kernel
theorem dX9_init_45 : decode cX9_init 45 = .ok (.aload_n 0, 1) := by decide +kernel
theorem dX9_init_46 : decode cX9_init 46 = .ok (.bipush 127, 2) := by decide +kernel
theorem dX9_init_48 : decode cX9_init 48 = .ok (.newarray .int, 2) := by decide +kernel
theorem dX9_init_50 : decode cX9_init 50 = .ok (.putfield 25, 3) := by decide +kernel
theorem dX9_init_53 : decode cX9_init 53 = .ok (.aload_n 0, 1) := by decide +kernel
theorem dX9_init_54 : decode cX9_init 54 = .ok (.bipush 127, 2) := by decide +kernel
theorem dX9_init_56 : decode cX9_init 56 = .ok (.newarray .int, 2) := by decide +kernel
theorem dX9_init_58 : decode cX9_init 58 = .ok (.putfield 28, 3) := by decide +kernel
theorem dX9_init_61 : decode cX9_init 61 = .ok (.aload_n 0, 1) := by decide +kernel
theorem dX9_init_62 : decode cX9_init 62 = .ok (.bipush 127, 2) := by decide +kernel
theorem dX9_init_64 : decode cX9_init 64 = .ok (.newarray .int, 2) := by decide +kernel
theorem dX9_init_66 : decode cX9_init 66 = .ok (.putfield 31, 3) := by decide +kernel
theorem dX9_init_69 : decode cX9_init 69 = .ok (.aload_n 0, 1) := by decide +kernel
theorem dX9_init_70 : decode cX9_init 70 = .ok (.bipush 7, 2) := by decide +kernel
theorem dX9_init_72 : decode cX9_init 72 = .ok (.newarray .int, 2) := by decide +kernel
theorem dX9_init_74 : decode cX9_init 74 = .ok (.putfield 34, 3) := by decide +kernel
theorem dX9_init_77 : decode cX9_init 77 = .ok (.aload_n 0, 1) := by decide +kernel
theorem dX9_init_78 : decode cX9_init 78 = .ok (.bipush 7, 2) := by decide +kernel
theorem dX9_init_80 : decode cX9_init 80 = .ok (.newarray .int, 2) := by decide +kernel
theorem dX9_init_82 : decode cX9_init 82 = .ok (.putfield 37, 3) := by decide +kernel
theorem dX9_init_85 : decode cX9_init 85 = .ok (.aload_n 0, 1) := by decide +kernel
theorem dX9_init_86 : decode cX9_init 86 = .ok (.bipush 7, 2) := by decide +kernel
theorem dX9_init_88 : decode cX9_init 88 = .ok (.newarray .int, 2) := by decide +kernel
theorem dX9_init_90 : decode cX9_init 90 = .ok (.putfield 40, 3) := by decide +kernel
theorem dX9_init_93 : decode cX9_init 93 = .ok (.aload_n 0, 1) := by decide +kernel
theorem dX9_init_94 : decode cX9_init 94 = .ok (.sipush 128, 3) := by decide +kernel
theorem dX9_init_97 : decode cX9_init 97 = .ok (.newarray .int, 2) := by decide +kernel
theorem dX9_init_99 : decode cX9_init 99 = .ok (.putfield 43, 3) := by decide +kernel
theorem dX9_init_102 : decode cX9_init 102 = .ok (.aload_n 0, 1) := by decide +kernel
theorem dX9_init_103 : decode cX9_init 103 = .ok (.bipush 127, 2) := by decide +kernel
theorem dX9_init_105 : decode cX9_init 105 = .ok (.newarray .int, 2) := by decide +kernel
theorem dX9_init_107 : decode cX9_init 107 = .ok (.putfield 46, 3) := by decide +kernel
theorem dX9_init_110 : decode cX9_init 110 = .ok (.aload_n 0, 1) := by decide +kernel
theorem dX9_init_111 : decode cX9_init 111 = .ok (.bipush 127, 2) := by decide +kernel
theorem dX9_init_113 : decode cX9_init 113 = .ok (.newarray .boolean, 2) := by decide +kernel
theorem dX9_init_115 : decode cX9_init 115 = .ok (.putfield 49, 3) := by decide +kernel
theorem dX9_init_118 : decode cX9_init 118 = .ok (.aload_n 0, 1) := by decide +kernel
theorem dX9_init_119 : decode cX9_init 119 = .ok (.bipush 127, 2) := by decide +kernel
theorem dX9_init_121 : decode cX9_init 121 = .ok (.newarray .int, 2) := by decide +kernel
theorem dX9_init_123 : decode cX9_init 123 = .ok (.putfield 53, 3) := by decide +kernel
theorem dX9_init_126 : decode cX9_init 126 = .ok (.aload_n 0, 1) := by decide +kernel
theorem dX9_init_127 : decode cX9_init 127 = .ok (.sipush 256, 3) := by decide +kernel
theorem dX9_init_130 : decode cX9_init 130 = .ok (.newarray .int, 2) := by decide +kernel
theorem dX9_init_132 : decode cX9_init 132 = .ok (.putfield 56, 3) := by decide +kernel
theorem dX9_init_135 : decode cX9_init 135 = .ok (.aload_n 0, 1) := by decide +kernel
theorem dX9_init_136 : decode cX9_init 136 = .ok (.bipush 120, 2) := by decide +kernel
theorem dX9_init_138 : decode cX9_init 138 = .ok (.newarray .int, 2) := by decide +kernel
theorem dX9_init_140 : decode cX9_init 140 = .ok (.putfield 59, 3) := by decide +kernel
theorem dX9_init_143 : decode cX9_init 143 = .ok (.aload_n 0, 1) := by decide +kernel
theorem dX9_init_144 : decode cX9_init 144 = .ok (.sipush 128, 3) := by decide +kernel
theorem dX9_init_147 : decode cX9_init 147 = .ok (.newarray .int, 2) := by decide +kernel
theorem dX9_init_149 : decode cX9_init 149 = .ok (.putfield 62, 3) := by decide +kernel
theorem dX9_init_152 : decode cX9_init 152 = .ok (.aload_n 0, 1) := by decide +kernel
theorem dX9_init_153 : decode cX9_init 153 = .ok (.getfield 7, 3) := by decide +kernel
theorem dX9_init_156 : decode cX9_init 156 = .ok (.bipush 101, 2) := by decide +kernel
theorem dX9_init_158 : decode cX9_init 158 = .ok (.iconst 3, 1) := by decide +kernel
theorem dX9_init_159 : decode cX9_init 159 = .ok (.iastore, 1) := by decide +kernel
theorem dX9_init_160 : decode cX9_init 160 = .ok (.return_, 1) := by decide +kernel
theorem dX9_in_0 : decode cX9_in 0 = .ok (.lload_n 0, 1) := by decide +kernel
theorem dX9_in_1 : decode cX9_in 1 = .ok (.lload_n 2, 1) := by decide +kernel
theorem dX9_in_2 : decode cX9_in 2 = .ok (.lcmp, 1) := by decide +kernel
theorem dX9_in_3 : decode cX9_in 3 = .ok (.ifCond .lt 14, 3) := by decide +kernel
theorem dX9_in_6 : decode cX9_in 6 = .ok (.lload_n 0, 1) := by decide +kernel
theorem dX9_in_7 : decode cX9_in 7 = .ok (.lload 4, 2) := by decide +kernel
theorem dX9_in_9 : decode cX9_in 9 = .ok (.lcmp, 1) := by decide +kernel
theorem dX9_in_10 : decode cX9_in 10 = .ok (.ifCond .gt 7, 3) := by decide +kernel
theorem dX9_in_13 : decode cX9_in 13 = .ok (.iconst 1, 1) := by decide +kernel
theorem dX9_in_14 : decode cX9_in 14 = .ok (.goto 4, 3) := by decide +kernel
theorem dX9_in_17 : decode cX9_in 17 = .ok (.iconst 0, 1) := by decide +kernel
theorem dX9_in_18 : decode cX9_in 18 = .ok (.ireturn, 1) := by decide +kernel
theorem dX9_bad_0 : decode cX9_bad 0 = .ok (.aload_n 0, 1) := by decide +kernel
theorem dX9_bad_1 : decode cX9_bad 1 = .ok (.getfield 16, 3) := by decide +kernel
theorem dX9_bad_4 : decode cX9_bad 4 = .ok (.iconst 0, 1) := by decide +kernel
theorem dX9_bad_5 : decode cX9_bad 5 = .ok (.dup2, 1) := by decide +kernel
theorem dX9_bad_6 : decode cX9_bad 6 = .ok (.iaload, 1) := by decide +kernel
theorem dX9_bad_7 : decode cX9_bad 7 = .ok (.iconst 1, 1) := by decide +kernel
theorem dX9_bad_8 : decode cX9_bad 8 = .ok (.iadd, 1) := by decide +kernel
theorem dX9_bad_9 : decode cX9_bad 9 = .ok (.iastore, 1) := by decide +kernel
theorem dX9_bad_10 : decode cX9_bad 10 = .ok (.iload_n 1, 1) := by decide +kernel
theorem dX9_bad_11 : decode cX9_bad 11 = .ok (.ireturn, 1) := by decide +kernel
theorem dX9_no_0 : decode cX9_no 0 = .ok (.aload_n 0, 1) := by decide +kernel
theorem dX9_no_1 : decode cX9_no 1 = .ok (.getfield 16, 3) := by decide +kernel
theorem dX9_no_4 : decode cX9_no 4 = .ok (.iconst 1, 1) := by decide +kernel
theorem dX9_no_5 : decode cX9_no 5 = .ok (.dup2, 1) := by decide +kernel
theorem dX9_no_6 : decode cX9_no 6 = .ok (.iaload, 1) := by decide +kernel
theorem dX9_no_7 : decode cX9_no 7 = .ok (.iconst 1, 1) := by decide +kernel
theorem dX9_no_8 : decode cX9_no 8 = .ok (.iadd, 1) := by decide +kernel
theorem dX9_no_9 : decode cX9_no 9 = .ok (.iastore, 1) := by decide +kernel
theorem dX9_no_10 : decode cX9_no 10 = .ok (.bipush (-3), 2) := by decide +kernel
theorem dX9_no_12 : decode cX9_no 12 = .ok (.ireturn, 1) := by decide +kernel
theorem dX9_full_0 : decode cX9_full 0 = .ok (.aload_n 0, 1) := by decide +kernel
theorem dX9_full_1 : decode cX9_full 1 = .ok (.getfield 16, 3) := by decide +kernel
theorem dX9_full_4 : decode cX9_full 4 = .ok (.iconst 2, 1) := by decide +kernel
theorem dX9_full_5 : decode cX9_full 5 = .ok (.dup2, 1) := by decide +kernel
theorem dX9_full_6 : decode cX9_full 6 = .ok (.iaload, 1) := by decide +kernel
theorem dX9_full_7 : decode cX9_full 7 = .ok (.iconst 1, 1) := by decide +kernel
theorem dX9_full_8 : decode cX9_full 8 = .ok (.iadd, 1) := by decide +kernel
theorem dX9_full_9 : decode cX9_full 9 = .ok (.iastore, 1) := by decide +kernel
theorem dX9_full_10 : decode cX9_full 10 = .ok (.bipush (-4), 2) := by decide +kernel
theorem dX9_full_12 : decode cX9_full 12 = .ok (.ireturn, 1) := by decide +kernel
theorem dX9_many_0 : decode cX9_many 0 = .ok (.aload_n 0, 1) := by decide +kernel
theorem dX9_many_1 : decode cX9_many 1 = .ok (.getfield 7, 3) := by decide +kernel
theorem dX9_many_4 : decode cX9_many 4 = .ok (.bipush 100, 2) := by decide +kernel
theorem dX9_many_6 : decode cX9_many 6 = .ok (.iaload, 1) := by decide +kernel
theorem dX9_many_7 : decode cX9_many 7 = .ok (.ireturn, 1) := by decide +kernel
theorem dX9_depth_0 : decode cX9_depth 0 = .ok (.aload_n 0, 1) := by decide +kernel
theorem dX9_depth_1 : decode cX9_depth 1 = .ok (.getfield 7, 3) := by decide +kernel
theorem dX9_depth_4 : decode cX9_depth 4 = .ok (.bipush 101, 2) := by decide +kernel
theorem dX9_depth_6 : decode cX9_depth 6 = .ok (.iaload, 1) := by decide +kernel
theorem dX9_depth_7 : decode cX9_depth 7 = .ok (.ireturn, 1) := by decide +kernel
theorem dX9_guesser_0 : decode cX9_guesser 0 = .ok (.aload_n 0, 1) := by decide +kernel
theorem dX9_guesser_1 : decode cX9_guesser 1 = .ok (.getfield 7, 3) := by decide +kernel
theorem dX9_guesser_4 : decode cX9_guesser 4 = .ok (.bipush 102, 2) := by decide +kernel
theorem dX9_guesser_6 : decode cX9_guesser 6 = .ok (.iaload, 1) := by decide +kernel
theorem dX9_guesser_7 : decode cX9_guesser 7 = .ok (.ireturn, 1) := by decide +kernel
theorem dX9_keep_0 : decode cX9_keep 0 = .ok (.aload_n 0, 1) := by decide +kernel
theorem dX9_keep_1 : decode cX9_keep 1 = .ok (.getfield 65, 3) := by decide +kernel
theorem dX9_keep_4 : decode cX9_keep 4 = .ok (.bipush 6, 2) := by decide +kernel
theorem dX9_keep_6 : decode cX9_keep 6 = .ok (.if_icmp .ne 43, 3) := by decide +kernel
theorem dX9_keep_9 : decode cX9_keep 9 = .ok (.iconst 0, 1) := by decide +kernel
theorem dX9_keep_10 : decode cX9_keep 10 = .ok (.istore_n 1, 1) := by decide +kernel
theorem dX9_keep_11 : decode cX9_keep 11 = .ok (.iload_n 1, 1) := by decide +kernel
theorem dX9_keep_12 : decode cX9_keep 12 = .ok (.sipush 515, 3) := by decide +kernel
theorem dX9_keep_15 : decode cX9_keep 15 = .ok (.if_icmp .ge 24, 3) := by decide +kernel
theorem dX9_keep_18 : decode cX9_keep 18 = .ok (.aload_n 0, 1) := by decide +kernel
theorem dX9_keep_19 : decode cX9_keep 19 = .ok (.getfield 13, 3) := by decide +kernel
theorem dX9_keep_22 : decode cX9_keep 22 = .ok (.iload_n 1, 1) := by decide +kernel
theorem dX9_keep_23 : decode cX9_keep 23 = .ok (.aload_n 0, 1) := by decide +kernel
theorem dX9_keep_24 : decode cX9_keep 24 = .ok (.getfield 13, 3) := by decide +kernel
theorem dX9_keep_27 : decode cX9_keep 27 = .ok (.iload_n 1, 1) := by decide +kernel
theorem dX9_keep_28 : decode cX9_keep 28 = .ok (.bipush 103, 2) := by decide +kernel
theorem dX9_keep_30 : decode cX9_keep 30 = .ok (.iadd, 1) := by decide +kernel
theorem dX9_keep_31 : decode cX9_keep 31 = .ok (.iaload, 1) := by decide +kernel
theorem dX9_keep_32 : decode cX9_keep 32 = .ok (.iastore, 1) := by decide +kernel
theorem dX9_keep_33 : decode cX9_keep 33 = .ok (.iinc 1 1, 3) := by decide +kernel
theorem dX9_keep_36 : decode cX9_keep 36 = .ok (.goto (-25), 3) := by decide +kernel
theorem dX9_keep_39 : decode cX9_keep 39 = .ok (.aload_n 0, 1) := by decide +kernel
theorem dX9_keep_40 : decode cX9_keep 40 = .ok (.dup, 1) := by decide +kernel
theorem dX9_keep_41 : decode cX9_keep 41 = .ok (.getfield 65, 3) := by decide +kernel
theorem dX9_keep_44 : decode cX9_keep 44 = .ok (.iconst 1, 1) := by decide +kernel
theorem dX9_keep_45 : decode cX9_keep 45 = .ok (.isub, 1) := by decide +kernel
theorem dX9_keep_46 : decode cX9_keep 46 = .ok (.putfield 65, 3) := by decide +kernel
theorem dX9_keep_49 : decode cX9_keep 49 = .ok (.iconst 0, 1) := by decide +kernel
