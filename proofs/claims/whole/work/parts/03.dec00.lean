theorem dX0_init_0 : decode cX0_init 0 = .ok (.aload_n 0, 1) := by decide +kernel
theorem dX0_init_1 : decode cX0_init 1 = .ok (.invokespecial 3, 3) := by decide +kernel
theorem dX0_init_4 : decode cX0_init 4 = .ok (.aload_n 0, 1) := by decide +kernel
theorem dX0_init_5 : decode cX0_init 5 = .ok (.sipush 128, 3) := by decide +kernel
theorem dX0_init_8 : decode cX0_init 8 = .ok (.newarray .int, 2) := by decide +kernel
theorem dX0_init_10 : decode cX0_init 10 = .ok (.putfield 9, 3) := by decide +kernel
theorem dX0_init_13 : decode cX0_init 13 = .ok (.aload_n 0, 1) := by decide +kernel
theorem dX0_init_14 : decode cX0_init 14 = .ok (.sipush 128, 3) := by decide +kernel
theorem dX0_init_17 : decode cX0_init 17 = .ok (.newarray .int, 2) := by decide +kernel
theorem dX0_init_19 : decode cX0_init 19 = .ok (.putfield 15, 3) := by decide +kernel
theorem dX0_init_22 : decode cX0_init 22 = .ok (.aload_n 0, 1) := by decide +kernel
theorem dX0_init_23 : decode cX0_init 23 = .ok (.iconst 0, 1) := by decide +kernel
theorem dX0_init_24 : decode cX0_init 24 = .ok (.putfield 18, 3) := by decide +kernel
theorem dX0_init_27 : decode cX0_init 27 = .ok (.aload_n 0, 1) := by decide +kernel
theorem dX0_init_28 : decode cX0_init 28 = .ok (.iconst 0, 1) := by decide +kernel
theorem dX0_init_29 : decode cX0_init 29 = .ok (.putfield 22, 3) := by decide +kernel
theorem dX0_init_32 : decode cX0_init 32 = .ok (.return_, 1) := by decide +kernel
theorem dX0_grow_0 : decode cX0_grow 0 = .ok (.aload_n 1, 1) := by decide +kernel
theorem dX0_grow_1 : decode cX0_grow 1 = .ok (.getfield 25, 3) := by decide +kernel
theorem dX0_grow_4 : decode cX0_grow 4 = .ok (.istore_n 2, 1) := by decide +kernel
theorem dX0_grow_5 : decode cX0_grow 5 = .ok (.iload_n 2, 1) := by decide +kernel
theorem dX0_grow_6 : decode cX0_grow 6 = .ok (.ifCond .lt 31, 3) := by decide +kernel
theorem dX0_grow_9 : decode cX0_grow 9 = .ok (.iconst 0, 1) := by decide +kernel
theorem dX0_grow_10 : decode cX0_grow 10 = .ok (.istore_n 3, 1) := by decide +kernel
theorem dX0_grow_11 : decode cX0_grow 11 = .ok (.iload_n 3, 1) := by decide +kernel
theorem dX0_grow_12 : decode cX0_grow 12 = .ok (.iconst 1, 1) := by decide +kernel
theorem dX0_grow_13 : decode cX0_grow 13 = .ok (.iload_n 2, 1) := by decide +kernel
theorem dX0_grow_14 : decode cX0_grow 14 = .ok (.ishl, 1) := by decide +kernel
theorem dX0_grow_15 : decode cX0_grow 15 = .ok (.if_icmp .ge 16, 3) := by decide +kernel
theorem dX0_grow_18 : decode cX0_grow 18 = .ok (.aload_n 0, 1) := by decide +kernel
theorem dX0_grow_19 : decode cX0_grow 19 = .ok (.aload_n 1, 1) := by decide +kernel
theorem dX0_grow_20 : decode cX0_grow 20 = .ok (.iload_n 2, 1) := by decide +kernel
theorem dX0_grow_21 : decode cX0_grow 21 = .ok (.iload_n 3, 1) := by decide +kernel
theorem dX0_grow_22 : decode cX0_grow 22 = .ok (.invokevirtual 30, 3) := by decide +kernel
theorem dX0_grow_25 : decode cX0_grow 25 = .ok (.iinc 3 1, 3) := by decide +kernel
theorem dX0_grow_28 : decode cX0_grow 28 = .ok (.goto (-17), 3) := by decide +kernel
theorem dX0_grow_31 : decode cX0_grow 31 = .ok (.iinc 2 (-1), 3) := by decide +kernel
theorem dX0_grow_34 : decode cX0_grow 34 = .ok (.goto (-29), 3) := by decide +kernel
theorem dX0_grow_37 : decode cX0_grow 37 = .ok (.aload_n 0, 1) := by decide +kernel
theorem dX0_grow_38 : decode cX0_grow 38 = .ok (.iconst 0, 1) := by decide +kernel
theorem dX0_grow_39 : decode cX0_grow 39 = .ok (.putfield 18, 3) := by decide +kernel
theorem dX0_grow_42 : decode cX0_grow 42 = .ok (.aload_n 0, 1) := by decide +kernel
theorem dX0_grow_43 : decode cX0_grow 43 = .ok (.iconst 0, 1) := by decide +kernel
theorem dX0_grow_44 : decode cX0_grow 44 = .ok (.putfield 22, 3) := by decide +kernel
theorem dX0_grow_47 : decode cX0_grow 47 = .ok (.iconst 0, 1) := by decide +kernel
theorem dX0_grow_48 : decode cX0_grow 48 = .ok (.istore_n 2, 1) := by decide +kernel
theorem dX0_grow_49 : decode cX0_grow 49 = .ok (.iload_n 2, 1) := by decide +kernel
theorem dX0_grow_50 : decode cX0_grow 50 = .ok (.aload_n 1, 1) := by decide +kernel
theorem dX0_grow_51 : decode cX0_grow 51 = .ok (.getfield 25, 3) := by decide +kernel
theorem dX0_grow_54 : decode cX0_grow 54 = .ok (.if_icmp .gt 30, 3) := by decide +kernel
theorem dX0_grow_57 : decode cX0_grow 57 = .ok (.iconst 0, 1) := by decide +kernel
theorem dX0_grow_58 : decode cX0_grow 58 = .ok (.istore_n 3, 1) := by decide +kernel
theorem dX0_grow_59 : decode cX0_grow 59 = .ok (.iload_n 3, 1) := by decide +kernel
theorem dX0_grow_60 : decode cX0_grow 60 = .ok (.iconst 1, 1) := by decide +kernel
theorem dX0_grow_61 : decode cX0_grow 61 = .ok (.iload_n 2, 1) := by decide +kernel
theorem dX0_grow_62 : decode cX0_grow 62 = .ok (.ishl, 1) := by decide +kernel
theorem dX0_grow_63 : decode cX0_grow 63 = .ok (.if_icmp .ge 15, 3) := by decide +kernel
theorem dX0_grow_66 : decode cX0_grow 66 = .ok (.aload_n 0, 1) := by decide +kernel
theorem dX0_grow_67 : decode cX0_grow 67 = .ok (.iload_n 2, 1) := by decide +kernel
theorem dX0_grow_68 : decode cX0_grow 68 = .ok (.iload_n 3, 1) := by decide +kernel
theorem dX0_grow_69 : decode cX0_grow 69 = .ok (.invokevirtual 34, 3) := by decide +kernel
theorem dX0_grow_72 : decode cX0_grow 72 = .ok (.iinc 3 1, 3) := by decide +kernel
theorem dX0_grow_75 : decode cX0_grow 75 = .ok (.goto (-16), 3) := by decide +kernel
theorem dX0_grow_78 : decode cX0_grow 78 = .ok (.iinc 2 1, 3) := by decide +kernel
theorem dX0_grow_81 : decode cX0_grow 81 = .ok (.goto (-32), 3) := by decide +kernel
theorem dX0_grow_84 : decode cX0_grow 84 = .ok (.return_, 1) := by decide +kernel
theorem dX0_price_0 : decode cX0_price 0 = .ok (.aload_n 0, 1) := by decide +kernel
theorem dX0_price_1 : decode cX0_price 1 = .ok (.getfield 9, 3) := by decide +kernel
theorem dX0_price_4 : decode cX0_price 4 = .ok (.iconst 0, 1) := by decide +kernel
theorem dX0_price_5 : decode cX0_price 5 = .ok (.iconst 0, 1) := by decide +kernel
theorem dX0_price_6 : decode cX0_price 6 = .ok (.invokestatic 38, 3) := by decide +kernel
theorem dX0_price_9 : decode cX0_price 9 = .ok (.iaload, 1) := by decide +kernel
theorem dX0_price_10 : decode cX0_price 10 = .ok (.ireturn, 1) := by decide +kernel
theorem dX0_weigh_0 : decode cX0_weigh 0 = .ok (.iload_n 2, 1) := by decide +kernel
theorem dX0_weigh_1 : decode cX0_weigh 1 = .ok (.iload_n 3, 1) := by decide +kernel
theorem dX0_weigh_2 : decode cX0_weigh 2 = .ok (.invokestatic 38, 3) := by decide +kernel
theorem dX0_weigh_5 : decode cX0_weigh 5 = .ok (.istore 4, 2) := by decide +kernel
theorem dX0_weigh_7 : decode cX0_weigh 7 = .ok (.aload_n 0, 1) := by decide +kernel
theorem dX0_weigh_8 : decode cX0_weigh 8 = .ok (.getfield 9, 3) := by decide +kernel
theorem dX0_weigh_11 : decode cX0_weigh 11 = .ok (.iload 4, 2) := by decide +kernel
theorem dX0_weigh_13 : decode cX0_weigh 13 = .ok (.aload_n 1, 1) := by decide +kernel
theorem dX0_weigh_14 : decode cX0_weigh 14 = .ok (.getfield 42, 3) := by decide +kernel
theorem dX0_weigh_17 : decode cX0_weigh 17 = .ok (.iload 4, 2) := by decide +kernel
theorem dX0_weigh_19 : decode cX0_weigh 19 = .ok (.iaload, 1) := by decide +kernel
theorem dX0_weigh_20 : decode cX0_weigh 20 = .ok (.iastore, 1) := by decide +kernel
theorem dX0_weigh_21 : decode cX0_weigh 21 = .ok (.aload_n 0, 1) := by decide +kernel
theorem dX0_weigh_22 : decode cX0_weigh 22 = .ok (.getfield 15, 3) := by decide +kernel
theorem dX0_weigh_25 : decode cX0_weigh 25 = .ok (.iload 4, 2) := by decide +kernel
theorem dX0_weigh_27 : decode cX0_weigh 27 = .ok (.iconst 1, 1) := by decide +kernel
theorem dX0_weigh_28 : decode cX0_weigh 28 = .ok (.iastore, 1) := by decide +kernel
theorem dX0_weigh_29 : decode cX0_weigh 29 = .ok (.iload_n 2, 1) := by decide +kernel
theorem dX0_weigh_30 : decode cX0_weigh 30 = .ok (.aload_n 1, 1) := by decide +kernel
theorem dX0_weigh_31 : decode cX0_weigh 31 = .ok (.getfield 25, 3) := by decide +kernel
theorem dX0_weigh_34 : decode cX0_weigh 34 = .ok (.if_icmp .lt 4, 3) := by decide +kernel
theorem dX0_weigh_37 : decode cX0_weigh 37 = .ok (.return_, 1) := by decide +kernel
theorem dX0_weigh_38 : decode cX0_weigh 38 = .ok (.aload_n 0, 1) := by decide +kernel
theorem dX0_weigh_39 : decode cX0_weigh 39 = .ok (.getfield 9, 3) := by decide +kernel
theorem dX0_weigh_42 : decode cX0_weigh 42 = .ok (.iload_n 2, 1) := by decide +kernel
theorem dX0_weigh_43 : decode cX0_weigh 43 = .ok (.iconst 1, 1) := by decide +kernel
theorem dX0_weigh_44 : decode cX0_weigh 44 = .ok (.iadd, 1) := by decide +kernel
theorem dX0_weigh_45 : decode cX0_weigh 45 = .ok (.iload_n 3, 1) := by decide +kernel
theorem dX0_weigh_46 : decode cX0_weigh 46 = .ok (.invokestatic 38, 3) := by decide +kernel
theorem dX0_weigh_49 : decode cX0_weigh 49 = .ok (.iaload, 1) := by decide +kernel
theorem dX0_weigh_50 : decode cX0_weigh 50 = .ok (.aload_n 0, 1) := by decide +kernel
theorem dX0_weigh_51 : decode cX0_weigh 51 = .ok (.getfield 9, 3) := by decide +kernel
theorem dX0_weigh_54 : decode cX0_weigh 54 = .ok (.iload_n 2, 1) := by decide +kernel
theorem dX0_weigh_55 : decode cX0_weigh 55 = .ok (.iconst 1, 1) := by decide +kernel
theorem dX0_weigh_56 : decode cX0_weigh 56 = .ok (.iadd, 1) := by decide +kernel
theorem dX0_weigh_57 : decode cX0_weigh 57 = .ok (.iload_n 3, 1) := by decide +kernel
theorem dX0_weigh_58 : decode cX0_weigh 58 = .ok (.iconst 1, 1) := by decide +kernel
theorem dX0_weigh_59 : decode cX0_weigh 59 = .ok (.iload_n 2, 1) := by decide +kernel
theorem dX0_weigh_60 : decode cX0_weigh 60 = .ok (.ishl, 1) := by decide +kernel
theorem dX0_weigh_61 : decode cX0_weigh 61 = .ok (.ior, 1) := by decide +kernel
theorem dX0_weigh_62 : decode cX0_weigh 62 = .ok (.invokestatic 38, 3) := by decide +kernel
theorem dX0_weigh_65 : decode cX0_weigh 65 = .ok (.iaload, 1) := by decide +kernel
theorem dX0_weigh_66 : decode cX0_weigh 66 = .ok (.iadd, 1) := by decide +kernel
theorem dX0_weigh_67 : decode cX0_weigh 67 = .ok (.istore 5, 2) := by decide +kernel
theorem dX0_weigh_69 : decode cX0_weigh 69 = .ok (.iload 5, 2) := by decide +kernel
theorem dX0_weigh_71 : decode cX0_weigh 71 = .ok (.aload_n 0, 1) := by decide +kernel
theorem dX0_weigh_72 : decode cX0_weigh 72 = .ok (.getfield 9, 3) := by decide +kernel
theorem dX0_weigh_75 : decode cX0_weigh 75 = .ok (.iload 4, 2) := by decide +kernel
theorem dX0_weigh_77 : decode cX0_weigh 77 = .ok (.iaload, 1) := by decide +kernel
theorem dX0_weigh_78 : decode cX0_weigh 78 = .ok (.if_icmp .ge 20, 3) := by decide +kernel
theorem dX0_weigh_81 : decode cX0_weigh 81 = .ok (.aload_n 0, 1) := by decide +kernel
theorem dX0_weigh_82 : decode cX0_weigh 82 = .ok (.getfield 9, 3) := by decide +kernel
theorem dX0_weigh_85 : decode cX0_weigh 85 = .ok (.iload 4, 2) := by decide +kernel
theorem dX0_weigh_87 : decode cX0_weigh 87 = .ok (.iload 5, 2) := by decide +kernel
theorem dX0_weigh_89 : decode cX0_weigh 89 = .ok (.iastore, 1) := by decide +kernel
theorem dX0_weigh_90 : decode cX0_weigh 90 = .ok (.aload_n 0, 1) := by decide +kernel
theorem dX0_weigh_91 : decode cX0_weigh 91 = .ok (.getfield 15, 3) := by decide +kernel
theorem dX0_weigh_94 : decode cX0_weigh 94 = .ok (.iload 4, 2) := by decide +kernel
theorem dX0_weigh_96 : decode cX0_weigh 96 = .ok (.iconst 2, 1) := by decide +kernel
theorem dX0_weigh_97 : decode cX0_weigh 97 = .ok (.iastore, 1) := by decide +kernel
theorem dX0_weigh_98 : decode cX0_weigh 98 = .ok (.aload_n 0, 1) := by decide +kernel
theorem dX0_weigh_99 : decode cX0_weigh 99 = .ok (.getfield 9, 3) := by decide +kernel
theorem dX0_weigh_102 : decode cX0_weigh 102 = .ok (.iload 4, 2) := by decide +kernel
theorem dX0_weigh_104 : decode cX0_weigh 104 = .ok (.dup2, 1) := by decide +kernel
theorem dX0_weigh_105 : decode cX0_weigh 105 = .ok (.iaload, 1) := by decide +kernel
theorem dX0_weigh_106 : decode cX0_weigh 106 = .ok (.bipush 8, 2) := by decide +kernel
theorem dX0_weigh_108 : decode cX0_weigh 108 = .ok (.iadd, 1) := by decide +kernel
theorem dX0_weigh_109 : decode cX0_weigh 109 = .ok (.iastore, 1) := by decide +kernel
theorem dX0_weigh_110 : decode cX0_weigh 110 = .ok (.return_, 1) := by decide +kernel
theorem dX0_settle_0 : decode cX0_settle 0 = .ok (.iload_n 1, 1) := by decide +kernel
theorem dX0_settle_1 : decode cX0_settle 1 = .ok (.iload_n 2, 1) := by decide +kernel
theorem dX0_settle_2 : decode cX0_settle 2 = .ok (.invokestatic 38, 3) := by decide +kernel
theorem dX0_settle_5 : decode cX0_settle 5 = .ok (.istore_n 3, 1) := by decide +kernel
theorem dX0_settle_6 : decode cX0_settle 6 = .ok (.iload_n 1, 1) := by decide +kernel
theorem dX0_settle_7 : decode cX0_settle 7 = .ok (.ifCond .le 26, 3) := by decide +kernel
theorem dX0_settle_10 : decode cX0_settle 10 = .ok (.aload_n 0, 1) := by decide +kernel
theorem dX0_settle_11 : decode cX0_settle 11 = .ok (.getfield 15, 3) := by decide +kernel
theorem dX0_settle_14 : decode cX0_settle 14 = .ok (.iload_n 1, 1) := by decide +kernel
theorem dX0_settle_15 : decode cX0_settle 15 = .ok (.iconst 1, 1) := by decide +kernel
theorem dX0_settle_16 : decode cX0_settle 16 = .ok (.isub, 1) := by decide +kernel
theorem dX0_settle_17 : decode cX0_settle 17 = .ok (.iload_n 2, 1) := by decide +kernel
theorem dX0_settle_18 : decode cX0_settle 18 = .ok (.invokestatic 38, 3) := by decide +kernel
theorem dX0_settle_21 : decode cX0_settle 21 = .ok (.iaload, 1) := by decide +kernel
theorem dX0_settle_22 : decode cX0_settle 22 = .ok (.iconst 2, 1) := by decide +kernel
theorem dX0_settle_23 : decode cX0_settle 23 = .ok (.if_icmp .eq 10, 3) := by decide +kernel
theorem dX0_settle_26 : decode cX0_settle 26 = .ok (.aload_n 0, 1) := by decide +kernel
theorem dX0_settle_27 : decode cX0_settle 27 = .ok (.getfield 15, 3) := by decide +kernel
theorem dX0_settle_30 : decode cX0_settle 30 = .ok (.iload_n 3, 1) := by decide +kernel
theorem dX0_settle_31 : decode cX0_settle 31 = .ok (.iconst 0, 1) := by decide +kernel
theorem dX0_settle_32 : decode cX0_settle 32 = .ok (.iastore, 1) := by decide +kernel
theorem dX0_settle_33 : decode cX0_settle 33 = .ok (.aload_n 0, 1) := by decide +kernel
theorem dX0_settle_34 : decode cX0_settle 34 = .ok (.getfield 15, 3) := by decide +kernel
theorem dX0_settle_37 : decode cX0_settle 37 = .ok (.iload_n 3, 1) := by decide +kernel
theorem dX0_settle_38 : decode cX0_settle 38 = .ok (.iaload, 1) := by decide +kernel
theorem dX0_settle_39 : decode cX0_settle 39 = .ok (.iconst 1, 1) := by decide +kernel
theorem dX0_settle_40 : decode cX0_settle 40 = .ok (.if_icmp .eq 4, 3) := by decide +kernel
theorem dX0_settle_43 : decode cX0_settle 43 = .ok (.return_, 1) := by decide +kernel
theorem dX0_settle_44 : decode cX0_settle 44 = .ok (.aload_n 0, 1) := by decide +kernel
theorem dX0_settle_45 : decode cX0_settle 45 = .ok (.dup, 1) := by decide +kernel
theorem dX0_settle_46 : decode cX0_settle 46 = .ok (.getfield 18, 3) := by decide +kernel
theorem dX0_settle_49 : decode cX0_settle 49 = .ok (.iconst 1, 1) := by decide +kernel
theorem dX0_settle_50 : decode cX0_settle 50 = .ok (.iadd, 1) := by decide +kernel
theorem dX0_settle_51 : decode cX0_settle 51 = .ok (.putfield 18, 3) := by decide +kernel
theorem dX0_settle_54 : decode cX0_settle 54 = .ok (.aload_n 0, 1) := by decide +kernel
theorem dX0_settle_55 : decode cX0_settle 55 = .ok (.iload_n 1, 1) := by decide +kernel
theorem dX0_settle_56 : decode cX0_settle 56 = .ok (.putfield 22, 3) := by decide +kernel
theorem dX0_settle_59 : decode cX0_settle 59 = .ok (.return_, 1) := by decide +kernel
theorem dX1_init_0 : decode cX1_init 0 = .ok (.aload_n 0, 1) := by decide +kernel
theorem dX1_init_1 : decode cX1_init 1 = .ok (.invokespecial 3, 3) := by decide +kernel
theorem dX1_init_4 : decode cX1_init 4 = .ok (.aload_n 0, 1) := by decide +kernel
theorem dX1_init_5 : decode cX1_init 5 = .ok (.bipush 100, 2) := by decide +kernel
theorem dX1_init_7 : decode cX1_init 7 = .ok (.newarray .int, 2) := by decide +kernel
theorem dX1_init_9 : decode cX1_init 9 = .ok (.putfield 9, 3) := by decide +kernel
theorem dX1_init_12 : decode cX1_init 12 = .ok (.aload_n 0, 1) := by decide +kernel
theorem dX1_init_13 : decode cX1_init 13 = .ok (.iconst 0, 1) := by decide +kernel
theorem dX1_init_14 : decode cX1_init 14 = .ok (.putfield 15, 3) := by decide +kernel
theorem dX1_init_17 : decode cX1_init 17 = .ok (.aload_n 0, 1) := by decide +kernel
theorem dX1_init_18 : decode cX1_init 18 = .ok (.iconst 0, 1) := by decide +kernel
theorem dX1_init_19 : decode cX1_init 19 = .ok (.putfield 19, 3) := by decide +kernel
theorem dX1_init_22 : decode cX1_init 22 = .ok (.aload_n 0, 1) := by decide +kernel
theorem dX1_init_23 : decode cX1_init 23 = .ok (.iconst 0, 1) := by decide +kernel
theorem dX1_init_24 : decode cX1_init 24 = .ok (.putfield 22, 3) := by decide +kernel
theorem dX1_init_27 : decode cX1_init 27 = .ok (.aload_n 0, 1) := by decide +kernel
theorem dX1_init_28 : decode cX1_init 28 = .ok (.iconst 0, 1) := by decide +kernel
theorem dX1_init_29 : decode cX1_init 29 = .ok (.putfield 25, 3) := by decide +kernel
theorem dX1_init_32 : decode cX1_init 32 = .ok (.return_, 1) := by decide +kernel
theorem dX1_judge_0 : decode cX1_judge 0 = .ok (.aload_n 0, 1) := by decide +kernel
theorem dX1_judge_1 : decode cX1_judge 1 = .ok (.aload_n 1, 1) := by decide +kernel
theorem dX1_judge_2 : decode cX1_judge 2 = .ok (.invokevirtual 28, 3) := by decide +kernel
theorem dX1_judge_5 : decode cX1_judge 5 = .ok (.ifCond .eq 4, 3) := by decide +kernel
theorem dX1_judge_8 : decode cX1_judge 8 = .ok (.return_, 1) := by decide +kernel
theorem dX1_judge_9 : decode cX1_judge 9 = .ok (.iconst 0, 1) := by decide +kernel
theorem dX1_judge_10 : decode cX1_judge 10 = .ok (.istore_n 3, 1) := by decide +kernel
theorem dX1_judge_11 : decode cX1_judge 11 = .ok (.iload_n 3, 1) := by decide +kernel
theorem dX1_judge_12 : decode cX1_judge 12 = .ok (.bipush 6, 2) := by decide +kernel
theorem dX1_judge_14 : decode cX1_judge 14 = .ok (.if_icmp .gt 69, 3) := by decide +kernel
theorem dX1_judge_17 : decode cX1_judge 17 = .ok (.iconst 0, 1) := by decide +kernel
theorem dX1_judge_18 : decode cX1_judge 18 = .ok (.istore 4, 2) := by decide +kernel
theorem dX1_judge_20 : decode cX1_judge 20 = .ok (.iload 4, 2) := by decide +kernel
theorem dX1_judge_22 : decode cX1_judge 22 = .ok (.iconst 3, 1) := by decide +kernel
theorem dX1_judge_23 : decode cX1_judge 23 = .ok (.if_icmp .gt 54, 3) := by decide +kernel
theorem dX1_judge_26 : decode cX1_judge 26 = .ok (.aload_n 1, 1) := by decide +kernel
theorem dX1_judge_27 : decode cX1_judge 27 = .ok (.aload_n 2, 1) := by decide +kernel
theorem dX1_judge_28 : decode cX1_judge 28 = .ok (.iload_n 3, 1) := by decide +kernel
theorem dX1_judge_29 : decode cX1_judge 29 = .ok (.iload 4, 2) := by decide +kernel
theorem dX1_judge_31 : decode cX1_judge 31 = .ok (.invokevirtual 32, 3) := by decide +kernel
theorem dX1_judge_34 : decode cX1_judge 34 = .ok (.istore 5, 2) := by decide +kernel
theorem dX1_judge_36 : decode cX1_judge 36 = .ok (.iload_n 3, 1) := by decide +kernel
theorem dX1_judge_37 : decode cX1_judge 37 = .ok (.ifCond .ne 8, 3) := by decide +kernel
theorem dX1_judge_40 : decode cX1_judge 40 = .ok (.iload 4, 2) := by decide +kernel
theorem dX1_judge_42 : decode cX1_judge 42 = .ok (.ifCond .eq 12, 3) := by decide +kernel
theorem dX1_judge_45 : decode cX1_judge 45 = .ok (.iload 5, 2) := by decide +kernel
theorem dX1_judge_47 : decode cX1_judge 47 = .ok (.aload_n 0, 1) := by decide +kernel
theorem dX1_judge_48 : decode cX1_judge 48 = .ok (.getfield 25, 3) := by decide +kernel
theorem dX1_judge_51 : decode cX1_judge 51 = .ok (.if_icmp .ge 20, 3) := by decide +kernel
theorem dX1_judge_54 : decode cX1_judge 54 = .ok (.aload_n 0, 1) := by decide +kernel
theorem dX1_judge_55 : decode cX1_judge 55 = .ok (.iload_n 3, 1) := by decide +kernel
theorem dX1_judge_56 : decode cX1_judge 56 = .ok (.putfield 19, 3) := by decide +kernel
theorem dX1_judge_59 : decode cX1_judge 59 = .ok (.aload_n 0, 1) := by decide +kernel
theorem dX1_judge_60 : decode cX1_judge 60 = .ok (.iload 4, 2) := by decide +kernel
theorem dX1_judge_62 : decode cX1_judge 62 = .ok (.putfield 22, 3) := by decide +kernel
theorem dX1_judge_65 : decode cX1_judge 65 = .ok (.aload_n 0, 1) := by decide +kernel
theorem dX1_judge_66 : decode cX1_judge 66 = .ok (.iload 5, 2) := by decide +kernel
theorem dX1_judge_68 : decode cX1_judge 68 = .ok (.putfield 25, 3) := by decide +kernel
theorem dX1_judge_71 : decode cX1_judge 71 = .ok (.iinc 4 1, 3) := by decide +kernel
theorem dX1_judge_74 : decode cX1_judge 74 = .ok (.goto (-54), 3) := by decide +kernel
theorem dX1_judge_77 : decode cX1_judge 77 = .ok (.iinc 3 1, 3) := by decide +kernel
theorem dX1_judge_80 : decode cX1_judge 80 = .ok (.goto (-69), 3) := by decide +kernel
theorem dX1_judge_83 : decode cX1_judge 83 = .ok (.aload_n 0, 1) := by decide +kernel
theorem dX1_judge_84 : decode cX1_judge 84 = .ok (.aload_n 1, 1) := by decide +kernel
theorem dX1_judge_85 : decode cX1_judge 85 = .ok (.getfield 38, 3) := by decide +kernel
theorem dX1_judge_88 : decode cX1_judge 88 = .ok (.putfield 15, 3) := by decide +kernel
theorem dX1_judge_91 : decode cX1_judge 91 = .ok (.iconst 0, 1) := by decide +kernel
theorem dX1_judge_92 : decode cX1_judge 92 = .ok (.istore_n 3, 1) := by decide +kernel
theorem dX1_judge_93 : decode cX1_judge 93 = .ok (.iload_n 3, 1) := by decide +kernel
theorem dX1_judge_94 : decode cX1_judge 94 = .ok (.aload_n 0, 1) := by decide +kernel
theorem dX1_judge_95 : decode cX1_judge 95 = .ok (.getfield 15, 3) := by decide +kernel
theorem dX1_judge_98 : decode cX1_judge 98 = .ok (.if_icmp .ge 21, 3) := by decide +kernel
theorem dX1_judge_101 : decode cX1_judge 101 = .ok (.aload_n 0, 1) := by decide +kernel
theorem dX1_judge_102 : decode cX1_judge 102 = .ok (.getfield 9, 3) := by decide +kernel
theorem dX1_judge_105 : decode cX1_judge 105 = .ok (.iload_n 3, 1) := by decide +kernel
theorem dX1_judge_106 : decode cX1_judge 106 = .ok (.aload_n 1, 1) := by decide +kernel
theorem dX1_judge_107 : decode cX1_judge 107 = .ok (.getfield 39, 3) := by decide +kernel
theorem dX1_judge_110 : decode cX1_judge 110 = .ok (.iload_n 3, 1) := by decide +kernel
theorem dX1_judge_111 : decode cX1_judge 111 = .ok (.iaload, 1) := by decide +kernel
theorem dX1_judge_112 : decode cX1_judge 112 = .ok (.iastore, 1) := by decide +kernel
theorem dX1_judge_113 : decode cX1_judge 113 = .ok (.iinc 3 1, 3) := by decide +kernel
theorem dX1_judge_116 : decode cX1_judge 116 = .ok (.goto (-23), 3) := by decide +kernel
theorem dX1_judge_119 : decode cX1_judge 119 = .ok (.return_, 1) := by decide +kernel
theorem dX1_isJudged_0 : decode cX1_isJudged 0 = .ok (.aload_n 0, 1) := by decide +kernel
theorem dX1_isJudged_1 : decode cX1_isJudged 1 = .ok (.getfield 15, 3) := by decide +kernel
theorem dX1_isJudged_4 : decode cX1_isJudged 4 = .ok (.aload_n 1, 1) := by decide +kernel
theorem dX1_isJudged_5 : decode cX1_isJudged 5 = .ok (.getfield 38, 3) := by decide +kernel
theorem dX1_isJudged_8 : decode cX1_isJudged 8 = .ok (.if_icmp .eq 5, 3) := by decide +kernel
theorem dX1_isJudged_11 : decode cX1_isJudged 11 = .ok (.iconst 0, 1) := by decide +kernel
theorem dX1_isJudged_12 : decode cX1_isJudged 12 = .ok (.ireturn, 1) := by decide +kernel
theorem dX1_isJudged_13 : decode cX1_isJudged 13 = .ok (.iconst 0, 1) := by decide +kernel
theorem dX1_isJudged_14 : decode cX1_isJudged 14 = .ok (.istore_n 2, 1) := by decide +kernel
theorem dX1_isJudged_15 : decode cX1_isJudged 15 = .ok (.iload_n 2, 1) := by decide +kernel
theorem dX1_isJudged_16 : decode cX1_isJudged 16 = .ok (.aload_n 0, 1) := by decide +kernel
theorem dX1_isJudged_17 : decode cX1_isJudged 17 = .ok (.getfield 15, 3) := by decide +kernel
theorem dX1_isJudged_20 : decode cX1_isJudged 20 = .ok (.if_icmp .ge 26, 3) := by decide +kernel
theorem dX1_isJudged_23 : decode cX1_isJudged 23 = .ok (.aload_n 0, 1) := by decide +kernel
theorem dX1_isJudged_24 : decode cX1_isJudged 24 = .ok (.getfield 9, 3) := by decide +kernel
theorem dX1_isJudged_27 : decode cX1_isJudged 27 = .ok (.iload_n 2, 1) := by decide +kernel
theorem dX1_isJudged_28 : decode cX1_isJudged 28 = .ok (.iaload, 1) := by decide +kernel
theorem dX1_isJudged_29 : decode cX1_isJudged 29 = .ok (.aload_n 1, 1) := by decide +kernel
theorem dX1_isJudged_30 : decode cX1_isJudged 30 = .ok (.getfield 39, 3) := by decide +kernel
theorem dX1_isJudged_33 : decode cX1_isJudged 33 = .ok (.iload_n 2, 1) := by decide +kernel
theorem dX1_isJudged_34 : decode cX1_isJudged 34 = .ok (.iaload, 1) := by decide +kernel
theorem dX1_isJudged_35 : decode cX1_isJudged 35 = .ok (.if_icmp .eq 5, 3) := by decide +kernel
theorem dX1_isJudged_38 : decode cX1_isJudged 38 = .ok (.iconst 0, 1) := by decide +kernel
theorem dX1_isJudged_39 : decode cX1_isJudged 39 = .ok (.ireturn, 1) := by decide +kernel
theorem dX1_isJudged_40 : decode cX1_isJudged 40 = .ok (.iinc 2 1, 3) := by decide +kernel
theorem dX1_isJudged_43 : decode cX1_isJudged 43 = .ok (.goto (-28), 3) := by decide +kernel
theorem dX1_isJudged_46 : decode cX1_isJudged 46 = .ok (.iconst 1, 1) := by decide +kernel
theorem dX1_isJudged_47 : decode cX1_isJudged 47 = .ok (.ireturn, 1) := by decide +kernel
theorem dX2_init_0 : decode cX2_init 0 = .ok (.aload_n 0, 1) := by decide +kernel
theorem dX2_init_1 : decode cX2_init 1 = .ok (.invokespecial 3, 3) := by decide +kernel
theorem dX2_init_4 : decode cX2_init 4 = .ok (.aload_n 0, 1) := by decide +kernel
theorem dX2_init_5 : decode cX2_init 5 = .ok (.sipush 128, 3) := by decide +kernel
theorem dX2_init_8 : decode cX2_init 8 = .ok (.newarray .int, 2) := by decide +kernel
theorem dX2_init_10 : decode cX2_init 10 = .ok (.putfield 9, 3) := by decide +kernel
theorem dX2_init_13 : decode cX2_init 13 = .ok (.aload_n 0, 1) := by decide +kernel
theorem dX2_init_14 : decode cX2_init 14 = .ok (.sipush 128, 3) := by decide +kernel
theorem dX2_init_17 : decode cX2_init 17 = .ok (.newarray .int, 2) := by decide +kernel
theorem dX2_init_19 : decode cX2_init 19 = .ok (.putfield 15, 3) := by decide +kernel
theorem dX2_init_22 : decode cX2_init 22 = .ok (.aload_n 0, 1) := by decide +kernel
theorem dX2_init_23 : decode cX2_init 23 = .ok (.sipush 128, 3) := by decide +kernel
theorem dX2_init_26 : decode cX2_init 26 = .ok (.newarray .int, 2) := by decide +kernel
theorem dX2_init_28 : decode cX2_init 28 = .ok (.putfield 18, 3) := by decide +kernel
theorem dX2_init_31 : decode cX2_init 31 = .ok (.aload_n 0, 1) := by decide +kernel
theorem dX2_init_32 : decode cX2_init 32 = .ok (.sipush 128, 3) := by decide +kernel
theorem dX2_init_35 : decode cX2_init 35 = .ok (.newarray .int, 2) := by decide +kernel
theorem dX2_init_37 : decode cX2_init 37 = .ok (.putfield 21, 3) := by decide +kernel
theorem dX2_init_40 : decode cX2_init 40 = .ok (.aload_n 0, 1) := by decide +kernel
theorem dX2_init_41 : decode cX2_init 41 = .ok (.bipush 7, 2) := by decide +kernel
theorem dX2_init_43 : decode cX2_init 43 = .ok (.newarray .int, 2) := by decide +kernel
theorem dX2_init_45 : decode cX2_init 45 = .ok (.putfield 24, 3) := by decide +kernel
theorem dX2_init_48 : decode cX2_init 48 = .ok (.aload_n 0, 1) := by decide +kernel
theorem dX2_init_49 : decode cX2_init 49 = .ok (.bipush 7, 2) := by decide +kernel
theorem dX2_init_51 : decode cX2_init 51 = .ok (.newarray .int, 2) := by decide +kernel
theorem dX2_init_53 : decode cX2_init 53 = .ok (.putfield 27, 3) := by decide +kernel
theorem dX2_init_56 : decode cX2_init 56 = .ok (.aload_n 0, 1) := by decide +kernel
theorem dX2_init_57 : decode cX2_init 57 = .ok (.iconst 3, 1) := by decide +kernel
theorem dX2_init_58 : decode cX2_init 58 = .ok (.putfield 30, 3) := by decide +kernel
theorem dX2_init_61 : decode cX2_init 61 = .ok (.aload_n 0, 1) := by decide +kernel
theorem dX2_init_62 : decode cX2_init 62 = .ok (.iconst 0, 1) := by decide +kernel
theorem dX2_init_63 : decode cX2_init 63 = .ok (.putfield 34, 3) := by decide +kernel
theorem dX2_init_66 : decode cX2_init 66 = .ok (.aload_n 0, 1) := by decide +kernel
theorem dX2_init_67 : decode cX2_init 67 = .ok (.iconst 0, 1) := by decide +kernel
theorem dX2_init_68 : decode cX2_init 68 = .ok (.putfield 37, 3) := by decide +kernel
theorem dX2_init_71 : decode cX2_init 71 = .ok (.aload_n 0, 1) := by decide +kernel
theorem dX2_init_72 : decode cX2_init 72 = .ok (.iconst 3, 1) := by decide +kernel
theorem dX2_init_73 : decode cX2_init 73 = .ok (.iconst 0, 1) := by decide +kernel
theorem dX2_init_74 : decode cX2_init 74 = .ok (.invokevirtual 40, 3) := by decide +kernel
theorem dX2_init_77 : decode cX2_init 77 = .ok (.return_, 1) := by decide +kernel
theorem dX2_begin_0 : decode cX2_begin 0 = .ok (.aload_n 0, 1) := by decide +kernel
theorem dX2_begin_1 : decode cX2_begin 1 = .ok (.iload_n 1, 1) := by decide +kernel
theorem dX2_begin_2 : decode cX2_begin 2 = .ok (.i2l, 1) := by decide +kernel
theorem dX2_begin_3 : decode cX2_begin 3 = .ok (.iconst 0, 1) := by decide +kernel
theorem dX2_begin_4 : decode cX2_begin 4 = .ok (.bipush 6, 2) := by decide +kernel
theorem dX2_begin_6 : decode cX2_begin 6 = .ok (.invokestatic 44, 3) := by decide +kernel
theorem dX2_begin_9 : decode cX2_begin 9 = .ok (.putfield 30, 3) := by decide +kernel
theorem dX2_begin_12 : decode cX2_begin 12 = .ok (.aload_n 0, 1) := by decide +kernel
theorem dX2_begin_13 : decode cX2_begin 13 = .ok (.iload_n 2, 1) := by decide +kernel
theorem dX2_begin_14 : decode cX2_begin 14 = .ok (.i2l, 1) := by decide +kernel
theorem dX2_begin_15 : decode cX2_begin 15 = .ok (.iconst 0, 1) := by decide +kernel
theorem dX2_begin_16 : decode cX2_begin 16 = .ok (.iconst 3, 1) := by decide +kernel
theorem dX2_begin_17 : decode cX2_begin 17 = .ok (.invokestatic 44, 3) := by decide +kernel
theorem dX2_begin_20 : decode cX2_begin 20 = .ok (.putfield 34, 3) := by decide +kernel
theorem dX2_begin_23 : decode cX2_begin 23 = .ok (.aload_n 0, 1) := by decide +kernel
theorem dX2_begin_24 : decode cX2_begin 24 = .ok (.iconst 0, 1) := by decide +kernel
theorem dX2_begin_25 : decode cX2_begin 25 = .ok (.putfield 37, 3) := by decide +kernel
theorem dX2_begin_28 : decode cX2_begin 28 = .ok (.iconst 0, 1) := by decide +kernel
theorem dX2_begin_29 : decode cX2_begin 29 = .ok (.iconst 0, 1) := by decide +kernel
theorem dX2_begin_30 : decode cX2_begin 30 = .ok (.invokestatic 48, 3) := by decide +kernel
theorem dX2_begin_33 : decode cX2_begin 33 = .ok (.istore_n 3, 1) := by decide +kernel
theorem dX2_begin_34 : decode cX2_begin 34 = .ok (.iload_n 3, 1) := by decide +kernel
theorem dX2_begin_35 : decode cX2_begin 35 = .ok (.iconst 2, 1) := by decide +kernel
theorem dX2_begin_36 : decode cX2_begin 36 = .ok (.aload_n 0, 1) := by decide +kernel
theorem dX2_begin_37 : decode cX2_begin 37 = .ok (.getfield 30, 3) := by decide +kernel
theorem dX2_begin_40 : decode cX2_begin 40 = .ok (.ishl, 1) := by decide +kernel
theorem dX2_begin_41 : decode cX2_begin 41 = .ok (.if_icmp .ge 38, 3) := by decide +kernel
theorem dX2_begin_44 : decode cX2_begin 44 = .ok (.aload_n 0, 1) := by decide +kernel
theorem dX2_begin_45 : decode cX2_begin 45 = .ok (.getfield 9, 3) := by decide +kernel
theorem dX2_begin_48 : decode cX2_begin 48 = .ok (.iload_n 3, 1) := by decide +kernel
theorem dX2_begin_49 : decode cX2_begin 49 = .ok (.iconst 0, 1) := by decide +kernel
theorem dX2_begin_50 : decode cX2_begin 50 = .ok (.iastore, 1) := by decide +kernel
theorem dX2_begin_51 : decode cX2_begin 51 = .ok (.aload_n 0, 1) := by decide +kernel
theorem dX2_begin_52 : decode cX2_begin 52 = .ok (.getfield 15, 3) := by decide +kernel
theorem dX2_begin_55 : decode cX2_begin 55 = .ok (.iload_n 3, 1) := by decide +kernel
theorem dX2_begin_56 : decode cX2_begin 56 = .ok (.iconst 0, 1) := by decide +kernel
theorem dX2_begin_57 : decode cX2_begin 57 = .ok (.iastore, 1) := by decide +kernel
theorem dX2_begin_58 : decode cX2_begin 58 = .ok (.aload_n 0, 1) := by decide +kernel
theorem dX2_begin_59 : decode cX2_begin 59 = .ok (.getfield 18, 3) := by decide +kernel
theorem dX2_begin_62 : decode cX2_begin 62 = .ok (.iload_n 3, 1) := by decide +kernel
theorem dX2_begin_63 : decode cX2_begin 63 = .ok (.ldc 52, 2) := by decide +kernel
theorem dX2_begin_65 : decode cX2_begin 65 = .ok (.iastore, 1) := by decide +kernel
theorem dX2_begin_66 : decode cX2_begin 66 = .ok (.aload_n 0, 1) := by decide +kernel
theorem dX2_begin_67 : decode cX2_begin 67 = .ok (.getfield 21, 3) := by decide +kernel
theorem dX2_begin_70 : decode cX2_begin 70 = .ok (.iload_n 3, 1) := by decide +kernel
theorem dX2_begin_71 : decode cX2_begin 71 = .ok (.iconst 0, 1) := by decide +kernel
theorem dX2_begin_72 : decode cX2_begin 72 = .ok (.iastore, 1) := by decide +kernel
theorem dX2_begin_73 : decode cX2_begin 73 = .ok (.iinc 3 1, 3) := by decide +kernel
theorem dX2_begin_76 : decode cX2_begin 76 = .ok (.goto (-42), 3) := by decide +kernel
theorem dX2_begin_79 : decode cX2_begin 79 = .ok (.aload_n 0, 1) := by decide +kernel
theorem dX2_begin_80 : decode cX2_begin 80 = .ok (.invokevirtual 53, 3) := by decide +kernel
theorem dX2_begin_83 : decode cX2_begin 83 = .ok (.return_, 1) := by decide +kernel
theorem dX2_has_0 : decode cX2_has 0 = .ok (.iload_n 1, 1) := by decide +kernel
theorem dX2_has_1 : decode cX2_has 1 = .ok (.iconst 0, 1) := by decide +kernel
theorem dX2_has_2 : decode cX2_has 2 = .ok (.aload_n 0, 1) := by decide +kernel
theorem dX2_has_3 : decode cX2_has 3 = .ok (.getfield 30, 3) := by decide +kernel
theorem dX2_has_6 : decode cX2_has 6 = .ok (.invokestatic 56, 3) := by decide +kernel
theorem dX2_has_9 : decode cX2_has 9 = .ok (.ifCond .eq 20, 3) := by decide +kernel
theorem dX2_has_12 : decode cX2_has 12 = .ok (.iload_n 2, 1) := by decide +kernel
theorem dX2_has_13 : decode cX2_has 13 = .ok (.iconst 0, 1) := by decide +kernel
theorem dX2_has_14 : decode cX2_has 14 = .ok (.iconst 1, 1) := by decide +kernel
theorem dX2_has_15 : decode cX2_has 15 = .ok (.iload_n 1, 1) := by decide +kernel
theorem dX2_has_16 : decode cX2_has 16 = .ok (.ishl, 1) := by decide +kernel
theorem dX2_has_17 : decode cX2_has 17 = .ok (.iconst 1, 1) := by decide +kernel
theorem dX2_has_18 : decode cX2_has 18 = .ok (.isub, 1) := by decide +kernel
theorem dX2_has_19 : decode cX2_has 19 = .ok (.invokestatic 56, 3) := by decide +kernel
theorem dX2_has_22 : decode cX2_has 22 = .ok (.ifCond .eq 7, 3) := by decide +kernel
theorem dX2_has_25 : decode cX2_has 25 = .ok (.iconst 1, 1) := by decide +kernel
theorem dX2_has_26 : decode cX2_has 26 = .ok (.goto 4, 3) := by decide +kernel
theorem dX2_has_29 : decode cX2_has 29 = .ok (.iconst 0, 1) := by decide +kernel
theorem dX2_has_30 : decode cX2_has 30 = .ok (.ireturn, 1) := by decide +kernel
theorem dX2_next_0 : decode cX2_next 0 = .ok (.aload_n 0, 1) := by decide +kernel
theorem dX2_next_1 : decode cX2_next 1 = .ok (.getfield 27, 3) := by decide +kernel
theorem dX2_next_4 : decode cX2_next 4 = .ok (.iconst 0, 1) := by decide +kernel
theorem dX2_next_5 : decode cX2_next 5 = .ok (.iaload, 1) := by decide +kernel
theorem dX2_next_6 : decode cX2_next 6 = .ok (.ireturn, 1) := by decide +kernel
theorem dX2_take_0 : decode cX2_take 0 = .ok (.iconst 0, 1) := by decide +kernel
theorem dX2_take_1 : decode cX2_take 1 = .ok (.istore_n 2, 1) := by decide +kernel
theorem dX2_take_2 : decode cX2_take 2 = .ok (.iload_n 2, 1) := by decide +kernel
theorem dX2_take_3 : decode cX2_take 3 = .ok (.aload_n 0, 1) := by decide +kernel
theorem dX2_take_4 : decode cX2_take 4 = .ok (.getfield 30, 3) := by decide +kernel
theorem dX2_take_7 : decode cX2_take 7 = .ok (.if_icmp .gt 61, 3) := by decide +kernel
theorem dX2_take_10 : decode cX2_take 10 = .ok (.iload_n 2, 1) := by decide +kernel
theorem dX2_take_11 : decode cX2_take 11 = .ok (.aload_n 0, 1) := by decide +kernel
theorem dX2_take_12 : decode cX2_take 12 = .ok (.getfield 37, 3) := by decide +kernel
theorem dX2_take_15 : decode cX2_take 15 = .ok (.invokestatic 48, 3) := by decide +kernel
theorem dX2_take_18 : decode cX2_take 18 = .ok (.istore_n 3, 1) := by decide +kernel
theorem dX2_take_19 : decode cX2_take 19 = .ok (.aload_n 0, 1) := by decide +kernel
theorem dX2_take_20 : decode cX2_take 20 = .ok (.getfield 21, 3) := by decide +kernel
theorem dX2_take_23 : decode cX2_take 23 = .ok (.iload_n 3, 1) := by decide +kernel
theorem dX2_take_24 : decode cX2_take 24 = .ok (.dup2, 1) := by decide +kernel
theorem dX2_take_25 : decode cX2_take 25 = .ok (.iaload, 1) := by decide +kernel
theorem dX2_take_26 : decode cX2_take 26 = .ok (.iload_n 1, 1) := by decide +kernel
theorem dX2_take_27 : decode cX2_take 27 = .ok (.aload_n 0, 1) := by decide +kernel
theorem dX2_take_28 : decode cX2_take 28 = .ok (.getfield 24, 3) := by decide +kernel
theorem dX2_take_31 : decode cX2_take 31 = .ok (.iload_n 2, 1) := by decide +kernel
theorem dX2_take_32 : decode cX2_take 32 = .ok (.iaload, 1) := by decide +kernel
theorem dX2_take_33 : decode cX2_take 33 = .ok (.invokestatic 60, 3) := by decide +kernel
theorem dX2_take_36 : decode cX2_take 36 = .ok (.invokestatic 63, 3) := by decide +kernel
theorem dX2_take_39 : decode cX2_take 39 = .ok (.iadd, 1) := by decide +kernel
theorem dX2_take_40 : decode cX2_take 40 = .ok (.iastore, 1) := by decide +kernel
theorem dX2_take_41 : decode cX2_take 41 = .ok (.iload_n 2, 1) := by decide +kernel
theorem dX2_take_42 : decode cX2_take 42 = .ok (.aload_n 0, 1) := by decide +kernel
theorem dX2_take_43 : decode cX2_take 43 = .ok (.getfield 30, 3) := by decide +kernel
theorem dX2_take_46 : decode cX2_take 46 = .ok (.if_icmp .ge 10, 3) := by decide +kernel
theorem dX2_take_49 : decode cX2_take 49 = .ok (.aload_n 0, 1) := by decide +kernel
theorem dX2_take_50 : decode cX2_take 50 = .ok (.iload_n 3, 1) := by decide +kernel
theorem dX2_take_51 : decode cX2_take 51 = .ok (.iload_n 2, 1) := by decide +kernel
theorem dX2_take_52 : decode cX2_take 52 = .ok (.iload_n 1, 1) := by decide +kernel
theorem dX2_take_53 : decode cX2_take 53 = .ok (.invokevirtual 67, 3) := by decide +kernel
theorem dX2_take_56 : decode cX2_take 56 = .ok (.aload_n 0, 1) := by decide +kernel
theorem dX2_take_57 : decode cX2_take 57 = .ok (.iload_n 3, 1) := by decide +kernel
theorem dX2_take_58 : decode cX2_take 58 = .ok (.iload_n 1, 1) := by decide +kernel
theorem dX2_take_59 : decode cX2_take 59 = .ok (.invokevirtual 71, 3) := by decide +kernel
theorem dX2_take_62 : decode cX2_take 62 = .ok (.iinc 2 1, 3) := by decide +kernel
theorem dX2_take_65 : decode cX2_take 65 = .ok (.goto (-63), 3) := by decide +kernel
theorem dX2_take_68 : decode cX2_take 68 = .ok (.aload_n 0, 1) := by decide +kernel
theorem dX2_take_69 : decode cX2_take 69 = .ok (.aload_n 0, 1) := by decide +kernel
theorem dX2_take_70 : decode cX2_take 70 = .ok (.getfield 37, 3) := by decide +kernel
theorem dX2_take_73 : decode cX2_take 73 = .ok (.iconst 1, 1) := by decide +kernel
theorem dX2_take_74 : decode cX2_take 74 = .ok (.ishl, 1) := by decide +kernel
theorem dX2_take_75 : decode cX2_take 75 = .ok (.iload_n 1, 1) := by decide +kernel
theorem dX2_take_76 : decode cX2_take 76 = .ok (.ior, 1) := by decide +kernel
theorem dX2_take_77 : decode cX2_take 77 = .ok (.bipush 63, 2) := by decide +kernel
theorem dX2_take_79 : decode cX2_take 79 = .ok (.iand, 1) := by decide +kernel
theorem dX2_take_80 : decode cX2_take 80 = .ok (.putfield 37, 3) := by decide +kernel
theorem dX2_take_83 : decode cX2_take 83 = .ok (.aload_n 0, 1) := by decide +kernel
theorem dX2_take_84 : decode cX2_take 84 = .ok (.invokevirtual 53, 3) := by decide +kernel
theorem dX2_take_87 : decode cX2_take 87 = .ok (.return_, 1) := by decide +kernel
theorem dX2_lookAhead_0 : decode cX2_lookAhead 0 = .ok (.aload_n 0, 1) := by decide +kernel
theorem dX2_lookAhead_1 : decode cX2_lookAhead 1 = .ok (.getfield 30, 3) := by decide +kernel
theorem dX2_lookAhead_4 : decode cX2_lookAhead 4 = .ok (.istore_n 1, 1) := by decide +kernel
theorem dX2_lookAhead_5 : decode cX2_lookAhead 5 = .ok (.iload_n 1, 1) := by decide +kernel
theorem dX2_lookAhead_6 : decode cX2_lookAhead 6 = .ok (.ifCond .lt 72, 3) := by decide +kernel
theorem dX2_lookAhead_9 : decode cX2_lookAhead 9 = .ok (.iload_n 1, 1) := by decide +kernel
theorem dX2_lookAhead_10 : decode cX2_lookAhead 10 = .ok (.aload_n 0, 1) := by decide +kernel
theorem dX2_lookAhead_11 : decode cX2_lookAhead 11 = .ok (.getfield 37, 3) := by decide +kernel
theorem dX2_lookAhead_14 : decode cX2_lookAhead 14 = .ok (.invokestatic 48, 3) := by decide +kernel
theorem dX2_lookAhead_17 : decode cX2_lookAhead 17 = .ok (.istore_n 2, 1) := by decide +kernel
theorem dX2_lookAhead_18 : decode cX2_lookAhead 18 = .ok (.aload_n 0, 1) := by decide +kernel
theorem dX2_lookAhead_19 : decode cX2_lookAhead 19 = .ok (.getfield 24, 3) := by decide +kernel
theorem dX2_lookAhead_22 : decode cX2_lookAhead 22 = .ok (.iload_n 1, 1) := by decide +kernel
theorem dX2_lookAhead_23 : decode cX2_lookAhead 23 = .ok (.aload_n 0, 1) := by decide +kernel
theorem dX2_lookAhead_24 : decode cX2_lookAhead 24 = .ok (.getfield 34, 3) := by decide +kernel
theorem dX2_lookAhead_27 : decode cX2_lookAhead 27 = .ok (.aload_n 0, 1) := by decide +kernel
theorem dX2_lookAhead_28 : decode cX2_lookAhead 28 = .ok (.getfield 9, 3) := by decide +kernel
theorem dX2_lookAhead_31 : decode cX2_lookAhead 31 = .ok (.iload_n 2, 1) := by decide +kernel
theorem dX2_lookAhead_32 : decode cX2_lookAhead 32 = .ok (.iaload, 1) := by decide +kernel
theorem dX2_lookAhead_33 : decode cX2_lookAhead 33 = .ok (.aload_n 0, 1) := by decide +kernel
theorem dX2_lookAhead_34 : decode cX2_lookAhead 34 = .ok (.getfield 15, 3) := by decide +kernel
theorem dX2_lookAhead_37 : decode cX2_lookAhead 37 = .ok (.iload_n 2, 1) := by decide +kernel
theorem dX2_lookAhead_38 : decode cX2_lookAhead 38 = .ok (.iaload, 1) := by decide +kernel
theorem dX2_lookAhead_39 : decode cX2_lookAhead 39 = .ok (.invokestatic 74, 3) := by decide +kernel
theorem dX2_lookAhead_42 : decode cX2_lookAhead 42 = .ok (.iastore, 1) := by decide +kernel
theorem dX2_lookAhead_43 : decode cX2_lookAhead 43 = .ok (.aload_n 0, 1) := by decide +kernel
theorem dX2_lookAhead_44 : decode cX2_lookAhead 44 = .ok (.getfield 27, 3) := by decide +kernel
theorem dX2_lookAhead_47 : decode cX2_lookAhead 47 = .ok (.iload_n 1, 1) := by decide +kernel
theorem dX2_lookAhead_48 : decode cX2_lookAhead 48 = .ok (.iload_n 1, 1) := by decide +kernel
theorem dX2_lookAhead_49 : decode cX2_lookAhead 49 = .ok (.aload_n 0, 1) := by decide +kernel
theorem dX2_lookAhead_50 : decode cX2_lookAhead 50 = .ok (.getfield 30, 3) := by decide +kernel
theorem dX2_lookAhead_53 : decode cX2_lookAhead 53 = .ok (.if_icmp .ge 12, 3) := by decide +kernel
theorem dX2_lookAhead_56 : decode cX2_lookAhead 56 = .ok (.aload_n 0, 1) := by decide +kernel
theorem dX2_lookAhead_57 : decode cX2_lookAhead 57 = .ok (.iload_n 2, 1) := by decide +kernel
theorem dX2_lookAhead_58 : decode cX2_lookAhead 58 = .ok (.iload_n 1, 1) := by decide +kernel
theorem dX2_lookAhead_59 : decode cX2_lookAhead 59 = .ok (.invokevirtual 78, 3) := by decide +kernel
theorem dX2_lookAhead_62 : decode cX2_lookAhead 62 = .ok (.goto 9, 3) := by decide +kernel
theorem dX2_lookAhead_65 : decode cX2_lookAhead 65 = .ok (.aload_n 0, 1) := by decide +kernel
theorem dX2_lookAhead_66 : decode cX2_lookAhead 66 = .ok (.getfield 24, 3) := by decide +kernel
theorem dX2_lookAhead_69 : decode cX2_lookAhead 69 = .ok (.iload_n 1, 1) := by decide +kernel
theorem dX2_lookAhead_70 : decode cX2_lookAhead 70 = .ok (.iaload, 1) := by decide +kernel
theorem dX2_lookAhead_71 : decode cX2_lookAhead 71 = .ok (.iastore, 1) := by decide +kernel
theorem dX2_lookAhead_72 : decode cX2_lookAhead 72 = .ok (.iinc 1 (-1), 3) := by decide +kernel
theorem dX2_lookAhead_75 : decode cX2_lookAhead 75 = .ok (.goto (-70), 3) := by decide +kernel
theorem dX2_lookAhead_78 : decode cX2_lookAhead 78 = .ok (.return_, 1) := by decide +kernel
theorem dX2_mix_0 : decode cX2_mix 0 = .ok (.aload_n 0, 1) := by decide +kernel
theorem dX2_mix_1 : decode cX2_mix 1 = .ok (.getfield 18, 3) := by decide +kernel
theorem dX2_mix_4 : decode cX2_mix 4 = .ok (.iload_n 1, 1) := by decide +kernel
theorem dX2_mix_5 : decode cX2_mix 5 = .ok (.iaload, 1) := by decide +kernel
theorem dX2_mix_6 : decode cX2_mix 6 = .ok (.i2l, 1) := by decide +kernel
theorem dX2_mix_7 : decode cX2_mix 7 = .ok (.lstore_n 3, 1) := by decide +kernel
theorem dX2_mix_8 : decode cX2_mix 8 = .ok (.lload_n 3, 1) := by decide +kernel
theorem dX2_mix_9 : decode cX2_mix 9 = .ok (.aload_n 0, 1) := by decide +kernel
theorem dX2_mix_10 : decode cX2_mix 10 = .ok (.getfield 24, 3) := by decide +kernel
theorem dX2_mix_13 : decode cX2_mix 13 = .ok (.iload_n 2, 1) := by decide +kernel
theorem dX2_mix_14 : decode cX2_mix 14 = .ok (.iaload, 1) := by decide +kernel
theorem dX2_mix_15 : decode cX2_mix 15 = .ok (.i2l, 1) := by decide +kernel
theorem dX2_mix_16 : decode cX2_mix 16 = .ok (.lmul, 1) := by decide +kernel
theorem dX2_mix_17 : decode cX2_mix 17 = .ok (.ldc2_w 81, 3) := by decide +kernel
theorem dX2_mix_20 : decode cX2_mix 20 = .ok (.lload_n 3, 1) := by decide +kernel
theorem dX2_mix_21 : decode cX2_mix 21 = .ok (.lsub, 1) := by decide +kernel
theorem dX2_mix_22 : decode cX2_mix 22 = .ok (.aload_n 0, 1) := by decide +kernel
theorem dX2_mix_23 : decode cX2_mix 23 = .ok (.getfield 27, 3) := by decide +kernel
theorem dX2_mix_26 : decode cX2_mix 26 = .ok (.iload_n 2, 1) := by decide +kernel
theorem dX2_mix_27 : decode cX2_mix 27 = .ok (.iconst 1, 1) := by decide +kernel
theorem dX2_mix_28 : decode cX2_mix 28 = .ok (.iadd, 1) := by decide +kernel
theorem dX2_mix_29 : decode cX2_mix 29 = .ok (.iaload, 1) := by decide +kernel
theorem dX2_mix_30 : decode cX2_mix 30 = .ok (.i2l, 1) := by decide +kernel
theorem dX2_mix_31 : decode cX2_mix 31 = .ok (.lmul, 1) := by decide +kernel
theorem dX2_mix_32 : decode cX2_mix 32 = .ok (.ladd, 1) := by decide +kernel
theorem dX2_mix_33 : decode cX2_mix 33 = .ok (.lstore 5, 2) := by decide +kernel
theorem dX2_mix_35 : decode cX2_mix 35 = .ok (.lload 5, 2) := by decide +kernel
theorem dX2_mix_37 : decode cX2_mix 37 = .ok (.ldc2_w 81, 3) := by decide +kernel
theorem dX2_mix_40 : decode cX2_mix 40 = .ok (.ldiv, 1) := by decide +kernel
theorem dX2_mix_41 : decode cX2_mix 41 = .ok (.iconst 1, 1) := by decide +kernel
theorem dX2_mix_42 : decode cX2_mix 42 = .ok (.ldc 83, 2) := by decide +kernel
theorem dX2_mix_44 : decode cX2_mix 44 = .ok (.invokestatic 44, 3) := by decide +kernel
theorem dX2_mix_47 : decode cX2_mix 47 = .ok (.ireturn, 1) := by decide +kernel
theorem dX2_weighAnew_0 : decode cX2_weighAnew 0 = .ok (.aload_n 0, 1) := by decide +kernel
theorem dX2_weighAnew_1 : decode cX2_weighAnew 1 = .ok (.getfield 18, 3) := by decide +kernel
theorem dX2_weighAnew_4 : decode cX2_weighAnew 4 = .ok (.iload_n 1, 1) := by decide +kernel
theorem dX2_weighAnew_5 : decode cX2_weighAnew 5 = .ok (.iaload, 1) := by decide +kernel
theorem dX2_weighAnew_6 : decode cX2_weighAnew 6 = .ok (.i2l, 1) := by decide +kernel
theorem dX2_weighAnew_7 : decode cX2_weighAnew 7 = .ok (.lstore 4, 2) := by decide +kernel
theorem dX2_weighAnew_9 : decode cX2_weighAnew 9 = .ok (.lload 4, 2) := by decide +kernel
theorem dX2_weighAnew_11 : decode cX2_weighAnew 11 = .ok (.iload_n 3, 1) := by decide +kernel
theorem dX2_weighAnew_12 : decode cX2_weighAnew 12 = .ok (.aload_n 0, 1) := by decide +kernel
theorem dX2_weighAnew_13 : decode cX2_weighAnew 13 = .ok (.getfield 24, 3) := by decide +kernel
theorem dX2_weighAnew_16 : decode cX2_weighAnew 16 = .ok (.iload_n 2, 1) := by decide +kernel
theorem dX2_weighAnew_17 : decode cX2_weighAnew 17 = .ok (.iaload, 1) := by decide +kernel
theorem dX2_weighAnew_18 : decode cX2_weighAnew 18 = .ok (.invokestatic 60, 3) := by decide +kernel
theorem dX2_weighAnew_21 : decode cX2_weighAnew 21 = .ok (.i2l, 1) := by decide +kernel
theorem dX2_weighAnew_22 : decode cX2_weighAnew 22 = .ok (.lmul, 1) := by decide +kernel
theorem dX2_weighAnew_23 : decode cX2_weighAnew 23 = .ok (.lstore 6, 2) := by decide +kernel
theorem dX2_weighAnew_25 : decode cX2_weighAnew 25 = .ok (.ldc2_w 81, 3) := by decide +kernel
theorem dX2_weighAnew_28 : decode cX2_weighAnew 28 = .ok (.lload 4, 2) := by decide +kernel
theorem dX2_weighAnew_30 : decode cX2_weighAnew 30 = .ok (.lsub, 1) := by decide +kernel
theorem dX2_weighAnew_31 : decode cX2_weighAnew 31 = .ok (.iload_n 3, 1) := by decide +kernel
theorem dX2_weighAnew_32 : decode cX2_weighAnew 32 = .ok (.aload_n 0, 1) := by decide +kernel
theorem dX2_weighAnew_33 : decode cX2_weighAnew 33 = .ok (.getfield 27, 3) := by decide +kernel
theorem dX2_weighAnew_36 : decode cX2_weighAnew 36 = .ok (.iload_n 2, 1) := by decide +kernel
theorem dX2_weighAnew_37 : decode cX2_weighAnew 37 = .ok (.iconst 1, 1) := by decide +kernel
theorem dX2_weighAnew_38 : decode cX2_weighAnew 38 = .ok (.iadd, 1) := by decide +kernel
theorem dX2_weighAnew_39 : decode cX2_weighAnew 39 = .ok (.iaload, 1) := by decide +kernel
theorem dX2_weighAnew_40 : decode cX2_weighAnew 40 = .ok (.invokestatic 60, 3) := by decide +kernel
theorem dX2_weighAnew_43 : decode cX2_weighAnew 43 = .ok (.i2l, 1) := by decide +kernel
theorem dX2_weighAnew_44 : decode cX2_weighAnew 44 = .ok (.lmul, 1) := by decide +kernel
theorem dX2_weighAnew_45 : decode cX2_weighAnew 45 = .ok (.lstore 8, 2) := by decide +kernel
theorem dX2_weighAnew_47 : decode cX2_weighAnew 47 = .ok (.aload_n 0, 1) := by decide +kernel
theorem dX2_weighAnew_48 : decode cX2_weighAnew 48 = .ok (.getfield 18, 3) := by decide +kernel
theorem dX2_weighAnew_51 : decode cX2_weighAnew 51 = .ok (.iload_n 1, 1) := by decide +kernel
theorem dX2_weighAnew_52 : decode cX2_weighAnew 52 = .ok (.ldc2_w 81, 3) := by decide +kernel
theorem dX2_weighAnew_55 : decode cX2_weighAnew 55 = .ok (.lload 6, 2) := by decide +kernel
theorem dX2_weighAnew_57 : decode cX2_weighAnew 57 = .ok (.lmul, 1) := by decide +kernel
theorem dX2_weighAnew_58 : decode cX2_weighAnew 58 = .ok (.lload 6, 2) := by decide +kernel
theorem dX2_weighAnew_60 : decode cX2_weighAnew 60 = .ok (.lload 8, 2) := by decide +kernel
theorem dX2_weighAnew_62 : decode cX2_weighAnew 62 = .ok (.ladd, 1) := by decide +kernel
theorem dX2_weighAnew_63 : decode cX2_weighAnew 63 = .ok (.invokestatic 84, 3) := by decide +kernel
theorem dX2_weighAnew_66 : decode cX2_weighAnew 66 = .ok (.bipush 64, 2) := by decide +kernel
theorem dX2_weighAnew_68 : decode cX2_weighAnew 68 = .ok (.ldc 88, 2) := by decide +kernel
theorem dX2_weighAnew_70 : decode cX2_weighAnew 70 = .ok (.invokestatic 44, 3) := by decide +kernel
theorem dX2_weighAnew_73 : decode cX2_weighAnew 73 = .ok (.iastore, 1) := by decide +kernel
theorem dX2_weighAnew_74 : decode cX2_weighAnew 74 = .ok (.return_, 1) := by decide +kernel
theorem dX2_tally_0 : decode cX2_tally 0 = .ok (.iload_n 2, 1) := by decide +kernel
theorem dX2_tally_1 : decode cX2_tally 1 = .ok (.iconst 1, 1) := by decide +kernel
theorem dX2_tally_2 : decode cX2_tally 2 = .ok (.if_icmp .ne 16, 3) := by decide +kernel
theorem dX2_tally_5 : decode cX2_tally 5 = .ok (.aload_n 0, 1) := by decide +kernel
theorem dX2_tally_6 : decode cX2_tally 6 = .ok (.getfield 15, 3) := by decide +kernel
theorem dX2_tally_9 : decode cX2_tally 9 = .ok (.iload_n 1, 1) := by decide +kernel
theorem dX2_tally_10 : decode cX2_tally 10 = .ok (.dup2, 1) := by decide +kernel
theorem dX2_tally_11 : decode cX2_tally 11 = .ok (.iaload, 1) := by decide +kernel
theorem dX2_tally_12 : decode cX2_tally 12 = .ok (.iconst 1, 1) := by decide +kernel
theorem dX2_tally_13 : decode cX2_tally 13 = .ok (.iadd, 1) := by decide +kernel
theorem dX2_tally_14 : decode cX2_tally 14 = .ok (.iastore, 1) := by decide +kernel
theorem dX2_tally_15 : decode cX2_tally 15 = .ok (.goto 13, 3) := by decide +kernel
theorem dX2_tally_18 : decode cX2_tally 18 = .ok (.aload_n 0, 1) := by decide +kernel
theorem dX2_tally_19 : decode cX2_tally 19 = .ok (.getfield 9, 3) := by decide +kernel
theorem dX2_tally_22 : decode cX2_tally 22 = .ok (.iload_n 1, 1) := by decide +kernel
theorem dX2_tally_23 : decode cX2_tally 23 = .ok (.dup2, 1) := by decide +kernel
theorem dX2_tally_24 : decode cX2_tally 24 = .ok (.iaload, 1) := by decide +kernel
theorem dX2_tally_25 : decode cX2_tally 25 = .ok (.iconst 1, 1) := by decide +kernel
theorem dX2_tally_26 : decode cX2_tally 26 = .ok (.iadd, 1) := by decide +kernel
theorem dX2_tally_27 : decode cX2_tally 27 = .ok (.iastore, 1) := by decide +kernel
theorem dX2_tally_28 : decode cX2_tally 28 = .ok (.aload_n 0, 1) := by decide +kernel
theorem dX2_tally_29 : decode cX2_tally 29 = .ok (.getfield 9, 3) := by decide +kernel
theorem dX2_tally_32 : decode cX2_tally 32 = .ok (.iload_n 1, 1) := by decide +kernel
theorem dX2_tally_33 : decode cX2_tally 33 = .ok (.iaload, 1) := by decide +kernel
theorem dX2_tally_34 : decode cX2_tally 34 = .ok (.bipush 60, 2) := by decide +kernel
theorem dX2_tally_36 : decode cX2_tally 36 = .ok (.if_icmp .gt 14, 3) := by decide +kernel
theorem dX2_tally_39 : decode cX2_tally 39 = .ok (.aload_n 0, 1) := by decide +kernel
theorem dX2_tally_40 : decode cX2_tally 40 = .ok (.getfield 15, 3) := by decide +kernel
theorem dX2_tally_43 : decode cX2_tally 43 = .ok (.iload_n 1, 1) := by decide +kernel
theorem dX2_tally_44 : decode cX2_tally 44 = .ok (.iaload, 1) := by decide +kernel
theorem dX2_tally_45 : decode cX2_tally 45 = .ok (.bipush 60, 2) := by decide +kernel
theorem dX2_tally_47 : decode cX2_tally 47 = .ok (.if_icmp .le 23, 3) := by decide +kernel
theorem dX2_tally_50 : decode cX2_tally 50 = .ok (.aload_n 0, 1) := by decide +kernel
theorem dX2_tally_51 : decode cX2_tally 51 = .ok (.getfield 9, 3) := by decide +kernel
theorem dX2_tally_54 : decode cX2_tally 54 = .ok (.iload_n 1, 1) := by decide +kernel
theorem dX2_tally_55 : decode cX2_tally 55 = .ok (.dup2, 1) := by decide +kernel
theorem dX2_tally_56 : decode cX2_tally 56 = .ok (.iaload, 1) := by decide +kernel
theorem dX2_tally_57 : decode cX2_tally 57 = .ok (.iconst 2, 1) := by decide +kernel
theorem dX2_tally_58 : decode cX2_tally 58 = .ok (.idiv, 1) := by decide +kernel
theorem dX2_tally_59 : decode cX2_tally 59 = .ok (.iastore, 1) := by decide +kernel
theorem dX2_tally_60 : decode cX2_tally 60 = .ok (.aload_n 0, 1) := by decide +kernel
theorem dX2_tally_61 : decode cX2_tally 61 = .ok (.getfield 15, 3) := by decide +kernel
theorem dX2_tally_64 : decode cX2_tally 64 = .ok (.iload_n 1, 1) := by decide +kernel
theorem dX2_tally_65 : decode cX2_tally 65 = .ok (.dup2, 1) := by decide +kernel
theorem dX2_tally_66 : decode cX2_tally 66 = .ok (.iaload, 1) := by decide +kernel
theorem dX2_tally_67 : decode cX2_tally 67 = .ok (.iconst 2, 1) := by decide +kernel
theorem dX2_tally_68 : decode cX2_tally 68 = .ok (.idiv, 1) := by decide +kernel
theorem dX2_tally_69 : decode cX2_tally 69 = .ok (.iastore, 1) := by decide +kernel
theorem dX2_tally_70 : decode cX2_tally 70 = .ok (.return_, 1) := by decide +kernel
theorem dX3_init_0 : decode cX3_init 0 = .ok (.aload_n 0, 1) := by decide +kernel
theorem dX3_init_1 : decode cX3_init 1 = .ok (.invokespecial 3, 3) := by decide +kernel
theorem dX3_init_4 : decode cX3_init 4 = .ok (.aload_n 0, 1) := by decide +kernel
theorem dX3_init_5 : decode cX3_init 5 = .ok (.bipush 100, 2) := by decide +kernel
theorem dX3_init_7 : decode cX3_init 7 = .ok (.newarray .int, 2) := by decide +kernel
theorem dX3_init_9 : decode cX3_init 9 = .ok (.putfield 9, 3) := by decide +kernel
theorem dX3_init_12 : decode cX3_init 12 = .ok (.aload_n 0, 1) := by decide +kernel
theorem dX3_init_13 : decode cX3_init 13 = .ok (.bipush 100, 2) := by decide +kernel
theorem dX3_init_15 : decode cX3_init 15 = .ok (.newarray .int, 2) := by decide +kernel
theorem dX3_init_17 : decode cX3_init 17 = .ok (.putfield 15, 3) := by decide +kernel
theorem dX3_init_20 : decode cX3_init 20 = .ok (.aload_n 0, 1) := by decide +kernel
theorem dX3_init_21 : decode cX3_init 21 = .ok (.bipush 100, 2) := by decide +kernel
theorem dX3_init_23 : decode cX3_init 23 = .ok (.newarray .int, 2) := by decide +kernel
theorem dX3_init_25 : decode cX3_init 25 = .ok (.putfield 18, 3) := by decide +kernel
theorem dX3_init_28 : decode cX3_init 28 = .ok (.aload_n 0, 1) := by decide +kernel
theorem dX3_init_29 : decode cX3_init 29 = .ok (.new 21, 3) := by decide +kernel
theorem dX3_init_32 : decode cX3_init 32 = .ok (.dup, 1) := by decide +kernel
theorem dX3_init_33 : decode cX3_init 33 = .ok (.invokespecial 23, 3) := by decide +kernel
theorem dX3_init_36 : decode cX3_init 36 = .ok (.putfield 24, 3) := by decide +kernel
theorem dX3_init_39 : decode cX3_init 39 = .ok (.aload_n 0, 1) := by decide +kernel
theorem dX3_init_40 : decode cX3_init 40 = .ok (.iconst 0, 1) := by decide +kernel
theorem dX3_init_41 : decode cX3_init 41 = .ok (.putfield 28, 3) := by decide +kernel
theorem dX3_init_44 : decode cX3_init 44 = .ok (.aload_n 0, 1) := by decide +kernel
theorem dX3_init_45 : decode cX3_init 45 = .ok (.iconst 0, 1) := by decide +kernel
theorem dX3_init_46 : decode cX3_init 46 = .ok (.putfield 32, 3) := by decide +kernel
theorem dX3_init_49 : decode cX3_init 49 = .ok (.return_, 1) := by decide +kernel
theorem dX3_has_0 : decode cX3_has 0 = .ok (.iload_n 1, 1) := by decide +kernel
theorem dX3_has_1 : decode cX3_has 1 = .ok (.iconst 0, 1) := by decide +kernel
theorem dX3_has_2 : decode cX3_has 2 = .ok (.aload_n 0, 1) := by decide +kernel
theorem dX3_has_3 : decode cX3_has 3 = .ok (.getfield 28, 3) := by decide +kernel
theorem dX3_has_6 : decode cX3_has 6 = .ok (.iconst 1, 1) := by decide +kernel
theorem dX3_has_7 : decode cX3_has 7 = .ok (.isub, 1) := by decide +kernel
theorem dX3_has_8 : decode cX3_has 8 = .ok (.invokestatic 35, 3) := by decide +kernel
theorem dX3_has_11 : decode cX3_has 11 = .ok (.ireturn, 1) := by decide +kernel
theorem dX3_put_0 : decode cX3_put 0 = .ok (.aload_n 0, 1) := by decide +kernel
theorem dX3_put_1 : decode cX3_put 1 = .ok (.getfield 28, 3) := by decide +kernel
theorem dX3_put_4 : decode cX3_put 4 = .ok (.iconst 0, 1) := by decide +kernel
theorem dX3_put_5 : decode cX3_put 5 = .ok (.bipush 99, 2) := by decide +kernel
theorem dX3_put_7 : decode cX3_put 7 = .ok (.invokestatic 35, 3) := by decide +kernel
theorem dX3_put_10 : decode cX3_put 10 = .ok (.ifCond .ne 5, 3) := by decide +kernel
theorem dX3_put_13 : decode cX3_put 13 = .ok (.iconst 0, 1) := by decide +kernel
theorem dX3_put_14 : decode cX3_put 14 = .ok (.ireturn, 1) := by decide +kernel
theorem dX3_put_15 : decode cX3_put 15 = .ok (.aload_n 0, 1) := by decide +kernel
theorem dX3_put_16 : decode cX3_put 16 = .ok (.getfield 9, 3) := by decide +kernel
theorem dX3_put_19 : decode cX3_put 19 = .ok (.aload_n 0, 1) := by decide +kernel
theorem dX3_put_20 : decode cX3_put 20 = .ok (.getfield 28, 3) := by decide +kernel
theorem dX3_put_23 : decode cX3_put 23 = .ok (.iload_n 1, 1) := by decide +kernel
theorem dX3_put_24 : decode cX3_put 24 = .ok (.iastore, 1) := by decide +kernel
theorem dX3_put_25 : decode cX3_put 25 = .ok (.aload_n 0, 1) := by decide +kernel
theorem dX3_put_26 : decode cX3_put 26 = .ok (.getfield 15, 3) := by decide +kernel
theorem dX3_put_29 : decode cX3_put 29 = .ok (.aload_n 0, 1) := by decide +kernel
theorem dX3_put_30 : decode cX3_put 30 = .ok (.getfield 28, 3) := by decide +kernel
theorem dX3_put_33 : decode cX3_put 33 = .ok (.aload_n 0, 1) := by decide +kernel
theorem dX3_put_34 : decode cX3_put 34 = .ok (.getfield 24, 3) := by decide +kernel
theorem dX3_put_37 : decode cX3_put 37 = .ok (.invokevirtual 39, 3) := by decide +kernel
theorem dX3_put_40 : decode cX3_put 40 = .ok (.iastore, 1) := by decide +kernel
theorem dX3_put_41 : decode cX3_put 41 = .ok (.aload_n 0, 1) := by decide +kernel
theorem dX3_put_42 : decode cX3_put 42 = .ok (.getfield 18, 3) := by decide +kernel
theorem dX3_put_45 : decode cX3_put 45 = .ok (.aload_n 0, 1) := by decide +kernel
theorem dX3_put_46 : decode cX3_put 46 = .ok (.getfield 28, 3) := by decide +kernel
theorem dX3_put_49 : decode cX3_put 49 = .ok (.iload_n 1, 1) := by decide +kernel
theorem dX3_put_50 : decode cX3_put 50 = .ok (.aload_n 0, 1) := by decide +kernel
theorem dX3_put_51 : decode cX3_put 51 = .ok (.getfield 24, 3) := by decide +kernel
theorem dX3_put_54 : decode cX3_put 54 = .ok (.invokevirtual 39, 3) := by decide +kernel
theorem dX3_put_57 : decode cX3_put 57 = .ok (.invokestatic 43, 3) := by decide +kernel
theorem dX3_put_60 : decode cX3_put 60 = .ok (.invokestatic 47, 3) := by decide +kernel
theorem dX3_put_63 : decode cX3_put 63 = .ok (.iastore, 1) := by decide +kernel
theorem dX3_put_64 : decode cX3_put 64 = .ok (.aload_n 0, 1) := by decide +kernel
theorem dX3_put_65 : decode cX3_put 65 = .ok (.dup, 1) := by decide +kernel
theorem dX3_put_66 : decode cX3_put 66 = .ok (.getfield 32, 3) := by decide +kernel
theorem dX3_put_69 : decode cX3_put 69 = .ok (.aload_n 0, 1) := by decide +kernel
theorem dX3_put_70 : decode cX3_put 70 = .ok (.getfield 18, 3) := by decide +kernel
theorem dX3_put_73 : decode cX3_put 73 = .ok (.aload_n 0, 1) := by decide +kernel
theorem dX3_put_74 : decode cX3_put 74 = .ok (.getfield 28, 3) := by decide +kernel
theorem dX3_put_77 : decode cX3_put 77 = .ok (.iaload, 1) := by decide +kernel
theorem dX3_put_78 : decode cX3_put 78 = .ok (.iadd, 1) := by decide +kernel
theorem dX3_put_79 : decode cX3_put 79 = .ok (.putfield 32, 3) := by decide +kernel
theorem dX3_put_82 : decode cX3_put 82 = .ok (.aload_n 0, 1) := by decide +kernel
theorem dX3_put_83 : decode cX3_put 83 = .ok (.getfield 24, 3) := by decide +kernel
theorem dX3_put_86 : decode cX3_put 86 = .ok (.iload_n 1, 1) := by decide +kernel
theorem dX3_put_87 : decode cX3_put 87 = .ok (.invokevirtual 51, 3) := by decide +kernel
theorem dX3_put_90 : decode cX3_put 90 = .ok (.aload_n 0, 1) := by decide +kernel
theorem dX3_put_91 : decode cX3_put 91 = .ok (.dup, 1) := by decide +kernel
theorem dX3_put_92 : decode cX3_put 92 = .ok (.getfield 28, 3) := by decide +kernel
theorem dX3_put_95 : decode cX3_put 95 = .ok (.iconst 1, 1) := by decide +kernel
theorem dX3_put_96 : decode cX3_put 96 = .ok (.iadd, 1) := by decide +kernel
theorem dX3_put_97 : decode cX3_put 97 = .ok (.putfield 28, 3) := by decide +kernel
theorem dX3_put_100 : decode cX3_put 100 = .ok (.aload_n 0, 1) := by decide +kernel
theorem dX3_put_101 : decode cX3_put 101 = .ok (.getfield 18, 3) := by decide +kernel
theorem dX3_put_104 : decode cX3_put 104 = .ok (.aload_n 0, 1) := by decide +kernel
theorem dX3_put_105 : decode cX3_put 105 = .ok (.getfield 28, 3) := by decide +kernel
theorem dX3_put_108 : decode cX3_put 108 = .ok (.iconst 1, 1) := by decide +kernel
theorem dX3_put_109 : decode cX3_put 109 = .ok (.isub, 1) := by decide +kernel
theorem dX3_put_110 : decode cX3_put 110 = .ok (.iaload, 1) := by decide +kernel
theorem dX3_put_111 : decode cX3_put 111 = .ok (.ireturn, 1) := by decide +kernel
theorem dX3_comeAnew_0 : decode cX3_comeAnew 0 = .ok (.iload_n 1, 1) := by decide +kernel
theorem dX3_comeAnew_1 : decode cX3_comeAnew 1 = .ok (.i2l, 1) := by decide +kernel
theorem dX3_comeAnew_2 : decode cX3_comeAnew 2 = .ok (.iconst 0, 1) := by decide +kernel
theorem dX3_comeAnew_3 : decode cX3_comeAnew 3 = .ok (.bipush 100, 2) := by decide +kernel
theorem dX3_comeAnew_5 : decode cX3_comeAnew 5 = .ok (.invokestatic 55, 3) := by decide +kernel
theorem dX3_comeAnew_8 : decode cX3_comeAnew 8 = .ok (.istore 4, 2) := by decide +kernel
theorem dX3_comeAnew_10 : decode cX3_comeAnew 10 = .ok (.aload_n 0, 1) := by decide +kernel
theorem dX3_comeAnew_11 : decode cX3_comeAnew 11 = .ok (.iconst 0, 1) := by decide +kernel
theorem dX3_comeAnew_12 : decode cX3_comeAnew 12 = .ok (.putfield 28, 3) := by decide +kernel
theorem dX3_comeAnew_15 : decode cX3_comeAnew 15 = .ok (.aload_n 0, 1) := by decide +kernel
theorem dX3_comeAnew_16 : decode cX3_comeAnew 16 = .ok (.iconst 0, 1) := by decide +kernel
theorem dX3_comeAnew_17 : decode cX3_comeAnew 17 = .ok (.putfield 32, 3) := by decide +kernel
theorem dX3_comeAnew_20 : decode cX3_comeAnew 20 = .ok (.aload_n 0, 1) := by decide +kernel
theorem dX3_comeAnew_21 : decode cX3_comeAnew 21 = .ok (.getfield 24, 3) := by decide +kernel
theorem dX3_comeAnew_24 : decode cX3_comeAnew 24 = .ok (.iload_n 2, 1) := by decide +kernel
theorem dX3_comeAnew_25 : decode cX3_comeAnew 25 = .ok (.iload_n 3, 1) := by decide +kernel
theorem dX3_comeAnew_26 : decode cX3_comeAnew 26 = .ok (.invokevirtual 59, 3) := by decide +kernel
theorem dX3_comeAnew_29 : decode cX3_comeAnew 29 = .ok (.iconst 0, 1) := by decide +kernel
theorem dX3_comeAnew_30 : decode cX3_comeAnew 30 = .ok (.istore 5, 2) := by decide +kernel
theorem dX3_comeAnew_32 : decode cX3_comeAnew 32 = .ok (.iload 5, 2) := by decide +kernel
theorem dX3_comeAnew_34 : decode cX3_comeAnew 34 = .ok (.iload 4, 2) := by decide +kernel
theorem dX3_comeAnew_36 : decode cX3_comeAnew 36 = .ok (.if_icmp .ge 21, 3) := by decide +kernel
theorem dX3_comeAnew_39 : decode cX3_comeAnew 39 = .ok (.aload_n 0, 1) := by decide +kernel
theorem dX3_comeAnew_40 : decode cX3_comeAnew 40 = .ok (.aload_n 0, 1) := by decide +kernel
theorem dX3_comeAnew_41 : decode cX3_comeAnew 41 = .ok (.getfield 9, 3) := by decide +kernel
theorem dX3_comeAnew_44 : decode cX3_comeAnew 44 = .ok (.iload 5, 2) := by decide +kernel
theorem dX3_comeAnew_46 : decode cX3_comeAnew 46 = .ok (.iaload, 1) := by decide +kernel
theorem dX3_comeAnew_47 : decode cX3_comeAnew 47 = .ok (.invokevirtual 63, 3) := by decide +kernel
theorem dX3_comeAnew_50 : decode cX3_comeAnew 50 = .ok (.pop, 1) := by decide +kernel
theorem dX3_comeAnew_51 : decode cX3_comeAnew 51 = .ok (.iinc 5 1, 3) := by decide +kernel
theorem dX3_comeAnew_54 : decode cX3_comeAnew 54 = .ok (.goto (-22), 3) := by decide +kernel
theorem dX3_comeAnew_57 : decode cX3_comeAnew 57 = .ok (.return_, 1) := by decide +kernel
theorem dX3_priceBy_0 : decode cX3_priceBy 0 = .ok (.aload_n 1, 1) := by decide +kernel
theorem dX3_priceBy_1 : decode cX3_priceBy 1 = .ok (.iload_n 2, 1) := by decide +kernel
theorem dX3_priceBy_2 : decode cX3_priceBy 2 = .ok (.iload_n 3, 1) := by decide +kernel
theorem dX3_priceBy_3 : decode cX3_priceBy 3 = .ok (.invokevirtual 59, 3) := by decide +kernel
theorem dX3_priceBy_6 : decode cX3_priceBy 6 = .ok (.iconst 0, 1) := by decide +kernel
theorem dX3_priceBy_7 : decode cX3_priceBy 7 = .ok (.istore 4, 2) := by decide +kernel
theorem dX3_priceBy_9 : decode cX3_priceBy 9 = .ok (.iconst 0, 1) := by decide +kernel
theorem dX3_priceBy_10 : decode cX3_priceBy 10 = .ok (.istore 5, 2) := by decide +kernel
theorem dX3_priceBy_12 : decode cX3_priceBy 12 = .ok (.iload 5, 2) := by decide +kernel
theorem dX3_priceBy_14 : decode cX3_priceBy 14 = .ok (.aload_n 0, 1) := by decide +kernel
theorem dX3_priceBy_15 : decode cX3_priceBy 15 = .ok (.getfield 28, 3) := by decide +kernel
theorem dX3_priceBy_18 : decode cX3_priceBy 18 = .ok (.if_icmp .ge 42, 3) := by decide +kernel
theorem dX3_priceBy_21 : decode cX3_priceBy 21 = .ok (.iload 4, 2) := by decide +kernel
theorem dX3_priceBy_23 : decode cX3_priceBy 23 = .ok (.aload_n 0, 1) := by decide +kernel
theorem dX3_priceBy_24 : decode cX3_priceBy 24 = .ok (.getfield 9, 3) := by decide +kernel
theorem dX3_priceBy_27 : decode cX3_priceBy 27 = .ok (.iload 5, 2) := by decide +kernel
theorem dX3_priceBy_29 : decode cX3_priceBy 29 = .ok (.iaload, 1) := by decide +kernel
theorem dX3_priceBy_30 : decode cX3_priceBy 30 = .ok (.aload_n 1, 1) := by decide +kernel
theorem dX3_priceBy_31 : decode cX3_priceBy 31 = .ok (.invokevirtual 39, 3) := by decide +kernel
theorem dX3_priceBy_34 : decode cX3_priceBy 34 = .ok (.invokestatic 43, 3) := by decide +kernel
theorem dX3_priceBy_37 : decode cX3_priceBy 37 = .ok (.invokestatic 47, 3) := by decide +kernel
theorem dX3_priceBy_40 : decode cX3_priceBy 40 = .ok (.iadd, 1) := by decide +kernel
theorem dX3_priceBy_41 : decode cX3_priceBy 41 = .ok (.istore 4, 2) := by decide +kernel
theorem dX3_priceBy_43 : decode cX3_priceBy 43 = .ok (.aload_n 1, 1) := by decide +kernel
theorem dX3_priceBy_44 : decode cX3_priceBy 44 = .ok (.aload_n 0, 1) := by decide +kernel
theorem dX3_priceBy_45 : decode cX3_priceBy 45 = .ok (.getfield 9, 3) := by decide +kernel
theorem dX3_priceBy_48 : decode cX3_priceBy 48 = .ok (.iload 5, 2) := by decide +kernel
theorem dX3_priceBy_50 : decode cX3_priceBy 50 = .ok (.iaload, 1) := by decide +kernel
theorem dX3_priceBy_51 : decode cX3_priceBy 51 = .ok (.invokevirtual 51, 3) := by decide +kernel
theorem dX3_priceBy_54 : decode cX3_priceBy 54 = .ok (.iinc 5 1, 3) := by decide +kernel
theorem dX3_priceBy_57 : decode cX3_priceBy 57 = .ok (.goto (-45), 3) := by decide +kernel
theorem dX3_priceBy_60 : decode cX3_priceBy 60 = .ok (.iload 4, 2) := by decide +kernel
theorem dX3_priceBy_62 : decode cX3_priceBy 62 = .ok (.ireturn, 1) := by decide +kernel
theorem dX4_init_0 : decode cX4_init 0 = .ok (.aload_n 0, 1) := by decide +kernel
theorem dX4_init_1 : decode cX4_init 1 = .ok (.invokespecial 3, 3) := by decide +kernel
theorem dX4_init_4 : decode cX4_init 4 = .ok (.aload_n 0, 1) := by decide +kernel
theorem dX4_init_5 : decode cX4_init 5 = .ok (.bipush 100, 2) := by decide +kernel
theorem dX4_init_7 : decode cX4_init 7 = .ok (.newarray .int, 2) := by decide +kernel
theorem dX4_init_9 : decode cX4_init 9 = .ok (.putfield 9, 3) := by decide +kernel
theorem dX4_init_12 : decode cX4_init 12 = .ok (.aload_n 0, 1) := by decide +kernel
theorem dX4_init_13 : decode cX4_init 13 = .ok (.iconst 0, 1) := by decide +kernel
theorem dX4_init_14 : decode cX4_init 14 = .ok (.putfield 15, 3) := by decide +kernel
theorem dX4_init_17 : decode cX4_init 17 = .ok (.aload_n 0, 1) := by decide +kernel
theorem dX4_init_18 : decode cX4_init 18 = .ok (.iconst 0, 1) := by decide +kernel
theorem dX4_init_19 : decode cX4_init 19 = .ok (.putfield 19, 3) := by decide +kernel
theorem dX4_init_22 : decode cX4_init 22 = .ok (.aload_n 0, 1) := by decide +kernel
theorem dX4_init_23 : decode cX4_init 23 = .ok (.iconst 0, 1) := by decide +kernel
theorem dX4_init_24 : decode cX4_init 24 = .ok (.putfield 22, 3) := by decide +kernel
theorem dX4_init_27 : decode cX4_init 27 = .ok (.return_, 1) := by decide +kernel
theorem dX4_copyFrom_0 : decode cX4_copyFrom 0 = .ok (.aload_n 0, 1) := by decide +kernel
theorem dX4_copyFrom_1 : decode cX4_copyFrom 1 = .ok (.aload_n 1, 1) := by decide +kernel
theorem dX4_copyFrom_2 : decode cX4_copyFrom 2 = .ok (.getfield 25, 3) := by decide +kernel
theorem dX4_copyFrom_5 : decode cX4_copyFrom 5 = .ok (.putfield 15, 3) := by decide +kernel
theorem dX4_copyFrom_8 : decode cX4_copyFrom 8 = .ok (.aload_n 0, 1) := by decide +kernel
theorem dX4_copyFrom_9 : decode cX4_copyFrom 9 = .ok (.aload_n 1, 1) := by decide +kernel
theorem dX4_copyFrom_10 : decode cX4_copyFrom 10 = .ok (.getfield 28, 3) := by decide +kernel
theorem dX4_copyFrom_13 : decode cX4_copyFrom 13 = .ok (.getfield 32, 3) := by decide +kernel
theorem dX4_copyFrom_16 : decode cX4_copyFrom 16 = .ok (.putfield 19, 3) := by decide +kernel
theorem dX4_copyFrom_19 : decode cX4_copyFrom 19 = .ok (.aload_n 0, 1) := by decide +kernel
theorem dX4_copyFrom_20 : decode cX4_copyFrom 20 = .ok (.aload_n 1, 1) := by decide +kernel
theorem dX4_copyFrom_21 : decode cX4_copyFrom 21 = .ok (.getfield 28, 3) := by decide +kernel
theorem dX4_copyFrom_24 : decode cX4_copyFrom 24 = .ok (.getfield 35, 3) := by decide +kernel
theorem dX4_copyFrom_27 : decode cX4_copyFrom 27 = .ok (.putfield 22, 3) := by decide +kernel
theorem dX4_copyFrom_30 : decode cX4_copyFrom 30 = .ok (.iconst 0, 1) := by decide +kernel
theorem dX4_copyFrom_31 : decode cX4_copyFrom 31 = .ok (.istore_n 2, 1) := by decide +kernel
theorem dX4_copyFrom_32 : decode cX4_copyFrom 32 = .ok (.iload_n 2, 1) := by decide +kernel
theorem dX4_copyFrom_33 : decode cX4_copyFrom 33 = .ok (.aload_n 0, 1) := by decide +kernel
theorem dX4_copyFrom_34 : decode cX4_copyFrom 34 = .ok (.getfield 15, 3) := by decide +kernel
theorem dX4_copyFrom_37 : decode cX4_copyFrom 37 = .ok (.if_icmp .ge 21, 3) := by decide +kernel
theorem dX4_copyFrom_40 : decode cX4_copyFrom 40 = .ok (.aload_n 0, 1) := by decide +kernel
theorem dX4_copyFrom_41 : decode cX4_copyFrom 41 = .ok (.getfield 9, 3) := by decide +kernel
theorem dX4_copyFrom_44 : decode cX4_copyFrom 44 = .ok (.iload_n 2, 1) := by decide +kernel
theorem dX4_copyFrom_45 : decode cX4_copyFrom 45 = .ok (.aload_n 1, 1) := by decide +kernel
theorem dX4_copyFrom_46 : decode cX4_copyFrom 46 = .ok (.getfield 36, 3) := by decide +kernel
theorem dX4_copyFrom_49 : decode cX4_copyFrom 49 = .ok (.iload_n 2, 1) := by decide +kernel
theorem dX4_copyFrom_50 : decode cX4_copyFrom 50 = .ok (.iaload, 1) := by decide +kernel
theorem dX4_copyFrom_51 : decode cX4_copyFrom 51 = .ok (.iastore, 1) := by decide +kernel
theorem dX4_copyFrom_52 : decode cX4_copyFrom 52 = .ok (.iinc 2 1, 3) := by decide +kernel
theorem dX4_copyFrom_55 : decode cX4_copyFrom 55 = .ok (.goto (-23), 3) := by decide +kernel
theorem dX4_copyFrom_58 : decode cX4_copyFrom 58 = .ok (.return_, 1) := by decide +kernel
theorem dX4_copySignsTo_0 : decode cX4_copySignsTo 0 = .ok (.iconst 0, 1) := by decide +kernel
theorem dX4_copySignsTo_1 : decode cX4_copySignsTo 1 = .ok (.istore_n 2, 1) := by decide +kernel
theorem dX4_copySignsTo_2 : decode cX4_copySignsTo 2 = .ok (.iload_n 2, 1) := by decide +kernel
theorem dX4_copySignsTo_3 : decode cX4_copySignsTo 3 = .ok (.aload_n 0, 1) := by decide +kernel
theorem dX4_copySignsTo_4 : decode cX4_copySignsTo 4 = .ok (.getfield 15, 3) := by decide +kernel
theorem dX4_copySignsTo_7 : decode cX4_copySignsTo 7 = .ok (.if_icmp .ge 21, 3) := by decide +kernel
theorem dX4_copySignsTo_10 : decode cX4_copySignsTo 10 = .ok (.aload_n 1, 1) := by decide +kernel
theorem dX4_copySignsTo_11 : decode cX4_copySignsTo 11 = .ok (.getfield 36, 3) := by decide +kernel
theorem dX4_copySignsTo_14 : decode cX4_copySignsTo 14 = .ok (.iload_n 2, 1) := by decide +kernel
theorem dX4_copySignsTo_15 : decode cX4_copySignsTo 15 = .ok (.aload_n 0, 1) := by decide +kernel
theorem dX4_copySignsTo_16 : decode cX4_copySignsTo 16 = .ok (.getfield 9, 3) := by decide +kernel
theorem dX4_copySignsTo_19 : decode cX4_copySignsTo 19 = .ok (.iload_n 2, 1) := by decide +kernel
theorem dX4_copySignsTo_20 : decode cX4_copySignsTo 20 = .ok (.iaload, 1) := by decide +kernel
theorem dX4_copySignsTo_21 : decode cX4_copySignsTo 21 = .ok (.iastore, 1) := by decide +kernel
theorem dX4_copySignsTo_22 : decode cX4_copySignsTo 22 = .ok (.iinc 2 1, 3) := by decide +kernel
theorem dX4_copySignsTo_25 : decode cX4_copySignsTo 25 = .ok (.goto (-23), 3) := by decide +kernel
theorem dX4_copySignsTo_28 : decode cX4_copySignsTo 28 = .ok (.return_, 1) := by decide +kernel
theorem dX5_init_0 : decode cX5_init 0 = .ok (.aload_n 0, 1) := by decide +kernel
theorem dX5_init_1 : decode cX5_init 1 = .ok (.invokespecial 3, 3) := by decide +kernel
theorem dX5_init_4 : decode cX5_init 4 = .ok (.aload_n 0, 1) := by decide +kernel
theorem dX5_init_5 : decode cX5_init 5 = .ok (.bipush 6, 2) := by decide +kernel
theorem dX5_init_7 : decode cX5_init 7 = .ok (.anewarray 9, 3) := by decide +kernel
theorem dX5_init_10 : decode cX5_init 10 = .ok (.putfield 11, 3) := by decide +kernel
theorem dX5_init_13 : decode cX5_init 13 = .ok (.aload_n 0, 1) := by decide +kernel
theorem dX5_init_14 : decode cX5_init 14 = .ok (.iconst 0, 1) := by decide +kernel
theorem dX5_init_15 : decode cX5_init 15 = .ok (.putfield 17, 3) := by decide +kernel
theorem dX5_init_18 : decode cX5_init 18 = .ok (.aload_n 0, 1) := by decide +kernel
theorem dX5_init_19 : decode cX5_init 19 = .ok (.iconst 0, 1) := by decide +kernel
theorem dX5_init_20 : decode cX5_init 20 = .ok (.putfield 21, 3) := by decide +kernel
theorem dX5_init_23 : decode cX5_init 23 = .ok (.iconst 0, 1) := by decide +kernel
theorem dX5_init_24 : decode cX5_init 24 = .ok (.istore_n 1, 1) := by decide +kernel
theorem dX5_init_25 : decode cX5_init 25 = .ok (.iload_n 1, 1) := by decide +kernel
theorem dX5_init_26 : decode cX5_init 26 = .ok (.bipush 6, 2) := by decide +kernel
theorem dX5_init_28 : decode cX5_init 28 = .ok (.if_icmp .ge 22, 3) := by decide +kernel
theorem dX5_init_31 : decode cX5_init 31 = .ok (.aload_n 0, 1) := by decide +kernel
theorem dX5_init_32 : decode cX5_init 32 = .ok (.getfield 11, 3) := by decide +kernel
theorem dX5_init_35 : decode cX5_init 35 = .ok (.iload_n 1, 1) := by decide +kernel
theorem dX5_init_36 : decode cX5_init 36 = .ok (.new 9, 3) := by decide +kernel
theorem dX5_init_39 : decode cX5_init 39 = .ok (.dup, 1) := by decide +kernel
theorem dX5_init_40 : decode cX5_init 40 = .ok (.invokespecial 24, 3) := by decide +kernel
theorem dX5_init_43 : decode cX5_init 43 = .ok (.aastore, 1) := by decide +kernel
theorem dX5_init_44 : decode cX5_init 44 = .ok (.iinc 1 1, 3) := by decide +kernel
theorem dX5_init_47 : decode cX5_init 47 = .ok (.goto (-22), 3) := by decide +kernel
theorem dX5_init_50 : decode cX5_init 50 = .ok (.return_, 1) := by decide +kernel
theorem dX5_keep_0 : decode cX5_keep 0 = .ok (.aload_n 0, 1) := by decide +kernel
theorem dX5_keep_1 : decode cX5_keep 1 = .ok (.aload_n 0, 1) := by decide +kernel
theorem dX5_keep_2 : decode cX5_keep 2 = .ok (.getfield 21, 3) := by decide +kernel
theorem dX5_keep_5 : decode cX5_keep 5 = .ok (.iconst 1, 1) := by decide +kernel
theorem dX5_keep_6 : decode cX5_keep 6 = .ok (.iadd, 1) := by decide +kernel
theorem dX5_keep_7 : decode cX5_keep 7 = .ok (.bipush 6, 2) := by decide +kernel
theorem dX5_keep_9 : decode cX5_keep 9 = .ok (.if_icmp .ge 12, 3) := by decide +kernel
theorem dX5_keep_12 : decode cX5_keep 12 = .ok (.aload_n 0, 1) := by decide +kernel
theorem dX5_keep_13 : decode cX5_keep 13 = .ok (.getfield 21, 3) := by decide +kernel
theorem dX5_keep_16 : decode cX5_keep 16 = .ok (.iconst 1, 1) := by decide +kernel
theorem dX5_keep_17 : decode cX5_keep 17 = .ok (.iadd, 1) := by decide +kernel
theorem dX5_keep_18 : decode cX5_keep 18 = .ok (.goto 4, 3) := by decide +kernel
theorem dX5_keep_21 : decode cX5_keep 21 = .ok (.iconst 0, 1) := by decide +kernel
theorem dX5_keep_22 : decode cX5_keep 22 = .ok (.putfield 21, 3) := by decide +kernel
theorem dX5_keep_25 : decode cX5_keep 25 = .ok (.aload_n 0, 1) := by decide +kernel
theorem dX5_keep_26 : decode cX5_keep 26 = .ok (.bipush 6, 2) := by decide +kernel
theorem dX5_keep_28 : decode cX5_keep 28 = .ok (.aload_n 0, 1) := by decide +kernel
theorem dX5_keep_29 : decode cX5_keep 29 = .ok (.getfield 17, 3) := by decide +kernel
theorem dX5_keep_32 : decode cX5_keep 32 = .ok (.iconst 1, 1) := by decide +kernel
theorem dX5_keep_33 : decode cX5_keep 33 = .ok (.iadd, 1) := by decide +kernel
theorem dX5_keep_34 : decode cX5_keep 34 = .ok (.invokestatic 25, 3) := by decide +kernel
theorem dX5_keep_37 : decode cX5_keep 37 = .ok (.putfield 17, 3) := by decide +kernel
theorem dX5_keep_40 : decode cX5_keep 40 = .ok (.aload_n 0, 1) := by decide +kernel
theorem dX5_keep_41 : decode cX5_keep 41 = .ok (.getfield 11, 3) := by decide +kernel
theorem dX5_keep_44 : decode cX5_keep 44 = .ok (.aload_n 0, 1) := by decide +kernel
theorem dX5_keep_45 : decode cX5_keep 45 = .ok (.getfield 21, 3) := by decide +kernel
theorem dX5_keep_48 : decode cX5_keep 48 = .ok (.aaload, 1) := by decide +kernel
theorem dX5_keep_49 : decode cX5_keep 49 = .ok (.aload_n 1, 1) := by decide +kernel
theorem dX5_keep_50 : decode cX5_keep 50 = .ok (.invokevirtual 31, 3) := by decide +kernel
theorem dX5_keep_53 : decode cX5_keep 53 = .ok (.return_, 1) := by decide +kernel
theorem dX5_release_0 : decode cX5_release 0 = .ok (.aload_n 0, 1) := by decide +kernel
theorem dX5_release_1 : decode cX5_release 1 = .ok (.getfield 11, 3) := by decide +kernel
theorem dX5_release_4 : decode cX5_release 4 = .ok (.aload_n 0, 1) := by decide +kernel
theorem dX5_release_5 : decode cX5_release 5 = .ok (.getfield 21, 3) := by decide +kernel
theorem dX5_release_8 : decode cX5_release 8 = .ok (.aaload, 1) := by decide +kernel
theorem dX5_release_9 : decode cX5_release 9 = .ok (.astore_n 1, 1) := by decide +kernel
theorem dX5_release_10 : decode cX5_release 10 = .ok (.aload_n 0, 1) := by decide +kernel
theorem dX5_release_11 : decode cX5_release 11 = .ok (.aload_n 0, 1) := by decide +kernel
theorem dX5_release_12 : decode cX5_release 12 = .ok (.getfield 21, 3) := by decide +kernel
theorem dX5_release_15 : decode cX5_release 15 = .ok (.ifCond .le 12, 3) := by decide +kernel
theorem dX5_release_18 : decode cX5_release 18 = .ok (.aload_n 0, 1) := by decide +kernel
theorem dX5_release_19 : decode cX5_release 19 = .ok (.getfield 21, 3) := by decide +kernel
theorem dX5_release_22 : decode cX5_release 22 = .ok (.iconst 1, 1) := by decide +kernel
theorem dX5_release_23 : decode cX5_release 23 = .ok (.isub, 1) := by decide +kernel
theorem dX5_release_24 : decode cX5_release 24 = .ok (.goto 4, 3) := by decide +kernel
theorem dX5_release_27 : decode cX5_release 27 = .ok (.iconst 5, 1) := by decide +kernel
theorem dX5_release_28 : decode cX5_release 28 = .ok (.putfield 21, 3) := by decide +kernel
theorem dX5_release_31 : decode cX5_release 31 = .ok (.aload_n 0, 1) := by decide +kernel
theorem dX5_release_32 : decode cX5_release 32 = .ok (.iconst 0, 1) := by decide +kernel
theorem dX5_release_33 : decode cX5_release 33 = .ok (.aload_n 0, 1) := by decide +kernel
theorem dX5_release_34 : decode cX5_release 34 = .ok (.getfield 17, 3) := by decide +kernel
theorem dX5_release_37 : decode cX5_release 37 = .ok (.iconst 1, 1) := by decide +kernel
theorem dX5_release_38 : decode cX5_release 38 = .ok (.isub, 1) := by decide +kernel
theorem dX5_release_39 : decode cX5_release 39 = .ok (.invokestatic 35, 3) := by decide +kernel
theorem dX5_release_42 : decode cX5_release 42 = .ok (.putfield 17, 3) := by decide +kernel
theorem dX5_release_45 : decode cX5_release 45 = .ok (.aload_n 1, 1) := by decide +kernel
theorem dX5_release_46 : decode cX5_release 46 = .ok (.areturn, 1) := by decide +kernel
theorem dX6_init_0 : decode cX6_init 0 = .ok (.aload_n 0, 1) := by decide +kernel
theorem dX6_init_1 : decode cX6_init 1 = .ok (.invokespecial 3, 3) := by decide +kernel
theorem dX6_init_4 : decode cX6_init 4 = .ok (.aload_n 0, 1) := by decide +kernel
theorem dX6_init_5 : decode cX6_init 5 = .ok (.bipush 120, 2) := by decide +kernel
theorem dX6_init_7 : decode cX6_init 7 = .ok (.newarray .int, 2) := by decide +kernel
theorem dX6_init_9 : decode cX6_init 9 = .ok (.putfield 9, 3) := by decide +kernel
theorem dX6_init_12 : decode cX6_init 12 = .ok (.aload_n 0, 1) := by decide +kernel
theorem dX6_init_13 : decode cX6_init 13 = .ok (.bipush 100, 2) := by decide +kernel
theorem dX6_init_15 : decode cX6_init 15 = .ok (.newarray .int, 2) := by decide +kernel
theorem dX6_init_17 : decode cX6_init 17 = .ok (.putfield 15, 3) := by decide +kernel
theorem dX6_init_20 : decode cX6_init 20 = .ok (.aload_n 0, 1) := by decide +kernel
theorem dX6_init_21 : decode cX6_init 21 = .ok (.iconst 0, 1) := by decide +kernel
theorem dX6_init_22 : decode cX6_init 22 = .ok (.putfield 18, 3) := by decide +kernel
theorem dX6_init_25 : decode cX6_init 25 = .ok (.aload_n 0, 1) := by decide +kernel
theorem dX6_init_26 : decode cX6_init 26 = .ok (.iconst 0, 1) := by decide +kernel
theorem dX6_init_27 : decode cX6_init 27 = .ok (.putfield 22, 3) := by decide +kernel
theorem dX6_init_30 : decode cX6_init 30 = .ok (.aload_n 0, 1) := by decide +kernel
theorem dX6_init_31 : decode cX6_init 31 = .ok (.iconst (-1), 1) := by decide +kernel
theorem dX6_init_32 : decode cX6_init 32 = .ok (.putfield 25, 3) := by decide +kernel
theorem dX6_init_35 : decode cX6_init 35 = .ok (.aload_n 0, 1) := by decide +kernel
theorem dX6_init_36 : decode cX6_init 36 = .ok (.iconst 0, 1) := by decide +kernel
theorem dX6_init_37 : decode cX6_init 37 = .ok (.putfield 28, 3) := by decide +kernel
theorem dX6_init_40 : decode cX6_init 40 = .ok (.aload_n 0, 1) := by decide +kernel
theorem dX6_init_41 : decode cX6_init 41 = .ok (.iconst 0, 1) := by decide +kernel
theorem dX6_init_42 : decode cX6_init 42 = .ok (.putfield 31, 3) := by decide +kernel
theorem dX6_init_45 : decode cX6_init 45 = .ok (.aload_n 0, 1) := by decide +kernel
theorem dX6_init_46 : decode cX6_init 46 = .ok (.iconst (-1), 1) := by decide +kernel
theorem dX6_init_47 : decode cX6_init 47 = .ok (.putfield 34, 3) := by decide +kernel
theorem dX6_init_50 : decode cX6_init 50 = .ok (.return_, 1) := by decide +kernel
theorem dX6_append_0 : decode cX6_append 0 = .ok (.aload_n 0, 1) := by decide +kernel
theorem dX6_append_1 : decode cX6_append 1 = .ok (.getfield 18, 3) := by decide +kernel
theorem dX6_append_4 : decode cX6_append 4 = .ok (.iconst 0, 1) := by decide +kernel
theorem dX6_append_5 : decode cX6_append 5 = .ok (.bipush 119, 2) := by decide +kernel
theorem dX6_append_7 : decode cX6_append 7 = .ok (.invokestatic 37, 3) := by decide +kernel
theorem dX6_append_10 : decode cX6_append 10 = .ok (.ifCond .eq 23, 3) := by decide +kernel
theorem dX6_append_13 : decode cX6_append 13 = .ok (.aload_n 0, 1) := by decide +kernel
theorem dX6_append_14 : decode cX6_append 14 = .ok (.getfield 9, 3) := by decide +kernel
theorem dX6_append_17 : decode cX6_append 17 = .ok (.aload_n 0, 1) := by decide +kernel
theorem dX6_append_18 : decode cX6_append 18 = .ok (.getfield 18, 3) := by decide +kernel
theorem dX6_append_21 : decode cX6_append 21 = .ok (.iload_n 1, 1) := by decide +kernel
theorem dX6_append_22 : decode cX6_append 22 = .ok (.iastore, 1) := by decide +kernel
theorem dX6_append_23 : decode cX6_append 23 = .ok (.aload_n 0, 1) := by decide +kernel
theorem dX6_append_24 : decode cX6_append 24 = .ok (.dup, 1) := by decide +kernel
theorem dX6_append_25 : decode cX6_append 25 = .ok (.getfield 18, 3) := by decide +kernel
theorem dX6_append_28 : decode cX6_append 28 = .ok (.iconst 1, 1) := by decide +kernel
theorem dX6_append_29 : decode cX6_append 29 = .ok (.iadd, 1) := by decide +kernel
theorem dX6_append_30 : decode cX6_append 30 = .ok (.putfield 18, 3) := by decide +kernel
theorem dX6_append_33 : decode cX6_append 33 = .ok (.aload_n 0, 1) := by decide +kernel
theorem dX6_append_34 : decode cX6_append 34 = .ok (.getfield 18, 3) := by decide +kernel
theorem dX6_append_37 : decode cX6_append 37 = .ok (.ireturn, 1) := by decide +kernel
theorem dX6_read_0 : decode cX6_read 0 = .ok (.aload_n 0, 1) := by decide +kernel
theorem dX6_read_1 : decode cX6_read 1 = .ok (.iload_n 1, 1) := by decide +kernel
theorem dX6_read_2 : decode cX6_read 2 = .ok (.i2l, 1) := by decide +kernel
theorem dX6_read_3 : decode cX6_read 3 = .ok (.iconst 0, 1) := by decide +kernel
theorem dX6_read_4 : decode cX6_read 4 = .ok (.bipush 100, 2) := by decide +kernel
theorem dX6_read_6 : decode cX6_read 6 = .ok (.invokestatic 41, 3) := by decide +kernel
theorem dX6_read_9 : decode cX6_read 9 = .ok (.putfield 28, 3) := by decide +kernel
theorem dX6_read_12 : decode cX6_read 12 = .ok (.aload_n 0, 1) := by decide +kernel
theorem dX6_read_13 : decode cX6_read 13 = .ok (.iconst 0, 1) := by decide +kernel
theorem dX6_read_14 : decode cX6_read 14 = .ok (.putfield 22, 3) := by decide +kernel
theorem dX6_read_17 : decode cX6_read 17 = .ok (.aload_n 0, 1) := by decide +kernel
theorem dX6_read_18 : decode cX6_read 18 = .ok (.iconst (-1), 1) := by decide +kernel
theorem dX6_read_19 : decode cX6_read 19 = .ok (.putfield 25, 3) := by decide +kernel
theorem dX6_read_22 : decode cX6_read 22 = .ok (.aload_n 0, 1) := by decide +kernel
theorem dX6_read_23 : decode cX6_read 23 = .ok (.iconst 0, 1) := by decide +kernel
theorem dX6_read_24 : decode cX6_read 24 = .ok (.putfield 31, 3) := by decide +kernel
theorem dX6_read_27 : decode cX6_read 27 = .ok (.aload_n 0, 1) := by decide +kernel
theorem dX6_read_28 : decode cX6_read 28 = .ok (.iconst (-1), 1) := by decide +kernel
theorem dX6_read_29 : decode cX6_read 29 = .ok (.putfield 34, 3) := by decide +kernel
theorem dX6_read_32 : decode cX6_read 32 = .ok (.iconst 0, 1) := by decide +kernel
theorem dX6_read_33 : decode cX6_read 33 = .ok (.istore_n 2, 1) := by decide +kernel
theorem dX6_read_34 : decode cX6_read 34 = .ok (.iload_n 2, 1) := by decide +kernel
theorem dX6_read_35 : decode cX6_read 35 = .ok (.bipush 120, 2) := by decide +kernel
theorem dX6_read_37 : decode cX6_read 37 = .ok (.if_icmp .ge 39, 3) := by decide +kernel
theorem dX6_read_40 : decode cX6_read 40 = .ok (.aload_n 0, 1) := by decide +kernel
theorem dX6_read_41 : decode cX6_read 41 = .ok (.getfield 25, 3) := by decide +kernel
theorem dX6_read_44 : decode cX6_read 44 = .ok (.iconst (-1), 1) := by decide +kernel
theorem dX6_read_45 : decode cX6_read 45 = .ok (.if_icmp .ne 31, 3) := by decide +kernel
theorem dX6_read_48 : decode cX6_read 48 = .ok (.aload_n 0, 1) := by decide +kernel
theorem dX6_read_49 : decode cX6_read 49 = .ok (.invokevirtual 45, 3) := by decide +kernel
theorem dX6_read_52 : decode cX6_read 52 = .ok (.aload_n 0, 1) := by decide +kernel
theorem dX6_read_53 : decode cX6_read 53 = .ok (.getfield 31, 3) := by decide +kernel
theorem dX6_read_56 : decode cX6_read 56 = .ok (.aload_n 0, 1) := by decide +kernel
theorem dX6_read_57 : decode cX6_read 57 = .ok (.getfield 18, 3) := by decide +kernel
theorem dX6_read_60 : decode cX6_read 60 = .ok (.if_icmp .lt 6, 3) := by decide +kernel
theorem dX6_read_63 : decode cX6_read 63 = .ok (.goto 13, 3) := by decide +kernel
theorem dX6_read_66 : decode cX6_read 66 = .ok (.aload_n 0, 1) := by decide +kernel
theorem dX6_read_67 : decode cX6_read 67 = .ok (.invokevirtual 48, 3) := by decide +kernel
theorem dX6_read_70 : decode cX6_read 70 = .ok (.iinc 2 1, 3) := by decide +kernel
theorem dX6_read_73 : decode cX6_read 73 = .ok (.goto (-39), 3) := by decide +kernel
theorem dX6_read_76 : decode cX6_read 76 = .ok (.aload_n 0, 1) := by decide +kernel
theorem dX6_read_77 : decode cX6_read 77 = .ok (.getfield 25, 3) := by decide +kernel
theorem dX6_read_80 : decode cX6_read 80 = .ok (.iconst (-1), 1) := by decide +kernel
theorem dX6_read_81 : decode cX6_read 81 = .ok (.if_icmp .ne 19, 3) := by decide +kernel
theorem dX6_read_84 : decode cX6_read 84 = .ok (.aload_n 0, 1) := by decide +kernel
theorem dX6_read_85 : decode cX6_read 85 = .ok (.getfield 34, 3) := by decide +kernel
theorem dX6_read_88 : decode cX6_read 88 = .ok (.iconst (-1), 1) := by decide +kernel
theorem dX6_read_89 : decode cX6_read 89 = .ok (.if_icmp .eq 11, 3) := by decide +kernel
theorem dX6_read_92 : decode cX6_read 92 = .ok (.aload_n 0, 1) := by decide +kernel
theorem dX6_read_93 : decode cX6_read 93 = .ok (.aload_n 0, 1) := by decide +kernel
theorem dX6_read_94 : decode cX6_read 94 = .ok (.getfield 18, 3) := by decide +kernel
theorem dX6_read_97 : decode cX6_read 97 = .ok (.putfield 25, 3) := by decide +kernel
theorem dX6_read_100 : decode cX6_read 100 = .ok (.return_, 1) := by decide +kernel
theorem dX6_readPiece_0 : decode cX6_readPiece 0 = .ok (.aload_n 0, 1) := by decide +kernel
theorem dX6_readPiece_1 : decode cX6_readPiece 1 = .ok (.invokevirtual 51, 3) := by decide +kernel
theorem dX6_readPiece_4 : decode cX6_readPiece 4 = .ok (.istore_n 1, 1) := by decide +kernel
theorem dX6_readPiece_5 : decode cX6_readPiece 5 = .ok (.iload_n 1, 1) := by decide +kernel
theorem dX6_readPiece_6 : decode cX6_readPiece 6 = .ok (.bipush 48, 2) := by decide +kernel
theorem dX6_readPiece_8 : decode cX6_readPiece 8 = .ok (.if_icmp .eq 9, 3) := by decide +kernel
theorem dX6_readPiece_11 : decode cX6_readPiece 11 = .ok (.iload_n 1, 1) := by decide +kernel
theorem dX6_readPiece_12 : decode cX6_readPiece 12 = .ok (.bipush 49, 2) := by decide +kernel
theorem dX6_readPiece_14 : decode cX6_readPiece 14 = .ok (.if_icmp .ne 14, 3) := by decide +kernel
theorem dX6_readPiece_17 : decode cX6_readPiece 17 = .ok (.aload_n 0, 1) := by decide +kernel
theorem dX6_readPiece_18 : decode cX6_readPiece 18 = .ok (.iload_n 1, 1) := by decide +kernel
theorem dX6_readPiece_19 : decode cX6_readPiece 19 = .ok (.bipush 48, 2) := by decide +kernel
theorem dX6_readPiece_21 : decode cX6_readPiece 21 = .ok (.isub, 1) := by decide +kernel
theorem dX6_readPiece_22 : decode cX6_readPiece 22 = .ok (.invokevirtual 55, 3) := by decide +kernel
theorem dX6_readPiece_25 : decode cX6_readPiece 25 = .ok (.goto 78, 3) := by decide +kernel
theorem dX6_readPiece_28 : decode cX6_readPiece 28 = .ok (.iload_n 1, 1) := by decide +kernel
theorem dX6_readPiece_29 : decode cX6_readPiece 29 = .ok (.bipush 40, 2) := by decide +kernel
theorem dX6_readPiece_31 : decode cX6_readPiece 31 = .ok (.if_icmp .ne 32, 3) := by decide +kernel
theorem dX6_readPiece_34 : decode cX6_readPiece 34 = .ok (.aload_n 0, 1) := by decide +kernel
theorem dX6_readPiece_35 : decode cX6_readPiece 35 = .ok (.getfield 34, 3) := by decide +kernel
theorem dX6_readPiece_38 : decode cX6_readPiece 38 = .ok (.iconst (-1), 1) := by decide +kernel
theorem dX6_readPiece_39 : decode cX6_readPiece 39 = .ok (.if_icmp .ne 24, 3) := by decide +kernel
theorem dX6_readPiece_42 : decode cX6_readPiece 42 = .ok (.aload_n 0, 1) := by decide +kernel
theorem dX6_readPiece_43 : decode cX6_readPiece 43 = .ok (.aload_n 0, 1) := by decide +kernel
theorem dX6_readPiece_44 : decode cX6_readPiece 44 = .ok (.getfield 22, 3) := by decide +kernel
theorem dX6_readPiece_47 : decode cX6_readPiece 47 = .ok (.putfield 34, 3) := by decide +kernel
theorem dX6_readPiece_50 : decode cX6_readPiece 50 = .ok (.aload_n 0, 1) := by decide +kernel
theorem dX6_readPiece_51 : decode cX6_readPiece 51 = .ok (.dup, 1) := by decide +kernel
theorem dX6_readPiece_52 : decode cX6_readPiece 52 = .ok (.getfield 31, 3) := by decide +kernel
theorem dX6_readPiece_55 : decode cX6_readPiece 55 = .ok (.iconst 1, 1) := by decide +kernel
theorem dX6_readPiece_56 : decode cX6_readPiece 56 = .ok (.iadd, 1) := by decide +kernel
theorem dX6_readPiece_57 : decode cX6_readPiece 57 = .ok (.putfield 31, 3) := by decide +kernel
theorem dX6_readPiece_60 : decode cX6_readPiece 60 = .ok (.goto 43, 3) := by decide +kernel
theorem dX6_readPiece_63 : decode cX6_readPiece 63 = .ok (.iload_n 1, 1) := by decide +kernel
theorem dX6_readPiece_64 : decode cX6_readPiece 64 = .ok (.bipush 41, 2) := by decide +kernel
theorem dX6_readPiece_66 : decode cX6_readPiece 66 = .ok (.if_icmp .ne 29, 3) := by decide +kernel
theorem dX6_readPiece_69 : decode cX6_readPiece 69 = .ok (.aload_n 0, 1) := by decide +kernel
theorem dX6_readPiece_70 : decode cX6_readPiece 70 = .ok (.getfield 34, 3) := by decide +kernel
theorem dX6_readPiece_73 : decode cX6_readPiece 73 = .ok (.iconst (-1), 1) := by decide +kernel
theorem dX6_readPiece_74 : decode cX6_readPiece 74 = .ok (.if_icmp .eq 21, 3) := by decide +kernel
theorem dX6_readPiece_77 : decode cX6_readPiece 77 = .ok (.aload_n 0, 1) := by decide +kernel
theorem dX6_readPiece_78 : decode cX6_readPiece 78 = .ok (.getfield 22, 3) := by decide +kernel
theorem dX6_readPiece_81 : decode cX6_readPiece 81 = .ok (.aload_n 0, 1) := by decide +kernel
theorem dX6_readPiece_82 : decode cX6_readPiece 82 = .ok (.getfield 34, 3) := by decide +kernel
theorem dX6_readPiece_85 : decode cX6_readPiece 85 = .ok (.if_icmp .le 10, 3) := by decide +kernel
theorem dX6_readPiece_88 : decode cX6_readPiece 88 = .ok (.aload_n 0, 1) := by decide +kernel
theorem dX6_readPiece_89 : decode cX6_readPiece 89 = .ok (.invokevirtual 59, 3) := by decide +kernel
theorem dX6_readPiece_92 : decode cX6_readPiece 92 = .ok (.goto 11, 3) := by decide +kernel
theorem dX6_readPiece_95 : decode cX6_readPiece 95 = .ok (.aload_n 0, 1) := by decide +kernel
theorem dX6_readPiece_96 : decode cX6_readPiece 96 = .ok (.aload_n 0, 1) := by decide +kernel
theorem dX6_readPiece_97 : decode cX6_readPiece 97 = .ok (.getfield 31, 3) := by decide +kernel
theorem dX6_readPiece_100 : decode cX6_readPiece 100 = .ok (.putfield 25, 3) := by decide +kernel
theorem dX6_readPiece_103 : decode cX6_readPiece 103 = .ok (.return_, 1) := by decide +kernel
theorem dX6_readSigns_0 : decode cX6_readSigns 0 = .ok (.aload_n 0, 1) := by decide +kernel
theorem dX6_readSigns_1 : decode cX6_readSigns 1 = .ok (.getfield 31, 3) := by decide +kernel
theorem dX6_readSigns_4 : decode cX6_readSigns 4 = .ok (.istore_n 2, 1) := by decide +kernel
theorem dX6_readSigns_5 : decode cX6_readSigns 5 = .ok (.aload_n 0, 1) := by decide +kernel
theorem dX6_readSigns_6 : decode cX6_readSigns 6 = .ok (.getfield 22, 3) := by decide +kernel
theorem dX6_readSigns_9 : decode cX6_readSigns 9 = .ok (.aload_n 0, 1) := by decide +kernel
theorem dX6_readSigns_10 : decode cX6_readSigns 10 = .ok (.getfield 28, 3) := by decide +kernel
theorem dX6_readSigns_13 : decode cX6_readSigns 13 = .ok (.if_icmp .lt 9, 3) := by decide +kernel
theorem dX6_readSigns_16 : decode cX6_readSigns 16 = .ok (.aload_n 0, 1) := by decide +kernel
theorem dX6_readSigns_17 : decode cX6_readSigns 17 = .ok (.iload_n 2, 1) := by decide +kernel
theorem dX6_readSigns_18 : decode cX6_readSigns 18 = .ok (.putfield 25, 3) := by decide +kernel
theorem dX6_readSigns_21 : decode cX6_readSigns 21 = .ok (.return_, 1) := by decide +kernel
theorem dX6_readSigns_22 : decode cX6_readSigns 22 = .ok (.aload_n 0, 1) := by decide +kernel
theorem dX6_readSigns_23 : decode cX6_readSigns 23 = .ok (.dup, 1) := by decide +kernel
theorem dX6_readSigns_24 : decode cX6_readSigns 24 = .ok (.getfield 31, 3) := by decide +kernel
theorem dX6_readSigns_27 : decode cX6_readSigns 27 = .ok (.iconst 1, 1) := by decide +kernel
theorem dX6_readSigns_28 : decode cX6_readSigns 28 = .ok (.iadd, 1) := by decide +kernel
theorem dX6_readSigns_29 : decode cX6_readSigns 29 = .ok (.putfield 31, 3) := by decide +kernel
theorem dX6_readSigns_32 : decode cX6_readSigns 32 = .ok (.aload_n 0, 1) := by decide +kernel
theorem dX6_readSigns_33 : decode cX6_readSigns 33 = .ok (.invokevirtual 45, 3) := by decide +kernel
theorem dX6_readSigns_36 : decode cX6_readSigns 36 = .ok (.aload_n 0, 1) := by decide +kernel
theorem dX6_readSigns_37 : decode cX6_readSigns 37 = .ok (.invokevirtual 51, 3) := by decide +kernel
theorem dX6_readSigns_40 : decode cX6_readSigns 40 = .ok (.bipush 120, 2) := by decide +kernel
theorem dX6_readSigns_42 : decode cX6_readSigns 42 = .ok (.if_icmp .ne 10, 3) := by decide +kernel
theorem dX6_readSigns_45 : decode cX6_readSigns 45 = .ok (.aload_n 0, 1) := by decide +kernel
theorem dX6_readSigns_46 : decode cX6_readSigns 46 = .ok (.invokevirtual 62, 3) := by decide +kernel
theorem dX6_readSigns_49 : decode cX6_readSigns 49 = .ok (.goto 4, 3) := by decide +kernel
theorem dX6_readSigns_52 : decode cX6_readSigns 52 = .ok (.iconst 1, 1) := by decide +kernel
theorem dX6_readSigns_53 : decode cX6_readSigns 53 = .ok (.istore_n 3, 1) := by decide +kernel
theorem dX6_readSigns_54 : decode cX6_readSigns 54 = .ok (.aload_n 0, 1) := by decide +kernel
theorem dX6_readSigns_55 : decode cX6_readSigns 55 = .ok (.getfield 25, 3) := by decide +kernel
theorem dX6_readSigns_58 : decode cX6_readSigns 58 = .ok (.iconst (-1), 1) := by decide +kernel
theorem dX6_readSigns_59 : decode cX6_readSigns 59 = .ok (.if_icmp .eq 4, 3) := by decide +kernel
theorem dX6_readSigns_62 : decode cX6_readSigns 62 = .ok (.return_, 1) := by decide +kernel
theorem dX6_readSigns_63 : decode cX6_readSigns 63 = .ok (.aload_n 0, 1) := by decide +kernel
theorem dX6_readSigns_64 : decode cX6_readSigns 64 = .ok (.getfield 22, 3) := by decide +kernel
theorem dX6_readSigns_67 : decode cX6_readSigns 67 = .ok (.iload_n 3, 1) := by decide +kernel
theorem dX6_readSigns_68 : decode cX6_readSigns 68 = .ok (.iadd, 1) := by decide +kernel
theorem dX6_readSigns_69 : decode cX6_readSigns 69 = .ok (.aload_n 0, 1) := by decide +kernel
theorem dX6_readSigns_70 : decode cX6_readSigns 70 = .ok (.getfield 28, 3) := by decide +kernel
theorem dX6_readSigns_73 : decode cX6_readSigns 73 = .ok (.if_icmp .le 9, 3) := by decide +kernel
theorem dX6_readSigns_76 : decode cX6_readSigns 76 = .ok (.aload_n 0, 1) := by decide +kernel
theorem dX6_readSigns_77 : decode cX6_readSigns 77 = .ok (.iload_n 2, 1) := by decide +kernel
theorem dX6_readSigns_78 : decode cX6_readSigns 78 = .ok (.putfield 25, 3) := by decide +kernel
theorem dX6_readSigns_81 : decode cX6_readSigns 81 = .ok (.return_, 1) := by decide +kernel
theorem dX6_readSigns_82 : decode cX6_readSigns 82 = .ok (.iconst 0, 1) := by decide +kernel
theorem dX6_readSigns_83 : decode cX6_readSigns 83 = .ok (.istore 4, 2) := by decide +kernel
theorem dX6_readSigns_85 : decode cX6_readSigns 85 = .ok (.iload 4, 2) := by decide +kernel
theorem dX6_readSigns_87 : decode cX6_readSigns 87 = .ok (.iload_n 3, 1) := by decide +kernel
theorem dX6_readSigns_88 : decode cX6_readSigns 88 = .ok (.if_icmp .ge 14, 3) := by decide +kernel
theorem dX6_readSigns_91 : decode cX6_readSigns 91 = .ok (.aload_n 0, 1) := by decide +kernel
theorem dX6_readSigns_92 : decode cX6_readSigns 92 = .ok (.iload_n 1, 1) := by decide +kernel
theorem dX6_readSigns_93 : decode cX6_readSigns 93 = .ok (.invokevirtual 65, 3) := by decide +kernel
theorem dX6_readSigns_96 : decode cX6_readSigns 96 = .ok (.iinc 4 1, 3) := by decide +kernel
theorem dX6_readSigns_99 : decode cX6_readSigns 99 = .ok (.goto (-14), 3) := by decide +kernel
theorem dX6_readSigns_102 : decode cX6_readSigns 102 = .ok (.return_, 1) := by decide +kernel
theorem dX6_readGroupEnd_0 : decode cX6_readGroupEnd 0 = .ok (.aload_n 0, 1) := by decide +kernel
theorem dX6_readGroupEnd_1 : decode cX6_readGroupEnd 1 = .ok (.getfield 31, 3) := by decide +kernel
theorem dX6_readGroupEnd_4 : decode cX6_readGroupEnd 4 = .ok (.istore_n 1, 1) := by decide +kernel
theorem dX6_readGroupEnd_5 : decode cX6_readGroupEnd 5 = .ok (.aload_n 0, 1) := by decide +kernel
theorem dX6_readGroupEnd_6 : decode cX6_readGroupEnd 6 = .ok (.dup, 1) := by decide +kernel
theorem dX6_readGroupEnd_7 : decode cX6_readGroupEnd 7 = .ok (.getfield 31, 3) := by decide +kernel
theorem dX6_readGroupEnd_10 : decode cX6_readGroupEnd 10 = .ok (.iconst 1, 1) := by decide +kernel
theorem dX6_readGroupEnd_11 : decode cX6_readGroupEnd 11 = .ok (.iadd, 1) := by decide +kernel
theorem dX6_readGroupEnd_12 : decode cX6_readGroupEnd 12 = .ok (.putfield 31, 3) := by decide +kernel
theorem dX6_readGroupEnd_15 : decode cX6_readGroupEnd 15 = .ok (.aload_n 0, 1) := by decide +kernel
theorem dX6_readGroupEnd_16 : decode cX6_readGroupEnd 16 = .ok (.invokevirtual 45, 3) := by decide +kernel
theorem dX6_readGroupEnd_19 : decode cX6_readGroupEnd 19 = .ok (.aload_n 0, 1) := by decide +kernel
theorem dX6_readGroupEnd_20 : decode cX6_readGroupEnd 20 = .ok (.invokevirtual 51, 3) := by decide +kernel
theorem dX6_readGroupEnd_23 : decode cX6_readGroupEnd 23 = .ok (.bipush 120, 2) := by decide +kernel
theorem dX6_readGroupEnd_25 : decode cX6_readGroupEnd 25 = .ok (.if_icmp .eq 12, 3) := by decide +kernel
theorem dX6_readGroupEnd_28 : decode cX6_readGroupEnd 28 = .ok (.aload_n 0, 1) := by decide +kernel
theorem dX6_readGroupEnd_29 : decode cX6_readGroupEnd 29 = .ok (.aload_n 0, 1) := by decide +kernel
theorem dX6_readGroupEnd_30 : decode cX6_readGroupEnd 30 = .ok (.getfield 31, 3) := by decide +kernel
theorem dX6_readGroupEnd_33 : decode cX6_readGroupEnd 33 = .ok (.putfield 25, 3) := by decide +kernel
theorem dX6_readGroupEnd_36 : decode cX6_readGroupEnd 36 = .ok (.return_, 1) := by decide +kernel
theorem dX6_readGroupEnd_37 : decode cX6_readGroupEnd 37 = .ok (.aload_n 0, 1) := by decide +kernel
theorem dX6_readGroupEnd_38 : decode cX6_readGroupEnd 38 = .ok (.invokevirtual 62, 3) := by decide +kernel
theorem dX6_readGroupEnd_41 : decode cX6_readGroupEnd 41 = .ok (.istore_n 2, 1) := by decide +kernel
theorem dX6_readGroupEnd_42 : decode cX6_readGroupEnd 42 = .ok (.aload_n 0, 1) := by decide +kernel
theorem dX6_readGroupEnd_43 : decode cX6_readGroupEnd 43 = .ok (.getfield 25, 3) := by decide +kernel
theorem dX6_readGroupEnd_46 : decode cX6_readGroupEnd 46 = .ok (.iconst (-1), 1) := by decide +kernel
theorem dX6_readGroupEnd_47 : decode cX6_readGroupEnd 47 = .ok (.if_icmp .eq 4, 3) := by decide +kernel
theorem dX6_readGroupEnd_50 : decode cX6_readGroupEnd 50 = .ok (.return_, 1) := by decide +kernel
theorem dX6_readGroupEnd_51 : decode cX6_readGroupEnd 51 = .ok (.iconst 0, 1) := by decide +kernel
theorem dX6_readGroupEnd_52 : decode cX6_readGroupEnd 52 = .ok (.aload_n 0, 1) := by decide +kernel
theorem dX6_readGroupEnd_53 : decode cX6_readGroupEnd 53 = .ok (.getfield 34, 3) := by decide +kernel
theorem dX6_readGroupEnd_56 : decode cX6_readGroupEnd 56 = .ok (.invokestatic 68, 3) := by decide +kernel
theorem dX6_readGroupEnd_59 : decode cX6_readGroupEnd 59 = .ok (.istore_n 3, 1) := by decide +kernel
theorem dX6_readGroupEnd_60 : decode cX6_readGroupEnd 60 = .ok (.aload_n 0, 1) := by decide +kernel
theorem dX6_readGroupEnd_61 : decode cX6_readGroupEnd 61 = .ok (.getfield 22, 3) := by decide +kernel
theorem dX6_readGroupEnd_64 : decode cX6_readGroupEnd 64 = .ok (.iload_n 3, 1) := by decide +kernel
theorem dX6_readGroupEnd_65 : decode cX6_readGroupEnd 65 = .ok (.isub, 1) := by decide +kernel
theorem dX6_readGroupEnd_66 : decode cX6_readGroupEnd 66 = .ok (.istore 4, 2) := by decide +kernel
theorem dX6_readGroupEnd_68 : decode cX6_readGroupEnd 68 = .ok (.iload_n 3, 1) := by decide +kernel
theorem dX6_readGroupEnd_69 : decode cX6_readGroupEnd 69 = .ok (.iload 4, 2) := by decide +kernel
theorem dX6_readGroupEnd_71 : decode cX6_readGroupEnd 71 = .ok (.iload_n 2, 1) := by decide +kernel
theorem dX6_readGroupEnd_72 : decode cX6_readGroupEnd 72 = .ok (.imul, 1) := by decide +kernel
theorem dX6_readGroupEnd_73 : decode cX6_readGroupEnd 73 = .ok (.iadd, 1) := by decide +kernel
theorem dX6_readGroupEnd_74 : decode cX6_readGroupEnd 74 = .ok (.aload_n 0, 1) := by decide +kernel
theorem dX6_readGroupEnd_75 : decode cX6_readGroupEnd 75 = .ok (.getfield 28, 3) := by decide +kernel
theorem dX6_readGroupEnd_78 : decode cX6_readGroupEnd 78 = .ok (.if_icmp .le 9, 3) := by decide +kernel
theorem dX6_readGroupEnd_81 : decode cX6_readGroupEnd 81 = .ok (.aload_n 0, 1) := by decide +kernel
theorem dX6_readGroupEnd_82 : decode cX6_readGroupEnd 82 = .ok (.iload_n 1, 1) := by decide +kernel
theorem dX6_readGroupEnd_83 : decode cX6_readGroupEnd 83 = .ok (.putfield 25, 3) := by decide +kernel
theorem dX6_readGroupEnd_86 : decode cX6_readGroupEnd 86 = .ok (.return_, 1) := by decide +kernel
theorem dX6_readGroupEnd_87 : decode cX6_readGroupEnd 87 = .ok (.iconst 0, 1) := by decide +kernel
theorem dX6_readGroupEnd_88 : decode cX6_readGroupEnd 88 = .ok (.istore 5, 2) := by decide +kernel
theorem dX6_readGroupEnd_90 : decode cX6_readGroupEnd 90 = .ok (.iload 5, 2) := by decide +kernel
theorem dX6_readGroupEnd_92 : decode cX6_readGroupEnd 92 = .ok (.iload 4, 2) := by decide +kernel
theorem dX6_readGroupEnd_94 : decode cX6_readGroupEnd 94 = .ok (.iload_n 2, 1) := by decide +kernel
theorem dX6_readGroupEnd_95 : decode cX6_readGroupEnd 95 = .ok (.iconst 1, 1) := by decide +kernel
theorem dX6_readGroupEnd_96 : decode cX6_readGroupEnd 96 = .ok (.isub, 1) := by decide +kernel
theorem dX6_readGroupEnd_97 : decode cX6_readGroupEnd 97 = .ok (.imul, 1) := by decide +kernel
theorem dX6_readGroupEnd_98 : decode cX6_readGroupEnd 98 = .ok (.if_icmp .ge 21, 3) := by decide +kernel
theorem dX6_readGroupEnd_101 : decode cX6_readGroupEnd 101 = .ok (.aload_n 0, 1) := by decide +kernel
theorem dX6_readGroupEnd_102 : decode cX6_readGroupEnd 102 = .ok (.aload_n 0, 1) := by decide +kernel
theorem dX6_readGroupEnd_103 : decode cX6_readGroupEnd 103 = .ok (.iload_n 3, 1) := by decide +kernel
theorem dX6_readGroupEnd_104 : decode cX6_readGroupEnd 104 = .ok (.iload 5, 2) := by decide +kernel
theorem dX6_readGroupEnd_106 : decode cX6_readGroupEnd 106 = .ok (.iadd, 1) := by decide +kernel
theorem dX6_readGroupEnd_107 : decode cX6_readGroupEnd 107 = .ok (.invokevirtual 74, 3) := by decide +kernel
theorem dX6_readGroupEnd_110 : decode cX6_readGroupEnd 110 = .ok (.invokevirtual 65, 3) := by decide +kernel
theorem dX6_readGroupEnd_113 : decode cX6_readGroupEnd 113 = .ok (.iinc 5 1, 3) := by decide +kernel
theorem dX6_readGroupEnd_116 : decode cX6_readGroupEnd 116 = .ok (.goto (-26), 3) := by decide +kernel
theorem dX6_readGroupEnd_119 : decode cX6_readGroupEnd 119 = .ok (.aload_n 0, 1) := by decide +kernel
theorem dX6_readGroupEnd_120 : decode cX6_readGroupEnd 120 = .ok (.iconst (-1), 1) := by decide +kernel
theorem dX6_readGroupEnd_121 : decode cX6_readGroupEnd 121 = .ok (.putfield 34, 3) := by decide +kernel
theorem dX6_readGroupEnd_124 : decode cX6_readGroupEnd 124 = .ok (.return_, 1) := by decide +kernel
theorem dX6_readTimes_0 : decode cX6_readTimes 0 = .ok (.aload_n 0, 1) := by decide +kernel
theorem dX6_readTimes_1 : decode cX6_readTimes 1 = .ok (.dup, 1) := by decide +kernel
theorem dX6_readTimes_2 : decode cX6_readTimes 2 = .ok (.getfield 31, 3) := by decide +kernel
theorem dX6_readTimes_5 : decode cX6_readTimes 5 = .ok (.iconst 1, 1) := by decide +kernel
theorem dX6_readTimes_6 : decode cX6_readTimes 6 = .ok (.iadd, 1) := by decide +kernel
theorem dX6_readTimes_7 : decode cX6_readTimes 7 = .ok (.putfield 31, 3) := by decide +kernel
theorem dX6_readTimes_10 : decode cX6_readTimes 10 = .ok (.aload_n 0, 1) := by decide +kernel
theorem dX6_readTimes_11 : decode cX6_readTimes 11 = .ok (.invokevirtual 45, 3) := by decide +kernel
theorem dX6_readTimes_14 : decode cX6_readTimes 14 = .ok (.aload_n 0, 1) := by decide +kernel
theorem dX6_readTimes_15 : decode cX6_readTimes 15 = .ok (.getfield 31, 3) := by decide +kernel
theorem dX6_readTimes_18 : decode cX6_readTimes 18 = .ok (.istore_n 1, 1) := by decide +kernel
theorem dX6_readTimes_19 : decode cX6_readTimes 19 = .ok (.iconst 0, 1) := by decide +kernel
theorem dX6_readTimes_20 : decode cX6_readTimes 20 = .ok (.istore_n 2, 1) := by decide +kernel
theorem dX6_readTimes_21 : decode cX6_readTimes 21 = .ok (.iconst 0, 1) := by decide +kernel
theorem dX6_readTimes_22 : decode cX6_readTimes 22 = .ok (.istore_n 3, 1) := by decide +kernel
theorem dX6_readTimes_23 : decode cX6_readTimes 23 = .ok (.iload_n 3, 1) := by decide +kernel
theorem dX6_readTimes_24 : decode cX6_readTimes 24 = .ok (.bipush 120, 2) := by decide +kernel
theorem dX6_readTimes_26 : decode cX6_readTimes 26 = .ok (.if_icmp .ge 52, 3) := by decide +kernel
theorem dX6_readTimes_29 : decode cX6_readTimes 29 = .ok (.aload_n 0, 1) := by decide +kernel
theorem dX6_readTimes_30 : decode cX6_readTimes 30 = .ok (.invokevirtual 51, 3) := by decide +kernel
theorem dX6_readTimes_33 : decode cX6_readTimes 33 = .ok (.bipush 48, 2) := by decide +kernel
theorem dX6_readTimes_35 : decode cX6_readTimes 35 = .ok (.bipush 57, 2) := by decide +kernel
theorem dX6_readTimes_37 : decode cX6_readTimes 37 = .ok (.invokestatic 37, 3) := by decide +kernel
theorem dX6_readTimes_40 : decode cX6_readTimes 40 = .ok (.ifCond .eq 38, 3) := by decide +kernel
theorem dX6_readTimes_43 : decode cX6_readTimes 43 = .ok (.sipush 1000, 3) := by decide +kernel
theorem dX6_readTimes_46 : decode cX6_readTimes 46 = .ok (.iload_n 2, 1) := by decide +kernel
theorem dX6_readTimes_47 : decode cX6_readTimes 47 = .ok (.bipush 10, 2) := by decide +kernel
theorem dX6_readTimes_49 : decode cX6_readTimes 49 = .ok (.imul, 1) := by decide +kernel
theorem dX6_readTimes_50 : decode cX6_readTimes 50 = .ok (.aload_n 0, 1) := by decide +kernel
theorem dX6_readTimes_51 : decode cX6_readTimes 51 = .ok (.invokevirtual 51, 3) := by decide +kernel
theorem dX6_readTimes_54 : decode cX6_readTimes 54 = .ok (.iadd, 1) := by decide +kernel
theorem dX6_readTimes_55 : decode cX6_readTimes 55 = .ok (.bipush 48, 2) := by decide +kernel
theorem dX6_readTimes_57 : decode cX6_readTimes 57 = .ok (.isub, 1) := by decide +kernel
theorem dX6_readTimes_58 : decode cX6_readTimes 58 = .ok (.invokestatic 78, 3) := by decide +kernel
theorem dX6_readTimes_61 : decode cX6_readTimes 61 = .ok (.istore_n 2, 1) := by decide +kernel
theorem dX6_readTimes_62 : decode cX6_readTimes 62 = .ok (.aload_n 0, 1) := by decide +kernel
theorem dX6_readTimes_63 : decode cX6_readTimes 63 = .ok (.dup, 1) := by decide +kernel
theorem dX6_readTimes_64 : decode cX6_readTimes 64 = .ok (.getfield 31, 3) := by decide +kernel
theorem dX6_readTimes_67 : decode cX6_readTimes 67 = .ok (.iconst 1, 1) := by decide +kernel
theorem dX6_readTimes_68 : decode cX6_readTimes 68 = .ok (.iadd, 1) := by decide +kernel
theorem dX6_readTimes_69 : decode cX6_readTimes 69 = .ok (.putfield 31, 3) := by decide +kernel
theorem dX6_readTimes_72 : decode cX6_readTimes 72 = .ok (.iinc 3 1, 3) := by decide +kernel
theorem dX6_readTimes_75 : decode cX6_readTimes 75 = .ok (.goto (-52), 3) := by decide +kernel
theorem dX6_readTimes_78 : decode cX6_readTimes 78 = .ok (.aload_n 0, 1) := by decide +kernel
theorem dX6_readTimes_79 : decode cX6_readTimes 79 = .ok (.getfield 31, 3) := by decide +kernel
theorem dX6_readTimes_82 : decode cX6_readTimes 82 = .ok (.iload_n 1, 1) := by decide +kernel
theorem dX6_readTimes_83 : decode cX6_readTimes 83 = .ok (.isub, 1) := by decide +kernel
theorem dX6_readTimes_84 : decode cX6_readTimes 84 = .ok (.iconst 1, 1) := by decide +kernel
theorem dX6_readTimes_85 : decode cX6_readTimes 85 = .ok (.iconst 2, 1) := by decide +kernel
theorem dX6_readTimes_86 : decode cX6_readTimes 86 = .ok (.invokestatic 37, 3) := by decide +kernel
theorem dX6_readTimes_89 : decode cX6_readTimes 89 = .ok (.ifCond .eq 8, 3) := by decide +kernel
theorem dX6_readTimes_92 : decode cX6_readTimes 92 = .ok (.iload_n 2, 1) := by decide +kernel
theorem dX6_readTimes_93 : decode cX6_readTimes 93 = .ok (.iconst 1, 1) := by decide +kernel
theorem dX6_readTimes_94 : decode cX6_readTimes 94 = .ok (.if_icmp .ge 8, 3) := by decide +kernel
theorem dX6_readTimes_97 : decode cX6_readTimes 97 = .ok (.aload_n 0, 1) := by decide +kernel
theorem dX6_readTimes_98 : decode cX6_readTimes 98 = .ok (.iload_n 1, 1) := by decide +kernel
theorem dX6_readTimes_99 : decode cX6_readTimes 99 = .ok (.putfield 25, 3) := by decide +kernel
theorem dX6_readTimes_102 : decode cX6_readTimes 102 = .ok (.iload_n 2, 1) := by decide +kernel
theorem dX6_readTimes_103 : decode cX6_readTimes 103 = .ok (.ireturn, 1) := by decide +kernel
theorem dX6_skipBlanks_0 : decode cX6_skipBlanks 0 = .ok (.iconst 0, 1) := by decide +kernel
theorem dX6_skipBlanks_1 : decode cX6_skipBlanks 1 = .ok (.istore_n 1, 1) := by decide +kernel
theorem dX6_skipBlanks_2 : decode cX6_skipBlanks 2 = .ok (.iload_n 1, 1) := by decide +kernel
theorem dX6_skipBlanks_3 : decode cX6_skipBlanks 3 = .ok (.bipush 120, 2) := by decide +kernel
theorem dX6_skipBlanks_5 : decode cX6_skipBlanks 5 = .ok (.if_icmp .ge 28, 3) := by decide +kernel
theorem dX6_skipBlanks_8 : decode cX6_skipBlanks 8 = .ok (.aload_n 0, 1) := by decide +kernel
theorem dX6_skipBlanks_9 : decode cX6_skipBlanks 9 = .ok (.invokevirtual 51, 3) := by decide +kernel
theorem dX6_skipBlanks_12 : decode cX6_skipBlanks 12 = .ok (.bipush 32, 2) := by decide +kernel
theorem dX6_skipBlanks_14 : decode cX6_skipBlanks 14 = .ok (.if_icmp .ne 19, 3) := by decide +kernel
theorem dX6_skipBlanks_17 : decode cX6_skipBlanks 17 = .ok (.aload_n 0, 1) := by decide +kernel
theorem dX6_skipBlanks_18 : decode cX6_skipBlanks 18 = .ok (.dup, 1) := by decide +kernel
theorem dX6_skipBlanks_19 : decode cX6_skipBlanks 19 = .ok (.getfield 31, 3) := by decide +kernel
theorem dX6_skipBlanks_22 : decode cX6_skipBlanks 22 = .ok (.iconst 1, 1) := by decide +kernel
theorem dX6_skipBlanks_23 : decode cX6_skipBlanks 23 = .ok (.iadd, 1) := by decide +kernel
theorem dX6_skipBlanks_24 : decode cX6_skipBlanks 24 = .ok (.putfield 31, 3) := by decide +kernel
theorem dX6_skipBlanks_27 : decode cX6_skipBlanks 27 = .ok (.iinc 1 1, 3) := by decide +kernel
theorem dX6_skipBlanks_30 : decode cX6_skipBlanks 30 = .ok (.goto (-28), 3) := by decide +kernel
theorem dX6_skipBlanks_33 : decode cX6_skipBlanks 33 = .ok (.return_, 1) := by decide +kernel
theorem dX6_here_0 : decode cX6_here 0 = .ok (.aload_n 0, 1) := by decide +kernel
theorem dX6_here_1 : decode cX6_here 1 = .ok (.getfield 31, 3) := by decide +kernel
theorem dX6_here_4 : decode cX6_here 4 = .ok (.ifCond .lt 35, 3) := by decide +kernel
theorem dX6_here_7 : decode cX6_here 7 = .ok (.aload_n 0, 1) := by decide +kernel
theorem dX6_here_8 : decode cX6_here 8 = .ok (.getfield 31, 3) := by decide +kernel
theorem dX6_here_11 : decode cX6_here 11 = .ok (.aload_n 0, 1) := by decide +kernel
theorem dX6_here_12 : decode cX6_here 12 = .ok (.getfield 18, 3) := by decide +kernel
theorem dX6_here_15 : decode cX6_here 15 = .ok (.if_icmp .ge 24, 3) := by decide +kernel
theorem dX6_here_18 : decode cX6_here 18 = .ok (.aload_n 0, 1) := by decide +kernel
theorem dX6_here_19 : decode cX6_here 19 = .ok (.getfield 31, 3) := by decide +kernel
theorem dX6_here_22 : decode cX6_here 22 = .ok (.bipush 120, 2) := by decide +kernel
theorem dX6_here_24 : decode cX6_here 24 = .ok (.if_icmp .ge 15, 3) := by decide +kernel
theorem dX6_here_27 : decode cX6_here 27 = .ok (.aload_n 0, 1) := by decide +kernel
theorem dX6_here_28 : decode cX6_here 28 = .ok (.getfield 9, 3) := by decide +kernel
theorem dX6_here_31 : decode cX6_here 31 = .ok (.aload_n 0, 1) := by decide +kernel
theorem dX6_here_32 : decode cX6_here 32 = .ok (.getfield 31, 3) := by decide +kernel
theorem dX6_here_35 : decode cX6_here 35 = .ok (.iaload, 1) := by decide +kernel
theorem dX6_here_36 : decode cX6_here 36 = .ok (.goto 4, 3) := by decide +kernel
theorem dX6_here_39 : decode cX6_here 39 = .ok (.iconst (-1), 1) := by decide +kernel
theorem dX6_here_40 : decode cX6_here 40 = .ok (.ireturn, 1) := by decide +kernel
theorem dX6_signAt_0 : decode cX6_signAt 0 = .ok (.iload_n 1, 1) := by decide +kernel
theorem dX6_signAt_1 : decode cX6_signAt 1 = .ok (.iconst 0, 1) := by decide +kernel
theorem dX6_signAt_2 : decode cX6_signAt 2 = .ok (.aload_n 0, 1) := by decide +kernel
theorem dX6_signAt_3 : decode cX6_signAt 3 = .ok (.getfield 22, 3) := by decide +kernel
theorem dX6_signAt_6 : decode cX6_signAt 6 = .ok (.iconst 1, 1) := by decide +kernel
theorem dX6_signAt_7 : decode cX6_signAt 7 = .ok (.isub, 1) := by decide +kernel
theorem dX6_signAt_8 : decode cX6_signAt 8 = .ok (.invokestatic 37, 3) := by decide +kernel
theorem dX6_signAt_11 : decode cX6_signAt 11 = .ok (.ifCond .eq 12, 3) := by decide +kernel
theorem dX6_signAt_14 : decode cX6_signAt 14 = .ok (.aload_n 0, 1) := by decide +kernel
theorem dX6_signAt_15 : decode cX6_signAt 15 = .ok (.getfield 15, 3) := by decide +kernel
theorem dX6_signAt_18 : decode cX6_signAt 18 = .ok (.iload_n 1, 1) := by decide +kernel
theorem dX6_signAt_19 : decode cX6_signAt 19 = .ok (.iaload, 1) := by decide +kernel
theorem dX6_signAt_20 : decode cX6_signAt 20 = .ok (.goto 4, 3) := by decide +kernel
theorem dX6_signAt_23 : decode cX6_signAt 23 = .ok (.iconst 0, 1) := by decide +kernel
theorem dX6_signAt_24 : decode cX6_signAt 24 = .ok (.ireturn, 1) := by decide +kernel
theorem dX6_addSign_0 : decode cX6_addSign 0 = .ok (.aload_n 0, 1) := by decide +kernel
theorem dX6_addSign_1 : decode cX6_addSign 1 = .ok (.getfield 22, 3) := by decide +kernel
theorem dX6_addSign_4 : decode cX6_addSign 4 = .ok (.iconst 0, 1) := by decide +kernel
theorem dX6_addSign_5 : decode cX6_addSign 5 = .ok (.bipush 99, 2) := by decide +kernel
theorem dX6_addSign_7 : decode cX6_addSign 7 = .ok (.invokestatic 37, 3) := by decide +kernel
theorem dX6_addSign_10 : decode cX6_addSign 10 = .ok (.ifCond .ne 4, 3) := by decide +kernel
theorem dX6_addSign_13 : decode cX6_addSign 13 = .ok (.return_, 1) := by decide +kernel
theorem dX6_addSign_14 : decode cX6_addSign 14 = .ok (.aload_n 0, 1) := by decide +kernel
theorem dX6_addSign_15 : decode cX6_addSign 15 = .ok (.getfield 15, 3) := by decide +kernel
theorem dX6_addSign_18 : decode cX6_addSign 18 = .ok (.aload_n 0, 1) := by decide +kernel
theorem dX6_addSign_19 : decode cX6_addSign 19 = .ok (.getfield 22, 3) := by decide +kernel
theorem dX6_addSign_22 : decode cX6_addSign 22 = .ok (.iload_n 1, 1) := by decide +kernel
theorem dX6_addSign_23 : decode cX6_addSign 23 = .ok (.iastore, 1) := by decide +kernel
theorem dX6_addSign_24 : decode cX6_addSign 24 = .ok (.aload_n 0, 1) := by decide +kernel
theorem dX6_addSign_25 : decode cX6_addSign 25 = .ok (.dup, 1) := by decide +kernel
theorem dX6_addSign_26 : decode cX6_addSign 26 = .ok (.getfield 22, 3) := by decide +kernel
theorem dX6_addSign_29 : decode cX6_addSign 29 = .ok (.iconst 1, 1) := by decide +kernel
theorem dX6_addSign_30 : decode cX6_addSign 30 = .ok (.iadd, 1) := by decide +kernel
theorem dX6_addSign_31 : decode cX6_addSign 31 = .ok (.putfield 22, 3) := by decide +kernel
theorem dX6_addSign_34 : decode cX6_addSign 34 = .ok (.return_, 1) := by decide +kernel
theorem dX7_init_0 : decode cX7_init 0 = .ok (.aload_n 0, 1) := by decide +kernel
theorem dX7_init_1 : decode cX7_init 1 = .ok (.invokespecial 3, 3) := by decide +kernel
theorem dX7_init_4 : decode cX7_init 4 = .ok (.aload_n 0, 1) := by decide +kernel
theorem dX7_init_5 : decode cX7_init 5 = .ok (.sipush 204, 3) := by decide +kernel
theorem dX7_init_8 : decode cX7_init 8 = .ok (.newarray .int, 2) := by decide +kernel
theorem dX7_init_10 : decode cX7_init 10 = .ok (.putfield 9, 3) := by decide +kernel
theorem dX7_init_13 : decode cX7_init 13 = .ok (.aload_n 0, 1) := by decide +kernel
theorem dX7_init_14 : decode cX7_init 14 = .ok (.iconst 0, 1) := by decide +kernel
theorem dX7_init_15 : decode cX7_init 15 = .ok (.putfield 15, 3) := by decide +kernel
theorem dX7_init_18 : decode cX7_init 18 = .ok (.aload_n 0, 1) := by decide +kernel
theorem dX7_init_19 : decode cX7_init 19 = .ok (.lconst 0, 1) := by decide +kernel
theorem dX7_init_20 : decode cX7_init 20 = .ok (.putfield 19, 3) := by decide +kernel
theorem dX7_init_23 : decode cX7_init 23 = .ok (.aload_n 0, 1) := by decide +kernel
theorem dX7_init_24 : decode cX7_init 24 = .ok (.ldc2_w 23, 3) := by decide +kernel
theorem dX7_init_27 : decode cX7_init 27 = .ok (.putfield 25, 3) := by decide +kernel
theorem dX7_init_30 : decode cX7_init 30 = .ok (.aload_n 0, 1) := by decide +kernel
theorem dX7_init_31 : decode cX7_init 31 = .ok (.lconst 0, 1) := by decide +kernel
theorem dX7_init_32 : decode cX7_init 32 = .ok (.putfield 28, 3) := by decide +kernel
theorem dX7_init_35 : decode cX7_init 35 = .ok (.aload_n 0, 1) := by decide +kernel
theorem dX7_init_36 : decode cX7_init 36 = .ok (.iconst 0, 1) := by decide +kernel
theorem dX7_init_37 : decode cX7_init 37 = .ok (.putfield 31, 3) := by decide +kernel
theorem dX7_init_40 : decode cX7_init 40 = .ok (.return_, 1) := by decide +kernel
theorem dX7_write_0 : decode cX7_write 0 = .ok (.aload_n 0, 1) := by decide +kernel
theorem dX7_write_1 : decode cX7_write 1 = .ok (.iconst 0, 1) := by decide +kernel
theorem dX7_write_2 : decode cX7_write 2 = .ok (.putfield 15, 3) := by decide +kernel
theorem dX7_write_5 : decode cX7_write 5 = .ok (.aload_n 0, 1) := by decide +kernel
theorem dX7_write_6 : decode cX7_write 6 = .ok (.lconst 0, 1) := by decide +kernel
theorem dX7_write_7 : decode cX7_write 7 = .ok (.putfield 19, 3) := by decide +kernel
theorem dX7_write_10 : decode cX7_write 10 = .ok (.aload_n 0, 1) := by decide +kernel
theorem dX7_write_11 : decode cX7_write 11 = .ok (.ldc2_w 23, 3) := by decide +kernel
theorem dX7_write_14 : decode cX7_write 14 = .ok (.putfield 25, 3) := by decide +kernel
theorem dX7_write_17 : decode cX7_write 17 = .ok (.iconst 0, 1) := by decide +kernel
theorem dX7_write_18 : decode cX7_write 18 = .ok (.istore_n 2, 1) := by decide +kernel
theorem dX7_write_19 : decode cX7_write 19 = .ok (.iload_n 2, 1) := by decide +kernel
theorem dX7_write_20 : decode cX7_write 20 = .ok (.aload_n 1, 1) := by decide +kernel
theorem dX7_write_21 : decode cX7_write 21 = .ok (.getfield 34, 3) := by decide +kernel
theorem dX7_write_24 : decode cX7_write 24 = .ok (.if_icmp .ge 25, 3) := by decide +kernel
theorem dX7_write_27 : decode cX7_write 27 = .ok (.aload_n 0, 1) := by decide +kernel
theorem dX7_write_28 : decode cX7_write 28 = .ok (.aload_n 1, 1) := by decide +kernel
theorem dX7_write_29 : decode cX7_write 29 = .ok (.getfield 37, 3) := by decide +kernel
theorem dX7_write_32 : decode cX7_write 32 = .ok (.iload_n 2, 1) := by decide +kernel
theorem dX7_write_33 : decode cX7_write 33 = .ok (.iaload, 1) := by decide +kernel
theorem dX7_write_34 : decode cX7_write 34 = .ok (.aload_n 1, 1) := by decide +kernel
theorem dX7_write_35 : decode cX7_write 35 = .ok (.getfield 40, 3) := by decide +kernel
theorem dX7_write_38 : decode cX7_write 38 = .ok (.iload_n 2, 1) := by decide +kernel
theorem dX7_write_39 : decode cX7_write 39 = .ok (.iaload, 1) := by decide +kernel
theorem dX7_write_40 : decode cX7_write 40 = .ok (.invokevirtual 43, 3) := by decide +kernel
theorem dX7_write_43 : decode cX7_write 43 = .ok (.iinc 2 1, 3) := by decide +kernel
theorem dX7_write_46 : decode cX7_write 46 = .ok (.goto (-27), 3) := by decide +kernel
theorem dX7_write_49 : decode cX7_write 49 = .ok (.iconst 0, 1) := by decide +kernel
theorem dX7_write_50 : decode cX7_write 50 = .ok (.istore_n 2, 1) := by decide +kernel
theorem dX7_write_51 : decode cX7_write 51 = .ok (.iload_n 2, 1) := by decide +kernel
theorem dX7_write_52 : decode cX7_write 52 = .ok (.iconst 4, 1) := by decide +kernel
theorem dX7_write_53 : decode cX7_write 53 = .ok (.if_icmp .ge 13, 3) := by decide +kernel
theorem dX7_write_56 : decode cX7_write 56 = .ok (.aload_n 0, 1) := by decide +kernel
theorem dX7_write_57 : decode cX7_write 57 = .ok (.invokevirtual 47, 3) := by decide +kernel
theorem dX7_write_60 : decode cX7_write 60 = .ok (.iinc 2 1, 3) := by decide +kernel
theorem dX7_write_63 : decode cX7_write 63 = .ok (.goto (-12), 3) := by decide +kernel
theorem dX7_write_66 : decode cX7_write 66 = .ok (.return_, 1) := by decide +kernel
theorem dX7_byteAt_0 : decode cX7_byteAt 0 = .ok (.iload_n 1, 1) := by decide +kernel
theorem dX7_byteAt_1 : decode cX7_byteAt 1 = .ok (.iconst 0, 1) := by decide +kernel
theorem dX7_byteAt_2 : decode cX7_byteAt 2 = .ok (.aload_n 0, 1) := by decide +kernel
theorem dX7_byteAt_3 : decode cX7_byteAt 3 = .ok (.getfield 15, 3) := by decide +kernel
theorem dX7_byteAt_6 : decode cX7_byteAt 6 = .ok (.iconst 1, 1) := by decide +kernel
theorem dX7_byteAt_7 : decode cX7_byteAt 7 = .ok (.isub, 1) := by decide +kernel
theorem dX7_byteAt_8 : decode cX7_byteAt 8 = .ok (.invokestatic 50, 3) := by decide +kernel
theorem dX7_byteAt_11 : decode cX7_byteAt 11 = .ok (.ifCond .eq 12, 3) := by decide +kernel
theorem dX7_byteAt_14 : decode cX7_byteAt 14 = .ok (.aload_n 0, 1) := by decide +kernel
theorem dX7_byteAt_15 : decode cX7_byteAt 15 = .ok (.getfield 9, 3) := by decide +kernel
theorem dX7_byteAt_18 : decode cX7_byteAt 18 = .ok (.iload_n 1, 1) := by decide +kernel
theorem dX7_byteAt_19 : decode cX7_byteAt 19 = .ok (.iaload, 1) := by decide +kernel
theorem dX7_byteAt_20 : decode cX7_byteAt 20 = .ok (.goto 4, 3) := by decide +kernel
theorem dX7_byteAt_23 : decode cX7_byteAt 23 = .ok (.iconst 0, 1) := by decide +kernel
theorem dX7_byteAt_24 : decode cX7_byteAt 24 = .ok (.ireturn, 1) := by decide +kernel
theorem dX7_spoil_0 : decode cX7_spoil 0 = .ok (.iload_n 1, 1) := by decide +kernel
theorem dX7_spoil_1 : decode cX7_spoil 1 = .ok (.iconst 0, 1) := by decide +kernel
theorem dX7_spoil_2 : decode cX7_spoil 2 = .ok (.aload_n 0, 1) := by decide +kernel
theorem dX7_spoil_3 : decode cX7_spoil 3 = .ok (.getfield 15, 3) := by decide +kernel
theorem dX7_spoil_6 : decode cX7_spoil 6 = .ok (.iconst 1, 1) := by decide +kernel
theorem dX7_spoil_7 : decode cX7_spoil 7 = .ok (.isub, 1) := by decide +kernel
theorem dX7_spoil_8 : decode cX7_spoil 8 = .ok (.invokestatic 50, 3) := by decide +kernel
theorem dX7_spoil_11 : decode cX7_spoil 11 = .ok (.ifCond .eq 13, 3) := by decide +kernel
theorem dX7_spoil_14 : decode cX7_spoil 14 = .ok (.aload_n 0, 1) := by decide +kernel
theorem dX7_spoil_15 : decode cX7_spoil 15 = .ok (.getfield 9, 3) := by decide +kernel
theorem dX7_spoil_18 : decode cX7_spoil 18 = .ok (.iload_n 1, 1) := by decide +kernel
theorem dX7_spoil_19 : decode cX7_spoil 19 = .ok (.dup2, 1) := by decide +kernel
theorem dX7_spoil_20 : decode cX7_spoil 20 = .ok (.iaload, 1) := by decide +kernel
theorem dX7_spoil_21 : decode cX7_spoil 21 = .ok (.iload_n 2, 1) := by decide +kernel
theorem dX7_spoil_22 : decode cX7_spoil 22 = .ok (.ixor, 1) := by decide +kernel
theorem dX7_spoil_23 : decode cX7_spoil 23 = .ok (.iastore, 1) := by decide +kernel
theorem dX7_spoil_24 : decode cX7_spoil 24 = .ok (.return_, 1) := by decide +kernel
theorem dX7_readAgain_0 : decode cX7_readAgain 0 = .ok (.aload_n 2, 1) := by decide +kernel
theorem dX7_readAgain_1 : decode cX7_readAgain 1 = .ok (.aload_n 1, 1) := by decide +kernel
theorem dX7_readAgain_2 : decode cX7_readAgain 2 = .ok (.getfield 54, 3) := by decide +kernel
theorem dX7_readAgain_5 : decode cX7_readAgain 5 = .ok (.getfield 58, 3) := by decide +kernel
theorem dX7_readAgain_8 : decode cX7_readAgain 8 = .ok (.aload_n 1, 1) := by decide +kernel
theorem dX7_readAgain_9 : decode cX7_readAgain 9 = .ok (.getfield 54, 3) := by decide +kernel
theorem dX7_readAgain_12 : decode cX7_readAgain 12 = .ok (.getfield 63, 3) := by decide +kernel
theorem dX7_readAgain_15 : decode cX7_readAgain 15 = .ok (.invokevirtual 66, 3) := by decide +kernel
theorem dX7_readAgain_18 : decode cX7_readAgain 18 = .ok (.aload_n 0, 1) := by decide +kernel
theorem dX7_readAgain_19 : decode cX7_readAgain 19 = .ok (.iconst 0, 1) := by decide +kernel
theorem dX7_readAgain_20 : decode cX7_readAgain 20 = .ok (.putfield 31, 3) := by decide +kernel
theorem dX7_readAgain_23 : decode cX7_readAgain 23 = .ok (.aload_n 0, 1) := by decide +kernel
theorem dX7_readAgain_24 : decode cX7_readAgain 24 = .ok (.lconst 0, 1) := by decide +kernel
theorem dX7_readAgain_25 : decode cX7_readAgain 25 = .ok (.putfield 28, 3) := by decide +kernel
theorem dX7_readAgain_28 : decode cX7_readAgain 28 = .ok (.aload_n 0, 1) := by decide +kernel
theorem dX7_readAgain_29 : decode cX7_readAgain 29 = .ok (.ldc2_w 23, 3) := by decide +kernel
theorem dX7_readAgain_32 : decode cX7_readAgain 32 = .ok (.putfield 25, 3) := by decide +kernel
theorem dX7_readAgain_35 : decode cX7_readAgain 35 = .ok (.iconst 0, 1) := by decide +kernel
theorem dX7_readAgain_36 : decode cX7_readAgain 36 = .ok (.istore_n 3, 1) := by decide +kernel
theorem dX7_readAgain_37 : decode cX7_readAgain 37 = .ok (.iload_n 3, 1) := by decide +kernel
theorem dX7_readAgain_38 : decode cX7_readAgain 38 = .ok (.iconst 4, 1) := by decide +kernel
theorem dX7_readAgain_39 : decode cX7_readAgain 39 = .ok (.if_icmp .ge 13, 3) := by decide +kernel
theorem dX7_readAgain_42 : decode cX7_readAgain 42 = .ok (.aload_n 0, 1) := by decide +kernel
theorem dX7_readAgain_43 : decode cX7_readAgain 43 = .ok (.invokevirtual 69, 3) := by decide +kernel
theorem dX7_readAgain_46 : decode cX7_readAgain 46 = .ok (.iinc 3 1, 3) := by decide +kernel
theorem dX7_readAgain_49 : decode cX7_readAgain 49 = .ok (.goto (-12), 3) := by decide +kernel
theorem dX7_readAgain_52 : decode cX7_readAgain 52 = .ok (.iconst 0, 1) := by decide +kernel
theorem dX7_readAgain_53 : decode cX7_readAgain 53 = .ok (.istore_n 3, 1) := by decide +kernel
theorem dX7_readAgain_54 : decode cX7_readAgain 54 = .ok (.iconst 0, 1) := by decide +kernel
theorem dX7_readAgain_55 : decode cX7_readAgain 55 = .ok (.istore 4, 2) := by decide +kernel
theorem dX7_readAgain_57 : decode cX7_readAgain 57 = .ok (.iload 4, 2) := by decide +kernel
theorem dX7_readAgain_59 : decode cX7_readAgain 59 = .ok (.aload_n 1, 1) := by decide +kernel
theorem dX7_readAgain_60 : decode cX7_readAgain 60 = .ok (.getfield 34, 3) := by decide +kernel
theorem dX7_readAgain_63 : decode cX7_readAgain 63 = .ok (.if_icmp .ge 40, 3) := by decide +kernel
theorem dX7_readAgain_66 : decode cX7_readAgain 66 = .ok (.aload_n 0, 1) := by decide +kernel
theorem dX7_readAgain_67 : decode cX7_readAgain 67 = .ok (.aload_n 2, 1) := by decide +kernel
theorem dX7_readAgain_68 : decode cX7_readAgain 68 = .ok (.invokevirtual 72, 3) := by decide +kernel
theorem dX7_readAgain_71 : decode cX7_readAgain 71 = .ok (.invokevirtual 76, 3) := by decide +kernel
theorem dX7_readAgain_74 : decode cX7_readAgain 74 = .ok (.istore 5, 2) := by decide +kernel
theorem dX7_readAgain_76 : decode cX7_readAgain 76 = .ok (.aload_n 2, 1) := by decide +kernel
theorem dX7_readAgain_77 : decode cX7_readAgain 77 = .ok (.iload 5, 2) := by decide +kernel
theorem dX7_readAgain_79 : decode cX7_readAgain 79 = .ok (.invokevirtual 80, 3) := by decide +kernel
theorem dX7_readAgain_82 : decode cX7_readAgain 82 = .ok (.iload 5, 2) := by decide +kernel
theorem dX7_readAgain_84 : decode cX7_readAgain 84 = .ok (.aload_n 1, 1) := by decide +kernel
theorem dX7_readAgain_85 : decode cX7_readAgain 85 = .ok (.getfield 37, 3) := by decide +kernel
theorem dX7_readAgain_88 : decode cX7_readAgain 88 = .ok (.iload 4, 2) := by decide +kernel
theorem dX7_readAgain_90 : decode cX7_readAgain 90 = .ok (.iaload, 1) := by decide +kernel
theorem dX7_readAgain_91 : decode cX7_readAgain 91 = .ok (.if_icmp .ne 6, 3) := by decide +kernel
theorem dX7_readAgain_94 : decode cX7_readAgain 94 = .ok (.iinc 3 1, 3) := by decide +kernel
theorem dX7_readAgain_97 : decode cX7_readAgain 97 = .ok (.iinc 4 1, 3) := by decide +kernel
theorem dX7_readAgain_100 : decode cX7_readAgain 100 = .ok (.goto (-43), 3) := by decide +kernel
theorem dX7_readAgain_103 : decode cX7_readAgain 103 = .ok (.iload_n 3, 1) := by decide +kernel
theorem dX7_readAgain_104 : decode cX7_readAgain 104 = .ok (.ireturn, 1) := by decide +kernel
theorem dX7_writeSign_0 : decode cX7_writeSign 0 = .ok (.aload_n 0, 1) := by decide +kernel
