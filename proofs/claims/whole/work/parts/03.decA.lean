theorem dX0_init_0 : decode cX0_init 0 = .ok (.aload_n 0, 1) := by decide +kernel
theorem dX0_init_1 : decode cX0_init 1 = .ok (.invokespecial 3, 3) := by decide +kernel
theorem dX0_init_4 : decode cX0_init 4 = .ok (.aload_n 0, 1) := by decide +kernel
theorem dX0_init_5 : decode cX0_init 5 = .ok (.bipush 42, 2) := by decide +kernel
theorem dX0_init_7 : decode cX0_init 7 = .ok (.newarray .long, 2) := by decide +kernel
theorem dX0_init_9 : decode cX0_init 9 = .ok (.putfield 9, 3) := by decide +kernel
theorem dX0_init_12 : decode cX0_init 12 = .ok (.aload_n 0, 1) := by decide +kernel
theorem dX0_init_13 : decode cX0_init 13 = .ok (.bipush 41, 2) := by decide +kernel
theorem dX0_init_15 : decode cX0_init 15 = .ok (.newarray .int, 2) := by decide +kernel
theorem dX0_init_17 : decode cX0_init 17 = .ok (.putfield 15, 3) := by decide +kernel
theorem dX0_init_20 : decode cX0_init 20 = .ok (.aload_n 0, 1) := by decide +kernel
theorem dX0_init_21 : decode cX0_init 21 = .ok (.new 19, 3) := by decide +kernel
theorem dX0_init_24 : decode cX0_init 24 = .ok (.dup, 1) := by decide +kernel
theorem dX0_init_25 : decode cX0_init 25 = .ok (.invokespecial 21, 3) := by decide +kernel
theorem dX0_init_28 : decode cX0_init 28 = .ok (.putfield 22, 3) := by decide +kernel
theorem dX0_init_31 : decode cX0_init 31 = .ok (.aload_n 0, 1) := by decide +kernel
theorem dX0_init_32 : decode cX0_init 32 = .ok (.iconst 0, 1) := by decide +kernel
theorem dX0_init_33 : decode cX0_init 33 = .ok (.putfield 26, 3) := by decide +kernel
theorem dX0_init_36 : decode cX0_init 36 = .ok (.aload_n 0, 1) := by decide +kernel
theorem dX0_init_37 : decode cX0_init 37 = .ok (.iconst 0, 1) := by decide +kernel
theorem dX0_init_38 : decode cX0_init 38 = .ok (.putfield 30, 3) := by decide +kernel
theorem dX0_init_41 : decode cX0_init 41 = .ok (.aload_n 0, 1) := by decide +kernel
theorem dX0_init_42 : decode cX0_init 42 = .ok (.iconst (-1), 1) := by decide +kernel
theorem dX0_init_43 : decode cX0_init 43 = .ok (.putfield 33, 3) := by decide +kernel
theorem dX0_init_46 : decode cX0_init 46 = .ok (.return_, 1) := by decide +kernel
theorem dX0_begin_0 : decode cX0_begin 0 = .ok (.aload_n 0, 1) := by decide +kernel
theorem dX0_begin_1 : decode cX0_begin 1 = .ok (.iconst 0, 1) := by decide +kernel
theorem dX0_begin_2 : decode cX0_begin 2 = .ok (.putfield 26, 3) := by decide +kernel
theorem dX0_begin_5 : decode cX0_begin 5 = .ok (.aload_n 0, 1) := by decide +kernel
theorem dX0_begin_6 : decode cX0_begin 6 = .ok (.getfield 22, 3) := by decide +kernel
theorem dX0_begin_9 : decode cX0_begin 9 = .ok (.aload_n 1, 1) := by decide +kernel
theorem dX0_begin_10 : decode cX0_begin 10 = .ok (.invokevirtual 37, 3) := by decide +kernel
theorem dX0_begin_13 : decode cX0_begin 13 = .ok (.iconst 0, 1) := by decide +kernel
theorem dX0_begin_14 : decode cX0_begin 14 = .ok (.istore_n 2, 1) := by decide +kernel
theorem dX0_begin_15 : decode cX0_begin 15 = .ok (.iload_n 2, 1) := by decide +kernel
theorem dX0_begin_16 : decode cX0_begin 16 = .ok (.bipush 41, 2) := by decide +kernel
theorem dX0_begin_18 : decode cX0_begin 18 = .ok (.if_icmp .ge 28, 3) := by decide +kernel
theorem dX0_begin_21 : decode cX0_begin 21 = .ok (.aload_n 0, 1) := by decide +kernel
theorem dX0_begin_22 : decode cX0_begin 22 = .ok (.getfield 9, 3) := by decide +kernel
theorem dX0_begin_25 : decode cX0_begin 25 = .ok (.iload_n 2, 1) := by decide +kernel
theorem dX0_begin_26 : decode cX0_begin 26 = .ok (.aload_n 0, 1) := by decide +kernel
theorem dX0_begin_27 : decode cX0_begin 27 = .ok (.getfield 22, 3) := by decide +kernel
theorem dX0_begin_30 : decode cX0_begin 30 = .ok (.invokevirtual 41, 3) := by decide +kernel
theorem dX0_begin_33 : decode cX0_begin 33 = .ok (.lastore, 1) := by decide +kernel
theorem dX0_begin_34 : decode cX0_begin 34 = .ok (.aload_n 0, 1) := by decide +kernel
theorem dX0_begin_35 : decode cX0_begin 35 = .ok (.aload_n 1, 1) := by decide +kernel
theorem dX0_begin_36 : decode cX0_begin 36 = .ok (.iload_n 2, 1) := by decide +kernel
theorem dX0_begin_37 : decode cX0_begin 37 = .ok (.invokevirtual 45, 3) := by decide +kernel
theorem dX0_begin_40 : decode cX0_begin 40 = .ok (.iinc 2 1, 3) := by decide +kernel
theorem dX0_begin_43 : decode cX0_begin 43 = .ok (.goto (-28), 3) := by decide +kernel
theorem dX0_begin_46 : decode cX0_begin 46 = .ok (.aload_n 0, 1) := by decide +kernel
theorem dX0_begin_47 : decode cX0_begin 47 = .ok (.getfield 9, 3) := by decide +kernel
theorem dX0_begin_50 : decode cX0_begin 50 = .ok (.bipush 41, 2) := by decide +kernel
theorem dX0_begin_52 : decode cX0_begin 52 = .ok (.aload_n 0, 1) := by decide +kernel
theorem dX0_begin_53 : decode cX0_begin 53 = .ok (.getfield 22, 3) := by decide +kernel
theorem dX0_begin_56 : decode cX0_begin 56 = .ok (.invokevirtual 41, 3) := by decide +kernel
theorem dX0_begin_59 : decode cX0_begin 59 = .ok (.lastore, 1) := by decide +kernel
theorem dX0_begin_60 : decode cX0_begin 60 = .ok (.return_, 1) := by decide +kernel
theorem dX0_atFirst_0 : decode cX0_atFirst 0 = .ok (.aload_n 0, 1) := by decide +kernel
theorem dX0_atFirst_1 : decode cX0_atFirst 1 = .ok (.getfield 22, 3) := by decide +kernel
theorem dX0_atFirst_4 : decode cX0_atFirst 4 = .ok (.aload_n 0, 1) := by decide +kernel
theorem dX0_atFirst_5 : decode cX0_atFirst 5 = .ok (.getfield 9, 3) := by decide +kernel
theorem dX0_atFirst_8 : decode cX0_atFirst 8 = .ok (.iconst 0, 1) := by decide +kernel
theorem dX0_atFirst_9 : decode cX0_atFirst 9 = .ok (.laload, 1) := by decide +kernel
theorem dX0_atFirst_10 : decode cX0_atFirst 10 = .ok (.invokevirtual 49, 3) := by decide +kernel
theorem dX0_atFirst_13 : decode cX0_atFirst 13 = .ok (.aload_n 0, 1) := by decide +kernel
theorem dX0_atFirst_14 : decode cX0_atFirst 14 = .ok (.getfield 22, 3) := by decide +kernel
theorem dX0_atFirst_17 : decode cX0_atFirst 17 = .ok (.areturn, 1) := by decide +kernel
theorem dX0_behind_0 : decode cX0_behind 0 = .ok (.aload_n 0, 1) := by decide +kernel
theorem dX0_behind_1 : decode cX0_behind 1 = .ok (.getfield 22, 3) := by decide +kernel
theorem dX0_behind_4 : decode cX0_behind 4 = .ok (.aload_n 0, 1) := by decide +kernel
theorem dX0_behind_5 : decode cX0_behind 5 = .ok (.getfield 9, 3) := by decide +kernel
theorem dX0_behind_8 : decode cX0_behind 8 = .ok (.iload_n 1, 1) := by decide +kernel
theorem dX0_behind_9 : decode cX0_behind 9 = .ok (.iconst 1, 1) := by decide +kernel
theorem dX0_behind_10 : decode cX0_behind 10 = .ok (.iadd, 1) := by decide +kernel
theorem dX0_behind_11 : decode cX0_behind 11 = .ok (.laload, 1) := by decide +kernel
theorem dX0_behind_12 : decode cX0_behind 12 = .ok (.invokevirtual 49, 3) := by decide +kernel
theorem dX0_behind_15 : decode cX0_behind 15 = .ok (.aload_n 0, 1) := by decide +kernel
theorem dX0_behind_16 : decode cX0_behind 16 = .ok (.getfield 22, 3) := by decide +kernel
theorem dX0_behind_19 : decode cX0_behind 19 = .ok (.areturn, 1) := by decide +kernel
theorem dX0_claimIsSo_0 : decode cX0_claimIsSo 0 = .ok (.aload_n 1, 1) := by decide +kernel
theorem dX0_claimIsSo_1 : decode cX0_claimIsSo 1 = .ok (.getfield 53, 3) := by decide +kernel
theorem dX0_claimIsSo_4 : decode cX0_claimIsSo 4 = .ok (.astore_n 3, 1) := by decide +kernel
theorem dX0_claimIsSo_5 : decode cX0_claimIsSo 5 = .ok (.aload_n 0, 1) := by decide +kernel
theorem dX0_claimIsSo_6 : decode cX0_claimIsSo 6 = .ok (.aload_n 3, 1) := by decide +kernel
theorem dX0_claimIsSo_7 : decode cX0_claimIsSo 7 = .ok (.getfield 59, 3) := by decide +kernel
theorem dX0_claimIsSo_10 : decode cX0_claimIsSo 10 = .ok (.iload_n 2, 1) := by decide +kernel
theorem dX0_claimIsSo_11 : decode cX0_claimIsSo 11 = .ok (.iaload, 1) := by decide +kernel
theorem dX0_claimIsSo_12 : decode cX0_claimIsSo 12 = .ok (.invokevirtual 64, 3) := by decide +kernel
theorem dX0_claimIsSo_15 : decode cX0_claimIsSo 15 = .ok (.getfield 68, 3) := by decide +kernel
theorem dX0_claimIsSo_18 : decode cX0_claimIsSo 18 = .ok (.aload_n 3, 1) := by decide +kernel
theorem dX0_claimIsSo_19 : decode cX0_claimIsSo 19 = .ok (.getfield 71, 3) := by decide +kernel
theorem dX0_claimIsSo_22 : decode cX0_claimIsSo 22 = .ok (.iload_n 2, 1) := by decide +kernel
theorem dX0_claimIsSo_23 : decode cX0_claimIsSo 23 = .ok (.iaload, 1) := by decide +kernel
theorem dX0_claimIsSo_24 : decode cX0_claimIsSo 24 = .ok (.iaload, 1) := by decide +kernel
theorem dX0_claimIsSo_25 : decode cX0_claimIsSo 25 = .ok (.aload_n 3, 1) := by decide +kernel
theorem dX0_claimIsSo_26 : decode cX0_claimIsSo 26 = .ok (.getfield 74, 3) := by decide +kernel
theorem dX0_claimIsSo_29 : decode cX0_claimIsSo 29 = .ok (.iload_n 2, 1) := by decide +kernel
theorem dX0_claimIsSo_30 : decode cX0_claimIsSo 30 = .ok (.iaload, 1) := by decide +kernel
theorem dX0_claimIsSo_31 : decode cX0_claimIsSo 31 = .ok (.if_icmp .ne 7, 3) := by decide +kernel
theorem dX0_claimIsSo_34 : decode cX0_claimIsSo 34 = .ok (.iconst 1, 1) := by decide +kernel
theorem dX0_claimIsSo_35 : decode cX0_claimIsSo 35 = .ok (.goto 4, 3) := by decide +kernel
theorem dX0_claimIsSo_38 : decode cX0_claimIsSo 38 = .ok (.iconst 0, 1) := by decide +kernel
theorem dX0_claimIsSo_39 : decode cX0_claimIsSo 39 = .ok (.ireturn, 1) := by decide +kernel
theorem dX0_countWays_0 : decode cX0_countWays 0 = .ok (.aload_n 0, 1) := by decide +kernel
theorem dX0_countWays_1 : decode cX0_countWays 1 = .ok (.aload_n 1, 1) := by decide +kernel
theorem dX0_countWays_2 : decode cX0_countWays 2 = .ok (.invokevirtual 77, 3) := by decide +kernel
theorem dX0_countWays_5 : decode cX0_countWays 5 = .ok (.aload_n 0, 1) := by decide +kernel
theorem dX0_countWays_6 : decode cX0_countWays 6 = .ok (.getfield 30, 3) := by decide +kernel
theorem dX0_countWays_9 : decode cX0_countWays 9 = .ok (.ifCond .eq 7, 3) := by decide +kernel
theorem dX0_countWays_12 : decode cX0_countWays 12 = .ok (.iconst 1, 1) := by decide +kernel
theorem dX0_countWays_13 : decode cX0_countWays 13 = .ok (.goto 4, 3) := by decide +kernel
theorem dX0_countWays_16 : decode cX0_countWays 16 = .ok (.iconst 0, 1) := by decide +kernel
theorem dX0_countWays_17 : decode cX0_countWays 17 = .ok (.istore_n 2, 1) := by decide +kernel
theorem dX0_countWays_18 : decode cX0_countWays 18 = .ok (.iconst 0, 1) := by decide +kernel
theorem dX0_countWays_19 : decode cX0_countWays 19 = .ok (.istore_n 3, 1) := by decide +kernel
theorem dX0_countWays_20 : decode cX0_countWays 20 = .ok (.iload_n 3, 1) := by decide +kernel
theorem dX0_countWays_21 : decode cX0_countWays 21 = .ok (.bipush 41, 2) := by decide +kernel
theorem dX0_countWays_23 : decode cX0_countWays 23 = .ok (.if_icmp .ge 21, 3) := by decide +kernel
theorem dX0_countWays_26 : decode cX0_countWays 26 = .ok (.iload_n 2, 1) := by decide +kernel
theorem dX0_countWays_27 : decode cX0_countWays 27 = .ok (.aload_n 0, 1) := by decide +kernel
theorem dX0_countWays_28 : decode cX0_countWays 28 = .ok (.getfield 15, 3) := by decide +kernel
theorem dX0_countWays_31 : decode cX0_countWays 31 = .ok (.iload_n 3, 1) := by decide +kernel
theorem dX0_countWays_32 : decode cX0_countWays 32 = .ok (.iaload, 1) := by decide +kernel
theorem dX0_countWays_33 : decode cX0_countWays 33 = .ok (.invokestatic 80, 3) := by decide +kernel
theorem dX0_countWays_36 : decode cX0_countWays 36 = .ok (.iadd, 1) := by decide +kernel
theorem dX0_countWays_37 : decode cX0_countWays 37 = .ok (.istore_n 2, 1) := by decide +kernel
theorem dX0_countWays_38 : decode cX0_countWays 38 = .ok (.iinc 3 1, 3) := by decide +kernel
theorem dX0_countWays_41 : decode cX0_countWays 41 = .ok (.goto (-21), 3) := by decide +kernel
theorem dX0_countWays_44 : decode cX0_countWays 44 = .ok (.iload_n 2, 1) := by decide +kernel
theorem dX0_countWays_45 : decode cX0_countWays 45 = .ok (.ireturn, 1) := by decide +kernel
theorem dX0_findWay_0 : decode cX0_findWay 0 = .ok (.aload_n 0, 1) := by decide +kernel
theorem dX0_findWay_1 : decode cX0_findWay 1 = .ok (.getfield 30, 3) := by decide +kernel
theorem dX0_findWay_4 : decode cX0_findWay 4 = .ok (.ifCond .eq 7, 3) := by decide +kernel
theorem dX0_findWay_7 : decode cX0_findWay 7 = .ok (.iconst 1, 1) := by decide +kernel
theorem dX0_findWay_8 : decode cX0_findWay 8 = .ok (.goto 4, 3) := by decide +kernel
theorem dX0_findWay_11 : decode cX0_findWay 11 = .ok (.iconst 0, 1) := by decide +kernel
theorem dX0_findWay_12 : decode cX0_findWay 12 = .ok (.istore_n 2, 1) := by decide +kernel
theorem dX0_findWay_13 : decode cX0_findWay 13 = .ok (.iload_n 1, 1) := by decide +kernel
theorem dX0_findWay_14 : decode cX0_findWay 14 = .ok (.iload_n 2, 1) := by decide +kernel
theorem dX0_findWay_15 : decode cX0_findWay 15 = .ok (.if_icmp .ge 6, 3) := by decide +kernel
theorem dX0_findWay_18 : decode cX0_findWay 18 = .ok (.bipush (-2), 2) := by decide +kernel
theorem dX0_findWay_20 : decode cX0_findWay 20 = .ok (.ireturn, 1) := by decide +kernel
theorem dX0_findWay_21 : decode cX0_findWay 21 = .ok (.iconst 0, 1) := by decide +kernel
theorem dX0_findWay_22 : decode cX0_findWay 22 = .ok (.istore_n 3, 1) := by decide +kernel
theorem dX0_findWay_23 : decode cX0_findWay 23 = .ok (.iload_n 3, 1) := by decide +kernel
theorem dX0_findWay_24 : decode cX0_findWay 24 = .ok (.bipush 41, 2) := by decide +kernel
theorem dX0_findWay_26 : decode cX0_findWay 26 = .ok (.if_icmp .ge 68, 3) := by decide +kernel
theorem dX0_findWay_29 : decode cX0_findWay 29 = .ok (.iconst 0, 1) := by decide +kernel
theorem dX0_findWay_30 : decode cX0_findWay 30 = .ok (.istore 4, 2) := by decide +kernel
theorem dX0_findWay_32 : decode cX0_findWay 32 = .ok (.iload 4, 2) := by decide +kernel
theorem dX0_findWay_34 : decode cX0_findWay 34 = .ok (.bipush 25, 2) := by decide +kernel
theorem dX0_findWay_36 : decode cX0_findWay 36 = .ok (.if_icmp .ge 52, 3) := by decide +kernel
theorem dX0_findWay_39 : decode cX0_findWay 39 = .ok (.aload_n 0, 1) := by decide +kernel
theorem dX0_findWay_40 : decode cX0_findWay 40 = .ok (.getfield 15, 3) := by decide +kernel
theorem dX0_findWay_43 : decode cX0_findWay 43 = .ok (.iload_n 3, 1) := by decide +kernel
theorem dX0_findWay_44 : decode cX0_findWay 44 = .ok (.iaload, 1) := by decide +kernel
theorem dX0_findWay_45 : decode cX0_findWay 45 = .ok (.iload 4, 2) := by decide +kernel
theorem dX0_findWay_47 : decode cX0_findWay 47 = .ok (.ishr, 1) := by decide +kernel
theorem dX0_findWay_48 : decode cX0_findWay 48 = .ok (.iconst 1, 1) := by decide +kernel
theorem dX0_findWay_49 : decode cX0_findWay 49 = .ok (.iand, 1) := by decide +kernel
theorem dX0_findWay_50 : decode cX0_findWay 50 = .ok (.ifCond .ne 6, 3) := by decide +kernel
theorem dX0_findWay_53 : decode cX0_findWay 53 = .ok (.goto 29, 3) := by decide +kernel
theorem dX0_findWay_56 : decode cX0_findWay 56 = .ok (.iload_n 2, 1) := by decide +kernel
theorem dX0_findWay_57 : decode cX0_findWay 57 = .ok (.iload_n 1, 1) := by decide +kernel
theorem dX0_findWay_58 : decode cX0_findWay 58 = .ok (.if_icmp .ne 21, 3) := by decide +kernel
theorem dX0_findWay_61 : decode cX0_findWay 61 = .ok (.bipush 100, 2) := by decide +kernel
theorem dX0_findWay_63 : decode cX0_findWay 63 = .ok (.iload_n 3, 1) := by decide +kernel
theorem dX0_findWay_64 : decode cX0_findWay 64 = .ok (.imul, 1) := by decide +kernel
theorem dX0_findWay_65 : decode cX0_findWay 65 = .ok (.bipush 10, 2) := by decide +kernel
theorem dX0_findWay_67 : decode cX0_findWay 67 = .ok (.iload 4, 2) := by decide +kernel
theorem dX0_findWay_69 : decode cX0_findWay 69 = .ok (.iconst 5, 1) := by decide +kernel
theorem dX0_findWay_70 : decode cX0_findWay 70 = .ok (.idiv, 1) := by decide +kernel
theorem dX0_findWay_71 : decode cX0_findWay 71 = .ok (.imul, 1) := by decide +kernel
theorem dX0_findWay_72 : decode cX0_findWay 72 = .ok (.iadd, 1) := by decide +kernel
theorem dX0_findWay_73 : decode cX0_findWay 73 = .ok (.iload 4, 2) := by decide +kernel
theorem dX0_findWay_75 : decode cX0_findWay 75 = .ok (.iconst 5, 1) := by decide +kernel
theorem dX0_findWay_76 : decode cX0_findWay 76 = .ok (.irem, 1) := by decide +kernel
theorem dX0_findWay_77 : decode cX0_findWay 77 = .ok (.iadd, 1) := by decide +kernel
theorem dX0_findWay_78 : decode cX0_findWay 78 = .ok (.ireturn, 1) := by decide +kernel
theorem dX0_findWay_79 : decode cX0_findWay 79 = .ok (.iinc 2 1, 3) := by decide +kernel
theorem dX0_findWay_82 : decode cX0_findWay 82 = .ok (.iinc 4 1, 3) := by decide +kernel
theorem dX0_findWay_85 : decode cX0_findWay 85 = .ok (.goto (-53), 3) := by decide +kernel
theorem dX0_findWay_88 : decode cX0_findWay 88 = .ok (.iinc 3 1, 3) := by decide +kernel
theorem dX0_findWay_91 : decode cX0_findWay 91 = .ok (.goto (-68), 3) := by decide +kernel
theorem dX0_findWay_94 : decode cX0_findWay 94 = .ok (.iconst (-1), 1) := by decide +kernel
theorem dX0_findWay_95 : decode cX0_findWay 95 = .ok (.ireturn, 1) := by decide +kernel
theorem dX0_search_0 : decode cX0_search 0 = .ok (.aload_n 0, 1) := by decide +kernel
theorem dX0_search_1 : decode cX0_search 1 = .ok (.getfield 26, 3) := by decide +kernel
theorem dX0_search_4 : decode cX0_search 4 = .ok (.ifCond .eq 4, 3) := by decide +kernel
theorem dX0_search_7 : decode cX0_search 7 = .ok (.return_, 1) := by decide +kernel
theorem dX0_search_8 : decode cX0_search 8 = .ok (.aload_n 0, 1) := by decide +kernel
theorem dX0_search_9 : decode cX0_search 9 = .ok (.iconst 1, 1) := by decide +kernel
theorem dX0_search_10 : decode cX0_search 10 = .ok (.putfield 26, 3) := by decide +kernel
theorem dX0_search_13 : decode cX0_search 13 = .ok (.bipush 41, 2) := by decide +kernel
theorem dX0_search_15 : decode cX0_search 15 = .ok (.istore_n 2, 1) := by decide +kernel
theorem dX0_search_16 : decode cX0_search 16 = .ok (.aload_n 0, 1) := by decide +kernel
theorem dX0_search_17 : decode cX0_search 17 = .ok (.iconst (-1), 1) := by decide +kernel
theorem dX0_search_18 : decode cX0_search 18 = .ok (.putfield 33, 3) := by decide +kernel
theorem dX0_search_21 : decode cX0_search 21 = .ok (.iconst 0, 1) := by decide +kernel
theorem dX0_search_22 : decode cX0_search 22 = .ok (.istore_n 3, 1) := by decide +kernel
theorem dX0_search_23 : decode cX0_search 23 = .ok (.iload_n 3, 1) := by decide +kernel
theorem dX0_search_24 : decode cX0_search 24 = .ok (.aload_n 1, 1) := by decide +kernel
theorem dX0_search_25 : decode cX0_search 25 = .ok (.getfield 53, 3) := by decide +kernel
theorem dX0_search_28 : decode cX0_search 28 = .ok (.getfield 86, 3) := by decide +kernel
theorem dX0_search_31 : decode cX0_search 31 = .ok (.if_icmp .ge 53, 3) := by decide +kernel
theorem dX0_search_34 : decode cX0_search 34 = .ok (.aload_n 1, 1) := by decide +kernel
theorem dX0_search_35 : decode cX0_search 35 = .ok (.getfield 53, 3) := by decide +kernel
theorem dX0_search_38 : decode cX0_search 38 = .ok (.getfield 59, 3) := by decide +kernel
theorem dX0_search_41 : decode cX0_search 41 = .ok (.iload_n 3, 1) := by decide +kernel
theorem dX0_search_42 : decode cX0_search 42 = .ok (.iaload, 1) := by decide +kernel
theorem dX0_search_43 : decode cX0_search 43 = .ok (.istore 4, 2) := by decide +kernel
theorem dX0_search_45 : decode cX0_search 45 = .ok (.aload_n 0, 1) := by decide +kernel
theorem dX0_search_46 : decode cX0_search 46 = .ok (.aload_n 0, 1) := by decide +kernel
theorem dX0_search_47 : decode cX0_search 47 = .ok (.getfield 33, 3) := by decide +kernel
theorem dX0_search_50 : decode cX0_search 50 = .ok (.iload 4, 2) := by decide +kernel
theorem dX0_search_52 : decode cX0_search 52 = .ok (.invokestatic 89, 3) := by decide +kernel
theorem dX0_search_55 : decode cX0_search 55 = .ok (.putfield 33, 3) := by decide +kernel
theorem dX0_search_58 : decode cX0_search 58 = .ok (.aload_n 0, 1) := by decide +kernel
theorem dX0_search_59 : decode cX0_search 59 = .ok (.aload_n 1, 1) := by decide +kernel
theorem dX0_search_60 : decode cX0_search 60 = .ok (.iload_n 3, 1) := by decide +kernel
theorem dX0_search_61 : decode cX0_search 61 = .ok (.invokevirtual 95, 3) := by decide +kernel
theorem dX0_search_64 : decode cX0_search 64 = .ok (.ifCond .eq 7, 3) := by decide +kernel
theorem dX0_search_67 : decode cX0_search 67 = .ok (.iload_n 2, 1) := by decide +kernel
theorem dX0_search_68 : decode cX0_search 68 = .ok (.goto 9, 3) := by decide +kernel
theorem dX0_search_71 : decode cX0_search 71 = .ok (.iload_n 2, 1) := by decide +kernel
theorem dX0_search_72 : decode cX0_search 72 = .ok (.iload 4, 2) := by decide +kernel
theorem dX0_search_74 : decode cX0_search 74 = .ok (.invokestatic 99, 3) := by decide +kernel
theorem dX0_search_77 : decode cX0_search 77 = .ok (.istore_n 2, 1) := by decide +kernel
theorem dX0_search_78 : decode cX0_search 78 = .ok (.iinc 3 1, 3) := by decide +kernel
theorem dX0_search_81 : decode cX0_search 81 = .ok (.goto (-58), 3) := by decide +kernel
theorem dX0_search_84 : decode cX0_search 84 = .ok (.aload_n 0, 1) := by decide +kernel
theorem dX0_search_85 : decode cX0_search 85 = .ok (.iload_n 2, 1) := by decide +kernel
theorem dX0_search_86 : decode cX0_search 86 = .ok (.bipush 41, 2) := by decide +kernel
theorem dX0_search_88 : decode cX0_search 88 = .ok (.if_icmp .ne 7, 3) := by decide +kernel
theorem dX0_search_91 : decode cX0_search 91 = .ok (.iconst 1, 1) := by decide +kernel
theorem dX0_search_92 : decode cX0_search 92 = .ok (.goto 4, 3) := by decide +kernel
theorem dX0_search_95 : decode cX0_search 95 = .ok (.iconst 0, 1) := by decide +kernel
theorem dX0_search_96 : decode cX0_search 96 = .ok (.putfield 30, 3) := by decide +kernel
theorem dX0_search_99 : decode cX0_search 99 = .ok (.iconst 0, 1) := by decide +kernel
theorem dX0_search_100 : decode cX0_search 100 = .ok (.istore_n 3, 1) := by decide +kernel
theorem dX0_search_101 : decode cX0_search 101 = .ok (.iload_n 3, 1) := by decide +kernel
theorem dX0_search_102 : decode cX0_search 102 = .ok (.bipush 41, 2) := by decide +kernel
theorem dX0_search_104 : decode cX0_search 104 = .ok (.if_icmp .ge 65, 3) := by decide +kernel
theorem dX0_search_107 : decode cX0_search 107 = .ok (.aload_n 0, 1) := by decide +kernel
theorem dX0_search_108 : decode cX0_search 108 = .ok (.getfield 15, 3) := by decide +kernel
theorem dX0_search_111 : decode cX0_search 111 = .ok (.iload_n 3, 1) := by decide +kernel
theorem dX0_search_112 : decode cX0_search 112 = .ok (.iconst 0, 1) := by decide +kernel
theorem dX0_search_113 : decode cX0_search 113 = .ok (.iastore, 1) := by decide +kernel
theorem dX0_search_114 : decode cX0_search 114 = .ok (.iconst 0, 1) := by decide +kernel
theorem dX0_search_115 : decode cX0_search 115 = .ok (.istore 4, 2) := by decide +kernel
theorem dX0_search_117 : decode cX0_search 117 = .ok (.iload 4, 2) := by decide +kernel
theorem dX0_search_119 : decode cX0_search 119 = .ok (.bipush 25, 2) := by decide +kernel
theorem dX0_search_121 : decode cX0_search 121 = .ok (.if_icmp .ge 42, 3) := by decide +kernel
theorem dX0_search_124 : decode cX0_search 124 = .ok (.iload_n 3, 1) := by decide +kernel
theorem dX0_search_125 : decode cX0_search 125 = .ok (.iload_n 2, 1) := by decide +kernel
theorem dX0_search_126 : decode cX0_search 126 = .ok (.if_icmp .gt 37, 3) := by decide +kernel
theorem dX0_search_129 : decode cX0_search 129 = .ok (.aload_n 0, 1) := by decide +kernel
theorem dX0_search_130 : decode cX0_search 130 = .ok (.getfield 15, 3) := by decide +kernel
theorem dX0_search_133 : decode cX0_search 133 = .ok (.iload_n 3, 1) := by decide +kernel
theorem dX0_search_134 : decode cX0_search 134 = .ok (.dup2, 1) := by decide +kernel
theorem dX0_search_135 : decode cX0_search 135 = .ok (.iaload, 1) := by decide +kernel
theorem dX0_search_136 : decode cX0_search 136 = .ok (.aload_n 0, 1) := by decide +kernel
theorem dX0_search_137 : decode cX0_search 137 = .ok (.aload_n 1, 1) := by decide +kernel
theorem dX0_search_138 : decode cX0_search 138 = .ok (.iload_n 3, 1) := by decide +kernel
theorem dX0_search_139 : decode cX0_search 139 = .ok (.iload 4, 2) := by decide +kernel
theorem dX0_search_141 : decode cX0_search 141 = .ok (.invokevirtual 102, 3) := by decide +kernel
theorem dX0_search_144 : decode cX0_search 144 = .ok (.ifCond .eq 10, 3) := by decide +kernel
theorem dX0_search_147 : decode cX0_search 147 = .ok (.iconst 1, 1) := by decide +kernel
theorem dX0_search_148 : decode cX0_search 148 = .ok (.iload 4, 2) := by decide +kernel
theorem dX0_search_150 : decode cX0_search 150 = .ok (.ishl, 1) := by decide +kernel
theorem dX0_search_151 : decode cX0_search 151 = .ok (.goto 4, 3) := by decide +kernel
theorem dX0_search_154 : decode cX0_search 154 = .ok (.iconst 0, 1) := by decide +kernel
theorem dX0_search_155 : decode cX0_search 155 = .ok (.ior, 1) := by decide +kernel
theorem dX0_search_156 : decode cX0_search 156 = .ok (.iastore, 1) := by decide +kernel
theorem dX0_search_157 : decode cX0_search 157 = .ok (.iinc 4 1, 3) := by decide +kernel
theorem dX0_search_160 : decode cX0_search 160 = .ok (.goto (-43), 3) := by decide +kernel
theorem dX0_search_163 : decode cX0_search 163 = .ok (.iinc 3 1, 3) := by decide +kernel
theorem dX0_search_166 : decode cX0_search 166 = .ok (.goto (-65), 3) := by decide +kernel
theorem dX0_search_169 : decode cX0_search 169 = .ok (.return_, 1) := by decide +kernel
theorem dX0_fits_0 : decode cX0_fits 0 = .ok (.iload_n 3, 1) := by decide +kernel
theorem dX0_fits_1 : decode cX0_fits 1 = .ok (.iconst 5, 1) := by decide +kernel
theorem dX0_fits_2 : decode cX0_fits 2 = .ok (.idiv, 1) := by decide +kernel
theorem dX0_fits_3 : decode cX0_fits 3 = .ok (.istore 4, 2) := by decide +kernel
theorem dX0_fits_5 : decode cX0_fits 5 = .ok (.iload_n 3, 1) := by decide +kernel
theorem dX0_fits_6 : decode cX0_fits 6 = .ok (.iconst 5, 1) := by decide +kernel
theorem dX0_fits_7 : decode cX0_fits 7 = .ok (.irem, 1) := by decide +kernel
theorem dX0_fits_8 : decode cX0_fits 8 = .ok (.istore 5, 2) := by decide +kernel
theorem dX0_fits_10 : decode cX0_fits 10 = .ok (.iload 4, 2) := by decide +kernel
theorem dX0_fits_12 : decode cX0_fits 12 = .ok (.iload 5, 2) := by decide +kernel
theorem dX0_fits_14 : decode cX0_fits 14 = .ok (.if_icmp .ge 23, 3) := by decide +kernel
theorem dX0_fits_17 : decode cX0_fits 17 = .ok (.iload 5, 2) := by decide +kernel
theorem dX0_fits_19 : decode cX0_fits 19 = .ok (.aload_n 1, 1) := by decide +kernel
theorem dX0_fits_20 : decode cX0_fits 20 = .ok (.getfield 106, 3) := by decide +kernel
theorem dX0_fits_23 : decode cX0_fits 23 = .ok (.if_icmp .ge 14, 3) := by decide +kernel
theorem dX0_fits_26 : decode cX0_fits 26 = .ok (.aload_n 1, 1) := by decide +kernel
theorem dX0_fits_27 : decode cX0_fits 27 = .ok (.iload 4, 2) := by decide +kernel
theorem dX0_fits_29 : decode cX0_fits 29 = .ok (.iload 5, 2) := by decide +kernel
theorem dX0_fits_31 : decode cX0_fits 31 = .ok (.invokevirtual 109, 3) := by decide +kernel
theorem dX0_fits_34 : decode cX0_fits 34 = .ok (.ifCond .ne 5, 3) := by decide +kernel
theorem dX0_fits_37 : decode cX0_fits 37 = .ok (.iconst 0, 1) := by decide +kernel
theorem dX0_fits_38 : decode cX0_fits 38 = .ok (.ireturn, 1) := by decide +kernel
theorem dX0_fits_39 : decode cX0_fits 39 = .ok (.aload_n 0, 1) := by decide +kernel
theorem dX0_fits_40 : decode cX0_fits 40 = .ok (.getfield 22, 3) := by decide +kernel
theorem dX0_fits_43 : decode cX0_fits 43 = .ok (.aload_n 0, 1) := by decide +kernel
theorem dX0_fits_44 : decode cX0_fits 44 = .ok (.getfield 9, 3) := by decide +kernel
theorem dX0_fits_47 : decode cX0_fits 47 = .ok (.iload_n 2, 1) := by decide +kernel
theorem dX0_fits_48 : decode cX0_fits 48 = .ok (.laload, 1) := by decide +kernel
theorem dX0_fits_49 : decode cX0_fits 49 = .ok (.invokevirtual 49, 3) := by decide +kernel
theorem dX0_fits_52 : decode cX0_fits 52 = .ok (.aload_n 0, 1) := by decide +kernel
theorem dX0_fits_53 : decode cX0_fits 53 = .ok (.getfield 22, 3) := by decide +kernel
theorem dX0_fits_56 : decode cX0_fits 56 = .ok (.getfield 113, 3) := by decide +kernel
theorem dX0_fits_59 : decode cX0_fits 59 = .ok (.iload 4, 2) := by decide +kernel
theorem dX0_fits_61 : decode cX0_fits 61 = .ok (.iaload, 1) := by decide +kernel
theorem dX0_fits_62 : decode cX0_fits 62 = .ok (.aload_n 0, 1) := by decide +kernel
theorem dX0_fits_63 : decode cX0_fits 63 = .ok (.getfield 22, 3) := by decide +kernel
theorem dX0_fits_66 : decode cX0_fits 66 = .ok (.getfield 113, 3) := by decide +kernel
theorem dX0_fits_69 : decode cX0_fits 69 = .ok (.iload 5, 2) := by decide +kernel
theorem dX0_fits_71 : decode cX0_fits 71 = .ok (.iaload, 1) := by decide +kernel
theorem dX0_fits_72 : decode cX0_fits 72 = .ok (.if_icmp .ne 8, 3) := by decide +kernel
theorem dX0_fits_75 : decode cX0_fits 75 = .ok (.aload_n 0, 1) := by decide +kernel
theorem dX0_fits_76 : decode cX0_fits 76 = .ok (.getfield 30, 3) := by decide +kernel
theorem dX0_fits_79 : decode cX0_fits 79 = .ok (.ireturn, 1) := by decide +kernel
theorem dX0_fits_80 : decode cX0_fits 80 = .ok (.aload_n 0, 1) := by decide +kernel
theorem dX0_fits_81 : decode cX0_fits 81 = .ok (.getfield 22, 3) := by decide +kernel
theorem dX0_fits_84 : decode cX0_fits 84 = .ok (.iload 4, 2) := by decide +kernel
theorem dX0_fits_86 : decode cX0_fits 86 = .ok (.iload 5, 2) := by decide +kernel
theorem dX0_fits_88 : decode cX0_fits 88 = .ok (.invokevirtual 116, 3) := by decide +kernel
theorem dX0_fits_91 : decode cX0_fits 91 = .ok (.iload_n 2, 1) := by decide +kernel
theorem dX0_fits_92 : decode cX0_fits 92 = .ok (.istore 6, 2) := by decide +kernel
theorem dX0_fits_94 : decode cX0_fits 94 = .ok (.iload 6, 2) := by decide +kernel
theorem dX0_fits_96 : decode cX0_fits 96 = .ok (.aload_n 0, 1) := by decide +kernel
theorem dX0_fits_97 : decode cX0_fits 97 = .ok (.getfield 33, 3) := by decide +kernel
theorem dX0_fits_100 : decode cX0_fits 100 = .ok (.if_icmp .gt 35, 3) := by decide +kernel
theorem dX0_fits_103 : decode cX0_fits 103 = .ok (.iload 6, 2) := by decide +kernel
theorem dX0_fits_105 : decode cX0_fits 105 = .ok (.bipush 41, 2) := by decide +kernel
theorem dX0_fits_107 : decode cX0_fits 107 = .ok (.if_icmp .ge 28, 3) := by decide +kernel
theorem dX0_fits_110 : decode cX0_fits 110 = .ok (.aload_n 0, 1) := by decide +kernel
theorem dX0_fits_111 : decode cX0_fits 111 = .ok (.aload_n 1, 1) := by decide +kernel
theorem dX0_fits_112 : decode cX0_fits 112 = .ok (.iload 6, 2) := by decide +kernel
theorem dX0_fits_114 : decode cX0_fits 114 = .ok (.invokevirtual 45, 3) := by decide +kernel
theorem dX0_fits_117 : decode cX0_fits 117 = .ok (.aload_n 0, 1) := by decide +kernel
theorem dX0_fits_118 : decode cX0_fits 118 = .ok (.aload_n 1, 1) := by decide +kernel
theorem dX0_fits_119 : decode cX0_fits 119 = .ok (.iload 6, 2) := by decide +kernel
theorem dX0_fits_121 : decode cX0_fits 121 = .ok (.invokevirtual 120, 3) := by decide +kernel
theorem dX0_fits_124 : decode cX0_fits 124 = .ok (.ifCond .ne 5, 3) := by decide +kernel
theorem dX0_fits_127 : decode cX0_fits 127 = .ok (.iconst 0, 1) := by decide +kernel
theorem dX0_fits_128 : decode cX0_fits 128 = .ok (.ireturn, 1) := by decide +kernel
theorem dX0_fits_129 : decode cX0_fits 129 = .ok (.iinc 6 1, 3) := by decide +kernel
theorem dX0_fits_132 : decode cX0_fits 132 = .ok (.goto (-38), 3) := by decide +kernel
theorem dX0_fits_135 : decode cX0_fits 135 = .ok (.iconst 1, 1) := by decide +kernel
theorem dX0_fits_136 : decode cX0_fits 136 = .ok (.ireturn, 1) := by decide +kernel
theorem dX0_runDay_0 : decode cX0_runDay 0 = .ok (.aload_n 1, 1) := by decide +kernel
theorem dX0_runDay_1 : decode cX0_runDay 1 = .ok (.getfield 123, 3) := by decide +kernel
theorem dX0_runDay_4 : decode cX0_runDay 4 = .ok (.astore_n 3, 1) := by decide +kernel
theorem dX0_runDay_5 : decode cX0_runDay 5 = .ok (.iconst 0, 1) := by decide +kernel
theorem dX0_runDay_6 : decode cX0_runDay 6 = .ok (.istore 4, 2) := by decide +kernel
theorem dX0_runDay_8 : decode cX0_runDay 8 = .ok (.iconst 0, 1) := by decide +kernel
theorem dX0_runDay_9 : decode cX0_runDay 9 = .ok (.istore 5, 2) := by decide +kernel
theorem dX0_runDay_11 : decode cX0_runDay 11 = .ok (.iload 5, 2) := by decide +kernel
theorem dX0_runDay_13 : decode cX0_runDay 13 = .ok (.aload_n 3, 1) := by decide +kernel
theorem dX0_runDay_14 : decode cX0_runDay 14 = .ok (.getfield 86, 3) := by decide +kernel
theorem dX0_runDay_17 : decode cX0_runDay 17 = .ok (.if_icmp .ge 71, 3) := by decide +kernel
theorem dX0_runDay_20 : decode cX0_runDay 20 = .ok (.aload_n 3, 1) := by decide +kernel
theorem dX0_runDay_21 : decode cX0_runDay 21 = .ok (.getfield 59, 3) := by decide +kernel
theorem dX0_runDay_24 : decode cX0_runDay 24 = .ok (.iload 5, 2) := by decide +kernel
theorem dX0_runDay_26 : decode cX0_runDay 26 = .ok (.iaload, 1) := by decide +kernel
theorem dX0_runDay_27 : decode cX0_runDay 27 = .ok (.iload_n 2, 1) := by decide +kernel
theorem dX0_runDay_28 : decode cX0_runDay 28 = .ok (.if_icmp .ne 54, 3) := by decide +kernel
theorem dX0_runDay_31 : decode cX0_runDay 31 = .ok (.aload_n 0, 1) := by decide +kernel
theorem dX0_runDay_32 : decode cX0_runDay 32 = .ok (.getfield 22, 3) := by decide +kernel
theorem dX0_runDay_35 : decode cX0_runDay 35 = .ok (.aload_n 3, 1) := by decide +kernel
theorem dX0_runDay_36 : decode cX0_runDay 36 = .ok (.getfield 126, 3) := by decide +kernel
theorem dX0_runDay_39 : decode cX0_runDay 39 = .ok (.iload 5, 2) := by decide +kernel
theorem dX0_runDay_41 : decode cX0_runDay 41 = .ok (.iaload, 1) := by decide +kernel
theorem dX0_runDay_42 : decode cX0_runDay 42 = .ok (.aload_n 3, 1) := by decide +kernel
theorem dX0_runDay_43 : decode cX0_runDay 43 = .ok (.getfield 71, 3) := by decide +kernel
theorem dX0_runDay_46 : decode cX0_runDay 46 = .ok (.iload 5, 2) := by decide +kernel
theorem dX0_runDay_48 : decode cX0_runDay 48 = .ok (.iaload, 1) := by decide +kernel
theorem dX0_runDay_49 : decode cX0_runDay 49 = .ok (.aload_n 3, 1) := by decide +kernel
theorem dX0_runDay_50 : decode cX0_runDay 50 = .ok (.getfield 74, 3) := by decide +kernel
theorem dX0_runDay_53 : decode cX0_runDay 53 = .ok (.iload 5, 2) := by decide +kernel
theorem dX0_runDay_55 : decode cX0_runDay 55 = .ok (.iaload, 1) := by decide +kernel
theorem dX0_runDay_56 : decode cX0_runDay 56 = .ok (.invokevirtual 129, 3) := by decide +kernel
theorem dX0_runDay_59 : decode cX0_runDay 59 = .ok (.iload 4, 2) := by decide +kernel
theorem dX0_runDay_61 : decode cX0_runDay 61 = .ok (.ifCond .ne 14, 3) := by decide +kernel
theorem dX0_runDay_64 : decode cX0_runDay 64 = .ok (.aload_n 3, 1) := by decide +kernel
theorem dX0_runDay_65 : decode cX0_runDay 65 = .ok (.getfield 126, 3) := by decide +kernel
theorem dX0_runDay_68 : decode cX0_runDay 68 = .ok (.iload 5, 2) := by decide +kernel
theorem dX0_runDay_70 : decode cX0_runDay 70 = .ok (.iaload, 1) := by decide +kernel
theorem dX0_runDay_71 : decode cX0_runDay 71 = .ok (.iconst 3, 1) := by decide +kernel
theorem dX0_runDay_72 : decode cX0_runDay 72 = .ok (.if_icmp .ne 7, 3) := by decide +kernel
theorem dX0_runDay_75 : decode cX0_runDay 75 = .ok (.iconst 1, 1) := by decide +kernel
theorem dX0_runDay_76 : decode cX0_runDay 76 = .ok (.goto 4, 3) := by decide +kernel
theorem dX0_runDay_79 : decode cX0_runDay 79 = .ok (.iconst 0, 1) := by decide +kernel
theorem dX0_runDay_80 : decode cX0_runDay 80 = .ok (.istore 4, 2) := by decide +kernel
theorem dX0_runDay_82 : decode cX0_runDay 82 = .ok (.iinc 5 1, 3) := by decide +kernel
theorem dX0_runDay_85 : decode cX0_runDay 85 = .ok (.goto (-74), 3) := by decide +kernel
theorem dX0_runDay_88 : decode cX0_runDay 88 = .ok (.aload_n 0, 1) := by decide +kernel
theorem dX0_runDay_89 : decode cX0_runDay 89 = .ok (.getfield 22, 3) := by decide +kernel
theorem dX0_runDay_92 : decode cX0_runDay 92 = .ok (.aload_n 1, 1) := by decide +kernel
theorem dX0_runDay_93 : decode cX0_runDay 93 = .ok (.iload 4, 2) := by decide +kernel
theorem dX0_runDay_95 : decode cX0_runDay 95 = .ok (.invokevirtual 133, 3) := by decide +kernel
theorem dX0_runDay_98 : decode cX0_runDay 98 = .ok (.return_, 1) := by decide +kernel
theorem dX0_claimsOfDayAreSo_0 : decode cX0_claimsOfDayAreSo 0 = .ok (.aload_n 1, 1) := by decide +kernel
theorem dX0_claimsOfDayAreSo_1 : decode cX0_claimsOfDayAreSo 1 = .ok (.getfield 53, 3) := by decide +kernel
theorem dX0_claimsOfDayAreSo_4 : decode cX0_claimsOfDayAreSo 4 = .ok (.astore_n 3, 1) := by decide +kernel
theorem dX0_claimsOfDayAreSo_5 : decode cX0_claimsOfDayAreSo 5 = .ok (.iconst 0, 1) := by decide +kernel
theorem dX0_claimsOfDayAreSo_6 : decode cX0_claimsOfDayAreSo 6 = .ok (.istore 4, 2) := by decide +kernel
theorem dX0_claimsOfDayAreSo_8 : decode cX0_claimsOfDayAreSo 8 = .ok (.iload 4, 2) := by decide +kernel
theorem dX0_claimsOfDayAreSo_10 : decode cX0_claimsOfDayAreSo 10 = .ok (.aload_n 3, 1) := by decide +kernel
theorem dX0_claimsOfDayAreSo_11 : decode cX0_claimsOfDayAreSo 11 = .ok (.getfield 86, 3) := by decide +kernel
theorem dX0_claimsOfDayAreSo_14 : decode cX0_claimsOfDayAreSo 14 = .ok (.if_icmp .ge 47, 3) := by decide +kernel
theorem dX0_claimsOfDayAreSo_17 : decode cX0_claimsOfDayAreSo 17 = .ok (.aload_n 3, 1) := by decide +kernel
theorem dX0_claimsOfDayAreSo_18 : decode cX0_claimsOfDayAreSo 18 = .ok (.getfield 59, 3) := by decide +kernel
theorem dX0_claimsOfDayAreSo_21 : decode cX0_claimsOfDayAreSo 21 = .ok (.iload 4, 2) := by decide +kernel
theorem dX0_claimsOfDayAreSo_23 : decode cX0_claimsOfDayAreSo 23 = .ok (.iaload, 1) := by decide +kernel
theorem dX0_claimsOfDayAreSo_24 : decode cX0_claimsOfDayAreSo 24 = .ok (.iload_n 2, 1) := by decide +kernel
theorem dX0_claimsOfDayAreSo_25 : decode cX0_claimsOfDayAreSo 25 = .ok (.if_icmp .ne 30, 3) := by decide +kernel
theorem dX0_claimsOfDayAreSo_28 : decode cX0_claimsOfDayAreSo 28 = .ok (.aload_n 0, 1) := by decide +kernel
theorem dX0_claimsOfDayAreSo_29 : decode cX0_claimsOfDayAreSo 29 = .ok (.getfield 22, 3) := by decide +kernel
theorem dX0_claimsOfDayAreSo_32 : decode cX0_claimsOfDayAreSo 32 = .ok (.getfield 68, 3) := by decide +kernel
theorem dX0_claimsOfDayAreSo_35 : decode cX0_claimsOfDayAreSo 35 = .ok (.aload_n 3, 1) := by decide +kernel
theorem dX0_claimsOfDayAreSo_36 : decode cX0_claimsOfDayAreSo 36 = .ok (.getfield 71, 3) := by decide +kernel
theorem dX0_claimsOfDayAreSo_39 : decode cX0_claimsOfDayAreSo 39 = .ok (.iload 4, 2) := by decide +kernel
theorem dX0_claimsOfDayAreSo_41 : decode cX0_claimsOfDayAreSo 41 = .ok (.iaload, 1) := by decide +kernel
theorem dX0_claimsOfDayAreSo_42 : decode cX0_claimsOfDayAreSo 42 = .ok (.iaload, 1) := by decide +kernel
theorem dX0_claimsOfDayAreSo_43 : decode cX0_claimsOfDayAreSo 43 = .ok (.aload_n 3, 1) := by decide +kernel
theorem dX0_claimsOfDayAreSo_44 : decode cX0_claimsOfDayAreSo 44 = .ok (.getfield 74, 3) := by decide +kernel
theorem dX0_claimsOfDayAreSo_47 : decode cX0_claimsOfDayAreSo 47 = .ok (.iload 4, 2) := by decide +kernel
theorem dX0_claimsOfDayAreSo_49 : decode cX0_claimsOfDayAreSo 49 = .ok (.iaload, 1) := by decide +kernel
theorem dX0_claimsOfDayAreSo_50 : decode cX0_claimsOfDayAreSo 50 = .ok (.if_icmp .eq 5, 3) := by decide +kernel
theorem dX0_claimsOfDayAreSo_53 : decode cX0_claimsOfDayAreSo 53 = .ok (.iconst 0, 1) := by decide +kernel
theorem dX0_claimsOfDayAreSo_54 : decode cX0_claimsOfDayAreSo 54 = .ok (.ireturn, 1) := by decide +kernel
theorem dX0_claimsOfDayAreSo_55 : decode cX0_claimsOfDayAreSo 55 = .ok (.iinc 4 1, 3) := by decide +kernel
theorem dX0_claimsOfDayAreSo_58 : decode cX0_claimsOfDayAreSo 58 = .ok (.goto (-50), 3) := by decide +kernel
theorem dX0_claimsOfDayAreSo_61 : decode cX0_claimsOfDayAreSo 61 = .ok (.iconst 1, 1) := by decide +kernel
theorem dX0_claimsOfDayAreSo_62 : decode cX0_claimsOfDayAreSo 62 = .ok (.ireturn, 1) := by decide +kernel
theorem dX1_init_0 : decode cX1_init 0 = .ok (.aload_n 0, 1) := by decide +kernel
theorem dX1_init_1 : decode cX1_init 1 = .ok (.invokespecial 3, 3) := by decide +kernel
theorem dX1_init_4 : decode cX1_init 4 = .ok (.aload_n 0, 1) := by decide +kernel
theorem dX1_init_5 : decode cX1_init 5 = .ok (.iconst 0, 1) := by decide +kernel
theorem dX1_init_6 : decode cX1_init 6 = .ok (.putfield 9, 3) := by decide +kernel
theorem dX1_init_9 : decode cX1_init 9 = .ok (.aload_n 0, 1) := by decide +kernel
theorem dX1_init_10 : decode cX1_init 10 = .ok (.iconst 0, 1) := by decide +kernel
theorem dX1_init_11 : decode cX1_init 11 = .ok (.putfield 15, 3) := by decide +kernel
theorem dX1_init_14 : decode cX1_init 14 = .ok (.aload_n 0, 1) := by decide +kernel
theorem dX1_init_15 : decode cX1_init 15 = .ok (.iconst 0, 1) := by decide +kernel
theorem dX1_init_16 : decode cX1_init 16 = .ok (.putfield 18, 3) := by decide +kernel
theorem dX1_init_19 : decode cX1_init 19 = .ok (.aload_n 0, 1) := by decide +kernel
theorem dX1_init_20 : decode cX1_init 20 = .ok (.iconst 0, 1) := by decide +kernel
theorem dX1_init_21 : decode cX1_init 21 = .ok (.putfield 21, 3) := by decide +kernel
theorem dX1_init_24 : decode cX1_init 24 = .ok (.aload_n 0, 1) := by decide +kernel
theorem dX1_init_25 : decode cX1_init 25 = .ok (.iconst 0, 1) := by decide +kernel
theorem dX1_init_26 : decode cX1_init 26 = .ok (.putfield 24, 3) := by decide +kernel
theorem dX1_init_29 : decode cX1_init 29 = .ok (.aload_n 0, 1) := by decide +kernel
theorem dX1_init_30 : decode cX1_init 30 = .ok (.bipush 6, 2) := by decide +kernel
theorem dX1_init_32 : decode cX1_init 32 = .ok (.newarray .int, 2) := by decide +kernel
theorem dX1_init_34 : decode cX1_init 34 = .ok (.putfield 27, 3) := by decide +kernel
theorem dX1_init_37 : decode cX1_init 37 = .ok (.aload_n 0, 1) := by decide +kernel
theorem dX1_init_38 : decode cX1_init 38 = .ok (.iconst 5, 1) := by decide +kernel
theorem dX1_init_39 : decode cX1_init 39 = .ok (.newarray .int, 2) := by decide +kernel
theorem dX1_init_41 : decode cX1_init 41 = .ok (.putfield 31, 3) := by decide +kernel
theorem dX1_init_44 : decode cX1_init 44 = .ok (.aload_n 0, 1) := by decide +kernel
theorem dX1_init_45 : decode cX1_init 45 = .ok (.iconst 5, 1) := by decide +kernel
theorem dX1_init_46 : decode cX1_init 46 = .ok (.newarray .int, 2) := by decide +kernel
theorem dX1_init_48 : decode cX1_init 48 = .ok (.putfield 34, 3) := by decide +kernel
theorem dX1_init_51 : decode cX1_init 51 = .ok (.aload_n 0, 1) := by decide +kernel
theorem dX1_init_52 : decode cX1_init 52 = .ok (.iconst 5, 1) := by decide +kernel
theorem dX1_init_53 : decode cX1_init 53 = .ok (.newarray .int, 2) := by decide +kernel
theorem dX1_init_55 : decode cX1_init 55 = .ok (.putfield 37, 3) := by decide +kernel
theorem dX1_init_58 : decode cX1_init 58 = .ok (.aload_n 0, 1) := by decide +kernel
theorem dX1_init_59 : decode cX1_init 59 = .ok (.iconst 5, 1) := by decide +kernel
theorem dX1_init_60 : decode cX1_init 60 = .ok (.newarray .int, 2) := by decide +kernel
theorem dX1_init_62 : decode cX1_init 62 = .ok (.putfield 40, 3) := by decide +kernel
theorem dX1_init_65 : decode cX1_init 65 = .ok (.aload_n 0, 1) := by decide +kernel
theorem dX1_init_66 : decode cX1_init 66 = .ok (.new 43, 3) := by decide +kernel
theorem dX1_init_69 : decode cX1_init 69 = .ok (.dup, 1) := by decide +kernel
theorem dX1_init_70 : decode cX1_init 70 = .ok (.bipush 16, 2) := by decide +kernel
theorem dX1_init_72 : decode cX1_init 72 = .ok (.invokespecial 45, 3) := by decide +kernel
theorem dX1_init_75 : decode cX1_init 75 = .ok (.putfield 48, 3) := by decide +kernel
theorem dX1_init_78 : decode cX1_init 78 = .ok (.aload_n 0, 1) := by decide +kernel
theorem dX1_init_79 : decode cX1_init 79 = .ok (.new 43, 3) := by decide +kernel
theorem dX1_init_82 : decode cX1_init 82 = .ok (.dup, 1) := by decide +kernel
theorem dX1_init_83 : decode cX1_init 83 = .ok (.bipush 6, 2) := by decide +kernel
theorem dX1_init_85 : decode cX1_init 85 = .ok (.invokespecial 45, 3) := by decide +kernel
theorem dX1_init_88 : decode cX1_init 88 = .ok (.putfield 52, 3) := by decide +kernel
theorem dX1_init_91 : decode cX1_init 91 = .ok (.return_, 1) := by decide +kernel
theorem dX1_clear_0 : decode cX1_clear 0 = .ok (.aload_n 0, 1) := by decide +kernel
theorem dX1_clear_1 : decode cX1_clear 1 = .ok (.iconst 0, 1) := by decide +kernel
theorem dX1_clear_2 : decode cX1_clear 2 = .ok (.putfield 9, 3) := by decide +kernel
theorem dX1_clear_5 : decode cX1_clear 5 = .ok (.aload_n 0, 1) := by decide +kernel
theorem dX1_clear_6 : decode cX1_clear 6 = .ok (.iconst 0, 1) := by decide +kernel
theorem dX1_clear_7 : decode cX1_clear 7 = .ok (.putfield 15, 3) := by decide +kernel
theorem dX1_clear_10 : decode cX1_clear 10 = .ok (.aload_n 0, 1) := by decide +kernel
theorem dX1_clear_11 : decode cX1_clear 11 = .ok (.iconst 0, 1) := by decide +kernel
theorem dX1_clear_12 : decode cX1_clear 12 = .ok (.putfield 18, 3) := by decide +kernel
theorem dX1_clear_15 : decode cX1_clear 15 = .ok (.aload_n 0, 1) := by decide +kernel
theorem dX1_clear_16 : decode cX1_clear 16 = .ok (.iconst 0, 1) := by decide +kernel
theorem dX1_clear_17 : decode cX1_clear 17 = .ok (.putfield 21, 3) := by decide +kernel
theorem dX1_clear_20 : decode cX1_clear 20 = .ok (.aload_n 0, 1) := by decide +kernel
theorem dX1_clear_21 : decode cX1_clear 21 = .ok (.iconst 0, 1) := by decide +kernel
theorem dX1_clear_22 : decode cX1_clear 22 = .ok (.putfield 24, 3) := by decide +kernel
theorem dX1_clear_25 : decode cX1_clear 25 = .ok (.aload_n 0, 1) := by decide +kernel
theorem dX1_clear_26 : decode cX1_clear 26 = .ok (.getfield 48, 3) := by decide +kernel
theorem dX1_clear_29 : decode cX1_clear 29 = .ok (.iconst 0, 1) := by decide +kernel
theorem dX1_clear_30 : decode cX1_clear 30 = .ok (.putfield 55, 3) := by decide +kernel
theorem dX1_clear_33 : decode cX1_clear 33 = .ok (.aload_n 0, 1) := by decide +kernel
theorem dX1_clear_34 : decode cX1_clear 34 = .ok (.getfield 52, 3) := by decide +kernel
theorem dX1_clear_37 : decode cX1_clear 37 = .ok (.iconst 0, 1) := by decide +kernel
theorem dX1_clear_38 : decode cX1_clear 38 = .ok (.putfield 55, 3) := by decide +kernel
theorem dX1_clear_41 : decode cX1_clear 41 = .ok (.return_, 1) := by decide +kernel
theorem dX1_areAlike_0 : decode cX1_areAlike 0 = .ok (.aload_n 0, 1) := by decide +kernel
theorem dX1_areAlike_1 : decode cX1_areAlike 1 = .ok (.getfield 31, 3) := by decide +kernel
theorem dX1_areAlike_4 : decode cX1_areAlike 4 = .ok (.iload_n 1, 1) := by decide +kernel
theorem dX1_areAlike_5 : decode cX1_areAlike 5 = .ok (.iaload, 1) := by decide +kernel
theorem dX1_areAlike_6 : decode cX1_areAlike 6 = .ok (.aload_n 0, 1) := by decide +kernel
theorem dX1_areAlike_7 : decode cX1_areAlike 7 = .ok (.getfield 31, 3) := by decide +kernel
theorem dX1_areAlike_10 : decode cX1_areAlike 10 = .ok (.iload_n 2, 1) := by decide +kernel
theorem dX1_areAlike_11 : decode cX1_areAlike 11 = .ok (.iaload, 1) := by decide +kernel
theorem dX1_areAlike_12 : decode cX1_areAlike 12 = .ok (.if_icmp .ne 22, 3) := by decide +kernel
theorem dX1_areAlike_15 : decode cX1_areAlike 15 = .ok (.aload_n 0, 1) := by decide +kernel
theorem dX1_areAlike_16 : decode cX1_areAlike 16 = .ok (.getfield 37, 3) := by decide +kernel
theorem dX1_areAlike_19 : decode cX1_areAlike 19 = .ok (.iload_n 1, 1) := by decide +kernel
theorem dX1_areAlike_20 : decode cX1_areAlike 20 = .ok (.iaload, 1) := by decide +kernel
theorem dX1_areAlike_21 : decode cX1_areAlike 21 = .ok (.aload_n 0, 1) := by decide +kernel
theorem dX1_areAlike_22 : decode cX1_areAlike 22 = .ok (.getfield 37, 3) := by decide +kernel
theorem dX1_areAlike_25 : decode cX1_areAlike 25 = .ok (.iload_n 2, 1) := by decide +kernel
theorem dX1_areAlike_26 : decode cX1_areAlike 26 = .ok (.iaload, 1) := by decide +kernel
theorem dX1_areAlike_27 : decode cX1_areAlike 27 = .ok (.if_icmp .ne 7, 3) := by decide +kernel
theorem dX1_areAlike_30 : decode cX1_areAlike 30 = .ok (.iconst 1, 1) := by decide +kernel
theorem dX1_areAlike_31 : decode cX1_areAlike 31 = .ok (.goto 4, 3) := by decide +kernel
theorem dX1_areAlike_34 : decode cX1_areAlike 34 = .ok (.iconst 0, 1) := by decide +kernel
theorem dX1_areAlike_35 : decode cX1_areAlike 35 = .ok (.ireturn, 1) := by decide +kernel
theorem dX1_holdsOf100_0 : decode cX1_holdsOf100 0 = .ok (.bipush 100, 2) := by decide +kernel
theorem dX1_holdsOf100_2 : decode cX1_holdsOf100 2 = .ok (.aload_n 0, 1) := by decide +kernel
theorem dX1_holdsOf100_3 : decode cX1_holdsOf100 3 = .ok (.getfield 31, 3) := by decide +kernel
theorem dX1_holdsOf100_6 : decode cX1_holdsOf100 6 = .ok (.iload_n 1, 1) := by decide +kernel
theorem dX1_holdsOf100_7 : decode cX1_holdsOf100 7 = .ok (.iaload, 1) := by decide +kernel
theorem dX1_holdsOf100_8 : decode cX1_holdsOf100 8 = .ok (.ifCond .ne 12, 3) := by decide +kernel
theorem dX1_holdsOf100_11 : decode cX1_holdsOf100 11 = .ok (.aload_n 0, 1) := by decide +kernel
theorem dX1_holdsOf100_12 : decode cX1_holdsOf100 12 = .ok (.getfield 15, 3) := by decide +kernel
theorem dX1_holdsOf100_15 : decode cX1_holdsOf100 15 = .ok (.iconst 2, 1) := by decide +kernel
theorem dX1_holdsOf100_16 : decode cX1_holdsOf100 16 = .ok (.idiv, 1) := by decide +kernel
theorem dX1_holdsOf100_17 : decode cX1_holdsOf100 17 = .ok (.goto 7, 3) := by decide +kernel
theorem dX1_holdsOf100_20 : decode cX1_holdsOf100 20 = .ok (.aload_n 0, 1) := by decide +kernel
theorem dX1_holdsOf100_21 : decode cX1_holdsOf100 21 = .ok (.getfield 15, 3) := by decide +kernel
theorem dX1_holdsOf100_24 : decode cX1_holdsOf100 24 = .ok (.isub, 1) := by decide +kernel
theorem dX1_holdsOf100_25 : decode cX1_holdsOf100 25 = .ok (.ireturn, 1) := by decide +kernel
theorem dX2_init_0 : decode cX2_init 0 = .ok (.aload_n 0, 1) := by decide +kernel
theorem dX2_init_1 : decode cX2_init 1 = .ok (.invokespecial 1, 3) := by decide +kernel
theorem dX2_init_4 : decode cX2_init 4 = .ok (.aload_n 0, 1) := by decide +kernel
theorem dX2_init_5 : decode cX2_init 5 = .ok (.iconst 0, 1) := by decide +kernel
theorem dX2_init_6 : decode cX2_init 6 = .ok (.putfield 7, 3) := by decide +kernel
theorem dX2_init_9 : decode cX2_init 9 = .ok (.iload_n 1, 1) := by decide +kernel
theorem dX2_init_10 : decode cX2_init 10 = .ok (.iconst 0, 1) := by decide +kernel
theorem dX2_init_11 : decode cX2_init 11 = .ok (.invokestatic 13, 3) := by decide +kernel
theorem dX2_init_14 : decode cX2_init 14 = .ok (.istore_n 2, 1) := by decide +kernel
theorem dX2_init_15 : decode cX2_init 15 = .ok (.aload_n 0, 1) := by decide +kernel
theorem dX2_init_16 : decode cX2_init 16 = .ok (.iload_n 2, 1) := by decide +kernel
theorem dX2_init_17 : decode cX2_init 17 = .ok (.newarray .int, 2) := by decide +kernel
theorem dX2_init_19 : decode cX2_init 19 = .ok (.putfield 19, 3) := by decide +kernel
theorem dX2_init_22 : decode cX2_init 22 = .ok (.aload_n 0, 1) := by decide +kernel
theorem dX2_init_23 : decode cX2_init 23 = .ok (.iload_n 2, 1) := by decide +kernel
theorem dX2_init_24 : decode cX2_init 24 = .ok (.newarray .int, 2) := by decide +kernel
theorem dX2_init_26 : decode cX2_init 26 = .ok (.putfield 23, 3) := by decide +kernel
theorem dX2_init_29 : decode cX2_init 29 = .ok (.aload_n 0, 1) := by decide +kernel
theorem dX2_init_30 : decode cX2_init 30 = .ok (.iload_n 2, 1) := by decide +kernel
theorem dX2_init_31 : decode cX2_init 31 = .ok (.newarray .int, 2) := by decide +kernel
theorem dX2_init_33 : decode cX2_init 33 = .ok (.putfield 26, 3) := by decide +kernel
theorem dX2_init_36 : decode cX2_init 36 = .ok (.aload_n 0, 1) := by decide +kernel
theorem dX2_init_37 : decode cX2_init 37 = .ok (.iload_n 2, 1) := by decide +kernel
theorem dX2_init_38 : decode cX2_init 38 = .ok (.newarray .int, 2) := by decide +kernel
theorem dX2_init_40 : decode cX2_init 40 = .ok (.putfield 29, 3) := by decide +kernel
theorem dX2_init_43 : decode cX2_init 43 = .ok (.return_, 1) := by decide +kernel
theorem dX2_isFull_0 : decode cX2_isFull 0 = .ok (.aload_n 0, 1) := by decide +kernel
theorem dX2_isFull_1 : decode cX2_isFull 1 = .ok (.getfield 7, 3) := by decide +kernel
theorem dX2_isFull_4 : decode cX2_isFull 4 = .ok (.aload_n 0, 1) := by decide +kernel
theorem dX2_isFull_5 : decode cX2_isFull 5 = .ok (.getfield 29, 3) := by decide +kernel
theorem dX2_isFull_8 : decode cX2_isFull 8 = .ok (.arraylength, 1) := by decide +kernel
theorem dX2_isFull_9 : decode cX2_isFull 9 = .ok (.if_icmp .lt 7, 3) := by decide +kernel
theorem dX2_isFull_12 : decode cX2_isFull 12 = .ok (.iconst 1, 1) := by decide +kernel
theorem dX2_isFull_13 : decode cX2_isFull 13 = .ok (.goto 4, 3) := by decide +kernel
theorem dX2_isFull_16 : decode cX2_isFull 16 = .ok (.iconst 0, 1) := by decide +kernel
theorem dX2_isFull_17 : decode cX2_isFull 17 = .ok (.ireturn, 1) := by decide +kernel
theorem dX2_add_0 : decode cX2_add 0 = .ok (.aload_n 0, 1) := by decide +kernel
theorem dX2_add_1 : decode cX2_add 1 = .ok (.invokevirtual 32, 3) := by decide +kernel
theorem dX2_add_4 : decode cX2_add 4 = .ok (.ifCond .eq 4, 3) := by decide +kernel
theorem dX2_add_7 : decode cX2_add 7 = .ok (.return_, 1) := by decide +kernel
theorem dX2_add_8 : decode cX2_add 8 = .ok (.aload_n 0, 1) := by decide +kernel
theorem dX2_add_9 : decode cX2_add 9 = .ok (.getfield 19, 3) := by decide +kernel
theorem dX2_add_12 : decode cX2_add 12 = .ok (.aload_n 0, 1) := by decide +kernel
theorem dX2_add_13 : decode cX2_add 13 = .ok (.getfield 7, 3) := by decide +kernel
theorem dX2_add_16 : decode cX2_add 16 = .ok (.iload_n 1, 1) := by decide +kernel
theorem dX2_add_17 : decode cX2_add 17 = .ok (.iastore, 1) := by decide +kernel
theorem dX2_add_18 : decode cX2_add 18 = .ok (.aload_n 0, 1) := by decide +kernel
theorem dX2_add_19 : decode cX2_add 19 = .ok (.getfield 23, 3) := by decide +kernel
theorem dX2_add_22 : decode cX2_add 22 = .ok (.aload_n 0, 1) := by decide +kernel
theorem dX2_add_23 : decode cX2_add 23 = .ok (.getfield 7, 3) := by decide +kernel
theorem dX2_add_26 : decode cX2_add 26 = .ok (.iload_n 2, 1) := by decide +kernel
theorem dX2_add_27 : decode cX2_add 27 = .ok (.iastore, 1) := by decide +kernel
theorem dX2_add_28 : decode cX2_add 28 = .ok (.aload_n 0, 1) := by decide +kernel
theorem dX2_add_29 : decode cX2_add 29 = .ok (.getfield 26, 3) := by decide +kernel
theorem dX2_add_32 : decode cX2_add 32 = .ok (.aload_n 0, 1) := by decide +kernel
theorem dX2_add_33 : decode cX2_add 33 = .ok (.getfield 7, 3) := by decide +kernel
theorem dX2_add_36 : decode cX2_add 36 = .ok (.iload_n 3, 1) := by decide +kernel
theorem dX2_add_37 : decode cX2_add 37 = .ok (.iastore, 1) := by decide +kernel
theorem dX2_add_38 : decode cX2_add 38 = .ok (.aload_n 0, 1) := by decide +kernel
theorem dX2_add_39 : decode cX2_add 39 = .ok (.getfield 29, 3) := by decide +kernel
theorem dX2_add_42 : decode cX2_add 42 = .ok (.aload_n 0, 1) := by decide +kernel
theorem dX2_add_43 : decode cX2_add 43 = .ok (.getfield 7, 3) := by decide +kernel
theorem dX2_add_46 : decode cX2_add 46 = .ok (.iload 4, 2) := by decide +kernel
theorem dX2_add_48 : decode cX2_add 48 = .ok (.iastore, 1) := by decide +kernel
theorem dX2_add_49 : decode cX2_add 49 = .ok (.aload_n 0, 1) := by decide +kernel
theorem dX2_add_50 : decode cX2_add 50 = .ok (.dup, 1) := by decide +kernel
theorem dX2_add_51 : decode cX2_add 51 = .ok (.getfield 7, 3) := by decide +kernel
theorem dX2_add_54 : decode cX2_add 54 = .ok (.iconst 1, 1) := by decide +kernel
theorem dX2_add_55 : decode cX2_add 55 = .ok (.iadd, 1) := by decide +kernel
theorem dX2_add_56 : decode cX2_add 56 = .ok (.putfield 7, 3) := by decide +kernel
theorem dX2_add_59 : decode cX2_add 59 = .ok (.return_, 1) := by decide +kernel
theorem dX3_init_0 : decode cX3_init 0 = .ok (.aload_n 0, 1) := by decide +kernel
theorem dX3_init_1 : decode cX3_init 1 = .ok (.invokespecial 3, 3) := by decide +kernel
theorem dX3_init_4 : decode cX3_init 4 = .ok (.aload_n 0, 1) := by decide +kernel
theorem dX3_init_5 : decode cX3_init 5 = .ok (.iconst 5, 1) := by decide +kernel
theorem dX3_init_6 : decode cX3_init 6 = .ok (.newarray .int, 2) := by decide +kernel
theorem dX3_init_8 : decode cX3_init 8 = .ok (.putfield 9, 3) := by decide +kernel
theorem dX3_init_11 : decode cX3_init 11 = .ok (.aload_n 0, 1) := by decide +kernel
theorem dX3_init_12 : decode cX3_init 12 = .ok (.iconst 5, 1) := by decide +kernel
theorem dX3_init_13 : decode cX3_init 13 = .ok (.newarray .int, 2) := by decide +kernel
theorem dX3_init_15 : decode cX3_init 15 = .ok (.putfield 15, 3) := by decide +kernel
theorem dX3_init_18 : decode cX3_init 18 = .ok (.aload_n 0, 1) := by decide +kernel
theorem dX3_init_19 : decode cX3_init 19 = .ok (.iconst 0, 1) := by decide +kernel
theorem dX3_init_20 : decode cX3_init 20 = .ok (.putfield 18, 3) := by decide +kernel
theorem dX3_init_23 : decode cX3_init 23 = .ok (.return_, 1) := by decide +kernel
theorem dX3_begin_0 : decode cX3_begin 0 = .ok (.aload_n 0, 1) := by decide +kernel
theorem dX3_begin_1 : decode cX3_begin 1 = .ok (.iconst 0, 1) := by decide +kernel
theorem dX3_begin_2 : decode cX3_begin 2 = .ok (.putfield 18, 3) := by decide +kernel
theorem dX3_begin_5 : decode cX3_begin 5 = .ok (.iconst 0, 1) := by decide +kernel
theorem dX3_begin_6 : decode cX3_begin 6 = .ok (.istore_n 2, 1) := by decide +kernel
theorem dX3_begin_7 : decode cX3_begin 7 = .ok (.iload_n 2, 1) := by decide +kernel
theorem dX3_begin_8 : decode cX3_begin 8 = .ok (.iconst 5, 1) := by decide +kernel
theorem dX3_begin_9 : decode cX3_begin 9 = .ok (.if_icmp .ge 66, 3) := by decide +kernel
theorem dX3_begin_12 : decode cX3_begin 12 = .ok (.aload_n 0, 1) := by decide +kernel
theorem dX3_begin_13 : decode cX3_begin 13 = .ok (.getfield 9, 3) := by decide +kernel
theorem dX3_begin_16 : decode cX3_begin 16 = .ok (.iload_n 2, 1) := by decide +kernel
theorem dX3_begin_17 : decode cX3_begin 17 = .ok (.iload_n 2, 1) := by decide +kernel
theorem dX3_begin_18 : decode cX3_begin 18 = .ok (.aload_n 1, 1) := by decide +kernel
theorem dX3_begin_19 : decode cX3_begin 19 = .ok (.getfield 22, 3) := by decide +kernel
theorem dX3_begin_22 : decode cX3_begin 22 = .ok (.if_icmp .ge 12, 3) := by decide +kernel
theorem dX3_begin_25 : decode cX3_begin 25 = .ok (.aload_n 1, 1) := by decide +kernel
theorem dX3_begin_26 : decode cX3_begin 26 = .ok (.getfield 27, 3) := by decide +kernel
theorem dX3_begin_29 : decode cX3_begin 29 = .ok (.iload_n 2, 1) := by decide +kernel
theorem dX3_begin_30 : decode cX3_begin 30 = .ok (.iaload, 1) := by decide +kernel
theorem dX3_begin_31 : decode cX3_begin 31 = .ok (.goto 5, 3) := by decide +kernel
theorem dX3_begin_34 : decode cX3_begin 34 = .ok (.bipush (-2), 2) := by decide +kernel
theorem dX3_begin_36 : decode cX3_begin 36 = .ok (.iastore, 1) := by decide +kernel
theorem dX3_begin_37 : decode cX3_begin 37 = .ok (.aload_n 0, 1) := by decide +kernel
theorem dX3_begin_38 : decode cX3_begin 38 = .ok (.getfield 15, 3) := by decide +kernel
theorem dX3_begin_41 : decode cX3_begin 41 = .ok (.iload_n 2, 1) := by decide +kernel
theorem dX3_begin_42 : decode cX3_begin 42 = .ok (.bipush (-2), 2) := by decide +kernel
theorem dX3_begin_44 : decode cX3_begin 44 = .ok (.iastore, 1) := by decide +kernel
theorem dX3_begin_45 : decode cX3_begin 45 = .ok (.iload_n 2, 1) := by decide +kernel
theorem dX3_begin_46 : decode cX3_begin 46 = .ok (.aload_n 1, 1) := by decide +kernel
theorem dX3_begin_47 : decode cX3_begin 47 = .ok (.getfield 22, 3) := by decide +kernel
theorem dX3_begin_50 : decode cX3_begin 50 = .ok (.if_icmp .ge 19, 3) := by decide +kernel
theorem dX3_begin_53 : decode cX3_begin 53 = .ok (.aload_n 1, 1) := by decide +kernel
theorem dX3_begin_54 : decode cX3_begin 54 = .ok (.getfield 30, 3) := by decide +kernel
theorem dX3_begin_57 : decode cX3_begin 57 = .ok (.iload_n 2, 1) := by decide +kernel
theorem dX3_begin_58 : decode cX3_begin 58 = .ok (.iaload, 1) := by decide +kernel
theorem dX3_begin_59 : decode cX3_begin 59 = .ok (.iconst 2, 1) := by decide +kernel
theorem dX3_begin_60 : decode cX3_begin 60 = .ok (.if_icmp .eq 9, 3) := by decide +kernel
theorem dX3_begin_63 : decode cX3_begin 63 = .ok (.aload_n 0, 1) := by decide +kernel
theorem dX3_begin_64 : decode cX3_begin 64 = .ok (.aload_n 1, 1) := by decide +kernel
theorem dX3_begin_65 : decode cX3_begin 65 = .ok (.iload_n 2, 1) := by decide +kernel
theorem dX3_begin_66 : decode cX3_begin 66 = .ok (.invokevirtual 33, 3) := by decide +kernel
theorem dX3_begin_69 : decode cX3_begin 69 = .ok (.iinc 2 1, 3) := by decide +kernel
theorem dX3_begin_72 : decode cX3_begin 72 = .ok (.goto (-65), 3) := by decide +kernel
theorem dX3_begin_75 : decode cX3_begin 75 = .ok (.return_, 1) := by decide +kernel
theorem dX3_copyFrom_0 : decode cX3_copyFrom 0 = .ok (.iconst 0, 1) := by decide +kernel
theorem dX3_copyFrom_1 : decode cX3_copyFrom 1 = .ok (.istore_n 2, 1) := by decide +kernel
theorem dX3_copyFrom_2 : decode cX3_copyFrom 2 = .ok (.iload_n 2, 1) := by decide +kernel
theorem dX3_copyFrom_3 : decode cX3_copyFrom 3 = .ok (.iconst 5, 1) := by decide +kernel
theorem dX3_copyFrom_4 : decode cX3_copyFrom 4 = .ok (.if_icmp .ge 33, 3) := by decide +kernel
theorem dX3_copyFrom_7 : decode cX3_copyFrom 7 = .ok (.aload_n 0, 1) := by decide +kernel
theorem dX3_copyFrom_8 : decode cX3_copyFrom 8 = .ok (.getfield 9, 3) := by decide +kernel
theorem dX3_copyFrom_11 : decode cX3_copyFrom 11 = .ok (.iload_n 2, 1) := by decide +kernel
theorem dX3_copyFrom_12 : decode cX3_copyFrom 12 = .ok (.aload_n 1, 1) := by decide +kernel
theorem dX3_copyFrom_13 : decode cX3_copyFrom 13 = .ok (.getfield 9, 3) := by decide +kernel
theorem dX3_copyFrom_16 : decode cX3_copyFrom 16 = .ok (.iload_n 2, 1) := by decide +kernel
theorem dX3_copyFrom_17 : decode cX3_copyFrom 17 = .ok (.iaload, 1) := by decide +kernel
theorem dX3_copyFrom_18 : decode cX3_copyFrom 18 = .ok (.iastore, 1) := by decide +kernel
theorem dX3_copyFrom_19 : decode cX3_copyFrom 19 = .ok (.aload_n 0, 1) := by decide +kernel
theorem dX3_copyFrom_20 : decode cX3_copyFrom 20 = .ok (.getfield 15, 3) := by decide +kernel
theorem dX3_copyFrom_23 : decode cX3_copyFrom 23 = .ok (.iload_n 2, 1) := by decide +kernel
theorem dX3_copyFrom_24 : decode cX3_copyFrom 24 = .ok (.aload_n 1, 1) := by decide +kernel
theorem dX3_copyFrom_25 : decode cX3_copyFrom 25 = .ok (.getfield 15, 3) := by decide +kernel
theorem dX3_copyFrom_28 : decode cX3_copyFrom 28 = .ok (.iload_n 2, 1) := by decide +kernel
theorem dX3_copyFrom_29 : decode cX3_copyFrom 29 = .ok (.iaload, 1) := by decide +kernel
theorem dX3_copyFrom_30 : decode cX3_copyFrom 30 = .ok (.iastore, 1) := by decide +kernel
theorem dX3_copyFrom_31 : decode cX3_copyFrom 31 = .ok (.iinc 2 1, 3) := by decide +kernel
theorem dX3_copyFrom_34 : decode cX3_copyFrom 34 = .ok (.goto (-32), 3) := by decide +kernel
theorem dX3_copyFrom_37 : decode cX3_copyFrom 37 = .ok (.aload_n 0, 1) := by decide +kernel
theorem dX3_copyFrom_38 : decode cX3_copyFrom 38 = .ok (.aload_n 1, 1) := by decide +kernel
theorem dX3_copyFrom_39 : decode cX3_copyFrom 39 = .ok (.getfield 18, 3) := by decide +kernel
theorem dX3_copyFrom_42 : decode cX3_copyFrom 42 = .ok (.putfield 18, 3) := by decide +kernel
theorem dX3_copyFrom_45 : decode cX3_copyFrom 45 = .ok (.return_, 1) := by decide +kernel
theorem dX3_packed_0 : decode cX3_packed 0 = .ok (.aload_n 0, 1) := by decide +kernel
theorem dX3_packed_1 : decode cX3_packed 1 = .ok (.getfield 18, 3) := by decide +kernel
theorem dX3_packed_4 : decode cX3_packed 4 = .ok (.i2l, 1) := by decide +kernel
theorem dX3_packed_5 : decode cX3_packed 5 = .ok (.lstore_n 1, 1) := by decide +kernel
theorem dX3_packed_6 : decode cX3_packed 6 = .ok (.iconst 0, 1) := by decide +kernel
theorem dX3_packed_7 : decode cX3_packed 7 = .ok (.istore_n 3, 1) := by decide +kernel
theorem dX3_packed_8 : decode cX3_packed 8 = .ok (.iload_n 3, 1) := by decide +kernel
theorem dX3_packed_9 : decode cX3_packed 9 = .ok (.iconst 5, 1) := by decide +kernel
theorem dX3_packed_10 : decode cX3_packed 10 = .ok (.if_icmp .ge 38, 3) := by decide +kernel
theorem dX3_packed_13 : decode cX3_packed 13 = .ok (.lload_n 1, 1) := by decide +kernel
theorem dX3_packed_14 : decode cX3_packed 14 = .ok (.bipush 6, 2) := by decide +kernel
theorem dX3_packed_16 : decode cX3_packed 16 = .ok (.lshl, 1) := by decide +kernel
theorem dX3_packed_17 : decode cX3_packed 17 = .ok (.aload_n 0, 1) := by decide +kernel
theorem dX3_packed_18 : decode cX3_packed 18 = .ok (.getfield 9, 3) := by decide +kernel
theorem dX3_packed_21 : decode cX3_packed 21 = .ok (.iload_n 3, 1) := by decide +kernel
theorem dX3_packed_22 : decode cX3_packed 22 = .ok (.iaload, 1) := by decide +kernel
theorem dX3_packed_23 : decode cX3_packed 23 = .ok (.bipush (-2), 2) := by decide +kernel
theorem dX3_packed_25 : decode cX3_packed 25 = .ok (.isub, 1) := by decide +kernel
theorem dX3_packed_26 : decode cX3_packed 26 = .ok (.iconst 3, 1) := by decide +kernel
theorem dX3_packed_27 : decode cX3_packed 27 = .ok (.ishl, 1) := by decide +kernel
theorem dX3_packed_28 : decode cX3_packed 28 = .ok (.i2l, 1) := by decide +kernel
theorem dX3_packed_29 : decode cX3_packed 29 = .ok (.lor, 1) := by decide +kernel
theorem dX3_packed_30 : decode cX3_packed 30 = .ok (.aload_n 0, 1) := by decide +kernel
theorem dX3_packed_31 : decode cX3_packed 31 = .ok (.getfield 15, 3) := by decide +kernel
theorem dX3_packed_34 : decode cX3_packed 34 = .ok (.iload_n 3, 1) := by decide +kernel
theorem dX3_packed_35 : decode cX3_packed 35 = .ok (.iaload, 1) := by decide +kernel
theorem dX3_packed_36 : decode cX3_packed 36 = .ok (.bipush (-2), 2) := by decide +kernel
theorem dX3_packed_38 : decode cX3_packed 38 = .ok (.isub, 1) := by decide +kernel
theorem dX3_packed_39 : decode cX3_packed 39 = .ok (.i2l, 1) := by decide +kernel
theorem dX3_packed_40 : decode cX3_packed 40 = .ok (.lor, 1) := by decide +kernel
theorem dX3_packed_41 : decode cX3_packed 41 = .ok (.lstore_n 1, 1) := by decide +kernel
theorem dX3_packed_42 : decode cX3_packed 42 = .ok (.iinc 3 1, 3) := by decide +kernel
theorem dX3_packed_45 : decode cX3_packed 45 = .ok (.goto (-37), 3) := by decide +kernel
theorem dX3_packed_48 : decode cX3_packed 48 = .ok (.lload_n 1, 1) := by decide +kernel
theorem dX3_packed_49 : decode cX3_packed 49 = .ok (.lreturn, 1) := by decide +kernel
theorem dX3_unpack_0 : decode cX3_unpack 0 = .ok (.lload_n 1, 1) := by decide +kernel
theorem dX3_unpack_1 : decode cX3_unpack 1 = .ok (.lstore_n 3, 1) := by decide +kernel
theorem dX3_unpack_2 : decode cX3_unpack 2 = .ok (.iconst 4, 1) := by decide +kernel
theorem dX3_unpack_3 : decode cX3_unpack 3 = .ok (.istore 5, 2) := by decide +kernel
theorem dX3_unpack_5 : decode cX3_unpack 5 = .ok (.iload 5, 2) := by decide +kernel
theorem dX3_unpack_7 : decode cX3_unpack 7 = .ok (.ifCond .lt 48, 3) := by decide +kernel
theorem dX3_unpack_10 : decode cX3_unpack 10 = .ok (.aload_n 0, 1) := by decide +kernel
theorem dX3_unpack_11 : decode cX3_unpack 11 = .ok (.getfield 15, 3) := by decide +kernel
theorem dX3_unpack_14 : decode cX3_unpack 14 = .ok (.iload 5, 2) := by decide +kernel
theorem dX3_unpack_16 : decode cX3_unpack 16 = .ok (.lload_n 3, 1) := by decide +kernel
theorem dX3_unpack_17 : decode cX3_unpack 17 = .ok (.ldc2_w 37, 3) := by decide +kernel
theorem dX3_unpack_20 : decode cX3_unpack 20 = .ok (.land, 1) := by decide +kernel
theorem dX3_unpack_21 : decode cX3_unpack 21 = .ok (.l2i, 1) := by decide +kernel
theorem dX3_unpack_22 : decode cX3_unpack 22 = .ok (.bipush (-2), 2) := by decide +kernel
theorem dX3_unpack_24 : decode cX3_unpack 24 = .ok (.iadd, 1) := by decide +kernel
theorem dX3_unpack_25 : decode cX3_unpack 25 = .ok (.iastore, 1) := by decide +kernel
theorem dX3_unpack_26 : decode cX3_unpack 26 = .ok (.aload_n 0, 1) := by decide +kernel
theorem dX3_unpack_27 : decode cX3_unpack 27 = .ok (.getfield 9, 3) := by decide +kernel
theorem dX3_unpack_30 : decode cX3_unpack 30 = .ok (.iload 5, 2) := by decide +kernel
theorem dX3_unpack_32 : decode cX3_unpack 32 = .ok (.lload_n 3, 1) := by decide +kernel
theorem dX3_unpack_33 : decode cX3_unpack 33 = .ok (.iconst 3, 1) := by decide +kernel
theorem dX3_unpack_34 : decode cX3_unpack 34 = .ok (.lshr, 1) := by decide +kernel
theorem dX3_unpack_35 : decode cX3_unpack 35 = .ok (.ldc2_w 37, 3) := by decide +kernel
theorem dX3_unpack_38 : decode cX3_unpack 38 = .ok (.land, 1) := by decide +kernel
theorem dX3_unpack_39 : decode cX3_unpack 39 = .ok (.l2i, 1) := by decide +kernel
theorem dX3_unpack_40 : decode cX3_unpack 40 = .ok (.bipush (-2), 2) := by decide +kernel
theorem dX3_unpack_42 : decode cX3_unpack 42 = .ok (.iadd, 1) := by decide +kernel
theorem dX3_unpack_43 : decode cX3_unpack 43 = .ok (.iastore, 1) := by decide +kernel
theorem dX3_unpack_44 : decode cX3_unpack 44 = .ok (.lload_n 3, 1) := by decide +kernel
theorem dX3_unpack_45 : decode cX3_unpack 45 = .ok (.bipush 6, 2) := by decide +kernel
theorem dX3_unpack_47 : decode cX3_unpack 47 = .ok (.lshr, 1) := by decide +kernel
theorem dX3_unpack_48 : decode cX3_unpack 48 = .ok (.lstore_n 3, 1) := by decide +kernel
theorem dX3_unpack_49 : decode cX3_unpack 49 = .ok (.iinc 5 (-1), 3) := by decide +kernel
theorem dX3_unpack_52 : decode cX3_unpack 52 = .ok (.goto (-47), 3) := by decide +kernel
theorem dX3_unpack_55 : decode cX3_unpack 55 = .ok (.aload_n 0, 1) := by decide +kernel
theorem dX3_unpack_56 : decode cX3_unpack 56 = .ok (.lload_n 3, 1) := by decide +kernel
theorem dX3_unpack_57 : decode cX3_unpack 57 = .ok (.l2i, 1) := by decide +kernel
theorem dX3_unpack_58 : decode cX3_unpack 58 = .ok (.putfield 18, 3) := by decide +kernel
theorem dX3_unpack_61 : decode cX3_unpack 61 = .ok (.return_, 1) := by decide +kernel
theorem dX3_swap_0 : decode cX3_swap 0 = .ok (.aload_n 0, 1) := by decide +kernel
theorem dX3_swap_1 : decode cX3_swap 1 = .ok (.getfield 9, 3) := by decide +kernel
theorem dX3_swap_4 : decode cX3_swap 4 = .ok (.iload_n 1, 1) := by decide +kernel
theorem dX3_swap_5 : decode cX3_swap 5 = .ok (.iaload, 1) := by decide +kernel
theorem dX3_swap_6 : decode cX3_swap 6 = .ok (.istore_n 3, 1) := by decide +kernel
theorem dX3_swap_7 : decode cX3_swap 7 = .ok (.aload_n 0, 1) := by decide +kernel
theorem dX3_swap_8 : decode cX3_swap 8 = .ok (.getfield 9, 3) := by decide +kernel
theorem dX3_swap_11 : decode cX3_swap 11 = .ok (.iload_n 1, 1) := by decide +kernel
theorem dX3_swap_12 : decode cX3_swap 12 = .ok (.aload_n 0, 1) := by decide +kernel
theorem dX3_swap_13 : decode cX3_swap 13 = .ok (.getfield 9, 3) := by decide +kernel
theorem dX3_swap_16 : decode cX3_swap 16 = .ok (.iload_n 2, 1) := by decide +kernel
theorem dX3_swap_17 : decode cX3_swap 17 = .ok (.iaload, 1) := by decide +kernel
theorem dX3_swap_18 : decode cX3_swap 18 = .ok (.iastore, 1) := by decide +kernel
theorem dX3_swap_19 : decode cX3_swap 19 = .ok (.aload_n 0, 1) := by decide +kernel
theorem dX3_swap_20 : decode cX3_swap 20 = .ok (.getfield 9, 3) := by decide +kernel
theorem dX3_swap_23 : decode cX3_swap 23 = .ok (.iload_n 2, 1) := by decide +kernel
theorem dX3_swap_24 : decode cX3_swap 24 = .ok (.iload_n 3, 1) := by decide +kernel
theorem dX3_swap_25 : decode cX3_swap 25 = .ok (.iastore, 1) := by decide +kernel
theorem dX3_swap_26 : decode cX3_swap 26 = .ok (.return_, 1) := by decide +kernel
theorem dX3_happen_0 : decode cX3_happen 0 = .ok (.iload_n 1, 1) := by decide +kernel
theorem dX3_happen_1 : decode cX3_happen 1 = .ok (.ifCond .ne 13, 3) := by decide +kernel
theorem dX3_happen_4 : decode cX3_happen 4 = .ok (.aload_n 0, 1) := by decide +kernel
theorem dX3_happen_5 : decode cX3_happen 5 = .ok (.getfield 9, 3) := by decide +kernel
theorem dX3_happen_8 : decode cX3_happen 8 = .ok (.iload_n 2, 1) := by decide +kernel
theorem dX3_happen_9 : decode cX3_happen 9 = .ok (.iload_n 3, 1) := by decide +kernel
theorem dX3_happen_10 : decode cX3_happen 10 = .ok (.iastore, 1) := by decide +kernel
theorem dX3_happen_11 : decode cX3_happen 11 = .ok (.goto 30, 3) := by decide +kernel
theorem dX3_happen_14 : decode cX3_happen 14 = .ok (.iload_n 1, 1) := by decide +kernel
theorem dX3_happen_15 : decode cX3_happen 15 = .ok (.iconst 1, 1) := by decide +kernel
theorem dX3_happen_16 : decode cX3_happen 16 = .ok (.if_icmp .ne 14, 3) := by decide +kernel
theorem dX3_happen_19 : decode cX3_happen 19 = .ok (.aload_n 0, 1) := by decide +kernel
theorem dX3_happen_20 : decode cX3_happen 20 = .ok (.getfield 9, 3) := by decide +kernel
theorem dX3_happen_23 : decode cX3_happen 23 = .ok (.iload_n 2, 1) := by decide +kernel
theorem dX3_happen_24 : decode cX3_happen 24 = .ok (.bipush (-2), 2) := by decide +kernel
theorem dX3_happen_26 : decode cX3_happen 26 = .ok (.iastore, 1) := by decide +kernel
theorem dX3_happen_27 : decode cX3_happen 27 = .ok (.goto 14, 3) := by decide +kernel
theorem dX3_happen_30 : decode cX3_happen 30 = .ok (.iload_n 1, 1) := by decide +kernel
theorem dX3_happen_31 : decode cX3_happen 31 = .ok (.iconst 2, 1) := by decide +kernel
theorem dX3_happen_32 : decode cX3_happen 32 = .ok (.if_icmp .ne 9, 3) := by decide +kernel
theorem dX3_happen_35 : decode cX3_happen 35 = .ok (.aload_n 0, 1) := by decide +kernel
theorem dX3_happen_36 : decode cX3_happen 36 = .ok (.iload_n 2, 1) := by decide +kernel
theorem dX3_happen_37 : decode cX3_happen 37 = .ok (.iload_n 3, 1) := by decide +kernel
theorem dX3_happen_38 : decode cX3_happen 38 = .ok (.invokevirtual 39, 3) := by decide +kernel
theorem dX3_happen_41 : decode cX3_happen 41 = .ok (.return_, 1) := by decide +kernel
theorem dX3_passDay_0 : decode cX3_passDay 0 = .ok (.iconst 0, 1) := by decide +kernel
theorem dX3_passDay_1 : decode cX3_passDay 1 = .ok (.istore_n 3, 1) := by decide +kernel
theorem dX3_passDay_2 : decode cX3_passDay 2 = .ok (.iload_n 3, 1) := by decide +kernel
theorem dX3_passDay_3 : decode cX3_passDay 3 = .ok (.aload_n 1, 1) := by decide +kernel
theorem dX3_passDay_4 : decode cX3_passDay 4 = .ok (.getfield 22, 3) := by decide +kernel
theorem dX3_passDay_7 : decode cX3_passDay 7 = .ok (.if_icmp .ge 44, 3) := by decide +kernel
theorem dX3_passDay_10 : decode cX3_passDay 10 = .ok (.aload_n 1, 1) := by decide +kernel
theorem dX3_passDay_11 : decode cX3_passDay 11 = .ok (.getfield 30, 3) := by decide +kernel
theorem dX3_passDay_14 : decode cX3_passDay 14 = .ok (.iload_n 3, 1) := by decide +kernel
theorem dX3_passDay_15 : decode cX3_passDay 15 = .ok (.iaload, 1) := by decide +kernel
theorem dX3_passDay_16 : decode cX3_passDay 16 = .ok (.istore 4, 2) := by decide +kernel
theorem dX3_passDay_18 : decode cX3_passDay 18 = .ok (.iload 4, 2) := by decide +kernel
theorem dX3_passDay_20 : decode cX3_passDay 20 = .ok (.iconst 2, 1) := by decide +kernel
theorem dX3_passDay_21 : decode cX3_passDay 21 = .ok (.if_icmp .eq 24, 3) := by decide +kernel
theorem dX3_passDay_24 : decode cX3_passDay 24 = .ok (.iload 4, 2) := by decide +kernel
theorem dX3_passDay_26 : decode cX3_passDay 26 = .ok (.iconst 3, 1) := by decide +kernel
theorem dX3_passDay_27 : decode cX3_passDay 27 = .ok (.if_icmp .ne 7, 3) := by decide +kernel
theorem dX3_passDay_30 : decode cX3_passDay 30 = .ok (.iconst 1, 1) := by decide +kernel
theorem dX3_passDay_31 : decode cX3_passDay 31 = .ok (.goto 4, 3) := by decide +kernel
theorem dX3_passDay_34 : decode cX3_passDay 34 = .ok (.iconst 0, 1) := by decide +kernel
theorem dX3_passDay_35 : decode cX3_passDay 35 = .ok (.iload_n 2, 1) := by decide +kernel
theorem dX3_passDay_36 : decode cX3_passDay 36 = .ok (.if_icmp .eq 9, 3) := by decide +kernel
theorem dX3_passDay_39 : decode cX3_passDay 39 = .ok (.aload_n 0, 1) := by decide +kernel
theorem dX3_passDay_40 : decode cX3_passDay 40 = .ok (.aload_n 1, 1) := by decide +kernel
theorem dX3_passDay_41 : decode cX3_passDay 41 = .ok (.iload_n 3, 1) := by decide +kernel
theorem dX3_passDay_42 : decode cX3_passDay 42 = .ok (.invokevirtual 33, 3) := by decide +kernel
theorem dX3_passDay_45 : decode cX3_passDay 45 = .ok (.iinc 3 1, 3) := by decide +kernel
theorem dX3_passDay_48 : decode cX3_passDay 48 = .ok (.goto (-46), 3) := by decide +kernel
theorem dX3_passDay_51 : decode cX3_passDay 51 = .ok (.aload_n 0, 1) := by decide +kernel
theorem dX3_passDay_52 : decode cX3_passDay 52 = .ok (.iload_n 2, 1) := by decide +kernel
theorem dX3_passDay_53 : decode cX3_passDay 53 = .ok (.ifCond .eq 7, 3) := by decide +kernel
theorem dX3_passDay_56 : decode cX3_passDay 56 = .ok (.iconst 0, 1) := by decide +kernel
theorem dX3_passDay_57 : decode cX3_passDay 57 = .ok (.goto 14, 3) := by decide +kernel
theorem dX3_passDay_60 : decode cX3_passDay 60 = .ok (.aload_n 0, 1) := by decide +kernel
theorem dX3_passDay_61 : decode cX3_passDay 61 = .ok (.getfield 18, 3) := by decide +kernel
theorem dX3_passDay_64 : decode cX3_passDay 64 = .ok (.iconst 1, 1) := by decide +kernel
theorem dX3_passDay_65 : decode cX3_passDay 65 = .ok (.iadd, 1) := by decide +kernel
theorem dX3_passDay_66 : decode cX3_passDay 66 = .ok (.bipush 30, 2) := by decide +kernel
theorem dX3_passDay_68 : decode cX3_passDay 68 = .ok (.invokestatic 43, 3) := by decide +kernel
theorem dX3_passDay_71 : decode cX3_passDay 71 = .ok (.putfield 18, 3) := by decide +kernel
theorem dX3_passDay_74 : decode cX3_passDay 74 = .ok (.iload_n 2, 1) := by decide +kernel
theorem dX3_passDay_75 : decode cX3_passDay 75 = .ok (.ifCond .ne 19, 3) := by decide +kernel
theorem dX3_passDay_78 : decode cX3_passDay 78 = .ok (.aload_n 0, 1) := by decide +kernel
theorem dX3_passDay_79 : decode cX3_passDay 79 = .ok (.getfield 18, 3) := by decide +kernel
theorem dX3_passDay_82 : decode cX3_passDay 82 = .ok (.aload_n 1, 1) := by decide +kernel
theorem dX3_passDay_83 : decode cX3_passDay 83 = .ok (.getfield 49, 3) := by decide +kernel
theorem dX3_passDay_86 : decode cX3_passDay 86 = .ok (.if_icmp .lt 8, 3) := by decide +kernel
theorem dX3_passDay_89 : decode cX3_passDay 89 = .ok (.aload_n 0, 1) := by decide +kernel
theorem dX3_passDay_90 : decode cX3_passDay 90 = .ok (.aload_n 1, 1) := by decide +kernel
theorem dX3_passDay_91 : decode cX3_passDay 91 = .ok (.invokevirtual 52, 3) := by decide +kernel
theorem dX3_passDay_94 : decode cX3_passDay 94 = .ok (.iconst 0, 1) := by decide +kernel
theorem dX3_passDay_95 : decode cX3_passDay 95 = .ok (.istore_n 3, 1) := by decide +kernel
theorem dX3_passDay_96 : decode cX3_passDay 96 = .ok (.iload_n 3, 1) := by decide +kernel
theorem dX3_passDay_97 : decode cX3_passDay 97 = .ok (.aload_n 1, 1) := by decide +kernel
theorem dX3_passDay_98 : decode cX3_passDay 98 = .ok (.getfield 55, 3) := by decide +kernel
theorem dX3_passDay_101 : decode cX3_passDay 101 = .ok (.if_icmp .ge 25, 3) := by decide +kernel
theorem dX3_passDay_104 : decode cX3_passDay 104 = .ok (.aload_n 1, 1) := by decide +kernel
theorem dX3_passDay_105 : decode cX3_passDay 105 = .ok (.getfield 58, 3) := by decide +kernel
theorem dX3_passDay_108 : decode cX3_passDay 108 = .ok (.iload_n 3, 1) := by decide +kernel
theorem dX3_passDay_109 : decode cX3_passDay 109 = .ok (.iaload, 1) := by decide +kernel
theorem dX3_passDay_110 : decode cX3_passDay 110 = .ok (.iconst 2, 1) := by decide +kernel
theorem dX3_passDay_111 : decode cX3_passDay 111 = .ok (.if_icmp .ne 9, 3) := by decide +kernel
theorem dX3_passDay_114 : decode cX3_passDay 114 = .ok (.aload_n 0, 1) := by decide +kernel
theorem dX3_passDay_115 : decode cX3_passDay 115 = .ok (.aload_n 1, 1) := by decide +kernel
theorem dX3_passDay_116 : decode cX3_passDay 116 = .ok (.iload_n 3, 1) := by decide +kernel
theorem dX3_passDay_117 : decode cX3_passDay 117 = .ok (.invokevirtual 61, 3) := by decide +kernel
theorem dX3_passDay_120 : decode cX3_passDay 120 = .ok (.iinc 3 1, 3) := by decide +kernel
theorem dX3_passDay_123 : decode cX3_passDay 123 = .ok (.goto (-27), 3) := by decide +kernel
theorem dX3_passDay_126 : decode cX3_passDay 126 = .ok (.return_, 1) := by decide +kernel
theorem dX3_takeTitle_0 : decode cX3_takeTitle 0 = .ok (.aload_n 0, 1) := by decide +kernel
theorem dX3_takeTitle_1 : decode cX3_takeTitle 1 = .ok (.getfield 9, 3) := by decide +kernel
theorem dX3_takeTitle_4 : decode cX3_takeTitle 4 = .ok (.iload_n 2, 1) := by decide +kernel
theorem dX3_takeTitle_5 : decode cX3_takeTitle 5 = .ok (.iaload, 1) := by decide +kernel
theorem dX3_takeTitle_6 : decode cX3_takeTitle 6 = .ok (.istore_n 3, 1) := by decide +kernel
theorem dX3_takeTitle_7 : decode cX3_takeTitle 7 = .ok (.iload_n 3, 1) := by decide +kernel
theorem dX3_takeTitle_8 : decode cX3_takeTitle 8 = .ok (.ifCond .lt 20, 3) := by decide +kernel
theorem dX3_takeTitle_11 : decode cX3_takeTitle 11 = .ok (.aload_n 1, 1) := by decide +kernel
theorem dX3_takeTitle_12 : decode cX3_takeTitle 12 = .ok (.getfield 58, 3) := by decide +kernel
theorem dX3_takeTitle_15 : decode cX3_takeTitle 15 = .ok (.iload_n 3, 1) := by decide +kernel
theorem dX3_takeTitle_16 : decode cX3_takeTitle 16 = .ok (.iaload, 1) := by decide +kernel
theorem dX3_takeTitle_17 : decode cX3_takeTitle 17 = .ok (.iconst 1, 1) := by decide +kernel
theorem dX3_takeTitle_18 : decode cX3_takeTitle 18 = .ok (.if_icmp .eq 10, 3) := by decide +kernel
theorem dX3_takeTitle_21 : decode cX3_takeTitle 21 = .ok (.aload_n 0, 1) := by decide +kernel
theorem dX3_takeTitle_22 : decode cX3_takeTitle 22 = .ok (.getfield 15, 3) := by decide +kernel
theorem dX3_takeTitle_25 : decode cX3_takeTitle 25 = .ok (.iload_n 2, 1) := by decide +kernel
theorem dX3_takeTitle_26 : decode cX3_takeTitle 26 = .ok (.iload_n 3, 1) := by decide +kernel
theorem dX3_takeTitle_27 : decode cX3_takeTitle 27 = .ok (.iastore, 1) := by decide +kernel
theorem dX3_takeTitle_28 : decode cX3_takeTitle 28 = .ok (.return_, 1) := by decide +kernel
theorem dX3_lapse_0 : decode cX3_lapse 0 = .ok (.iconst 0, 1) := by decide +kernel
theorem dX3_lapse_1 : decode cX3_lapse 1 = .ok (.istore_n 2, 1) := by decide +kernel
theorem dX3_lapse_2 : decode cX3_lapse 2 = .ok (.iload_n 2, 1) := by decide +kernel
theorem dX3_lapse_3 : decode cX3_lapse 3 = .ok (.aload_n 1, 1) := by decide +kernel
theorem dX3_lapse_4 : decode cX3_lapse 4 = .ok (.getfield 22, 3) := by decide +kernel
theorem dX3_lapse_7 : decode cX3_lapse 7 = .ok (.if_icmp .ge 26, 3) := by decide +kernel
theorem dX3_lapse_10 : decode cX3_lapse 10 = .ok (.aload_n 1, 1) := by decide +kernel
theorem dX3_lapse_11 : decode cX3_lapse 11 = .ok (.getfield 30, 3) := by decide +kernel
theorem dX3_lapse_14 : decode cX3_lapse 14 = .ok (.iload_n 2, 1) := by decide +kernel
theorem dX3_lapse_15 : decode cX3_lapse 15 = .ok (.iaload, 1) := by decide +kernel
theorem dX3_lapse_16 : decode cX3_lapse 16 = .ok (.ifCond .eq 11, 3) := by decide +kernel
theorem dX3_lapse_19 : decode cX3_lapse 19 = .ok (.aload_n 0, 1) := by decide +kernel
theorem dX3_lapse_20 : decode cX3_lapse 20 = .ok (.getfield 15, 3) := by decide +kernel
theorem dX3_lapse_23 : decode cX3_lapse 23 = .ok (.iload_n 2, 1) := by decide +kernel
theorem dX3_lapse_24 : decode cX3_lapse 24 = .ok (.bipush (-2), 2) := by decide +kernel
theorem dX3_lapse_26 : decode cX3_lapse 26 = .ok (.iastore, 1) := by decide +kernel
theorem dX3_lapse_27 : decode cX3_lapse 27 = .ok (.iinc 2 1, 3) := by decide +kernel
theorem dX3_lapse_30 : decode cX3_lapse 30 = .ok (.goto (-28), 3) := by decide +kernel
theorem dX3_lapse_33 : decode cX3_lapse 33 = .ok (.return_, 1) := by decide +kernel
theorem dX3_forgetOne_0 : decode cX3_forgetOne 0 = .ok (.iconst 0, 1) := by decide +kernel
theorem dX3_forgetOne_1 : decode cX3_forgetOne 1 = .ok (.istore_n 3, 1) := by decide +kernel
theorem dX3_forgetOne_2 : decode cX3_forgetOne 2 = .ok (.iconst (-1), 1) := by decide +kernel
theorem dX3_forgetOne_3 : decode cX3_forgetOne 3 = .ok (.istore 4, 2) := by decide +kernel
theorem dX3_forgetOne_5 : decode cX3_forgetOne 5 = .ok (.iconst 0, 1) := by decide +kernel
theorem dX3_forgetOne_6 : decode cX3_forgetOne 6 = .ok (.istore 5, 2) := by decide +kernel
theorem dX3_forgetOne_8 : decode cX3_forgetOne 8 = .ok (.iload 5, 2) := by decide +kernel
theorem dX3_forgetOne_10 : decode cX3_forgetOne 10 = .ok (.aload_n 1, 1) := by decide +kernel
theorem dX3_forgetOne_11 : decode cX3_forgetOne 11 = .ok (.getfield 22, 3) := by decide +kernel
theorem dX3_forgetOne_14 : decode cX3_forgetOne 14 = .ok (.if_icmp .ge 55, 3) := by decide +kernel
theorem dX3_forgetOne_17 : decode cX3_forgetOne 17 = .ok (.aload_n 0, 1) := by decide +kernel
theorem dX3_forgetOne_18 : decode cX3_forgetOne 18 = .ok (.getfield 9, 3) := by decide +kernel
theorem dX3_forgetOne_21 : decode cX3_forgetOne 21 = .ok (.iload 5, 2) := by decide +kernel
theorem dX3_forgetOne_23 : decode cX3_forgetOne 23 = .ok (.iaload, 1) := by decide +kernel
theorem dX3_forgetOne_24 : decode cX3_forgetOne 24 = .ok (.iload_n 2, 1) := by decide +kernel
theorem dX3_forgetOne_25 : decode cX3_forgetOne 25 = .ok (.if_icmp .ne 38, 3) := by decide +kernel
theorem dX3_forgetOne_28 : decode cX3_forgetOne 28 = .ok (.iinc 3 1, 3) := by decide +kernel
theorem dX3_forgetOne_31 : decode cX3_forgetOne 31 = .ok (.iload 4, 2) := by decide +kernel
theorem dX3_forgetOne_33 : decode cX3_forgetOne 33 = .ok (.iconst (-1), 1) := by decide +kernel
theorem dX3_forgetOne_34 : decode cX3_forgetOne 34 = .ok (.if_icmp .eq 20, 3) := by decide +kernel
theorem dX3_forgetOne_37 : decode cX3_forgetOne 37 = .ok (.aload_n 1, 1) := by decide +kernel
theorem dX3_forgetOne_38 : decode cX3_forgetOne 38 = .ok (.getfield 64, 3) := by decide +kernel
theorem dX3_forgetOne_41 : decode cX3_forgetOne 41 = .ok (.iload 5, 2) := by decide +kernel
theorem dX3_forgetOne_43 : decode cX3_forgetOne 43 = .ok (.iaload, 1) := by decide +kernel
theorem dX3_forgetOne_44 : decode cX3_forgetOne 44 = .ok (.aload_n 1, 1) := by decide +kernel
theorem dX3_forgetOne_45 : decode cX3_forgetOne 45 = .ok (.getfield 64, 3) := by decide +kernel
theorem dX3_forgetOne_48 : decode cX3_forgetOne 48 = .ok (.iload 4, 2) := by decide +kernel
theorem dX3_forgetOne_50 : decode cX3_forgetOne 50 = .ok (.iaload, 1) := by decide +kernel
theorem dX3_forgetOne_51 : decode cX3_forgetOne 51 = .ok (.if_icmp .ge 8, 3) := by decide +kernel
theorem dX3_forgetOne_54 : decode cX3_forgetOne 54 = .ok (.iload 5, 2) := by decide +kernel
theorem dX3_forgetOne_56 : decode cX3_forgetOne 56 = .ok (.goto 5, 3) := by decide +kernel
theorem dX3_forgetOne_59 : decode cX3_forgetOne 59 = .ok (.iload 4, 2) := by decide +kernel
theorem dX3_forgetOne_61 : decode cX3_forgetOne 61 = .ok (.istore 4, 2) := by decide +kernel
theorem dX3_forgetOne_63 : decode cX3_forgetOne 63 = .ok (.iinc 5 1, 3) := by decide +kernel
theorem dX3_forgetOne_66 : decode cX3_forgetOne 66 = .ok (.goto (-58), 3) := by decide +kernel
theorem dX3_forgetOne_69 : decode cX3_forgetOne 69 = .ok (.iload_n 3, 1) := by decide +kernel
theorem dX3_forgetOne_70 : decode cX3_forgetOne 70 = .ok (.iconst 1, 1) := by decide +kernel
theorem dX3_forgetOne_71 : decode cX3_forgetOne 71 = .ok (.if_icmp .le 17, 3) := by decide +kernel
theorem dX3_forgetOne_74 : decode cX3_forgetOne 74 = .ok (.iload 4, 2) := by decide +kernel
theorem dX3_forgetOne_76 : decode cX3_forgetOne 76 = .ok (.ifCond .lt 12, 3) := by decide +kernel
theorem dX3_forgetOne_79 : decode cX3_forgetOne 79 = .ok (.aload_n 0, 1) := by decide +kernel
theorem dX3_forgetOne_80 : decode cX3_forgetOne 80 = .ok (.getfield 9, 3) := by decide +kernel
theorem dX3_forgetOne_83 : decode cX3_forgetOne 83 = .ok (.iload 4, 2) := by decide +kernel
theorem dX3_forgetOne_85 : decode cX3_forgetOne 85 = .ok (.bipush (-2), 2) := by decide +kernel
theorem dX3_forgetOne_87 : decode cX3_forgetOne 87 = .ok (.iastore, 1) := by decide +kernel
theorem dX3_forgetOne_88 : decode cX3_forgetOne 88 = .ok (.return_, 1) := by decide +kernel
theorem dX3_heldBy_0 : decode cX3_heldBy 0 = .ok (.iconst 0, 1) := by decide +kernel
theorem dX3_heldBy_1 : decode cX3_heldBy 1 = .ok (.istore_n 3, 1) := by decide +kernel
theorem dX3_heldBy_2 : decode cX3_heldBy 2 = .ok (.iconst 0, 1) := by decide +kernel
theorem dX3_heldBy_3 : decode cX3_heldBy 3 = .ok (.istore 4, 2) := by decide +kernel
theorem dX3_heldBy_5 : decode cX3_heldBy 5 = .ok (.iload 4, 2) := by decide +kernel
theorem dX3_heldBy_7 : decode cX3_heldBy 7 = .ok (.aload_n 1, 1) := by decide +kernel
theorem dX3_heldBy_8 : decode cX3_heldBy 8 = .ok (.getfield 22, 3) := by decide +kernel
theorem dX3_heldBy_11 : decode cX3_heldBy 11 = .ok (.if_icmp .ge 31, 3) := by decide +kernel
theorem dX3_heldBy_14 : decode cX3_heldBy 14 = .ok (.iload_n 3, 1) := by decide +kernel
theorem dX3_heldBy_15 : decode cX3_heldBy 15 = .ok (.aload_n 0, 1) := by decide +kernel
theorem dX3_heldBy_16 : decode cX3_heldBy 16 = .ok (.getfield 9, 3) := by decide +kernel
theorem dX3_heldBy_19 : decode cX3_heldBy 19 = .ok (.iload 4, 2) := by decide +kernel
theorem dX3_heldBy_21 : decode cX3_heldBy 21 = .ok (.iaload, 1) := by decide +kernel
theorem dX3_heldBy_22 : decode cX3_heldBy 22 = .ok (.iload_n 2, 1) := by decide +kernel
theorem dX3_heldBy_23 : decode cX3_heldBy 23 = .ok (.if_icmp .ne 10, 3) := by decide +kernel
theorem dX3_heldBy_26 : decode cX3_heldBy 26 = .ok (.iconst 1, 1) := by decide +kernel
theorem dX3_heldBy_27 : decode cX3_heldBy 27 = .ok (.iload 4, 2) := by decide +kernel
theorem dX3_heldBy_29 : decode cX3_heldBy 29 = .ok (.ishl, 1) := by decide +kernel
theorem dX3_heldBy_30 : decode cX3_heldBy 30 = .ok (.goto 4, 3) := by decide +kernel
theorem dX3_heldBy_33 : decode cX3_heldBy 33 = .ok (.iconst 0, 1) := by decide +kernel
theorem dX3_heldBy_34 : decode cX3_heldBy 34 = .ok (.ior, 1) := by decide +kernel
theorem dX3_heldBy_35 : decode cX3_heldBy 35 = .ok (.istore_n 3, 1) := by decide +kernel
theorem dX3_heldBy_36 : decode cX3_heldBy 36 = .ok (.iinc 4 1, 3) := by decide +kernel
theorem dX3_heldBy_39 : decode cX3_heldBy 39 = .ok (.goto (-34), 3) := by decide +kernel
theorem dX3_heldBy_42 : decode cX3_heldBy 42 = .ok (.iload_n 3, 1) := by decide +kernel
theorem dX3_heldBy_43 : decode cX3_heldBy 43 = .ok (.ireturn, 1) := by decide +kernel
theorem dX3_landsFor_0 : decode cX3_landsFor 0 = .ok (.iconst 0, 1) := by decide +kernel
theorem dX3_landsFor_1 : decode cX3_landsFor 1 = .ok (.istore_n 3, 1) := by decide +kernel
theorem dX3_landsFor_2 : decode cX3_landsFor 2 = .ok (.iconst 0, 1) := by decide +kernel
theorem dX3_landsFor_3 : decode cX3_landsFor 3 = .ok (.istore 4, 2) := by decide +kernel
theorem dX3_landsFor_5 : decode cX3_landsFor 5 = .ok (.iload 4, 2) := by decide +kernel
theorem dX3_landsFor_7 : decode cX3_landsFor 7 = .ok (.aload_n 1, 1) := by decide +kernel
theorem dX3_landsFor_8 : decode cX3_landsFor 8 = .ok (.getfield 22, 3) := by decide +kernel
theorem dX3_landsFor_11 : decode cX3_landsFor 11 = .ok (.if_icmp .ge 34, 3) := by decide +kernel
theorem dX3_landsFor_14 : decode cX3_landsFor 14 = .ok (.iload_n 3, 1) := by decide +kernel
theorem dX3_landsFor_15 : decode cX3_landsFor 15 = .ok (.aload_n 0, 1) := by decide +kernel
theorem dX3_landsFor_16 : decode cX3_landsFor 16 = .ok (.getfield 15, 3) := by decide +kernel
theorem dX3_landsFor_19 : decode cX3_landsFor 19 = .ok (.iload 4, 2) := by decide +kernel
theorem dX3_landsFor_21 : decode cX3_landsFor 21 = .ok (.iaload, 1) := by decide +kernel
theorem dX3_landsFor_22 : decode cX3_landsFor 22 = .ok (.iload_n 2, 1) := by decide +kernel
theorem dX3_landsFor_23 : decode cX3_landsFor 23 = .ok (.if_icmp .ne 13, 3) := by decide +kernel
theorem dX3_landsFor_26 : decode cX3_landsFor 26 = .ok (.aload_n 1, 1) := by decide +kernel
theorem dX3_landsFor_27 : decode cX3_landsFor 27 = .ok (.getfield 64, 3) := by decide +kernel
theorem dX3_landsFor_30 : decode cX3_landsFor 30 = .ok (.iload 4, 2) := by decide +kernel
theorem dX3_landsFor_32 : decode cX3_landsFor 32 = .ok (.iaload, 1) := by decide +kernel
theorem dX3_landsFor_33 : decode cX3_landsFor 33 = .ok (.goto 4, 3) := by decide +kernel
theorem dX3_landsFor_36 : decode cX3_landsFor 36 = .ok (.iconst 0, 1) := by decide +kernel
theorem dX3_landsFor_37 : decode cX3_landsFor 37 = .ok (.iadd, 1) := by decide +kernel
theorem dX3_landsFor_38 : decode cX3_landsFor 38 = .ok (.istore_n 3, 1) := by decide +kernel
theorem dX3_landsFor_39 : decode cX3_landsFor 39 = .ok (.iinc 4 1, 3) := by decide +kernel
theorem dX3_landsFor_42 : decode cX3_landsFor 42 = .ok (.goto (-37), 3) := by decide +kernel
theorem dX3_landsFor_45 : decode cX3_landsFor 45 = .ok (.iload_n 3, 1) := by decide +kernel
theorem dX3_landsFor_46 : decode cX3_landsFor 46 = .ok (.ireturn, 1) := by decide +kernel
theorem dX3_rightOnes_0 : decode cX3_rightOnes 0 = .ok (.iconst 0, 1) := by decide +kernel
theorem dX3_rightOnes_1 : decode cX3_rightOnes 1 = .ok (.istore_n 2, 1) := by decide +kernel
theorem dX3_rightOnes_2 : decode cX3_rightOnes 2 = .ok (.iconst 0, 1) := by decide +kernel
theorem dX3_rightOnes_3 : decode cX3_rightOnes 3 = .ok (.istore_n 3, 1) := by decide +kernel
theorem dX3_rightOnes_4 : decode cX3_rightOnes 4 = .ok (.iload_n 3, 1) := by decide +kernel
theorem dX3_rightOnes_5 : decode cX3_rightOnes 5 = .ok (.aload_n 1, 1) := by decide +kernel
theorem dX3_rightOnes_6 : decode cX3_rightOnes 6 = .ok (.getfield 22, 3) := by decide +kernel
theorem dX3_rightOnes_9 : decode cX3_rightOnes 9 = .ok (.if_icmp .ge 45, 3) := by decide +kernel
theorem dX3_rightOnes_12 : decode cX3_rightOnes 12 = .ok (.iload_n 2, 1) := by decide +kernel
theorem dX3_rightOnes_13 : decode cX3_rightOnes 13 = .ok (.aload_n 0, 1) := by decide +kernel
theorem dX3_rightOnes_14 : decode cX3_rightOnes 14 = .ok (.getfield 15, 3) := by decide +kernel
theorem dX3_rightOnes_17 : decode cX3_rightOnes 17 = .ok (.iload_n 3, 1) := by decide +kernel
theorem dX3_rightOnes_18 : decode cX3_rightOnes 18 = .ok (.iaload, 1) := by decide +kernel
theorem dX3_rightOnes_19 : decode cX3_rightOnes 19 = .ok (.bipush (-2), 2) := by decide +kernel
theorem dX3_rightOnes_21 : decode cX3_rightOnes 21 = .ok (.if_icmp .eq 24, 3) := by decide +kernel
theorem dX3_rightOnes_24 : decode cX3_rightOnes 24 = .ok (.aload_n 0, 1) := by decide +kernel
theorem dX3_rightOnes_25 : decode cX3_rightOnes 25 = .ok (.getfield 15, 3) := by decide +kernel
theorem dX3_rightOnes_28 : decode cX3_rightOnes 28 = .ok (.iload_n 3, 1) := by decide +kernel
theorem dX3_rightOnes_29 : decode cX3_rightOnes 29 = .ok (.iaload, 1) := by decide +kernel
theorem dX3_rightOnes_30 : decode cX3_rightOnes 30 = .ok (.aload_n 0, 1) := by decide +kernel
theorem dX3_rightOnes_31 : decode cX3_rightOnes 31 = .ok (.getfield 9, 3) := by decide +kernel
theorem dX3_rightOnes_34 : decode cX3_rightOnes 34 = .ok (.iload_n 3, 1) := by decide +kernel
theorem dX3_rightOnes_35 : decode cX3_rightOnes 35 = .ok (.iaload, 1) := by decide +kernel
theorem dX3_rightOnes_36 : decode cX3_rightOnes 36 = .ok (.if_icmp .ne 9, 3) := by decide +kernel
theorem dX3_rightOnes_39 : decode cX3_rightOnes 39 = .ok (.iconst 1, 1) := by decide +kernel
theorem dX3_rightOnes_40 : decode cX3_rightOnes 40 = .ok (.iload_n 3, 1) := by decide +kernel
theorem dX3_rightOnes_41 : decode cX3_rightOnes 41 = .ok (.ishl, 1) := by decide +kernel
theorem dX3_rightOnes_42 : decode cX3_rightOnes 42 = .ok (.goto 4, 3) := by decide +kernel
theorem dX3_rightOnes_45 : decode cX3_rightOnes 45 = .ok (.iconst 0, 1) := by decide +kernel
theorem dX3_rightOnes_46 : decode cX3_rightOnes 46 = .ok (.ior, 1) := by decide +kernel
theorem dX3_rightOnes_47 : decode cX3_rightOnes 47 = .ok (.istore_n 2, 1) := by decide +kernel
theorem dX3_rightOnes_48 : decode cX3_rightOnes 48 = .ok (.iinc 3 1, 3) := by decide +kernel
theorem dX3_rightOnes_51 : decode cX3_rightOnes 51 = .ok (.goto (-47), 3) := by decide +kernel
theorem dX3_rightOnes_54 : decode cX3_rightOnes 54 = .ok (.iload_n 2, 1) := by decide +kernel
theorem dX3_rightOnes_55 : decode cX3_rightOnes 55 = .ok (.ireturn, 1) := by decide +kernel
theorem dX4_init_0 : decode cX4_init 0 = .ok (.aload_n 0, 1) := by decide +kernel
theorem dX4_init_1 : decode cX4_init 1 = .ok (.invokespecial 3, 3) := by decide +kernel
theorem dX4_init_4 : decode cX4_init 4 = .ok (.aload_n 0, 1) := by decide +kernel
theorem dX4_init_5 : decode cX4_init 5 = .ok (.iconst 3, 1) := by decide +kernel
theorem dX4_init_6 : decode cX4_init 6 = .ok (.newarray .int, 2) := by decide +kernel
theorem dX4_init_8 : decode cX4_init 8 = .ok (.putfield 9, 3) := by decide +kernel
theorem dX4_init_11 : decode cX4_init 11 = .ok (.aload_n 0, 1) := by decide +kernel
theorem dX4_init_12 : decode cX4_init 12 = .ok (.iconst 3, 1) := by decide +kernel
theorem dX4_init_13 : decode cX4_init 13 = .ok (.newarray .int, 2) := by decide +kernel
theorem dX4_init_15 : decode cX4_init 15 = .ok (.putfield 15, 3) := by decide +kernel
theorem dX4_init_18 : decode cX4_init 18 = .ok (.aload_n 0, 1) := by decide +kernel
theorem dX4_init_19 : decode cX4_init 19 = .ok (.iconst 0, 1) := by decide +kernel
theorem dX4_init_20 : decode cX4_init 20 = .ok (.putfield 18, 3) := by decide +kernel
theorem dX4_init_23 : decode cX4_init 23 = .ok (.aload_n 0, 1) := by decide +kernel
theorem dX4_init_24 : decode cX4_init 24 = .ok (.iconst 0, 1) := by decide +kernel
theorem dX4_init_25 : decode cX4_init 25 = .ok (.putfield 22, 3) := by decide +kernel
theorem dX4_init_28 : decode cX4_init 28 = .ok (.return_, 1) := by decide +kernel
theorem dX4_search_0 : decode cX4_search 0 = .ok (.aload_n 0, 1) := by decide +kernel
theorem dX4_search_1 : decode cX4_search 1 = .ok (.iconst 0, 1) := by decide +kernel
theorem dX4_search_2 : decode cX4_search 2 = .ok (.putfield 18, 3) := by decide +kernel
theorem dX4_search_5 : decode cX4_search 5 = .ok (.aload_n 0, 1) := by decide +kernel
theorem dX4_search_6 : decode cX4_search 6 = .ok (.aload_n 2, 1) := by decide +kernel
theorem dX4_search_7 : decode cX4_search 7 = .ok (.aload_n 1, 1) := by decide +kernel
theorem dX4_search_8 : decode cX4_search 8 = .ok (.invokevirtual 25, 3) := by decide +kernel
theorem dX4_search_11 : decode cX4_search 11 = .ok (.invokestatic 31, 3) := by decide +kernel
theorem dX4_search_14 : decode cX4_search 14 = .ok (.putfield 22, 3) := by decide +kernel
theorem dX4_search_17 : decode cX4_search 17 = .ok (.iconst 1, 1) := by decide +kernel
theorem dX4_search_18 : decode cX4_search 18 = .ok (.istore_n 3, 1) := by decide +kernel
theorem dX4_search_19 : decode cX4_search 19 = .ok (.iload_n 3, 1) := by decide +kernel
theorem dX4_search_20 : decode cX4_search 20 = .ok (.iconst 3, 1) := by decide +kernel
theorem dX4_search_21 : decode cX4_search 21 = .ok (.if_icmp .gt 17, 3) := by decide +kernel
theorem dX4_search_24 : decode cX4_search 24 = .ok (.aload_n 0, 1) := by decide +kernel
theorem dX4_search_25 : decode cX4_search 25 = .ok (.aload_n 1, 1) := by decide +kernel
theorem dX4_search_26 : decode cX4_search 26 = .ok (.aload_n 2, 1) := by decide +kernel
theorem dX4_search_27 : decode cX4_search 27 = .ok (.iconst 0, 1) := by decide +kernel
theorem dX4_search_28 : decode cX4_search 28 = .ok (.iload_n 3, 1) := by decide +kernel
theorem dX4_search_29 : decode cX4_search 29 = .ok (.invokevirtual 37, 3) := by decide +kernel
theorem dX4_search_32 : decode cX4_search 32 = .ok (.iinc 3 1, 3) := by decide +kernel
theorem dX4_search_35 : decode cX4_search 35 = .ok (.goto (-16), 3) := by decide +kernel
theorem dX4_search_38 : decode cX4_search 38 = .ok (.return_, 1) := by decide +kernel
theorem dX4_extend_0 : decode cX4_extend 0 = .ok (.aload_n 2, 1) := by decide +kernel
theorem dX4_extend_1 : decode cX4_extend 1 = .ok (.aload_n 1, 1) := by decide +kernel
theorem dX4_extend_2 : decode cX4_extend 2 = .ok (.invokevirtual 25, 3) := by decide +kernel
theorem dX4_extend_5 : decode cX4_extend 5 = .ok (.invokestatic 31, 3) := by decide +kernel
theorem dX4_extend_8 : decode cX4_extend 8 = .ok (.istore 5, 2) := by decide +kernel
theorem dX4_extend_10 : decode cX4_extend 10 = .ok (.iload 5, 2) := by decide +kernel
theorem dX4_extend_12 : decode cX4_extend 12 = .ok (.iconst 2, 1) := by decide +kernel
theorem dX4_extend_13 : decode cX4_extend 13 = .ok (.iload 4, 2) := by decide +kernel
theorem dX4_extend_15 : decode cX4_extend 15 = .ok (.iload_n 3, 1) := by decide +kernel
theorem dX4_extend_16 : decode cX4_extend 16 = .ok (.isub, 1) := by decide +kernel
theorem dX4_extend_17 : decode cX4_extend 17 = .ok (.imul, 1) := by decide +kernel
theorem dX4_extend_18 : decode cX4_extend 18 = .ok (.iadd, 1) := by decide +kernel
theorem dX4_extend_19 : decode cX4_extend 19 = .ok (.aload_n 0, 1) := by decide +kernel
theorem dX4_extend_20 : decode cX4_extend 20 = .ok (.getfield 22, 3) := by decide +kernel
theorem dX4_extend_23 : decode cX4_extend 23 = .ok (.if_icmp .gt 4, 3) := by decide +kernel
theorem dX4_extend_26 : decode cX4_extend 26 = .ok (.return_, 1) := by decide +kernel
theorem dX4_extend_27 : decode cX4_extend 27 = .ok (.iload_n 3, 1) := by decide +kernel
theorem dX4_extend_28 : decode cX4_extend 28 = .ok (.iload 4, 2) := by decide +kernel
theorem dX4_extend_30 : decode cX4_extend 30 = .ok (.if_icmp .ge 8, 3) := by decide +kernel
theorem dX4_extend_33 : decode cX4_extend 33 = .ok (.iload_n 3, 1) := by decide +kernel
theorem dX4_extend_34 : decode cX4_extend 34 = .ok (.iconst 3, 1) := by decide +kernel
theorem dX4_extend_35 : decode cX4_extend 35 = .ok (.if_icmp .lt 30, 3) := by decide +kernel
theorem dX4_extend_38 : decode cX4_extend 38 = .ok (.aload_n 0, 1) := by decide +kernel
theorem dX4_extend_39 : decode cX4_extend 39 = .ok (.iload 5, 2) := by decide +kernel
theorem dX4_extend_41 : decode cX4_extend 41 = .ok (.putfield 22, 3) := by decide +kernel
theorem dX4_extend_44 : decode cX4_extend 44 = .ok (.aload_n 0, 1) := by decide +kernel
theorem dX4_extend_45 : decode cX4_extend 45 = .ok (.iload 4, 2) := by decide +kernel
theorem dX4_extend_47 : decode cX4_extend 47 = .ok (.putfield 18, 3) := by decide +kernel
theorem dX4_extend_50 : decode cX4_extend 50 = .ok (.aload_n 0, 1) := by decide +kernel
theorem dX4_extend_51 : decode cX4_extend 51 = .ok (.getfield 9, 3) := by decide +kernel
theorem dX4_extend_54 : decode cX4_extend 54 = .ok (.iconst 0, 1) := by decide +kernel
theorem dX4_extend_55 : decode cX4_extend 55 = .ok (.aload_n 0, 1) := by decide +kernel
theorem dX4_extend_56 : decode cX4_extend 56 = .ok (.getfield 15, 3) := by decide +kernel
theorem dX4_extend_59 : decode cX4_extend 59 = .ok (.iconst 0, 1) := by decide +kernel
theorem dX4_extend_60 : decode cX4_extend 60 = .ok (.iconst 3, 1) := by decide +kernel
theorem dX4_extend_61 : decode cX4_extend 61 = .ok (.invokestatic 41, 3) := by decide +kernel
theorem dX4_extend_64 : decode cX4_extend 64 = .ok (.return_, 1) := by decide +kernel
theorem dX4_extend_65 : decode cX4_extend 65 = .ok (.iconst 0, 1) := by decide +kernel
theorem dX4_extend_66 : decode cX4_extend 66 = .ok (.istore 6, 2) := by decide +kernel
theorem dX4_extend_68 : decode cX4_extend 68 = .ok (.iload 6, 2) := by decide +kernel
theorem dX4_extend_70 : decode cX4_extend 70 = .ok (.aload_n 1, 1) := by decide +kernel
theorem dX4_extend_71 : decode cX4_extend 71 = .ok (.getfield 47, 3) := by decide +kernel
theorem dX4_extend_74 : decode cX4_extend 74 = .ok (.if_icmp .ge 88, 3) := by decide +kernel
theorem dX4_extend_77 : decode cX4_extend 77 = .ok (.iload 6, 2) := by decide +kernel
theorem dX4_extend_79 : decode cX4_extend 79 = .ok (.iconst 1, 1) := by decide +kernel
theorem dX4_extend_80 : decode cX4_extend 80 = .ok (.iadd, 1) := by decide +kernel
theorem dX4_extend_81 : decode cX4_extend 81 = .ok (.istore 7, 2) := by decide +kernel
theorem dX4_extend_83 : decode cX4_extend 83 = .ok (.iload 7, 2) := by decide +kernel
theorem dX4_extend_85 : decode cX4_extend 85 = .ok (.aload_n 1, 1) := by decide +kernel
theorem dX4_extend_86 : decode cX4_extend 86 = .ok (.getfield 47, 3) := by decide +kernel
theorem dX4_extend_89 : decode cX4_extend 89 = .ok (.if_icmp .ge 67, 3) := by decide +kernel
theorem dX4_extend_92 : decode cX4_extend 92 = .ok (.aload_n 2, 1) := by decide +kernel
theorem dX4_extend_93 : decode cX4_extend 93 = .ok (.getfield 52, 3) := by decide +kernel
theorem dX4_extend_96 : decode cX4_extend 96 = .ok (.iload 6, 2) := by decide +kernel
theorem dX4_extend_98 : decode cX4_extend 98 = .ok (.iaload, 1) := by decide +kernel
theorem dX4_extend_99 : decode cX4_extend 99 = .ok (.aload_n 2, 1) := by decide +kernel
theorem dX4_extend_100 : decode cX4_extend 100 = .ok (.getfield 52, 3) := by decide +kernel
theorem dX4_extend_103 : decode cX4_extend 103 = .ok (.iload 7, 2) := by decide +kernel
theorem dX4_extend_105 : decode cX4_extend 105 = .ok (.iaload, 1) := by decide +kernel
theorem dX4_extend_106 : decode cX4_extend 106 = .ok (.if_icmp .eq 44, 3) := by decide +kernel
theorem dX4_extend_109 : decode cX4_extend 109 = .ok (.aload_n 0, 1) := by decide +kernel
theorem dX4_extend_110 : decode cX4_extend 110 = .ok (.getfield 9, 3) := by decide +kernel
theorem dX4_extend_113 : decode cX4_extend 113 = .ok (.iload_n 3, 1) := by decide +kernel
theorem dX4_extend_114 : decode cX4_extend 114 = .ok (.bipush 10, 2) := by decide +kernel
theorem dX4_extend_116 : decode cX4_extend 116 = .ok (.iload 6, 2) := by decide +kernel
theorem dX4_extend_118 : decode cX4_extend 118 = .ok (.imul, 1) := by decide +kernel
theorem dX4_extend_119 : decode cX4_extend 119 = .ok (.iload 7, 2) := by decide +kernel
theorem dX4_extend_121 : decode cX4_extend 121 = .ok (.iadd, 1) := by decide +kernel
theorem dX4_extend_122 : decode cX4_extend 122 = .ok (.iastore, 1) := by decide +kernel
theorem dX4_extend_123 : decode cX4_extend 123 = .ok (.aload_n 2, 1) := by decide +kernel
theorem dX4_extend_124 : decode cX4_extend 124 = .ok (.iload 6, 2) := by decide +kernel
theorem dX4_extend_126 : decode cX4_extend 126 = .ok (.iload 7, 2) := by decide +kernel
theorem dX4_extend_128 : decode cX4_extend 128 = .ok (.invokevirtual 55, 3) := by decide +kernel
theorem dX4_extend_131 : decode cX4_extend 131 = .ok (.aload_n 0, 1) := by decide +kernel
theorem dX4_extend_132 : decode cX4_extend 132 = .ok (.aload_n 1, 1) := by decide +kernel
theorem dX4_extend_133 : decode cX4_extend 133 = .ok (.aload_n 2, 1) := by decide +kernel
theorem dX4_extend_134 : decode cX4_extend 134 = .ok (.iload_n 3, 1) := by decide +kernel
theorem dX4_extend_135 : decode cX4_extend 135 = .ok (.iconst 1, 1) := by decide +kernel
theorem dX4_extend_136 : decode cX4_extend 136 = .ok (.iadd, 1) := by decide +kernel
theorem dX4_extend_137 : decode cX4_extend 137 = .ok (.iload 4, 2) := by decide +kernel
theorem dX4_extend_139 : decode cX4_extend 139 = .ok (.invokevirtual 37, 3) := by decide +kernel
theorem dX4_extend_142 : decode cX4_extend 142 = .ok (.aload_n 2, 1) := by decide +kernel
theorem dX4_extend_143 : decode cX4_extend 143 = .ok (.iload 6, 2) := by decide +kernel
theorem dX4_extend_145 : decode cX4_extend 145 = .ok (.iload 7, 2) := by decide +kernel
theorem dX4_extend_147 : decode cX4_extend 147 = .ok (.invokevirtual 55, 3) := by decide +kernel
theorem dX4_extend_150 : decode cX4_extend 150 = .ok (.iinc 7 1, 3) := by decide +kernel
theorem dX4_extend_153 : decode cX4_extend 153 = .ok (.goto (-70), 3) := by decide +kernel
theorem dX4_extend_156 : decode cX4_extend 156 = .ok (.iinc 6 1, 3) := by decide +kernel
theorem dX4_extend_159 : decode cX4_extend 159 = .ok (.goto (-91), 3) := by decide +kernel
theorem dX4_extend_162 : decode cX4_extend 162 = .ok (.return_, 1) := by decide +kernel
theorem dX5_init_0 : decode cX5_init 0 = .ok (.aload_n 0, 1) := by decide +kernel
theorem dX5_init_1 : decode cX5_init 1 = .ok (.invokespecial 3, 3) := by decide +kernel
theorem dX5_init_4 : decode cX5_init 4 = .ok (.aload_n 0, 1) := by decide +kernel
theorem dX5_init_5 : decode cX5_init 5 = .ok (.iconst 0, 1) := by decide +kernel
theorem dX5_init_6 : decode cX5_init 6 = .ok (.putfield 9, 3) := by decide +kernel
theorem dX5_init_9 : decode cX5_init 9 = .ok (.aload_n 0, 1) := by decide +kernel
theorem dX5_init_10 : decode cX5_init 10 = .ok (.iconst 0, 1) := by decide +kernel
theorem dX5_init_11 : decode cX5_init 11 = .ok (.putfield 15, 3) := by decide +kernel
theorem dX5_init_14 : decode cX5_init 14 = .ok (.aload_n 0, 1) := by decide +kernel
theorem dX5_init_15 : decode cX5_init 15 = .ok (.iconst 0, 1) := by decide +kernel
theorem dX5_init_16 : decode cX5_init 16 = .ok (.putfield 18, 3) := by decide +kernel
theorem dX5_init_19 : decode cX5_init 19 = .ok (.aload_n 0, 1) := by decide +kernel
theorem dX5_init_20 : decode cX5_init 20 = .ok (.sipush 1000, 3) := by decide +kernel
theorem dX5_init_23 : decode cX5_init 23 = .ok (.newarray .byte, 2) := by decide +kernel
theorem dX5_init_25 : decode cX5_init 25 = .ok (.putfield 21, 3) := by decide +kernel
theorem dX5_init_28 : decode cX5_init 28 = .ok (.aload_n 0, 1) := by decide +kernel
theorem dX5_init_29 : decode cX5_init 29 = .ok (.iconst 0, 1) := by decide +kernel
theorem dX5_init_30 : decode cX5_init 30 = .ok (.putfield 25, 3) := by decide +kernel
theorem dX5_init_33 : decode cX5_init 33 = .ok (.aload_n 0, 1) := by decide +kernel
theorem dX5_init_34 : decode cX5_init 34 = .ok (.iconst 0, 1) := by decide +kernel
theorem dX5_init_35 : decode cX5_init 35 = .ok (.putfield 28, 3) := by decide +kernel
theorem dX5_init_38 : decode cX5_init 38 = .ok (.aload_n 0, 1) := by decide +kernel
theorem dX5_init_39 : decode cX5_init 39 = .ok (.iconst 0, 1) := by decide +kernel
theorem dX5_init_40 : decode cX5_init 40 = .ok (.putfield 31, 3) := by decide +kernel
theorem dX5_init_43 : decode cX5_init 43 = .ok (.aload_n 0, 1) := by decide +kernel
theorem dX5_init_44 : decode cX5_init 44 = .ok (.lconst 0, 1) := by decide +kernel
theorem dX5_init_45 : decode cX5_init 45 = .ok (.putfield 34, 3) := by decide +kernel
theorem dX5_init_48 : decode cX5_init 48 = .ok (.aload_n 0, 1) := by decide +kernel
theorem dX5_init_49 : decode cX5_init 49 = .ok (.iconst 0, 1) := by decide +kernel
theorem dX5_init_50 : decode cX5_init 50 = .ok (.putfield 38, 3) := by decide +kernel
theorem dX5_init_53 : decode cX5_init 53 = .ok (.aload_n 0, 1) := by decide +kernel
theorem dX5_init_54 : decode cX5_init 54 = .ok (.iconst 0, 1) := by decide +kernel
theorem dX5_init_55 : decode cX5_init 55 = .ok (.putfield 41, 3) := by decide +kernel
theorem dX5_init_58 : decode cX5_init 58 = .ok (.aload_n 0, 1) := by decide +kernel
theorem dX5_init_59 : decode cX5_init 59 = .ok (.new 45, 3) := by decide +kernel
theorem dX5_init_62 : decode cX5_init 62 = .ok (.dup, 1) := by decide +kernel
theorem dX5_init_63 : decode cX5_init 63 = .ok (.invokespecial 47, 3) := by decide +kernel
theorem dX5_init_66 : decode cX5_init 66 = .ok (.putfield 48, 3) := by decide +kernel
theorem dX5_init_69 : decode cX5_init 69 = .ok (.aload_n 0, 1) := by decide +kernel
theorem dX5_init_70 : decode cX5_init 70 = .ok (.bipush 6, 2) := by decide +kernel
theorem dX5_init_72 : decode cX5_init 72 = .ok (.newarray .long, 2) := by decide +kernel
theorem dX5_init_74 : decode cX5_init 74 = .ok (.putfield 52, 3) := by decide +kernel
theorem dX5_init_77 : decode cX5_init 77 = .ok (.aload_n 0, 1) := by decide +kernel
theorem dX5_init_78 : decode cX5_init 78 = .ok (.iconst 5, 1) := by decide +kernel
theorem dX5_init_79 : decode cX5_init 79 = .ok (.newarray .long, 2) := by decide +kernel
theorem dX5_init_81 : decode cX5_init 81 = .ok (.putfield 56, 3) := by decide +kernel
theorem dX5_init_84 : decode cX5_init 84 = .ok (.return_, 1) := by decide +kernel
theorem dX5_putNumber_0 : decode cX5_putNumber 0 = .ok (.bipush 24, 2) := by decide +kernel
theorem dX5_putNumber_2 : decode cX5_putNumber 2 = .ok (.istore_n 2, 1) := by decide +kernel
theorem dX5_putNumber_3 : decode cX5_putNumber 3 = .ok (.iload_n 2, 1) := by decide +kernel
theorem dX5_putNumber_4 : decode cX5_putNumber 4 = .ok (.ifCond .lt 42, 3) := by decide +kernel
theorem dX5_putNumber_7 : decode cX5_putNumber 7 = .ok (.aload_n 0, 1) := by decide +kernel
theorem dX5_putNumber_8 : decode cX5_putNumber 8 = .ok (.getfield 18, 3) := by decide +kernel
theorem dX5_putNumber_11 : decode cX5_putNumber 11 = .ok (.sipush 1000, 3) := by decide +kernel
theorem dX5_putNumber_14 : decode cX5_putNumber 14 = .ok (.if_icmp .ge 32, 3) := by decide +kernel
theorem dX5_putNumber_17 : decode cX5_putNumber 17 = .ok (.aload_n 0, 1) := by decide +kernel
theorem dX5_putNumber_18 : decode cX5_putNumber 18 = .ok (.getfield 21, 3) := by decide +kernel
theorem dX5_putNumber_21 : decode cX5_putNumber 21 = .ok (.aload_n 0, 1) := by decide +kernel
theorem dX5_putNumber_22 : decode cX5_putNumber 22 = .ok (.getfield 18, 3) := by decide +kernel
theorem dX5_putNumber_25 : decode cX5_putNumber 25 = .ok (.iload_n 1, 1) := by decide +kernel
theorem dX5_putNumber_26 : decode cX5_putNumber 26 = .ok (.iload_n 2, 1) := by decide +kernel
theorem dX5_putNumber_27 : decode cX5_putNumber 27 = .ok (.ishr, 1) := by decide +kernel
theorem dX5_putNumber_28 : decode cX5_putNumber 28 = .ok (.i2b, 1) := by decide +kernel
theorem dX5_putNumber_29 : decode cX5_putNumber 29 = .ok (.bastore, 1) := by decide +kernel
theorem dX5_putNumber_30 : decode cX5_putNumber 30 = .ok (.aload_n 0, 1) := by decide +kernel
theorem dX5_putNumber_31 : decode cX5_putNumber 31 = .ok (.dup, 1) := by decide +kernel
theorem dX5_putNumber_32 : decode cX5_putNumber 32 = .ok (.getfield 18, 3) := by decide +kernel
theorem dX5_putNumber_35 : decode cX5_putNumber 35 = .ok (.iconst 1, 1) := by decide +kernel
theorem dX5_putNumber_36 : decode cX5_putNumber 36 = .ok (.iadd, 1) := by decide +kernel
theorem dX5_putNumber_37 : decode cX5_putNumber 37 = .ok (.putfield 18, 3) := by decide +kernel
theorem dX5_putNumber_40 : decode cX5_putNumber 40 = .ok (.iinc 2 (-8), 3) := by decide +kernel
theorem dX5_putNumber_43 : decode cX5_putNumber 43 = .ok (.goto (-40), 3) := by decide +kernel
theorem dX5_putNumber_46 : decode cX5_putNumber 46 = .ok (.return_, 1) := by decide +kernel
theorem dX5_read_0 : decode cX5_read 0 = .ok (.aload_n 0, 1) := by decide +kernel
theorem dX5_read_1 : decode cX5_read 1 = .ok (.iconst 0, 1) := by decide +kernel
theorem dX5_read_2 : decode cX5_read 2 = .ok (.putfield 9, 3) := by decide +kernel
theorem dX5_read_5 : decode cX5_read 5 = .ok (.aload_n 0, 1) := by decide +kernel
theorem dX5_read_6 : decode cX5_read 6 = .ok (.iload_n 1, 1) := by decide +kernel
theorem dX5_read_7 : decode cX5_read 7 = .ok (.aload_n 0, 1) := by decide +kernel
theorem dX5_read_8 : decode cX5_read 8 = .ok (.getfield 18, 3) := by decide +kernel
theorem dX5_read_11 : decode cX5_read 11 = .ok (.invokestatic 59, 3) := by decide +kernel
theorem dX5_read_14 : decode cX5_read 14 = .ok (.putfield 25, 3) := by decide +kernel
theorem dX5_read_17 : decode cX5_read 17 = .ok (.aload_n 0, 1) := by decide +kernel
theorem dX5_read_18 : decode cX5_read 18 = .ok (.iconst 0, 1) := by decide +kernel
theorem dX5_read_19 : decode cX5_read 19 = .ok (.putfield 18, 3) := by decide +kernel
theorem dX5_read_22 : decode cX5_read 22 = .ok (.aload_n 0, 1) := by decide +kernel
theorem dX5_read_23 : decode cX5_read 23 = .ok (.iconst 0, 1) := by decide +kernel
theorem dX5_read_24 : decode cX5_read 24 = .ok (.putfield 28, 3) := by decide +kernel
theorem dX5_read_27 : decode cX5_read 27 = .ok (.aload_n 0, 1) := by decide +kernel
theorem dX5_read_28 : decode cX5_read 28 = .ok (.iconst 0, 1) := by decide +kernel
theorem dX5_read_29 : decode cX5_read 29 = .ok (.putfield 41, 3) := by decide +kernel
theorem dX5_read_32 : decode cX5_read 32 = .ok (.aload_n 0, 1) := by decide +kernel
theorem dX5_read_33 : decode cX5_read 33 = .ok (.getfield 48, 3) := by decide +kernel
theorem dX5_read_36 : decode cX5_read 36 = .ok (.invokevirtual 65, 3) := by decide +kernel
theorem dX5_read_39 : decode cX5_read 39 = .ok (.aload_n 0, 1) := by decide +kernel
theorem dX5_read_40 : decode cX5_read 40 = .ok (.invokevirtual 68, 3) := by decide +kernel
theorem dX5_read_43 : decode cX5_read 43 = .ok (.aload_n 0, 1) := by decide +kernel
theorem dX5_read_44 : decode cX5_read 44 = .ok (.invokevirtual 71, 3) := by decide +kernel
theorem dX5_read_47 : decode cX5_read 47 = .ok (.istore_n 2, 1) := by decide +kernel
theorem dX5_read_48 : decode cX5_read 48 = .ok (.iconst 0, 1) := by decide +kernel
theorem dX5_read_49 : decode cX5_read 49 = .ok (.istore_n 3, 1) := by decide +kernel
theorem dX5_read_50 : decode cX5_read 50 = .ok (.iload_n 3, 1) := by decide +kernel
theorem dX5_read_51 : decode cX5_read 51 = .ok (.aload_n 0, 1) := by decide +kernel
theorem dX5_read_52 : decode cX5_read 52 = .ok (.getfield 25, 3) := by decide +kernel
theorem dX5_read_55 : decode cX5_read 55 = .ok (.if_icmp .ge 30, 3) := by decide +kernel
theorem dX5_read_58 : decode cX5_read 58 = .ok (.iload_n 2, 1) := by decide +kernel
theorem dX5_read_59 : decode cX5_read 59 = .ok (.ifCond .eq 26, 3) := by decide +kernel
theorem dX5_read_62 : decode cX5_read 62 = .ok (.aload_n 0, 1) := by decide +kernel
theorem dX5_read_63 : decode cX5_read 63 = .ok (.getfield 31, 3) := by decide +kernel
theorem dX5_read_66 : decode cX5_read 66 = .ok (.iconst 3, 1) := by decide +kernel
theorem dX5_read_67 : decode cX5_read 67 = .ok (.if_icmp .ne 18, 3) := by decide +kernel
theorem dX5_read_70 : decode cX5_read 70 = .ok (.aload_n 0, 1) := by decide +kernel
theorem dX5_read_71 : decode cX5_read 71 = .ok (.invokevirtual 68, 3) := by decide +kernel
theorem dX5_read_74 : decode cX5_read 74 = .ok (.aload_n 0, 1) := by decide +kernel
theorem dX5_read_75 : decode cX5_read 75 = .ok (.invokevirtual 71, 3) := by decide +kernel
theorem dX5_read_78 : decode cX5_read 78 = .ok (.istore_n 2, 1) := by decide +kernel
theorem dX5_read_79 : decode cX5_read 79 = .ok (.iinc 3 1, 3) := by decide +kernel
theorem dX5_read_82 : decode cX5_read 82 = .ok (.goto (-32), 3) := by decide +kernel
theorem dX5_read_85 : decode cX5_read 85 = .ok (.iload_n 2, 1) := by decide +kernel
theorem dX5_read_86 : decode cX5_read 86 = .ok (.ifCond .ne 5, 3) := by decide +kernel
theorem dX5_read_89 : decode cX5_read 89 = .ok (.iconst 0, 1) := by decide +kernel
theorem dX5_read_90 : decode cX5_read 90 = .ok (.ireturn, 1) := by decide +kernel
theorem dX5_read_91 : decode cX5_read 91 = .ok (.aload_n 0, 1) := by decide +kernel
theorem dX5_read_92 : decode cX5_read 92 = .ok (.getfield 31, 3) := by decide +kernel
theorem dX5_read_95 : decode cX5_read 95 = .ok (.ifCond .eq 9, 3) := by decide +kernel
theorem dX5_read_98 : decode cX5_read 98 = .ok (.aload_n 0, 1) := by decide +kernel
theorem dX5_read_99 : decode cX5_read 99 = .ok (.iconst 1, 1) := by decide +kernel
theorem dX5_read_100 : decode cX5_read 100 = .ok (.invokevirtual 75, 3) := by decide +kernel
theorem dX5_read_103 : decode cX5_read 103 = .ok (.ireturn, 1) := by decide +kernel
theorem dX5_read_104 : decode cX5_read 104 = .ok (.aload_n 0, 1) := by decide +kernel
theorem dX5_read_105 : decode cX5_read 105 = .ok (.getfield 48, 3) := by decide +kernel
theorem dX5_read_108 : decode cX5_read 108 = .ok (.getfield 79, 3) := by decide +kernel
theorem dX5_read_111 : decode cX5_read 111 = .ok (.ifCond .le 13, 3) := by decide +kernel
theorem dX5_read_114 : decode cX5_read 114 = .ok (.aload_n 0, 1) := by decide +kernel
theorem dX5_read_115 : decode cX5_read 115 = .ok (.getfield 48, 3) := by decide +kernel
theorem dX5_read_118 : decode cX5_read 118 = .ok (.getfield 82, 3) := by decide +kernel
theorem dX5_read_121 : decode cX5_read 121 = .ok (.ifCond .gt 12, 3) := by decide +kernel
theorem dX5_read_124 : decode cX5_read 124 = .ok (.aload_n 0, 1) := by decide +kernel
theorem dX5_read_125 : decode cX5_read 125 = .ok (.bipush 6, 2) := by decide +kernel
theorem dX5_read_127 : decode cX5_read 127 = .ok (.invokevirtual 75, 3) := by decide +kernel
theorem dX5_read_130 : decode cX5_read 130 = .ok (.ifCond .eq 7, 3) := by decide +kernel
theorem dX5_read_133 : decode cX5_read 133 = .ok (.iconst 1, 1) := by decide +kernel
theorem dX5_read_134 : decode cX5_read 134 = .ok (.goto 4, 3) := by decide +kernel
theorem dX5_read_137 : decode cX5_read 137 = .ok (.iconst 0, 1) := by decide +kernel
theorem dX5_read_138 : decode cX5_read 138 = .ok (.ireturn, 1) := by decide +kernel
theorem dX5_exchangeFor_0 : decode cX5_exchangeFor 0 = .ok (.aload_n 0, 1) := by decide +kernel
theorem dX5_exchangeFor_1 : decode cX5_exchangeFor 1 = .ok (.getfield 48, 3) := by decide +kernel
theorem dX5_exchangeFor_4 : decode cX5_exchangeFor 4 = .ok (.astore_n 2, 1) := by decide +kernel
theorem dX5_exchangeFor_5 : decode cX5_exchangeFor 5 = .ok (.aload_n 0, 1) := by decide +kernel
theorem dX5_exchangeFor_6 : decode cX5_exchangeFor 6 = .ok (.aload_n 1, 1) := by decide +kernel
theorem dX5_exchangeFor_7 : decode cX5_exchangeFor 7 = .ok (.putfield 48, 3) := by decide +kernel
theorem dX5_exchangeFor_10 : decode cX5_exchangeFor 10 = .ok (.aload_n 2, 1) := by decide +kernel
theorem dX5_exchangeFor_11 : decode cX5_exchangeFor 11 = .ok (.areturn, 1) := by decide +kernel
theorem dX5_fail_0 : decode cX5_fail 0 = .ok (.aload_n 0, 1) := by decide +kernel
theorem dX5_fail_1 : decode cX5_fail 1 = .ok (.iload_n 1, 1) := by decide +kernel
theorem dX5_fail_2 : decode cX5_fail 2 = .ok (.putfield 9, 3) := by decide +kernel
theorem dX5_fail_5 : decode cX5_fail 5 = .ok (.iconst 0, 1) := by decide +kernel
theorem dX5_fail_6 : decode cX5_fail 6 = .ok (.ireturn, 1) := by decide +kernel
theorem dX5_readToken_0 : decode cX5_readToken 0 = .ok (.aload_n 0, 1) := by decide +kernel
theorem dX5_readToken_1 : decode cX5_readToken 1 = .ok (.getfield 28, 3) := by decide +kernel
theorem dX5_readToken_4 : decode cX5_readToken 4 = .ok (.aload_n 0, 1) := by decide +kernel
theorem dX5_readToken_5 : decode cX5_readToken 5 = .ok (.getfield 25, 3) := by decide +kernel
theorem dX5_readToken_8 : decode cX5_readToken 8 = .ok (.if_icmp .ge 30, 3) := by decide +kernel
theorem dX5_readToken_11 : decode cX5_readToken 11 = .ok (.aload_n 0, 1) := by decide +kernel
theorem dX5_readToken_12 : decode cX5_readToken 12 = .ok (.getfield 21, 3) := by decide +kernel
theorem dX5_readToken_15 : decode cX5_readToken 15 = .ok (.aload_n 0, 1) := by decide +kernel
theorem dX5_readToken_16 : decode cX5_readToken 16 = .ok (.getfield 28, 3) := by decide +kernel
theorem dX5_readToken_19 : decode cX5_readToken 19 = .ok (.baload, 1) := by decide +kernel
theorem dX5_readToken_20 : decode cX5_readToken 20 = .ok (.bipush 32, 2) := by decide +kernel
theorem dX5_readToken_22 : decode cX5_readToken 22 = .ok (.if_icmp .ne 16, 3) := by decide +kernel
theorem dX5_readToken_25 : decode cX5_readToken 25 = .ok (.aload_n 0, 1) := by decide +kernel
theorem dX5_readToken_26 : decode cX5_readToken 26 = .ok (.dup, 1) := by decide +kernel
theorem dX5_readToken_27 : decode cX5_readToken 27 = .ok (.getfield 28, 3) := by decide +kernel
theorem dX5_readToken_30 : decode cX5_readToken 30 = .ok (.iconst 1, 1) := by decide +kernel
theorem dX5_readToken_31 : decode cX5_readToken 31 = .ok (.iadd, 1) := by decide +kernel
theorem dX5_readToken_32 : decode cX5_readToken 32 = .ok (.putfield 28, 3) := by decide +kernel
theorem dX5_readToken_35 : decode cX5_readToken 35 = .ok (.goto (-35), 3) := by decide +kernel
theorem dX5_readToken_38 : decode cX5_readToken 38 = .ok (.aload_n 0, 1) := by decide +kernel
theorem dX5_readToken_39 : decode cX5_readToken 39 = .ok (.aload_n 0, 1) := by decide +kernel
theorem dX5_readToken_40 : decode cX5_readToken 40 = .ok (.getfield 28, 3) := by decide +kernel
theorem dX5_readToken_43 : decode cX5_readToken 43 = .ok (.putfield 15, 3) := by decide +kernel
theorem dX5_readToken_46 : decode cX5_readToken 46 = .ok (.aload_n 0, 1) := by decide +kernel
theorem dX5_readToken_47 : decode cX5_readToken 47 = .ok (.lconst 0, 1) := by decide +kernel
theorem dX5_readToken_48 : decode cX5_readToken 48 = .ok (.putfield 34, 3) := by decide +kernel
theorem dX5_readToken_51 : decode cX5_readToken 51 = .ok (.aload_n 0, 1) := by decide +kernel
theorem dX5_readToken_52 : decode cX5_readToken 52 = .ok (.aload_n 0, 1) := by decide +kernel
theorem dX5_readToken_53 : decode cX5_readToken 53 = .ok (.getfield 28, 3) := by decide +kernel
theorem dX5_readToken_56 : decode cX5_readToken 56 = .ok (.aload_n 0, 1) := by decide +kernel
theorem dX5_readToken_57 : decode cX5_readToken 57 = .ok (.getfield 25, 3) := by decide +kernel
theorem dX5_readToken_60 : decode cX5_readToken 60 = .ok (.if_icmp .ge 18, 3) := by decide +kernel
theorem dX5_readToken_63 : decode cX5_readToken 63 = .ok (.aload_n 0, 1) := by decide +kernel
theorem dX5_readToken_64 : decode cX5_readToken 64 = .ok (.getfield 21, 3) := by decide +kernel
theorem dX5_readToken_67 : decode cX5_readToken 67 = .ok (.aload_n 0, 1) := by decide +kernel
theorem dX5_readToken_68 : decode cX5_readToken 68 = .ok (.getfield 28, 3) := by decide +kernel
theorem dX5_readToken_71 : decode cX5_readToken 71 = .ok (.baload, 1) := by decide +kernel
theorem dX5_readToken_72 : decode cX5_readToken 72 = .ok (.invokestatic 85, 3) := by decide +kernel
theorem dX5_readToken_75 : decode cX5_readToken 75 = .ok (.goto 4, 3) := by decide +kernel
theorem dX5_readToken_78 : decode cX5_readToken 78 = .ok (.iconst 0, 1) := by decide +kernel
theorem dX5_readToken_79 : decode cX5_readToken 79 = .ok (.putfield 31, 3) := by decide +kernel
theorem dX5_readToken_82 : decode cX5_readToken 82 = .ok (.aload_n 0, 1) := by decide +kernel
theorem dX5_readToken_83 : decode cX5_readToken 83 = .ok (.getfield 31, 3) := by decide +kernel
theorem dX5_readToken_86 : decode cX5_readToken 86 = .ok (.iconst 3, 1) := by decide +kernel
theorem dX5_readToken_87 : decode cX5_readToken 87 = .ok (.if_icmp .ne 16, 3) := by decide +kernel
theorem dX5_readToken_90 : decode cX5_readToken 90 = .ok (.aload_n 0, 1) := by decide +kernel
theorem dX5_readToken_91 : decode cX5_readToken 91 = .ok (.dup, 1) := by decide +kernel
theorem dX5_readToken_92 : decode cX5_readToken 92 = .ok (.getfield 28, 3) := by decide +kernel
theorem dX5_readToken_95 : decode cX5_readToken 95 = .ok (.iconst 1, 1) := by decide +kernel
theorem dX5_readToken_96 : decode cX5_readToken 96 = .ok (.iadd, 1) := by decide +kernel
theorem dX5_readToken_97 : decode cX5_readToken 97 = .ok (.putfield 28, 3) := by decide +kernel
theorem dX5_readToken_100 : decode cX5_readToken 100 = .ok (.goto 41, 3) := by decide +kernel
theorem dX5_readToken_103 : decode cX5_readToken 103 = .ok (.aload_n 0, 1) := by decide +kernel
theorem dX5_readToken_104 : decode cX5_readToken 104 = .ok (.getfield 31, 3) := by decide +kernel
theorem dX5_readToken_107 : decode cX5_readToken 107 = .ok (.iconst 1, 1) := by decide +kernel
theorem dX5_readToken_108 : decode cX5_readToken 108 = .ok (.if_icmp .ne 16, 3) := by decide +kernel
theorem dX5_readToken_111 : decode cX5_readToken 111 = .ok (.aload_n 0, 1) := by decide +kernel
theorem dX5_readToken_112 : decode cX5_readToken 112 = .ok (.bipush 27, 2) := by decide +kernel
theorem dX5_readToken_114 : decode cX5_readToken 114 = .ok (.bipush 96, 2) := by decide +kernel
theorem dX5_readToken_116 : decode cX5_readToken 116 = .ok (.bipush 8, 2) := by decide +kernel
theorem dX5_readToken_118 : decode cX5_readToken 118 = .ok (.invokevirtual 89, 3) := by decide +kernel
theorem dX5_readToken_121 : decode cX5_readToken 121 = .ok (.goto 20, 3) := by decide +kernel
theorem dX5_readToken_124 : decode cX5_readToken 124 = .ok (.aload_n 0, 1) := by decide +kernel
theorem dX5_readToken_125 : decode cX5_readToken 125 = .ok (.getfield 31, 3) := by decide +kernel
theorem dX5_readToken_128 : decode cX5_readToken 128 = .ok (.iconst 2, 1) := by decide +kernel
theorem dX5_readToken_129 : decode cX5_readToken 129 = .ok (.if_icmp .ne 12, 3) := by decide +kernel
theorem dX5_readToken_132 : decode cX5_readToken 132 = .ok (.aload_n 0, 1) := by decide +kernel
theorem dX5_readToken_133 : decode cX5_readToken 133 = .ok (.bipush 10, 2) := by decide +kernel
theorem dX5_readToken_135 : decode cX5_readToken 135 = .ok (.bipush 48, 2) := by decide +kernel
theorem dX5_readToken_137 : decode cX5_readToken 137 = .ok (.iconst 2, 1) := by decide +kernel
theorem dX5_readToken_138 : decode cX5_readToken 138 = .ok (.invokevirtual 89, 3) := by decide +kernel
theorem dX5_readToken_141 : decode cX5_readToken 141 = .ok (.return_, 1) := by decide +kernel
theorem dX5_readRun_0 : decode cX5_readRun 0 = .ok (.aload_n 0, 1) := by decide +kernel
theorem dX5_readRun_1 : decode cX5_readRun 1 = .ok (.getfield 28, 3) := by decide +kernel
theorem dX5_readRun_4 : decode cX5_readRun 4 = .ok (.aload_n 0, 1) := by decide +kernel
theorem dX5_readRun_5 : decode cX5_readRun 5 = .ok (.getfield 25, 3) := by decide +kernel
theorem dX5_readRun_8 : decode cX5_readRun 8 = .ok (.if_icmp .ge 59, 3) := by decide +kernel
theorem dX5_readRun_11 : decode cX5_readRun 11 = .ok (.aload_n 0, 1) := by decide +kernel
theorem dX5_readRun_12 : decode cX5_readRun 12 = .ok (.getfield 21, 3) := by decide +kernel
theorem dX5_readRun_15 : decode cX5_readRun 15 = .ok (.aload_n 0, 1) := by decide +kernel
theorem dX5_readRun_16 : decode cX5_readRun 16 = .ok (.getfield 28, 3) := by decide +kernel
theorem dX5_readRun_19 : decode cX5_readRun 19 = .ok (.baload, 1) := by decide +kernel
theorem dX5_readRun_20 : decode cX5_readRun 20 = .ok (.invokestatic 85, 3) := by decide +kernel
theorem dX5_readRun_23 : decode cX5_readRun 23 = .ok (.aload_n 0, 1) := by decide +kernel
theorem dX5_readRun_24 : decode cX5_readRun 24 = .ok (.getfield 31, 3) := by decide +kernel
theorem dX5_readRun_27 : decode cX5_readRun 27 = .ok (.if_icmp .ne 40, 3) := by decide +kernel
theorem dX5_readRun_30 : decode cX5_readRun 30 = .ok (.aload_n 0, 1) := by decide +kernel
theorem dX5_readRun_31 : decode cX5_readRun 31 = .ok (.aload_n 0, 1) := by decide +kernel
theorem dX5_readRun_32 : decode cX5_readRun 32 = .ok (.getfield 34, 3) := by decide +kernel
theorem dX5_readRun_35 : decode cX5_readRun 35 = .ok (.iload_n 1, 1) := by decide +kernel
theorem dX5_readRun_36 : decode cX5_readRun 36 = .ok (.i2l, 1) := by decide +kernel
theorem dX5_readRun_37 : decode cX5_readRun 37 = .ok (.lmul, 1) := by decide +kernel
theorem dX5_readRun_38 : decode cX5_readRun 38 = .ok (.aload_n 0, 1) := by decide +kernel
theorem dX5_readRun_39 : decode cX5_readRun 39 = .ok (.getfield 21, 3) := by decide +kernel
theorem dX5_readRun_42 : decode cX5_readRun 42 = .ok (.aload_n 0, 1) := by decide +kernel
theorem dX5_readRun_43 : decode cX5_readRun 43 = .ok (.getfield 28, 3) := by decide +kernel
theorem dX5_readRun_46 : decode cX5_readRun 46 = .ok (.baload, 1) := by decide +kernel
theorem dX5_readRun_47 : decode cX5_readRun 47 = .ok (.iload_n 2, 1) := by decide +kernel
theorem dX5_readRun_48 : decode cX5_readRun 48 = .ok (.isub, 1) := by decide +kernel
theorem dX5_readRun_49 : decode cX5_readRun 49 = .ok (.i2l, 1) := by decide +kernel
theorem dX5_readRun_50 : decode cX5_readRun 50 = .ok (.ladd, 1) := by decide +kernel
theorem dX5_readRun_51 : decode cX5_readRun 51 = .ok (.putfield 34, 3) := by decide +kernel
theorem dX5_readRun_54 : decode cX5_readRun 54 = .ok (.aload_n 0, 1) := by decide +kernel
theorem dX5_readRun_55 : decode cX5_readRun 55 = .ok (.dup, 1) := by decide +kernel
theorem dX5_readRun_56 : decode cX5_readRun 56 = .ok (.getfield 28, 3) := by decide +kernel
theorem dX5_readRun_59 : decode cX5_readRun 59 = .ok (.iconst 1, 1) := by decide +kernel
theorem dX5_readRun_60 : decode cX5_readRun 60 = .ok (.iadd, 1) := by decide +kernel
theorem dX5_readRun_61 : decode cX5_readRun 61 = .ok (.putfield 28, 3) := by decide +kernel
theorem dX5_readRun_64 : decode cX5_readRun 64 = .ok (.goto (-64), 3) := by decide +kernel
theorem dX5_readRun_67 : decode cX5_readRun 67 = .ok (.aload_n 0, 1) := by decide +kernel
theorem dX5_readRun_68 : decode cX5_readRun 68 = .ok (.aload_n 0, 1) := by decide +kernel
theorem dX5_readRun_69 : decode cX5_readRun 69 = .ok (.getfield 28, 3) := by decide +kernel
theorem dX5_readRun_72 : decode cX5_readRun 72 = .ok (.aload_n 0, 1) := by decide +kernel
theorem dX5_readRun_73 : decode cX5_readRun 73 = .ok (.getfield 15, 3) := by decide +kernel
theorem dX5_readRun_76 : decode cX5_readRun 76 = .ok (.isub, 1) := by decide +kernel
theorem dX5_readRun_77 : decode cX5_readRun 77 = .ok (.iload_n 3, 1) := by decide +kernel
theorem dX5_readRun_78 : decode cX5_readRun 78 = .ok (.if_icmp .gt 10, 3) := by decide +kernel
theorem dX5_readRun_81 : decode cX5_readRun 81 = .ok (.aload_n 0, 1) := by decide +kernel
theorem dX5_readRun_82 : decode cX5_readRun 82 = .ok (.getfield 31, 3) := by decide +kernel
theorem dX5_readRun_85 : decode cX5_readRun 85 = .ok (.goto 4, 3) := by decide +kernel
theorem dX5_readRun_88 : decode cX5_readRun 88 = .ok (.iconst 4, 1) := by decide +kernel
theorem dX5_readRun_89 : decode cX5_readRun 89 = .ok (.putfield 31, 3) := by decide +kernel
theorem dX5_readRun_92 : decode cX5_readRun 92 = .ok (.return_, 1) := by decide +kernel
theorem dX5_tokenBegunBy_0 : decode cX5_tokenBegunBy 0 = .ok (.iload_n 0, 1) := by decide +kernel
theorem dX5_tokenBegunBy_1 : decode cX5_tokenBegunBy 1 = .ok (.bipush 97, 2) := by decide +kernel
theorem dX5_tokenBegunBy_3 : decode cX5_tokenBegunBy 3 = .ok (.if_icmp .lt 11, 3) := by decide +kernel
theorem dX5_tokenBegunBy_6 : decode cX5_tokenBegunBy 6 = .ok (.iload_n 0, 1) := by decide +kernel
theorem dX5_tokenBegunBy_7 : decode cX5_tokenBegunBy 7 = .ok (.bipush 122, 2) := by decide +kernel
theorem dX5_tokenBegunBy_9 : decode cX5_tokenBegunBy 9 = .ok (.if_icmp .gt 5, 3) := by decide +kernel
theorem dX5_tokenBegunBy_12 : decode cX5_tokenBegunBy 12 = .ok (.iconst 1, 1) := by decide +kernel
theorem dX5_tokenBegunBy_13 : decode cX5_tokenBegunBy 13 = .ok (.ireturn, 1) := by decide +kernel
theorem dX5_tokenBegunBy_14 : decode cX5_tokenBegunBy 14 = .ok (.iload_n 0, 1) := by decide +kernel
theorem dX5_tokenBegunBy_15 : decode cX5_tokenBegunBy 15 = .ok (.bipush 48, 2) := by decide +kernel
theorem dX5_tokenBegunBy_17 : decode cX5_tokenBegunBy 17 = .ok (.if_icmp .lt 11, 3) := by decide +kernel
theorem dX5_tokenBegunBy_20 : decode cX5_tokenBegunBy 20 = .ok (.iload_n 0, 1) := by decide +kernel
theorem dX5_tokenBegunBy_21 : decode cX5_tokenBegunBy 21 = .ok (.bipush 57, 2) := by decide +kernel
theorem dX5_tokenBegunBy_23 : decode cX5_tokenBegunBy 23 = .ok (.if_icmp .gt 5, 3) := by decide +kernel
theorem dX5_tokenBegunBy_26 : decode cX5_tokenBegunBy 26 = .ok (.iconst 2, 1) := by decide +kernel
theorem dX5_tokenBegunBy_27 : decode cX5_tokenBegunBy 27 = .ok (.ireturn, 1) := by decide +kernel
theorem dX5_tokenBegunBy_28 : decode cX5_tokenBegunBy 28 = .ok (.iload_n 0, 1) := by decide +kernel
theorem dX5_tokenBegunBy_29 : decode cX5_tokenBegunBy 29 = .ok (.bipush 59, 2) := by decide +kernel
theorem dX5_tokenBegunBy_31 : decode cX5_tokenBegunBy 31 = .ok (.if_icmp .ne 7, 3) := by decide +kernel
theorem dX5_tokenBegunBy_34 : decode cX5_tokenBegunBy 34 = .ok (.iconst 3, 1) := by decide +kernel
theorem dX5_tokenBegunBy_35 : decode cX5_tokenBegunBy 35 = .ok (.goto 4, 3) := by decide +kernel
theorem dX5_tokenBegunBy_38 : decode cX5_tokenBegunBy 38 = .ok (.iconst 4, 1) := by decide +kernel
theorem dX5_tokenBegunBy_39 : decode cX5_tokenBegunBy 39 = .ok (.ireturn, 1) := by decide +kernel
theorem dX5_indexAmong_0 : decode cX5_indexAmong 0 = .ok (.aload_n 0, 1) := by decide +kernel
theorem dX5_indexAmong_1 : decode cX5_indexAmong 1 = .ok (.getfield 31, 3) := by decide +kernel
theorem dX5_indexAmong_4 : decode cX5_indexAmong 4 = .ok (.iconst 1, 1) := by decide +kernel
theorem dX5_indexAmong_5 : decode cX5_indexAmong 5 = .ok (.if_icmp .eq 5, 3) := by decide +kernel
theorem dX5_indexAmong_8 : decode cX5_indexAmong 8 = .ok (.iconst (-1), 1) := by decide +kernel
theorem dX5_indexAmong_9 : decode cX5_indexAmong 9 = .ok (.ireturn, 1) := by decide +kernel
theorem dX5_indexAmong_10 : decode cX5_indexAmong 10 = .ok (.iconst 0, 1) := by decide +kernel
theorem dX5_indexAmong_11 : decode cX5_indexAmong 11 = .ok (.istore_n 2, 1) := by decide +kernel
theorem dX5_indexAmong_12 : decode cX5_indexAmong 12 = .ok (.lconst 0, 1) := by decide +kernel
theorem dX5_indexAmong_13 : decode cX5_indexAmong 13 = .ok (.lstore_n 3, 1) := by decide +kernel
theorem dX5_indexAmong_14 : decode cX5_indexAmong 14 = .ok (.iconst 0, 1) := by decide +kernel
theorem dX5_indexAmong_15 : decode cX5_indexAmong 15 = .ok (.istore 5, 2) := by decide +kernel
theorem dX5_indexAmong_17 : decode cX5_indexAmong 17 = .ok (.iload 5, 2) := by decide +kernel
theorem dX5_indexAmong_19 : decode cX5_indexAmong 19 = .ok (.aload_n 1, 1) := by decide +kernel
theorem dX5_indexAmong_20 : decode cX5_indexAmong 20 = .ok (.invokevirtual 93, 3) := by decide +kernel
theorem dX5_indexAmong_23 : decode cX5_indexAmong 23 = .ok (.if_icmp .gt 72, 3) := by decide +kernel
theorem dX5_indexAmong_26 : decode cX5_indexAmong 26 = .ok (.iload 5, 2) := by decide +kernel
theorem dX5_indexAmong_28 : decode cX5_indexAmong 28 = .ok (.aload_n 1, 1) := by decide +kernel
theorem dX5_indexAmong_29 : decode cX5_indexAmong 29 = .ok (.invokevirtual 93, 3) := by decide +kernel
theorem dX5_indexAmong_32 : decode cX5_indexAmong 32 = .ok (.if_icmp .ge 12, 3) := by decide +kernel
theorem dX5_indexAmong_35 : decode cX5_indexAmong 35 = .ok (.aload_n 1, 1) := by decide +kernel
theorem dX5_indexAmong_36 : decode cX5_indexAmong 36 = .ok (.iload 5, 2) := by decide +kernel
theorem dX5_indexAmong_38 : decode cX5_indexAmong 38 = .ok (.invokevirtual 98, 3) := by decide +kernel
theorem dX5_indexAmong_41 : decode cX5_indexAmong 41 = .ok (.goto 5, 3) := by decide +kernel
theorem dX5_indexAmong_44 : decode cX5_indexAmong 44 = .ok (.bipush 32, 2) := by decide +kernel
theorem dX5_indexAmong_46 : decode cX5_indexAmong 46 = .ok (.istore 6, 2) := by decide +kernel
theorem dX5_indexAmong_48 : decode cX5_indexAmong 48 = .ok (.iload 6, 2) := by decide +kernel
theorem dX5_indexAmong_50 : decode cX5_indexAmong 50 = .ok (.bipush 32, 2) := by decide +kernel
theorem dX5_indexAmong_52 : decode cX5_indexAmong 52 = .ok (.if_icmp .eq 21, 3) := by decide +kernel
theorem dX5_indexAmong_55 : decode cX5_indexAmong 55 = .ok (.lload_n 3, 1) := by decide +kernel
theorem dX5_indexAmong_56 : decode cX5_indexAmong 56 = .ok (.ldc2_w 102, 3) := by decide +kernel
theorem dX5_indexAmong_59 : decode cX5_indexAmong 59 = .ok (.lmul, 1) := by decide +kernel
theorem dX5_indexAmong_60 : decode cX5_indexAmong 60 = .ok (.iload 6, 2) := by decide +kernel
theorem dX5_indexAmong_62 : decode cX5_indexAmong 62 = .ok (.bipush 97, 2) := by decide +kernel
theorem dX5_indexAmong_64 : decode cX5_indexAmong 64 = .ok (.isub, 1) := by decide +kernel
theorem dX5_indexAmong_65 : decode cX5_indexAmong 65 = .ok (.iconst 1, 1) := by decide +kernel
theorem dX5_indexAmong_66 : decode cX5_indexAmong 66 = .ok (.iadd, 1) := by decide +kernel
theorem dX5_indexAmong_67 : decode cX5_indexAmong 67 = .ok (.i2l, 1) := by decide +kernel
theorem dX5_indexAmong_68 : decode cX5_indexAmong 68 = .ok (.ladd, 1) := by decide +kernel
theorem dX5_indexAmong_69 : decode cX5_indexAmong 69 = .ok (.lstore_n 3, 1) := by decide +kernel
theorem dX5_indexAmong_70 : decode cX5_indexAmong 70 = .ok (.goto 19, 3) := by decide +kernel
theorem dX5_indexAmong_73 : decode cX5_indexAmong 73 = .ok (.lload_n 3, 1) := by decide +kernel
theorem dX5_indexAmong_74 : decode cX5_indexAmong 74 = .ok (.aload_n 0, 1) := by decide +kernel
theorem dX5_indexAmong_75 : decode cX5_indexAmong 75 = .ok (.getfield 34, 3) := by decide +kernel
theorem dX5_indexAmong_78 : decode cX5_indexAmong 78 = .ok (.lcmp, 1) := by decide +kernel
theorem dX5_indexAmong_79 : decode cX5_indexAmong 79 = .ok (.ifCond .ne 5, 3) := by decide +kernel
theorem dX5_indexAmong_82 : decode cX5_indexAmong 82 = .ok (.iload_n 2, 1) := by decide +kernel
theorem dX5_indexAmong_83 : decode cX5_indexAmong 83 = .ok (.ireturn, 1) := by decide +kernel
theorem dX5_indexAmong_84 : decode cX5_indexAmong 84 = .ok (.iinc 2 1, 3) := by decide +kernel
theorem dX5_indexAmong_87 : decode cX5_indexAmong 87 = .ok (.lconst 0, 1) := by decide +kernel
theorem dX5_indexAmong_88 : decode cX5_indexAmong 88 = .ok (.lstore_n 3, 1) := by decide +kernel
theorem dX5_indexAmong_89 : decode cX5_indexAmong 89 = .ok (.iinc 5 1, 3) := by decide +kernel
theorem dX5_indexAmong_92 : decode cX5_indexAmong 92 = .ok (.goto (-75), 3) := by decide +kernel
theorem dX5_indexAmong_95 : decode cX5_indexAmong 95 = .ok (.iconst (-1), 1) := by decide +kernel
theorem dX5_indexAmong_96 : decode cX5_indexAmong 96 = .ok (.ireturn, 1) := by decide +kernel
theorem dX5_readOneOf_0 : decode cX5_readOneOf 0 = .ok (.aload_n 0, 1) := by decide +kernel
theorem dX5_readOneOf_1 : decode cX5_readOneOf 1 = .ok (.aload_n 0, 1) := by decide +kernel
theorem dX5_readOneOf_2 : decode cX5_readOneOf 2 = .ok (.aload_n 1, 1) := by decide +kernel
theorem dX5_readOneOf_3 : decode cX5_readOneOf 3 = .ok (.invokevirtual 104, 3) := by decide +kernel
theorem dX5_readOneOf_6 : decode cX5_readOneOf 6 = .ok (.putfield 38, 3) := by decide +kernel
theorem dX5_readOneOf_9 : decode cX5_readOneOf 9 = .ok (.aload_n 0, 1) := by decide +kernel
theorem dX5_readOneOf_10 : decode cX5_readOneOf 10 = .ok (.getfield 38, 3) := by decide +kernel
theorem dX5_readOneOf_13 : decode cX5_readOneOf 13 = .ok (.iconst (-1), 1) := by decide +kernel
theorem dX5_readOneOf_14 : decode cX5_readOneOf 14 = .ok (.if_icmp .ne 9, 3) := by decide +kernel
theorem dX5_readOneOf_17 : decode cX5_readOneOf 17 = .ok (.aload_n 0, 1) := by decide +kernel
theorem dX5_readOneOf_18 : decode cX5_readOneOf 18 = .ok (.iconst 1, 1) := by decide +kernel
theorem dX5_readOneOf_19 : decode cX5_readOneOf 19 = .ok (.invokevirtual 75, 3) := by decide +kernel
theorem dX5_readOneOf_22 : decode cX5_readOneOf 22 = .ok (.ireturn, 1) := by decide +kernel
theorem dX5_readOneOf_23 : decode cX5_readOneOf 23 = .ok (.aload_n 0, 1) := by decide +kernel
theorem dX5_readOneOf_24 : decode cX5_readOneOf 24 = .ok (.invokevirtual 68, 3) := by decide +kernel
theorem dX5_readOneOf_27 : decode cX5_readOneOf 27 = .ok (.iconst 1, 1) := by decide +kernel
theorem dX5_readOneOf_28 : decode cX5_readOneOf 28 = .ok (.ireturn, 1) := by decide +kernel
theorem dX5_readNumber_0 : decode cX5_readNumber 0 = .ok (.aload_n 0, 1) := by decide +kernel
theorem dX5_readNumber_1 : decode cX5_readNumber 1 = .ok (.aload_n 1, 1) := by decide +kernel
theorem dX5_readNumber_2 : decode cX5_readNumber 2 = .ok (.invokevirtual 104, 3) := by decide +kernel
theorem dX5_readNumber_5 : decode cX5_readNumber 5 = .ok (.iconst (-1), 1) := by decide +kernel
theorem dX5_readNumber_6 : decode cX5_readNumber 6 = .ok (.if_icmp .ne 9, 3) := by decide +kernel
theorem dX5_readNumber_9 : decode cX5_readNumber 9 = .ok (.aload_n 0, 1) := by decide +kernel
theorem dX5_readNumber_10 : decode cX5_readNumber 10 = .ok (.iconst 1, 1) := by decide +kernel
theorem dX5_readNumber_11 : decode cX5_readNumber 11 = .ok (.invokevirtual 75, 3) := by decide +kernel
theorem dX5_readNumber_14 : decode cX5_readNumber 14 = .ok (.ireturn, 1) := by decide +kernel
theorem dX5_readNumber_15 : decode cX5_readNumber 15 = .ok (.aload_n 0, 1) := by decide +kernel
theorem dX5_readNumber_16 : decode cX5_readNumber 16 = .ok (.invokevirtual 68, 3) := by decide +kernel
theorem dX5_readNumber_19 : decode cX5_readNumber 19 = .ok (.aload_n 0, 1) := by decide +kernel
theorem dX5_readNumber_20 : decode cX5_readNumber 20 = .ok (.getfield 31, 3) := by decide +kernel
theorem dX5_readNumber_23 : decode cX5_readNumber 23 = .ok (.iconst 2, 1) := by decide +kernel
theorem dX5_readNumber_24 : decode cX5_readNumber 24 = .ok (.if_icmp .eq 9, 3) := by decide +kernel
theorem dX5_readNumber_27 : decode cX5_readNumber 27 = .ok (.aload_n 0, 1) := by decide +kernel
theorem dX5_readNumber_28 : decode cX5_readNumber 28 = .ok (.iconst 1, 1) := by decide +kernel
theorem dX5_readNumber_29 : decode cX5_readNumber 29 = .ok (.invokevirtual 75, 3) := by decide +kernel
theorem dX5_readNumber_32 : decode cX5_readNumber 32 = .ok (.ireturn, 1) := by decide +kernel
theorem dX5_readNumber_33 : decode cX5_readNumber 33 = .ok (.aload_n 0, 1) := by decide +kernel
theorem dX5_readNumber_34 : decode cX5_readNumber 34 = .ok (.getfield 34, 3) := by decide +kernel
theorem dX5_readNumber_37 : decode cX5_readNumber 37 = .ok (.iload_n 2, 1) := by decide +kernel
theorem dX5_readNumber_38 : decode cX5_readNumber 38 = .ok (.i2l, 1) := by decide +kernel
theorem dX5_readNumber_39 : decode cX5_readNumber 39 = .ok (.lcmp, 1) := by decide +kernel
theorem dX5_readNumber_40 : decode cX5_readNumber 40 = .ok (.ifCond .lt 13, 3) := by decide +kernel
theorem dX5_readNumber_43 : decode cX5_readNumber 43 = .ok (.aload_n 0, 1) := by decide +kernel
theorem dX5_readNumber_44 : decode cX5_readNumber 44 = .ok (.getfield 34, 3) := by decide +kernel
theorem dX5_readNumber_47 : decode cX5_readNumber 47 = .ok (.iload_n 3, 1) := by decide +kernel
theorem dX5_readNumber_48 : decode cX5_readNumber 48 = .ok (.i2l, 1) := by decide +kernel
theorem dX5_readNumber_49 : decode cX5_readNumber 49 = .ok (.lcmp, 1) := by decide +kernel
theorem dX5_readNumber_50 : decode cX5_readNumber 50 = .ok (.ifCond .le 9, 3) := by decide +kernel
theorem dX5_readNumber_53 : decode cX5_readNumber 53 = .ok (.aload_n 0, 1) := by decide +kernel
theorem dX5_readNumber_54 : decode cX5_readNumber 54 = .ok (.iconst 4, 1) := by decide +kernel
theorem dX5_readNumber_55 : decode cX5_readNumber 55 = .ok (.invokevirtual 75, 3) := by decide +kernel
theorem dX5_readNumber_58 : decode cX5_readNumber 58 = .ok (.ireturn, 1) := by decide +kernel
theorem dX5_readNumber_59 : decode cX5_readNumber 59 = .ok (.aload_n 0, 1) := by decide +kernel
theorem dX5_readNumber_60 : decode cX5_readNumber 60 = .ok (.aload_n 0, 1) := by decide +kernel
theorem dX5_readNumber_61 : decode cX5_readNumber 61 = .ok (.getfield 34, 3) := by decide +kernel
theorem dX5_readNumber_64 : decode cX5_readNumber 64 = .ok (.l2i, 1) := by decide +kernel
theorem dX5_readNumber_65 : decode cX5_readNumber 65 = .ok (.putfield 38, 3) := by decide +kernel
theorem dX5_readNumber_68 : decode cX5_readNumber 68 = .ok (.aload_n 0, 1) := by decide +kernel
theorem dX5_readNumber_69 : decode cX5_readNumber 69 = .ok (.invokevirtual 68, 3) := by decide +kernel
theorem dX5_readNumber_72 : decode cX5_readNumber 72 = .ok (.iconst 1, 1) := by decide +kernel
theorem dX5_readNumber_73 : decode cX5_readNumber 73 = .ok (.ireturn, 1) := by decide +kernel
theorem dX5_isName_0 : decode cX5_isName 0 = .ok (.aload_n 0, 1) := by decide +kernel
theorem dX5_isName_1 : decode cX5_isName 1 = .ok (.getfield 31, 3) := by decide +kernel
theorem dX5_isName_4 : decode cX5_isName 4 = .ok (.iconst 1, 1) := by decide +kernel
theorem dX5_isName_5 : decode cX5_isName 5 = .ok (.if_icmp .ne 17, 3) := by decide +kernel
theorem dX5_isName_8 : decode cX5_isName 8 = .ok (.aload_n 0, 1) := by decide +kernel
theorem dX5_isName_9 : decode cX5_isName 9 = .ok (.ldc 108, 2) := by decide +kernel
theorem dX5_isName_11 : decode cX5_isName 11 = .ok (.invokevirtual 104, 3) := by decide +kernel
theorem dX5_isName_14 : decode cX5_isName 14 = .ok (.iconst (-1), 1) := by decide +kernel
theorem dX5_isName_15 : decode cX5_isName 15 = .ok (.if_icmp .ne 7, 3) := by decide +kernel
theorem dX5_isName_18 : decode cX5_isName 18 = .ok (.iconst 1, 1) := by decide +kernel
theorem dX5_isName_19 : decode cX5_isName 19 = .ok (.goto 4, 3) := by decide +kernel
theorem dX5_isName_22 : decode cX5_isName 22 = .ok (.iconst 0, 1) := by decide +kernel
theorem dX5_isName_23 : decode cX5_isName 23 = .ok (.ireturn, 1) := by decide +kernel
theorem dX5_indexOfPerson_0 : decode cX5_indexOfPerson 0 = .ok (.iconst 0, 1) := by decide +kernel
theorem dX5_indexOfPerson_1 : decode cX5_indexOfPerson 1 = .ok (.istore_n 1, 1) := by decide +kernel
theorem dX5_indexOfPerson_2 : decode cX5_indexOfPerson 2 = .ok (.iload_n 1, 1) := by decide +kernel
theorem dX5_indexOfPerson_3 : decode cX5_indexOfPerson 3 = .ok (.aload_n 0, 1) := by decide +kernel
theorem dX5_indexOfPerson_4 : decode cX5_indexOfPerson 4 = .ok (.getfield 48, 3) := by decide +kernel
theorem dX5_indexOfPerson_7 : decode cX5_indexOfPerson 7 = .ok (.getfield 79, 3) := by decide +kernel
theorem dX5_indexOfPerson_10 : decode cX5_indexOfPerson 10 = .ok (.if_icmp .ge 25, 3) := by decide +kernel
theorem dX5_indexOfPerson_13 : decode cX5_indexOfPerson 13 = .ok (.aload_n 0, 1) := by decide +kernel
theorem dX5_indexOfPerson_14 : decode cX5_indexOfPerson 14 = .ok (.getfield 52, 3) := by decide +kernel
theorem dX5_indexOfPerson_17 : decode cX5_indexOfPerson 17 = .ok (.iload_n 1, 1) := by decide +kernel
theorem dX5_indexOfPerson_18 : decode cX5_indexOfPerson 18 = .ok (.laload, 1) := by decide +kernel
theorem dX5_indexOfPerson_19 : decode cX5_indexOfPerson 19 = .ok (.aload_n 0, 1) := by decide +kernel
theorem dX5_indexOfPerson_20 : decode cX5_indexOfPerson 20 = .ok (.getfield 34, 3) := by decide +kernel
theorem dX5_indexOfPerson_23 : decode cX5_indexOfPerson 23 = .ok (.lcmp, 1) := by decide +kernel
theorem dX5_indexOfPerson_24 : decode cX5_indexOfPerson 24 = .ok (.ifCond .ne 5, 3) := by decide +kernel
theorem dX5_indexOfPerson_27 : decode cX5_indexOfPerson 27 = .ok (.iload_n 1, 1) := by decide +kernel
theorem dX5_indexOfPerson_28 : decode cX5_indexOfPerson 28 = .ok (.ireturn, 1) := by decide +kernel
theorem dX5_indexOfPerson_29 : decode cX5_indexOfPerson 29 = .ok (.iinc 1 1, 3) := by decide +kernel
theorem dX5_indexOfPerson_32 : decode cX5_indexOfPerson 32 = .ok (.goto (-30), 3) := by decide +kernel
theorem dX5_indexOfPerson_35 : decode cX5_indexOfPerson 35 = .ok (.iconst (-1), 1) := by decide +kernel
theorem dX5_indexOfPerson_36 : decode cX5_indexOfPerson 36 = .ok (.ireturn, 1) := by decide +kernel
theorem dX5_indexOfUmbrella_0 : decode cX5_indexOfUmbrella 0 = .ok (.iconst 0, 1) := by decide +kernel
theorem dX5_indexOfUmbrella_1 : decode cX5_indexOfUmbrella 1 = .ok (.istore_n 1, 1) := by decide +kernel
theorem dX5_indexOfUmbrella_2 : decode cX5_indexOfUmbrella 2 = .ok (.iload_n 1, 1) := by decide +kernel
theorem dX5_indexOfUmbrella_3 : decode cX5_indexOfUmbrella 3 = .ok (.aload_n 0, 1) := by decide +kernel
theorem dX5_indexOfUmbrella_4 : decode cX5_indexOfUmbrella 4 = .ok (.getfield 48, 3) := by decide +kernel
theorem dX5_indexOfUmbrella_7 : decode cX5_indexOfUmbrella 7 = .ok (.getfield 82, 3) := by decide +kernel
theorem dX5_indexOfUmbrella_10 : decode cX5_indexOfUmbrella 10 = .ok (.if_icmp .ge 25, 3) := by decide +kernel
theorem dX5_indexOfUmbrella_13 : decode cX5_indexOfUmbrella 13 = .ok (.aload_n 0, 1) := by decide +kernel
theorem dX5_indexOfUmbrella_14 : decode cX5_indexOfUmbrella 14 = .ok (.getfield 56, 3) := by decide +kernel
theorem dX5_indexOfUmbrella_17 : decode cX5_indexOfUmbrella 17 = .ok (.iload_n 1, 1) := by decide +kernel
theorem dX5_indexOfUmbrella_18 : decode cX5_indexOfUmbrella 18 = .ok (.laload, 1) := by decide +kernel
theorem dX5_indexOfUmbrella_19 : decode cX5_indexOfUmbrella 19 = .ok (.aload_n 0, 1) := by decide +kernel
theorem dX5_indexOfUmbrella_20 : decode cX5_indexOfUmbrella 20 = .ok (.getfield 34, 3) := by decide +kernel
theorem dX5_indexOfUmbrella_23 : decode cX5_indexOfUmbrella 23 = .ok (.lcmp, 1) := by decide +kernel
theorem dX5_indexOfUmbrella_24 : decode cX5_indexOfUmbrella 24 = .ok (.ifCond .ne 5, 3) := by decide +kernel
theorem dX5_indexOfUmbrella_27 : decode cX5_indexOfUmbrella 27 = .ok (.iload_n 1, 1) := by decide +kernel
theorem dX5_indexOfUmbrella_28 : decode cX5_indexOfUmbrella 28 = .ok (.ireturn, 1) := by decide +kernel
theorem dX5_indexOfUmbrella_29 : decode cX5_indexOfUmbrella 29 = .ok (.iinc 1 1, 3) := by decide +kernel
theorem dX5_indexOfUmbrella_32 : decode cX5_indexOfUmbrella 32 = .ok (.goto (-30), 3) := by decide +kernel
theorem dX5_indexOfUmbrella_35 : decode cX5_indexOfUmbrella 35 = .ok (.iconst (-1), 1) := by decide +kernel
theorem dX5_indexOfUmbrella_36 : decode cX5_indexOfUmbrella 36 = .ok (.ireturn, 1) := by decide +kernel
theorem dX5_readNewName_0 : decode cX5_readNewName 0 = .ok (.aload_n 0, 1) := by decide +kernel
theorem dX5_readNewName_1 : decode cX5_readNewName 1 = .ok (.invokevirtual 110, 3) := by decide +kernel
theorem dX5_readNewName_4 : decode cX5_readNewName 4 = .ok (.ifCond .ne 9, 3) := by decide +kernel
theorem dX5_readNewName_7 : decode cX5_readNewName 7 = .ok (.aload_n 0, 1) := by decide +kernel
theorem dX5_readNewName_8 : decode cX5_readNewName 8 = .ok (.iconst 1, 1) := by decide +kernel
theorem dX5_readNewName_9 : decode cX5_readNewName 9 = .ok (.invokevirtual 75, 3) := by decide +kernel
theorem dX5_readNewName_12 : decode cX5_readNewName 12 = .ok (.ireturn, 1) := by decide +kernel
theorem dX5_readNewName_13 : decode cX5_readNewName 13 = .ok (.aload_n 0, 1) := by decide +kernel
theorem dX5_readNewName_14 : decode cX5_readNewName 14 = .ok (.invokevirtual 113, 3) := by decide +kernel
theorem dX5_readNewName_17 : decode cX5_readNewName 17 = .ok (.iconst (-1), 1) := by decide +kernel
theorem dX5_readNewName_18 : decode cX5_readNewName 18 = .ok (.if_icmp .ne 11, 3) := by decide +kernel
theorem dX5_readNewName_21 : decode cX5_readNewName 21 = .ok (.aload_n 0, 1) := by decide +kernel
theorem dX5_readNewName_22 : decode cX5_readNewName 22 = .ok (.invokevirtual 116, 3) := by decide +kernel
theorem dX5_readNewName_25 : decode cX5_readNewName 25 = .ok (.iconst (-1), 1) := by decide +kernel
theorem dX5_readNewName_26 : decode cX5_readNewName 26 = .ok (.if_icmp .eq 9, 3) := by decide +kernel
theorem dX5_readNewName_29 : decode cX5_readNewName 29 = .ok (.aload_n 0, 1) := by decide +kernel
theorem dX5_readNewName_30 : decode cX5_readNewName 30 = .ok (.iconst 3, 1) := by decide +kernel
theorem dX5_readNewName_31 : decode cX5_readNewName 31 = .ok (.invokevirtual 75, 3) := by decide +kernel
theorem dX5_readNewName_34 : decode cX5_readNewName 34 = .ok (.ireturn, 1) := by decide +kernel
theorem dX5_readNewName_35 : decode cX5_readNewName 35 = .ok (.aload_n 0, 1) := by decide +kernel
theorem dX5_readNewName_36 : decode cX5_readNewName 36 = .ok (.invokevirtual 68, 3) := by decide +kernel
theorem dX5_readNewName_39 : decode cX5_readNewName 39 = .ok (.iconst 1, 1) := by decide +kernel
theorem dX5_readNewName_40 : decode cX5_readNewName 40 = .ok (.ireturn, 1) := by decide +kernel
theorem dX5_readTold_0 : decode cX5_readTold 0 = .ok (.aload_n 0, 1) := by decide +kernel
theorem dX5_readTold_1 : decode cX5_readTold 1 = .ok (.invokevirtual 110, 3) := by decide +kernel
theorem dX5_readTold_4 : decode cX5_readTold 4 = .ok (.ifCond .ne 9, 3) := by decide +kernel
theorem dX5_readTold_7 : decode cX5_readTold 7 = .ok (.aload_n 0, 1) := by decide +kernel
theorem dX5_readTold_8 : decode cX5_readTold 8 = .ok (.iconst 1, 1) := by decide +kernel
theorem dX5_readTold_9 : decode cX5_readTold 9 = .ok (.invokevirtual 75, 3) := by decide +kernel
theorem dX5_readTold_12 : decode cX5_readTold 12 = .ok (.ireturn, 1) := by decide +kernel
theorem dX5_readTold_13 : decode cX5_readTold 13 = .ok (.iload_n 1, 1) := by decide +kernel
theorem dX5_readTold_14 : decode cX5_readTold 14 = .ok (.iconst (-1), 1) := by decide +kernel
theorem dX5_readTold_15 : decode cX5_readTold 15 = .ok (.if_icmp .ne 9, 3) := by decide +kernel
theorem dX5_readTold_18 : decode cX5_readTold 18 = .ok (.aload_n 0, 1) := by decide +kernel
theorem dX5_readTold_19 : decode cX5_readTold 19 = .ok (.iconst 2, 1) := by decide +kernel
theorem dX5_readTold_20 : decode cX5_readTold 20 = .ok (.invokevirtual 75, 3) := by decide +kernel
theorem dX5_readTold_23 : decode cX5_readTold 23 = .ok (.ireturn, 1) := by decide +kernel
theorem dX5_readTold_24 : decode cX5_readTold 24 = .ok (.aload_n 0, 1) := by decide +kernel
theorem dX5_readTold_25 : decode cX5_readTold 25 = .ok (.iload_n 1, 1) := by decide +kernel
theorem dX5_readTold_26 : decode cX5_readTold 26 = .ok (.putfield 38, 3) := by decide +kernel
theorem dX5_readTold_29 : decode cX5_readTold 29 = .ok (.aload_n 0, 1) := by decide +kernel
theorem dX5_readTold_30 : decode cX5_readTold 30 = .ok (.invokevirtual 68, 3) := by decide +kernel
theorem dX5_readTold_33 : decode cX5_readTold 33 = .ok (.iconst 1, 1) := by decide +kernel
theorem dX5_readTold_34 : decode cX5_readTold 34 = .ok (.ireturn, 1) := by decide +kernel
theorem dX5_readLine_0 : decode cX5_readLine 0 = .ok (.aload_n 0, 1) := by decide +kernel
theorem dX5_readLine_1 : decode cX5_readLine 1 = .ok (.ldc 108, 2) := by decide +kernel
theorem dX5_readLine_3 : decode cX5_readLine 3 = .ok (.invokevirtual 104, 3) := by decide +kernel
theorem dX5_readLine_6 : decode cX5_readLine 6 = .ok (.istore_n 1, 1) := by decide +kernel
theorem dX5_readLine_7 : decode cX5_readLine 7 = .ok (.iload_n 1, 1) := by decide +kernel
theorem dX5_readLine_8 : decode cX5_readLine 8 = .ok (.iconst (-1), 1) := by decide +kernel
theorem dX5_readLine_9 : decode cX5_readLine 9 = .ok (.if_icmp .ne 9, 3) := by decide +kernel
theorem dX5_readLine_12 : decode cX5_readLine 12 = .ok (.aload_n 0, 1) := by decide +kernel
theorem dX5_readLine_13 : decode cX5_readLine 13 = .ok (.iconst 1, 1) := by decide +kernel
theorem dX5_readLine_14 : decode cX5_readLine 14 = .ok (.invokevirtual 75, 3) := by decide +kernel
theorem dX5_readLine_17 : decode cX5_readLine 17 = .ok (.ireturn, 1) := by decide +kernel
theorem dX5_readLine_18 : decode cX5_readLine 18 = .ok (.iload_n 1, 1) := by decide +kernel
theorem dX5_readLine_19 : decode cX5_readLine 19 = .ok (.ifCond .ne 8, 3) := by decide +kernel
theorem dX5_readLine_22 : decode cX5_readLine 22 = .ok (.aload_n 0, 1) := by decide +kernel
theorem dX5_readLine_23 : decode cX5_readLine 23 = .ok (.invokevirtual 119, 3) := by decide +kernel
theorem dX5_readLine_26 : decode cX5_readLine 26 = .ok (.ireturn, 1) := by decide +kernel
theorem dX5_readLine_27 : decode cX5_readLine 27 = .ok (.aload_n 0, 1) := by decide +kernel
theorem dX5_readLine_28 : decode cX5_readLine 28 = .ok (.getfield 41, 3) := by decide +kernel
theorem dX5_readLine_31 : decode cX5_readLine 31 = .ok (.ifCond .ne 10, 3) := by decide +kernel
theorem dX5_readLine_34 : decode cX5_readLine 34 = .ok (.aload_n 0, 1) := by decide +kernel
theorem dX5_readLine_35 : decode cX5_readLine 35 = .ok (.bipush 6, 2) := by decide +kernel
theorem dX5_readLine_37 : decode cX5_readLine 37 = .ok (.invokevirtual 75, 3) := by decide +kernel
theorem dX5_readLine_40 : decode cX5_readLine 40 = .ok (.ireturn, 1) := by decide +kernel
theorem dX5_readLine_41 : decode cX5_readLine 41 = .ok (.iload_n 1, 1) := by decide +kernel
theorem dX5_readLine_42 : decode cX5_readLine 42 = .ok (.iconst 1, 1) := by decide +kernel
theorem dX5_readLine_43 : decode cX5_readLine 43 = .ok (.if_icmp .ne 8, 3) := by decide +kernel
theorem dX5_readLine_46 : decode cX5_readLine 46 = .ok (.aload_n 0, 1) := by decide +kernel
theorem dX5_readLine_47 : decode cX5_readLine 47 = .ok (.invokevirtual 122, 3) := by decide +kernel
theorem dX5_readLine_50 : decode cX5_readLine 50 = .ok (.ireturn, 1) := by decide +kernel
theorem dX5_readLine_51 : decode cX5_readLine 51 = .ok (.iload_n 1, 1) := by decide +kernel
theorem dX5_readLine_52 : decode cX5_readLine 52 = .ok (.iconst 2, 1) := by decide +kernel
theorem dX5_readLine_53 : decode cX5_readLine 53 = .ok (.if_icmp .ne 8, 3) := by decide +kernel
theorem dX5_readLine_56 : decode cX5_readLine 56 = .ok (.aload_n 0, 1) := by decide +kernel
theorem dX5_readLine_57 : decode cX5_readLine 57 = .ok (.invokevirtual 125, 3) := by decide +kernel
theorem dX5_readLine_60 : decode cX5_readLine 60 = .ok (.ireturn, 1) := by decide +kernel
theorem dX5_readLine_61 : decode cX5_readLine 61 = .ok (.iload_n 1, 1) := by decide +kernel
theorem dX5_readLine_62 : decode cX5_readLine 62 = .ok (.bipush 7, 2) := by decide +kernel
theorem dX5_readLine_64 : decode cX5_readLine 64 = .ok (.if_icmp .ne 10, 3) := by decide +kernel
theorem dX5_readLine_67 : decode cX5_readLine 67 = .ok (.aload_n 0, 1) := by decide +kernel
theorem dX5_readLine_68 : decode cX5_readLine 68 = .ok (.invokevirtual 128, 3) := by decide +kernel
theorem dX5_readLine_71 : decode cX5_readLine 71 = .ok (.goto 10, 3) := by decide +kernel
theorem dX5_readLine_74 : decode cX5_readLine 74 = .ok (.aload_n 0, 1) := by decide +kernel
theorem dX5_readLine_75 : decode cX5_readLine 75 = .ok (.iload_n 1, 1) := by decide +kernel
theorem dX5_readLine_76 : decode cX5_readLine 76 = .ok (.iconst 3, 1) := by decide +kernel
theorem dX5_readLine_77 : decode cX5_readLine 77 = .ok (.isub, 1) := by decide +kernel
theorem dX5_readLine_78 : decode cX5_readLine 78 = .ok (.invokevirtual 131, 3) := by decide +kernel
theorem dX5_readLine_81 : decode cX5_readLine 81 = .ok (.ireturn, 1) := by decide +kernel
theorem dX5_readCountyLine_0 : decode cX5_readCountyLine 0 = .ok (.aload_n 0, 1) := by decide +kernel
theorem dX5_readCountyLine_1 : decode cX5_readCountyLine 1 = .ok (.getfield 41, 3) := by decide +kernel
theorem dX5_readCountyLine_4 : decode cX5_readCountyLine 4 = .ok (.ifCond .eq 9, 3) := by decide +kernel
theorem dX5_readCountyLine_7 : decode cX5_readCountyLine 7 = .ok (.aload_n 0, 1) := by decide +kernel
theorem dX5_readCountyLine_8 : decode cX5_readCountyLine 8 = .ok (.iconst 3, 1) := by decide +kernel
theorem dX5_readCountyLine_9 : decode cX5_readCountyLine 9 = .ok (.invokevirtual 75, 3) := by decide +kernel
theorem dX5_readCountyLine_12 : decode cX5_readCountyLine 12 = .ok (.ireturn, 1) := by decide +kernel
theorem dX5_readCountyLine_13 : decode cX5_readCountyLine 13 = .ok (.aload_n 0, 1) := by decide +kernel
theorem dX5_readCountyLine_14 : decode cX5_readCountyLine 14 = .ok (.iconst 1, 1) := by decide +kernel
theorem dX5_readCountyLine_15 : decode cX5_readCountyLine 15 = .ok (.putfield 41, 3) := by decide +kernel
theorem dX5_readCountyLine_18 : decode cX5_readCountyLine 18 = .ok (.aload_n 0, 1) := by decide +kernel
theorem dX5_readCountyLine_19 : decode cX5_readCountyLine 19 = .ok (.invokevirtual 68, 3) := by decide +kernel
theorem dX5_readCountyLine_22 : decode cX5_readCountyLine 22 = .ok (.aload_n 0, 1) := by decide +kernel
theorem dX5_readCountyLine_23 : decode cX5_readCountyLine 23 = .ok (.ldc 134, 2) := by decide +kernel
theorem dX5_readCountyLine_25 : decode cX5_readCountyLine 25 = .ok (.iconst 1, 1) := by decide +kernel
theorem dX5_readCountyLine_26 : decode cX5_readCountyLine 26 = .ok (.bipush 30, 2) := by decide +kernel
theorem dX5_readCountyLine_28 : decode cX5_readCountyLine 28 = .ok (.invokevirtual 136, 3) := by decide +kernel
theorem dX5_readCountyLine_31 : decode cX5_readCountyLine 31 = .ok (.ifCond .ne 5, 3) := by decide +kernel
theorem dX5_readCountyLine_34 : decode cX5_readCountyLine 34 = .ok (.iconst 0, 1) := by decide +kernel
theorem dX5_readCountyLine_35 : decode cX5_readCountyLine 35 = .ok (.ireturn, 1) := by decide +kernel
theorem dX5_readCountyLine_36 : decode cX5_readCountyLine 36 = .ok (.aload_n 0, 1) := by decide +kernel
theorem dX5_readCountyLine_37 : decode cX5_readCountyLine 37 = .ok (.getfield 48, 3) := by decide +kernel
theorem dX5_readCountyLine_40 : decode cX5_readCountyLine 40 = .ok (.aload_n 0, 1) := by decide +kernel
theorem dX5_readCountyLine_41 : decode cX5_readCountyLine 41 = .ok (.getfield 38, 3) := by decide +kernel
theorem dX5_readCountyLine_44 : decode cX5_readCountyLine 44 = .ok (.putfield 140, 3) := by decide +kernel
theorem dX5_readCountyLine_47 : decode cX5_readCountyLine 47 = .ok (.aload_n 0, 1) := by decide +kernel
theorem dX5_readCountyLine_48 : decode cX5_readCountyLine 48 = .ok (.ldc 142, 2) := by decide +kernel
theorem dX5_readCountyLine_50 : decode cX5_readCountyLine 50 = .ok (.iconst 0, 1) := by decide +kernel
theorem dX5_readCountyLine_51 : decode cX5_readCountyLine 51 = .ok (.bipush 99, 2) := by decide +kernel
theorem dX5_readCountyLine_53 : decode cX5_readCountyLine 53 = .ok (.invokevirtual 136, 3) := by decide +kernel
theorem dX5_readCountyLine_56 : decode cX5_readCountyLine 56 = .ok (.ifCond .ne 5, 3) := by decide +kernel
theorem dX5_readCountyLine_59 : decode cX5_readCountyLine 59 = .ok (.iconst 0, 1) := by decide +kernel
theorem dX5_readCountyLine_60 : decode cX5_readCountyLine 60 = .ok (.ireturn, 1) := by decide +kernel
theorem dX5_readCountyLine_61 : decode cX5_readCountyLine 61 = .ok (.aload_n 0, 1) := by decide +kernel
theorem dX5_readCountyLine_62 : decode cX5_readCountyLine 62 = .ok (.getfield 48, 3) := by decide +kernel
theorem dX5_readCountyLine_65 : decode cX5_readCountyLine 65 = .ok (.aload_n 0, 1) := by decide +kernel
theorem dX5_readCountyLine_66 : decode cX5_readCountyLine 66 = .ok (.getfield 38, 3) := by decide +kernel
theorem dX5_readCountyLine_69 : decode cX5_readCountyLine 69 = .ok (.putfield 144, 3) := by decide +kernel
theorem dX5_readCountyLine_72 : decode cX5_readCountyLine 72 = .ok (.aload_n 0, 1) := by decide +kernel
theorem dX5_readCountyLine_73 : decode cX5_readCountyLine 73 = .ok (.ldc 146, 2) := by decide +kernel
theorem dX5_readCountyLine_75 : decode cX5_readCountyLine 75 = .ok (.iconst 0, 1) := by decide +kernel
theorem dX5_readCountyLine_76 : decode cX5_readCountyLine 76 = .ok (.bipush 99, 2) := by decide +kernel
theorem dX5_readCountyLine_78 : decode cX5_readCountyLine 78 = .ok (.invokevirtual 136, 3) := by decide +kernel
theorem dX5_readCountyLine_81 : decode cX5_readCountyLine 81 = .ok (.ifCond .ne 5, 3) := by decide +kernel
theorem dX5_readCountyLine_84 : decode cX5_readCountyLine 84 = .ok (.iconst 0, 1) := by decide +kernel
theorem dX5_readCountyLine_85 : decode cX5_readCountyLine 85 = .ok (.ireturn, 1) := by decide +kernel
theorem dX5_readCountyLine_86 : decode cX5_readCountyLine 86 = .ok (.aload_n 0, 1) := by decide +kernel
theorem dX5_readCountyLine_87 : decode cX5_readCountyLine 87 = .ok (.getfield 48, 3) := by decide +kernel
theorem dX5_readCountyLine_90 : decode cX5_readCountyLine 90 = .ok (.aload_n 0, 1) := by decide +kernel
theorem dX5_readCountyLine_91 : decode cX5_readCountyLine 91 = .ok (.getfield 38, 3) := by decide +kernel
theorem dX5_readCountyLine_94 : decode cX5_readCountyLine 94 = .ok (.putfield 148, 3) := by decide +kernel
theorem dX5_readCountyLine_97 : decode cX5_readCountyLine 97 = .ok (.iconst 1, 1) := by decide +kernel
theorem dX5_readCountyLine_98 : decode cX5_readCountyLine 98 = .ok (.ireturn, 1) := by decide +kernel
theorem dX5_readPersonLine_0 : decode cX5_readPersonLine 0 = .ok (.aload_n 0, 1) := by decide +kernel
theorem dX5_readPersonLine_1 : decode cX5_readPersonLine 1 = .ok (.getfield 48, 3) := by decide +kernel
theorem dX5_readPersonLine_4 : decode cX5_readPersonLine 4 = .ok (.getfield 79, 3) := by decide +kernel
theorem dX5_readPersonLine_7 : decode cX5_readPersonLine 7 = .ok (.istore_n 1, 1) := by decide +kernel
theorem dX5_readPersonLine_8 : decode cX5_readPersonLine 8 = .ok (.iload_n 1, 1) := by decide +kernel
theorem dX5_readPersonLine_9 : decode cX5_readPersonLine 9 = .ok (.bipush 6, 2) := by decide +kernel
theorem dX5_readPersonLine_11 : decode cX5_readPersonLine 11 = .ok (.if_icmp .lt 9, 3) := by decide +kernel
theorem dX5_readPersonLine_14 : decode cX5_readPersonLine 14 = .ok (.aload_n 0, 1) := by decide +kernel
theorem dX5_readPersonLine_15 : decode cX5_readPersonLine 15 = .ok (.iconst 5, 1) := by decide +kernel
theorem dX5_readPersonLine_16 : decode cX5_readPersonLine 16 = .ok (.invokevirtual 75, 3) := by decide +kernel
theorem dX5_readPersonLine_19 : decode cX5_readPersonLine 19 = .ok (.ireturn, 1) := by decide +kernel
theorem dX5_readPersonLine_20 : decode cX5_readPersonLine 20 = .ok (.aload_n 0, 1) := by decide +kernel
theorem dX5_readPersonLine_21 : decode cX5_readPersonLine 21 = .ok (.invokevirtual 68, 3) := by decide +kernel
theorem dX5_readPersonLine_24 : decode cX5_readPersonLine 24 = .ok (.aload_n 0, 1) := by decide +kernel
theorem dX5_readPersonLine_25 : decode cX5_readPersonLine 25 = .ok (.getfield 52, 3) := by decide +kernel
theorem dX5_readPersonLine_28 : decode cX5_readPersonLine 28 = .ok (.iload_n 1, 1) := by decide +kernel
theorem dX5_readPersonLine_29 : decode cX5_readPersonLine 29 = .ok (.aload_n 0, 1) := by decide +kernel
theorem dX5_readPersonLine_30 : decode cX5_readPersonLine 30 = .ok (.getfield 34, 3) := by decide +kernel
theorem dX5_readPersonLine_33 : decode cX5_readPersonLine 33 = .ok (.lastore, 1) := by decide +kernel
theorem dX5_readPersonLine_34 : decode cX5_readPersonLine 34 = .ok (.aload_n 0, 1) := by decide +kernel
theorem dX5_readPersonLine_35 : decode cX5_readPersonLine 35 = .ok (.invokevirtual 150, 3) := by decide +kernel
theorem dX5_readPersonLine_38 : decode cX5_readPersonLine 38 = .ok (.ifCond .eq 12, 3) := by decide +kernel
theorem dX5_readPersonLine_41 : decode cX5_readPersonLine 41 = .ok (.aload_n 0, 1) := by decide +kernel
theorem dX5_readPersonLine_42 : decode cX5_readPersonLine 42 = .ok (.ldc 153, 2) := by decide +kernel
theorem dX5_readPersonLine_44 : decode cX5_readPersonLine 44 = .ok (.invokevirtual 155, 3) := by decide +kernel
theorem dX5_readPersonLine_47 : decode cX5_readPersonLine 47 = .ok (.ifCond .ne 5, 3) := by decide +kernel
theorem dX5_readPersonLine_50 : decode cX5_readPersonLine 50 = .ok (.iconst 0, 1) := by decide +kernel
theorem dX5_readPersonLine_51 : decode cX5_readPersonLine 51 = .ok (.ireturn, 1) := by decide +kernel
theorem dX5_readPersonLine_52 : decode cX5_readPersonLine 52 = .ok (.aload_n 0, 1) := by decide +kernel
theorem dX5_readPersonLine_53 : decode cX5_readPersonLine 53 = .ok (.getfield 48, 3) := by decide +kernel
theorem dX5_readPersonLine_56 : decode cX5_readPersonLine 56 = .ok (.getfield 159, 3) := by decide +kernel
theorem dX5_readPersonLine_59 : decode cX5_readPersonLine 59 = .ok (.iload_n 1, 1) := by decide +kernel
theorem dX5_readPersonLine_60 : decode cX5_readPersonLine 60 = .ok (.aload_n 0, 1) := by decide +kernel
theorem dX5_readPersonLine_61 : decode cX5_readPersonLine 61 = .ok (.getfield 38, 3) := by decide +kernel
theorem dX5_readPersonLine_64 : decode cX5_readPersonLine 64 = .ok (.iastore, 1) := by decide +kernel
theorem dX5_readPersonLine_65 : decode cX5_readPersonLine 65 = .ok (.aload_n 0, 1) := by decide +kernel
theorem dX5_readPersonLine_66 : decode cX5_readPersonLine 66 = .ok (.getfield 48, 3) := by decide +kernel
theorem dX5_readPersonLine_69 : decode cX5_readPersonLine 69 = .ok (.iload_n 1, 1) := by decide +kernel
theorem dX5_readPersonLine_70 : decode cX5_readPersonLine 70 = .ok (.iconst 1, 1) := by decide +kernel
theorem dX5_readPersonLine_71 : decode cX5_readPersonLine 71 = .ok (.iadd, 1) := by decide +kernel
theorem dX5_readPersonLine_72 : decode cX5_readPersonLine 72 = .ok (.putfield 79, 3) := by decide +kernel
theorem dX5_readPersonLine_75 : decode cX5_readPersonLine 75 = .ok (.iconst 1, 1) := by decide +kernel
theorem dX5_readPersonLine_76 : decode cX5_readPersonLine 76 = .ok (.ireturn, 1) := by decide +kernel
theorem dX5_readUmbrellaLine_0 : decode cX5_readUmbrellaLine 0 = .ok (.aload_n 0, 1) := by decide +kernel
theorem dX5_readUmbrellaLine_1 : decode cX5_readUmbrellaLine 1 = .ok (.getfield 48, 3) := by decide +kernel
theorem dX5_readUmbrellaLine_4 : decode cX5_readUmbrellaLine 4 = .ok (.getfield 82, 3) := by decide +kernel
theorem dX5_readUmbrellaLine_7 : decode cX5_readUmbrellaLine 7 = .ok (.istore_n 1, 1) := by decide +kernel
theorem dX5_readUmbrellaLine_8 : decode cX5_readUmbrellaLine 8 = .ok (.iload_n 1, 1) := by decide +kernel
theorem dX5_readUmbrellaLine_9 : decode cX5_readUmbrellaLine 9 = .ok (.iconst 5, 1) := by decide +kernel
theorem dX5_readUmbrellaLine_10 : decode cX5_readUmbrellaLine 10 = .ok (.if_icmp .lt 9, 3) := by decide +kernel
theorem dX5_readUmbrellaLine_13 : decode cX5_readUmbrellaLine 13 = .ok (.aload_n 0, 1) := by decide +kernel
theorem dX5_readUmbrellaLine_14 : decode cX5_readUmbrellaLine 14 = .ok (.iconst 5, 1) := by decide +kernel
theorem dX5_readUmbrellaLine_15 : decode cX5_readUmbrellaLine 15 = .ok (.invokevirtual 75, 3) := by decide +kernel
theorem dX5_readUmbrellaLine_18 : decode cX5_readUmbrellaLine 18 = .ok (.ireturn, 1) := by decide +kernel
theorem dX5_readUmbrellaLine_19 : decode cX5_readUmbrellaLine 19 = .ok (.aload_n 0, 1) := by decide +kernel
theorem dX5_readUmbrellaLine_20 : decode cX5_readUmbrellaLine 20 = .ok (.invokevirtual 68, 3) := by decide +kernel
theorem dX5_readUmbrellaLine_23 : decode cX5_readUmbrellaLine 23 = .ok (.aload_n 0, 1) := by decide +kernel
theorem dX5_readUmbrellaLine_24 : decode cX5_readUmbrellaLine 24 = .ok (.getfield 56, 3) := by decide +kernel
theorem dX5_readUmbrellaLine_27 : decode cX5_readUmbrellaLine 27 = .ok (.iload_n 1, 1) := by decide +kernel
theorem dX5_readUmbrellaLine_28 : decode cX5_readUmbrellaLine 28 = .ok (.aload_n 0, 1) := by decide +kernel
theorem dX5_readUmbrellaLine_29 : decode cX5_readUmbrellaLine 29 = .ok (.getfield 34, 3) := by decide +kernel
theorem dX5_readUmbrellaLine_32 : decode cX5_readUmbrellaLine 32 = .ok (.lastore, 1) := by decide +kernel
theorem dX5_readUmbrellaLine_33 : decode cX5_readUmbrellaLine 33 = .ok (.aload_n 0, 1) := by decide +kernel
theorem dX5_readUmbrellaLine_34 : decode cX5_readUmbrellaLine 34 = .ok (.invokevirtual 150, 3) := by decide +kernel
theorem dX5_readUmbrellaLine_37 : decode cX5_readUmbrellaLine 37 = .ok (.ifCond .eq 12, 3) := by decide +kernel
theorem dX5_readUmbrellaLine_40 : decode cX5_readUmbrellaLine 40 = .ok (.aload_n 0, 1) := by decide +kernel
theorem dX5_readUmbrellaLine_41 : decode cX5_readUmbrellaLine 41 = .ok (.ldc 163, 2) := by decide +kernel
theorem dX5_readUmbrellaLine_43 : decode cX5_readUmbrellaLine 43 = .ok (.invokevirtual 155, 3) := by decide +kernel
theorem dX5_readUmbrellaLine_46 : decode cX5_readUmbrellaLine 46 = .ok (.ifCond .ne 5, 3) := by decide +kernel
theorem dX5_readUmbrellaLine_49 : decode cX5_readUmbrellaLine 49 = .ok (.iconst 0, 1) := by decide +kernel
theorem dX5_readUmbrellaLine_50 : decode cX5_readUmbrellaLine 50 = .ok (.ireturn, 1) := by decide +kernel
theorem dX5_readUmbrellaLine_51 : decode cX5_readUmbrellaLine 51 = .ok (.aload_n 0, 1) := by decide +kernel
theorem dX5_readUmbrellaLine_52 : decode cX5_readUmbrellaLine 52 = .ok (.getfield 48, 3) := by decide +kernel
theorem dX5_readUmbrellaLine_55 : decode cX5_readUmbrellaLine 55 = .ok (.getfield 165, 3) := by decide +kernel
theorem dX5_readUmbrellaLine_58 : decode cX5_readUmbrellaLine 58 = .ok (.iload_n 1, 1) := by decide +kernel
theorem dX5_readUmbrellaLine_59 : decode cX5_readUmbrellaLine 59 = .ok (.aload_n 0, 1) := by decide +kernel
theorem dX5_readUmbrellaLine_60 : decode cX5_readUmbrellaLine 60 = .ok (.getfield 38, 3) := by decide +kernel
theorem dX5_readUmbrellaLine_63 : decode cX5_readUmbrellaLine 63 = .ok (.iastore, 1) := by decide +kernel
theorem dX5_readUmbrellaLine_64 : decode cX5_readUmbrellaLine 64 = .ok (.aload_n 0, 1) := by decide +kernel
theorem dX5_readUmbrellaLine_65 : decode cX5_readUmbrellaLine 65 = .ok (.ldc 168, 2) := by decide +kernel
theorem dX5_readUmbrellaLine_67 : decode cX5_readUmbrellaLine 67 = .ok (.iconst 0, 1) := by decide +kernel
theorem dX5_readUmbrellaLine_68 : decode cX5_readUmbrellaLine 68 = .ok (.bipush 99, 2) := by decide +kernel
theorem dX5_readUmbrellaLine_70 : decode cX5_readUmbrellaLine 70 = .ok (.invokevirtual 136, 3) := by decide +kernel
theorem dX5_readUmbrellaLine_73 : decode cX5_readUmbrellaLine 73 = .ok (.ifCond .ne 5, 3) := by decide +kernel
theorem dX5_readUmbrellaLine_76 : decode cX5_readUmbrellaLine 76 = .ok (.iconst 0, 1) := by decide +kernel
theorem dX5_readUmbrellaLine_77 : decode cX5_readUmbrellaLine 77 = .ok (.ireturn, 1) := by decide +kernel
theorem dX5_readUmbrellaLine_78 : decode cX5_readUmbrellaLine 78 = .ok (.aload_n 0, 1) := by decide +kernel
theorem dX5_readUmbrellaLine_79 : decode cX5_readUmbrellaLine 79 = .ok (.getfield 48, 3) := by decide +kernel
theorem dX5_readUmbrellaLine_82 : decode cX5_readUmbrellaLine 82 = .ok (.getfield 170, 3) := by decide +kernel
theorem dX5_readUmbrellaLine_85 : decode cX5_readUmbrellaLine 85 = .ok (.iload_n 1, 1) := by decide +kernel
theorem dX5_readUmbrellaLine_86 : decode cX5_readUmbrellaLine 86 = .ok (.aload_n 0, 1) := by decide +kernel
theorem dX5_readUmbrellaLine_87 : decode cX5_readUmbrellaLine 87 = .ok (.getfield 38, 3) := by decide +kernel
theorem dX5_readUmbrellaLine_90 : decode cX5_readUmbrellaLine 90 = .ok (.iastore, 1) := by decide +kernel
theorem dX5_readUmbrellaLine_91 : decode cX5_readUmbrellaLine 91 = .ok (.aload_n 0, 1) := by decide +kernel
theorem dX5_readUmbrellaLine_92 : decode cX5_readUmbrellaLine 92 = .ok (.ldc 172, 2) := by decide +kernel
theorem dX5_readUmbrellaLine_94 : decode cX5_readUmbrellaLine 94 = .ok (.iconst 4, 1) := by decide +kernel
theorem dX5_readUmbrellaLine_95 : decode cX5_readUmbrellaLine 95 = .ok (.bipush 12, 2) := by decide +kernel
theorem dX5_readUmbrellaLine_97 : decode cX5_readUmbrellaLine 97 = .ok (.invokevirtual 136, 3) := by decide +kernel
theorem dX5_readUmbrellaLine_100 : decode cX5_readUmbrellaLine 100 = .ok (.ifCond .ne 5, 3) := by decide +kernel
theorem dX5_readUmbrellaLine_103 : decode cX5_readUmbrellaLine 103 = .ok (.iconst 0, 1) := by decide +kernel
theorem dX5_readUmbrellaLine_104 : decode cX5_readUmbrellaLine 104 = .ok (.ireturn, 1) := by decide +kernel
theorem dX5_readUmbrellaLine_105 : decode cX5_readUmbrellaLine 105 = .ok (.aload_n 0, 1) := by decide +kernel
theorem dX5_readUmbrellaLine_106 : decode cX5_readUmbrellaLine 106 = .ok (.getfield 48, 3) := by decide +kernel
theorem dX5_readUmbrellaLine_109 : decode cX5_readUmbrellaLine 109 = .ok (.getfield 174, 3) := by decide +kernel
theorem dX5_readUmbrellaLine_112 : decode cX5_readUmbrellaLine 112 = .ok (.iload_n 1, 1) := by decide +kernel
theorem dX5_readUmbrellaLine_113 : decode cX5_readUmbrellaLine 113 = .ok (.aload_n 0, 1) := by decide +kernel
theorem dX5_readUmbrellaLine_114 : decode cX5_readUmbrellaLine 114 = .ok (.getfield 38, 3) := by decide +kernel
theorem dX5_readUmbrellaLine_117 : decode cX5_readUmbrellaLine 117 = .ok (.iastore, 1) := by decide +kernel
theorem dX5_readUmbrellaLine_118 : decode cX5_readUmbrellaLine 118 = .ok (.aload_n 0, 1) := by decide +kernel
theorem dX5_readUmbrellaLine_119 : decode cX5_readUmbrellaLine 119 = .ok (.getfield 48, 3) := by decide +kernel
theorem dX5_readUmbrellaLine_122 : decode cX5_readUmbrellaLine 122 = .ok (.getfield 176, 3) := by decide +kernel
theorem dX5_readUmbrellaLine_125 : decode cX5_readUmbrellaLine 125 = .ok (.iload_n 1, 1) := by decide +kernel
theorem dX5_readUmbrellaLine_126 : decode cX5_readUmbrellaLine 126 = .ok (.bipush (-2), 2) := by decide +kernel
theorem dX5_readUmbrellaLine_128 : decode cX5_readUmbrellaLine 128 = .ok (.iastore, 1) := by decide +kernel
theorem dX5_readUmbrellaLine_129 : decode cX5_readUmbrellaLine 129 = .ok (.aload_n 0, 1) := by decide +kernel
theorem dX5_readUmbrellaLine_130 : decode cX5_readUmbrellaLine 130 = .ok (.ldc 179, 2) := by decide +kernel
theorem dX5_readUmbrellaLine_132 : decode cX5_readUmbrellaLine 132 = .ok (.invokevirtual 104, 3) := by decide +kernel
theorem dX5_readUmbrellaLine_135 : decode cX5_readUmbrellaLine 135 = .ok (.iconst (-1), 1) := by decide +kernel
theorem dX5_readUmbrellaLine_136 : decode cX5_readUmbrellaLine 136 = .ok (.if_icmp .eq 33, 3) := by decide +kernel
theorem dX5_readUmbrellaLine_139 : decode cX5_readUmbrellaLine 139 = .ok (.aload_n 0, 1) := by decide +kernel
theorem dX5_readUmbrellaLine_140 : decode cX5_readUmbrellaLine 140 = .ok (.invokevirtual 68, 3) := by decide +kernel
theorem dX5_readUmbrellaLine_143 : decode cX5_readUmbrellaLine 143 = .ok (.aload_n 0, 1) := by decide +kernel
theorem dX5_readUmbrellaLine_144 : decode cX5_readUmbrellaLine 144 = .ok (.aload_n 0, 1) := by decide +kernel
theorem dX5_readUmbrellaLine_145 : decode cX5_readUmbrellaLine 145 = .ok (.invokevirtual 113, 3) := by decide +kernel
theorem dX5_readUmbrellaLine_148 : decode cX5_readUmbrellaLine 148 = .ok (.invokevirtual 181, 3) := by decide +kernel
theorem dX5_readUmbrellaLine_151 : decode cX5_readUmbrellaLine 151 = .ok (.ifCond .ne 5, 3) := by decide +kernel
theorem dX5_readUmbrellaLine_154 : decode cX5_readUmbrellaLine 154 = .ok (.iconst 0, 1) := by decide +kernel
theorem dX5_readUmbrellaLine_155 : decode cX5_readUmbrellaLine 155 = .ok (.ireturn, 1) := by decide +kernel
theorem dX5_readUmbrellaLine_156 : decode cX5_readUmbrellaLine 156 = .ok (.aload_n 0, 1) := by decide +kernel
theorem dX5_readUmbrellaLine_157 : decode cX5_readUmbrellaLine 157 = .ok (.getfield 48, 3) := by decide +kernel
theorem dX5_readUmbrellaLine_160 : decode cX5_readUmbrellaLine 160 = .ok (.getfield 176, 3) := by decide +kernel
theorem dX5_readUmbrellaLine_163 : decode cX5_readUmbrellaLine 163 = .ok (.iload_n 1, 1) := by decide +kernel
theorem dX5_readUmbrellaLine_164 : decode cX5_readUmbrellaLine 164 = .ok (.aload_n 0, 1) := by decide +kernel
theorem dX5_readUmbrellaLine_165 : decode cX5_readUmbrellaLine 165 = .ok (.getfield 38, 3) := by decide +kernel
theorem dX5_readUmbrellaLine_168 : decode cX5_readUmbrellaLine 168 = .ok (.iastore, 1) := by decide +kernel
theorem dX5_readUmbrellaLine_169 : decode cX5_readUmbrellaLine 169 = .ok (.aload_n 0, 1) := by decide +kernel
theorem dX5_readUmbrellaLine_170 : decode cX5_readUmbrellaLine 170 = .ok (.getfield 48, 3) := by decide +kernel
theorem dX5_readUmbrellaLine_173 : decode cX5_readUmbrellaLine 173 = .ok (.iload_n 1, 1) := by decide +kernel
theorem dX5_readUmbrellaLine_174 : decode cX5_readUmbrellaLine 174 = .ok (.iconst 1, 1) := by decide +kernel
theorem dX5_readUmbrellaLine_175 : decode cX5_readUmbrellaLine 175 = .ok (.iadd, 1) := by decide +kernel
theorem dX5_readUmbrellaLine_176 : decode cX5_readUmbrellaLine 176 = .ok (.putfield 82, 3) := by decide +kernel
theorem dX5_readUmbrellaLine_179 : decode cX5_readUmbrellaLine 179 = .ok (.iconst 1, 1) := by decide +kernel
theorem dX5_readUmbrellaLine_180 : decode cX5_readUmbrellaLine 180 = .ok (.ireturn, 1) := by decide +kernel
theorem dX5_readLogLine_0 : decode cX5_readLogLine 0 = .ok (.aload_n 0, 1) := by decide +kernel
theorem dX5_readLogLine_1 : decode cX5_readLogLine 1 = .ok (.getfield 48, 3) := by decide +kernel
theorem dX5_readLogLine_4 : decode cX5_readLogLine 4 = .ok (.getfield 184, 3) := by decide +kernel
theorem dX5_readLogLine_7 : decode cX5_readLogLine 7 = .ok (.invokevirtual 188, 3) := by decide +kernel
theorem dX5_readLogLine_10 : decode cX5_readLogLine 10 = .ok (.ifCond .eq 9, 3) := by decide +kernel
theorem dX5_readLogLine_13 : decode cX5_readLogLine 13 = .ok (.aload_n 0, 1) := by decide +kernel
theorem dX5_readLogLine_14 : decode cX5_readLogLine 14 = .ok (.iconst 5, 1) := by decide +kernel
theorem dX5_readLogLine_15 : decode cX5_readLogLine 15 = .ok (.invokevirtual 75, 3) := by decide +kernel
theorem dX5_readLogLine_18 : decode cX5_readLogLine 18 = .ok (.ireturn, 1) := by decide +kernel
theorem dX5_readLogLine_19 : decode cX5_readLogLine 19 = .ok (.aload_n 0, 1) := by decide +kernel
theorem dX5_readLogLine_20 : decode cX5_readLogLine 20 = .ok (.invokevirtual 68, 3) := by decide +kernel
theorem dX5_readLogLine_23 : decode cX5_readLogLine 23 = .ok (.iconst (-1), 1) := by decide +kernel
theorem dX5_readLogLine_24 : decode cX5_readLogLine 24 = .ok (.istore_n 2, 1) := by decide +kernel
theorem dX5_readLogLine_25 : decode cX5_readLogLine 25 = .ok (.iconst (-1), 1) := by decide +kernel
theorem dX5_readLogLine_26 : decode cX5_readLogLine 26 = .ok (.istore_n 3, 1) := by decide +kernel
theorem dX5_readLogLine_27 : decode cX5_readLogLine 27 = .ok (.iload_n 1, 1) := by decide +kernel
theorem dX5_readLogLine_28 : decode cX5_readLogLine 28 = .ok (.iconst 3, 1) := by decide +kernel
theorem dX5_readLogLine_29 : decode cX5_readLogLine 29 = .ok (.if_icmp .eq 21, 3) := by decide +kernel
theorem dX5_readLogLine_32 : decode cX5_readLogLine 32 = .ok (.aload_n 0, 1) := by decide +kernel
theorem dX5_readLogLine_33 : decode cX5_readLogLine 33 = .ok (.aload_n 0, 1) := by decide +kernel
theorem dX5_readLogLine_34 : decode cX5_readLogLine 34 = .ok (.invokevirtual 116, 3) := by decide +kernel
theorem dX5_readLogLine_37 : decode cX5_readLogLine 37 = .ok (.invokevirtual 181, 3) := by decide +kernel
theorem dX5_readLogLine_40 : decode cX5_readLogLine 40 = .ok (.ifCond .ne 5, 3) := by decide +kernel
theorem dX5_readLogLine_43 : decode cX5_readLogLine 43 = .ok (.iconst 0, 1) := by decide +kernel
theorem dX5_readLogLine_44 : decode cX5_readLogLine 44 = .ok (.ireturn, 1) := by decide +kernel
theorem dX5_readLogLine_45 : decode cX5_readLogLine 45 = .ok (.aload_n 0, 1) := by decide +kernel
theorem dX5_readLogLine_46 : decode cX5_readLogLine 46 = .ok (.getfield 38, 3) := by decide +kernel
theorem dX5_readLogLine_49 : decode cX5_readLogLine 49 = .ok (.istore_n 2, 1) := by decide +kernel
theorem dX5_readLogLine_50 : decode cX5_readLogLine 50 = .ok (.iload_n 1, 1) := by decide +kernel
theorem dX5_readLogLine_51 : decode cX5_readLogLine 51 = .ok (.ifCond .eq 8, 3) := by decide +kernel
theorem dX5_readLogLine_54 : decode cX5_readLogLine 54 = .ok (.iload_n 1, 1) := by decide +kernel
theorem dX5_readLogLine_55 : decode cX5_readLogLine 55 = .ok (.iconst 2, 1) := by decide +kernel
theorem dX5_readLogLine_56 : decode cX5_readLogLine 56 = .ok (.if_icmp .ne 58, 3) := by decide +kernel
theorem dX5_readLogLine_59 : decode cX5_readLogLine 59 = .ok (.iload_n 1, 1) := by decide +kernel
theorem dX5_readLogLine_60 : decode cX5_readLogLine 60 = .ok (.iconst 2, 1) := by decide +kernel
theorem dX5_readLogLine_61 : decode cX5_readLogLine 61 = .ok (.if_icmp .ne 24, 3) := by decide +kernel
theorem dX5_readLogLine_64 : decode cX5_readLogLine 64 = .ok (.aload_n 0, 1) := by decide +kernel
theorem dX5_readLogLine_65 : decode cX5_readLogLine 65 = .ok (.invokevirtual 110, 3) := by decide +kernel
theorem dX5_readLogLine_68 : decode cX5_readLogLine 68 = .ok (.ifCond .eq 17, 3) := by decide +kernel
theorem dX5_readLogLine_71 : decode cX5_readLogLine 71 = .ok (.aload_n 0, 1) := by decide +kernel
theorem dX5_readLogLine_72 : decode cX5_readLogLine 72 = .ok (.invokevirtual 116, 3) := by decide +kernel
theorem dX5_readLogLine_75 : decode cX5_readLogLine 75 = .ok (.iload_n 2, 1) := by decide +kernel
theorem dX5_readLogLine_76 : decode cX5_readLogLine 76 = .ok (.if_icmp .ne 9, 3) := by decide +kernel
theorem dX5_readLogLine_79 : decode cX5_readLogLine 79 = .ok (.aload_n 0, 1) := by decide +kernel
theorem dX5_readLogLine_80 : decode cX5_readLogLine 80 = .ok (.iconst 3, 1) := by decide +kernel
theorem dX5_readLogLine_81 : decode cX5_readLogLine 81 = .ok (.invokevirtual 75, 3) := by decide +kernel
theorem dX5_readLogLine_84 : decode cX5_readLogLine 84 = .ok (.ireturn, 1) := by decide +kernel
theorem dX5_readLogLine_85 : decode cX5_readLogLine 85 = .ok (.aload_n 0, 1) := by decide +kernel
theorem dX5_readLogLine_86 : decode cX5_readLogLine 86 = .ok (.iload_n 1, 1) := by decide +kernel
theorem dX5_readLogLine_87 : decode cX5_readLogLine 87 = .ok (.ifCond .ne 10, 3) := by decide +kernel
theorem dX5_readLogLine_90 : decode cX5_readLogLine 90 = .ok (.aload_n 0, 1) := by decide +kernel
theorem dX5_readLogLine_91 : decode cX5_readLogLine 91 = .ok (.invokevirtual 113, 3) := by decide +kernel
theorem dX5_readLogLine_94 : decode cX5_readLogLine 94 = .ok (.goto 7, 3) := by decide +kernel
theorem dX5_readLogLine_97 : decode cX5_readLogLine 97 = .ok (.aload_n 0, 1) := by decide +kernel
theorem dX5_readLogLine_98 : decode cX5_readLogLine 98 = .ok (.invokevirtual 116, 3) := by decide +kernel
theorem dX5_readLogLine_101 : decode cX5_readLogLine 101 = .ok (.invokevirtual 181, 3) := by decide +kernel
theorem dX5_readLogLine_104 : decode cX5_readLogLine 104 = .ok (.ifCond .ne 5, 3) := by decide +kernel
theorem dX5_readLogLine_107 : decode cX5_readLogLine 107 = .ok (.iconst 0, 1) := by decide +kernel
theorem dX5_readLogLine_108 : decode cX5_readLogLine 108 = .ok (.ireturn, 1) := by decide +kernel
theorem dX5_readLogLine_109 : decode cX5_readLogLine 109 = .ok (.aload_n 0, 1) := by decide +kernel
theorem dX5_readLogLine_110 : decode cX5_readLogLine 110 = .ok (.getfield 38, 3) := by decide +kernel
theorem dX5_readLogLine_113 : decode cX5_readLogLine 113 = .ok (.istore_n 3, 1) := by decide +kernel
theorem dX5_readLogLine_114 : decode cX5_readLogLine 114 = .ok (.aload_n 0, 1) := by decide +kernel
theorem dX5_readLogLine_115 : decode cX5_readLogLine 115 = .ok (.getfield 48, 3) := by decide +kernel
theorem dX5_readLogLine_118 : decode cX5_readLogLine 118 = .ok (.getfield 184, 3) := by decide +kernel
theorem dX5_readLogLine_121 : decode cX5_readLogLine 121 = .ok (.getfield 193, 3) := by decide +kernel
theorem dX5_readLogLine_124 : decode cX5_readLogLine 124 = .ok (.ifCond .ne 7, 3) := by decide +kernel
theorem dX5_readLogLine_127 : decode cX5_readLogLine 127 = .ok (.iconst 0, 1) := by decide +kernel
theorem dX5_readLogLine_128 : decode cX5_readLogLine 128 = .ok (.goto 26, 3) := by decide +kernel
theorem dX5_readLogLine_131 : decode cX5_readLogLine 131 = .ok (.aload_n 0, 1) := by decide +kernel
theorem dX5_readLogLine_132 : decode cX5_readLogLine 132 = .ok (.getfield 48, 3) := by decide +kernel
theorem dX5_readLogLine_135 : decode cX5_readLogLine 135 = .ok (.getfield 184, 3) := by decide +kernel
theorem dX5_readLogLine_138 : decode cX5_readLogLine 138 = .ok (.getfield 196, 3) := by decide +kernel
theorem dX5_readLogLine_141 : decode cX5_readLogLine 141 = .ok (.aload_n 0, 1) := by decide +kernel
theorem dX5_readLogLine_142 : decode cX5_readLogLine 142 = .ok (.getfield 48, 3) := by decide +kernel
theorem dX5_readLogLine_145 : decode cX5_readLogLine 145 = .ok (.getfield 184, 3) := by decide +kernel
theorem dX5_readLogLine_148 : decode cX5_readLogLine 148 = .ok (.getfield 193, 3) := by decide +kernel
theorem dX5_readLogLine_151 : decode cX5_readLogLine 151 = .ok (.iconst 1, 1) := by decide +kernel
theorem dX5_readLogLine_152 : decode cX5_readLogLine 152 = .ok (.isub, 1) := by decide +kernel
theorem dX5_readLogLine_153 : decode cX5_readLogLine 153 = .ok (.iaload, 1) := by decide +kernel
theorem dX5_readLogLine_154 : decode cX5_readLogLine 154 = .ok (.istore 4, 2) := by decide +kernel
theorem dX5_readLogLine_156 : decode cX5_readLogLine 156 = .ok (.aload_n 0, 1) := by decide +kernel
theorem dX5_readLogLine_157 : decode cX5_readLogLine 157 = .ok (.ldc 199, 2) := by decide +kernel
theorem dX5_readLogLine_159 : decode cX5_readLogLine 159 = .ok (.iload 4, 2) := by decide +kernel
theorem dX5_readLogLine_161 : decode cX5_readLogLine 161 = .ok (.bipush 40, 2) := by decide +kernel
theorem dX5_readLogLine_163 : decode cX5_readLogLine 163 = .ok (.invokevirtual 136, 3) := by decide +kernel
theorem dX5_readLogLine_166 : decode cX5_readLogLine 166 = .ok (.ifCond .ne 5, 3) := by decide +kernel
theorem dX5_readLogLine_169 : decode cX5_readLogLine 169 = .ok (.iconst 0, 1) := by decide +kernel
theorem dX5_readLogLine_170 : decode cX5_readLogLine 170 = .ok (.ireturn, 1) := by decide +kernel
theorem dX5_readLogLine_171 : decode cX5_readLogLine 171 = .ok (.aload_n 0, 1) := by decide +kernel
theorem dX5_readLogLine_172 : decode cX5_readLogLine 172 = .ok (.getfield 48, 3) := by decide +kernel
theorem dX5_readLogLine_175 : decode cX5_readLogLine 175 = .ok (.getfield 184, 3) := by decide +kernel
theorem dX5_readLogLine_178 : decode cX5_readLogLine 178 = .ok (.iload_n 1, 1) := by decide +kernel
theorem dX5_readLogLine_179 : decode cX5_readLogLine 179 = .ok (.iload_n 2, 1) := by decide +kernel
theorem dX5_readLogLine_180 : decode cX5_readLogLine 180 = .ok (.iload_n 3, 1) := by decide +kernel
theorem dX5_readLogLine_181 : decode cX5_readLogLine 181 = .ok (.aload_n 0, 1) := by decide +kernel
theorem dX5_readLogLine_182 : decode cX5_readLogLine 182 = .ok (.getfield 38, 3) := by decide +kernel
theorem dX5_readLogLine_185 : decode cX5_readLogLine 185 = .ok (.invokevirtual 200, 3) := by decide +kernel
theorem dX5_readLogLine_188 : decode cX5_readLogLine 188 = .ok (.iconst 1, 1) := by decide +kernel
theorem dX5_readLogLine_189 : decode cX5_readLogLine 189 = .ok (.ireturn, 1) := by decide +kernel
theorem dX5_readClaimLine_0 : decode cX5_readClaimLine 0 = .ok (.aload_n 0, 1) := by decide +kernel
theorem dX5_readClaimLine_1 : decode cX5_readClaimLine 1 = .ok (.getfield 48, 3) := by decide +kernel
theorem dX5_readClaimLine_4 : decode cX5_readClaimLine 4 = .ok (.getfield 204, 3) := by decide +kernel
theorem dX5_readClaimLine_7 : decode cX5_readClaimLine 7 = .ok (.invokevirtual 188, 3) := by decide +kernel
theorem dX5_readClaimLine_10 : decode cX5_readClaimLine 10 = .ok (.ifCond .eq 9, 3) := by decide +kernel
theorem dX5_readClaimLine_13 : decode cX5_readClaimLine 13 = .ok (.aload_n 0, 1) := by decide +kernel
theorem dX5_readClaimLine_14 : decode cX5_readClaimLine 14 = .ok (.iconst 5, 1) := by decide +kernel
theorem dX5_readClaimLine_15 : decode cX5_readClaimLine 15 = .ok (.invokevirtual 75, 3) := by decide +kernel
theorem dX5_readClaimLine_18 : decode cX5_readClaimLine 18 = .ok (.ireturn, 1) := by decide +kernel
theorem dX5_readClaimLine_19 : decode cX5_readClaimLine 19 = .ok (.aload_n 0, 1) := by decide +kernel
theorem dX5_readClaimLine_20 : decode cX5_readClaimLine 20 = .ok (.invokevirtual 68, 3) := by decide +kernel
theorem dX5_readClaimLine_23 : decode cX5_readClaimLine 23 = .ok (.aload_n 0, 1) := by decide +kernel
theorem dX5_readClaimLine_24 : decode cX5_readClaimLine 24 = .ok (.aload_n 0, 1) := by decide +kernel
theorem dX5_readClaimLine_25 : decode cX5_readClaimLine 25 = .ok (.invokevirtual 113, 3) := by decide +kernel
theorem dX5_readClaimLine_28 : decode cX5_readClaimLine 28 = .ok (.invokevirtual 181, 3) := by decide +kernel
theorem dX5_readClaimLine_31 : decode cX5_readClaimLine 31 = .ok (.ifCond .ne 5, 3) := by decide +kernel
theorem dX5_readClaimLine_34 : decode cX5_readClaimLine 34 = .ok (.iconst 0, 1) := by decide +kernel
theorem dX5_readClaimLine_35 : decode cX5_readClaimLine 35 = .ok (.ireturn, 1) := by decide +kernel
theorem dX5_readClaimLine_36 : decode cX5_readClaimLine 36 = .ok (.aload_n 0, 1) := by decide +kernel
theorem dX5_readClaimLine_37 : decode cX5_readClaimLine 37 = .ok (.getfield 38, 3) := by decide +kernel
theorem dX5_readClaimLine_40 : decode cX5_readClaimLine 40 = .ok (.istore_n 1, 1) := by decide +kernel
theorem dX5_readClaimLine_41 : decode cX5_readClaimLine 41 = .ok (.aload_n 0, 1) := by decide +kernel
theorem dX5_readClaimLine_42 : decode cX5_readClaimLine 42 = .ok (.aload_n 0, 1) := by decide +kernel
theorem dX5_readClaimLine_43 : decode cX5_readClaimLine 43 = .ok (.invokevirtual 116, 3) := by decide +kernel
theorem dX5_readClaimLine_46 : decode cX5_readClaimLine 46 = .ok (.invokevirtual 181, 3) := by decide +kernel
theorem dX5_readClaimLine_49 : decode cX5_readClaimLine 49 = .ok (.ifCond .ne 5, 3) := by decide +kernel
theorem dX5_readClaimLine_52 : decode cX5_readClaimLine 52 = .ok (.iconst 0, 1) := by decide +kernel
theorem dX5_readClaimLine_53 : decode cX5_readClaimLine 53 = .ok (.ireturn, 1) := by decide +kernel
theorem dX5_readClaimLine_54 : decode cX5_readClaimLine 54 = .ok (.aload_n 0, 1) := by decide +kernel
theorem dX5_readClaimLine_55 : decode cX5_readClaimLine 55 = .ok (.getfield 38, 3) := by decide +kernel
theorem dX5_readClaimLine_58 : decode cX5_readClaimLine 58 = .ok (.istore_n 2, 1) := by decide +kernel
theorem dX5_readClaimLine_59 : decode cX5_readClaimLine 59 = .ok (.aload_n 0, 1) := by decide +kernel
theorem dX5_readClaimLine_60 : decode cX5_readClaimLine 60 = .ok (.ldc 199, 2) := by decide +kernel
theorem dX5_readClaimLine_62 : decode cX5_readClaimLine 62 = .ok (.iconst 0, 1) := by decide +kernel
theorem dX5_readClaimLine_63 : decode cX5_readClaimLine 63 = .ok (.bipush 40, 2) := by decide +kernel
theorem dX5_readClaimLine_65 : decode cX5_readClaimLine 65 = .ok (.invokevirtual 136, 3) := by decide +kernel
theorem dX5_readClaimLine_68 : decode cX5_readClaimLine 68 = .ok (.ifCond .ne 5, 3) := by decide +kernel
theorem dX5_readClaimLine_71 : decode cX5_readClaimLine 71 = .ok (.iconst 0, 1) := by decide +kernel
theorem dX5_readClaimLine_72 : decode cX5_readClaimLine 72 = .ok (.ireturn, 1) := by decide +kernel
theorem dX5_readClaimLine_73 : decode cX5_readClaimLine 73 = .ok (.aload_n 0, 1) := by decide +kernel
theorem dX5_readClaimLine_74 : decode cX5_readClaimLine 74 = .ok (.getfield 48, 3) := by decide +kernel
theorem dX5_readClaimLine_77 : decode cX5_readClaimLine 77 = .ok (.getfield 204, 3) := by decide +kernel
theorem dX5_readClaimLine_80 : decode cX5_readClaimLine 80 = .ok (.iconst 0, 1) := by decide +kernel
theorem dX5_readClaimLine_81 : decode cX5_readClaimLine 81 = .ok (.iload_n 2, 1) := by decide +kernel
theorem dX5_readClaimLine_82 : decode cX5_readClaimLine 82 = .ok (.iload_n 1, 1) := by decide +kernel
theorem dX5_readClaimLine_83 : decode cX5_readClaimLine 83 = .ok (.aload_n 0, 1) := by decide +kernel
theorem dX5_readClaimLine_84 : decode cX5_readClaimLine 84 = .ok (.getfield 38, 3) := by decide +kernel
theorem dX5_readClaimLine_87 : decode cX5_readClaimLine 87 = .ok (.invokevirtual 200, 3) := by decide +kernel
theorem dX5_readClaimLine_90 : decode cX5_readClaimLine 90 = .ok (.iconst 1, 1) := by decide +kernel
theorem dX5_readClaimLine_91 : decode cX5_readClaimLine 91 = .ok (.ireturn, 1) := by decide +kernel
theorem dX6_init_0 : decode cX6_init 0 = .ok (.aload_n 0, 1) := by decide +kernel
theorem dX6_init_1 : decode cX6_init 1 = .ok (.invokespecial 3, 3) := by decide +kernel
theorem dX6_init_4 : decode cX6_init 4 = .ok (.aload_n 0, 1) := by decide +kernel
theorem dX6_init_5 : decode cX6_init 5 = .ok (.iconst 5, 1) := by decide +kernel
theorem dX6_init_6 : decode cX6_init 6 = .ok (.newarray .int, 2) := by decide +kernel
theorem dX6_init_8 : decode cX6_init 8 = .ok (.putfield 9, 3) := by decide +kernel
theorem dX6_init_11 : decode cX6_init 11 = .ok (.aload_n 0, 1) := by decide +kernel
theorem dX6_init_12 : decode cX6_init 12 = .ok (.bipush 6, 2) := by decide +kernel
theorem dX6_init_14 : decode cX6_init 14 = .ok (.newarray .int, 2) := by decide +kernel
theorem dX6_init_16 : decode cX6_init 16 = .ok (.putfield 15, 3) := by decide +kernel
theorem dX6_init_19 : decode cX6_init 19 = .ok (.aload_n 0, 1) := by decide +kernel
theorem dX6_init_20 : decode cX6_init 20 = .ok (.bipush 6, 2) := by decide +kernel
theorem dX6_init_22 : decode cX6_init 22 = .ok (.newarray .int, 2) := by decide +kernel
theorem dX6_init_24 : decode cX6_init 24 = .ok (.putfield 18, 3) := by decide +kernel
theorem dX6_init_27 : decode cX6_init 27 = .ok (.aload_n 0, 1) := by decide +kernel
theorem dX6_init_28 : decode cX6_init 28 = .ok (.bipush 7, 2) := by decide +kernel
theorem dX6_init_30 : decode cX6_init 30 = .ok (.newarray .int, 2) := by decide +kernel
theorem dX6_init_32 : decode cX6_init 32 = .ok (.putfield 21, 3) := by decide +kernel
theorem dX6_init_35 : decode cX6_init 35 = .ok (.aload_n 0, 1) := by decide +kernel
theorem dX6_init_36 : decode cX6_init 36 = .ok (.iconst 0, 1) := by decide +kernel
theorem dX6_init_37 : decode cX6_init 37 = .ok (.putfield 24, 3) := by decide +kernel
theorem dX6_init_40 : decode cX6_init 40 = .ok (.aload_n 0, 1) := by decide +kernel
theorem dX6_init_41 : decode cX6_init 41 = .ok (.iconst 0, 1) := by decide +kernel
theorem dX6_init_42 : decode cX6_init 42 = .ok (.putfield 28, 3) := by decide +kernel
theorem dX6_init_45 : decode cX6_init 45 = .ok (.return_, 1) := by decide +kernel
theorem dX6_seat_0 : decode cX6_seat 0 = .ok (.aload_n 0, 1) := by decide +kernel
theorem dX6_seat_1 : decode cX6_seat 1 = .ok (.iconst 0, 1) := by decide +kernel
theorem dX6_seat_2 : decode cX6_seat 2 = .ok (.putfield 24, 3) := by decide +kernel
theorem dX6_seat_5 : decode cX6_seat 5 = .ok (.aload_n 0, 1) := by decide +kernel
theorem dX6_seat_6 : decode cX6_seat 6 = .ok (.iconst 0, 1) := by decide +kernel
theorem dX6_seat_7 : decode cX6_seat 7 = .ok (.putfield 28, 3) := by decide +kernel
theorem dX6_seat_10 : decode cX6_seat 10 = .ok (.aload_n 0, 1) := by decide +kernel
theorem dX6_seat_11 : decode cX6_seat 11 = .ok (.aload_n 1, 1) := by decide +kernel
theorem dX6_seat_12 : decode cX6_seat 12 = .ok (.aload_n 2, 1) := by decide +kernel
theorem dX6_seat_13 : decode cX6_seat 13 = .ok (.iload_n 3, 1) := by decide +kernel
theorem dX6_seat_14 : decode cX6_seat 14 = .ok (.invokevirtual 32, 3) := by decide +kernel
theorem dX6_seat_17 : decode cX6_seat 17 = .ok (.iload_n 3, 1) := by decide +kernel
theorem dX6_seat_18 : decode cX6_seat 18 = .ok (.invokestatic 36, 3) := by decide +kernel
theorem dX6_seat_21 : decode cX6_seat 21 = .ok (.if_icmp .lt 19, 3) := by decide +kernel
theorem dX6_seat_24 : decode cX6_seat 24 = .ok (.aload_n 0, 1) := by decide +kernel
theorem dX6_seat_25 : decode cX6_seat 25 = .ok (.aload_n 1, 1) := by decide +kernel
theorem dX6_seat_26 : decode cX6_seat 26 = .ok (.aload_n 2, 1) := by decide +kernel
theorem dX6_seat_27 : decode cX6_seat 27 = .ok (.iload_n 3, 1) := by decide +kernel
theorem dX6_seat_28 : decode cX6_seat 28 = .ok (.invokevirtual 42, 3) := by decide +kernel
theorem dX6_seat_31 : decode cX6_seat 31 = .ok (.aload_n 0, 1) := by decide +kernel
theorem dX6_seat_32 : decode cX6_seat 32 = .ok (.aload_n 1, 1) := by decide +kernel
theorem dX6_seat_33 : decode cX6_seat 33 = .ok (.aload_n 2, 1) := by decide +kernel
theorem dX6_seat_34 : decode cX6_seat 34 = .ok (.iload_n 3, 1) := by decide +kernel
theorem dX6_seat_35 : decode cX6_seat 35 = .ok (.iconst 0, 1) := by decide +kernel
theorem dX6_seat_36 : decode cX6_seat 36 = .ok (.iconst 0, 1) := by decide +kernel
theorem dX6_seat_37 : decode cX6_seat 37 = .ok (.invokevirtual 46, 3) := by decide +kernel
theorem dX6_seat_40 : decode cX6_seat 40 = .ok (.aload_n 0, 1) := by decide +kernel
theorem dX6_seat_41 : decode cX6_seat 41 = .ok (.getfield 24, 3) := by decide +kernel
theorem dX6_seat_44 : decode cX6_seat 44 = .ok (.ireturn, 1) := by decide +kernel
theorem dX6_countLeast_0 : decode cX6_countLeast 0 = .ok (.aload_n 0, 1) := by decide +kernel
theorem dX6_countLeast_1 : decode cX6_countLeast 1 = .ok (.getfield 21, 3) := by decide +kernel
theorem dX6_countLeast_4 : decode cX6_countLeast 4 = .ok (.bipush 6, 2) := by decide +kernel
theorem dX6_countLeast_6 : decode cX6_countLeast 6 = .ok (.iconst 0, 1) := by decide +kernel
theorem dX6_countLeast_7 : decode cX6_countLeast 7 = .ok (.iastore, 1) := by decide +kernel
theorem dX6_countLeast_8 : decode cX6_countLeast 8 = .ok (.iconst 5, 1) := by decide +kernel
theorem dX6_countLeast_9 : decode cX6_countLeast 9 = .ok (.istore 4, 2) := by decide +kernel
theorem dX6_countLeast_11 : decode cX6_countLeast 11 = .ok (.iload 4, 2) := by decide +kernel
theorem dX6_countLeast_13 : decode cX6_countLeast 13 = .ok (.ifCond .lt 106, 3) := by decide +kernel
theorem dX6_countLeast_16 : decode cX6_countLeast 16 = .ok (.iconst (-1), 1) := by decide +kernel
theorem dX6_countLeast_17 : decode cX6_countLeast 17 = .ok (.istore 5, 2) := by decide +kernel
theorem dX6_countLeast_19 : decode cX6_countLeast 19 = .ok (.iconst 0, 1) := by decide +kernel
theorem dX6_countLeast_20 : decode cX6_countLeast 20 = .ok (.istore 6, 2) := by decide +kernel
theorem dX6_countLeast_22 : decode cX6_countLeast 22 = .ok (.iload 6, 2) := by decide +kernel
theorem dX6_countLeast_24 : decode cX6_countLeast 24 = .ok (.aload_n 1, 1) := by decide +kernel
theorem dX6_countLeast_25 : decode cX6_countLeast 25 = .ok (.getfield 50, 3) := by decide +kernel
theorem dX6_countLeast_28 : decode cX6_countLeast 28 = .ok (.if_icmp .ge 62, 3) := by decide +kernel
theorem dX6_countLeast_31 : decode cX6_countLeast 31 = .ok (.iload_n 3, 1) := by decide +kernel
theorem dX6_countLeast_32 : decode cX6_countLeast 32 = .ok (.iload 4, 2) := by decide +kernel
theorem dX6_countLeast_34 : decode cX6_countLeast 34 = .ok (.ishr, 1) := by decide +kernel
theorem dX6_countLeast_35 : decode cX6_countLeast 35 = .ok (.iconst 1, 1) := by decide +kernel
theorem dX6_countLeast_36 : decode cX6_countLeast 36 = .ok (.iand, 1) := by decide +kernel
theorem dX6_countLeast_37 : decode cX6_countLeast 37 = .ok (.iconst 1, 1) := by decide +kernel
theorem dX6_countLeast_38 : decode cX6_countLeast 38 = .ok (.if_icmp .ne 52, 3) := by decide +kernel
theorem dX6_countLeast_41 : decode cX6_countLeast 41 = .ok (.aload_n 1, 1) := by decide +kernel
theorem dX6_countLeast_42 : decode cX6_countLeast 42 = .ok (.aload_n 2, 1) := by decide +kernel
theorem dX6_countLeast_43 : decode cX6_countLeast 43 = .ok (.iload 4, 2) := by decide +kernel
theorem dX6_countLeast_45 : decode cX6_countLeast 45 = .ok (.iload 6, 2) := by decide +kernel
theorem dX6_countLeast_47 : decode cX6_countLeast 47 = .ok (.invokestatic 55, 3) := by decide +kernel
theorem dX6_countLeast_50 : decode cX6_countLeast 50 = .ok (.istore 7, 2) := by decide +kernel
theorem dX6_countLeast_52 : decode cX6_countLeast 52 = .ok (.aload_n 0, 1) := by decide +kernel
theorem dX6_countLeast_53 : decode cX6_countLeast 53 = .ok (.getfield 9, 3) := by decide +kernel
theorem dX6_countLeast_56 : decode cX6_countLeast 56 = .ok (.iload 6, 2) := by decide +kernel
theorem dX6_countLeast_58 : decode cX6_countLeast 58 = .ok (.iaload, 1) := by decide +kernel
theorem dX6_countLeast_59 : decode cX6_countLeast 59 = .ok (.ifCond .le 21, 3) := by decide +kernel
theorem dX6_countLeast_62 : decode cX6_countLeast 62 = .ok (.iload 5, 2) := by decide +kernel
theorem dX6_countLeast_64 : decode cX6_countLeast 64 = .ok (.iconst (-1), 1) := by decide +kernel
theorem dX6_countLeast_65 : decode cX6_countLeast 65 = .ok (.if_icmp .eq 10, 3) := by decide +kernel
theorem dX6_countLeast_68 : decode cX6_countLeast 68 = .ok (.iload 7, 2) := by decide +kernel
theorem dX6_countLeast_70 : decode cX6_countLeast 70 = .ok (.iload 5, 2) := by decide +kernel
theorem dX6_countLeast_72 : decode cX6_countLeast 72 = .ok (.if_icmp .ge 8, 3) := by decide +kernel
theorem dX6_countLeast_75 : decode cX6_countLeast 75 = .ok (.iload 7, 2) := by decide +kernel
theorem dX6_countLeast_77 : decode cX6_countLeast 77 = .ok (.goto 5, 3) := by decide +kernel
theorem dX6_countLeast_80 : decode cX6_countLeast 80 = .ok (.iload 5, 2) := by decide +kernel
theorem dX6_countLeast_82 : decode cX6_countLeast 82 = .ok (.istore 5, 2) := by decide +kernel
theorem dX6_countLeast_84 : decode cX6_countLeast 84 = .ok (.iinc 6 1, 3) := by decide +kernel
theorem dX6_countLeast_87 : decode cX6_countLeast 87 = .ok (.goto (-65), 3) := by decide +kernel
theorem dX6_countLeast_90 : decode cX6_countLeast 90 = .ok (.aload_n 0, 1) := by decide +kernel
theorem dX6_countLeast_91 : decode cX6_countLeast 91 = .ok (.getfield 21, 3) := by decide +kernel
theorem dX6_countLeast_94 : decode cX6_countLeast 94 = .ok (.iload 4, 2) := by decide +kernel
theorem dX6_countLeast_96 : decode cX6_countLeast 96 = .ok (.aload_n 0, 1) := by decide +kernel
theorem dX6_countLeast_97 : decode cX6_countLeast 97 = .ok (.getfield 21, 3) := by decide +kernel
theorem dX6_countLeast_100 : decode cX6_countLeast 100 = .ok (.iload 4, 2) := by decide +kernel
theorem dX6_countLeast_102 : decode cX6_countLeast 102 = .ok (.iconst 1, 1) := by decide +kernel
theorem dX6_countLeast_103 : decode cX6_countLeast 103 = .ok (.iadd, 1) := by decide +kernel
theorem dX6_countLeast_104 : decode cX6_countLeast 104 = .ok (.iaload, 1) := by decide +kernel
theorem dX6_countLeast_105 : decode cX6_countLeast 105 = .ok (.iload 5, 2) := by decide +kernel
theorem dX6_countLeast_107 : decode cX6_countLeast 107 = .ok (.iconst 0, 1) := by decide +kernel
theorem dX6_countLeast_108 : decode cX6_countLeast 108 = .ok (.invokestatic 59, 3) := by decide +kernel
theorem dX6_countLeast_111 : decode cX6_countLeast 111 = .ok (.iadd, 1) := by decide +kernel
theorem dX6_countLeast_112 : decode cX6_countLeast 112 = .ok (.iastore, 1) := by decide +kernel
theorem dX6_countLeast_113 : decode cX6_countLeast 113 = .ok (.iinc 4 (-1), 3) := by decide +kernel
theorem dX6_countLeast_116 : decode cX6_countLeast 116 = .ok (.goto (-105), 3) := by decide +kernel
theorem dX6_countLeast_119 : decode cX6_countLeast 119 = .ok (.return_, 1) := by decide +kernel
theorem dX6_dangerOf_0 : decode cX6_dangerOf 0 = .ok (.aload_n 1, 1) := by decide +kernel
theorem dX6_dangerOf_1 : decode cX6_dangerOf 1 = .ok (.getfield 65, 3) := by decide +kernel
theorem dX6_dangerOf_4 : decode cX6_dangerOf 4 = .ok (.iload_n 3, 1) := by decide +kernel
theorem dX6_dangerOf_5 : decode cX6_dangerOf 5 = .ok (.iaload, 1) := by decide +kernel
theorem dX6_dangerOf_6 : decode cX6_dangerOf 6 = .ok (.iload_n 2, 1) := by decide +kernel
theorem dX6_dangerOf_7 : decode cX6_dangerOf 7 = .ok (.if_icmp .ne 7, 3) := by decide +kernel
theorem dX6_dangerOf_10 : decode cX6_dangerOf 10 = .ok (.iconst 0, 1) := by decide +kernel
theorem dX6_dangerOf_11 : decode cX6_dangerOf 11 = .ok (.goto 9, 3) := by decide +kernel
theorem dX6_dangerOf_14 : decode cX6_dangerOf 14 = .ok (.aload_n 0, 1) := by decide +kernel
theorem dX6_dangerOf_15 : decode cX6_dangerOf 15 = .ok (.getfield 70, 3) := by decide +kernel
theorem dX6_dangerOf_18 : decode cX6_dangerOf 18 = .ok (.iload_n 3, 1) := by decide +kernel
theorem dX6_dangerOf_19 : decode cX6_dangerOf 19 = .ok (.iaload, 1) := by decide +kernel
theorem dX6_dangerOf_20 : decode cX6_dangerOf 20 = .ok (.ireturn, 1) := by decide +kernel
theorem dX6_openUmbrellas_0 : decode cX6_openUmbrellas 0 = .ok (.iconst 0, 1) := by decide +kernel
theorem dX6_openUmbrellas_1 : decode cX6_openUmbrellas 1 = .ok (.istore 4, 2) := by decide +kernel
theorem dX6_openUmbrellas_3 : decode cX6_openUmbrellas 3 = .ok (.iconst 0, 1) := by decide +kernel
theorem dX6_openUmbrellas_4 : decode cX6_openUmbrellas 4 = .ok (.istore 5, 2) := by decide +kernel
theorem dX6_openUmbrellas_6 : decode cX6_openUmbrellas 6 = .ok (.iload 5, 2) := by decide +kernel
theorem dX6_openUmbrellas_8 : decode cX6_openUmbrellas 8 = .ok (.aload_n 1, 1) := by decide +kernel
theorem dX6_openUmbrellas_9 : decode cX6_openUmbrellas 9 = .ok (.getfield 50, 3) := by decide +kernel
theorem dX6_openUmbrellas_12 : decode cX6_openUmbrellas 12 = .ok (.if_icmp .ge 65, 3) := by decide +kernel
theorem dX6_openUmbrellas_15 : decode cX6_openUmbrellas 15 = .ok (.aload_n 2, 1) := by decide +kernel
theorem dX6_openUmbrellas_16 : decode cX6_openUmbrellas 16 = .ok (.getfield 73, 3) := by decide +kernel
theorem dX6_openUmbrellas_19 : decode cX6_openUmbrellas 19 = .ok (.iload 5, 2) := by decide +kernel
theorem dX6_openUmbrellas_21 : decode cX6_openUmbrellas 21 = .ok (.iaload, 1) := by decide +kernel
theorem dX6_openUmbrellas_22 : decode cX6_openUmbrellas 22 = .ok (.istore 6, 2) := by decide +kernel
theorem dX6_openUmbrellas_24 : decode cX6_openUmbrellas 24 = .ok (.aload_n 0, 1) := by decide +kernel
theorem dX6_openUmbrellas_25 : decode cX6_openUmbrellas 25 = .ok (.getfield 9, 3) := by decide +kernel
theorem dX6_openUmbrellas_28 : decode cX6_openUmbrellas 28 = .ok (.iload 5, 2) := by decide +kernel
theorem dX6_openUmbrellas_30 : decode cX6_openUmbrellas 30 = .ok (.iload 6, 2) := by decide +kernel
theorem dX6_openUmbrellas_32 : decode cX6_openUmbrellas 32 = .ok (.ifCond .lt 25, 3) := by decide +kernel
theorem dX6_openUmbrellas_35 : decode cX6_openUmbrellas 35 = .ok (.iload_n 3, 1) := by decide +kernel
theorem dX6_openUmbrellas_36 : decode cX6_openUmbrellas 36 = .ok (.iload 6, 2) := by decide +kernel
theorem dX6_openUmbrellas_38 : decode cX6_openUmbrellas 38 = .ok (.ishr, 1) := by decide +kernel
theorem dX6_openUmbrellas_39 : decode cX6_openUmbrellas 39 = .ok (.iconst 1, 1) := by decide +kernel
theorem dX6_openUmbrellas_40 : decode cX6_openUmbrellas 40 = .ok (.iand, 1) := by decide +kernel
theorem dX6_openUmbrellas_41 : decode cX6_openUmbrellas 41 = .ok (.iconst 1, 1) := by decide +kernel
theorem dX6_openUmbrellas_42 : decode cX6_openUmbrellas 42 = .ok (.if_icmp .ne 15, 3) := by decide +kernel
theorem dX6_openUmbrellas_45 : decode cX6_openUmbrellas 45 = .ok (.aload_n 1, 1) := by decide +kernel
theorem dX6_openUmbrellas_46 : decode cX6_openUmbrellas 46 = .ok (.getfield 76, 3) := by decide +kernel
theorem dX6_openUmbrellas_49 : decode cX6_openUmbrellas 49 = .ok (.iload 5, 2) := by decide +kernel
theorem dX6_openUmbrellas_51 : decode cX6_openUmbrellas 51 = .ok (.iaload, 1) := by decide +kernel
theorem dX6_openUmbrellas_52 : decode cX6_openUmbrellas 52 = .ok (.iconst 4, 1) := by decide +kernel
theorem dX6_openUmbrellas_53 : decode cX6_openUmbrellas 53 = .ok (.idiv, 1) := by decide +kernel
theorem dX6_openUmbrellas_54 : decode cX6_openUmbrellas 54 = .ok (.goto 4, 3) := by decide +kernel
theorem dX6_openUmbrellas_57 : decode cX6_openUmbrellas 57 = .ok (.iconst 0, 1) := by decide +kernel
theorem dX6_openUmbrellas_58 : decode cX6_openUmbrellas 58 = .ok (.iastore, 1) := by decide +kernel
theorem dX6_openUmbrellas_59 : decode cX6_openUmbrellas 59 = .ok (.iload 4, 2) := by decide +kernel
theorem dX6_openUmbrellas_61 : decode cX6_openUmbrellas 61 = .ok (.aload_n 0, 1) := by decide +kernel
theorem dX6_openUmbrellas_62 : decode cX6_openUmbrellas 62 = .ok (.getfield 9, 3) := by decide +kernel
theorem dX6_openUmbrellas_65 : decode cX6_openUmbrellas 65 = .ok (.iload 5, 2) := by decide +kernel
theorem dX6_openUmbrellas_67 : decode cX6_openUmbrellas 67 = .ok (.iaload, 1) := by decide +kernel
theorem dX6_openUmbrellas_68 : decode cX6_openUmbrellas 68 = .ok (.iadd, 1) := by decide +kernel
theorem dX6_openUmbrellas_69 : decode cX6_openUmbrellas 69 = .ok (.istore 4, 2) := by decide +kernel
theorem dX6_openUmbrellas_71 : decode cX6_openUmbrellas 71 = .ok (.iinc 5 1, 3) := by decide +kernel
theorem dX6_openUmbrellas_74 : decode cX6_openUmbrellas 74 = .ok (.goto (-68), 3) := by decide +kernel
theorem dX6_openUmbrellas_77 : decode cX6_openUmbrellas 77 = .ok (.iload 4, 2) := by decide +kernel
theorem dX6_openUmbrellas_79 : decode cX6_openUmbrellas 79 = .ok (.ireturn, 1) := by decide +kernel
theorem dX6_place_0 : decode cX6_place 0 = .ok (.iload 4, 2) := by decide +kernel
theorem dX6_place_2 : decode cX6_place 2 = .ok (.aload_n 1, 1) := by decide +kernel
theorem dX6_place_3 : decode cX6_place 3 = .ok (.getfield 79, 3) := by decide +kernel
theorem dX6_place_6 : decode cX6_place 6 = .ok (.if_icmp .ge 10, 3) := by decide +kernel
theorem dX6_place_9 : decode cX6_place 9 = .ok (.iload 4, 2) := by decide +kernel
theorem dX6_place_11 : decode cX6_place 11 = .ok (.bipush 6, 2) := by decide +kernel
theorem dX6_place_13 : decode cX6_place 13 = .ok (.if_icmp .lt 30, 3) := by decide +kernel
theorem dX6_place_16 : decode cX6_place 16 = .ok (.aload_n 0, 1) := by decide +kernel
theorem dX6_place_17 : decode cX6_place 17 = .ok (.iconst 1, 1) := by decide +kernel
theorem dX6_place_18 : decode cX6_place 18 = .ok (.putfield 24, 3) := by decide +kernel
theorem dX6_place_21 : decode cX6_place 21 = .ok (.aload_n 0, 1) := by decide +kernel
theorem dX6_place_22 : decode cX6_place 22 = .ok (.iload 5, 2) := by decide +kernel
theorem dX6_place_24 : decode cX6_place 24 = .ok (.putfield 28, 3) := by decide +kernel
theorem dX6_place_27 : decode cX6_place 27 = .ok (.aload_n 0, 1) := by decide +kernel
theorem dX6_place_28 : decode cX6_place 28 = .ok (.getfield 15, 3) := by decide +kernel
theorem dX6_place_31 : decode cX6_place 31 = .ok (.iconst 0, 1) := by decide +kernel
theorem dX6_place_32 : decode cX6_place 32 = .ok (.aload_n 0, 1) := by decide +kernel
theorem dX6_place_33 : decode cX6_place 33 = .ok (.getfield 18, 3) := by decide +kernel
theorem dX6_place_36 : decode cX6_place 36 = .ok (.iconst 0, 1) := by decide +kernel
theorem dX6_place_37 : decode cX6_place 37 = .ok (.bipush 6, 2) := by decide +kernel
theorem dX6_place_39 : decode cX6_place 39 = .ok (.invokestatic 82, 3) := by decide +kernel
theorem dX6_place_42 : decode cX6_place 42 = .ok (.return_, 1) := by decide +kernel
theorem dX6_place_43 : decode cX6_place 43 = .ok (.iload_n 3, 1) := by decide +kernel
theorem dX6_place_44 : decode cX6_place 44 = .ok (.iload 4, 2) := by decide +kernel
theorem dX6_place_46 : decode cX6_place 46 = .ok (.ishr, 1) := by decide +kernel
theorem dX6_place_47 : decode cX6_place 47 = .ok (.iconst 1, 1) := by decide +kernel
theorem dX6_place_48 : decode cX6_place 48 = .ok (.iand, 1) := by decide +kernel
theorem dX6_place_49 : decode cX6_place 49 = .ok (.iconst 1, 1) := by decide +kernel
theorem dX6_place_50 : decode cX6_place 50 = .ok (.if_icmp .ne 7, 3) := by decide +kernel
theorem dX6_place_53 : decode cX6_place 53 = .ok (.iconst 1, 1) := by decide +kernel
theorem dX6_place_54 : decode cX6_place 54 = .ok (.goto 4, 3) := by decide +kernel
theorem dX6_place_57 : decode cX6_place 57 = .ok (.iconst 0, 1) := by decide +kernel
theorem dX6_place_58 : decode cX6_place 58 = .ok (.istore 6, 2) := by decide +kernel
theorem dX6_place_60 : decode cX6_place 60 = .ok (.iload 6, 2) := by decide +kernel
theorem dX6_place_62 : decode cX6_place 62 = .ok (.ifCond .ne 25, 3) := by decide +kernel
theorem dX6_place_65 : decode cX6_place 65 = .ok (.aload_n 0, 1) := by decide +kernel
theorem dX6_place_66 : decode cX6_place 66 = .ok (.getfield 15, 3) := by decide +kernel
theorem dX6_place_69 : decode cX6_place 69 = .ok (.iload 4, 2) := by decide +kernel
theorem dX6_place_71 : decode cX6_place 71 = .ok (.bipush (-2), 2) := by decide +kernel
theorem dX6_place_73 : decode cX6_place 73 = .ok (.iastore, 1) := by decide +kernel
theorem dX6_place_74 : decode cX6_place 74 = .ok (.aload_n 0, 1) := by decide +kernel
theorem dX6_place_75 : decode cX6_place 75 = .ok (.aload_n 1, 1) := by decide +kernel
theorem dX6_place_76 : decode cX6_place 76 = .ok (.aload_n 2, 1) := by decide +kernel
theorem dX6_place_77 : decode cX6_place 77 = .ok (.iload_n 3, 1) := by decide +kernel
theorem dX6_place_78 : decode cX6_place 78 = .ok (.iload 4, 2) := by decide +kernel
theorem dX6_place_80 : decode cX6_place 80 = .ok (.iconst 1, 1) := by decide +kernel
theorem dX6_place_81 : decode cX6_place 81 = .ok (.iadd, 1) := by decide +kernel
theorem dX6_place_82 : decode cX6_place 82 = .ok (.iload 5, 2) := by decide +kernel
theorem dX6_place_84 : decode cX6_place 84 = .ok (.invokevirtual 46, 3) := by decide +kernel
theorem dX6_place_87 : decode cX6_place 87 = .ok (.iconst 0, 1) := by decide +kernel
theorem dX6_place_88 : decode cX6_place 88 = .ok (.istore 7, 2) := by decide +kernel
theorem dX6_place_90 : decode cX6_place 90 = .ok (.iload 7, 2) := by decide +kernel
theorem dX6_place_92 : decode cX6_place 92 = .ok (.aload_n 1, 1) := by decide +kernel
theorem dX6_place_93 : decode cX6_place 93 = .ok (.getfield 50, 3) := by decide +kernel
theorem dX6_place_96 : decode cX6_place 96 = .ok (.if_icmp .ge 108, 3) := by decide +kernel
theorem dX6_place_99 : decode cX6_place 99 = .ok (.iload 6, 2) := by decide +kernel
theorem dX6_place_101 : decode cX6_place 101 = .ok (.ifCond .eq 103, 3) := by decide +kernel
theorem dX6_place_104 : decode cX6_place 104 = .ok (.iload 5, 2) := by decide +kernel
theorem dX6_place_106 : decode cX6_place 106 = .ok (.aload_n 1, 1) := by decide +kernel
theorem dX6_place_107 : decode cX6_place 107 = .ok (.aload_n 2, 1) := by decide +kernel
theorem dX6_place_108 : decode cX6_place 108 = .ok (.iload 4, 2) := by decide +kernel
theorem dX6_place_110 : decode cX6_place 110 = .ok (.iload 7, 2) := by decide +kernel
theorem dX6_place_112 : decode cX6_place 112 = .ok (.invokestatic 55, 3) := by decide +kernel
theorem dX6_place_115 : decode cX6_place 115 = .ok (.iadd, 1) := by decide +kernel
theorem dX6_place_116 : decode cX6_place 116 = .ok (.istore 8, 2) := by decide +kernel
theorem dX6_place_118 : decode cX6_place 118 = .ok (.aload_n 0, 1) := by decide +kernel
theorem dX6_place_119 : decode cX6_place 119 = .ok (.getfield 9, 3) := by decide +kernel
theorem dX6_place_122 : decode cX6_place 122 = .ok (.iload 7, 2) := by decide +kernel
theorem dX6_place_124 : decode cX6_place 124 = .ok (.iaload, 1) := by decide +kernel
theorem dX6_place_125 : decode cX6_place 125 = .ok (.ifCond .le 73, 3) := by decide +kernel
theorem dX6_place_128 : decode cX6_place 128 = .ok (.aload_n 0, 1) := by decide +kernel
theorem dX6_place_129 : decode cX6_place 129 = .ok (.getfield 24, 3) := by decide +kernel
theorem dX6_place_132 : decode cX6_place 132 = .ok (.ifCond .eq 22, 3) := by decide +kernel
theorem dX6_place_135 : decode cX6_place 135 = .ok (.iload 8, 2) := by decide +kernel
theorem dX6_place_137 : decode cX6_place 137 = .ok (.aload_n 0, 1) := by decide +kernel
theorem dX6_place_138 : decode cX6_place 138 = .ok (.getfield 21, 3) := by decide +kernel
theorem dX6_place_141 : decode cX6_place 141 = .ok (.iload 4, 2) := by decide +kernel
theorem dX6_place_143 : decode cX6_place 143 = .ok (.iconst 1, 1) := by decide +kernel
theorem dX6_place_144 : decode cX6_place 144 = .ok (.iadd, 1) := by decide +kernel
theorem dX6_place_145 : decode cX6_place 145 = .ok (.iaload, 1) := by decide +kernel
theorem dX6_place_146 : decode cX6_place 146 = .ok (.iadd, 1) := by decide +kernel
theorem dX6_place_147 : decode cX6_place 147 = .ok (.aload_n 0, 1) := by decide +kernel
theorem dX6_place_148 : decode cX6_place 148 = .ok (.getfield 28, 3) := by decide +kernel
theorem dX6_place_151 : decode cX6_place 151 = .ok (.if_icmp .ge 47, 3) := by decide +kernel
theorem dX6_place_154 : decode cX6_place 154 = .ok (.aload_n 0, 1) := by decide +kernel
theorem dX6_place_155 : decode cX6_place 155 = .ok (.getfield 9, 3) := by decide +kernel
theorem dX6_place_158 : decode cX6_place 158 = .ok (.iload 7, 2) := by decide +kernel
theorem dX6_place_160 : decode cX6_place 160 = .ok (.dup2, 1) := by decide +kernel
theorem dX6_place_161 : decode cX6_place 161 = .ok (.iaload, 1) := by decide +kernel
theorem dX6_place_162 : decode cX6_place 162 = .ok (.iconst 1, 1) := by decide +kernel
theorem dX6_place_163 : decode cX6_place 163 = .ok (.isub, 1) := by decide +kernel
theorem dX6_place_164 : decode cX6_place 164 = .ok (.iastore, 1) := by decide +kernel
theorem dX6_place_165 : decode cX6_place 165 = .ok (.aload_n 0, 1) := by decide +kernel
theorem dX6_place_166 : decode cX6_place 166 = .ok (.getfield 15, 3) := by decide +kernel
theorem dX6_place_169 : decode cX6_place 169 = .ok (.iload 4, 2) := by decide +kernel
theorem dX6_place_171 : decode cX6_place 171 = .ok (.iload 7, 2) := by decide +kernel
theorem dX6_place_173 : decode cX6_place 173 = .ok (.iastore, 1) := by decide +kernel
theorem dX6_place_174 : decode cX6_place 174 = .ok (.aload_n 0, 1) := by decide +kernel
theorem dX6_place_175 : decode cX6_place 175 = .ok (.aload_n 1, 1) := by decide +kernel
theorem dX6_place_176 : decode cX6_place 176 = .ok (.aload_n 2, 1) := by decide +kernel
theorem dX6_place_177 : decode cX6_place 177 = .ok (.iload_n 3, 1) := by decide +kernel
theorem dX6_place_178 : decode cX6_place 178 = .ok (.iload 4, 2) := by decide +kernel
theorem dX6_place_180 : decode cX6_place 180 = .ok (.iconst 1, 1) := by decide +kernel
theorem dX6_place_181 : decode cX6_place 181 = .ok (.iadd, 1) := by decide +kernel
theorem dX6_place_182 : decode cX6_place 182 = .ok (.iload 8, 2) := by decide +kernel
theorem dX6_place_184 : decode cX6_place 184 = .ok (.invokevirtual 46, 3) := by decide +kernel
theorem dX6_place_187 : decode cX6_place 187 = .ok (.aload_n 0, 1) := by decide +kernel
theorem dX6_place_188 : decode cX6_place 188 = .ok (.getfield 9, 3) := by decide +kernel
theorem dX6_place_191 : decode cX6_place 191 = .ok (.iload 7, 2) := by decide +kernel
theorem dX6_place_193 : decode cX6_place 193 = .ok (.dup2, 1) := by decide +kernel
theorem dX6_place_194 : decode cX6_place 194 = .ok (.iaload, 1) := by decide +kernel
theorem dX6_place_195 : decode cX6_place 195 = .ok (.iconst 1, 1) := by decide +kernel
theorem dX6_place_196 : decode cX6_place 196 = .ok (.iadd, 1) := by decide +kernel
theorem dX6_place_197 : decode cX6_place 197 = .ok (.iastore, 1) := by decide +kernel
theorem dX6_place_198 : decode cX6_place 198 = .ok (.iinc 7 1, 3) := by decide +kernel
theorem dX6_place_201 : decode cX6_place 201 = .ok (.goto (-111), 3) := by decide +kernel
theorem dX6_place_204 : decode cX6_place 204 = .ok (.return_, 1) := by decide +kernel
