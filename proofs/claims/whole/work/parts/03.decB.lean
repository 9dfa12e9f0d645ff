theorem dX7_init_0 : decode cX7_init 0 = .ok (.aload_n 0, 1) := by decide +kernel
theorem dX7_init_1 : decode cX7_init 1 = .ok (.invokespecial 1, 3) := by decide +kernel
theorem dX7_init_4 : decode cX7_init 4 = .ok (.aload_n 0, 1) := by decide +kernel
theorem dX7_init_5 : decode cX7_init 5 = .ok (.new 7, 3) := by decide +kernel
theorem dX7_init_8 : decode cX7_init 8 = .ok (.dup, 1) := by decide +kernel
theorem dX7_init_9 : decode cX7_init 9 = .ok (.invokespecial 9, 3) := by decide +kernel
theorem dX7_init_12 : decode cX7_init 12 = .ok (.putfield 10, 3) := by decide +kernel
theorem dX7_init_15 : decode cX7_init 15 = .ok (.aload_n 0, 1) := by decide +kernel
theorem dX7_init_16 : decode cX7_init 16 = .ok (.new 16, 3) := by decide +kernel
theorem dX7_init_19 : decode cX7_init 19 = .ok (.dup, 1) := by decide +kernel
theorem dX7_init_20 : decode cX7_init 20 = .ok (.invokespecial 18, 3) := by decide +kernel
theorem dX7_init_23 : decode cX7_init 23 = .ok (.putfield 19, 3) := by decide +kernel
theorem dX7_init_26 : decode cX7_init 26 = .ok (.aload_n 0, 1) := by decide +kernel
theorem dX7_init_27 : decode cX7_init 27 = .ok (.iconst 0, 1) := by decide +kernel
theorem dX7_init_28 : decode cX7_init 28 = .ok (.putfield 23, 3) := by decide +kernel
theorem dX7_init_31 : decode cX7_init 31 = .ok (.aload_n 0, 1) := by decide +kernel
theorem dX7_init_32 : decode cX7_init 32 = .ok (.iconst 0, 1) := by decide +kernel
theorem dX7_init_33 : decode cX7_init 33 = .ok (.putfield 27, 3) := by decide +kernel
theorem dX7_init_36 : decode cX7_init 36 = .ok (.aload_n 0, 1) := by decide +kernel
theorem dX7_init_37 : decode cX7_init 37 = .ok (.iconst 0, 1) := by decide +kernel
theorem dX7_init_38 : decode cX7_init 38 = .ok (.putfield 30, 3) := by decide +kernel
theorem dX7_init_41 : decode cX7_init 41 = .ok (.aload_n 0, 1) := by decide +kernel
theorem dX7_init_42 : decode cX7_init 42 = .ok (.new 33, 3) := by decide +kernel
theorem dX7_init_45 : decode cX7_init 45 = .ok (.dup, 1) := by decide +kernel
theorem dX7_init_46 : decode cX7_init 46 = .ok (.invokespecial 35, 3) := by decide +kernel
theorem dX7_init_49 : decode cX7_init 49 = .ok (.putfield 36, 3) := by decide +kernel
theorem dX7_init_52 : decode cX7_init 52 = .ok (.aload_n 0, 1) := by decide +kernel
theorem dX7_init_53 : decode cX7_init 53 = .ok (.new 33, 3) := by decide +kernel
theorem dX7_init_56 : decode cX7_init 56 = .ok (.dup, 1) := by decide +kernel
theorem dX7_init_57 : decode cX7_init 57 = .ok (.invokespecial 35, 3) := by decide +kernel
theorem dX7_init_60 : decode cX7_init 60 = .ok (.putfield 40, 3) := by decide +kernel
theorem dX7_init_63 : decode cX7_init 63 = .ok (.aload_n 0, 1) := by decide +kernel
theorem dX7_init_64 : decode cX7_init 64 = .ok (.new 43, 3) := by decide +kernel
theorem dX7_init_67 : decode cX7_init 67 = .ok (.dup, 1) := by decide +kernel
theorem dX7_init_68 : decode cX7_init 68 = .ok (.invokespecial 45, 3) := by decide +kernel
theorem dX7_init_71 : decode cX7_init 71 = .ok (.putfield 46, 3) := by decide +kernel
theorem dX7_init_74 : decode cX7_init 74 = .ok (.aload_n 0, 1) := by decide +kernel
theorem dX7_init_75 : decode cX7_init 75 = .ok (.new 50, 3) := by decide +kernel
theorem dX7_init_78 : decode cX7_init 78 = .ok (.dup, 1) := by decide +kernel
theorem dX7_init_79 : decode cX7_init 79 = .ok (.invokespecial 52, 3) := by decide +kernel
theorem dX7_init_82 : decode cX7_init 82 = .ok (.putfield 53, 3) := by decide +kernel
theorem dX7_init_85 : decode cX7_init 85 = .ok (.aload_n 0, 1) := by decide +kernel
theorem dX7_init_86 : decode cX7_init 86 = .ok (.new 57, 3) := by decide +kernel
theorem dX7_init_89 : decode cX7_init 89 = .ok (.dup, 1) := by decide +kernel
theorem dX7_init_90 : decode cX7_init 90 = .ok (.invokespecial 59, 3) := by decide +kernel
theorem dX7_init_93 : decode cX7_init 93 = .ok (.putfield 60, 3) := by decide +kernel
theorem dX7_init_96 : decode cX7_init 96 = .ok (.aload_n 0, 1) := by decide +kernel
theorem dX7_init_97 : decode cX7_init 97 = .ok (.bipush 16, 2) := by decide +kernel
theorem dX7_init_99 : decode cX7_init 99 = .ok (.newarray .long, 2) := by decide +kernel
theorem dX7_init_101 : decode cX7_init 101 = .ok (.putfield 64, 3) := by decide +kernel
theorem dX7_init_104 : decode cX7_init 104 = .ok (.aload_n 0, 1) := by decide +kernel
theorem dX7_init_105 : decode cX7_init 105 = .ok (.iconst 0, 1) := by decide +kernel
theorem dX7_init_106 : decode cX7_init 106 = .ok (.putfield 68, 3) := by decide +kernel
theorem dX7_init_109 : decode cX7_init 109 = .ok (.aload_n 0, 1) := by decide +kernel
theorem dX7_init_110 : decode cX7_init 110 = .ok (.iconst 3, 1) := by decide +kernel
theorem dX7_init_111 : decode cX7_init 111 = .ok (.newarray .long, 2) := by decide +kernel
theorem dX7_init_113 : decode cX7_init 113 = .ok (.putfield 71, 3) := by decide +kernel
theorem dX7_init_116 : decode cX7_init 116 = .ok (.aload_n 0, 1) := by decide +kernel
theorem dX7_init_117 : decode cX7_init 117 = .ok (.iconst 0, 1) := by decide +kernel
theorem dX7_init_118 : decode cX7_init 118 = .ok (.putfield 74, 3) := by decide +kernel
theorem dX7_init_121 : decode cX7_init 121 = .ok (.return_, 1) := by decide +kernel
theorem dX7_feed_0 : decode cX7_feed 0 = .ok (.aload_n 0, 1) := by decide +kernel
theorem dX7_feed_1 : decode cX7_feed 1 = .ok (.getfield 19, 3) := by decide +kernel
theorem dX7_feed_4 : decode cX7_feed 4 = .ok (.getfield 77, 3) := by decide +kernel
theorem dX7_feed_7 : decode cX7_feed 7 = .ok (.bipush 20, 2) := by decide +kernel
theorem dX7_feed_9 : decode cX7_feed 9 = .ok (.iadd, 1) := by decide +kernel
theorem dX7_feed_10 : decode cX7_feed 10 = .ok (.sipush 1000, 3) := by decide +kernel
theorem dX7_feed_13 : decode cX7_feed 13 = .ok (.if_icmp .le 5, 3) := by decide +kernel
theorem dX7_feed_16 : decode cX7_feed 16 = .ok (.iconst (-1), 1) := by decide +kernel
theorem dX7_feed_17 : decode cX7_feed 17 = .ok (.ireturn, 1) := by decide +kernel
theorem dX7_feed_18 : decode cX7_feed 18 = .ok (.aload_n 0, 1) := by decide +kernel
theorem dX7_feed_19 : decode cX7_feed 19 = .ok (.getfield 19, 3) := by decide +kernel
theorem dX7_feed_22 : decode cX7_feed 22 = .ok (.iload_n 1, 1) := by decide +kernel
theorem dX7_feed_23 : decode cX7_feed 23 = .ok (.invokevirtual 80, 3) := by decide +kernel
theorem dX7_feed_26 : decode cX7_feed 26 = .ok (.aload_n 0, 1) := by decide +kernel
theorem dX7_feed_27 : decode cX7_feed 27 = .ok (.getfield 19, 3) := by decide +kernel
theorem dX7_feed_30 : decode cX7_feed 30 = .ok (.iload_n 2, 1) := by decide +kernel
theorem dX7_feed_31 : decode cX7_feed 31 = .ok (.invokevirtual 80, 3) := by decide +kernel
theorem dX7_feed_34 : decode cX7_feed 34 = .ok (.aload_n 0, 1) := by decide +kernel
theorem dX7_feed_35 : decode cX7_feed 35 = .ok (.getfield 19, 3) := by decide +kernel
theorem dX7_feed_38 : decode cX7_feed 38 = .ok (.iload_n 3, 1) := by decide +kernel
theorem dX7_feed_39 : decode cX7_feed 39 = .ok (.invokevirtual 80, 3) := by decide +kernel
theorem dX7_feed_42 : decode cX7_feed 42 = .ok (.aload_n 0, 1) := by decide +kernel
theorem dX7_feed_43 : decode cX7_feed 43 = .ok (.getfield 19, 3) := by decide +kernel
theorem dX7_feed_46 : decode cX7_feed 46 = .ok (.iload 4, 2) := by decide +kernel
theorem dX7_feed_48 : decode cX7_feed 48 = .ok (.invokevirtual 80, 3) := by decide +kernel
theorem dX7_feed_51 : decode cX7_feed 51 = .ok (.aload_n 0, 1) := by decide +kernel
theorem dX7_feed_52 : decode cX7_feed 52 = .ok (.getfield 19, 3) := by decide +kernel
theorem dX7_feed_55 : decode cX7_feed 55 = .ok (.iload 5, 2) := by decide +kernel
theorem dX7_feed_57 : decode cX7_feed 57 = .ok (.invokevirtual 80, 3) := by decide +kernel
theorem dX7_feed_60 : decode cX7_feed 60 = .ok (.aload_n 0, 1) := by decide +kernel
theorem dX7_feed_61 : decode cX7_feed 61 = .ok (.getfield 19, 3) := by decide +kernel
theorem dX7_feed_64 : decode cX7_feed 64 = .ok (.getfield 77, 3) := by decide +kernel
theorem dX7_feed_67 : decode cX7_feed 67 = .ok (.ireturn, 1) := by decide +kernel
theorem dX7_county_0 : decode cX7_county 0 = .ok (.iload_n 1, 1) := by decide +kernel
theorem dX7_county_1 : decode cX7_county 1 = .ok (.ifCond .lt 14, 3) := by decide +kernel
theorem dX7_county_4 : decode cX7_county 4 = .ok (.iload_n 1, 1) := by decide +kernel
theorem dX7_county_5 : decode cX7_county 5 = .ok (.aload_n 0, 1) := by decide +kernel
theorem dX7_county_6 : decode cX7_county 6 = .ok (.getfield 19, 3) := by decide +kernel
theorem dX7_county_9 : decode cX7_county 9 = .ok (.getfield 77, 3) := by decide +kernel
theorem dX7_county_12 : decode cX7_county 12 = .ok (.if_icmp .le 9, 3) := by decide +kernel
theorem dX7_county_15 : decode cX7_county 15 = .ok (.aload_n 0, 1) := by decide +kernel
theorem dX7_county_16 : decode cX7_county 16 = .ok (.iconst 2, 1) := by decide +kernel
theorem dX7_county_17 : decode cX7_county 17 = .ok (.invokevirtual 84, 3) := by decide +kernel
theorem dX7_county_20 : decode cX7_county 20 = .ok (.ireturn, 1) := by decide +kernel
theorem dX7_county_21 : decode cX7_county 21 = .ok (.aload_n 0, 1) := by decide +kernel
theorem dX7_county_22 : decode cX7_county 22 = .ok (.getfield 19, 3) := by decide +kernel
theorem dX7_county_25 : decode cX7_county 25 = .ok (.iload_n 1, 1) := by decide +kernel
theorem dX7_county_26 : decode cX7_county 26 = .ok (.invokevirtual 88, 3) := by decide +kernel
theorem dX7_county_29 : decode cX7_county 29 = .ok (.istore_n 2, 1) := by decide +kernel
theorem dX7_county_30 : decode cX7_county 30 = .ok (.aload_n 0, 1) := by decide +kernel
theorem dX7_county_31 : decode cX7_county 31 = .ok (.aload_n 0, 1) := by decide +kernel
theorem dX7_county_32 : decode cX7_county 32 = .ok (.getfield 19, 3) := by decide +kernel
theorem dX7_county_35 : decode cX7_county 35 = .ok (.getfield 92, 3) := by decide +kernel
theorem dX7_county_38 : decode cX7_county 38 = .ok (.putfield 23, 3) := by decide +kernel
theorem dX7_county_41 : decode cX7_county 41 = .ok (.aload_n 0, 1) := by decide +kernel
theorem dX7_county_42 : decode cX7_county 42 = .ok (.aload_n 0, 1) := by decide +kernel
theorem dX7_county_43 : decode cX7_county 43 = .ok (.getfield 19, 3) := by decide +kernel
theorem dX7_county_46 : decode cX7_county 46 = .ok (.getfield 95, 3) := by decide +kernel
theorem dX7_county_49 : decode cX7_county 49 = .ok (.putfield 27, 3) := by decide +kernel
theorem dX7_county_52 : decode cX7_county 52 = .ok (.iload_n 2, 1) := by decide +kernel
theorem dX7_county_53 : decode cX7_county 53 = .ok (.ifCond .ne 9, 3) := by decide +kernel
theorem dX7_county_56 : decode cX7_county 56 = .ok (.aload_n 0, 1) := by decide +kernel
theorem dX7_county_57 : decode cX7_county 57 = .ok (.iconst 4, 1) := by decide +kernel
theorem dX7_county_58 : decode cX7_county 58 = .ok (.invokevirtual 84, 3) := by decide +kernel
theorem dX7_county_61 : decode cX7_county 61 = .ok (.ireturn, 1) := by decide +kernel
theorem dX7_county_62 : decode cX7_county 62 = .ok (.aload_n 0, 1) := by decide +kernel
theorem dX7_county_63 : decode cX7_county 63 = .ok (.aload_n 0, 1) := by decide +kernel
theorem dX7_county_64 : decode cX7_county 64 = .ok (.getfield 19, 3) := by decide +kernel
theorem dX7_county_67 : decode cX7_county 67 = .ok (.aload_n 0, 1) := by decide +kernel
theorem dX7_county_68 : decode cX7_county 68 = .ok (.getfield 10, 3) := by decide +kernel
theorem dX7_county_71 : decode cX7_county 71 = .ok (.invokevirtual 98, 3) := by decide +kernel
theorem dX7_county_74 : decode cX7_county 74 = .ok (.putfield 10, 3) := by decide +kernel
theorem dX7_county_77 : decode cX7_county 77 = .ok (.aload_n 0, 1) := by decide +kernel
theorem dX7_county_78 : decode cX7_county 78 = .ok (.getfield 36, 3) := by decide +kernel
theorem dX7_county_81 : decode cX7_county 81 = .ok (.aload_n 0, 1) := by decide +kernel
theorem dX7_county_82 : decode cX7_county 82 = .ok (.getfield 10, 3) := by decide +kernel
theorem dX7_county_85 : decode cX7_county 85 = .ok (.invokevirtual 102, 3) := by decide +kernel
theorem dX7_county_88 : decode cX7_county 88 = .ok (.aload_n 0, 1) := by decide +kernel
theorem dX7_county_89 : decode cX7_county 89 = .ok (.getfield 46, 3) := by decide +kernel
theorem dX7_county_92 : decode cX7_county 92 = .ok (.aload_n 0, 1) := by decide +kernel
theorem dX7_county_93 : decode cX7_county 93 = .ok (.getfield 10, 3) := by decide +kernel
theorem dX7_county_96 : decode cX7_county 96 = .ok (.invokevirtual 106, 3) := by decide +kernel
theorem dX7_county_99 : decode cX7_county 99 = .ok (.aload_n 0, 1) := by decide +kernel
theorem dX7_county_100 : decode cX7_county 100 = .ok (.iconst 0, 1) := by decide +kernel
theorem dX7_county_101 : decode cX7_county 101 = .ok (.putfield 68, 3) := by decide +kernel
theorem dX7_county_104 : decode cX7_county 104 = .ok (.aload_n 0, 1) := by decide +kernel
theorem dX7_county_105 : decode cX7_county 105 = .ok (.iconst 0, 1) := by decide +kernel
theorem dX7_county_106 : decode cX7_county 106 = .ok (.putfield 74, 3) := by decide +kernel
theorem dX7_county_109 : decode cX7_county 109 = .ok (.aload_n 0, 1) := by decide +kernel
theorem dX7_county_110 : decode cX7_county 110 = .ok (.aload_n 0, 1) := by decide +kernel
theorem dX7_county_111 : decode cX7_county 111 = .ok (.getfield 10, 3) := by decide +kernel
theorem dX7_county_114 : decode cX7_county 114 = .ok (.getfield 107, 3) := by decide +kernel
theorem dX7_county_117 : decode cX7_county 117 = .ok (.invokevirtual 110, 3) := by decide +kernel
theorem dX7_county_120 : decode cX7_county 120 = .ok (.ireturn, 1) := by decide +kernel
theorem dX7_fault_0 : decode cX7_fault 0 = .ok (.aload_n 0, 1) := by decide +kernel
theorem dX7_fault_1 : decode cX7_fault 1 = .ok (.getfield 23, 3) := by decide +kernel
theorem dX7_fault_4 : decode cX7_fault 4 = .ok (.ireturn, 1) := by decide +kernel
theorem dX7_where_0 : decode cX7_where 0 = .ok (.aload_n 0, 1) := by decide +kernel
theorem dX7_where_1 : decode cX7_where 1 = .ok (.getfield 30, 3) := by decide +kernel
theorem dX7_where_4 : decode cX7_where 4 = .ok (.iconst 4, 1) := by decide +kernel
theorem dX7_where_5 : decode cX7_where 5 = .ok (.if_icmp .ne 10, 3) := by decide +kernel
theorem dX7_where_8 : decode cX7_where 8 = .ok (.aload_n 0, 1) := by decide +kernel
theorem dX7_where_9 : decode cX7_where 9 = .ok (.getfield 27, 3) := by decide +kernel
theorem dX7_where_12 : decode cX7_where 12 = .ok (.goto 4, 3) := by decide +kernel
theorem dX7_where_15 : decode cX7_where 15 = .ok (.iconst (-1), 1) := by decide +kernel
theorem dX7_where_16 : decode cX7_where 16 = .ok (.ireturn, 1) := by decide +kernel
theorem dX7_umbrella_0 : decode cX7_umbrella 0 = .ok (.aload_n 0, 1) := by decide +kernel
theorem dX7_umbrella_1 : decode cX7_umbrella 1 = .ok (.iload_n 1, 1) := by decide +kernel
theorem dX7_umbrella_2 : decode cX7_umbrella 2 = .ok (.invokevirtual 113, 3) := by decide +kernel
theorem dX7_umbrella_5 : decode cX7_umbrella 5 = .ok (.ifCond .ne 9, 3) := by decide +kernel
theorem dX7_umbrella_8 : decode cX7_umbrella 8 = .ok (.aload_n 0, 1) := by decide +kernel
theorem dX7_umbrella_9 : decode cX7_umbrella 9 = .ok (.iconst 1, 1) := by decide +kernel
theorem dX7_umbrella_10 : decode cX7_umbrella 10 = .ok (.invokevirtual 84, 3) := by decide +kernel
theorem dX7_umbrella_13 : decode cX7_umbrella 13 = .ok (.ireturn, 1) := by decide +kernel
theorem dX7_umbrella_14 : decode cX7_umbrella 14 = .ok (.iload_n 2, 1) := by decide +kernel
theorem dX7_umbrella_15 : decode cX7_umbrella 15 = .ok (.tableswitch 103 0 4 #[33, 47, 61, 75, 89], 33) := by decide +kernel
theorem dX7_umbrella_48 : decode cX7_umbrella 48 = .ok (.aload_n 0, 1) := by decide +kernel
theorem dX7_umbrella_49 : decode cX7_umbrella 49 = .ok (.aload_n 0, 1) := by decide +kernel
theorem dX7_umbrella_50 : decode cX7_umbrella 50 = .ok (.getfield 10, 3) := by decide +kernel
theorem dX7_umbrella_53 : decode cX7_umbrella 53 = .ok (.getfield 116, 3) := by decide +kernel
theorem dX7_umbrella_56 : decode cX7_umbrella 56 = .ok (.iload_n 1, 1) := by decide +kernel
theorem dX7_umbrella_57 : decode cX7_umbrella 57 = .ok (.iaload, 1) := by decide +kernel
theorem dX7_umbrella_58 : decode cX7_umbrella 58 = .ok (.invokevirtual 110, 3) := by decide +kernel
theorem dX7_umbrella_61 : decode cX7_umbrella 61 = .ok (.ireturn, 1) := by decide +kernel
theorem dX7_umbrella_62 : decode cX7_umbrella 62 = .ok (.aload_n 0, 1) := by decide +kernel
theorem dX7_umbrella_63 : decode cX7_umbrella 63 = .ok (.aload_n 0, 1) := by decide +kernel
theorem dX7_umbrella_64 : decode cX7_umbrella 64 = .ok (.getfield 10, 3) := by decide +kernel
theorem dX7_umbrella_67 : decode cX7_umbrella 67 = .ok (.getfield 120, 3) := by decide +kernel
theorem dX7_umbrella_70 : decode cX7_umbrella 70 = .ok (.iload_n 1, 1) := by decide +kernel
theorem dX7_umbrella_71 : decode cX7_umbrella 71 = .ok (.iaload, 1) := by decide +kernel
theorem dX7_umbrella_72 : decode cX7_umbrella 72 = .ok (.invokevirtual 110, 3) := by decide +kernel
theorem dX7_umbrella_75 : decode cX7_umbrella 75 = .ok (.ireturn, 1) := by decide +kernel
theorem dX7_umbrella_76 : decode cX7_umbrella 76 = .ok (.aload_n 0, 1) := by decide +kernel
theorem dX7_umbrella_77 : decode cX7_umbrella 77 = .ok (.aload_n 0, 1) := by decide +kernel
theorem dX7_umbrella_78 : decode cX7_umbrella 78 = .ok (.getfield 10, 3) := by decide +kernel
theorem dX7_umbrella_81 : decode cX7_umbrella 81 = .ok (.getfield 123, 3) := by decide +kernel
theorem dX7_umbrella_84 : decode cX7_umbrella 84 = .ok (.iload_n 1, 1) := by decide +kernel
theorem dX7_umbrella_85 : decode cX7_umbrella 85 = .ok (.iaload, 1) := by decide +kernel
theorem dX7_umbrella_86 : decode cX7_umbrella 86 = .ok (.invokevirtual 110, 3) := by decide +kernel
theorem dX7_umbrella_89 : decode cX7_umbrella 89 = .ok (.ireturn, 1) := by decide +kernel
theorem dX7_umbrella_90 : decode cX7_umbrella 90 = .ok (.aload_n 0, 1) := by decide +kernel
theorem dX7_umbrella_91 : decode cX7_umbrella 91 = .ok (.aload_n 0, 1) := by decide +kernel
theorem dX7_umbrella_92 : decode cX7_umbrella 92 = .ok (.getfield 36, 3) := by decide +kernel
theorem dX7_umbrella_95 : decode cX7_umbrella 95 = .ok (.getfield 126, 3) := by decide +kernel
theorem dX7_umbrella_98 : decode cX7_umbrella 98 = .ok (.iload_n 1, 1) := by decide +kernel
theorem dX7_umbrella_99 : decode cX7_umbrella 99 = .ok (.iaload, 1) := by decide +kernel
theorem dX7_umbrella_100 : decode cX7_umbrella 100 = .ok (.invokevirtual 110, 3) := by decide +kernel
theorem dX7_umbrella_103 : decode cX7_umbrella 103 = .ok (.ireturn, 1) := by decide +kernel
theorem dX7_umbrella_104 : decode cX7_umbrella 104 = .ok (.aload_n 0, 1) := by decide +kernel
theorem dX7_umbrella_105 : decode cX7_umbrella 105 = .ok (.aload_n 0, 1) := by decide +kernel
theorem dX7_umbrella_106 : decode cX7_umbrella 106 = .ok (.getfield 36, 3) := by decide +kernel
theorem dX7_umbrella_109 : decode cX7_umbrella 109 = .ok (.getfield 129, 3) := by decide +kernel
theorem dX7_umbrella_112 : decode cX7_umbrella 112 = .ok (.iload_n 1, 1) := by decide +kernel
theorem dX7_umbrella_113 : decode cX7_umbrella 113 = .ok (.iaload, 1) := by decide +kernel
theorem dX7_umbrella_114 : decode cX7_umbrella 114 = .ok (.invokevirtual 110, 3) := by decide +kernel
theorem dX7_umbrella_117 : decode cX7_umbrella 117 = .ok (.ireturn, 1) := by decide +kernel
theorem dX7_umbrella_118 : decode cX7_umbrella 118 = .ok (.aload_n 0, 1) := by decide +kernel
theorem dX7_umbrella_119 : decode cX7_umbrella 119 = .ok (.iconst 1, 1) := by decide +kernel
theorem dX7_umbrella_120 : decode cX7_umbrella 120 = .ok (.invokevirtual 84, 3) := by decide +kernel
theorem dX7_umbrella_123 : decode cX7_umbrella 123 = .ok (.ireturn, 1) := by decide +kernel
theorem dX7_person_0 : decode cX7_person 0 = .ok (.aload_n 0, 1) := by decide +kernel
theorem dX7_person_1 : decode cX7_person 1 = .ok (.iload_n 1, 1) := by decide +kernel
theorem dX7_person_2 : decode cX7_person 2 = .ok (.invokevirtual 132, 3) := by decide +kernel
theorem dX7_person_5 : decode cX7_person 5 = .ok (.ifCond .ne 9, 3) := by decide +kernel
theorem dX7_person_8 : decode cX7_person 8 = .ok (.aload_n 0, 1) := by decide +kernel
theorem dX7_person_9 : decode cX7_person 9 = .ok (.iconst 1, 1) := by decide +kernel
theorem dX7_person_10 : decode cX7_person 10 = .ok (.invokevirtual 84, 3) := by decide +kernel
theorem dX7_person_13 : decode cX7_person 13 = .ok (.ireturn, 1) := by decide +kernel
theorem dX7_person_14 : decode cX7_person 14 = .ok (.iload_n 2, 1) := by decide +kernel
theorem dX7_person_15 : decode cX7_person 15 = .ok (.tableswitch 73 0 2 #[25, 39, 56], 25) := by decide +kernel
theorem dX7_person_40 : decode cX7_person 40 = .ok (.aload_n 0, 1) := by decide +kernel
theorem dX7_person_41 : decode cX7_person 41 = .ok (.aload_n 0, 1) := by decide +kernel
theorem dX7_person_42 : decode cX7_person 42 = .ok (.getfield 10, 3) := by decide +kernel
theorem dX7_person_45 : decode cX7_person 45 = .ok (.getfield 135, 3) := by decide +kernel
theorem dX7_person_48 : decode cX7_person 48 = .ok (.iload_n 1, 1) := by decide +kernel
theorem dX7_person_49 : decode cX7_person 49 = .ok (.iaload, 1) := by decide +kernel
theorem dX7_person_50 : decode cX7_person 50 = .ok (.invokevirtual 110, 3) := by decide +kernel
theorem dX7_person_53 : decode cX7_person 53 = .ok (.ireturn, 1) := by decide +kernel
theorem dX7_person_54 : decode cX7_person 54 = .ok (.aload_n 0, 1) := by decide +kernel
theorem dX7_person_55 : decode cX7_person 55 = .ok (.aload_n 0, 1) := by decide +kernel
theorem dX7_person_56 : decode cX7_person 56 = .ok (.getfield 36, 3) := by decide +kernel
theorem dX7_person_59 : decode cX7_person 59 = .ok (.aload_n 0, 1) := by decide +kernel
theorem dX7_person_60 : decode cX7_person 60 = .ok (.getfield 10, 3) := by decide +kernel
theorem dX7_person_63 : decode cX7_person 63 = .ok (.iload_n 1, 1) := by decide +kernel
theorem dX7_person_64 : decode cX7_person 64 = .ok (.invokevirtual 138, 3) := by decide +kernel
theorem dX7_person_67 : decode cX7_person 67 = .ok (.invokevirtual 110, 3) := by decide +kernel
theorem dX7_person_70 : decode cX7_person 70 = .ok (.ireturn, 1) := by decide +kernel
theorem dX7_person_71 : decode cX7_person 71 = .ok (.aload_n 0, 1) := by decide +kernel
theorem dX7_person_72 : decode cX7_person 72 = .ok (.aload_n 0, 1) := by decide +kernel
theorem dX7_person_73 : decode cX7_person 73 = .ok (.getfield 36, 3) := by decide +kernel
theorem dX7_person_76 : decode cX7_person 76 = .ok (.aload_n 0, 1) := by decide +kernel
theorem dX7_person_77 : decode cX7_person 77 = .ok (.getfield 10, 3) := by decide +kernel
theorem dX7_person_80 : decode cX7_person 80 = .ok (.iload_n 1, 1) := by decide +kernel
theorem dX7_person_81 : decode cX7_person 81 = .ok (.invokevirtual 142, 3) := by decide +kernel
theorem dX7_person_84 : decode cX7_person 84 = .ok (.invokevirtual 110, 3) := by decide +kernel
theorem dX7_person_87 : decode cX7_person 87 = .ok (.ireturn, 1) := by decide +kernel
theorem dX7_person_88 : decode cX7_person 88 = .ok (.aload_n 0, 1) := by decide +kernel
theorem dX7_person_89 : decode cX7_person 89 = .ok (.iconst 1, 1) := by decide +kernel
theorem dX7_person_90 : decode cX7_person 90 = .ok (.invokevirtual 84, 3) := by decide +kernel
theorem dX7_person_93 : decode cX7_person 93 = .ok (.ireturn, 1) := by decide +kernel
theorem dX7_alike_0 : decode cX7_alike 0 = .ok (.aload_n 0, 1) := by decide +kernel
theorem dX7_alike_1 : decode cX7_alike 1 = .ok (.iload_n 1, 1) := by decide +kernel
theorem dX7_alike_2 : decode cX7_alike 2 = .ok (.invokevirtual 113, 3) := by decide +kernel
theorem dX7_alike_5 : decode cX7_alike 5 = .ok (.ifCond .ne 9, 3) := by decide +kernel
theorem dX7_alike_8 : decode cX7_alike 8 = .ok (.aload_n 0, 1) := by decide +kernel
theorem dX7_alike_9 : decode cX7_alike 9 = .ok (.iconst 1, 1) := by decide +kernel
theorem dX7_alike_10 : decode cX7_alike 10 = .ok (.invokevirtual 84, 3) := by decide +kernel
theorem dX7_alike_13 : decode cX7_alike 13 = .ok (.ireturn, 1) := by decide +kernel
theorem dX7_alike_14 : decode cX7_alike 14 = .ok (.iconst 0, 1) := by decide +kernel
theorem dX7_alike_15 : decode cX7_alike 15 = .ok (.istore_n 2, 1) := by decide +kernel
theorem dX7_alike_16 : decode cX7_alike 16 = .ok (.iconst 0, 1) := by decide +kernel
theorem dX7_alike_17 : decode cX7_alike 17 = .ok (.istore_n 3, 1) := by decide +kernel
theorem dX7_alike_18 : decode cX7_alike 18 = .ok (.iload_n 3, 1) := by decide +kernel
theorem dX7_alike_19 : decode cX7_alike 19 = .ok (.aload_n 0, 1) := by decide +kernel
theorem dX7_alike_20 : decode cX7_alike 20 = .ok (.getfield 10, 3) := by decide +kernel
theorem dX7_alike_23 : decode cX7_alike 23 = .ok (.getfield 107, 3) := by decide +kernel
theorem dX7_alike_26 : decode cX7_alike 26 = .ok (.if_icmp .ge 32, 3) := by decide +kernel
theorem dX7_alike_29 : decode cX7_alike 29 = .ok (.iload_n 3, 1) := by decide +kernel
theorem dX7_alike_30 : decode cX7_alike 30 = .ok (.iload_n 1, 1) := by decide +kernel
theorem dX7_alike_31 : decode cX7_alike 31 = .ok (.if_icmp .eq 21, 3) := by decide +kernel
theorem dX7_alike_34 : decode cX7_alike 34 = .ok (.aload_n 0, 1) := by decide +kernel
theorem dX7_alike_35 : decode cX7_alike 35 = .ok (.getfield 10, 3) := by decide +kernel
theorem dX7_alike_38 : decode cX7_alike 38 = .ok (.iload_n 1, 1) := by decide +kernel
theorem dX7_alike_39 : decode cX7_alike 39 = .ok (.iload_n 3, 1) := by decide +kernel
theorem dX7_alike_40 : decode cX7_alike 40 = .ok (.invokevirtual 145, 3) := by decide +kernel
theorem dX7_alike_43 : decode cX7_alike 43 = .ok (.ifCond .eq 9, 3) := by decide +kernel
theorem dX7_alike_46 : decode cX7_alike 46 = .ok (.iload_n 2, 1) := by decide +kernel
theorem dX7_alike_47 : decode cX7_alike 47 = .ok (.iconst 1, 1) := by decide +kernel
theorem dX7_alike_48 : decode cX7_alike 48 = .ok (.iload_n 3, 1) := by decide +kernel
theorem dX7_alike_49 : decode cX7_alike 49 = .ok (.ishl, 1) := by decide +kernel
theorem dX7_alike_50 : decode cX7_alike 50 = .ok (.ior, 1) := by decide +kernel
theorem dX7_alike_51 : decode cX7_alike 51 = .ok (.istore_n 2, 1) := by decide +kernel
theorem dX7_alike_52 : decode cX7_alike 52 = .ok (.iinc 3 1, 3) := by decide +kernel
theorem dX7_alike_55 : decode cX7_alike 55 = .ok (.goto (-37), 3) := by decide +kernel
theorem dX7_alike_58 : decode cX7_alike 58 = .ok (.aload_n 0, 1) := by decide +kernel
theorem dX7_alike_59 : decode cX7_alike 59 = .ok (.iload_n 2, 1) := by decide +kernel
theorem dX7_alike_60 : decode cX7_alike 60 = .ok (.invokevirtual 110, 3) := by decide +kernel
theorem dX7_alike_63 : decode cX7_alike 63 = .ok (.ireturn, 1) := by decide +kernel
theorem dX7_right_0 : decode cX7_right 0 = .ok (.aload_n 0, 1) := by decide +kernel
theorem dX7_right_1 : decode cX7_right 1 = .ok (.invokevirtual 149, 3) := by decide +kernel
theorem dX7_right_4 : decode cX7_right 4 = .ok (.ifCond .ne 9, 3) := by decide +kernel
theorem dX7_right_7 : decode cX7_right 7 = .ok (.aload_n 0, 1) := by decide +kernel
theorem dX7_right_8 : decode cX7_right 8 = .ok (.iconst 1, 1) := by decide +kernel
theorem dX7_right_9 : decode cX7_right 9 = .ok (.invokevirtual 84, 3) := by decide +kernel
theorem dX7_right_12 : decode cX7_right 12 = .ok (.ireturn, 1) := by decide +kernel
theorem dX7_right_13 : decode cX7_right 13 = .ok (.aload_n 0, 1) := by decide +kernel
theorem dX7_right_14 : decode cX7_right 14 = .ok (.aload_n 0, 1) := by decide +kernel
theorem dX7_right_15 : decode cX7_right 15 = .ok (.getfield 36, 3) := by decide +kernel
theorem dX7_right_18 : decode cX7_right 18 = .ok (.aload_n 0, 1) := by decide +kernel
theorem dX7_right_19 : decode cX7_right 19 = .ok (.getfield 10, 3) := by decide +kernel
theorem dX7_right_22 : decode cX7_right 22 = .ok (.invokevirtual 153, 3) := by decide +kernel
theorem dX7_right_25 : decode cX7_right 25 = .ok (.invokevirtual 110, 3) := by decide +kernel
theorem dX7_right_28 : decode cX7_right 28 = .ok (.ireturn, 1) := by decide +kernel
theorem dX7_richest_0 : decode cX7_richest 0 = .ok (.aload_n 0, 1) := by decide +kernel
theorem dX7_richest_1 : decode cX7_richest 1 = .ok (.invokevirtual 149, 3) := by decide +kernel
theorem dX7_richest_4 : decode cX7_richest 4 = .ok (.ifCond .ne 9, 3) := by decide +kernel
theorem dX7_richest_7 : decode cX7_richest 7 = .ok (.aload_n 0, 1) := by decide +kernel
theorem dX7_richest_8 : decode cX7_richest 8 = .ok (.iconst 1, 1) := by decide +kernel
theorem dX7_richest_9 : decode cX7_richest 9 = .ok (.invokevirtual 84, 3) := by decide +kernel
theorem dX7_richest_12 : decode cX7_richest 12 = .ok (.ireturn, 1) := by decide +kernel
theorem dX7_richest_13 : decode cX7_richest 13 = .ok (.bipush (-2), 2) := by decide +kernel
theorem dX7_richest_15 : decode cX7_richest 15 = .ok (.istore_n 1, 1) := by decide +kernel
theorem dX7_richest_16 : decode cX7_richest 16 = .ok (.iconst 0, 1) := by decide +kernel
theorem dX7_richest_17 : decode cX7_richest 17 = .ok (.istore_n 2, 1) := by decide +kernel
theorem dX7_richest_18 : decode cX7_richest 18 = .ok (.iconst 0, 1) := by decide +kernel
theorem dX7_richest_19 : decode cX7_richest 19 = .ok (.istore_n 3, 1) := by decide +kernel
theorem dX7_richest_20 : decode cX7_richest 20 = .ok (.iload_n 3, 1) := by decide +kernel
theorem dX7_richest_21 : decode cX7_richest 21 = .ok (.aload_n 0, 1) := by decide +kernel
theorem dX7_richest_22 : decode cX7_richest 22 = .ok (.getfield 10, 3) := by decide +kernel
theorem dX7_richest_25 : decode cX7_richest 25 = .ok (.getfield 157, 3) := by decide +kernel
theorem dX7_richest_28 : decode cX7_richest 28 = .ok (.if_icmp .ge 34, 3) := by decide +kernel
theorem dX7_richest_31 : decode cX7_richest 31 = .ok (.aload_n 0, 1) := by decide +kernel
theorem dX7_richest_32 : decode cX7_richest 32 = .ok (.getfield 36, 3) := by decide +kernel
theorem dX7_richest_35 : decode cX7_richest 35 = .ok (.aload_n 0, 1) := by decide +kernel
theorem dX7_richest_36 : decode cX7_richest 36 = .ok (.getfield 10, 3) := by decide +kernel
theorem dX7_richest_39 : decode cX7_richest 39 = .ok (.iload_n 3, 1) := by decide +kernel
theorem dX7_richest_40 : decode cX7_richest 40 = .ok (.invokevirtual 142, 3) := by decide +kernel
theorem dX7_richest_43 : decode cX7_richest 43 = .ok (.istore 4, 2) := by decide +kernel
theorem dX7_richest_45 : decode cX7_richest 45 = .ok (.iload 4, 2) := by decide +kernel
theorem dX7_richest_47 : decode cX7_richest 47 = .ok (.iload_n 2, 1) := by decide +kernel
theorem dX7_richest_48 : decode cX7_richest 48 = .ok (.if_icmp .le 8, 3) := by decide +kernel
theorem dX7_richest_51 : decode cX7_richest 51 = .ok (.iload 4, 2) := by decide +kernel
theorem dX7_richest_53 : decode cX7_richest 53 = .ok (.istore_n 2, 1) := by decide +kernel
theorem dX7_richest_54 : decode cX7_richest 54 = .ok (.iload_n 3, 1) := by decide +kernel
theorem dX7_richest_55 : decode cX7_richest 55 = .ok (.istore_n 1, 1) := by decide +kernel
theorem dX7_richest_56 : decode cX7_richest 56 = .ok (.iinc 3 1, 3) := by decide +kernel
theorem dX7_richest_59 : decode cX7_richest 59 = .ok (.goto (-39), 3) := by decide +kernel
theorem dX7_richest_62 : decode cX7_richest 62 = .ok (.aload_n 0, 1) := by decide +kernel
theorem dX7_richest_63 : decode cX7_richest 63 = .ok (.iload_n 1, 1) := by decide +kernel
theorem dX7_richest_64 : decode cX7_richest 64 = .ok (.invokevirtual 110, 3) := by decide +kernel
theorem dX7_richest_67 : decode cX7_richest 67 = .ok (.ireturn, 1) := by decide +kernel
theorem dX7_hasIt_0 : decode cX7_hasIt 0 = .ok (.aload_n 0, 1) := by decide +kernel
theorem dX7_hasIt_1 : decode cX7_hasIt 1 = .ok (.iload_n 1, 1) := by decide +kernel
theorem dX7_hasIt_2 : decode cX7_hasIt 2 = .ok (.invokevirtual 113, 3) := by decide +kernel
theorem dX7_hasIt_5 : decode cX7_hasIt 5 = .ok (.ifCond .ne 9, 3) := by decide +kernel
theorem dX7_hasIt_8 : decode cX7_hasIt 8 = .ok (.aload_n 0, 1) := by decide +kernel
theorem dX7_hasIt_9 : decode cX7_hasIt 9 = .ok (.iconst 1, 1) := by decide +kernel
theorem dX7_hasIt_10 : decode cX7_hasIt 10 = .ok (.invokevirtual 84, 3) := by decide +kernel
theorem dX7_hasIt_13 : decode cX7_hasIt 13 = .ok (.ireturn, 1) := by decide +kernel
theorem dX7_hasIt_14 : decode cX7_hasIt 14 = .ok (.iload_n 2, 1) := by decide +kernel
theorem dX7_hasIt_15 : decode cX7_hasIt 15 = .ok (.invokestatic 160, 3) := by decide +kernel
theorem dX7_hasIt_18 : decode cX7_hasIt 18 = .ok (.ifCond .ne 9, 3) := by decide +kernel
theorem dX7_hasIt_21 : decode cX7_hasIt 21 = .ok (.aload_n 0, 1) := by decide +kernel
theorem dX7_hasIt_22 : decode cX7_hasIt 22 = .ok (.iconst 2, 1) := by decide +kernel
theorem dX7_hasIt_23 : decode cX7_hasIt 23 = .ok (.invokevirtual 84, 3) := by decide +kernel
theorem dX7_hasIt_26 : decode cX7_hasIt 26 = .ok (.ireturn, 1) := by decide +kernel
theorem dX7_hasIt_27 : decode cX7_hasIt 27 = .ok (.aload_n 0, 1) := by decide +kernel
theorem dX7_hasIt_28 : decode cX7_hasIt 28 = .ok (.aload_n 0, 1) := by decide +kernel
theorem dX7_hasIt_29 : decode cX7_hasIt 29 = .ok (.getfield 46, 3) := by decide +kernel
theorem dX7_hasIt_32 : decode cX7_hasIt 32 = .ok (.iload_n 2, 1) := by decide +kernel
theorem dX7_hasIt_33 : decode cX7_hasIt 33 = .ok (.invokevirtual 163, 3) := by decide +kernel
theorem dX7_hasIt_36 : decode cX7_hasIt 36 = .ok (.getfield 126, 3) := by decide +kernel
theorem dX7_hasIt_39 : decode cX7_hasIt 39 = .ok (.iload_n 1, 1) := by decide +kernel
theorem dX7_hasIt_40 : decode cX7_hasIt 40 = .ok (.iaload, 1) := by decide +kernel
theorem dX7_hasIt_41 : decode cX7_hasIt 41 = .ok (.invokevirtual 110, 3) := by decide +kernel
theorem dX7_hasIt_44 : decode cX7_hasIt 44 = .ok (.ireturn, 1) := by decide +kernel
theorem dX7_titleOf_0 : decode cX7_titleOf 0 = .ok (.aload_n 0, 1) := by decide +kernel
theorem dX7_titleOf_1 : decode cX7_titleOf 1 = .ok (.iload_n 1, 1) := by decide +kernel
theorem dX7_titleOf_2 : decode cX7_titleOf 2 = .ok (.invokevirtual 113, 3) := by decide +kernel
theorem dX7_titleOf_5 : decode cX7_titleOf 5 = .ok (.ifCond .ne 9, 3) := by decide +kernel
theorem dX7_titleOf_8 : decode cX7_titleOf 8 = .ok (.aload_n 0, 1) := by decide +kernel
theorem dX7_titleOf_9 : decode cX7_titleOf 9 = .ok (.iconst 1, 1) := by decide +kernel
theorem dX7_titleOf_10 : decode cX7_titleOf 10 = .ok (.invokevirtual 84, 3) := by decide +kernel
theorem dX7_titleOf_13 : decode cX7_titleOf 13 = .ok (.ireturn, 1) := by decide +kernel
theorem dX7_titleOf_14 : decode cX7_titleOf 14 = .ok (.iload_n 2, 1) := by decide +kernel
theorem dX7_titleOf_15 : decode cX7_titleOf 15 = .ok (.invokestatic 160, 3) := by decide +kernel
theorem dX7_titleOf_18 : decode cX7_titleOf 18 = .ok (.ifCond .ne 9, 3) := by decide +kernel
theorem dX7_titleOf_21 : decode cX7_titleOf 21 = .ok (.aload_n 0, 1) := by decide +kernel
theorem dX7_titleOf_22 : decode cX7_titleOf 22 = .ok (.iconst 2, 1) := by decide +kernel
theorem dX7_titleOf_23 : decode cX7_titleOf 23 = .ok (.invokevirtual 84, 3) := by decide +kernel
theorem dX7_titleOf_26 : decode cX7_titleOf 26 = .ok (.ireturn, 1) := by decide +kernel
theorem dX7_titleOf_27 : decode cX7_titleOf 27 = .ok (.aload_n 0, 1) := by decide +kernel
theorem dX7_titleOf_28 : decode cX7_titleOf 28 = .ok (.aload_n 0, 1) := by decide +kernel
theorem dX7_titleOf_29 : decode cX7_titleOf 29 = .ok (.getfield 46, 3) := by decide +kernel
theorem dX7_titleOf_32 : decode cX7_titleOf 32 = .ok (.iload_n 2, 1) := by decide +kernel
theorem dX7_titleOf_33 : decode cX7_titleOf 33 = .ok (.invokevirtual 163, 3) := by decide +kernel
theorem dX7_titleOf_36 : decode cX7_titleOf 36 = .ok (.getfield 129, 3) := by decide +kernel
theorem dX7_titleOf_39 : decode cX7_titleOf 39 = .ok (.iload_n 1, 1) := by decide +kernel
theorem dX7_titleOf_40 : decode cX7_titleOf 40 = .ok (.iaload, 1) := by decide +kernel
theorem dX7_titleOf_41 : decode cX7_titleOf 41 = .ok (.invokevirtual 110, 3) := by decide +kernel
theorem dX7_titleOf_44 : decode cX7_titleOf 44 = .ok (.ireturn, 1) := by decide +kernel
theorem dX7_landsOf_0 : decode cX7_landsOf 0 = .ok (.aload_n 0, 1) := by decide +kernel
theorem dX7_landsOf_1 : decode cX7_landsOf 1 = .ok (.iload_n 1, 1) := by decide +kernel
theorem dX7_landsOf_2 : decode cX7_landsOf 2 = .ok (.invokevirtual 132, 3) := by decide +kernel
theorem dX7_landsOf_5 : decode cX7_landsOf 5 = .ok (.ifCond .ne 9, 3) := by decide +kernel
theorem dX7_landsOf_8 : decode cX7_landsOf 8 = .ok (.aload_n 0, 1) := by decide +kernel
theorem dX7_landsOf_9 : decode cX7_landsOf 9 = .ok (.iconst 1, 1) := by decide +kernel
theorem dX7_landsOf_10 : decode cX7_landsOf 10 = .ok (.invokevirtual 84, 3) := by decide +kernel
theorem dX7_landsOf_13 : decode cX7_landsOf 13 = .ok (.ireturn, 1) := by decide +kernel
theorem dX7_landsOf_14 : decode cX7_landsOf 14 = .ok (.iload_n 2, 1) := by decide +kernel
theorem dX7_landsOf_15 : decode cX7_landsOf 15 = .ok (.invokestatic 160, 3) := by decide +kernel
theorem dX7_landsOf_18 : decode cX7_landsOf 18 = .ok (.ifCond .ne 9, 3) := by decide +kernel
theorem dX7_landsOf_21 : decode cX7_landsOf 21 = .ok (.aload_n 0, 1) := by decide +kernel
theorem dX7_landsOf_22 : decode cX7_landsOf 22 = .ok (.iconst 2, 1) := by decide +kernel
theorem dX7_landsOf_23 : decode cX7_landsOf 23 = .ok (.invokevirtual 84, 3) := by decide +kernel
theorem dX7_landsOf_26 : decode cX7_landsOf 26 = .ok (.ireturn, 1) := by decide +kernel
theorem dX7_landsOf_27 : decode cX7_landsOf 27 = .ok (.aload_n 0, 1) := by decide +kernel
theorem dX7_landsOf_28 : decode cX7_landsOf 28 = .ok (.aload_n 0, 1) := by decide +kernel
theorem dX7_landsOf_29 : decode cX7_landsOf 29 = .ok (.getfield 46, 3) := by decide +kernel
theorem dX7_landsOf_32 : decode cX7_landsOf 32 = .ok (.iload_n 2, 1) := by decide +kernel
theorem dX7_landsOf_33 : decode cX7_landsOf 33 = .ok (.invokevirtual 163, 3) := by decide +kernel
theorem dX7_landsOf_36 : decode cX7_landsOf 36 = .ok (.aload_n 0, 1) := by decide +kernel
theorem dX7_landsOf_37 : decode cX7_landsOf 37 = .ok (.getfield 10, 3) := by decide +kernel
theorem dX7_landsOf_40 : decode cX7_landsOf 40 = .ok (.iload_n 1, 1) := by decide +kernel
theorem dX7_landsOf_41 : decode cX7_landsOf 41 = .ok (.invokevirtual 142, 3) := by decide +kernel
theorem dX7_landsOf_44 : decode cX7_landsOf 44 = .ok (.invokevirtual 110, 3) := by decide +kernel
theorem dX7_landsOf_47 : decode cX7_landsOf 47 = .ok (.ireturn, 1) := by decide +kernel
theorem dX7_lapsed_0 : decode cX7_lapsed 0 = .ok (.aload_n 0, 1) := by decide +kernel
theorem dX7_lapsed_1 : decode cX7_lapsed 1 = .ok (.invokevirtual 149, 3) := by decide +kernel
theorem dX7_lapsed_4 : decode cX7_lapsed 4 = .ok (.ifCond .ne 9, 3) := by decide +kernel
theorem dX7_lapsed_7 : decode cX7_lapsed 7 = .ok (.aload_n 0, 1) := by decide +kernel
theorem dX7_lapsed_8 : decode cX7_lapsed 8 = .ok (.iconst 1, 1) := by decide +kernel
theorem dX7_lapsed_9 : decode cX7_lapsed 9 = .ok (.invokevirtual 84, 3) := by decide +kernel
theorem dX7_lapsed_12 : decode cX7_lapsed 12 = .ok (.ireturn, 1) := by decide +kernel
theorem dX7_lapsed_13 : decode cX7_lapsed 13 = .ok (.iload_n 1, 1) := by decide +kernel
theorem dX7_lapsed_14 : decode cX7_lapsed 14 = .ok (.invokestatic 160, 3) := by decide +kernel
theorem dX7_lapsed_17 : decode cX7_lapsed 17 = .ok (.ifCond .ne 9, 3) := by decide +kernel
theorem dX7_lapsed_20 : decode cX7_lapsed 20 = .ok (.aload_n 0, 1) := by decide +kernel
theorem dX7_lapsed_21 : decode cX7_lapsed 21 = .ok (.iconst 2, 1) := by decide +kernel
theorem dX7_lapsed_22 : decode cX7_lapsed 22 = .ok (.invokevirtual 84, 3) := by decide +kernel
theorem dX7_lapsed_25 : decode cX7_lapsed 25 = .ok (.ireturn, 1) := by decide +kernel
theorem dX7_lapsed_26 : decode cX7_lapsed 26 = .ok (.aload_n 0, 1) := by decide +kernel
theorem dX7_lapsed_27 : decode cX7_lapsed 27 = .ok (.aload_n 0, 1) := by decide +kernel
theorem dX7_lapsed_28 : decode cX7_lapsed 28 = .ok (.getfield 46, 3) := by decide +kernel
theorem dX7_lapsed_31 : decode cX7_lapsed 31 = .ok (.iload_n 1, 1) := by decide +kernel
theorem dX7_lapsed_32 : decode cX7_lapsed 32 = .ok (.invokevirtual 163, 3) := by decide +kernel
theorem dX7_lapsed_35 : decode cX7_lapsed 35 = .ok (.aload_n 0, 1) := by decide +kernel
theorem dX7_lapsed_36 : decode cX7_lapsed 36 = .ok (.getfield 10, 3) := by decide +kernel
theorem dX7_lapsed_39 : decode cX7_lapsed 39 = .ok (.bipush (-2), 2) := by decide +kernel
theorem dX7_lapsed_41 : decode cX7_lapsed 41 = .ok (.invokevirtual 142, 3) := by decide +kernel
theorem dX7_lapsed_44 : decode cX7_lapsed 44 = .ok (.invokevirtual 110, 3) := by decide +kernel
theorem dX7_lapsed_47 : decode cX7_lapsed 47 = .ok (.ireturn, 1) := by decide +kernel
theorem dX7_passed_0 : decode cX7_passed 0 = .ok (.aload_n 0, 1) := by decide +kernel
theorem dX7_passed_1 : decode cX7_passed 1 = .ok (.iload_n 1, 1) := by decide +kernel
theorem dX7_passed_2 : decode cX7_passed 2 = .ok (.invokevirtual 113, 3) := by decide +kernel
theorem dX7_passed_5 : decode cX7_passed 5 = .ok (.ifCond .ne 9, 3) := by decide +kernel
theorem dX7_passed_8 : decode cX7_passed 8 = .ok (.aload_n 0, 1) := by decide +kernel
theorem dX7_passed_9 : decode cX7_passed 9 = .ok (.iconst 1, 1) := by decide +kernel
theorem dX7_passed_10 : decode cX7_passed 10 = .ok (.invokevirtual 84, 3) := by decide +kernel
theorem dX7_passed_13 : decode cX7_passed 13 = .ok (.ireturn, 1) := by decide +kernel
theorem dX7_passed_14 : decode cX7_passed 14 = .ok (.aload_n 0, 1) := by decide +kernel
theorem dX7_passed_15 : decode cX7_passed 15 = .ok (.getfield 46, 3) := by decide +kernel
theorem dX7_passed_18 : decode cX7_passed 18 = .ok (.invokevirtual 167, 3) := by decide +kernel
theorem dX7_passed_21 : decode cX7_passed 21 = .ok (.getfield 129, 3) := by decide +kernel
theorem dX7_passed_24 : decode cX7_passed 24 = .ok (.iload_n 1, 1) := by decide +kernel
theorem dX7_passed_25 : decode cX7_passed 25 = .ok (.iaload, 1) := by decide +kernel
theorem dX7_passed_26 : decode cX7_passed 26 = .ok (.istore_n 2, 1) := by decide +kernel
theorem dX7_passed_27 : decode cX7_passed 27 = .ok (.iconst 0, 1) := by decide +kernel
theorem dX7_passed_28 : decode cX7_passed 28 = .ok (.istore_n 3, 1) := by decide +kernel
theorem dX7_passed_29 : decode cX7_passed 29 = .ok (.iconst 0, 1) := by decide +kernel
theorem dX7_passed_30 : decode cX7_passed 30 = .ok (.istore 4, 2) := by decide +kernel
theorem dX7_passed_32 : decode cX7_passed 32 = .ok (.iload 4, 2) := by decide +kernel
theorem dX7_passed_34 : decode cX7_passed 34 = .ok (.bipush 41, 2) := by decide +kernel
theorem dX7_passed_36 : decode cX7_passed 36 = .ok (.if_icmp .ge 37, 3) := by decide +kernel
theorem dX7_passed_39 : decode cX7_passed 39 = .ok (.aload_n 0, 1) := by decide +kernel
theorem dX7_passed_40 : decode cX7_passed 40 = .ok (.getfield 46, 3) := by decide +kernel
theorem dX7_passed_43 : decode cX7_passed 43 = .ok (.iload 4, 2) := by decide +kernel
theorem dX7_passed_45 : decode cX7_passed 45 = .ok (.invokevirtual 163, 3) := by decide +kernel
theorem dX7_passed_48 : decode cX7_passed 48 = .ok (.getfield 129, 3) := by decide +kernel
theorem dX7_passed_51 : decode cX7_passed 51 = .ok (.iload_n 1, 1) := by decide +kernel
theorem dX7_passed_52 : decode cX7_passed 52 = .ok (.iaload, 1) := by decide +kernel
theorem dX7_passed_53 : decode cX7_passed 53 = .ok (.istore 5, 2) := by decide +kernel
theorem dX7_passed_55 : decode cX7_passed 55 = .ok (.iload 5, 2) := by decide +kernel
theorem dX7_passed_57 : decode cX7_passed 57 = .ok (.iload_n 2, 1) := by decide +kernel
theorem dX7_passed_58 : decode cX7_passed 58 = .ok (.if_icmp .eq 6, 3) := by decide +kernel
theorem dX7_passed_61 : decode cX7_passed 61 = .ok (.iinc 3 1, 3) := by decide +kernel
theorem dX7_passed_64 : decode cX7_passed 64 = .ok (.iload 5, 2) := by decide +kernel
theorem dX7_passed_66 : decode cX7_passed 66 = .ok (.istore_n 2, 1) := by decide +kernel
theorem dX7_passed_67 : decode cX7_passed 67 = .ok (.iinc 4 1, 3) := by decide +kernel
theorem dX7_passed_70 : decode cX7_passed 70 = .ok (.goto (-38), 3) := by decide +kernel
theorem dX7_passed_73 : decode cX7_passed 73 = .ok (.aload_n 0, 1) := by decide +kernel
theorem dX7_passed_74 : decode cX7_passed 74 = .ok (.iload_n 3, 1) := by decide +kernel
theorem dX7_passed_75 : decode cX7_passed 75 = .ok (.invokevirtual 110, 3) := by decide +kernel
theorem dX7_passed_78 : decode cX7_passed 78 = .ok (.ireturn, 1) := by decide +kernel
theorem dX7_judge_0 : decode cX7_judge 0 = .ok (.aload_n 0, 1) := by decide +kernel
theorem dX7_judge_1 : decode cX7_judge 1 = .ok (.invokevirtual 149, 3) := by decide +kernel
theorem dX7_judge_4 : decode cX7_judge 4 = .ok (.ifCond .ne 9, 3) := by decide +kernel
theorem dX7_judge_7 : decode cX7_judge 7 = .ok (.aload_n 0, 1) := by decide +kernel
theorem dX7_judge_8 : decode cX7_judge 8 = .ok (.iconst 1, 1) := by decide +kernel
theorem dX7_judge_9 : decode cX7_judge 9 = .ok (.invokevirtual 84, 3) := by decide +kernel
theorem dX7_judge_12 : decode cX7_judge 12 = .ok (.ireturn, 1) := by decide +kernel
theorem dX7_judge_13 : decode cX7_judge 13 = .ok (.iconst 0, 1) := by decide +kernel
theorem dX7_judge_14 : decode cX7_judge 14 = .ok (.istore_n 1, 1) := by decide +kernel
theorem dX7_judge_15 : decode cX7_judge 15 = .ok (.iload_n 1, 1) := by decide +kernel
theorem dX7_judge_16 : decode cX7_judge 16 = .ok (.aload_n 0, 1) := by decide +kernel
theorem dX7_judge_17 : decode cX7_judge 17 = .ok (.getfield 10, 3) := by decide +kernel
theorem dX7_judge_20 : decode cX7_judge 20 = .ok (.getfield 171, 3) := by decide +kernel
theorem dX7_judge_23 : decode cX7_judge 23 = .ok (.getfield 175, 3) := by decide +kernel
theorem dX7_judge_26 : decode cX7_judge 26 = .ok (.if_icmp .ge 30, 3) := by decide +kernel
theorem dX7_judge_29 : decode cX7_judge 29 = .ok (.aload_n 0, 1) := by decide +kernel
theorem dX7_judge_30 : decode cX7_judge 30 = .ok (.getfield 46, 3) := by decide +kernel
theorem dX7_judge_33 : decode cX7_judge 33 = .ok (.aload_n 0, 1) := by decide +kernel
theorem dX7_judge_34 : decode cX7_judge 34 = .ok (.getfield 10, 3) := by decide +kernel
theorem dX7_judge_37 : decode cX7_judge 37 = .ok (.iload_n 1, 1) := by decide +kernel
theorem dX7_judge_38 : decode cX7_judge 38 = .ok (.invokevirtual 180, 3) := by decide +kernel
theorem dX7_judge_41 : decode cX7_judge 41 = .ok (.ifCond .ne 9, 3) := by decide +kernel
theorem dX7_judge_44 : decode cX7_judge 44 = .ok (.aload_n 0, 1) := by decide +kernel
theorem dX7_judge_45 : decode cX7_judge 45 = .ok (.iload_n 1, 1) := by decide +kernel
theorem dX7_judge_46 : decode cX7_judge 46 = .ok (.invokevirtual 110, 3) := by decide +kernel
theorem dX7_judge_49 : decode cX7_judge 49 = .ok (.ireturn, 1) := by decide +kernel
theorem dX7_judge_50 : decode cX7_judge 50 = .ok (.iinc 1 1, 3) := by decide +kernel
theorem dX7_judge_53 : decode cX7_judge 53 = .ok (.goto (-38), 3) := by decide +kernel
theorem dX7_judge_56 : decode cX7_judge 56 = .ok (.aload_n 0, 1) := by decide +kernel
theorem dX7_judge_57 : decode cX7_judge 57 = .ok (.bipush (-2), 2) := by decide +kernel
theorem dX7_judge_59 : decode cX7_judge 59 = .ok (.invokevirtual 110, 3) := by decide +kernel
theorem dX7_judge_62 : decode cX7_judge 62 = .ok (.ireturn, 1) := by decide +kernel
theorem dX7_ways_0 : decode cX7_ways 0 = .ok (.aload_n 0, 1) := by decide +kernel
theorem dX7_ways_1 : decode cX7_ways 1 = .ok (.invokevirtual 149, 3) := by decide +kernel
theorem dX7_ways_4 : decode cX7_ways 4 = .ok (.ifCond .ne 9, 3) := by decide +kernel
theorem dX7_ways_7 : decode cX7_ways 7 = .ok (.aload_n 0, 1) := by decide +kernel
theorem dX7_ways_8 : decode cX7_ways 8 = .ok (.iconst 1, 1) := by decide +kernel
theorem dX7_ways_9 : decode cX7_ways 9 = .ok (.invokevirtual 84, 3) := by decide +kernel
theorem dX7_ways_12 : decode cX7_ways 12 = .ok (.ireturn, 1) := by decide +kernel
theorem dX7_ways_13 : decode cX7_ways 13 = .ok (.aload_n 0, 1) := by decide +kernel
theorem dX7_ways_14 : decode cX7_ways 14 = .ok (.aload_n 0, 1) := by decide +kernel
theorem dX7_ways_15 : decode cX7_ways 15 = .ok (.getfield 46, 3) := by decide +kernel
theorem dX7_ways_18 : decode cX7_ways 18 = .ok (.aload_n 0, 1) := by decide +kernel
theorem dX7_ways_19 : decode cX7_ways 19 = .ok (.getfield 10, 3) := by decide +kernel
theorem dX7_ways_22 : decode cX7_ways 22 = .ok (.invokevirtual 184, 3) := by decide +kernel
theorem dX7_ways_25 : decode cX7_ways 25 = .ok (.invokevirtual 110, 3) := by decide +kernel
theorem dX7_ways_28 : decode cX7_ways 28 = .ok (.ireturn, 1) := by decide +kernel
theorem dX7_wayAt_0 : decode cX7_wayAt 0 = .ok (.aload_n 0, 1) := by decide +kernel
theorem dX7_wayAt_1 : decode cX7_wayAt 1 = .ok (.invokevirtual 149, 3) := by decide +kernel
theorem dX7_wayAt_4 : decode cX7_wayAt 4 = .ok (.ifCond .eq 22, 3) := by decide +kernel
theorem dX7_wayAt_7 : decode cX7_wayAt 7 = .ok (.iload_n 1, 1) := by decide +kernel
theorem dX7_wayAt_8 : decode cX7_wayAt 8 = .ok (.ifCond .lt 18, 3) := by decide +kernel
theorem dX7_wayAt_11 : decode cX7_wayAt 11 = .ok (.iload_n 1, 1) := by decide +kernel
theorem dX7_wayAt_12 : decode cX7_wayAt 12 = .ok (.aload_n 0, 1) := by decide +kernel
theorem dX7_wayAt_13 : decode cX7_wayAt 13 = .ok (.getfield 46, 3) := by decide +kernel
theorem dX7_wayAt_16 : decode cX7_wayAt 16 = .ok (.aload_n 0, 1) := by decide +kernel
theorem dX7_wayAt_17 : decode cX7_wayAt 17 = .ok (.getfield 10, 3) := by decide +kernel
theorem dX7_wayAt_20 : decode cX7_wayAt 20 = .ok (.invokevirtual 184, 3) := by decide +kernel
theorem dX7_wayAt_23 : decode cX7_wayAt 23 = .ok (.if_icmp .lt 9, 3) := by decide +kernel
theorem dX7_wayAt_26 : decode cX7_wayAt 26 = .ok (.aload_n 0, 1) := by decide +kernel
theorem dX7_wayAt_27 : decode cX7_wayAt 27 = .ok (.iconst 1, 1) := by decide +kernel
theorem dX7_wayAt_28 : decode cX7_wayAt 28 = .ok (.invokevirtual 84, 3) := by decide +kernel
theorem dX7_wayAt_31 : decode cX7_wayAt 31 = .ok (.ireturn, 1) := by decide +kernel
theorem dX7_wayAt_32 : decode cX7_wayAt 32 = .ok (.aload_n 0, 1) := by decide +kernel
theorem dX7_wayAt_33 : decode cX7_wayAt 33 = .ok (.aload_n 0, 1) := by decide +kernel
theorem dX7_wayAt_34 : decode cX7_wayAt 34 = .ok (.getfield 46, 3) := by decide +kernel
theorem dX7_wayAt_37 : decode cX7_wayAt 37 = .ok (.iload_n 1, 1) := by decide +kernel
theorem dX7_wayAt_38 : decode cX7_wayAt 38 = .ok (.invokevirtual 187, 3) := by decide +kernel
theorem dX7_wayAt_41 : decode cX7_wayAt 41 = .ok (.invokevirtual 110, 3) := by decide +kernel
theorem dX7_wayAt_44 : decode cX7_wayAt 44 = .ok (.ireturn, 1) := by decide +kernel
theorem dX7_longest_0 : decode cX7_longest 0 = .ok (.aload_n 0, 1) := by decide +kernel
theorem dX7_longest_1 : decode cX7_longest 1 = .ok (.iload_n 1, 1) := by decide +kernel
theorem dX7_longest_2 : decode cX7_longest 2 = .ok (.invokevirtual 113, 3) := by decide +kernel
theorem dX7_longest_5 : decode cX7_longest 5 = .ok (.ifCond .ne 9, 3) := by decide +kernel
theorem dX7_longest_8 : decode cX7_longest 8 = .ok (.aload_n 0, 1) := by decide +kernel
theorem dX7_longest_9 : decode cX7_longest 9 = .ok (.iconst 1, 1) := by decide +kernel
theorem dX7_longest_10 : decode cX7_longest 10 = .ok (.invokevirtual 84, 3) := by decide +kernel
theorem dX7_longest_13 : decode cX7_longest 13 = .ok (.ireturn, 1) := by decide +kernel
theorem dX7_longest_14 : decode cX7_longest 14 = .ok (.iconst 0, 1) := by decide +kernel
theorem dX7_longest_15 : decode cX7_longest 15 = .ok (.istore_n 2, 1) := by decide +kernel
theorem dX7_longest_16 : decode cX7_longest 16 = .ok (.iconst 0, 1) := by decide +kernel
theorem dX7_longest_17 : decode cX7_longest 17 = .ok (.istore_n 3, 1) := by decide +kernel
theorem dX7_longest_18 : decode cX7_longest 18 = .ok (.bipush (-2), 2) := by decide +kernel
theorem dX7_longest_20 : decode cX7_longest 20 = .ok (.istore 4, 2) := by decide +kernel
theorem dX7_longest_22 : decode cX7_longest 22 = .ok (.iconst 0, 1) := by decide +kernel
theorem dX7_longest_23 : decode cX7_longest 23 = .ok (.istore 5, 2) := by decide +kernel
theorem dX7_longest_25 : decode cX7_longest 25 = .ok (.iload 5, 2) := by decide +kernel
theorem dX7_longest_27 : decode cX7_longest 27 = .ok (.bipush 41, 2) := by decide +kernel
theorem dX7_longest_29 : decode cX7_longest 29 = .ok (.if_icmp .ge 61, 3) := by decide +kernel
theorem dX7_longest_32 : decode cX7_longest 32 = .ok (.aload_n 0, 1) := by decide +kernel
theorem dX7_longest_33 : decode cX7_longest 33 = .ok (.getfield 46, 3) := by decide +kernel
theorem dX7_longest_36 : decode cX7_longest 36 = .ok (.iload 5, 2) := by decide +kernel
theorem dX7_longest_38 : decode cX7_longest 38 = .ok (.invokevirtual 163, 3) := by decide +kernel
theorem dX7_longest_41 : decode cX7_longest 41 = .ok (.getfield 129, 3) := by decide +kernel
theorem dX7_longest_44 : decode cX7_longest 44 = .ok (.iload_n 1, 1) := by decide +kernel
theorem dX7_longest_45 : decode cX7_longest 45 = .ok (.iaload, 1) := by decide +kernel
theorem dX7_longest_46 : decode cX7_longest 46 = .ok (.istore 6, 2) := by decide +kernel
theorem dX7_longest_48 : decode cX7_longest 48 = .ok (.iload 6, 2) := by decide +kernel
theorem dX7_longest_50 : decode cX7_longest 50 = .ok (.bipush (-2), 2) := by decide +kernel
theorem dX7_longest_52 : decode cX7_longest 52 = .ok (.if_icmp .ne 7, 3) := by decide +kernel
theorem dX7_longest_55 : decode cX7_longest 55 = .ok (.iconst 0, 1) := by decide +kernel
theorem dX7_longest_56 : decode cX7_longest 56 = .ok (.goto 17, 3) := by decide +kernel
theorem dX7_longest_59 : decode cX7_longest 59 = .ok (.iload 6, 2) := by decide +kernel
theorem dX7_longest_61 : decode cX7_longest 61 = .ok (.iload 4, 2) := by decide +kernel
theorem dX7_longest_63 : decode cX7_longest 63 = .ok (.if_icmp .ne 9, 3) := by decide +kernel
theorem dX7_longest_66 : decode cX7_longest 66 = .ok (.iload_n 3, 1) := by decide +kernel
theorem dX7_longest_67 : decode cX7_longest 67 = .ok (.iconst 1, 1) := by decide +kernel
theorem dX7_longest_68 : decode cX7_longest 68 = .ok (.iadd, 1) := by decide +kernel
theorem dX7_longest_69 : decode cX7_longest 69 = .ok (.goto 4, 3) := by decide +kernel
theorem dX7_longest_72 : decode cX7_longest 72 = .ok (.iconst 1, 1) := by decide +kernel
theorem dX7_longest_73 : decode cX7_longest 73 = .ok (.istore_n 3, 1) := by decide +kernel
theorem dX7_longest_74 : decode cX7_longest 74 = .ok (.iload 6, 2) := by decide +kernel
theorem dX7_longest_76 : decode cX7_longest 76 = .ok (.istore 4, 2) := by decide +kernel
theorem dX7_longest_78 : decode cX7_longest 78 = .ok (.iload_n 2, 1) := by decide +kernel
theorem dX7_longest_79 : decode cX7_longest 79 = .ok (.iload_n 3, 1) := by decide +kernel
theorem dX7_longest_80 : decode cX7_longest 80 = .ok (.invokestatic 190, 3) := by decide +kernel
theorem dX7_longest_83 : decode cX7_longest 83 = .ok (.istore_n 2, 1) := by decide +kernel
theorem dX7_longest_84 : decode cX7_longest 84 = .ok (.iinc 5 1, 3) := by decide +kernel
theorem dX7_longest_87 : decode cX7_longest 87 = .ok (.goto (-62), 3) := by decide +kernel
theorem dX7_longest_90 : decode cX7_longest 90 = .ok (.aload_n 0, 1) := by decide +kernel
theorem dX7_longest_91 : decode cX7_longest 91 = .ok (.iload_n 2, 1) := by decide +kernel
theorem dX7_longest_92 : decode cX7_longest 92 = .ok (.invokevirtual 110, 3) := by decide +kernel
theorem dX7_longest_95 : decode cX7_longest 95 = .ok (.ireturn, 1) := by decide +kernel
theorem dX7_worstDay_0 : decode cX7_worstDay 0 = .ok (.aload_n 0, 1) := by decide +kernel
theorem dX7_worstDay_1 : decode cX7_worstDay 1 = .ok (.invokevirtual 149, 3) := by decide +kernel
theorem dX7_worstDay_4 : decode cX7_worstDay 4 = .ok (.ifCond .ne 9, 3) := by decide +kernel
theorem dX7_worstDay_7 : decode cX7_worstDay 7 = .ok (.aload_n 0, 1) := by decide +kernel
theorem dX7_worstDay_8 : decode cX7_worstDay 8 = .ok (.iconst 1, 1) := by decide +kernel
theorem dX7_worstDay_9 : decode cX7_worstDay 9 = .ok (.invokevirtual 84, 3) := by decide +kernel
theorem dX7_worstDay_12 : decode cX7_worstDay 12 = .ok (.ireturn, 1) := by decide +kernel
theorem dX7_worstDay_13 : decode cX7_worstDay 13 = .ok (.iconst 0, 1) := by decide +kernel
theorem dX7_worstDay_14 : decode cX7_worstDay 14 = .ok (.istore_n 1, 1) := by decide +kernel
theorem dX7_worstDay_15 : decode cX7_worstDay 15 = .ok (.iconst (-1), 1) := by decide +kernel
theorem dX7_worstDay_16 : decode cX7_worstDay 16 = .ok (.istore_n 2, 1) := by decide +kernel
theorem dX7_worstDay_17 : decode cX7_worstDay 17 = .ok (.iconst 0, 1) := by decide +kernel
theorem dX7_worstDay_18 : decode cX7_worstDay 18 = .ok (.istore_n 3, 1) := by decide +kernel
theorem dX7_worstDay_19 : decode cX7_worstDay 19 = .ok (.iload_n 3, 1) := by decide +kernel
theorem dX7_worstDay_20 : decode cX7_worstDay 20 = .ok (.bipush 41, 2) := by decide +kernel
theorem dX7_worstDay_22 : decode cX7_worstDay 22 = .ok (.if_icmp .ge 39, 3) := by decide +kernel
theorem dX7_worstDay_25 : decode cX7_worstDay 25 = .ok (.aload_n 0, 1) := by decide +kernel
theorem dX7_worstDay_26 : decode cX7_worstDay 26 = .ok (.getfield 46, 3) := by decide +kernel
theorem dX7_worstDay_29 : decode cX7_worstDay 29 = .ok (.iload_n 3, 1) := by decide +kernel
theorem dX7_worstDay_30 : decode cX7_worstDay 30 = .ok (.invokevirtual 163, 3) := by decide +kernel
theorem dX7_worstDay_33 : decode cX7_worstDay 33 = .ok (.aload_n 0, 1) := by decide +kernel
theorem dX7_worstDay_34 : decode cX7_worstDay 34 = .ok (.getfield 10, 3) := by decide +kernel
theorem dX7_worstDay_37 : decode cX7_worstDay 37 = .ok (.bipush (-2), 2) := by decide +kernel
theorem dX7_worstDay_39 : decode cX7_worstDay 39 = .ok (.invokevirtual 142, 3) := by decide +kernel
theorem dX7_worstDay_42 : decode cX7_worstDay 42 = .ok (.istore 4, 2) := by decide +kernel
theorem dX7_worstDay_44 : decode cX7_worstDay 44 = .ok (.iload 4, 2) := by decide +kernel
theorem dX7_worstDay_46 : decode cX7_worstDay 46 = .ok (.iload_n 2, 1) := by decide +kernel
theorem dX7_worstDay_47 : decode cX7_worstDay 47 = .ok (.if_icmp .le 8, 3) := by decide +kernel
theorem dX7_worstDay_50 : decode cX7_worstDay 50 = .ok (.iload 4, 2) := by decide +kernel
theorem dX7_worstDay_52 : decode cX7_worstDay 52 = .ok (.istore_n 2, 1) := by decide +kernel
theorem dX7_worstDay_53 : decode cX7_worstDay 53 = .ok (.iload_n 3, 1) := by decide +kernel
theorem dX7_worstDay_54 : decode cX7_worstDay 54 = .ok (.istore_n 1, 1) := by decide +kernel
theorem dX7_worstDay_55 : decode cX7_worstDay 55 = .ok (.iinc 3 1, 3) := by decide +kernel
theorem dX7_worstDay_58 : decode cX7_worstDay 58 = .ok (.goto (-39), 3) := by decide +kernel
theorem dX7_worstDay_61 : decode cX7_worstDay 61 = .ok (.aload_n 0, 1) := by decide +kernel
theorem dX7_worstDay_62 : decode cX7_worstDay 62 = .ok (.iload_n 1, 1) := by decide +kernel
theorem dX7_worstDay_63 : decode cX7_worstDay 63 = .ok (.invokevirtual 110, 3) := by decide +kernel
theorem dX7_worstDay_66 : decode cX7_worstDay 66 = .ok (.ireturn, 1) := by decide +kernel
theorem dX7_owing_0 : decode cX7_owing 0 = .ok (.aload_n 0, 1) := by decide +kernel
theorem dX7_owing_1 : decode cX7_owing 1 = .ok (.iload_n 1, 1) := by decide +kernel
theorem dX7_owing_2 : decode cX7_owing 2 = .ok (.invokevirtual 132, 3) := by decide +kernel
theorem dX7_owing_5 : decode cX7_owing 5 = .ok (.ifCond .eq 16, 3) := by decide +kernel
theorem dX7_owing_8 : decode cX7_owing 8 = .ok (.aload_n 0, 1) := by decide +kernel
theorem dX7_owing_9 : decode cX7_owing 9 = .ok (.iload_n 2, 1) := by decide +kernel
theorem dX7_owing_10 : decode cX7_owing 10 = .ok (.invokevirtual 132, 3) := by decide +kernel
theorem dX7_owing_13 : decode cX7_owing 13 = .ok (.ifCond .eq 8, 3) := by decide +kernel
theorem dX7_owing_16 : decode cX7_owing 16 = .ok (.iload_n 1, 1) := by decide +kernel
theorem dX7_owing_17 : decode cX7_owing 17 = .ok (.iload_n 2, 1) := by decide +kernel
theorem dX7_owing_18 : decode cX7_owing 18 = .ok (.if_icmp .ne 9, 3) := by decide +kernel
theorem dX7_owing_21 : decode cX7_owing 21 = .ok (.aload_n 0, 1) := by decide +kernel
theorem dX7_owing_22 : decode cX7_owing 22 = .ok (.iconst 1, 1) := by decide +kernel
theorem dX7_owing_23 : decode cX7_owing 23 = .ok (.invokevirtual 84, 3) := by decide +kernel
theorem dX7_owing_26 : decode cX7_owing 26 = .ok (.ireturn, 1) := by decide +kernel
theorem dX7_owing_27 : decode cX7_owing 27 = .ok (.iconst 0, 1) := by decide +kernel
theorem dX7_owing_28 : decode cX7_owing 28 = .ok (.istore_n 3, 1) := by decide +kernel
theorem dX7_owing_29 : decode cX7_owing 29 = .ok (.iconst 0, 1) := by decide +kernel
theorem dX7_owing_30 : decode cX7_owing 30 = .ok (.istore 4, 2) := by decide +kernel
theorem dX7_owing_32 : decode cX7_owing 32 = .ok (.iload 4, 2) := by decide +kernel
theorem dX7_owing_34 : decode cX7_owing 34 = .ok (.aload_n 0, 1) := by decide +kernel
theorem dX7_owing_35 : decode cX7_owing 35 = .ok (.getfield 10, 3) := by decide +kernel
theorem dX7_owing_38 : decode cX7_owing 38 = .ok (.getfield 107, 3) := by decide +kernel
theorem dX7_owing_41 : decode cX7_owing 41 = .ok (.if_icmp .ge 44, 3) := by decide +kernel
theorem dX7_owing_44 : decode cX7_owing 44 = .ok (.aload_n 0, 1) := by decide +kernel
theorem dX7_owing_45 : decode cX7_owing 45 = .ok (.getfield 36, 3) := by decide +kernel
theorem dX7_owing_48 : decode cX7_owing 48 = .ok (.getfield 129, 3) := by decide +kernel
theorem dX7_owing_51 : decode cX7_owing 51 = .ok (.iload 4, 2) := by decide +kernel
theorem dX7_owing_53 : decode cX7_owing 53 = .ok (.iaload, 1) := by decide +kernel
theorem dX7_owing_54 : decode cX7_owing 54 = .ok (.iload_n 1, 1) := by decide +kernel
theorem dX7_owing_55 : decode cX7_owing 55 = .ok (.if_icmp .ne 24, 3) := by decide +kernel
theorem dX7_owing_58 : decode cX7_owing 58 = .ok (.aload_n 0, 1) := by decide +kernel
theorem dX7_owing_59 : decode cX7_owing 59 = .ok (.getfield 36, 3) := by decide +kernel
theorem dX7_owing_62 : decode cX7_owing 62 = .ok (.getfield 126, 3) := by decide +kernel
theorem dX7_owing_65 : decode cX7_owing 65 = .ok (.iload 4, 2) := by decide +kernel
theorem dX7_owing_67 : decode cX7_owing 67 = .ok (.iaload, 1) := by decide +kernel
theorem dX7_owing_68 : decode cX7_owing 68 = .ok (.iload_n 2, 1) := by decide +kernel
theorem dX7_owing_69 : decode cX7_owing 69 = .ok (.if_icmp .ne 10, 3) := by decide +kernel
theorem dX7_owing_72 : decode cX7_owing 72 = .ok (.iload_n 3, 1) := by decide +kernel
theorem dX7_owing_73 : decode cX7_owing 73 = .ok (.iconst 1, 1) := by decide +kernel
theorem dX7_owing_74 : decode cX7_owing 74 = .ok (.iload 4, 2) := by decide +kernel
theorem dX7_owing_76 : decode cX7_owing 76 = .ok (.ishl, 1) := by decide +kernel
theorem dX7_owing_77 : decode cX7_owing 77 = .ok (.ior, 1) := by decide +kernel
theorem dX7_owing_78 : decode cX7_owing 78 = .ok (.istore_n 3, 1) := by decide +kernel
theorem dX7_owing_79 : decode cX7_owing 79 = .ok (.iinc 4 1, 3) := by decide +kernel
theorem dX7_owing_82 : decode cX7_owing 82 = .ok (.goto (-50), 3) := by decide +kernel
theorem dX7_owing_85 : decode cX7_owing 85 = .ok (.aload_n 0, 1) := by decide +kernel
theorem dX7_owing_86 : decode cX7_owing 86 = .ok (.iload_n 3, 1) := by decide +kernel
theorem dX7_owing_87 : decode cX7_owing 87 = .ok (.invokevirtual 110, 3) := by decide +kernel
theorem dX7_owing_90 : decode cX7_owing 90 = .ok (.ireturn, 1) := by decide +kernel
theorem dX7_change_0 : decode cX7_change 0 = .ok (.aload_n 0, 1) := by decide +kernel
theorem dX7_change_1 : decode cX7_change 1 = .ok (.iload_n 1, 1) := by decide +kernel
theorem dX7_change_2 : decode cX7_change 2 = .ok (.invokevirtual 132, 3) := by decide +kernel
theorem dX7_change_5 : decode cX7_change 5 = .ok (.ifCond .ne 13, 3) := by decide +kernel
theorem dX7_change_8 : decode cX7_change 8 = .ok (.aload_n 0, 1) := by decide +kernel
theorem dX7_change_9 : decode cX7_change 9 = .ok (.iconst 1, 1) := by decide +kernel
theorem dX7_change_10 : decode cX7_change 10 = .ok (.invokevirtual 84, 3) := by decide +kernel
theorem dX7_change_13 : decode cX7_change 13 = .ok (.pop, 1) := by decide +kernel
theorem dX7_change_14 : decode cX7_change 14 = .ok (.sipush (-1000), 3) := by decide +kernel
theorem dX7_change_17 : decode cX7_change 17 = .ok (.ireturn, 1) := by decide +kernel
theorem dX7_change_18 : decode cX7_change 18 = .ok (.aload_n 0, 1) := by decide +kernel
theorem dX7_change_19 : decode cX7_change 19 = .ok (.getfield 40, 3) := by decide +kernel
theorem dX7_change_22 : decode cX7_change 22 = .ok (.aload_n 0, 1) := by decide +kernel
theorem dX7_change_23 : decode cX7_change 23 = .ok (.getfield 36, 3) := by decide +kernel
theorem dX7_change_26 : decode cX7_change 26 = .ok (.invokevirtual 196, 3) := by decide +kernel
theorem dX7_change_29 : decode cX7_change 29 = .ok (.aload_n 0, 1) := by decide +kernel
theorem dX7_change_30 : decode cX7_change 30 = .ok (.getfield 40, 3) := by decide +kernel
theorem dX7_change_33 : decode cX7_change 33 = .ok (.aload_n 0, 1) := by decide +kernel
theorem dX7_change_34 : decode cX7_change 34 = .ok (.getfield 10, 3) := by decide +kernel
theorem dX7_change_37 : decode cX7_change 37 = .ok (.iload_n 2, 1) := by decide +kernel
theorem dX7_change_38 : decode cX7_change 38 = .ok (.invokevirtual 200, 3) := by decide +kernel
theorem dX7_change_41 : decode cX7_change 41 = .ok (.aload_n 0, 1) := by decide +kernel
theorem dX7_change_42 : decode cX7_change 42 = .ok (.aload_n 0, 1) := by decide +kernel
theorem dX7_change_43 : decode cX7_change 43 = .ok (.getfield 40, 3) := by decide +kernel
theorem dX7_change_46 : decode cX7_change 46 = .ok (.aload_n 0, 1) := by decide +kernel
theorem dX7_change_47 : decode cX7_change 47 = .ok (.getfield 10, 3) := by decide +kernel
theorem dX7_change_50 : decode cX7_change 50 = .ok (.iload_n 1, 1) := by decide +kernel
theorem dX7_change_51 : decode cX7_change 51 = .ok (.invokevirtual 142, 3) := by decide +kernel
theorem dX7_change_54 : decode cX7_change 54 = .ok (.aload_n 0, 1) := by decide +kernel
theorem dX7_change_55 : decode cX7_change 55 = .ok (.getfield 36, 3) := by decide +kernel
theorem dX7_change_58 : decode cX7_change 58 = .ok (.aload_n 0, 1) := by decide +kernel
theorem dX7_change_59 : decode cX7_change 59 = .ok (.getfield 10, 3) := by decide +kernel
theorem dX7_change_62 : decode cX7_change 62 = .ok (.iload_n 1, 1) := by decide +kernel
theorem dX7_change_63 : decode cX7_change 63 = .ok (.invokevirtual 142, 3) := by decide +kernel
theorem dX7_change_66 : decode cX7_change 66 = .ok (.isub, 1) := by decide +kernel
theorem dX7_change_67 : decode cX7_change 67 = .ok (.invokevirtual 110, 3) := by decide +kernel
theorem dX7_change_70 : decode cX7_change 70 = .ok (.ireturn, 1) := by decide +kernel
theorem dX7_lapsesIn_0 : decode cX7_lapsesIn 0 = .ok (.aload_n 0, 1) := by decide +kernel
theorem dX7_lapsesIn_1 : decode cX7_lapsesIn 1 = .ok (.iload_n 1, 1) := by decide +kernel
theorem dX7_lapsesIn_2 : decode cX7_lapsesIn 2 = .ok (.invokevirtual 113, 3) := by decide +kernel
theorem dX7_lapsesIn_5 : decode cX7_lapsesIn 5 = .ok (.ifCond .ne 9, 3) := by decide +kernel
theorem dX7_lapsesIn_8 : decode cX7_lapsesIn 8 = .ok (.aload_n 0, 1) := by decide +kernel
theorem dX7_lapsesIn_9 : decode cX7_lapsesIn 9 = .ok (.iconst 1, 1) := by decide +kernel
theorem dX7_lapsesIn_10 : decode cX7_lapsesIn 10 = .ok (.invokevirtual 84, 3) := by decide +kernel
theorem dX7_lapsesIn_13 : decode cX7_lapsesIn 13 = .ok (.ireturn, 1) := by decide +kernel
theorem dX7_lapsesIn_14 : decode cX7_lapsesIn 14 = .ok (.aload_n 0, 1) := by decide +kernel
theorem dX7_lapsesIn_15 : decode cX7_lapsesIn 15 = .ok (.getfield 40, 3) := by decide +kernel
theorem dX7_lapsesIn_18 : decode cX7_lapsesIn 18 = .ok (.aload_n 0, 1) := by decide +kernel
theorem dX7_lapsesIn_19 : decode cX7_lapsesIn 19 = .ok (.getfield 36, 3) := by decide +kernel
theorem dX7_lapsesIn_22 : decode cX7_lapsesIn 22 = .ok (.invokevirtual 196, 3) := by decide +kernel
theorem dX7_lapsesIn_25 : decode cX7_lapsesIn 25 = .ok (.iconst 0, 1) := by decide +kernel
theorem dX7_lapsesIn_26 : decode cX7_lapsesIn 26 = .ok (.istore_n 2, 1) := by decide +kernel
theorem dX7_lapsesIn_27 : decode cX7_lapsesIn 27 = .ok (.iload_n 2, 1) := by decide +kernel
theorem dX7_lapsesIn_28 : decode cX7_lapsesIn 28 = .ok (.bipush 30, 2) := by decide +kernel
theorem dX7_lapsesIn_30 : decode cX7_lapsesIn 30 = .ok (.if_icmp .gt 41, 3) := by decide +kernel
theorem dX7_lapsesIn_33 : decode cX7_lapsesIn 33 = .ok (.aload_n 0, 1) := by decide +kernel
theorem dX7_lapsesIn_34 : decode cX7_lapsesIn 34 = .ok (.getfield 40, 3) := by decide +kernel
theorem dX7_lapsesIn_37 : decode cX7_lapsesIn 37 = .ok (.getfield 129, 3) := by decide +kernel
theorem dX7_lapsesIn_40 : decode cX7_lapsesIn 40 = .ok (.iload_n 1, 1) := by decide +kernel
theorem dX7_lapsesIn_41 : decode cX7_lapsesIn 41 = .ok (.iaload, 1) := by decide +kernel
theorem dX7_lapsesIn_42 : decode cX7_lapsesIn 42 = .ok (.bipush (-2), 2) := by decide +kernel
theorem dX7_lapsesIn_44 : decode cX7_lapsesIn 44 = .ok (.if_icmp .ne 9, 3) := by decide +kernel
theorem dX7_lapsesIn_47 : decode cX7_lapsesIn 47 = .ok (.aload_n 0, 1) := by decide +kernel
theorem dX7_lapsesIn_48 : decode cX7_lapsesIn 48 = .ok (.iload_n 2, 1) := by decide +kernel
theorem dX7_lapsesIn_49 : decode cX7_lapsesIn 49 = .ok (.invokevirtual 110, 3) := by decide +kernel
theorem dX7_lapsesIn_52 : decode cX7_lapsesIn 52 = .ok (.ireturn, 1) := by decide +kernel
theorem dX7_lapsesIn_53 : decode cX7_lapsesIn 53 = .ok (.aload_n 0, 1) := by decide +kernel
theorem dX7_lapsesIn_54 : decode cX7_lapsesIn 54 = .ok (.getfield 40, 3) := by decide +kernel
theorem dX7_lapsesIn_57 : decode cX7_lapsesIn 57 = .ok (.aload_n 0, 1) := by decide +kernel
theorem dX7_lapsesIn_58 : decode cX7_lapsesIn 58 = .ok (.getfield 10, 3) := by decide +kernel
theorem dX7_lapsesIn_61 : decode cX7_lapsesIn 61 = .ok (.iconst 0, 1) := by decide +kernel
theorem dX7_lapsesIn_62 : decode cX7_lapsesIn 62 = .ok (.invokevirtual 200, 3) := by decide +kernel
theorem dX7_lapsesIn_65 : decode cX7_lapsesIn 65 = .ok (.iinc 2 1, 3) := by decide +kernel
theorem dX7_lapsesIn_68 : decode cX7_lapsesIn 68 = .ok (.goto (-41), 3) := by decide +kernel
theorem dX7_lapsesIn_71 : decode cX7_lapsesIn 71 = .ok (.aload_n 0, 1) := by decide +kernel
theorem dX7_lapsesIn_72 : decode cX7_lapsesIn 72 = .ok (.bipush (-2), 2) := by decide +kernel
theorem dX7_lapsesIn_74 : decode cX7_lapsesIn 74 = .ok (.invokevirtual 110, 3) := by decide +kernel
theorem dX7_lapsesIn_77 : decode cX7_lapsesIn 77 = .ok (.ireturn, 1) := by decide +kernel
theorem dX7_guest_0 : decode cX7_guest 0 = .ok (.aload_n 0, 1) := by decide +kernel
theorem dX7_guest_1 : decode cX7_guest 1 = .ok (.iload_n 1, 1) := by decide +kernel
theorem dX7_guest_2 : decode cX7_guest 2 = .ok (.invokevirtual 204, 3) := by decide +kernel
theorem dX7_guest_5 : decode cX7_guest 5 = .ok (.ifCond .ne 9, 3) := by decide +kernel
theorem dX7_guest_8 : decode cX7_guest 8 = .ok (.aload_n 0, 1) := by decide +kernel
theorem dX7_guest_9 : decode cX7_guest 9 = .ok (.iconst 1, 1) := by decide +kernel
theorem dX7_guest_10 : decode cX7_guest 10 = .ok (.invokevirtual 84, 3) := by decide +kernel
theorem dX7_guest_13 : decode cX7_guest 13 = .ok (.ireturn, 1) := by decide +kernel
theorem dX7_guest_14 : decode cX7_guest 14 = .ok (.bipush (-2), 2) := by decide +kernel
theorem dX7_guest_16 : decode cX7_guest 16 = .ok (.istore_n 2, 1) := by decide +kernel
theorem dX7_guest_17 : decode cX7_guest 17 = .ok (.iconst 0, 1) := by decide +kernel
theorem dX7_guest_18 : decode cX7_guest 18 = .ok (.istore_n 3, 1) := by decide +kernel
theorem dX7_guest_19 : decode cX7_guest 19 = .ok (.iconst 0, 1) := by decide +kernel
theorem dX7_guest_20 : decode cX7_guest 20 = .ok (.istore 4, 2) := by decide +kernel
theorem dX7_guest_22 : decode cX7_guest 22 = .ok (.iload 4, 2) := by decide +kernel
theorem dX7_guest_24 : decode cX7_guest 24 = .ok (.aload_n 0, 1) := by decide +kernel
theorem dX7_guest_25 : decode cX7_guest 25 = .ok (.getfield 10, 3) := by decide +kernel
theorem dX7_guest_28 : decode cX7_guest 28 = .ok (.getfield 157, 3) := by decide +kernel
theorem dX7_guest_31 : decode cX7_guest 31 = .ok (.if_icmp .ge 74, 3) := by decide +kernel
theorem dX7_guest_34 : decode cX7_guest 34 = .ok (.iload_n 1, 1) := by decide +kernel
theorem dX7_guest_35 : decode cX7_guest 35 = .ok (.iload 4, 2) := by decide +kernel
theorem dX7_guest_37 : decode cX7_guest 37 = .ok (.ishr, 1) := by decide +kernel
theorem dX7_guest_38 : decode cX7_guest 38 = .ok (.iconst 1, 1) := by decide +kernel
theorem dX7_guest_39 : decode cX7_guest 39 = .ok (.iand, 1) := by decide +kernel
theorem dX7_guest_40 : decode cX7_guest 40 = .ok (.iconst 1, 1) := by decide +kernel
theorem dX7_guest_41 : decode cX7_guest 41 = .ok (.if_icmp .eq 58, 3) := by decide +kernel
theorem dX7_guest_44 : decode cX7_guest 44 = .ok (.aload_n 0, 1) := by decide +kernel
theorem dX7_guest_45 : decode cX7_guest 45 = .ok (.getfield 53, 3) := by decide +kernel
theorem dX7_guest_48 : decode cX7_guest 48 = .ok (.aload_n 0, 1) := by decide +kernel
theorem dX7_guest_49 : decode cX7_guest 49 = .ok (.getfield 10, 3) := by decide +kernel
theorem dX7_guest_52 : decode cX7_guest 52 = .ok (.aload_n 0, 1) := by decide +kernel
theorem dX7_guest_53 : decode cX7_guest 53 = .ok (.getfield 36, 3) := by decide +kernel
theorem dX7_guest_56 : decode cX7_guest 56 = .ok (.iload_n 1, 1) := by decide +kernel
theorem dX7_guest_57 : decode cX7_guest 57 = .ok (.iconst 1, 1) := by decide +kernel
theorem dX7_guest_58 : decode cX7_guest 58 = .ok (.iload 4, 2) := by decide +kernel
theorem dX7_guest_60 : decode cX7_guest 60 = .ok (.ishl, 1) := by decide +kernel
theorem dX7_guest_61 : decode cX7_guest 61 = .ok (.ior, 1) := by decide +kernel
theorem dX7_guest_62 : decode cX7_guest 62 = .ok (.invokevirtual 207, 3) := by decide +kernel
theorem dX7_guest_65 : decode cX7_guest 65 = .ok (.ifCond .ne 6, 3) := by decide +kernel
theorem dX7_guest_68 : decode cX7_guest 68 = .ok (.goto 31, 3) := by decide +kernel
theorem dX7_guest_71 : decode cX7_guest 71 = .ok (.iload_n 2, 1) := by decide +kernel
theorem dX7_guest_72 : decode cX7_guest 72 = .ok (.bipush (-2), 2) := by decide +kernel
theorem dX7_guest_74 : decode cX7_guest 74 = .ok (.if_icmp .eq 14, 3) := by decide +kernel
theorem dX7_guest_77 : decode cX7_guest 77 = .ok (.aload_n 0, 1) := by decide +kernel
theorem dX7_guest_78 : decode cX7_guest 78 = .ok (.getfield 53, 3) := by decide +kernel
theorem dX7_guest_81 : decode cX7_guest 81 = .ok (.getfield 211, 3) := by decide +kernel
theorem dX7_guest_84 : decode cX7_guest 84 = .ok (.iload_n 3, 1) := by decide +kernel
theorem dX7_guest_85 : decode cX7_guest 85 = .ok (.if_icmp .ge 14, 3) := by decide +kernel
theorem dX7_guest_88 : decode cX7_guest 88 = .ok (.iload 4, 2) := by decide +kernel
theorem dX7_guest_90 : decode cX7_guest 90 = .ok (.istore_n 2, 1) := by decide +kernel
theorem dX7_guest_91 : decode cX7_guest 91 = .ok (.aload_n 0, 1) := by decide +kernel
theorem dX7_guest_92 : decode cX7_guest 92 = .ok (.getfield 53, 3) := by decide +kernel
theorem dX7_guest_95 : decode cX7_guest 95 = .ok (.getfield 211, 3) := by decide +kernel
theorem dX7_guest_98 : decode cX7_guest 98 = .ok (.istore_n 3, 1) := by decide +kernel
theorem dX7_guest_99 : decode cX7_guest 99 = .ok (.iinc 4 1, 3) := by decide +kernel
theorem dX7_guest_102 : decode cX7_guest 102 = .ok (.goto (-80), 3) := by decide +kernel
theorem dX7_guest_105 : decode cX7_guest 105 = .ok (.aload_n 0, 1) := by decide +kernel
theorem dX7_guest_106 : decode cX7_guest 106 = .ok (.iload_n 2, 1) := by decide +kernel
theorem dX7_guest_107 : decode cX7_guest 107 = .ok (.invokevirtual 110, 3) := by decide +kernel
theorem dX7_guest_110 : decode cX7_guest 110 = .ok (.ireturn, 1) := by decide +kernel
theorem dX7_putRight_0 : decode cX7_putRight 0 = .ok (.aload_n 0, 1) := by decide +kernel
theorem dX7_putRight_1 : decode cX7_putRight 1 = .ok (.invokevirtual 149, 3) := by decide +kernel
theorem dX7_putRight_4 : decode cX7_putRight 4 = .ok (.ifCond .ne 9, 3) := by decide +kernel
theorem dX7_putRight_7 : decode cX7_putRight 7 = .ok (.aload_n 0, 1) := by decide +kernel
theorem dX7_putRight_8 : decode cX7_putRight 8 = .ok (.iconst 1, 1) := by decide +kernel
theorem dX7_putRight_9 : decode cX7_putRight 9 = .ok (.invokevirtual 84, 3) := by decide +kernel
theorem dX7_putRight_12 : decode cX7_putRight 12 = .ok (.ireturn, 1) := by decide +kernel
theorem dX7_putRight_13 : decode cX7_putRight 13 = .ok (.aload_n 0, 1) := by decide +kernel
theorem dX7_putRight_14 : decode cX7_putRight 14 = .ok (.invokevirtual 214, 3) := by decide +kernel
theorem dX7_putRight_17 : decode cX7_putRight 17 = .ok (.aload_n 0, 1) := by decide +kernel
theorem dX7_putRight_18 : decode cX7_putRight 18 = .ok (.aload_n 0, 1) := by decide +kernel
theorem dX7_putRight_19 : decode cX7_putRight 19 = .ok (.getfield 60, 3) := by decide +kernel
theorem dX7_putRight_22 : decode cX7_putRight 22 = .ok (.getfield 217, 3) := by decide +kernel
theorem dX7_putRight_25 : decode cX7_putRight 25 = .ok (.invokevirtual 110, 3) := by decide +kernel
theorem dX7_putRight_28 : decode cX7_putRight 28 = .ok (.ireturn, 1) := by decide +kernel
theorem dX7_exchanges_0 : decode cX7_exchanges 0 = .ok (.aload_n 0, 1) := by decide +kernel
theorem dX7_exchanges_1 : decode cX7_exchanges 1 = .ok (.invokevirtual 149, 3) := by decide +kernel
theorem dX7_exchanges_4 : decode cX7_exchanges 4 = .ok (.ifCond .ne 9, 3) := by decide +kernel
theorem dX7_exchanges_7 : decode cX7_exchanges 7 = .ok (.aload_n 0, 1) := by decide +kernel
theorem dX7_exchanges_8 : decode cX7_exchanges 8 = .ok (.iconst 1, 1) := by decide +kernel
theorem dX7_exchanges_9 : decode cX7_exchanges 9 = .ok (.invokevirtual 84, 3) := by decide +kernel
theorem dX7_exchanges_12 : decode cX7_exchanges 12 = .ok (.ireturn, 1) := by decide +kernel
theorem dX7_exchanges_13 : decode cX7_exchanges 13 = .ok (.aload_n 0, 1) := by decide +kernel
theorem dX7_exchanges_14 : decode cX7_exchanges 14 = .ok (.invokevirtual 214, 3) := by decide +kernel
theorem dX7_exchanges_17 : decode cX7_exchanges 17 = .ok (.aload_n 0, 1) := by decide +kernel
theorem dX7_exchanges_18 : decode cX7_exchanges 18 = .ok (.aload_n 0, 1) := by decide +kernel
theorem dX7_exchanges_19 : decode cX7_exchanges 19 = .ok (.getfield 60, 3) := by decide +kernel
theorem dX7_exchanges_22 : decode cX7_exchanges 22 = .ok (.getfield 220, 3) := by decide +kernel
theorem dX7_exchanges_25 : decode cX7_exchanges 25 = .ok (.invokevirtual 110, 3) := by decide +kernel
theorem dX7_exchanges_28 : decode cX7_exchanges 28 = .ok (.ireturn, 1) := by decide +kernel
theorem dX7_exchangeAt_0 : decode cX7_exchangeAt 0 = .ok (.aload_n 0, 1) := by decide +kernel
theorem dX7_exchangeAt_1 : decode cX7_exchangeAt 1 = .ok (.invokevirtual 149, 3) := by decide +kernel
theorem dX7_exchangeAt_4 : decode cX7_exchangeAt 4 = .ok (.ifCond .eq 12, 3) := by decide +kernel
theorem dX7_exchangeAt_7 : decode cX7_exchangeAt 7 = .ok (.iload_n 1, 1) := by decide +kernel
theorem dX7_exchangeAt_8 : decode cX7_exchangeAt 8 = .ok (.ifCond .lt 8, 3) := by decide +kernel
theorem dX7_exchangeAt_11 : decode cX7_exchangeAt 11 = .ok (.iload_n 1, 1) := by decide +kernel
theorem dX7_exchangeAt_12 : decode cX7_exchangeAt 12 = .ok (.iconst 3, 1) := by decide +kernel
theorem dX7_exchangeAt_13 : decode cX7_exchangeAt 13 = .ok (.if_icmp .lt 9, 3) := by decide +kernel
theorem dX7_exchangeAt_16 : decode cX7_exchangeAt 16 = .ok (.aload_n 0, 1) := by decide +kernel
theorem dX7_exchangeAt_17 : decode cX7_exchangeAt 17 = .ok (.iconst 1, 1) := by decide +kernel
theorem dX7_exchangeAt_18 : decode cX7_exchangeAt 18 = .ok (.invokevirtual 84, 3) := by decide +kernel
theorem dX7_exchangeAt_21 : decode cX7_exchangeAt 21 = .ok (.ireturn, 1) := by decide +kernel
theorem dX7_exchangeAt_22 : decode cX7_exchangeAt 22 = .ok (.aload_n 0, 1) := by decide +kernel
theorem dX7_exchangeAt_23 : decode cX7_exchangeAt 23 = .ok (.invokevirtual 214, 3) := by decide +kernel
theorem dX7_exchangeAt_26 : decode cX7_exchangeAt 26 = .ok (.iload_n 1, 1) := by decide +kernel
theorem dX7_exchangeAt_27 : decode cX7_exchangeAt 27 = .ok (.aload_n 0, 1) := by decide +kernel
theorem dX7_exchangeAt_28 : decode cX7_exchangeAt 28 = .ok (.getfield 60, 3) := by decide +kernel
theorem dX7_exchangeAt_31 : decode cX7_exchangeAt 31 = .ok (.getfield 220, 3) := by decide +kernel
theorem dX7_exchangeAt_34 : decode cX7_exchangeAt 34 = .ok (.if_icmp .lt 9, 3) := by decide +kernel
theorem dX7_exchangeAt_37 : decode cX7_exchangeAt 37 = .ok (.aload_n 0, 1) := by decide +kernel
theorem dX7_exchangeAt_38 : decode cX7_exchangeAt 38 = .ok (.iconst 1, 1) := by decide +kernel
theorem dX7_exchangeAt_39 : decode cX7_exchangeAt 39 = .ok (.invokevirtual 84, 3) := by decide +kernel
theorem dX7_exchangeAt_42 : decode cX7_exchangeAt 42 = .ok (.ireturn, 1) := by decide +kernel
theorem dX7_exchangeAt_43 : decode cX7_exchangeAt 43 = .ok (.aload_n 0, 1) := by decide +kernel
theorem dX7_exchangeAt_44 : decode cX7_exchangeAt 44 = .ok (.aload_n 0, 1) := by decide +kernel
theorem dX7_exchangeAt_45 : decode cX7_exchangeAt 45 = .ok (.getfield 60, 3) := by decide +kernel
theorem dX7_exchangeAt_48 : decode cX7_exchangeAt 48 = .ok (.getfield 223, 3) := by decide +kernel
theorem dX7_exchangeAt_51 : decode cX7_exchangeAt 51 = .ok (.iload_n 1, 1) := by decide +kernel
theorem dX7_exchangeAt_52 : decode cX7_exchangeAt 52 = .ok (.iaload, 1) := by decide +kernel
theorem dX7_exchangeAt_53 : decode cX7_exchangeAt 53 = .ok (.invokevirtual 110, 3) := by decide +kernel
theorem dX7_exchangeAt_56 : decode cX7_exchangeAt 56 = .ok (.ireturn, 1) := by decide +kernel
theorem dX7_party_0 : decode cX7_party 0 = .ok (.aload_n 0, 1) := by decide +kernel
theorem dX7_party_1 : decode cX7_party 1 = .ok (.iload_n 1, 1) := by decide +kernel
theorem dX7_party_2 : decode cX7_party 2 = .ok (.invokevirtual 204, 3) := by decide +kernel
theorem dX7_party_5 : decode cX7_party 5 = .ok (.ifCond .ne 9, 3) := by decide +kernel
theorem dX7_party_8 : decode cX7_party 8 = .ok (.aload_n 0, 1) := by decide +kernel
theorem dX7_party_9 : decode cX7_party 9 = .ok (.iconst 1, 1) := by decide +kernel
theorem dX7_party_10 : decode cX7_party 10 = .ok (.invokevirtual 84, 3) := by decide +kernel
theorem dX7_party_13 : decode cX7_party 13 = .ok (.ireturn, 1) := by decide +kernel
theorem dX7_party_14 : decode cX7_party 14 = .ok (.aload_n 0, 1) := by decide +kernel
theorem dX7_party_15 : decode cX7_party 15 = .ok (.aload_n 0, 1) := by decide +kernel
theorem dX7_party_16 : decode cX7_party 16 = .ok (.getfield 53, 3) := by decide +kernel
theorem dX7_party_19 : decode cX7_party 19 = .ok (.aload_n 0, 1) := by decide +kernel
theorem dX7_party_20 : decode cX7_party 20 = .ok (.getfield 10, 3) := by decide +kernel
theorem dX7_party_23 : decode cX7_party 23 = .ok (.aload_n 0, 1) := by decide +kernel
theorem dX7_party_24 : decode cX7_party 24 = .ok (.getfield 36, 3) := by decide +kernel
theorem dX7_party_27 : decode cX7_party 27 = .ok (.iload_n 1, 1) := by decide +kernel
theorem dX7_party_28 : decode cX7_party 28 = .ok (.invokevirtual 207, 3) := by decide +kernel
theorem dX7_party_31 : decode cX7_party 31 = .ok (.ifCond .eq 13, 3) := by decide +kernel
theorem dX7_party_34 : decode cX7_party 34 = .ok (.aload_n 0, 1) := by decide +kernel
theorem dX7_party_35 : decode cX7_party 35 = .ok (.getfield 53, 3) := by decide +kernel
theorem dX7_party_38 : decode cX7_party 38 = .ok (.getfield 211, 3) := by decide +kernel
theorem dX7_party_41 : decode cX7_party 41 = .ok (.goto 5, 3) := by decide +kernel
theorem dX7_party_44 : decode cX7_party 44 = .ok (.bipush (-2), 2) := by decide +kernel
theorem dX7_party_46 : decode cX7_party 46 = .ok (.invokevirtual 110, 3) := by decide +kernel
theorem dX7_party_49 : decode cX7_party 49 = .ok (.ireturn, 1) := by decide +kernel
theorem dX7_partyOf_0 : decode cX7_partyOf 0 = .ok (.aload_n 0, 1) := by decide +kernel
theorem dX7_partyOf_1 : decode cX7_partyOf 1 = .ok (.iload_n 1, 1) := by decide +kernel
theorem dX7_partyOf_2 : decode cX7_partyOf 2 = .ok (.invokevirtual 204, 3) := by decide +kernel
theorem dX7_partyOf_5 : decode cX7_partyOf 5 = .ok (.ifCond .eq 11, 3) := by decide +kernel
theorem dX7_partyOf_8 : decode cX7_partyOf 8 = .ok (.aload_n 0, 1) := by decide +kernel
theorem dX7_partyOf_9 : decode cX7_partyOf 9 = .ok (.iload_n 2, 1) := by decide +kernel
theorem dX7_partyOf_10 : decode cX7_partyOf 10 = .ok (.invokevirtual 132, 3) := by decide +kernel
theorem dX7_partyOf_13 : decode cX7_partyOf 13 = .ok (.ifCond .ne 9, 3) := by decide +kernel
theorem dX7_partyOf_16 : decode cX7_partyOf 16 = .ok (.aload_n 0, 1) := by decide +kernel
theorem dX7_partyOf_17 : decode cX7_partyOf 17 = .ok (.iconst 1, 1) := by decide +kernel
theorem dX7_partyOf_18 : decode cX7_partyOf 18 = .ok (.invokevirtual 84, 3) := by decide +kernel
theorem dX7_partyOf_21 : decode cX7_partyOf 21 = .ok (.ireturn, 1) := by decide +kernel
theorem dX7_partyOf_22 : decode cX7_partyOf 22 = .ok (.aload_n 0, 1) := by decide +kernel
theorem dX7_partyOf_23 : decode cX7_partyOf 23 = .ok (.getfield 53, 3) := by decide +kernel
theorem dX7_partyOf_26 : decode cX7_partyOf 26 = .ok (.aload_n 0, 1) := by decide +kernel
theorem dX7_partyOf_27 : decode cX7_partyOf 27 = .ok (.getfield 10, 3) := by decide +kernel
theorem dX7_partyOf_30 : decode cX7_partyOf 30 = .ok (.aload_n 0, 1) := by decide +kernel
theorem dX7_partyOf_31 : decode cX7_partyOf 31 = .ok (.getfield 36, 3) := by decide +kernel
theorem dX7_partyOf_34 : decode cX7_partyOf 34 = .ok (.iload_n 1, 1) := by decide +kernel
theorem dX7_partyOf_35 : decode cX7_partyOf 35 = .ok (.invokevirtual 207, 3) := by decide +kernel
theorem dX7_partyOf_38 : decode cX7_partyOf 38 = .ok (.ifCond .ne 10, 3) := by decide +kernel
theorem dX7_partyOf_41 : decode cX7_partyOf 41 = .ok (.aload_n 0, 1) := by decide +kernel
theorem dX7_partyOf_42 : decode cX7_partyOf 42 = .ok (.bipush 6, 2) := by decide +kernel
theorem dX7_partyOf_44 : decode cX7_partyOf 44 = .ok (.invokevirtual 84, 3) := by decide +kernel
theorem dX7_partyOf_47 : decode cX7_partyOf 47 = .ok (.ireturn, 1) := by decide +kernel
theorem dX7_partyOf_48 : decode cX7_partyOf 48 = .ok (.aload_n 0, 1) := by decide +kernel
theorem dX7_partyOf_49 : decode cX7_partyOf 49 = .ok (.aload_n 0, 1) := by decide +kernel
theorem dX7_partyOf_50 : decode cX7_partyOf 50 = .ok (.getfield 53, 3) := by decide +kernel
theorem dX7_partyOf_53 : decode cX7_partyOf 53 = .ok (.getfield 226, 3) := by decide +kernel
theorem dX7_partyOf_56 : decode cX7_partyOf 56 = .ok (.iload_n 2, 1) := by decide +kernel
theorem dX7_partyOf_57 : decode cX7_partyOf 57 = .ok (.iaload, 1) := by decide +kernel
theorem dX7_partyOf_58 : decode cX7_partyOf 58 = .ok (.invokevirtual 110, 3) := by decide +kernel
theorem dX7_partyOf_61 : decode cX7_partyOf 61 = .ok (.ireturn, 1) := by decide +kernel
theorem dX7_room_0 : decode cX7_room 0 = .ok (.aload_n 0, 1) := by decide +kernel
theorem dX7_room_1 : decode cX7_room 1 = .ok (.iload_n 1, 1) := by decide +kernel
theorem dX7_room_2 : decode cX7_room 2 = .ok (.invokevirtual 204, 3) := by decide +kernel
theorem dX7_room_5 : decode cX7_room 5 = .ok (.ifCond .ne 9, 3) := by decide +kernel
theorem dX7_room_8 : decode cX7_room 8 = .ok (.aload_n 0, 1) := by decide +kernel
theorem dX7_room_9 : decode cX7_room 9 = .ok (.iconst 1, 1) := by decide +kernel
theorem dX7_room_10 : decode cX7_room 10 = .ok (.invokevirtual 84, 3) := by decide +kernel
theorem dX7_room_13 : decode cX7_room 13 = .ok (.ireturn, 1) := by decide +kernel
theorem dX7_room_14 : decode cX7_room 14 = .ok (.aload_n 0, 1) := by decide +kernel
theorem dX7_room_15 : decode cX7_room 15 = .ok (.aload_n 0, 1) := by decide +kernel
theorem dX7_room_16 : decode cX7_room 16 = .ok (.getfield 53, 3) := by decide +kernel
theorem dX7_room_19 : decode cX7_room 19 = .ok (.aload_n 0, 1) := by decide +kernel
theorem dX7_room_20 : decode cX7_room 20 = .ok (.getfield 10, 3) := by decide +kernel
theorem dX7_room_23 : decode cX7_room 23 = .ok (.aload_n 0, 1) := by decide +kernel
theorem dX7_room_24 : decode cX7_room 24 = .ok (.getfield 36, 3) := by decide +kernel
theorem dX7_room_27 : decode cX7_room 27 = .ok (.iload_n 1, 1) := by decide +kernel
theorem dX7_room_28 : decode cX7_room 28 = .ok (.invokevirtual 227, 3) := by decide +kernel
theorem dX7_room_31 : decode cX7_room 31 = .ok (.invokevirtual 110, 3) := by decide +kernel
theorem dX7_room_34 : decode cX7_room 34 = .ok (.ireturn, 1) := by decide +kernel
theorem dX7_whole_0 : decode cX7_whole 0 = .ok (.aload_n 0, 1) := by decide +kernel
theorem dX7_whole_1 : decode cX7_whole 1 = .ok (.iload_n 1, 1) := by decide +kernel
theorem dX7_whole_2 : decode cX7_whole 2 = .ok (.invokevirtual 113, 3) := by decide +kernel
theorem dX7_whole_5 : decode cX7_whole 5 = .ok (.ifCond .ne 10, 3) := by decide +kernel
theorem dX7_whole_8 : decode cX7_whole 8 = .ok (.aload_n 0, 1) := by decide +kernel
theorem dX7_whole_9 : decode cX7_whole 9 = .ok (.iconst 1, 1) := by decide +kernel
theorem dX7_whole_10 : decode cX7_whole 10 = .ok (.invokevirtual 84, 3) := by decide +kernel
theorem dX7_whole_13 : decode cX7_whole 13 = .ok (.i2l, 1) := by decide +kernel
theorem dX7_whole_14 : decode cX7_whole 14 = .ok (.lreturn, 1) := by decide +kernel
theorem dX7_whole_15 : decode cX7_whole 15 = .ok (.iload_n 2, 1) := by decide +kernel
theorem dX7_whole_16 : decode cX7_whole 16 = .ok (.ifCond .lt 9, 3) := by decide +kernel
theorem dX7_whole_19 : decode cX7_whole 19 = .ok (.iload_n 2, 1) := by decide +kernel
theorem dX7_whole_20 : decode cX7_whole 20 = .ok (.bipush 6, 2) := by decide +kernel
theorem dX7_whole_22 : decode cX7_whole 22 = .ok (.if_icmp .le 10, 3) := by decide +kernel
theorem dX7_whole_25 : decode cX7_whole 25 = .ok (.aload_n 0, 1) := by decide +kernel
theorem dX7_whole_26 : decode cX7_whole 26 = .ok (.iconst 2, 1) := by decide +kernel
theorem dX7_whole_27 : decode cX7_whole 27 = .ok (.invokevirtual 84, 3) := by decide +kernel
theorem dX7_whole_30 : decode cX7_whole 30 = .ok (.i2l, 1) := by decide +kernel
theorem dX7_whole_31 : decode cX7_whole 31 = .ok (.lreturn, 1) := by decide +kernel
theorem dX7_whole_32 : decode cX7_whole 32 = .ok (.lconst 1, 1) := by decide +kernel
theorem dX7_whole_33 : decode cX7_whole 33 = .ok (.lstore 4, 2) := by decide +kernel
theorem dX7_whole_35 : decode cX7_whole 35 = .ok (.lconst 1, 1) := by decide +kernel
theorem dX7_whole_36 : decode cX7_whole 36 = .ok (.lstore 6, 2) := by decide +kernel
theorem dX7_whole_38 : decode cX7_whole 38 = .ok (.iconst 0, 1) := by decide +kernel
theorem dX7_whole_39 : decode cX7_whole 39 = .ok (.istore 8, 2) := by decide +kernel
theorem dX7_whole_41 : decode cX7_whole 41 = .ok (.iload 8, 2) := by decide +kernel
theorem dX7_whole_43 : decode cX7_whole 43 = .ok (.iload_n 2, 1) := by decide +kernel
theorem dX7_whole_44 : decode cX7_whole 44 = .ok (.if_icmp .ge 31, 3) := by decide +kernel
theorem dX7_whole_47 : decode cX7_whole 47 = .ok (.lload 4, 2) := by decide +kernel
theorem dX7_whole_49 : decode cX7_whole 49 = .ok (.aload_n 0, 1) := by decide +kernel
theorem dX7_whole_50 : decode cX7_whole 50 = .ok (.getfield 10, 3) := by decide +kernel
theorem dX7_whole_53 : decode cX7_whole 53 = .ok (.iload_n 1, 1) := by decide +kernel
theorem dX7_whole_54 : decode cX7_whole 54 = .ok (.invokevirtual 231, 3) := by decide +kernel
theorem dX7_whole_57 : decode cX7_whole 57 = .ok (.i2l, 1) := by decide +kernel
theorem dX7_whole_58 : decode cX7_whole 58 = .ok (.lmul, 1) := by decide +kernel
theorem dX7_whole_59 : decode cX7_whole 59 = .ok (.lstore 4, 2) := by decide +kernel
theorem dX7_whole_61 : decode cX7_whole 61 = .ok (.lload 6, 2) := by decide +kernel
theorem dX7_whole_63 : decode cX7_whole 63 = .ok (.ldc2_w 234, 3) := by decide +kernel
theorem dX7_whole_66 : decode cX7_whole 66 = .ok (.lmul, 1) := by decide +kernel
theorem dX7_whole_67 : decode cX7_whole 67 = .ok (.lstore 6, 2) := by decide +kernel
theorem dX7_whole_69 : decode cX7_whole 69 = .ok (.iinc 8 1, 3) := by decide +kernel
theorem dX7_whole_72 : decode cX7_whole 72 = .ok (.goto (-31), 3) := by decide +kernel
theorem dX7_whole_75 : decode cX7_whole 75 = .ok (.aload_n 0, 1) := by decide +kernel
theorem dX7_whole_76 : decode cX7_whole 76 = .ok (.iconst 0, 1) := by decide +kernel
theorem dX7_whole_77 : decode cX7_whole 77 = .ok (.putfield 30, 3) := by decide +kernel
theorem dX7_whole_80 : decode cX7_whole 80 = .ok (.lload 4, 2) := by decide +kernel
theorem dX7_whole_82 : decode cX7_whole 82 = .ok (.lload 6, 2) := by decide +kernel
theorem dX7_whole_84 : decode cX7_whole 84 = .ok (.iload_n 3, 1) := by decide +kernel
theorem dX7_whole_85 : decode cX7_whole 85 = .ok (.invokestatic 236, 3) := by decide +kernel
theorem dX7_whole_88 : decode cX7_whole 88 = .ok (.lreturn, 1) := by decide +kernel
theorem dX7_allWhole_0 : decode cX7_allWhole 0 = .ok (.aload_n 0, 1) := by decide +kernel
theorem dX7_allWhole_1 : decode cX7_allWhole 1 = .ok (.iload_n 1, 1) := by decide +kernel
theorem dX7_allWhole_2 : decode cX7_allWhole 2 = .ok (.invokevirtual 132, 3) := by decide +kernel
theorem dX7_allWhole_5 : decode cX7_allWhole 5 = .ok (.ifCond .ne 10, 3) := by decide +kernel
theorem dX7_allWhole_8 : decode cX7_allWhole 8 = .ok (.aload_n 0, 1) := by decide +kernel
theorem dX7_allWhole_9 : decode cX7_allWhole 9 = .ok (.iconst 1, 1) := by decide +kernel
theorem dX7_allWhole_10 : decode cX7_allWhole 10 = .ok (.invokevirtual 84, 3) := by decide +kernel
theorem dX7_allWhole_13 : decode cX7_allWhole 13 = .ok (.i2l, 1) := by decide +kernel
theorem dX7_allWhole_14 : decode cX7_allWhole 14 = .ok (.lreturn, 1) := by decide +kernel
theorem dX7_allWhole_15 : decode cX7_allWhole 15 = .ok (.iload_n 2, 1) := by decide +kernel
theorem dX7_allWhole_16 : decode cX7_allWhole 16 = .ok (.ifCond .lt 8, 3) := by decide +kernel
theorem dX7_allWhole_19 : decode cX7_allWhole 19 = .ok (.iload_n 2, 1) := by decide +kernel
theorem dX7_allWhole_20 : decode cX7_allWhole 20 = .ok (.iconst 1, 1) := by decide +kernel
theorem dX7_allWhole_21 : decode cX7_allWhole 21 = .ok (.if_icmp .le 10, 3) := by decide +kernel
theorem dX7_allWhole_24 : decode cX7_allWhole 24 = .ok (.aload_n 0, 1) := by decide +kernel
theorem dX7_allWhole_25 : decode cX7_allWhole 25 = .ok (.iconst 2, 1) := by decide +kernel
theorem dX7_allWhole_26 : decode cX7_allWhole 26 = .ok (.invokevirtual 84, 3) := by decide +kernel
theorem dX7_allWhole_29 : decode cX7_allWhole 29 = .ok (.i2l, 1) := by decide +kernel
theorem dX7_allWhole_30 : decode cX7_allWhole 30 = .ok (.lreturn, 1) := by decide +kernel
theorem dX7_allWhole_31 : decode cX7_allWhole 31 = .ok (.lconst 1, 1) := by decide +kernel
theorem dX7_allWhole_32 : decode cX7_allWhole 32 = .ok (.lstore 4, 2) := by decide +kernel
theorem dX7_allWhole_34 : decode cX7_allWhole 34 = .ok (.lconst 1, 1) := by decide +kernel
theorem dX7_allWhole_35 : decode cX7_allWhole 35 = .ok (.lstore 6, 2) := by decide +kernel
theorem dX7_allWhole_37 : decode cX7_allWhole 37 = .ok (.iconst 0, 1) := by decide +kernel
theorem dX7_allWhole_38 : decode cX7_allWhole 38 = .ok (.istore 8, 2) := by decide +kernel
theorem dX7_allWhole_40 : decode cX7_allWhole 40 = .ok (.iload 8, 2) := by decide +kernel
theorem dX7_allWhole_42 : decode cX7_allWhole 42 = .ok (.aload_n 0, 1) := by decide +kernel
theorem dX7_allWhole_43 : decode cX7_allWhole 43 = .ok (.getfield 10, 3) := by decide +kernel
theorem dX7_allWhole_46 : decode cX7_allWhole 46 = .ok (.getfield 107, 3) := by decide +kernel
theorem dX7_allWhole_49 : decode cX7_allWhole 49 = .ok (.if_icmp .ge 51, 3) := by decide +kernel
theorem dX7_allWhole_52 : decode cX7_allWhole 52 = .ok (.iload_n 2, 1) := by decide +kernel
theorem dX7_allWhole_53 : decode cX7_allWhole 53 = .ok (.iconst 1, 1) := by decide +kernel
theorem dX7_allWhole_54 : decode cX7_allWhole 54 = .ok (.if_icmp .ne 40, 3) := by decide +kernel
theorem dX7_allWhole_57 : decode cX7_allWhole 57 = .ok (.aload_n 0, 1) := by decide +kernel
theorem dX7_allWhole_58 : decode cX7_allWhole 58 = .ok (.getfield 36, 3) := by decide +kernel
theorem dX7_allWhole_61 : decode cX7_allWhole 61 = .ok (.getfield 126, 3) := by decide +kernel
theorem dX7_allWhole_64 : decode cX7_allWhole 64 = .ok (.iload 8, 2) := by decide +kernel
theorem dX7_allWhole_66 : decode cX7_allWhole 66 = .ok (.iaload, 1) := by decide +kernel
theorem dX7_allWhole_67 : decode cX7_allWhole 67 = .ok (.iload_n 1, 1) := by decide +kernel
theorem dX7_allWhole_68 : decode cX7_allWhole 68 = .ok (.if_icmp .ne 26, 3) := by decide +kernel
theorem dX7_allWhole_71 : decode cX7_allWhole 71 = .ok (.lload 4, 2) := by decide +kernel
theorem dX7_allWhole_73 : decode cX7_allWhole 73 = .ok (.aload_n 0, 1) := by decide +kernel
theorem dX7_allWhole_74 : decode cX7_allWhole 74 = .ok (.getfield 10, 3) := by decide +kernel
theorem dX7_allWhole_77 : decode cX7_allWhole 77 = .ok (.iload 8, 2) := by decide +kernel
theorem dX7_allWhole_79 : decode cX7_allWhole 79 = .ok (.invokevirtual 231, 3) := by decide +kernel
theorem dX7_allWhole_82 : decode cX7_allWhole 82 = .ok (.i2l, 1) := by decide +kernel
theorem dX7_allWhole_83 : decode cX7_allWhole 83 = .ok (.lmul, 1) := by decide +kernel
theorem dX7_allWhole_84 : decode cX7_allWhole 84 = .ok (.lstore 4, 2) := by decide +kernel
theorem dX7_allWhole_86 : decode cX7_allWhole 86 = .ok (.lload 6, 2) := by decide +kernel
theorem dX7_allWhole_88 : decode cX7_allWhole 88 = .ok (.ldc2_w 234, 3) := by decide +kernel
theorem dX7_allWhole_91 : decode cX7_allWhole 91 = .ok (.lmul, 1) := by decide +kernel
theorem dX7_allWhole_92 : decode cX7_allWhole 92 = .ok (.lstore 6, 2) := by decide +kernel
theorem dX7_allWhole_94 : decode cX7_allWhole 94 = .ok (.iinc 8 1, 3) := by decide +kernel
theorem dX7_allWhole_97 : decode cX7_allWhole 97 = .ok (.goto (-57), 3) := by decide +kernel
theorem dX7_allWhole_100 : decode cX7_allWhole 100 = .ok (.aload_n 0, 1) := by decide +kernel
theorem dX7_allWhole_101 : decode cX7_allWhole 101 = .ok (.iconst 0, 1) := by decide +kernel
theorem dX7_allWhole_102 : decode cX7_allWhole 102 = .ok (.putfield 30, 3) := by decide +kernel
theorem dX7_allWhole_105 : decode cX7_allWhole 105 = .ok (.lload 4, 2) := by decide +kernel
theorem dX7_allWhole_107 : decode cX7_allWhole 107 = .ok (.lload 6, 2) := by decide +kernel
theorem dX7_allWhole_109 : decode cX7_allWhole 109 = .ok (.iload_n 3, 1) := by decide +kernel
theorem dX7_allWhole_110 : decode cX7_allWhole 110 = .ok (.invokestatic 236, 3) := by decide +kernel
theorem dX7_allWhole_113 : decode cX7_allWhole 113 = .ok (.lreturn, 1) := by decide +kernel
theorem dX7_divided_0 : decode cX7_divided 0 = .ok (.aload_n 0, 1) := by decide +kernel
theorem dX7_divided_1 : decode cX7_divided 1 = .ok (.iload_n 1, 1) := by decide +kernel
theorem dX7_divided_2 : decode cX7_divided 2 = .ok (.invokevirtual 113, 3) := by decide +kernel
theorem dX7_divided_5 : decode cX7_divided 5 = .ok (.ifCond .ne 9, 3) := by decide +kernel
theorem dX7_divided_8 : decode cX7_divided 8 = .ok (.aload_n 0, 1) := by decide +kernel
theorem dX7_divided_9 : decode cX7_divided 9 = .ok (.iconst 1, 1) := by decide +kernel
theorem dX7_divided_10 : decode cX7_divided 10 = .ok (.invokevirtual 84, 3) := by decide +kernel
theorem dX7_divided_13 : decode cX7_divided 13 = .ok (.ireturn, 1) := by decide +kernel
theorem dX7_divided_14 : decode cX7_divided 14 = .ok (.iload_n 2, 1) := by decide +kernel
theorem dX7_divided_15 : decode cX7_divided 15 = .ok (.iconst 1, 1) := by decide +kernel
theorem dX7_divided_16 : decode cX7_divided 16 = .ok (.if_icmp .lt 9, 3) := by decide +kernel
theorem dX7_divided_19 : decode cX7_divided 19 = .ok (.iload_n 2, 1) := by decide +kernel
theorem dX7_divided_20 : decode cX7_divided 20 = .ok (.bipush 9, 2) := by decide +kernel
theorem dX7_divided_22 : decode cX7_divided 22 = .ok (.if_icmp .le 9, 3) := by decide +kernel
theorem dX7_divided_25 : decode cX7_divided 25 = .ok (.aload_n 0, 1) := by decide +kernel
theorem dX7_divided_26 : decode cX7_divided 26 = .ok (.iconst 2, 1) := by decide +kernel
theorem dX7_divided_27 : decode cX7_divided 27 = .ok (.invokevirtual 84, 3) := by decide +kernel
theorem dX7_divided_30 : decode cX7_divided 30 = .ok (.ireturn, 1) := by decide +kernel
theorem dX7_divided_31 : decode cX7_divided 31 = .ok (.iload_n 3, 1) := by decide +kernel
theorem dX7_divided_32 : decode cX7_divided 32 = .ok (.ifCond .lt 8, 3) := by decide +kernel
theorem dX7_divided_35 : decode cX7_divided 35 = .ok (.iload_n 3, 1) := by decide +kernel
theorem dX7_divided_36 : decode cX7_divided 36 = .ok (.iload_n 2, 1) := by decide +kernel
theorem dX7_divided_37 : decode cX7_divided 37 = .ok (.if_icmp .lt 9, 3) := by decide +kernel
theorem dX7_divided_40 : decode cX7_divided 40 = .ok (.aload_n 0, 1) := by decide +kernel
theorem dX7_divided_41 : decode cX7_divided 41 = .ok (.iconst 1, 1) := by decide +kernel
theorem dX7_divided_42 : decode cX7_divided 42 = .ok (.invokevirtual 84, 3) := by decide +kernel
theorem dX7_divided_45 : decode cX7_divided 45 = .ok (.ireturn, 1) := by decide +kernel
theorem dX7_divided_46 : decode cX7_divided 46 = .ok (.aload_n 0, 1) := by decide +kernel
theorem dX7_divided_47 : decode cX7_divided 47 = .ok (.getfield 10, 3) := by decide +kernel
theorem dX7_divided_50 : decode cX7_divided 50 = .ok (.getfield 120, 3) := by decide +kernel
theorem dX7_divided_53 : decode cX7_divided 53 = .ok (.iload_n 1, 1) := by decide +kernel
theorem dX7_divided_54 : decode cX7_divided 54 = .ok (.iaload, 1) := by decide +kernel
theorem dX7_divided_55 : decode cX7_divided 55 = .ok (.istore 4, 2) := by decide +kernel
theorem dX7_divided_57 : decode cX7_divided 57 = .ok (.aload_n 0, 1) := by decide +kernel
theorem dX7_divided_58 : decode cX7_divided 58 = .ok (.iload 4, 2) := by decide +kernel
theorem dX7_divided_60 : decode cX7_divided 60 = .ok (.iload_n 2, 1) := by decide +kernel
theorem dX7_divided_61 : decode cX7_divided 61 = .ok (.idiv, 1) := by decide +kernel
theorem dX7_divided_62 : decode cX7_divided 62 = .ok (.iload_n 3, 1) := by decide +kernel
theorem dX7_divided_63 : decode cX7_divided 63 = .ok (.iload 4, 2) := by decide +kernel
theorem dX7_divided_65 : decode cX7_divided 65 = .ok (.iload_n 2, 1) := by decide +kernel
theorem dX7_divided_66 : decode cX7_divided 66 = .ok (.irem, 1) := by decide +kernel
theorem dX7_divided_67 : decode cX7_divided 67 = .ok (.if_icmp .ge 7, 3) := by decide +kernel
theorem dX7_divided_70 : decode cX7_divided 70 = .ok (.iconst 1, 1) := by decide +kernel
theorem dX7_divided_71 : decode cX7_divided 71 = .ok (.goto 4, 3) := by decide +kernel
theorem dX7_divided_74 : decode cX7_divided 74 = .ok (.iconst 0, 1) := by decide +kernel
theorem dX7_divided_75 : decode cX7_divided 75 = .ok (.iadd, 1) := by decide +kernel
theorem dX7_divided_76 : decode cX7_divided 76 = .ok (.invokevirtual 110, 3) := by decide +kernel
theorem dX7_divided_79 : decode cX7_divided 79 = .ok (.ireturn, 1) := by decide +kernel
theorem dX7_heirs_0 : decode cX7_heirs 0 = .ok (.aload_n 0, 1) := by decide +kernel
theorem dX7_heirs_1 : decode cX7_heirs 1 = .ok (.invokevirtual 149, 3) := by decide +kernel
theorem dX7_heirs_4 : decode cX7_heirs 4 = .ok (.ifCond .ne 12, 3) := by decide +kernel
theorem dX7_heirs_7 : decode cX7_heirs 7 = .ok (.aload_n 0, 1) := by decide +kernel
theorem dX7_heirs_8 : decode cX7_heirs 8 = .ok (.iconst 1, 1) := by decide +kernel
theorem dX7_heirs_9 : decode cX7_heirs 9 = .ok (.invokevirtual 84, 3) := by decide +kernel
theorem dX7_heirs_12 : decode cX7_heirs 12 = .ok (.pop, 1) := by decide +kernel
theorem dX7_heirs_13 : decode cX7_heirs 13 = .ok (.bipush (-100), 2) := by decide +kernel
theorem dX7_heirs_15 : decode cX7_heirs 15 = .ok (.ireturn, 1) := by decide +kernel
theorem dX7_heirs_16 : decode cX7_heirs 16 = .ok (.iload_n 1, 1) := by decide +kernel
theorem dX7_heirs_17 : decode cX7_heirs 17 = .ok (.invokestatic 240, 3) := by decide +kernel
theorem dX7_heirs_20 : decode cX7_heirs 20 = .ok (.ifCond .eq 17, 3) := by decide +kernel
theorem dX7_heirs_23 : decode cX7_heirs 23 = .ok (.iload_n 2, 1) := by decide +kernel
theorem dX7_heirs_24 : decode cX7_heirs 24 = .ok (.invokestatic 243, 3) := by decide +kernel
theorem dX7_heirs_27 : decode cX7_heirs 27 = .ok (.ifCond .eq 10, 3) := by decide +kernel
theorem dX7_heirs_30 : decode cX7_heirs 30 = .ok (.iload_n 3, 1) := by decide +kernel
theorem dX7_heirs_31 : decode cX7_heirs 31 = .ok (.invokestatic 243, 3) := by decide +kernel
theorem dX7_heirs_34 : decode cX7_heirs 34 = .ok (.ifCond .ne 12, 3) := by decide +kernel
theorem dX7_heirs_37 : decode cX7_heirs 37 = .ok (.aload_n 0, 1) := by decide +kernel
theorem dX7_heirs_38 : decode cX7_heirs 38 = .ok (.iconst 2, 1) := by decide +kernel
theorem dX7_heirs_39 : decode cX7_heirs 39 = .ok (.invokevirtual 84, 3) := by decide +kernel
theorem dX7_heirs_42 : decode cX7_heirs 42 = .ok (.pop, 1) := by decide +kernel
theorem dX7_heirs_43 : decode cX7_heirs 43 = .ok (.bipush (-100), 2) := by decide +kernel
theorem dX7_heirs_45 : decode cX7_heirs 45 = .ok (.ireturn, 1) := by decide +kernel
theorem dX7_heirs_46 : decode cX7_heirs 46 = .ok (.aload_n 0, 1) := by decide +kernel
theorem dX7_heirs_47 : decode cX7_heirs 47 = .ok (.iload 4, 2) := by decide +kernel
theorem dX7_heirs_49 : decode cX7_heirs 49 = .ok (.ifCond .eq 12, 3) := by decide +kernel
theorem dX7_heirs_52 : decode cX7_heirs 52 = .ok (.iload_n 1, 1) := by decide +kernel
theorem dX7_heirs_53 : decode cX7_heirs 53 = .ok (.iload_n 3, 1) := by decide +kernel
theorem dX7_heirs_54 : decode cX7_heirs 54 = .ok (.iload_n 2, 1) := by decide +kernel
theorem dX7_heirs_55 : decode cX7_heirs 55 = .ok (.invokestatic 246, 3) := by decide +kernel
theorem dX7_heirs_58 : decode cX7_heirs 58 = .ok (.goto 9, 3) := by decide +kernel
theorem dX7_heirs_61 : decode cX7_heirs 61 = .ok (.iload_n 1, 1) := by decide +kernel
theorem dX7_heirs_62 : decode cX7_heirs 62 = .ok (.iload_n 2, 1) := by decide +kernel
theorem dX7_heirs_63 : decode cX7_heirs 63 = .ok (.iload_n 3, 1) := by decide +kernel
theorem dX7_heirs_64 : decode cX7_heirs 64 = .ok (.invokestatic 246, 3) := by decide +kernel
theorem dX7_heirs_67 : decode cX7_heirs 67 = .ok (.invokevirtual 110, 3) := by decide +kernel
theorem dX7_heirs_70 : decode cX7_heirs 70 = .ok (.ireturn, 1) := by decide +kernel
theorem dX7_rests_0 : decode cX7_rests 0 = .ok (.aload_n 0, 1) := by decide +kernel
theorem dX7_rests_1 : decode cX7_rests 1 = .ok (.invokevirtual 149, 3) := by decide +kernel
theorem dX7_rests_4 : decode cX7_rests 4 = .ok (.ifCond .ne 9, 3) := by decide +kernel
theorem dX7_rests_7 : decode cX7_rests 7 = .ok (.aload_n 0, 1) := by decide +kernel
theorem dX7_rests_8 : decode cX7_rests 8 = .ok (.iconst 1, 1) := by decide +kernel
theorem dX7_rests_9 : decode cX7_rests 9 = .ok (.invokevirtual 84, 3) := by decide +kernel
theorem dX7_rests_12 : decode cX7_rests 12 = .ok (.ireturn, 1) := by decide +kernel
theorem dX7_rests_13 : decode cX7_rests 13 = .ok (.iload_n 1, 1) := by decide +kernel
theorem dX7_rests_14 : decode cX7_rests 14 = .ok (.invokestatic 240, 3) := by decide +kernel
theorem dX7_rests_17 : decode cX7_rests 17 = .ok (.ifCond .ne 9, 3) := by decide +kernel
theorem dX7_rests_20 : decode cX7_rests 20 = .ok (.aload_n 0, 1) := by decide +kernel
theorem dX7_rests_21 : decode cX7_rests 21 = .ok (.iconst 2, 1) := by decide +kernel
theorem dX7_rests_22 : decode cX7_rests 22 = .ok (.invokevirtual 84, 3) := by decide +kernel
theorem dX7_rests_25 : decode cX7_rests 25 = .ok (.ireturn, 1) := by decide +kernel
theorem dX7_rests_26 : decode cX7_rests 26 = .ok (.iconst 0, 1) := by decide +kernel
theorem dX7_rests_27 : decode cX7_rests 27 = .ok (.istore_n 2, 1) := by decide +kernel
theorem dX7_rests_28 : decode cX7_rests 28 = .ok (.iconst 0, 1) := by decide +kernel
theorem dX7_rests_29 : decode cX7_rests 29 = .ok (.istore_n 3, 1) := by decide +kernel
theorem dX7_rests_30 : decode cX7_rests 30 = .ok (.iload_n 3, 1) := by decide +kernel
theorem dX7_rests_31 : decode cX7_rests 31 = .ok (.bipush 6, 2) := by decide +kernel
theorem dX7_rests_33 : decode cX7_rests 33 = .ok (.if_icmp .gt 43, 3) := by decide +kernel
theorem dX7_rests_36 : decode cX7_rests 36 = .ok (.iconst 0, 1) := by decide +kernel
theorem dX7_rests_37 : decode cX7_rests 37 = .ok (.istore 4, 2) := by decide +kernel
theorem dX7_rests_39 : decode cX7_rests 39 = .ok (.iload 4, 2) := by decide +kernel
theorem dX7_rests_41 : decode cX7_rests 41 = .ok (.bipush 6, 2) := by decide +kernel
theorem dX7_rests_43 : decode cX7_rests 43 = .ok (.if_icmp .gt 27, 3) := by decide +kernel
theorem dX7_rests_46 : decode cX7_rests 46 = .ok (.iload_n 2, 1) := by decide +kernel
theorem dX7_rests_47 : decode cX7_rests 47 = .ok (.iload_n 1, 1) := by decide +kernel
theorem dX7_rests_48 : decode cX7_rests 48 = .ok (.iload_n 3, 1) := by decide +kernel
theorem dX7_rests_49 : decode cX7_rests 49 = .ok (.iload 4, 2) := by decide +kernel
theorem dX7_rests_51 : decode cX7_rests 51 = .ok (.invokestatic 250, 3) := by decide +kernel
theorem dX7_rests_54 : decode cX7_rests 54 = .ok (.ifCond .eq 7, 3) := by decide +kernel
theorem dX7_rests_57 : decode cX7_rests 57 = .ok (.iconst 1, 1) := by decide +kernel
theorem dX7_rests_58 : decode cX7_rests 58 = .ok (.goto 4, 3) := by decide +kernel
theorem dX7_rests_61 : decode cX7_rests 61 = .ok (.iconst 0, 1) := by decide +kernel
theorem dX7_rests_62 : decode cX7_rests 62 = .ok (.iadd, 1) := by decide +kernel
theorem dX7_rests_63 : decode cX7_rests 63 = .ok (.istore_n 2, 1) := by decide +kernel
theorem dX7_rests_64 : decode cX7_rests 64 = .ok (.iinc 4 1, 3) := by decide +kernel
theorem dX7_rests_67 : decode cX7_rests 67 = .ok (.goto (-28), 3) := by decide +kernel
theorem dX7_rests_70 : decode cX7_rests 70 = .ok (.iinc 3 1, 3) := by decide +kernel
theorem dX7_rests_73 : decode cX7_rests 73 = .ok (.goto (-43), 3) := by decide +kernel
theorem dX7_rests_76 : decode cX7_rests 76 = .ok (.aload_n 0, 1) := by decide +kernel
theorem dX7_rests_77 : decode cX7_rests 77 = .ok (.iload_n 2, 1) := by decide +kernel
theorem dX7_rests_78 : decode cX7_rests 78 = .ok (.invokevirtual 110, 3) := by decide +kernel
theorem dX7_rests_81 : decode cX7_rests 81 = .ok (.ireturn, 1) := by decide +kernel
theorem dX7_rest_0 : decode cX7_rest 0 = .ok (.aload_n 0, 1) := by decide +kernel
theorem dX7_rest_1 : decode cX7_rest 1 = .ok (.invokevirtual 149, 3) := by decide +kernel
theorem dX7_rest_4 : decode cX7_rest 4 = .ok (.ifCond .ne 9, 3) := by decide +kernel
theorem dX7_rest_7 : decode cX7_rest 7 = .ok (.aload_n 0, 1) := by decide +kernel
theorem dX7_rest_8 : decode cX7_rest 8 = .ok (.iconst 1, 1) := by decide +kernel
theorem dX7_rest_9 : decode cX7_rest 9 = .ok (.invokevirtual 84, 3) := by decide +kernel
theorem dX7_rest_12 : decode cX7_rest 12 = .ok (.ireturn, 1) := by decide +kernel
theorem dX7_rest_13 : decode cX7_rest 13 = .ok (.iload_n 1, 1) := by decide +kernel
theorem dX7_rest_14 : decode cX7_rest 14 = .ok (.invokestatic 240, 3) := by decide +kernel
theorem dX7_rest_17 : decode cX7_rest 17 = .ok (.ifCond .ne 9, 3) := by decide +kernel
theorem dX7_rest_20 : decode cX7_rest 20 = .ok (.aload_n 0, 1) := by decide +kernel
theorem dX7_rest_21 : decode cX7_rest 21 = .ok (.iconst 2, 1) := by decide +kernel
theorem dX7_rest_22 : decode cX7_rest 22 = .ok (.invokevirtual 84, 3) := by decide +kernel
theorem dX7_rest_25 : decode cX7_rest 25 = .ok (.ireturn, 1) := by decide +kernel
theorem dX7_rest_26 : decode cX7_rest 26 = .ok (.iconst 0, 1) := by decide +kernel
theorem dX7_rest_27 : decode cX7_rest 27 = .ok (.istore_n 2, 1) := by decide +kernel
theorem dX7_rest_28 : decode cX7_rest 28 = .ok (.iload_n 2, 1) := by decide +kernel
theorem dX7_rest_29 : decode cX7_rest 29 = .ok (.bipush 6, 2) := by decide +kernel
theorem dX7_rest_31 : decode cX7_rest 31 = .ok (.if_icmp .gt 43, 3) := by decide +kernel
theorem dX7_rest_34 : decode cX7_rest 34 = .ok (.iconst 0, 1) := by decide +kernel
theorem dX7_rest_35 : decode cX7_rest 35 = .ok (.istore_n 3, 1) := by decide +kernel
theorem dX7_rest_36 : decode cX7_rest 36 = .ok (.iload_n 3, 1) := by decide +kernel
theorem dX7_rest_37 : decode cX7_rest 37 = .ok (.bipush 6, 2) := by decide +kernel
theorem dX7_rest_39 : decode cX7_rest 39 = .ok (.if_icmp .gt 29, 3) := by decide +kernel
theorem dX7_rest_42 : decode cX7_rest 42 = .ok (.iload_n 1, 1) := by decide +kernel
theorem dX7_rest_43 : decode cX7_rest 43 = .ok (.iload_n 2, 1) := by decide +kernel
theorem dX7_rest_44 : decode cX7_rest 44 = .ok (.iload_n 3, 1) := by decide +kernel
theorem dX7_rest_45 : decode cX7_rest 45 = .ok (.invokestatic 250, 3) := by decide +kernel
theorem dX7_rest_48 : decode cX7_rest 48 = .ok (.ifCond .eq 14, 3) := by decide +kernel
theorem dX7_rest_51 : decode cX7_rest 51 = .ok (.aload_n 0, 1) := by decide +kernel
theorem dX7_rest_52 : decode cX7_rest 52 = .ok (.bipush 10, 2) := by decide +kernel
theorem dX7_rest_54 : decode cX7_rest 54 = .ok (.iload_n 2, 1) := by decide +kernel
theorem dX7_rest_55 : decode cX7_rest 55 = .ok (.imul, 1) := by decide +kernel
theorem dX7_rest_56 : decode cX7_rest 56 = .ok (.iload_n 3, 1) := by decide +kernel
theorem dX7_rest_57 : decode cX7_rest 57 = .ok (.iadd, 1) := by decide +kernel
theorem dX7_rest_58 : decode cX7_rest 58 = .ok (.invokevirtual 110, 3) := by decide +kernel
theorem dX7_rest_61 : decode cX7_rest 61 = .ok (.ireturn, 1) := by decide +kernel
theorem dX7_rest_62 : decode cX7_rest 62 = .ok (.iinc 3 1, 3) := by decide +kernel
theorem dX7_rest_65 : decode cX7_rest 65 = .ok (.goto (-29), 3) := by decide +kernel
theorem dX7_rest_68 : decode cX7_rest 68 = .ok (.iinc 2 1, 3) := by decide +kernel
theorem dX7_rest_71 : decode cX7_rest 71 = .ok (.goto (-43), 3) := by decide +kernel
theorem dX7_rest_74 : decode cX7_rest 74 = .ok (.aload_n 0, 1) := by decide +kernel
theorem dX7_rest_75 : decode cX7_rest 75 = .ok (.bipush (-2), 2) := by decide +kernel
theorem dX7_rest_77 : decode cX7_rest 77 = .ok (.invokevirtual 110, 3) := by decide +kernel
theorem dX7_rest_80 : decode cX7_rest 80 = .ok (.ireturn, 1) := by decide +kernel
theorem dX7_most_0 : decode cX7_most 0 = .ok (.aload_n 0, 1) := by decide +kernel
theorem dX7_most_1 : decode cX7_most 1 = .ok (.iload_n 1, 1) := by decide +kernel
theorem dX7_most_2 : decode cX7_most 2 = .ok (.invokevirtual 132, 3) := by decide +kernel
theorem dX7_most_5 : decode cX7_most 5 = .ok (.ifCond .ne 9, 3) := by decide +kernel
theorem dX7_most_8 : decode cX7_most 8 = .ok (.aload_n 0, 1) := by decide +kernel
theorem dX7_most_9 : decode cX7_most 9 = .ok (.iconst 1, 1) := by decide +kernel
theorem dX7_most_10 : decode cX7_most 10 = .ok (.invokevirtual 84, 3) := by decide +kernel
theorem dX7_most_13 : decode cX7_most 13 = .ok (.ireturn, 1) := by decide +kernel
theorem dX7_most_14 : decode cX7_most 14 = .ok (.iconst 0, 1) := by decide +kernel
theorem dX7_most_15 : decode cX7_most 15 = .ok (.istore_n 2, 1) := by decide +kernel
theorem dX7_most_16 : decode cX7_most 16 = .ok (.iconst (-1), 1) := by decide +kernel
theorem dX7_most_17 : decode cX7_most 17 = .ok (.istore_n 3, 1) := by decide +kernel
theorem dX7_most_18 : decode cX7_most 18 = .ok (.iconst 0, 1) := by decide +kernel
theorem dX7_most_19 : decode cX7_most 19 = .ok (.istore 4, 2) := by decide +kernel
theorem dX7_most_21 : decode cX7_most 21 = .ok (.iload 4, 2) := by decide +kernel
theorem dX7_most_23 : decode cX7_most 23 = .ok (.aload_n 0, 1) := by decide +kernel
theorem dX7_most_24 : decode cX7_most 24 = .ok (.getfield 10, 3) := by decide +kernel
theorem dX7_most_27 : decode cX7_most 27 = .ok (.getfield 107, 3) := by decide +kernel
theorem dX7_most_30 : decode cX7_most 30 = .ok (.if_icmp .ge 30, 3) := by decide +kernel
theorem dX7_most_33 : decode cX7_most 33 = .ok (.aload_n 0, 1) := by decide +kernel
theorem dX7_most_34 : decode cX7_most 34 = .ok (.iload 4, 2) := by decide +kernel
theorem dX7_most_36 : decode cX7_most 36 = .ok (.iload_n 1, 1) := by decide +kernel
theorem dX7_most_37 : decode cX7_most 37 = .ok (.invokevirtual 254, 3) := by decide +kernel
theorem dX7_most_40 : decode cX7_most 40 = .ok (.istore 5, 2) := by decide +kernel
theorem dX7_most_42 : decode cX7_most 42 = .ok (.iload 5, 2) := by decide +kernel
theorem dX7_most_44 : decode cX7_most 44 = .ok (.iload_n 3, 1) := by decide +kernel
theorem dX7_most_45 : decode cX7_most 45 = .ok (.if_icmp .le 9, 3) := by decide +kernel
theorem dX7_most_48 : decode cX7_most 48 = .ok (.iload 5, 2) := by decide +kernel
theorem dX7_most_50 : decode cX7_most 50 = .ok (.istore_n 3, 1) := by decide +kernel
theorem dX7_most_51 : decode cX7_most 51 = .ok (.iload 4, 2) := by decide +kernel
theorem dX7_most_53 : decode cX7_most 53 = .ok (.istore_n 2, 1) := by decide +kernel
theorem dX7_most_54 : decode cX7_most 54 = .ok (.iinc 4 1, 3) := by decide +kernel
theorem dX7_most_57 : decode cX7_most 57 = .ok (.goto (-36), 3) := by decide +kernel
theorem dX7_most_60 : decode cX7_most 60 = .ok (.aload_n 0, 1) := by decide +kernel
theorem dX7_most_61 : decode cX7_most 61 = .ok (.iload_n 2, 1) := by decide +kernel
theorem dX7_most_62 : decode cX7_most 62 = .ok (.invokevirtual 110, 3) := by decide +kernel
theorem dX7_most_65 : decode cX7_most 65 = .ok (.ireturn, 1) := by decide +kernel
theorem dX7_mostLands_0 : decode cX7_mostLands 0 = .ok (.aload_n 0, 1) := by decide +kernel
theorem dX7_mostLands_1 : decode cX7_mostLands 1 = .ok (.iload_n 1, 1) := by decide +kernel
theorem dX7_mostLands_2 : decode cX7_mostLands 2 = .ok (.invokevirtual 132, 3) := by decide +kernel
theorem dX7_mostLands_5 : decode cX7_mostLands 5 = .ok (.ifCond .ne 9, 3) := by decide +kernel
theorem dX7_mostLands_8 : decode cX7_mostLands 8 = .ok (.aload_n 0, 1) := by decide +kernel
theorem dX7_mostLands_9 : decode cX7_mostLands 9 = .ok (.iconst 1, 1) := by decide +kernel
theorem dX7_mostLands_10 : decode cX7_mostLands 10 = .ok (.invokevirtual 84, 3) := by decide +kernel
theorem dX7_mostLands_13 : decode cX7_mostLands 13 = .ok (.ireturn, 1) := by decide +kernel
theorem dX7_mostLands_14 : decode cX7_mostLands 14 = .ok (.iconst 0, 1) := by decide +kernel
theorem dX7_mostLands_15 : decode cX7_mostLands 15 = .ok (.istore_n 2, 1) := by decide +kernel
theorem dX7_mostLands_16 : decode cX7_mostLands 16 = .ok (.iconst 0, 1) := by decide +kernel
theorem dX7_mostLands_17 : decode cX7_mostLands 17 = .ok (.istore_n 3, 1) := by decide +kernel
theorem dX7_mostLands_18 : decode cX7_mostLands 18 = .ok (.iload_n 3, 1) := by decide +kernel
theorem dX7_mostLands_19 : decode cX7_mostLands 19 = .ok (.aload_n 0, 1) := by decide +kernel
theorem dX7_mostLands_20 : decode cX7_mostLands 20 = .ok (.getfield 10, 3) := by decide +kernel
theorem dX7_mostLands_23 : decode cX7_mostLands 23 = .ok (.getfield 107, 3) := by decide +kernel
theorem dX7_mostLands_26 : decode cX7_mostLands 26 = .ok (.if_icmp .ge 20, 3) := by decide +kernel
theorem dX7_mostLands_29 : decode cX7_mostLands 29 = .ok (.iload_n 2, 1) := by decide +kernel
theorem dX7_mostLands_30 : decode cX7_mostLands 30 = .ok (.aload_n 0, 1) := by decide +kernel
theorem dX7_mostLands_31 : decode cX7_mostLands 31 = .ok (.iload_n 3, 1) := by decide +kernel
theorem dX7_mostLands_32 : decode cX7_mostLands 32 = .ok (.iload_n 1, 1) := by decide +kernel
theorem dX7_mostLands_33 : decode cX7_mostLands 33 = .ok (.invokevirtual 254, 3) := by decide +kernel
theorem dX7_mostLands_36 : decode cX7_mostLands 36 = .ok (.invokestatic 190, 3) := by decide +kernel
theorem dX7_mostLands_39 : decode cX7_mostLands 39 = .ok (.istore_n 2, 1) := by decide +kernel
theorem dX7_mostLands_40 : decode cX7_mostLands 40 = .ok (.iinc 3 1, 3) := by decide +kernel
theorem dX7_mostLands_43 : decode cX7_mostLands 43 = .ok (.goto (-25), 3) := by decide +kernel
theorem dX7_mostLands_46 : decode cX7_mostLands 46 = .ok (.aload_n 0, 1) := by decide +kernel
theorem dX7_mostLands_47 : decode cX7_mostLands 47 = .ok (.iload_n 2, 1) := by decide +kernel
theorem dX7_mostLands_48 : decode cX7_mostLands 48 = .ok (.invokevirtual 110, 3) := by decide +kernel
theorem dX7_mostLands_51 : decode cX7_mostLands 51 = .ok (.ireturn, 1) := by decide +kernel
theorem dX7_century_0 : decode cX7_century 0 = .ok (.aload_n 0, 1) := by decide +kernel
theorem dX7_century_1 : decode cX7_century 1 = .ok (.iload_n 1, 1) := by decide +kernel
theorem dX7_century_2 : decode cX7_century 2 = .ok (.invokevirtual 132, 3) := by decide +kernel
theorem dX7_century_5 : decode cX7_century 5 = .ok (.ifCond .ne 9, 3) := by decide +kernel
theorem dX7_century_8 : decode cX7_century 8 = .ok (.aload_n 0, 1) := by decide +kernel
theorem dX7_century_9 : decode cX7_century 9 = .ok (.iconst 1, 1) := by decide +kernel
theorem dX7_century_10 : decode cX7_century 10 = .ok (.invokevirtual 84, 3) := by decide +kernel
theorem dX7_century_13 : decode cX7_century 13 = .ok (.ireturn, 1) := by decide +kernel
theorem dX7_century_14 : decode cX7_century 14 = .ok (.iload_n 2, 1) := by decide +kernel
theorem dX7_century_15 : decode cX7_century 15 = .ok (.invokestatic 257, 3) := by decide +kernel
theorem dX7_century_18 : decode cX7_century 18 = .ok (.ifCond .eq 10, 3) := by decide +kernel
theorem dX7_century_21 : decode cX7_century 21 = .ok (.iload_n 3, 1) := by decide +kernel
theorem dX7_century_22 : decode cX7_century 22 = .ok (.invokestatic 260, 3) := by decide +kernel
theorem dX7_century_25 : decode cX7_century 25 = .ok (.ifCond .ne 9, 3) := by decide +kernel
theorem dX7_century_28 : decode cX7_century 28 = .ok (.aload_n 0, 1) := by decide +kernel
theorem dX7_century_29 : decode cX7_century 29 = .ok (.iconst 2, 1) := by decide +kernel
theorem dX7_century_30 : decode cX7_century 30 = .ok (.invokevirtual 84, 3) := by decide +kernel
theorem dX7_century_33 : decode cX7_century 33 = .ok (.ireturn, 1) := by decide +kernel
theorem dX7_century_34 : decode cX7_century 34 = .ok (.aload_n 0, 1) := by decide +kernel
theorem dX7_century_35 : decode cX7_century 35 = .ok (.iload_n 2, 1) := by decide +kernel
theorem dX7_century_36 : decode cX7_century 36 = .ok (.iload_n 3, 1) := by decide +kernel
theorem dX7_century_37 : decode cX7_century 37 = .ok (.invokevirtual 263, 3) := by decide +kernel
theorem dX7_century_40 : decode cX7_century 40 = .ok (.aload_n 0, 1) := by decide +kernel
theorem dX7_century_41 : decode cX7_century 41 = .ok (.aload_n 0, 1) := by decide +kernel
theorem dX7_century_42 : decode cX7_century 42 = .ok (.getfield 40, 3) := by decide +kernel
theorem dX7_century_45 : decode cX7_century 45 = .ok (.aload_n 0, 1) := by decide +kernel
theorem dX7_century_46 : decode cX7_century 46 = .ok (.getfield 10, 3) := by decide +kernel
theorem dX7_century_49 : decode cX7_century 49 = .ok (.iload_n 1, 1) := by decide +kernel
theorem dX7_century_50 : decode cX7_century 50 = .ok (.invokevirtual 142, 3) := by decide +kernel
theorem dX7_century_53 : decode cX7_century 53 = .ok (.invokevirtual 110, 3) := by decide +kernel
theorem dX7_century_56 : decode cX7_century 56 = .ok (.ireturn, 1) := by decide +kernel
theorem dX7_untitled_0 : decode cX7_untitled 0 = .ok (.aload_n 0, 1) := by decide +kernel
theorem dX7_untitled_1 : decode cX7_untitled 1 = .ok (.invokevirtual 149, 3) := by decide +kernel
theorem dX7_untitled_4 : decode cX7_untitled 4 = .ok (.ifCond .ne 9, 3) := by decide +kernel
theorem dX7_untitled_7 : decode cX7_untitled 7 = .ok (.aload_n 0, 1) := by decide +kernel
theorem dX7_untitled_8 : decode cX7_untitled 8 = .ok (.iconst 1, 1) := by decide +kernel
theorem dX7_untitled_9 : decode cX7_untitled 9 = .ok (.invokevirtual 84, 3) := by decide +kernel
theorem dX7_untitled_12 : decode cX7_untitled 12 = .ok (.ireturn, 1) := by decide +kernel
theorem dX7_untitled_13 : decode cX7_untitled 13 = .ok (.iload_n 1, 1) := by decide +kernel
theorem dX7_untitled_14 : decode cX7_untitled 14 = .ok (.invokestatic 257, 3) := by decide +kernel
theorem dX7_untitled_17 : decode cX7_untitled 17 = .ok (.ifCond .eq 10, 3) := by decide +kernel
theorem dX7_untitled_20 : decode cX7_untitled 20 = .ok (.iload_n 2, 1) := by decide +kernel
theorem dX7_untitled_21 : decode cX7_untitled 21 = .ok (.invokestatic 260, 3) := by decide +kernel
theorem dX7_untitled_24 : decode cX7_untitled 24 = .ok (.ifCond .ne 9, 3) := by decide +kernel
theorem dX7_untitled_27 : decode cX7_untitled 27 = .ok (.aload_n 0, 1) := by decide +kernel
theorem dX7_untitled_28 : decode cX7_untitled 28 = .ok (.iconst 2, 1) := by decide +kernel
theorem dX7_untitled_29 : decode cX7_untitled 29 = .ok (.invokevirtual 84, 3) := by decide +kernel
theorem dX7_untitled_32 : decode cX7_untitled 32 = .ok (.ireturn, 1) := by decide +kernel
theorem dX7_untitled_33 : decode cX7_untitled 33 = .ok (.aload_n 0, 1) := by decide +kernel
theorem dX7_untitled_34 : decode cX7_untitled 34 = .ok (.iload_n 1, 1) := by decide +kernel
theorem dX7_untitled_35 : decode cX7_untitled 35 = .ok (.iload_n 2, 1) := by decide +kernel
theorem dX7_untitled_36 : decode cX7_untitled 36 = .ok (.invokevirtual 263, 3) := by decide +kernel
theorem dX7_untitled_39 : decode cX7_untitled 39 = .ok (.iconst 0, 1) := by decide +kernel
theorem dX7_untitled_40 : decode cX7_untitled 40 = .ok (.istore_n 3, 1) := by decide +kernel
theorem dX7_untitled_41 : decode cX7_untitled 41 = .ok (.iconst 0, 1) := by decide +kernel
theorem dX7_untitled_42 : decode cX7_untitled 42 = .ok (.istore 4, 2) := by decide +kernel
theorem dX7_untitled_44 : decode cX7_untitled 44 = .ok (.iload 4, 2) := by decide +kernel
theorem dX7_untitled_46 : decode cX7_untitled 46 = .ok (.aload_n 0, 1) := by decide +kernel
theorem dX7_untitled_47 : decode cX7_untitled 47 = .ok (.getfield 10, 3) := by decide +kernel
theorem dX7_untitled_50 : decode cX7_untitled 50 = .ok (.getfield 107, 3) := by decide +kernel
theorem dX7_untitled_53 : decode cX7_untitled 53 = .ok (.if_icmp .ge 32, 3) := by decide +kernel
theorem dX7_untitled_56 : decode cX7_untitled 56 = .ok (.iload_n 3, 1) := by decide +kernel
theorem dX7_untitled_57 : decode cX7_untitled 57 = .ok (.aload_n 0, 1) := by decide +kernel
theorem dX7_untitled_58 : decode cX7_untitled 58 = .ok (.getfield 40, 3) := by decide +kernel
theorem dX7_untitled_61 : decode cX7_untitled 61 = .ok (.getfield 129, 3) := by decide +kernel
theorem dX7_untitled_64 : decode cX7_untitled 64 = .ok (.iload 4, 2) := by decide +kernel
theorem dX7_untitled_66 : decode cX7_untitled 66 = .ok (.iaload, 1) := by decide +kernel
theorem dX7_untitled_67 : decode cX7_untitled 67 = .ok (.bipush (-2), 2) := by decide +kernel
theorem dX7_untitled_69 : decode cX7_untitled 69 = .ok (.if_icmp .ne 7, 3) := by decide +kernel
theorem dX7_untitled_72 : decode cX7_untitled 72 = .ok (.iconst 1, 1) := by decide +kernel
theorem dX7_untitled_73 : decode cX7_untitled 73 = .ok (.goto 4, 3) := by decide +kernel
theorem dX7_untitled_76 : decode cX7_untitled 76 = .ok (.iconst 0, 1) := by decide +kernel
theorem dX7_untitled_77 : decode cX7_untitled 77 = .ok (.iadd, 1) := by decide +kernel
theorem dX7_untitled_78 : decode cX7_untitled 78 = .ok (.istore_n 3, 1) := by decide +kernel
theorem dX7_untitled_79 : decode cX7_untitled 79 = .ok (.iinc 4 1, 3) := by decide +kernel
theorem dX7_untitled_82 : decode cX7_untitled 82 = .ok (.goto (-38), 3) := by decide +kernel
theorem dX7_untitled_85 : decode cX7_untitled 85 = .ok (.aload_n 0, 1) := by decide +kernel
theorem dX7_untitled_86 : decode cX7_untitled 86 = .ok (.iload_n 3, 1) := by decide +kernel
theorem dX7_untitled_87 : decode cX7_untitled 87 = .ok (.invokevirtual 110, 3) := by decide +kernel
theorem dX7_untitled_90 : decode cX7_untitled 90 = .ok (.ireturn, 1) := by decide +kernel
theorem dX7_lend_0 : decode cX7_lend 0 = .ok (.aload_n 0, 1) := by decide +kernel
theorem dX7_lend_1 : decode cX7_lend 1 = .ok (.iload_n 1, 1) := by decide +kernel
theorem dX7_lend_2 : decode cX7_lend 2 = .ok (.invokevirtual 113, 3) := by decide +kernel
theorem dX7_lend_5 : decode cX7_lend 5 = .ok (.ifCond .eq 11, 3) := by decide +kernel
theorem dX7_lend_8 : decode cX7_lend 8 = .ok (.aload_n 0, 1) := by decide +kernel
theorem dX7_lend_9 : decode cX7_lend 9 = .ok (.iload_n 2, 1) := by decide +kernel
theorem dX7_lend_10 : decode cX7_lend 10 = .ok (.invokevirtual 132, 3) := by decide +kernel
theorem dX7_lend_13 : decode cX7_lend 13 = .ok (.ifCond .ne 9, 3) := by decide +kernel
theorem dX7_lend_16 : decode cX7_lend 16 = .ok (.aload_n 0, 1) := by decide +kernel
theorem dX7_lend_17 : decode cX7_lend 17 = .ok (.iconst 1, 1) := by decide +kernel
theorem dX7_lend_18 : decode cX7_lend 18 = .ok (.invokevirtual 267, 3) := by decide +kernel
theorem dX7_lend_21 : decode cX7_lend 21 = .ok (.ireturn, 1) := by decide +kernel
theorem dX7_lend_22 : decode cX7_lend 22 = .ok (.aload_n 0, 1) := by decide +kernel
theorem dX7_lend_23 : decode cX7_lend 23 = .ok (.getfield 36, 3) := by decide +kernel
theorem dX7_lend_26 : decode cX7_lend 26 = .ok (.getfield 126, 3) := by decide +kernel
theorem dX7_lend_29 : decode cX7_lend 29 = .ok (.iload_n 1, 1) := by decide +kernel
theorem dX7_lend_30 : decode cX7_lend 30 = .ok (.iaload, 1) := by decide +kernel
theorem dX7_lend_31 : decode cX7_lend 31 = .ok (.iload_n 2, 1) := by decide +kernel
theorem dX7_lend_32 : decode cX7_lend 32 = .ok (.if_icmp .ne 9, 3) := by decide +kernel
theorem dX7_lend_35 : decode cX7_lend 35 = .ok (.aload_n 0, 1) := by decide +kernel
theorem dX7_lend_36 : decode cX7_lend 36 = .ok (.iconst 5, 1) := by decide +kernel
theorem dX7_lend_37 : decode cX7_lend 37 = .ok (.invokevirtual 267, 3) := by decide +kernel
theorem dX7_lend_40 : decode cX7_lend 40 = .ok (.ireturn, 1) := by decide +kernel
theorem dX7_lend_41 : decode cX7_lend 41 = .ok (.aload_n 0, 1) := by decide +kernel
theorem dX7_lend_42 : decode cX7_lend 42 = .ok (.invokevirtual 270, 3) := by decide +kernel
theorem dX7_lend_45 : decode cX7_lend 45 = .ok (.aload_n 0, 1) := by decide +kernel
theorem dX7_lend_46 : decode cX7_lend 46 = .ok (.getfield 36, 3) := by decide +kernel
theorem dX7_lend_49 : decode cX7_lend 49 = .ok (.getfield 126, 3) := by decide +kernel
theorem dX7_lend_52 : decode cX7_lend 52 = .ok (.iload_n 1, 1) := by decide +kernel
theorem dX7_lend_53 : decode cX7_lend 53 = .ok (.iload_n 2, 1) := by decide +kernel
theorem dX7_lend_54 : decode cX7_lend 54 = .ok (.iastore, 1) := by decide +kernel
theorem dX7_lend_55 : decode cX7_lend 55 = .ok (.aload_n 0, 1) := by decide +kernel
theorem dX7_lend_56 : decode cX7_lend 56 = .ok (.invokevirtual 273, 3) := by decide +kernel
theorem dX7_lend_59 : decode cX7_lend 59 = .ok (.ireturn, 1) := by decide +kernel
theorem dX7_leave_0 : decode cX7_leave 0 = .ok (.aload_n 0, 1) := by decide +kernel
theorem dX7_leave_1 : decode cX7_leave 1 = .ok (.iload_n 1, 1) := by decide +kernel
theorem dX7_leave_2 : decode cX7_leave 2 = .ok (.invokevirtual 113, 3) := by decide +kernel
theorem dX7_leave_5 : decode cX7_leave 5 = .ok (.ifCond .ne 9, 3) := by decide +kernel
theorem dX7_leave_8 : decode cX7_leave 8 = .ok (.aload_n 0, 1) := by decide +kernel
theorem dX7_leave_9 : decode cX7_leave 9 = .ok (.iconst 1, 1) := by decide +kernel
theorem dX7_leave_10 : decode cX7_leave 10 = .ok (.invokevirtual 267, 3) := by decide +kernel
theorem dX7_leave_13 : decode cX7_leave 13 = .ok (.ireturn, 1) := by decide +kernel
theorem dX7_leave_14 : decode cX7_leave 14 = .ok (.aload_n 0, 1) := by decide +kernel
theorem dX7_leave_15 : decode cX7_leave 15 = .ok (.getfield 36, 3) := by decide +kernel
theorem dX7_leave_18 : decode cX7_leave 18 = .ok (.getfield 126, 3) := by decide +kernel
theorem dX7_leave_21 : decode cX7_leave 21 = .ok (.iload_n 1, 1) := by decide +kernel
theorem dX7_leave_22 : decode cX7_leave 22 = .ok (.iaload, 1) := by decide +kernel
theorem dX7_leave_23 : decode cX7_leave 23 = .ok (.bipush (-2), 2) := by decide +kernel
theorem dX7_leave_25 : decode cX7_leave 25 = .ok (.if_icmp .ne 9, 3) := by decide +kernel
theorem dX7_leave_28 : decode cX7_leave 28 = .ok (.aload_n 0, 1) := by decide +kernel
theorem dX7_leave_29 : decode cX7_leave 29 = .ok (.iconst 5, 1) := by decide +kernel
theorem dX7_leave_30 : decode cX7_leave 30 = .ok (.invokevirtual 267, 3) := by decide +kernel
theorem dX7_leave_33 : decode cX7_leave 33 = .ok (.ireturn, 1) := by decide +kernel
theorem dX7_leave_34 : decode cX7_leave 34 = .ok (.aload_n 0, 1) := by decide +kernel
theorem dX7_leave_35 : decode cX7_leave 35 = .ok (.invokevirtual 270, 3) := by decide +kernel
theorem dX7_leave_38 : decode cX7_leave 38 = .ok (.aload_n 0, 1) := by decide +kernel
theorem dX7_leave_39 : decode cX7_leave 39 = .ok (.getfield 36, 3) := by decide +kernel
theorem dX7_leave_42 : decode cX7_leave 42 = .ok (.getfield 126, 3) := by decide +kernel
theorem dX7_leave_45 : decode cX7_leave 45 = .ok (.iload_n 1, 1) := by decide +kernel
theorem dX7_leave_46 : decode cX7_leave 46 = .ok (.bipush (-2), 2) := by decide +kernel
theorem dX7_leave_48 : decode cX7_leave 48 = .ok (.iastore, 1) := by decide +kernel
theorem dX7_leave_49 : decode cX7_leave 49 = .ok (.aload_n 0, 1) := by decide +kernel
theorem dX7_leave_50 : decode cX7_leave 50 = .ok (.invokevirtual 273, 3) := by decide +kernel
theorem dX7_leave_53 : decode cX7_leave 53 = .ok (.ireturn, 1) := by decide +kernel
theorem dX7_exchange_0 : decode cX7_exchange 0 = .ok (.aload_n 0, 1) := by decide +kernel
theorem dX7_exchange_1 : decode cX7_exchange 1 = .ok (.iload_n 1, 1) := by decide +kernel
theorem dX7_exchange_2 : decode cX7_exchange 2 = .ok (.invokevirtual 113, 3) := by decide +kernel
theorem dX7_exchange_5 : decode cX7_exchange 5 = .ok (.ifCond .eq 16, 3) := by decide +kernel
theorem dX7_exchange_8 : decode cX7_exchange 8 = .ok (.aload_n 0, 1) := by decide +kernel
theorem dX7_exchange_9 : decode cX7_exchange 9 = .ok (.iload_n 2, 1) := by decide +kernel
theorem dX7_exchange_10 : decode cX7_exchange 10 = .ok (.invokevirtual 113, 3) := by decide +kernel
theorem dX7_exchange_13 : decode cX7_exchange 13 = .ok (.ifCond .eq 8, 3) := by decide +kernel
theorem dX7_exchange_16 : decode cX7_exchange 16 = .ok (.iload_n 1, 1) := by decide +kernel
theorem dX7_exchange_17 : decode cX7_exchange 17 = .ok (.iload_n 2, 1) := by decide +kernel
theorem dX7_exchange_18 : decode cX7_exchange 18 = .ok (.if_icmp .ne 9, 3) := by decide +kernel
theorem dX7_exchange_21 : decode cX7_exchange 21 = .ok (.aload_n 0, 1) := by decide +kernel
theorem dX7_exchange_22 : decode cX7_exchange 22 = .ok (.iconst 1, 1) := by decide +kernel
theorem dX7_exchange_23 : decode cX7_exchange 23 = .ok (.invokevirtual 267, 3) := by decide +kernel
theorem dX7_exchange_26 : decode cX7_exchange 26 = .ok (.ireturn, 1) := by decide +kernel
theorem dX7_exchange_27 : decode cX7_exchange 27 = .ok (.aload_n 0, 1) := by decide +kernel
theorem dX7_exchange_28 : decode cX7_exchange 28 = .ok (.getfield 36, 3) := by decide +kernel
theorem dX7_exchange_31 : decode cX7_exchange 31 = .ok (.getfield 126, 3) := by decide +kernel
theorem dX7_exchange_34 : decode cX7_exchange 34 = .ok (.iload_n 1, 1) := by decide +kernel
theorem dX7_exchange_35 : decode cX7_exchange 35 = .ok (.iaload, 1) := by decide +kernel
theorem dX7_exchange_36 : decode cX7_exchange 36 = .ok (.aload_n 0, 1) := by decide +kernel
theorem dX7_exchange_37 : decode cX7_exchange 37 = .ok (.getfield 36, 3) := by decide +kernel
theorem dX7_exchange_40 : decode cX7_exchange 40 = .ok (.getfield 126, 3) := by decide +kernel
theorem dX7_exchange_43 : decode cX7_exchange 43 = .ok (.iload_n 2, 1) := by decide +kernel
theorem dX7_exchange_44 : decode cX7_exchange 44 = .ok (.iaload, 1) := by decide +kernel
theorem dX7_exchange_45 : decode cX7_exchange 45 = .ok (.if_icmp .ne 9, 3) := by decide +kernel
theorem dX7_exchange_48 : decode cX7_exchange 48 = .ok (.aload_n 0, 1) := by decide +kernel
theorem dX7_exchange_49 : decode cX7_exchange 49 = .ok (.iconst 5, 1) := by decide +kernel
theorem dX7_exchange_50 : decode cX7_exchange 50 = .ok (.invokevirtual 267, 3) := by decide +kernel
theorem dX7_exchange_53 : decode cX7_exchange 53 = .ok (.ireturn, 1) := by decide +kernel
theorem dX7_exchange_54 : decode cX7_exchange 54 = .ok (.aload_n 0, 1) := by decide +kernel
theorem dX7_exchange_55 : decode cX7_exchange 55 = .ok (.invokevirtual 270, 3) := by decide +kernel
theorem dX7_exchange_58 : decode cX7_exchange 58 = .ok (.aload_n 0, 1) := by decide +kernel
theorem dX7_exchange_59 : decode cX7_exchange 59 = .ok (.getfield 36, 3) := by decide +kernel
theorem dX7_exchange_62 : decode cX7_exchange 62 = .ok (.iload_n 1, 1) := by decide +kernel
theorem dX7_exchange_63 : decode cX7_exchange 63 = .ok (.iload_n 2, 1) := by decide +kernel
theorem dX7_exchange_64 : decode cX7_exchange 64 = .ok (.invokevirtual 276, 3) := by decide +kernel
theorem dX7_exchange_67 : decode cX7_exchange 67 = .ok (.aload_n 0, 1) := by decide +kernel
theorem dX7_exchange_68 : decode cX7_exchange 68 = .ok (.invokevirtual 273, 3) := by decide +kernel
theorem dX7_exchange_71 : decode cX7_exchange 71 = .ok (.ireturn, 1) := by decide +kernel
theorem dX7_day_0 : decode cX7_day 0 = .ok (.aload_n 0, 1) := by decide +kernel
theorem dX7_day_1 : decode cX7_day 1 = .ok (.invokevirtual 149, 3) := by decide +kernel
theorem dX7_day_4 : decode cX7_day 4 = .ok (.ifCond .ne 9, 3) := by decide +kernel
theorem dX7_day_7 : decode cX7_day 7 = .ok (.aload_n 0, 1) := by decide +kernel
theorem dX7_day_8 : decode cX7_day 8 = .ok (.iconst 1, 1) := by decide +kernel
theorem dX7_day_9 : decode cX7_day 9 = .ok (.invokevirtual 84, 3) := by decide +kernel
theorem dX7_day_12 : decode cX7_day 12 = .ok (.ireturn, 1) := by decide +kernel
theorem dX7_day_13 : decode cX7_day 13 = .ok (.aload_n 0, 1) := by decide +kernel
theorem dX7_day_14 : decode cX7_day 14 = .ok (.invokevirtual 270, 3) := by decide +kernel
theorem dX7_day_17 : decode cX7_day 17 = .ok (.aload_n 0, 1) := by decide +kernel
theorem dX7_day_18 : decode cX7_day 18 = .ok (.getfield 40, 3) := by decide +kernel
theorem dX7_day_21 : decode cX7_day 21 = .ok (.aload_n 0, 1) := by decide +kernel
theorem dX7_day_22 : decode cX7_day 22 = .ok (.getfield 36, 3) := by decide +kernel
theorem dX7_day_25 : decode cX7_day 25 = .ok (.invokevirtual 196, 3) := by decide +kernel
theorem dX7_day_28 : decode cX7_day 28 = .ok (.aload_n 0, 1) := by decide +kernel
theorem dX7_day_29 : decode cX7_day 29 = .ok (.getfield 36, 3) := by decide +kernel
theorem dX7_day_32 : decode cX7_day 32 = .ok (.aload_n 0, 1) := by decide +kernel
theorem dX7_day_33 : decode cX7_day 33 = .ok (.getfield 10, 3) := by decide +kernel
theorem dX7_day_36 : decode cX7_day 36 = .ok (.iload_n 1, 1) := by decide +kernel
theorem dX7_day_37 : decode cX7_day 37 = .ok (.invokevirtual 200, 3) := by decide +kernel
theorem dX7_day_40 : decode cX7_day 40 = .ok (.iconst 0, 1) := by decide +kernel
theorem dX7_day_41 : decode cX7_day 41 = .ok (.istore_n 2, 1) := by decide +kernel
theorem dX7_day_42 : decode cX7_day 42 = .ok (.iconst 0, 1) := by decide +kernel
theorem dX7_day_43 : decode cX7_day 43 = .ok (.istore_n 3, 1) := by decide +kernel
theorem dX7_day_44 : decode cX7_day 44 = .ok (.iload_n 3, 1) := by decide +kernel
theorem dX7_day_45 : decode cX7_day 45 = .ok (.aload_n 0, 1) := by decide +kernel
theorem dX7_day_46 : decode cX7_day 46 = .ok (.getfield 10, 3) := by decide +kernel
theorem dX7_day_49 : decode cX7_day 49 = .ok (.getfield 107, 3) := by decide +kernel
theorem dX7_day_52 : decode cX7_day 52 = .ok (.if_icmp .ge 38, 3) := by decide +kernel
theorem dX7_day_55 : decode cX7_day 55 = .ok (.iload_n 2, 1) := by decide +kernel
theorem dX7_day_56 : decode cX7_day 56 = .ok (.aload_n 0, 1) := by decide +kernel
theorem dX7_day_57 : decode cX7_day 57 = .ok (.getfield 36, 3) := by decide +kernel
theorem dX7_day_60 : decode cX7_day 60 = .ok (.getfield 129, 3) := by decide +kernel
theorem dX7_day_63 : decode cX7_day 63 = .ok (.iload_n 3, 1) := by decide +kernel
theorem dX7_day_64 : decode cX7_day 64 = .ok (.iaload, 1) := by decide +kernel
theorem dX7_day_65 : decode cX7_day 65 = .ok (.aload_n 0, 1) := by decide +kernel
theorem dX7_day_66 : decode cX7_day 66 = .ok (.getfield 40, 3) := by decide +kernel
theorem dX7_day_69 : decode cX7_day 69 = .ok (.getfield 129, 3) := by decide +kernel
theorem dX7_day_72 : decode cX7_day 72 = .ok (.iload_n 3, 1) := by decide +kernel
theorem dX7_day_73 : decode cX7_day 73 = .ok (.iaload, 1) := by decide +kernel
theorem dX7_day_74 : decode cX7_day 74 = .ok (.if_icmp .eq 7, 3) := by decide +kernel
theorem dX7_day_77 : decode cX7_day 77 = .ok (.iconst 1, 1) := by decide +kernel
theorem dX7_day_78 : decode cX7_day 78 = .ok (.goto 4, 3) := by decide +kernel
theorem dX7_day_81 : decode cX7_day 81 = .ok (.iconst 0, 1) := by decide +kernel
theorem dX7_day_82 : decode cX7_day 82 = .ok (.iadd, 1) := by decide +kernel
theorem dX7_day_83 : decode cX7_day 83 = .ok (.istore_n 2, 1) := by decide +kernel
theorem dX7_day_84 : decode cX7_day 84 = .ok (.iinc 3 1, 3) := by decide +kernel
theorem dX7_day_87 : decode cX7_day 87 = .ok (.goto (-43), 3) := by decide +kernel
theorem dX7_day_90 : decode cX7_day 90 = .ok (.aload_n 0, 1) := by decide +kernel
theorem dX7_day_91 : decode cX7_day 91 = .ok (.iload_n 2, 1) := by decide +kernel
theorem dX7_day_92 : decode cX7_day 92 = .ok (.invokevirtual 110, 3) := by decide +kernel
theorem dX7_day_95 : decode cX7_day 95 = .ok (.ireturn, 1) := by decide +kernel
theorem dX7_undo_0 : decode cX7_undo 0 = .ok (.aload_n 0, 1) := by decide +kernel
theorem dX7_undo_1 : decode cX7_undo 1 = .ok (.getfield 68, 3) := by decide +kernel
theorem dX7_undo_4 : decode cX7_undo 4 = .ok (.ifCond .gt 10, 3) := by decide +kernel
theorem dX7_undo_7 : decode cX7_undo 7 = .ok (.aload_n 0, 1) := by decide +kernel
theorem dX7_undo_8 : decode cX7_undo 8 = .ok (.bipush 6, 2) := by decide +kernel
theorem dX7_undo_10 : decode cX7_undo 10 = .ok (.invokevirtual 267, 3) := by decide +kernel
theorem dX7_undo_13 : decode cX7_undo 13 = .ok (.ireturn, 1) := by decide +kernel
theorem dX7_undo_14 : decode cX7_undo 14 = .ok (.aload_n 0, 1) := by decide +kernel
theorem dX7_undo_15 : decode cX7_undo 15 = .ok (.dup, 1) := by decide +kernel
theorem dX7_undo_16 : decode cX7_undo 16 = .ok (.getfield 68, 3) := by decide +kernel
theorem dX7_undo_19 : decode cX7_undo 19 = .ok (.iconst 1, 1) := by decide +kernel
theorem dX7_undo_20 : decode cX7_undo 20 = .ok (.isub, 1) := by decide +kernel
theorem dX7_undo_21 : decode cX7_undo 21 = .ok (.putfield 68, 3) := by decide +kernel
theorem dX7_undo_24 : decode cX7_undo 24 = .ok (.aload_n 0, 1) := by decide +kernel
theorem dX7_undo_25 : decode cX7_undo 25 = .ok (.getfield 36, 3) := by decide +kernel
theorem dX7_undo_28 : decode cX7_undo 28 = .ok (.aload_n 0, 1) := by decide +kernel
theorem dX7_undo_29 : decode cX7_undo 29 = .ok (.getfield 64, 3) := by decide +kernel
theorem dX7_undo_32 : decode cX7_undo 32 = .ok (.aload_n 0, 1) := by decide +kernel
theorem dX7_undo_33 : decode cX7_undo 33 = .ok (.getfield 68, 3) := by decide +kernel
theorem dX7_undo_36 : decode cX7_undo 36 = .ok (.laload, 1) := by decide +kernel
theorem dX7_undo_37 : decode cX7_undo 37 = .ok (.invokevirtual 279, 3) := by decide +kernel
theorem dX7_undo_40 : decode cX7_undo 40 = .ok (.aload_n 0, 1) := by decide +kernel
theorem dX7_undo_41 : decode cX7_undo 41 = .ok (.invokevirtual 273, 3) := by decide +kernel
theorem dX7_undo_44 : decode cX7_undo 44 = .ok (.ireturn, 1) := by decide +kernel
theorem dX7_mark_0 : decode cX7_mark 0 = .ok (.aload_n 0, 1) := by decide +kernel
theorem dX7_mark_1 : decode cX7_mark 1 = .ok (.invokevirtual 149, 3) := by decide +kernel
theorem dX7_mark_4 : decode cX7_mark 4 = .ok (.ifCond .ne 9, 3) := by decide +kernel
theorem dX7_mark_7 : decode cX7_mark 7 = .ok (.aload_n 0, 1) := by decide +kernel
theorem dX7_mark_8 : decode cX7_mark 8 = .ok (.iconst 1, 1) := by decide +kernel
theorem dX7_mark_9 : decode cX7_mark 9 = .ok (.invokevirtual 84, 3) := by decide +kernel
theorem dX7_mark_12 : decode cX7_mark 12 = .ok (.ireturn, 1) := by decide +kernel
theorem dX7_mark_13 : decode cX7_mark 13 = .ok (.aload_n 0, 1) := by decide +kernel
theorem dX7_mark_14 : decode cX7_mark 14 = .ok (.getfield 74, 3) := by decide +kernel
theorem dX7_mark_17 : decode cX7_mark 17 = .ok (.iconst 3, 1) := by decide +kernel
theorem dX7_mark_18 : decode cX7_mark 18 = .ok (.if_icmp .lt 9, 3) := by decide +kernel
theorem dX7_mark_21 : decode cX7_mark 21 = .ok (.aload_n 0, 1) := by decide +kernel
theorem dX7_mark_22 : decode cX7_mark 22 = .ok (.iconst 3, 1) := by decide +kernel
theorem dX7_mark_23 : decode cX7_mark 23 = .ok (.invokevirtual 84, 3) := by decide +kernel
theorem dX7_mark_26 : decode cX7_mark 26 = .ok (.ireturn, 1) := by decide +kernel
theorem dX7_mark_27 : decode cX7_mark 27 = .ok (.aload_n 0, 1) := by decide +kernel
theorem dX7_mark_28 : decode cX7_mark 28 = .ok (.getfield 71, 3) := by decide +kernel
theorem dX7_mark_31 : decode cX7_mark 31 = .ok (.aload_n 0, 1) := by decide +kernel
theorem dX7_mark_32 : decode cX7_mark 32 = .ok (.getfield 74, 3) := by decide +kernel
theorem dX7_mark_35 : decode cX7_mark 35 = .ok (.aload_n 0, 1) := by decide +kernel
theorem dX7_mark_36 : decode cX7_mark 36 = .ok (.getfield 36, 3) := by decide +kernel
theorem dX7_mark_39 : decode cX7_mark 39 = .ok (.invokevirtual 283, 3) := by decide +kernel
theorem dX7_mark_42 : decode cX7_mark 42 = .ok (.lastore, 1) := by decide +kernel
theorem dX7_mark_43 : decode cX7_mark 43 = .ok (.aload_n 0, 1) := by decide +kernel
theorem dX7_mark_44 : decode cX7_mark 44 = .ok (.dup, 1) := by decide +kernel
theorem dX7_mark_45 : decode cX7_mark 45 = .ok (.getfield 74, 3) := by decide +kernel
theorem dX7_mark_48 : decode cX7_mark 48 = .ok (.iconst 1, 1) := by decide +kernel
theorem dX7_mark_49 : decode cX7_mark 49 = .ok (.iadd, 1) := by decide +kernel
theorem dX7_mark_50 : decode cX7_mark 50 = .ok (.putfield 74, 3) := by decide +kernel
theorem dX7_mark_53 : decode cX7_mark 53 = .ok (.aload_n 0, 1) := by decide +kernel
theorem dX7_mark_54 : decode cX7_mark 54 = .ok (.aload_n 0, 1) := by decide +kernel
theorem dX7_mark_55 : decode cX7_mark 55 = .ok (.getfield 74, 3) := by decide +kernel
theorem dX7_mark_58 : decode cX7_mark 58 = .ok (.iconst 1, 1) := by decide +kernel
theorem dX7_mark_59 : decode cX7_mark 59 = .ok (.isub, 1) := by decide +kernel
theorem dX7_mark_60 : decode cX7_mark 60 = .ok (.invokevirtual 110, 3) := by decide +kernel
theorem dX7_mark_63 : decode cX7_mark 63 = .ok (.ireturn, 1) := by decide +kernel
theorem dX7_back_0 : decode cX7_back 0 = .ok (.iload_n 1, 1) := by decide +kernel
theorem dX7_back_1 : decode cX7_back 1 = .ok (.ifCond .lt 11, 3) := by decide +kernel
theorem dX7_back_4 : decode cX7_back 4 = .ok (.iload_n 1, 1) := by decide +kernel
theorem dX7_back_5 : decode cX7_back 5 = .ok (.aload_n 0, 1) := by decide +kernel
theorem dX7_back_6 : decode cX7_back 6 = .ok (.getfield 74, 3) := by decide +kernel
theorem dX7_back_9 : decode cX7_back 9 = .ok (.if_icmp .lt 9, 3) := by decide +kernel
theorem dX7_back_12 : decode cX7_back 12 = .ok (.aload_n 0, 1) := by decide +kernel
theorem dX7_back_13 : decode cX7_back 13 = .ok (.iconst 1, 1) := by decide +kernel
theorem dX7_back_14 : decode cX7_back 14 = .ok (.invokevirtual 267, 3) := by decide +kernel
theorem dX7_back_17 : decode cX7_back 17 = .ok (.ireturn, 1) := by decide +kernel
theorem dX7_back_18 : decode cX7_back 18 = .ok (.aload_n 0, 1) := by decide +kernel
theorem dX7_back_19 : decode cX7_back 19 = .ok (.getfield 36, 3) := by decide +kernel
theorem dX7_back_22 : decode cX7_back 22 = .ok (.aload_n 0, 1) := by decide +kernel
theorem dX7_back_23 : decode cX7_back 23 = .ok (.getfield 71, 3) := by decide +kernel
theorem dX7_back_26 : decode cX7_back 26 = .ok (.iload_n 1, 1) := by decide +kernel
theorem dX7_back_27 : decode cX7_back 27 = .ok (.laload, 1) := by decide +kernel
theorem dX7_back_28 : decode cX7_back 28 = .ok (.invokevirtual 279, 3) := by decide +kernel
theorem dX7_back_31 : decode cX7_back 31 = .ok (.aload_n 0, 1) := by decide +kernel
theorem dX7_back_32 : decode cX7_back 32 = .ok (.iconst 0, 1) := by decide +kernel
theorem dX7_back_33 : decode cX7_back 33 = .ok (.putfield 68, 3) := by decide +kernel
theorem dX7_back_36 : decode cX7_back 36 = .ok (.aload_n 0, 1) := by decide +kernel
theorem dX7_back_37 : decode cX7_back 37 = .ok (.invokevirtual 273, 3) := by decide +kernel
theorem dX7_back_40 : decode cX7_back 40 = .ok (.ireturn, 1) := by decide +kernel
theorem dX7_led_0 : decode cX7_led 0 = .ok (.iconst 0, 1) := by decide +kernel
theorem dX7_led_1 : decode cX7_led 1 = .ok (.istore_n 2, 1) := by decide +kernel
theorem dX7_led_2 : decode cX7_led 2 = .ok (.iconst 0, 1) := by decide +kernel
theorem dX7_led_3 : decode cX7_led 3 = .ok (.istore_n 3, 1) := by decide +kernel
theorem dX7_led_4 : decode cX7_led 4 = .ok (.iload_n 3, 1) := by decide +kernel
theorem dX7_led_5 : decode cX7_led 5 = .ok (.aload_n 0, 1) := by decide +kernel
theorem dX7_led_6 : decode cX7_led 6 = .ok (.getfield 10, 3) := by decide +kernel
theorem dX7_led_9 : decode cX7_led 9 = .ok (.getfield 107, 3) := by decide +kernel
theorem dX7_led_12 : decode cX7_led 12 = .ok (.if_icmp .ge 33, 3) := by decide +kernel
theorem dX7_led_15 : decode cX7_led 15 = .ok (.aload_n 0, 1) := by decide +kernel
theorem dX7_led_16 : decode cX7_led 16 = .ok (.getfield 36, 3) := by decide +kernel
theorem dX7_led_19 : decode cX7_led 19 = .ok (.getfield 126, 3) := by decide +kernel
theorem dX7_led_22 : decode cX7_led 22 = .ok (.iload_n 3, 1) := by decide +kernel
theorem dX7_led_23 : decode cX7_led 23 = .ok (.iaload, 1) := by decide +kernel
theorem dX7_led_24 : decode cX7_led 24 = .ok (.bipush (-2), 2) := by decide +kernel
theorem dX7_led_26 : decode cX7_led 26 = .ok (.if_icmp .ne 13, 3) := by decide +kernel
theorem dX7_led_29 : decode cX7_led 29 = .ok (.iload_n 2, 1) := by decide +kernel
theorem dX7_led_30 : decode cX7_led 30 = .ok (.iload_n 1, 1) := by decide +kernel
theorem dX7_led_31 : decode cX7_led 31 = .ok (.if_icmp .ne 5, 3) := by decide +kernel
theorem dX7_led_34 : decode cX7_led 34 = .ok (.iload_n 3, 1) := by decide +kernel
theorem dX7_led_35 : decode cX7_led 35 = .ok (.ireturn, 1) := by decide +kernel
theorem dX7_led_36 : decode cX7_led 36 = .ok (.iinc 2 1, 3) := by decide +kernel
theorem dX7_led_39 : decode cX7_led 39 = .ok (.iinc 3 1, 3) := by decide +kernel
theorem dX7_led_42 : decode cX7_led 42 = .ok (.goto (-38), 3) := by decide +kernel
theorem dX7_led_45 : decode cX7_led 45 = .ok (.new 287, 3) := by decide +kernel
theorem dX7_led_48 : decode cX7_led 48 = .ok (.dup, 1) := by decide +kernel
theorem dX7_led_49 : decode cX7_led 49 = .ok (.ldc_w 289, 3) := by decide +kernel
theorem dX7_led_52 : decode cX7_led 52 = .ok (.invokespecial 291, 3) := by decide +kernel
theorem dX7_led_55 : decode cX7_led 55 = .ok (.athrow, 1) := by decide +kernel
theorem dX7_size_0 : decode cX7_size 0 = .ok (.iload_n 1, 1) := by decide +kernel
theorem dX7_size_1 : decode cX7_size 1 = .ok (.tableswitch 147 0 10 #[59, 67, 75, 83, 91, 99, 110, 121, 129, 134, 139], 59) := by decide +kernel
theorem dX7_size_60 : decode cX7_size 60 = .ok (.aload_n 0, 1) := by decide +kernel
theorem dX7_size_61 : decode cX7_size 61 = .ok (.getfield 10, 3) := by decide +kernel
theorem dX7_size_64 : decode cX7_size 64 = .ok (.getfield 294, 3) := by decide +kernel
theorem dX7_size_67 : decode cX7_size 67 = .ok (.ireturn, 1) := by decide +kernel
theorem dX7_size_68 : decode cX7_size 68 = .ok (.aload_n 0, 1) := by decide +kernel
theorem dX7_size_69 : decode cX7_size 69 = .ok (.getfield 10, 3) := by decide +kernel
theorem dX7_size_72 : decode cX7_size 72 = .ok (.getfield 297, 3) := by decide +kernel
theorem dX7_size_75 : decode cX7_size 75 = .ok (.ireturn, 1) := by decide +kernel
theorem dX7_size_76 : decode cX7_size 76 = .ok (.aload_n 0, 1) := by decide +kernel
theorem dX7_size_77 : decode cX7_size 77 = .ok (.getfield 10, 3) := by decide +kernel
theorem dX7_size_80 : decode cX7_size 80 = .ok (.getfield 300, 3) := by decide +kernel
theorem dX7_size_83 : decode cX7_size 83 = .ok (.ireturn, 1) := by decide +kernel
theorem dX7_size_84 : decode cX7_size 84 = .ok (.aload_n 0, 1) := by decide +kernel
theorem dX7_size_85 : decode cX7_size 85 = .ok (.getfield 10, 3) := by decide +kernel
theorem dX7_size_88 : decode cX7_size 88 = .ok (.getfield 157, 3) := by decide +kernel
theorem dX7_size_91 : decode cX7_size 91 = .ok (.ireturn, 1) := by decide +kernel
theorem dX7_size_92 : decode cX7_size 92 = .ok (.aload_n 0, 1) := by decide +kernel
theorem dX7_size_93 : decode cX7_size 93 = .ok (.getfield 10, 3) := by decide +kernel
theorem dX7_size_96 : decode cX7_size 96 = .ok (.getfield 107, 3) := by decide +kernel
theorem dX7_size_99 : decode cX7_size 99 = .ok (.ireturn, 1) := by decide +kernel
theorem dX7_size_100 : decode cX7_size 100 = .ok (.aload_n 0, 1) := by decide +kernel
theorem dX7_size_101 : decode cX7_size 101 = .ok (.getfield 10, 3) := by decide +kernel
theorem dX7_size_104 : decode cX7_size 104 = .ok (.getfield 303, 3) := by decide +kernel
theorem dX7_size_107 : decode cX7_size 107 = .ok (.getfield 175, 3) := by decide +kernel
theorem dX7_size_110 : decode cX7_size 110 = .ok (.ireturn, 1) := by decide +kernel
theorem dX7_size_111 : decode cX7_size 111 = .ok (.aload_n 0, 1) := by decide +kernel
theorem dX7_size_112 : decode cX7_size 112 = .ok (.getfield 10, 3) := by decide +kernel
theorem dX7_size_115 : decode cX7_size 115 = .ok (.getfield 171, 3) := by decide +kernel
theorem dX7_size_118 : decode cX7_size 118 = .ok (.getfield 175, 3) := by decide +kernel
theorem dX7_size_121 : decode cX7_size 121 = .ok (.ireturn, 1) := by decide +kernel
theorem dX7_size_122 : decode cX7_size 122 = .ok (.aload_n 0, 1) := by decide +kernel
theorem dX7_size_123 : decode cX7_size 123 = .ok (.getfield 36, 3) := by decide +kernel
theorem dX7_size_126 : decode cX7_size 126 = .ok (.getfield 306, 3) := by decide +kernel
theorem dX7_size_129 : decode cX7_size 129 = .ok (.ireturn, 1) := by decide +kernel
theorem dX7_size_130 : decode cX7_size 130 = .ok (.aload_n 0, 1) := by decide +kernel
theorem dX7_size_131 : decode cX7_size 131 = .ok (.getfield 68, 3) := by decide +kernel
theorem dX7_size_134 : decode cX7_size 134 = .ok (.ireturn, 1) := by decide +kernel
theorem dX7_size_135 : decode cX7_size 135 = .ok (.aload_n 0, 1) := by decide +kernel
theorem dX7_size_136 : decode cX7_size 136 = .ok (.getfield 74, 3) := by decide +kernel
theorem dX7_size_139 : decode cX7_size 139 = .ok (.ireturn, 1) := by decide +kernel
theorem dX7_size_140 : decode cX7_size 140 = .ok (.aload_n 0, 1) := by decide +kernel
theorem dX7_size_141 : decode cX7_size 141 = .ok (.getfield 19, 3) := by decide +kernel
theorem dX7_size_144 : decode cX7_size 144 = .ok (.getfield 77, 3) := by decide +kernel
theorem dX7_size_147 : decode cX7_size 147 = .ok (.ireturn, 1) := by decide +kernel
theorem dX7_size_148 : decode cX7_size 148 = .ok (.iconst (-1), 1) := by decide +kernel
theorem dX7_size_149 : decode cX7_size 149 = .ok (.ireturn, 1) := by decide +kernel
theorem dX7_trouble_0 : decode cX7_trouble 0 = .ok (.aload_n 0, 1) := by decide +kernel
theorem dX7_trouble_1 : decode cX7_trouble 1 = .ok (.getfield 30, 3) := by decide +kernel
theorem dX7_trouble_4 : decode cX7_trouble 4 = .ok (.ireturn, 1) := by decide +kernel
theorem dX7_answer_0 : decode cX7_answer 0 = .ok (.aload_n 0, 1) := by decide +kernel
theorem dX7_answer_1 : decode cX7_answer 1 = .ok (.iconst 0, 1) := by decide +kernel
theorem dX7_answer_2 : decode cX7_answer 2 = .ok (.putfield 30, 3) := by decide +kernel
theorem dX7_answer_5 : decode cX7_answer 5 = .ok (.iload_n 1, 1) := by decide +kernel
theorem dX7_answer_6 : decode cX7_answer 6 = .ok (.ireturn, 1) := by decide +kernel
theorem dX7_refuse_0 : decode cX7_refuse 0 = .ok (.aload_n 0, 1) := by decide +kernel
theorem dX7_refuse_1 : decode cX7_refuse 1 = .ok (.iload_n 1, 1) := by decide +kernel
theorem dX7_refuse_2 : decode cX7_refuse 2 = .ok (.putfield 30, 3) := by decide +kernel
theorem dX7_refuse_5 : decode cX7_refuse 5 = .ok (.iconst (-1), 1) := by decide +kernel
theorem dX7_refuse_6 : decode cX7_refuse 6 = .ok (.ireturn, 1) := by decide +kernel
theorem dX7_grant_0 : decode cX7_grant 0 = .ok (.aload_n 0, 1) := by decide +kernel
theorem dX7_grant_1 : decode cX7_grant 1 = .ok (.iconst 0, 1) := by decide +kernel
theorem dX7_grant_2 : decode cX7_grant 2 = .ok (.putfield 30, 3) := by decide +kernel
theorem dX7_grant_5 : decode cX7_grant 5 = .ok (.iconst 1, 1) := by decide +kernel
theorem dX7_grant_6 : decode cX7_grant 6 = .ok (.ireturn, 1) := by decide +kernel
theorem dX7_deny_0 : decode cX7_deny 0 = .ok (.aload_n 0, 1) := by decide +kernel
theorem dX7_deny_1 : decode cX7_deny 1 = .ok (.iload_n 1, 1) := by decide +kernel
theorem dX7_deny_2 : decode cX7_deny 2 = .ok (.putfield 30, 3) := by decide +kernel
theorem dX7_deny_5 : decode cX7_deny 5 = .ok (.iconst 0, 1) := by decide +kernel
theorem dX7_deny_6 : decode cX7_deny 6 = .ok (.ireturn, 1) := by decide +kernel
theorem dX7_isTold_0 : decode cX7_isTold 0 = .ok (.aload_n 0, 1) := by decide +kernel
theorem dX7_isTold_1 : decode cX7_isTold 1 = .ok (.getfield 10, 3) := by decide +kernel
theorem dX7_isTold_4 : decode cX7_isTold 4 = .ok (.getfield 107, 3) := by decide +kernel
theorem dX7_isTold_7 : decode cX7_isTold 7 = .ok (.ifCond .le 7, 3) := by decide +kernel
theorem dX7_isTold_10 : decode cX7_isTold 10 = .ok (.iconst 1, 1) := by decide +kernel
theorem dX7_isTold_11 : decode cX7_isTold 11 = .ok (.goto 4, 3) := by decide +kernel
theorem dX7_isTold_14 : decode cX7_isTold 14 = .ok (.iconst 0, 1) := by decide +kernel
theorem dX7_isTold_15 : decode cX7_isTold 15 = .ok (.ireturn, 1) := by decide +kernel
theorem dX7_isUmbrella_0 : decode cX7_isUmbrella 0 = .ok (.iload_n 1, 1) := by decide +kernel
theorem dX7_isUmbrella_1 : decode cX7_isUmbrella 1 = .ok (.ifCond .lt 18, 3) := by decide +kernel
theorem dX7_isUmbrella_4 : decode cX7_isUmbrella 4 = .ok (.iload_n 1, 1) := by decide +kernel
theorem dX7_isUmbrella_5 : decode cX7_isUmbrella 5 = .ok (.aload_n 0, 1) := by decide +kernel
theorem dX7_isUmbrella_6 : decode cX7_isUmbrella 6 = .ok (.getfield 10, 3) := by decide +kernel
theorem dX7_isUmbrella_9 : decode cX7_isUmbrella 9 = .ok (.getfield 107, 3) := by decide +kernel
theorem dX7_isUmbrella_12 : decode cX7_isUmbrella 12 = .ok (.if_icmp .ge 7, 3) := by decide +kernel
theorem dX7_isUmbrella_15 : decode cX7_isUmbrella 15 = .ok (.iconst 1, 1) := by decide +kernel
theorem dX7_isUmbrella_16 : decode cX7_isUmbrella 16 = .ok (.goto 4, 3) := by decide +kernel
theorem dX7_isUmbrella_19 : decode cX7_isUmbrella 19 = .ok (.iconst 0, 1) := by decide +kernel
theorem dX7_isUmbrella_20 : decode cX7_isUmbrella 20 = .ok (.ireturn, 1) := by decide +kernel
theorem dX7_isPerson_0 : decode cX7_isPerson 0 = .ok (.iload_n 1, 1) := by decide +kernel
theorem dX7_isPerson_1 : decode cX7_isPerson 1 = .ok (.ifCond .lt 18, 3) := by decide +kernel
theorem dX7_isPerson_4 : decode cX7_isPerson 4 = .ok (.iload_n 1, 1) := by decide +kernel
theorem dX7_isPerson_5 : decode cX7_isPerson 5 = .ok (.aload_n 0, 1) := by decide +kernel
theorem dX7_isPerson_6 : decode cX7_isPerson 6 = .ok (.getfield 10, 3) := by decide +kernel
theorem dX7_isPerson_9 : decode cX7_isPerson 9 = .ok (.getfield 157, 3) := by decide +kernel
theorem dX7_isPerson_12 : decode cX7_isPerson 12 = .ok (.if_icmp .ge 7, 3) := by decide +kernel
theorem dX7_isPerson_15 : decode cX7_isPerson 15 = .ok (.iconst 1, 1) := by decide +kernel
theorem dX7_isPerson_16 : decode cX7_isPerson 16 = .ok (.goto 4, 3) := by decide +kernel
theorem dX7_isPerson_19 : decode cX7_isPerson 19 = .ok (.iconst 0, 1) := by decide +kernel
theorem dX7_isPerson_20 : decode cX7_isPerson 20 = .ok (.ireturn, 1) := by decide +kernel
theorem dX7_arePeople_0 : decode cX7_arePeople 0 = .ok (.iload_n 1, 1) := by decide +kernel
theorem dX7_arePeople_1 : decode cX7_arePeople 1 = .ok (.iconst 1, 1) := by decide +kernel
theorem dX7_arePeople_2 : decode cX7_arePeople 2 = .ok (.if_icmp .lt 20, 3) := by decide +kernel
theorem dX7_arePeople_5 : decode cX7_arePeople 5 = .ok (.iload_n 1, 1) := by decide +kernel
theorem dX7_arePeople_6 : decode cX7_arePeople 6 = .ok (.iconst 1, 1) := by decide +kernel
theorem dX7_arePeople_7 : decode cX7_arePeople 7 = .ok (.aload_n 0, 1) := by decide +kernel
theorem dX7_arePeople_8 : decode cX7_arePeople 8 = .ok (.getfield 10, 3) := by decide +kernel
theorem dX7_arePeople_11 : decode cX7_arePeople 11 = .ok (.getfield 157, 3) := by decide +kernel
theorem dX7_arePeople_14 : decode cX7_arePeople 14 = .ok (.ishl, 1) := by decide +kernel
theorem dX7_arePeople_15 : decode cX7_arePeople 15 = .ok (.if_icmp .ge 7, 3) := by decide +kernel
theorem dX7_arePeople_18 : decode cX7_arePeople 18 = .ok (.iconst 1, 1) := by decide +kernel
theorem dX7_arePeople_19 : decode cX7_arePeople 19 = .ok (.goto 4, 3) := by decide +kernel
theorem dX7_arePeople_22 : decode cX7_arePeople 22 = .ok (.iconst 0, 1) := by decide +kernel
theorem dX7_arePeople_23 : decode cX7_arePeople 23 = .ok (.ireturn, 1) := by decide +kernel
theorem dX7_isDay_0 : decode cX7_isDay 0 = .ok (.iload_n 0, 1) := by decide +kernel
theorem dX7_isDay_1 : decode cX7_isDay 1 = .ok (.ifCond .lt 13, 3) := by decide +kernel
theorem dX7_isDay_4 : decode cX7_isDay 4 = .ok (.iload_n 0, 1) := by decide +kernel
theorem dX7_isDay_5 : decode cX7_isDay 5 = .ok (.bipush 41, 2) := by decide +kernel
theorem dX7_isDay_7 : decode cX7_isDay 7 = .ok (.if_icmp .ge 7, 3) := by decide +kernel
theorem dX7_isDay_10 : decode cX7_isDay 10 = .ok (.iconst 1, 1) := by decide +kernel
theorem dX7_isDay_11 : decode cX7_isDay 11 = .ok (.goto 4, 3) := by decide +kernel
theorem dX7_isDay_14 : decode cX7_isDay 14 = .ok (.iconst 0, 1) := by decide +kernel
theorem dX7_isDay_15 : decode cX7_isDay 15 = .ok (.ireturn, 1) := by decide +kernel
theorem dX7_isLand_0 : decode cX7_isLand 0 = .ok (.iload_n 0, 1) := by decide +kernel
theorem dX7_isLand_1 : decode cX7_isLand 1 = .ok (.ifCond .lt 13, 3) := by decide +kernel
theorem dX7_isLand_4 : decode cX7_isLand 4 = .ok (.iload_n 0, 1) := by decide +kernel
theorem dX7_isLand_5 : decode cX7_isLand 5 = .ok (.bipush 99, 2) := by decide +kernel
theorem dX7_isLand_7 : decode cX7_isLand 7 = .ok (.if_icmp .gt 7, 3) := by decide +kernel
theorem dX7_isLand_10 : decode cX7_isLand 10 = .ok (.iconst 1, 1) := by decide +kernel
theorem dX7_isLand_11 : decode cX7_isLand 11 = .ok (.goto 4, 3) := by decide +kernel
theorem dX7_isLand_14 : decode cX7_isLand 14 = .ok (.iconst 0, 1) := by decide +kernel
theorem dX7_isLand_15 : decode cX7_isLand 15 = .ok (.ireturn, 1) := by decide +kernel
theorem dX7_isClose_0 : decode cX7_isClose 0 = .ok (.iload_n 0, 1) := by decide +kernel
theorem dX7_isClose_1 : decode cX7_isClose 1 = .ok (.ifCond .lt 13, 3) := by decide +kernel
theorem dX7_isClose_4 : decode cX7_isClose 4 = .ok (.iload_n 0, 1) := by decide +kernel
theorem dX7_isClose_5 : decode cX7_isClose 5 = .ok (.bipush 6, 2) := by decide +kernel
theorem dX7_isClose_7 : decode cX7_isClose 7 = .ok (.if_icmp .gt 7, 3) := by decide +kernel
theorem dX7_isClose_10 : decode cX7_isClose 10 = .ok (.iconst 1, 1) := by decide +kernel
theorem dX7_isClose_11 : decode cX7_isClose 11 = .ok (.goto 4, 3) := by decide +kernel
theorem dX7_isClose_14 : decode cX7_isClose 14 = .ok (.iconst 0, 1) := by decide +kernel
theorem dX7_isClose_15 : decode cX7_isClose 15 = .ok (.ireturn, 1) := by decide +kernel
theorem dX7_isSeed_0 : decode cX7_isSeed 0 = .ok (.iload_n 0, 1) := by decide +kernel
theorem dX7_isSeed_1 : decode cX7_isSeed 1 = .ok (.ifCond .lt 14, 3) := by decide +kernel
theorem dX7_isSeed_4 : decode cX7_isSeed 4 = .ok (.iload_n 0, 1) := by decide +kernel
theorem dX7_isSeed_5 : decode cX7_isSeed 5 = .ok (.ldc_w 309, 3) := by decide +kernel
theorem dX7_isSeed_8 : decode cX7_isSeed 8 = .ok (.if_icmp .ge 7, 3) := by decide +kernel
theorem dX7_isSeed_11 : decode cX7_isSeed 11 = .ok (.iconst 1, 1) := by decide +kernel
theorem dX7_isSeed_12 : decode cX7_isSeed 12 = .ok (.goto 4, 3) := by decide +kernel
theorem dX7_isSeed_15 : decode cX7_isSeed 15 = .ok (.iconst 0, 1) := by decide +kernel
theorem dX7_isSeed_16 : decode cX7_isSeed 16 = .ok (.ireturn, 1) := by decide +kernel
theorem dX7_areYears_0 : decode cX7_areYears 0 = .ok (.iload_n 0, 1) := by decide +kernel
theorem dX7_areYears_1 : decode cX7_areYears 1 = .ok (.ifCond .lt 13, 3) := by decide +kernel
theorem dX7_areYears_4 : decode cX7_areYears 4 = .ok (.iload_n 0, 1) := by decide +kernel
theorem dX7_areYears_5 : decode cX7_areYears 5 = .ok (.bipush 60, 2) := by decide +kernel
theorem dX7_areYears_7 : decode cX7_areYears 7 = .ok (.if_icmp .gt 7, 3) := by decide +kernel
theorem dX7_areYears_10 : decode cX7_areYears 10 = .ok (.iconst 1, 1) := by decide +kernel
theorem dX7_areYears_11 : decode cX7_areYears 11 = .ok (.goto 4, 3) := by decide +kernel
theorem dX7_areYears_14 : decode cX7_areYears 14 = .ok (.iconst 0, 1) := by decide +kernel
theorem dX7_areYears_15 : decode cX7_areYears 15 = .ok (.ireturn, 1) := by decide +kernel
theorem dX7_keep_0 : decode cX7_keep 0 = .ok (.aload_n 0, 1) := by decide +kernel
theorem dX7_keep_1 : decode cX7_keep 1 = .ok (.getfield 68, 3) := by decide +kernel
theorem dX7_keep_4 : decode cX7_keep 4 = .ok (.bipush 16, 2) := by decide +kernel
theorem dX7_keep_6 : decode cX7_keep 6 = .ok (.if_icmp .lt 24, 3) := by decide +kernel
theorem dX7_keep_9 : decode cX7_keep 9 = .ok (.aload_n 0, 1) := by decide +kernel
theorem dX7_keep_10 : decode cX7_keep 10 = .ok (.getfield 64, 3) := by decide +kernel
theorem dX7_keep_13 : decode cX7_keep 13 = .ok (.iconst 1, 1) := by decide +kernel
theorem dX7_keep_14 : decode cX7_keep 14 = .ok (.aload_n 0, 1) := by decide +kernel
theorem dX7_keep_15 : decode cX7_keep 15 = .ok (.getfield 64, 3) := by decide +kernel
theorem dX7_keep_18 : decode cX7_keep 18 = .ok (.iconst 0, 1) := by decide +kernel
theorem dX7_keep_19 : decode cX7_keep 19 = .ok (.bipush 15, 2) := by decide +kernel
theorem dX7_keep_21 : decode cX7_keep 21 = .ok (.invokestatic 310, 3) := by decide +kernel
theorem dX7_keep_24 : decode cX7_keep 24 = .ok (.aload_n 0, 1) := by decide +kernel
theorem dX7_keep_25 : decode cX7_keep 25 = .ok (.bipush 15, 2) := by decide +kernel
theorem dX7_keep_27 : decode cX7_keep 27 = .ok (.putfield 68, 3) := by decide +kernel
theorem dX7_keep_30 : decode cX7_keep 30 = .ok (.aload_n 0, 1) := by decide +kernel
theorem dX7_keep_31 : decode cX7_keep 31 = .ok (.getfield 64, 3) := by decide +kernel
theorem dX7_keep_34 : decode cX7_keep 34 = .ok (.aload_n 0, 1) := by decide +kernel
theorem dX7_keep_35 : decode cX7_keep 35 = .ok (.getfield 68, 3) := by decide +kernel
theorem dX7_keep_38 : decode cX7_keep 38 = .ok (.aload_n 0, 1) := by decide +kernel
theorem dX7_keep_39 : decode cX7_keep 39 = .ok (.getfield 36, 3) := by decide +kernel
theorem dX7_keep_42 : decode cX7_keep 42 = .ok (.invokevirtual 283, 3) := by decide +kernel
theorem dX7_keep_45 : decode cX7_keep 45 = .ok (.lastore, 1) := by decide +kernel
theorem dX7_keep_46 : decode cX7_keep 46 = .ok (.aload_n 0, 1) := by decide +kernel
theorem dX7_keep_47 : decode cX7_keep 47 = .ok (.dup, 1) := by decide +kernel
theorem dX7_keep_48 : decode cX7_keep 48 = .ok (.getfield 68, 3) := by decide +kernel
theorem dX7_keep_51 : decode cX7_keep 51 = .ok (.iconst 1, 1) := by decide +kernel
theorem dX7_keep_52 : decode cX7_keep 52 = .ok (.iadd, 1) := by decide +kernel
theorem dX7_keep_53 : decode cX7_keep 53 = .ok (.putfield 68, 3) := by decide +kernel
theorem dX7_keep_56 : decode cX7_keep 56 = .ok (.return_, 1) := by decide +kernel
theorem dX7_mendTrial_0 : decode cX7_mendTrial 0 = .ok (.aload_n 0, 1) := by decide +kernel
theorem dX7_mendTrial_1 : decode cX7_mendTrial 1 = .ok (.getfield 40, 3) := by decide +kernel
theorem dX7_mendTrial_4 : decode cX7_mendTrial 4 = .ok (.aload_n 0, 1) := by decide +kernel
theorem dX7_mendTrial_5 : decode cX7_mendTrial 5 = .ok (.getfield 36, 3) := by decide +kernel
theorem dX7_mendTrial_8 : decode cX7_mendTrial 8 = .ok (.invokevirtual 196, 3) := by decide +kernel
theorem dX7_mendTrial_11 : decode cX7_mendTrial 11 = .ok (.aload_n 0, 1) := by decide +kernel
theorem dX7_mendTrial_12 : decode cX7_mendTrial 12 = .ok (.getfield 60, 3) := by decide +kernel
theorem dX7_mendTrial_15 : decode cX7_mendTrial 15 = .ok (.aload_n 0, 1) := by decide +kernel
theorem dX7_mendTrial_16 : decode cX7_mendTrial 16 = .ok (.getfield 10, 3) := by decide +kernel
theorem dX7_mendTrial_19 : decode cX7_mendTrial 19 = .ok (.aload_n 0, 1) := by decide +kernel
theorem dX7_mendTrial_20 : decode cX7_mendTrial 20 = .ok (.getfield 40, 3) := by decide +kernel
theorem dX7_mendTrial_23 : decode cX7_mendTrial 23 = .ok (.invokevirtual 316, 3) := by decide +kernel
theorem dX7_mendTrial_26 : decode cX7_mendTrial 26 = .ok (.return_, 1) := by decide +kernel
theorem dX7_landsIfLent_0 : decode cX7_landsIfLent 0 = .ok (.aload_n 0, 1) := by decide +kernel
theorem dX7_landsIfLent_1 : decode cX7_landsIfLent 1 = .ok (.getfield 40, 3) := by decide +kernel
theorem dX7_landsIfLent_4 : decode cX7_landsIfLent 4 = .ok (.aload_n 0, 1) := by decide +kernel
theorem dX7_landsIfLent_5 : decode cX7_landsIfLent 5 = .ok (.getfield 36, 3) := by decide +kernel
theorem dX7_landsIfLent_8 : decode cX7_landsIfLent 8 = .ok (.invokevirtual 196, 3) := by decide +kernel
theorem dX7_landsIfLent_11 : decode cX7_landsIfLent 11 = .ok (.aload_n 0, 1) := by decide +kernel
theorem dX7_landsIfLent_12 : decode cX7_landsIfLent 12 = .ok (.getfield 40, 3) := by decide +kernel
theorem dX7_landsIfLent_15 : decode cX7_landsIfLent 15 = .ok (.getfield 126, 3) := by decide +kernel
theorem dX7_landsIfLent_18 : decode cX7_landsIfLent 18 = .ok (.iload_n 1, 1) := by decide +kernel
theorem dX7_landsIfLent_19 : decode cX7_landsIfLent 19 = .ok (.iload_n 2, 1) := by decide +kernel
theorem dX7_landsIfLent_20 : decode cX7_landsIfLent 20 = .ok (.iastore, 1) := by decide +kernel
theorem dX7_landsIfLent_21 : decode cX7_landsIfLent 21 = .ok (.aload_n 0, 1) := by decide +kernel
theorem dX7_landsIfLent_22 : decode cX7_landsIfLent 22 = .ok (.getfield 40, 3) := by decide +kernel
theorem dX7_landsIfLent_25 : decode cX7_landsIfLent 25 = .ok (.aload_n 0, 1) := by decide +kernel
theorem dX7_landsIfLent_26 : decode cX7_landsIfLent 26 = .ok (.getfield 10, 3) := by decide +kernel
theorem dX7_landsIfLent_29 : decode cX7_landsIfLent 29 = .ok (.iconst 1, 1) := by decide +kernel
theorem dX7_landsIfLent_30 : decode cX7_landsIfLent 30 = .ok (.invokevirtual 200, 3) := by decide +kernel
theorem dX7_landsIfLent_33 : decode cX7_landsIfLent 33 = .ok (.aload_n 0, 1) := by decide +kernel
theorem dX7_landsIfLent_34 : decode cX7_landsIfLent 34 = .ok (.getfield 40, 3) := by decide +kernel
theorem dX7_landsIfLent_37 : decode cX7_landsIfLent 37 = .ok (.aload_n 0, 1) := by decide +kernel
theorem dX7_landsIfLent_38 : decode cX7_landsIfLent 38 = .ok (.getfield 10, 3) := by decide +kernel
theorem dX7_landsIfLent_41 : decode cX7_landsIfLent 41 = .ok (.iload_n 2, 1) := by decide +kernel
theorem dX7_landsIfLent_42 : decode cX7_landsIfLent 42 = .ok (.invokevirtual 142, 3) := by decide +kernel
theorem dX7_landsIfLent_45 : decode cX7_landsIfLent 45 = .ok (.ireturn, 1) := by decide +kernel
theorem dX7_tryCentury_0 : decode cX7_tryCentury 0 = .ok (.aload_n 0, 1) := by decide +kernel
theorem dX7_tryCentury_1 : decode cX7_tryCentury 1 = .ok (.getfield 40, 3) := by decide +kernel
theorem dX7_tryCentury_4 : decode cX7_tryCentury 4 = .ok (.aload_n 0, 1) := by decide +kernel
theorem dX7_tryCentury_5 : decode cX7_tryCentury 5 = .ok (.getfield 36, 3) := by decide +kernel
theorem dX7_tryCentury_8 : decode cX7_tryCentury 8 = .ok (.invokevirtual 196, 3) := by decide +kernel
theorem dX7_tryCentury_11 : decode cX7_tryCentury 11 = .ok (.aload_n 0, 1) := by decide +kernel
theorem dX7_tryCentury_12 : decode cX7_tryCentury 12 = .ok (.getfield 10, 3) := by decide +kernel
theorem dX7_tryCentury_15 : decode cX7_tryCentury 15 = .ok (.getfield 107, 3) := by decide +kernel
theorem dX7_tryCentury_18 : decode cX7_tryCentury 18 = .ok (.ifCond .le 13, 3) := by decide +kernel
theorem dX7_tryCentury_21 : decode cX7_tryCentury 21 = .ok (.aload_n 0, 1) := by decide +kernel
theorem dX7_tryCentury_22 : decode cX7_tryCentury 22 = .ok (.getfield 10, 3) := by decide +kernel
theorem dX7_tryCentury_25 : decode cX7_tryCentury 25 = .ok (.getfield 157, 3) := by decide +kernel
theorem dX7_tryCentury_28 : decode cX7_tryCentury 28 = .ok (.ifCond .gt 4, 3) := by decide +kernel
theorem dX7_tryCentury_31 : decode cX7_tryCentury 31 = .ok (.return_, 1) := by decide +kernel
theorem dX7_tryCentury_32 : decode cX7_tryCentury 32 = .ok (.iload_n 1, 1) := by decide +kernel
theorem dX7_tryCentury_33 : decode cX7_tryCentury 33 = .ok (.istore_n 3, 1) := by decide +kernel
theorem dX7_tryCentury_34 : decode cX7_tryCentury 34 = .ok (.iconst 0, 1) := by decide +kernel
theorem dX7_tryCentury_35 : decode cX7_tryCentury 35 = .ok (.istore 4, 2) := by decide +kernel
theorem dX7_tryCentury_37 : decode cX7_tryCentury 37 = .ok (.iload 4, 2) := by decide +kernel
theorem dX7_tryCentury_39 : decode cX7_tryCentury 39 = .ok (.iload_n 2, 1) := by decide +kernel
theorem dX7_tryCentury_40 : decode cX7_tryCentury 40 = .ok (.if_icmp .ge 84, 3) := by decide +kernel
theorem dX7_tryCentury_43 : decode cX7_tryCentury 43 = .ok (.iload_n 3, 1) := by decide +kernel
theorem dX7_tryCentury_44 : decode cX7_tryCentury 44 = .ok (.invokestatic 320, 3) := by decide +kernel
theorem dX7_tryCentury_47 : decode cX7_tryCentury 47 = .ok (.istore_n 3, 1) := by decide +kernel
theorem dX7_tryCentury_48 : decode cX7_tryCentury 48 = .ok (.iload_n 3, 1) := by decide +kernel
theorem dX7_tryCentury_49 : decode cX7_tryCentury 49 = .ok (.aload_n 0, 1) := by decide +kernel
theorem dX7_tryCentury_50 : decode cX7_tryCentury 50 = .ok (.getfield 10, 3) := by decide +kernel
theorem dX7_tryCentury_53 : decode cX7_tryCentury 53 = .ok (.getfield 107, 3) := by decide +kernel
theorem dX7_tryCentury_56 : decode cX7_tryCentury 56 = .ok (.irem, 1) := by decide +kernel
theorem dX7_tryCentury_57 : decode cX7_tryCentury 57 = .ok (.istore 5, 2) := by decide +kernel
theorem dX7_tryCentury_59 : decode cX7_tryCentury 59 = .ok (.iload_n 3, 1) := by decide +kernel
theorem dX7_tryCentury_60 : decode cX7_tryCentury 60 = .ok (.invokestatic 320, 3) := by decide +kernel
theorem dX7_tryCentury_63 : decode cX7_tryCentury 63 = .ok (.istore_n 3, 1) := by decide +kernel
theorem dX7_tryCentury_64 : decode cX7_tryCentury 64 = .ok (.aload_n 0, 1) := by decide +kernel
theorem dX7_tryCentury_65 : decode cX7_tryCentury 65 = .ok (.getfield 40, 3) := by decide +kernel
theorem dX7_tryCentury_68 : decode cX7_tryCentury 68 = .ok (.getfield 126, 3) := by decide +kernel
theorem dX7_tryCentury_71 : decode cX7_tryCentury 71 = .ok (.iload 5, 2) := by decide +kernel
theorem dX7_tryCentury_73 : decode cX7_tryCentury 73 = .ok (.iload_n 3, 1) := by decide +kernel
theorem dX7_tryCentury_74 : decode cX7_tryCentury 74 = .ok (.aload_n 0, 1) := by decide +kernel
theorem dX7_tryCentury_75 : decode cX7_tryCentury 75 = .ok (.getfield 10, 3) := by decide +kernel
theorem dX7_tryCentury_78 : decode cX7_tryCentury 78 = .ok (.getfield 157, 3) := by decide +kernel
theorem dX7_tryCentury_81 : decode cX7_tryCentury 81 = .ok (.irem, 1) := by decide +kernel
theorem dX7_tryCentury_82 : decode cX7_tryCentury 82 = .ok (.iastore, 1) := by decide +kernel
theorem dX7_tryCentury_83 : decode cX7_tryCentury 83 = .ok (.iload_n 3, 1) := by decide +kernel
theorem dX7_tryCentury_84 : decode cX7_tryCentury 84 = .ok (.invokestatic 320, 3) := by decide +kernel
theorem dX7_tryCentury_87 : decode cX7_tryCentury 87 = .ok (.istore_n 3, 1) := by decide +kernel
theorem dX7_tryCentury_88 : decode cX7_tryCentury 88 = .ok (.aload_n 0, 1) := by decide +kernel
theorem dX7_tryCentury_89 : decode cX7_tryCentury 89 = .ok (.getfield 40, 3) := by decide +kernel
theorem dX7_tryCentury_92 : decode cX7_tryCentury 92 = .ok (.aload_n 0, 1) := by decide +kernel
theorem dX7_tryCentury_93 : decode cX7_tryCentury 93 = .ok (.getfield 10, 3) := by decide +kernel
theorem dX7_tryCentury_96 : decode cX7_tryCentury 96 = .ok (.iload_n 3, 1) := by decide +kernel
theorem dX7_tryCentury_97 : decode cX7_tryCentury 97 = .ok (.bipush 100, 2) := by decide +kernel
theorem dX7_tryCentury_99 : decode cX7_tryCentury 99 = .ok (.irem, 1) := by decide +kernel
theorem dX7_tryCentury_100 : decode cX7_tryCentury 100 = .ok (.aload_n 0, 1) := by decide +kernel
theorem dX7_tryCentury_101 : decode cX7_tryCentury 101 = .ok (.getfield 10, 3) := by decide +kernel
theorem dX7_tryCentury_104 : decode cX7_tryCentury 104 = .ok (.getfield 300, 3) := by decide +kernel
theorem dX7_tryCentury_107 : decode cX7_tryCentury 107 = .ok (.if_icmp .ge 7, 3) := by decide +kernel
theorem dX7_tryCentury_110 : decode cX7_tryCentury 110 = .ok (.iconst 1, 1) := by decide +kernel
theorem dX7_tryCentury_111 : decode cX7_tryCentury 111 = .ok (.goto 4, 3) := by decide +kernel
theorem dX7_tryCentury_114 : decode cX7_tryCentury 114 = .ok (.iconst 0, 1) := by decide +kernel
theorem dX7_tryCentury_115 : decode cX7_tryCentury 115 = .ok (.invokevirtual 200, 3) := by decide +kernel
theorem dX7_tryCentury_118 : decode cX7_tryCentury 118 = .ok (.iinc 4 1, 3) := by decide +kernel
theorem dX7_tryCentury_121 : decode cX7_tryCentury 121 = .ok (.goto (-84), 3) := by decide +kernel
theorem dX7_tryCentury_124 : decode cX7_tryCentury 124 = .ok (.return_, 1) := by decide +kernel
theorem dX7_nextSeed_0 : decode cX7_nextSeed 0 = .ok (.bipush 75, 2) := by decide +kernel
theorem dX7_nextSeed_2 : decode cX7_nextSeed 2 = .ok (.iload_n 0, 1) := by decide +kernel
theorem dX7_nextSeed_3 : decode cX7_nextSeed 3 = .ok (.imul, 1) := by decide +kernel
theorem dX7_nextSeed_4 : decode cX7_nextSeed 4 = .ok (.bipush 74, 2) := by decide +kernel
theorem dX7_nextSeed_6 : decode cX7_nextSeed 6 = .ok (.iadd, 1) := by decide +kernel
theorem dX7_nextSeed_7 : decode cX7_nextSeed 7 = .ok (.ldc_w 309, 3) := by decide +kernel
theorem dX7_nextSeed_10 : decode cX7_nextSeed 10 = .ok (.irem, 1) := by decide +kernel
theorem dX7_nextSeed_11 : decode cX7_nextSeed 11 = .ok (.ireturn, 1) := by decide +kernel
theorem dX7_inherits_0 : decode cX7_inherits 0 = .ok (.iload_n 1, 1) := by decide +kernel
theorem dX7_inherits_1 : decode cX7_inherits 1 = .ok (.iload_n 2, 1) := by decide +kernel
theorem dX7_inherits_2 : decode cX7_inherits 2 = .ok (.if_icmp .le 7, 3) := by decide +kernel
theorem dX7_inherits_5 : decode cX7_inherits 5 = .ok (.iload_n 0, 1) := by decide +kernel
theorem dX7_inherits_6 : decode cX7_inherits 6 = .ok (.goto 15, 3) := by decide +kernel
theorem dX7_inherits_9 : decode cX7_inherits 9 = .ok (.iload_n 1, 1) := by decide +kernel
theorem dX7_inherits_10 : decode cX7_inherits 10 = .ok (.iload_n 2, 1) := by decide +kernel
theorem dX7_inherits_11 : decode cX7_inherits 11 = .ok (.if_icmp .ne 9, 3) := by decide +kernel
theorem dX7_inherits_14 : decode cX7_inherits 14 = .ok (.iload_n 0, 1) := by decide +kernel
theorem dX7_inherits_15 : decode cX7_inherits 15 = .ok (.iconst 2, 1) := by decide +kernel
theorem dX7_inherits_16 : decode cX7_inherits 16 = .ok (.idiv, 1) := by decide +kernel
theorem dX7_inherits_17 : decode cX7_inherits 17 = .ok (.goto 4, 3) := by decide +kernel
theorem dX7_inherits_20 : decode cX7_inherits 20 = .ok (.iconst 0, 1) := by decide +kernel
theorem dX7_inherits_21 : decode cX7_inherits 21 = .ok (.istore_n 3, 1) := by decide +kernel
theorem dX7_inherits_22 : decode cX7_inherits 22 = .ok (.iload_n 3, 1) := by decide +kernel
theorem dX7_inherits_23 : decode cX7_inherits 23 = .ok (.iconst 2, 1) := by decide +kernel
theorem dX7_inherits_24 : decode cX7_inherits 24 = .ok (.iload_n 1, 1) := by decide +kernel
theorem dX7_inherits_25 : decode cX7_inherits 25 = .ok (.imul, 1) := by decide +kernel
theorem dX7_inherits_26 : decode cX7_inherits 26 = .ok (.isub, 1) := by decide +kernel
theorem dX7_inherits_27 : decode cX7_inherits 27 = .ok (.ireturn, 1) := by decide +kernel
theorem dX7_isRest_0 : decode cX7_isRest 0 = .ok (.iload_n 0, 1) := by decide +kernel
theorem dX7_isRest_1 : decode cX7_isRest 1 = .ok (.iload_n 1, 1) := by decide +kernel
theorem dX7_isRest_2 : decode cX7_isRest 2 = .ok (.iload_n 2, 1) := by decide +kernel
theorem dX7_isRest_3 : decode cX7_isRest 3 = .ok (.invokestatic 246, 3) := by decide +kernel
theorem dX7_isRest_6 : decode cX7_isRest 6 = .ok (.istore_n 3, 1) := by decide +kernel
theorem dX7_isRest_7 : decode cX7_isRest 7 = .ok (.iload_n 0, 1) := by decide +kernel
theorem dX7_isRest_8 : decode cX7_isRest 8 = .ok (.iload_n 2, 1) := by decide +kernel
theorem dX7_isRest_9 : decode cX7_isRest 9 = .ok (.iload_n 1, 1) := by decide +kernel
theorem dX7_isRest_10 : decode cX7_isRest 10 = .ok (.invokestatic 246, 3) := by decide +kernel
theorem dX7_isRest_13 : decode cX7_isRest 13 = .ok (.istore 4, 2) := by decide +kernel
theorem dX7_isRest_15 : decode cX7_isRest 15 = .ok (.iconst 0, 1) := by decide +kernel
theorem dX7_isRest_16 : decode cX7_isRest 16 = .ok (.istore 5, 2) := by decide +kernel
theorem dX7_isRest_18 : decode cX7_isRest 18 = .ok (.iload 5, 2) := by decide +kernel
theorem dX7_isRest_20 : decode cX7_isRest 20 = .ok (.bipush 6, 2) := by decide +kernel
theorem dX7_isRest_22 : decode cX7_isRest 22 = .ok (.if_icmp .gt 34, 3) := by decide +kernel
theorem dX7_isRest_25 : decode cX7_isRest 25 = .ok (.iload_n 0, 1) := by decide +kernel
theorem dX7_isRest_26 : decode cX7_isRest 26 = .ok (.iload 5, 2) := by decide +kernel
theorem dX7_isRest_28 : decode cX7_isRest 28 = .ok (.iload_n 2, 1) := by decide +kernel
theorem dX7_isRest_29 : decode cX7_isRest 29 = .ok (.invokestatic 246, 3) := by decide +kernel
theorem dX7_isRest_32 : decode cX7_isRest 32 = .ok (.iload_n 3, 1) := by decide +kernel
theorem dX7_isRest_33 : decode cX7_isRest 33 = .ok (.if_icmp .gt 15, 3) := by decide +kernel
theorem dX7_isRest_36 : decode cX7_isRest 36 = .ok (.iload_n 0, 1) := by decide +kernel
theorem dX7_isRest_37 : decode cX7_isRest 37 = .ok (.iload 5, 2) := by decide +kernel
theorem dX7_isRest_39 : decode cX7_isRest 39 = .ok (.iload_n 1, 1) := by decide +kernel
theorem dX7_isRest_40 : decode cX7_isRest 40 = .ok (.invokestatic 246, 3) := by decide +kernel
theorem dX7_isRest_43 : decode cX7_isRest 43 = .ok (.iload 4, 2) := by decide +kernel
theorem dX7_isRest_45 : decode cX7_isRest 45 = .ok (.if_icmp .le 5, 3) := by decide +kernel
theorem dX7_isRest_48 : decode cX7_isRest 48 = .ok (.iconst 0, 1) := by decide +kernel
theorem dX7_isRest_49 : decode cX7_isRest 49 = .ok (.ireturn, 1) := by decide +kernel
theorem dX7_isRest_50 : decode cX7_isRest 50 = .ok (.iinc 5 1, 3) := by decide +kernel
theorem dX7_isRest_53 : decode cX7_isRest 53 = .ok (.goto (-35), 3) := by decide +kernel
theorem dX7_isRest_56 : decode cX7_isRest 56 = .ok (.iconst 1, 1) := by decide +kernel
theorem dX7_isRest_57 : decode cX7_isRest 57 = .ok (.ireturn, 1) := by decide +kernel
theorem dX7_inLowestTerms_0 : decode cX7_inLowestTerms 0 = .ok (.lload_n 2, 1) := by decide +kernel
theorem dX7_inLowestTerms_1 : decode cX7_inLowestTerms 1 = .ok (.lstore 5, 2) := by decide +kernel
theorem dX7_inLowestTerms_3 : decode cX7_inLowestTerms 3 = .ok (.lload_n 0, 1) := by decide +kernel
theorem dX7_inLowestTerms_4 : decode cX7_inLowestTerms 4 = .ok (.lstore 7, 2) := by decide +kernel
theorem dX7_inLowestTerms_6 : decode cX7_inLowestTerms 6 = .ok (.iconst 0, 1) := by decide +kernel
theorem dX7_inLowestTerms_7 : decode cX7_inLowestTerms 7 = .ok (.istore 9, 2) := by decide +kernel
theorem dX7_inLowestTerms_9 : decode cX7_inLowestTerms 9 = .ok (.iload 9, 2) := by decide +kernel
theorem dX7_inLowestTerms_11 : decode cX7_inLowestTerms 11 = .ok (.sipush 1000, 3) := by decide +kernel
theorem dX7_inLowestTerms_14 : decode cX7_inLowestTerms 14 = .ok (.if_icmp .ge 31, 3) := by decide +kernel
theorem dX7_inLowestTerms_17 : decode cX7_inLowestTerms 17 = .ok (.lload 7, 2) := by decide +kernel
theorem dX7_inLowestTerms_19 : decode cX7_inLowestTerms 19 = .ok (.lconst 0, 1) := by decide +kernel
theorem dX7_inLowestTerms_20 : decode cX7_inLowestTerms 20 = .ok (.lcmp, 1) := by decide +kernel
theorem dX7_inLowestTerms_21 : decode cX7_inLowestTerms 21 = .ok (.ifCond .eq 24, 3) := by decide +kernel
theorem dX7_inLowestTerms_24 : decode cX7_inLowestTerms 24 = .ok (.lload 5, 2) := by decide +kernel
theorem dX7_inLowestTerms_26 : decode cX7_inLowestTerms 26 = .ok (.lload 7, 2) := by decide +kernel
theorem dX7_inLowestTerms_28 : decode cX7_inLowestTerms 28 = .ok (.lrem, 1) := by decide +kernel
theorem dX7_inLowestTerms_29 : decode cX7_inLowestTerms 29 = .ok (.lstore 10, 2) := by decide +kernel
theorem dX7_inLowestTerms_31 : decode cX7_inLowestTerms 31 = .ok (.lload 7, 2) := by decide +kernel
theorem dX7_inLowestTerms_33 : decode cX7_inLowestTerms 33 = .ok (.lstore 5, 2) := by decide +kernel
theorem dX7_inLowestTerms_35 : decode cX7_inLowestTerms 35 = .ok (.lload 10, 2) := by decide +kernel
theorem dX7_inLowestTerms_37 : decode cX7_inLowestTerms 37 = .ok (.lstore 7, 2) := by decide +kernel
theorem dX7_inLowestTerms_39 : decode cX7_inLowestTerms 39 = .ok (.iinc 9 1, 3) := by decide +kernel
theorem dX7_inLowestTerms_42 : decode cX7_inLowestTerms 42 = .ok (.goto (-33), 3) := by decide +kernel
theorem dX7_inLowestTerms_45 : decode cX7_inLowestTerms 45 = .ok (.iload 4, 2) := by decide +kernel
theorem dX7_inLowestTerms_47 : decode cX7_inLowestTerms 47 = .ok (.ifCond .eq 7, 3) := by decide +kernel
theorem dX7_inLowestTerms_50 : decode cX7_inLowestTerms 50 = .ok (.lload_n 2, 1) := by decide +kernel
theorem dX7_inLowestTerms_51 : decode cX7_inLowestTerms 51 = .ok (.goto 4, 3) := by decide +kernel
theorem dX7_inLowestTerms_54 : decode cX7_inLowestTerms 54 = .ok (.lload_n 0, 1) := by decide +kernel
theorem dX7_inLowestTerms_55 : decode cX7_inLowestTerms 55 = .ok (.lstore 9, 2) := by decide +kernel
theorem dX7_inLowestTerms_57 : decode cX7_inLowestTerms 57 = .ok (.lload 5, 2) := by decide +kernel
theorem dX7_inLowestTerms_59 : decode cX7_inLowestTerms 59 = .ok (.lconst 0, 1) := by decide +kernel
theorem dX7_inLowestTerms_60 : decode cX7_inLowestTerms 60 = .ok (.lcmp, 1) := by decide +kernel
theorem dX7_inLowestTerms_61 : decode cX7_inLowestTerms 61 = .ok (.ifCond .ne 8, 3) := by decide +kernel
theorem dX7_inLowestTerms_64 : decode cX7_inLowestTerms 64 = .ok (.lload 9, 2) := by decide +kernel
theorem dX7_inLowestTerms_66 : decode cX7_inLowestTerms 66 = .ok (.goto 8, 3) := by decide +kernel
theorem dX7_inLowestTerms_69 : decode cX7_inLowestTerms 69 = .ok (.lload 9, 2) := by decide +kernel
theorem dX7_inLowestTerms_71 : decode cX7_inLowestTerms 71 = .ok (.lload 5, 2) := by decide +kernel
theorem dX7_inLowestTerms_73 : decode cX7_inLowestTerms 73 = .ok (.ldiv, 1) := by decide +kernel
theorem dX7_inLowestTerms_74 : decode cX7_inLowestTerms 74 = .ok (.lreturn, 1) := by decide +kernel
