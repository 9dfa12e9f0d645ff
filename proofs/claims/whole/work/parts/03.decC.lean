theorem dX8_init_0 : decode cX8_init 0 = .ok (.aload_n 0, 1) := by decide +kernel
theorem dX8_init_1 : decode cX8_init 1 = .ok (.invokespecial 3, 3) := by decide +kernel
theorem dX8_init_4 : decode cX8_init 4 = .ok (.aload_n 0, 1) := by decide +kernel
theorem dX8_init_5 : decode cX8_init 5 = .ok (.bipush 6, 2) := by decide +kernel
theorem dX8_init_7 : decode cX8_init 7 = .ok (.newarray .int, 2) := by decide +kernel
theorem dX8_init_9 : decode cX8_init 9 = .ok (.putfield 9, 3) := by decide +kernel
theorem dX8_init_12 : decode cX8_init 12 = .ok (.aload_n 0, 1) := by decide +kernel
theorem dX8_init_13 : decode cX8_init 13 = .ok (.iconst 5, 1) := by decide +kernel
theorem dX8_init_14 : decode cX8_init 14 = .ok (.newarray .int, 2) := by decide +kernel
theorem dX8_init_16 : decode cX8_init 16 = .ok (.putfield 15, 3) := by decide +kernel
theorem dX8_init_19 : decode cX8_init 19 = .ok (.aload_n 0, 1) := by decide +kernel
theorem dX8_init_20 : decode cX8_init 20 = .ok (.iconst 5, 1) := by decide +kernel
theorem dX8_init_21 : decode cX8_init 21 = .ok (.newarray .int, 2) := by decide +kernel
theorem dX8_init_23 : decode cX8_init 23 = .ok (.putfield 18, 3) := by decide +kernel
theorem dX8_init_26 : decode cX8_init 26 = .ok (.aload_n 0, 1) := by decide +kernel
theorem dX8_init_27 : decode cX8_init 27 = .ok (.iconst 5, 1) := by decide +kernel
theorem dX8_init_28 : decode cX8_init 28 = .ok (.newarray .int, 2) := by decide +kernel
theorem dX8_init_30 : decode cX8_init 30 = .ok (.putfield 21, 3) := by decide +kernel
theorem dX8_init_33 : decode cX8_init 33 = .ok (.aload_n 0, 1) := by decide +kernel
theorem dX8_init_34 : decode cX8_init 34 = .ok (.iconst 5, 1) := by decide +kernel
theorem dX8_init_35 : decode cX8_init 35 = .ok (.newarray .int, 2) := by decide +kernel
theorem dX8_init_37 : decode cX8_init 37 = .ok (.putfield 24, 3) := by decide +kernel
theorem dX8_init_40 : decode cX8_init 40 = .ok (.aload_n 0, 1) := by decide +kernel
theorem dX8_init_41 : decode cX8_init 41 = .ok (.bipush 16, 2) := by decide +kernel
theorem dX8_init_43 : decode cX8_init 43 = .ok (.newarray .int, 2) := by decide +kernel
theorem dX8_init_45 : decode cX8_init 45 = .ok (.putfield 27, 3) := by decide +kernel
theorem dX8_init_48 : decode cX8_init 48 = .ok (.aload_n 0, 1) := by decide +kernel
theorem dX8_init_49 : decode cX8_init 49 = .ok (.bipush 16, 2) := by decide +kernel
theorem dX8_init_51 : decode cX8_init 51 = .ok (.newarray .int, 2) := by decide +kernel
theorem dX8_init_53 : decode cX8_init 53 = .ok (.putfield 30, 3) := by decide +kernel
theorem dX8_init_56 : decode cX8_init 56 = .ok (.aload_n 0, 1) := by decide +kernel
theorem dX8_init_57 : decode cX8_init 57 = .ok (.bipush 16, 2) := by decide +kernel
theorem dX8_init_59 : decode cX8_init 59 = .ok (.newarray .int, 2) := by decide +kernel
theorem dX8_init_61 : decode cX8_init 61 = .ok (.putfield 33, 3) := by decide +kernel
theorem dX8_init_64 : decode cX8_init 64 = .ok (.aload_n 0, 1) := by decide +kernel
theorem dX8_init_65 : decode cX8_init 65 = .ok (.bipush 16, 2) := by decide +kernel
theorem dX8_init_67 : decode cX8_init 67 = .ok (.newarray .int, 2) := by decide +kernel
theorem dX8_init_69 : decode cX8_init 69 = .ok (.putfield 36, 3) := by decide +kernel
theorem dX8_init_72 : decode cX8_init 72 = .ok (.aload_n 0, 1) := by decide +kernel
theorem dX8_init_73 : decode cX8_init 73 = .ok (.bipush 6, 2) := by decide +kernel
theorem dX8_init_75 : decode cX8_init 75 = .ok (.newarray .int, 2) := by decide +kernel
theorem dX8_init_77 : decode cX8_init 77 = .ok (.putfield 39, 3) := by decide +kernel
theorem dX8_init_80 : decode cX8_init 80 = .ok (.aload_n 0, 1) := by decide +kernel
theorem dX8_init_81 : decode cX8_init 81 = .ok (.bipush 6, 2) := by decide +kernel
theorem dX8_init_83 : decode cX8_init 83 = .ok (.newarray .int, 2) := by decide +kernel
theorem dX8_init_85 : decode cX8_init 85 = .ok (.putfield 42, 3) := by decide +kernel
theorem dX8_init_88 : decode cX8_init 88 = .ok (.aload_n 0, 1) := by decide +kernel
theorem dX8_init_89 : decode cX8_init 89 = .ok (.bipush 6, 2) := by decide +kernel
theorem dX8_init_91 : decode cX8_init 91 = .ok (.newarray .int, 2) := by decide +kernel
theorem dX8_init_93 : decode cX8_init 93 = .ok (.putfield 45, 3) := by decide +kernel
theorem dX8_init_96 : decode cX8_init 96 = .ok (.aload_n 0, 1) := by decide +kernel
theorem dX8_init_97 : decode cX8_init 97 = .ok (.bipush 11, 2) := by decide +kernel
theorem dX8_init_99 : decode cX8_init 99 = .ok (.newarray .long, 2) := by decide +kernel
theorem dX8_init_101 : decode cX8_init 101 = .ok (.putfield 48, 3) := by decide +kernel
theorem dX8_init_104 : decode cX8_init 104 = .ok (.aload_n 0, 1) := by decide +kernel
theorem dX8_init_105 : decode cX8_init 105 = .ok (.bipush 11, 2) := by decide +kernel
theorem dX8_init_107 : decode cX8_init 107 = .ok (.newarray .int, 2) := by decide +kernel
theorem dX8_init_109 : decode cX8_init 109 = .ok (.putfield 52, 3) := by decide +kernel
theorem dX8_init_112 : decode cX8_init 112 = .ok (.aload_n 0, 1) := by decide +kernel
theorem dX8_init_113 : decode cX8_init 113 = .ok (.bipush 11, 2) := by decide +kernel
theorem dX8_init_115 : decode cX8_init 115 = .ok (.newarray .int, 2) := by decide +kernel
theorem dX8_init_117 : decode cX8_init 117 = .ok (.putfield 55, 3) := by decide +kernel
theorem dX8_init_120 : decode cX8_init 120 = .ok (.return_, 1) := by decide +kernel
theorem dX8_find_0 : decode cX8_find 0 = .ok (.iconst 0, 1) := by decide +kernel
theorem dX8_find_1 : decode cX8_find 1 = .ok (.istore_n 3, 1) := by decide +kernel
theorem dX8_find_2 : decode cX8_find 2 = .ok (.iload_n 3, 1) := by decide +kernel
theorem dX8_find_3 : decode cX8_find 3 = .ok (.aload_n 0, 1) := by decide +kernel
theorem dX8_find_4 : decode cX8_find 4 = .ok (.getfield 58, 3) := by decide +kernel
theorem dX8_find_7 : decode cX8_find 7 = .ok (.if_icmp .ge 22, 3) := by decide +kernel
theorem dX8_find_10 : decode cX8_find 10 = .ok (.aload_n 0, 1) := by decide +kernel
theorem dX8_find_11 : decode cX8_find 11 = .ok (.getfield 48, 3) := by decide +kernel
theorem dX8_find_14 : decode cX8_find 14 = .ok (.iload_n 3, 1) := by decide +kernel
theorem dX8_find_15 : decode cX8_find 15 = .ok (.laload, 1) := by decide +kernel
theorem dX8_find_16 : decode cX8_find 16 = .ok (.lload_n 1, 1) := by decide +kernel
theorem dX8_find_17 : decode cX8_find 17 = .ok (.lcmp, 1) := by decide +kernel
theorem dX8_find_18 : decode cX8_find 18 = .ok (.ifCond .ne 5, 3) := by decide +kernel
theorem dX8_find_21 : decode cX8_find 21 = .ok (.iload_n 3, 1) := by decide +kernel
theorem dX8_find_22 : decode cX8_find 22 = .ok (.ireturn, 1) := by decide +kernel
theorem dX8_find_23 : decode cX8_find 23 = .ok (.iinc 3 1, 3) := by decide +kernel
theorem dX8_find_26 : decode cX8_find 26 = .ok (.goto (-24), 3) := by decide +kernel
theorem dX8_find_29 : decode cX8_find 29 = .ok (.iconst (-1), 1) := by decide +kernel
theorem dX8_find_30 : decode cX8_find 30 = .ok (.ireturn, 1) := by decide +kernel
theorem dX8_areAlike_0 : decode cX8_areAlike 0 = .ok (.iload_n 1, 1) := by decide +kernel
theorem dX8_areAlike_1 : decode cX8_areAlike 1 = .ok (.iload_n 2, 1) := by decide +kernel
theorem dX8_areAlike_2 : decode cX8_areAlike 2 = .ok (.if_icmp .eq 37, 3) := by decide +kernel
theorem dX8_areAlike_5 : decode cX8_areAlike 5 = .ok (.aload_n 0, 1) := by decide +kernel
theorem dX8_areAlike_6 : decode cX8_areAlike 6 = .ok (.getfield 15, 3) := by decide +kernel
theorem dX8_areAlike_9 : decode cX8_areAlike 9 = .ok (.iload_n 1, 1) := by decide +kernel
theorem dX8_areAlike_10 : decode cX8_areAlike 10 = .ok (.iaload, 1) := by decide +kernel
theorem dX8_areAlike_11 : decode cX8_areAlike 11 = .ok (.aload_n 0, 1) := by decide +kernel
theorem dX8_areAlike_12 : decode cX8_areAlike 12 = .ok (.getfield 15, 3) := by decide +kernel
theorem dX8_areAlike_15 : decode cX8_areAlike 15 = .ok (.iload_n 2, 1) := by decide +kernel
theorem dX8_areAlike_16 : decode cX8_areAlike 16 = .ok (.iaload, 1) := by decide +kernel
theorem dX8_areAlike_17 : decode cX8_areAlike 17 = .ok (.if_icmp .ne 22, 3) := by decide +kernel
theorem dX8_areAlike_20 : decode cX8_areAlike 20 = .ok (.aload_n 0, 1) := by decide +kernel
theorem dX8_areAlike_21 : decode cX8_areAlike 21 = .ok (.getfield 21, 3) := by decide +kernel
theorem dX8_areAlike_24 : decode cX8_areAlike 24 = .ok (.iload_n 1, 1) := by decide +kernel
theorem dX8_areAlike_25 : decode cX8_areAlike 25 = .ok (.iaload, 1) := by decide +kernel
theorem dX8_areAlike_26 : decode cX8_areAlike 26 = .ok (.aload_n 0, 1) := by decide +kernel
theorem dX8_areAlike_27 : decode cX8_areAlike 27 = .ok (.getfield 21, 3) := by decide +kernel
theorem dX8_areAlike_30 : decode cX8_areAlike 30 = .ok (.iload_n 2, 1) := by decide +kernel
theorem dX8_areAlike_31 : decode cX8_areAlike 31 = .ok (.iaload, 1) := by decide +kernel
theorem dX8_areAlike_32 : decode cX8_areAlike 32 = .ok (.if_icmp .ne 7, 3) := by decide +kernel
theorem dX8_areAlike_35 : decode cX8_areAlike 35 = .ok (.iconst 1, 1) := by decide +kernel
theorem dX8_areAlike_36 : decode cX8_areAlike 36 = .ok (.goto 4, 3) := by decide +kernel
theorem dX8_areAlike_39 : decode cX8_areAlike 39 = .ok (.iconst 0, 1) := by decide +kernel
theorem dX8_areAlike_40 : decode cX8_areAlike 40 = .ok (.ireturn, 1) := by decide +kernel
theorem dX9_init_0 : decode cX9_init 0 = .ok (.aload_n 0, 1) := by decide +kernel
theorem dX9_init_1 : decode cX9_init 1 = .ok (.invokespecial 3, 3) := by decide +kernel
theorem dX9_init_4 : decode cX9_init 4 = .ok (.aload_n 0, 1) := by decide +kernel
theorem dX9_init_5 : decode cX9_init 5 = .ok (.iconst (-1), 1) := by decide +kernel
theorem dX9_init_6 : decode cX9_init 6 = .ok (.putfield 9, 3) := by decide +kernel
theorem dX9_init_9 : decode cX9_init 9 = .ok (.aload_n 0, 1) := by decide +kernel
theorem dX9_init_10 : decode cX9_init 10 = .ok (.sipush 1000, 3) := by decide +kernel
theorem dX9_init_13 : decode cX9_init 13 = .ok (.newarray .byte, 2) := by decide +kernel
theorem dX9_init_15 : decode cX9_init 15 = .ok (.putfield 13, 3) := by decide +kernel
theorem dX9_init_18 : decode cX9_init 18 = .ok (.aload_n 0, 1) := by decide +kernel
theorem dX9_init_19 : decode cX9_init 19 = .ok (.bipush 11, 2) := by decide +kernel
theorem dX9_init_21 : decode cX9_init 21 = .ok (.newarray .int, 2) := by decide +kernel
theorem dX9_init_23 : decode cX9_init 23 = .ok (.putfield 17, 3) := by decide +kernel
theorem dX9_init_26 : decode cX9_init 26 = .ok (.aload_n 0, 1) := by decide +kernel
theorem dX9_init_27 : decode cX9_init 27 = .ok (.bipush 11, 2) := by decide +kernel
theorem dX9_init_29 : decode cX9_init 29 = .ok (.newarray .int, 2) := by decide +kernel
theorem dX9_init_31 : decode cX9_init 31 = .ok (.putfield 21, 3) := by decide +kernel
theorem dX9_init_34 : decode cX9_init 34 = .ok (.aload_n 0, 1) := by decide +kernel
theorem dX9_init_35 : decode cX9_init 35 = .ok (.sipush 176, 3) := by decide +kernel
theorem dX9_init_38 : decode cX9_init 38 = .ok (.newarray .int, 2) := by decide +kernel
theorem dX9_init_40 : decode cX9_init 40 = .ok (.putfield 24, 3) := by decide +kernel
theorem dX9_init_43 : decode cX9_init 43 = .ok (.aload_n 0, 1) := by decide +kernel
theorem dX9_init_44 : decode cX9_init 44 = .ok (.bipush 33, 2) := by decide +kernel
theorem dX9_init_46 : decode cX9_init 46 = .ok (.newarray .int, 2) := by decide +kernel
theorem dX9_init_48 : decode cX9_init 48 = .ok (.putfield 27, 3) := by decide +kernel
theorem dX9_init_51 : decode cX9_init 51 = .ok (.aload_n 0, 1) := by decide +kernel
theorem dX9_init_52 : decode cX9_init 52 = .ok (.iconst 3, 1) := by decide +kernel
theorem dX9_init_53 : decode cX9_init 53 = .ok (.newarray .int, 2) := by decide +kernel
theorem dX9_init_55 : decode cX9_init 55 = .ok (.putfield 30, 3) := by decide +kernel
theorem dX9_init_58 : decode cX9_init 58 = .ok (.aload_n 0, 1) := by decide +kernel
theorem dX9_init_59 : decode cX9_init 59 = .ok (.iconst 3, 1) := by decide +kernel
theorem dX9_init_60 : decode cX9_init 60 = .ok (.newarray .int, 2) := by decide +kernel
theorem dX9_init_62 : decode cX9_init 62 = .ok (.putfield 33, 3) := by decide +kernel
theorem dX9_init_65 : decode cX9_init 65 = .ok (.aload_n 0, 1) := by decide +kernel
theorem dX9_init_66 : decode cX9_init 66 = .ok (.bipush 6, 2) := by decide +kernel
theorem dX9_init_68 : decode cX9_init 68 = .ok (.newarray .int, 2) := by decide +kernel
theorem dX9_init_70 : decode cX9_init 70 = .ok (.putfield 36, 3) := by decide +kernel
theorem dX9_init_73 : decode cX9_init 73 = .ok (.aload_n 0, 1) := by decide +kernel
theorem dX9_init_74 : decode cX9_init 74 = .ok (.bipush 6, 2) := by decide +kernel
theorem dX9_init_76 : decode cX9_init 76 = .ok (.newarray .int, 2) := by decide +kernel
theorem dX9_init_78 : decode cX9_init 78 = .ok (.putfield 39, 3) := by decide +kernel
theorem dX9_init_81 : decode cX9_init 81 = .ok (.aload_n 0, 1) := by decide +kernel
theorem dX9_init_82 : decode cX9_init 82 = .ok (.iconst 5, 1) := by decide +kernel
theorem dX9_init_83 : decode cX9_init 83 = .ok (.newarray .int, 2) := by decide +kernel
theorem dX9_init_85 : decode cX9_init 85 = .ok (.putfield 42, 3) := by decide +kernel
theorem dX9_init_88 : decode cX9_init 88 = .ok (.return_, 1) := by decide +kernel
theorem dX9_thrown_0 : decode cX9_thrown 0 = .ok (.aload_n 0, 1) := by decide +kernel
theorem dX9_thrown_1 : decode cX9_thrown 1 = .ok (.getfield 45, 3) := by decide +kernel
theorem dX9_thrown_4 : decode cX9_thrown 4 = .ok (.ireturn, 1) := by decide +kernel
theorem dX9_refused_0 : decode cX9_refused 0 = .ok (.aload_n 0, 1) := by decide +kernel
theorem dX9_refused_1 : decode cX9_refused 1 = .ok (.iload_n 1, 1) := by decide +kernel
theorem dX9_refused_2 : decode cX9_refused 2 = .ok (.putfield 48, 3) := by decide +kernel
theorem dX9_refused_5 : decode cX9_refused 5 = .ok (.aload_n 0, 1) := by decide +kernel
theorem dX9_refused_6 : decode cX9_refused 6 = .ok (.iconst (-1), 1) := by decide +kernel
theorem dX9_refused_7 : decode cX9_refused 7 = .ok (.putfield 9, 3) := by decide +kernel
theorem dX9_refused_10 : decode cX9_refused 10 = .ok (.iconst (-1), 1) := by decide +kernel
theorem dX9_refused_11 : decode cX9_refused 11 = .ok (.ireturn, 1) := by decide +kernel
theorem dX9_lost_0 : decode cX9_lost 0 = .ok (.aload_n 0, 1) := by decide +kernel
theorem dX9_lost_1 : decode cX9_lost 1 = .ok (.iload_n 1, 1) := by decide +kernel
theorem dX9_lost_2 : decode cX9_lost 2 = .ok (.invokevirtual 51, 3) := by decide +kernel
theorem dX9_lost_5 : decode cX9_lost 5 = .ok (.pop, 1) := by decide +kernel
theorem dX9_lost_6 : decode cX9_lost 6 = .ok (.bipush (-100), 2) := by decide +kernel
theorem dX9_lost_8 : decode cX9_lost 8 = .ok (.ireturn, 1) := by decide +kernel
theorem dX9_denied_0 : decode cX9_denied 0 = .ok (.aload_n 0, 1) := by decide +kernel
theorem dX9_denied_1 : decode cX9_denied 1 = .ok (.iload_n 1, 1) := by decide +kernel
theorem dX9_denied_2 : decode cX9_denied 2 = .ok (.invokevirtual 51, 3) := by decide +kernel
theorem dX9_denied_5 : decode cX9_denied 5 = .ok (.pop, 1) := by decide +kernel
theorem dX9_denied_6 : decode cX9_denied 6 = .ok (.iconst 0, 1) := by decide +kernel
theorem dX9_denied_7 : decode cX9_denied 7 = .ok (.ireturn, 1) := by decide +kernel
theorem dX9_good_0 : decode cX9_good 0 = .ok (.aload_n 0, 1) := by decide +kernel
theorem dX9_good_1 : decode cX9_good 1 = .ok (.iconst 0, 1) := by decide +kernel
theorem dX9_good_2 : decode cX9_good 2 = .ok (.putfield 48, 3) := by decide +kernel
theorem dX9_good_5 : decode cX9_good 5 = .ok (.aload_n 0, 1) := by decide +kernel
theorem dX9_good_6 : decode cX9_good 6 = .ok (.iconst (-1), 1) := by decide +kernel
theorem dX9_good_7 : decode cX9_good 7 = .ok (.putfield 9, 3) := by decide +kernel
theorem dX9_good_10 : decode cX9_good 10 = .ok (.iload_n 1, 1) := by decide +kernel
theorem dX9_good_11 : decode cX9_good 11 = .ok (.ireturn, 1) := by decide +kernel
theorem dX9_granted_0 : decode cX9_granted 0 = .ok (.aload_n 0, 1) := by decide +kernel
theorem dX9_granted_1 : decode cX9_granted 1 = .ok (.iconst 0, 1) := by decide +kernel
theorem dX9_granted_2 : decode cX9_granted 2 = .ok (.invokevirtual 55, 3) := by decide +kernel
theorem dX9_granted_5 : decode cX9_granted 5 = .ok (.pop, 1) := by decide +kernel
theorem dX9_granted_6 : decode cX9_granted 6 = .ok (.iconst 1, 1) := by decide +kernel
theorem dX9_granted_7 : decode cX9_granted 7 = .ok (.ireturn, 1) := by decide +kernel
theorem dX9_in_0 : decode cX9_in 0 = .ok (.iload_n 0, 1) := by decide +kernel
theorem dX9_in_1 : decode cX9_in 1 = .ok (.iload_n 1, 1) := by decide +kernel
theorem dX9_in_2 : decode cX9_in 2 = .ok (.if_icmp .lt 12, 3) := by decide +kernel
theorem dX9_in_5 : decode cX9_in 5 = .ok (.iload_n 0, 1) := by decide +kernel
theorem dX9_in_6 : decode cX9_in 6 = .ok (.iload_n 2, 1) := by decide +kernel
theorem dX9_in_7 : decode cX9_in 7 = .ok (.if_icmp .gt 7, 3) := by decide +kernel
theorem dX9_in_10 : decode cX9_in 10 = .ok (.iconst 1, 1) := by decide +kernel
theorem dX9_in_11 : decode cX9_in 11 = .ok (.goto 4, 3) := by decide +kernel
theorem dX9_in_14 : decode cX9_in 14 = .ok (.iconst 0, 1) := by decide +kernel
theorem dX9_in_15 : decode cX9_in 15 = .ok (.ireturn, 1) := by decide +kernel
theorem dX9_bit_0 : decode cX9_bit 0 = .ok (.iload_n 0, 1) := by decide +kernel
theorem dX9_bit_1 : decode cX9_bit 1 = .ok (.iload_n 1, 1) := by decide +kernel
theorem dX9_bit_2 : decode cX9_bit 2 = .ok (.ishr, 1) := by decide +kernel
theorem dX9_bit_3 : decode cX9_bit 3 = .ok (.iconst 1, 1) := by decide +kernel
theorem dX9_bit_4 : decode cX9_bit 4 = .ok (.iand, 1) := by decide +kernel
theorem dX9_bit_5 : decode cX9_bit 5 = .ok (.iconst 1, 1) := by decide +kernel
theorem dX9_bit_6 : decode cX9_bit 6 = .ok (.if_icmp .ne 7, 3) := by decide +kernel
theorem dX9_bit_9 : decode cX9_bit 9 = .ok (.iconst 1, 1) := by decide +kernel
theorem dX9_bit_10 : decode cX9_bit 10 = .ok (.goto 4, 3) := by decide +kernel
theorem dX9_bit_13 : decode cX9_bit 13 = .ok (.iconst 0, 1) := by decide +kernel
theorem dX9_bit_14 : decode cX9_bit 14 = .ok (.ireturn, 1) := by decide +kernel
theorem dX9_bits_0 : decode cX9_bits 0 = .ok (.iconst 0, 1) := by decide +kernel
theorem dX9_bits_1 : decode cX9_bits 1 = .ok (.istore_n 1, 1) := by decide +kernel
theorem dX9_bits_2 : decode cX9_bits 2 = .ok (.iload_n 0, 1) := by decide +kernel
theorem dX9_bits_3 : decode cX9_bits 3 = .ok (.istore_n 2, 1) := by decide +kernel
theorem dX9_bits_4 : decode cX9_bits 4 = .ok (.iload_n 2, 1) := by decide +kernel
theorem dX9_bits_5 : decode cX9_bits 5 = .ok (.ifCond .eq 15, 3) := by decide +kernel
theorem dX9_bits_8 : decode cX9_bits 8 = .ok (.iinc 1 1, 3) := by decide +kernel
theorem dX9_bits_11 : decode cX9_bits 11 = .ok (.iload_n 2, 1) := by decide +kernel
theorem dX9_bits_12 : decode cX9_bits 12 = .ok (.iload_n 2, 1) := by decide +kernel
theorem dX9_bits_13 : decode cX9_bits 13 = .ok (.iconst 1, 1) := by decide +kernel
theorem dX9_bits_14 : decode cX9_bits 14 = .ok (.isub, 1) := by decide +kernel
theorem dX9_bits_15 : decode cX9_bits 15 = .ok (.iand, 1) := by decide +kernel
theorem dX9_bits_16 : decode cX9_bits 16 = .ok (.istore_n 2, 1) := by decide +kernel
theorem dX9_bits_17 : decode cX9_bits 17 = .ok (.goto (-13), 3) := by decide +kernel
theorem dX9_bits_20 : decode cX9_bits 20 = .ok (.iload_n 1, 1) := by decide +kernel
theorem dX9_bits_21 : decode cX9_bits 21 = .ok (.ireturn, 1) := by decide +kernel
theorem dX9_common_0 : decode cX9_common 0 = .ok (.lload_n 0, 1) := by decide +kernel
theorem dX9_common_1 : decode cX9_common 1 = .ok (.lstore 4, 2) := by decide +kernel
theorem dX9_common_3 : decode cX9_common 3 = .ok (.lload_n 2, 1) := by decide +kernel
theorem dX9_common_4 : decode cX9_common 4 = .ok (.lstore 6, 2) := by decide +kernel
theorem dX9_common_6 : decode cX9_common 6 = .ok (.lload 6, 2) := by decide +kernel
theorem dX9_common_8 : decode cX9_common 8 = .ok (.lconst 0, 1) := by decide +kernel
theorem dX9_common_9 : decode cX9_common 9 = .ok (.lcmp, 1) := by decide +kernel
theorem dX9_common_10 : decode cX9_common 10 = .ok (.ifCond .eq 21, 3) := by decide +kernel
theorem dX9_common_13 : decode cX9_common 13 = .ok (.lload 4, 2) := by decide +kernel
theorem dX9_common_15 : decode cX9_common 15 = .ok (.lload 6, 2) := by decide +kernel
theorem dX9_common_17 : decode cX9_common 17 = .ok (.lrem, 1) := by decide +kernel
theorem dX9_common_18 : decode cX9_common 18 = .ok (.lstore 8, 2) := by decide +kernel
theorem dX9_common_20 : decode cX9_common 20 = .ok (.lload 6, 2) := by decide +kernel
theorem dX9_common_22 : decode cX9_common 22 = .ok (.lstore 4, 2) := by decide +kernel
theorem dX9_common_24 : decode cX9_common 24 = .ok (.lload 8, 2) := by decide +kernel
theorem dX9_common_26 : decode cX9_common 26 = .ok (.lstore 6, 2) := by decide +kernel
theorem dX9_common_28 : decode cX9_common 28 = .ok (.goto (-22), 3) := by decide +kernel
theorem dX9_common_31 : decode cX9_common 31 = .ok (.lload 4, 2) := by decide +kernel
theorem dX9_common_33 : decode cX9_common 33 = .ok (.lreturn, 1) := by decide +kernel
theorem dX9_fraction_0 : decode cX9_fraction 0 = .ok (.aload_n 0, 1) := by decide +kernel
theorem dX9_fraction_1 : decode cX9_fraction 1 = .ok (.iconst 0, 1) := by decide +kernel
theorem dX9_fraction_2 : decode cX9_fraction 2 = .ok (.invokevirtual 55, 3) := by decide +kernel
theorem dX9_fraction_5 : decode cX9_fraction 5 = .ok (.pop, 1) := by decide +kernel
theorem dX9_fraction_6 : decode cX9_fraction 6 = .ok (.iload 5, 2) := by decide +kernel
theorem dX9_fraction_8 : decode cX9_fraction 8 = .ok (.ifCond .eq 7, 3) := by decide +kernel
theorem dX9_fraction_11 : decode cX9_fraction 11 = .ok (.lload_n 3, 1) := by decide +kernel
theorem dX9_fraction_12 : decode cX9_fraction 12 = .ok (.goto 4, 3) := by decide +kernel
theorem dX9_fraction_15 : decode cX9_fraction 15 = .ok (.lload_n 1, 1) := by decide +kernel
theorem dX9_fraction_16 : decode cX9_fraction 16 = .ok (.lload_n 1, 1) := by decide +kernel
theorem dX9_fraction_17 : decode cX9_fraction 17 = .ok (.lload_n 3, 1) := by decide +kernel
theorem dX9_fraction_18 : decode cX9_fraction 18 = .ok (.invokestatic 58, 3) := by decide +kernel
theorem dX9_fraction_21 : decode cX9_fraction 21 = .ok (.ldiv, 1) := by decide +kernel
theorem dX9_fraction_22 : decode cX9_fraction 22 = .ok (.lreturn, 1) := by decide +kernel
theorem dX9_byteAt_0 : decode cX9_byteAt 0 = .ok (.iload_n 1, 1) := by decide +kernel
theorem dX9_byteAt_1 : decode cX9_byteAt 1 = .ok (.aload_n 0, 1) := by decide +kernel
theorem dX9_byteAt_2 : decode cX9_byteAt 2 = .ok (.getfield 62, 3) := by decide +kernel
theorem dX9_byteAt_5 : decode cX9_byteAt 5 = .ok (.if_icmp .ge 16, 3) := by decide +kernel
theorem dX9_byteAt_8 : decode cX9_byteAt 8 = .ok (.aload_n 0, 1) := by decide +kernel
theorem dX9_byteAt_9 : decode cX9_byteAt 9 = .ok (.getfield 13, 3) := by decide +kernel
theorem dX9_byteAt_12 : decode cX9_byteAt 12 = .ok (.iload_n 1, 1) := by decide +kernel
theorem dX9_byteAt_13 : decode cX9_byteAt 13 = .ok (.baload, 1) := by decide +kernel
theorem dX9_byteAt_14 : decode cX9_byteAt 14 = .ok (.sipush 255, 3) := by decide +kernel
theorem dX9_byteAt_17 : decode cX9_byteAt 17 = .ok (.iand, 1) := by decide +kernel
theorem dX9_byteAt_18 : decode cX9_byteAt 18 = .ok (.goto 4, 3) := by decide +kernel
theorem dX9_byteAt_21 : decode cX9_byteAt 21 = .ok (.iconst (-1), 1) := by decide +kernel
theorem dX9_byteAt_22 : decode cX9_byteAt 22 = .ok (.ireturn, 1) := by decide +kernel
theorem dX9_isLetter_0 : decode cX9_isLetter 0 = .ok (.iload_n 0, 1) := by decide +kernel
theorem dX9_isLetter_1 : decode cX9_isLetter 1 = .ok (.bipush 97, 2) := by decide +kernel
theorem dX9_isLetter_3 : decode cX9_isLetter 3 = .ok (.if_icmp .lt 13, 3) := by decide +kernel
theorem dX9_isLetter_6 : decode cX9_isLetter 6 = .ok (.iload_n 0, 1) := by decide +kernel
theorem dX9_isLetter_7 : decode cX9_isLetter 7 = .ok (.bipush 122, 2) := by decide +kernel
theorem dX9_isLetter_9 : decode cX9_isLetter 9 = .ok (.if_icmp .gt 7, 3) := by decide +kernel
theorem dX9_isLetter_12 : decode cX9_isLetter 12 = .ok (.iconst 1, 1) := by decide +kernel
theorem dX9_isLetter_13 : decode cX9_isLetter 13 = .ok (.goto 4, 3) := by decide +kernel
theorem dX9_isLetter_16 : decode cX9_isLetter 16 = .ok (.iconst 0, 1) := by decide +kernel
theorem dX9_isLetter_17 : decode cX9_isLetter 17 = .ok (.ireturn, 1) := by decide +kernel
theorem dX9_isDigit_0 : decode cX9_isDigit 0 = .ok (.iload_n 0, 1) := by decide +kernel
theorem dX9_isDigit_1 : decode cX9_isDigit 1 = .ok (.bipush 48, 2) := by decide +kernel
theorem dX9_isDigit_3 : decode cX9_isDigit 3 = .ok (.if_icmp .lt 13, 3) := by decide +kernel
theorem dX9_isDigit_6 : decode cX9_isDigit 6 = .ok (.iload_n 0, 1) := by decide +kernel
theorem dX9_isDigit_7 : decode cX9_isDigit 7 = .ok (.bipush 57, 2) := by decide +kernel
theorem dX9_isDigit_9 : decode cX9_isDigit 9 = .ok (.if_icmp .gt 7, 3) := by decide +kernel
theorem dX9_isDigit_12 : decode cX9_isDigit 12 = .ok (.iconst 1, 1) := by decide +kernel
theorem dX9_isDigit_13 : decode cX9_isDigit 13 = .ok (.goto 4, 3) := by decide +kernel
theorem dX9_isDigit_16 : decode cX9_isDigit 16 = .ok (.iconst 0, 1) := by decide +kernel
theorem dX9_isDigit_17 : decode cX9_isDigit 17 = .ok (.ireturn, 1) := by decide +kernel
theorem dX9_packed_0 : decode cX9_packed 0 = .ok (.lconst 0, 1) := by decide +kernel
theorem dX9_packed_1 : decode cX9_packed 1 = .ok (.lstore_n 1, 1) := by decide +kernel
theorem dX9_packed_2 : decode cX9_packed 2 = .ok (.iconst 0, 1) := by decide +kernel
theorem dX9_packed_3 : decode cX9_packed 3 = .ok (.istore_n 3, 1) := by decide +kernel
theorem dX9_packed_4 : decode cX9_packed 4 = .ok (.iload_n 3, 1) := by decide +kernel
theorem dX9_packed_5 : decode cX9_packed 5 = .ok (.aload_n 0, 1) := by decide +kernel
theorem dX9_packed_6 : decode cX9_packed 6 = .ok (.invokevirtual 65, 3) := by decide +kernel
theorem dX9_packed_9 : decode cX9_packed 9 = .ok (.if_icmp .ge 27, 3) := by decide +kernel
theorem dX9_packed_12 : decode cX9_packed 12 = .ok (.ldc2_w 71, 3) := by decide +kernel
theorem dX9_packed_15 : decode cX9_packed 15 = .ok (.lload_n 1, 1) := by decide +kernel
theorem dX9_packed_16 : decode cX9_packed 16 = .ok (.lmul, 1) := by decide +kernel
theorem dX9_packed_17 : decode cX9_packed 17 = .ok (.aload_n 0, 1) := by decide +kernel
theorem dX9_packed_18 : decode cX9_packed 18 = .ok (.iload_n 3, 1) := by decide +kernel
theorem dX9_packed_19 : decode cX9_packed 19 = .ok (.invokevirtual 73, 3) := by decide +kernel
theorem dX9_packed_22 : decode cX9_packed 22 = .ok (.bipush 97, 2) := by decide +kernel
theorem dX9_packed_24 : decode cX9_packed 24 = .ok (.isub, 1) := by decide +kernel
theorem dX9_packed_25 : decode cX9_packed 25 = .ok (.iconst 1, 1) := by decide +kernel
theorem dX9_packed_26 : decode cX9_packed 26 = .ok (.iadd, 1) := by decide +kernel
theorem dX9_packed_27 : decode cX9_packed 27 = .ok (.i2l, 1) := by decide +kernel
theorem dX9_packed_28 : decode cX9_packed 28 = .ok (.ladd, 1) := by decide +kernel
theorem dX9_packed_29 : decode cX9_packed 29 = .ok (.lstore_n 1, 1) := by decide +kernel
theorem dX9_packed_30 : decode cX9_packed 30 = .ok (.iinc 3 1, 3) := by decide +kernel
theorem dX9_packed_33 : decode cX9_packed 33 = .ok (.goto (-29), 3) := by decide +kernel
theorem dX9_packed_36 : decode cX9_packed 36 = .ok (.lload_n 1, 1) := by decide +kernel
theorem dX9_packed_37 : decode cX9_packed 37 = .ok (.lreturn, 1) := by decide +kernel
theorem dX9_goesOn_0 : decode cX9_goesOn 0 = .ok (.aload_n 0, 1) := by decide +kernel
theorem dX9_goesOn_1 : decode cX9_goesOn 1 = .ok (.getfield 77, 3) := by decide +kernel
theorem dX9_goesOn_4 : decode cX9_goesOn 4 = .ok (.iconst 5, 1) := by decide +kernel
theorem dX9_goesOn_5 : decode cX9_goesOn 5 = .ok (.if_icmp .ne 4, 3) := by decide +kernel
theorem dX9_goesOn_8 : decode cX9_goesOn 8 = .ok (.return_, 1) := by decide +kernel
theorem dX9_goesOn_9 : decode cX9_goesOn 9 = .ok (.aload_n 0, 1) := by decide +kernel
theorem dX9_goesOn_10 : decode cX9_goesOn 10 = .ok (.aload_n 0, 1) := by decide +kernel
theorem dX9_goesOn_11 : decode cX9_goesOn 11 = .ok (.getfield 80, 3) := by decide +kernel
theorem dX9_goesOn_14 : decode cX9_goesOn 14 = .ok (.invokevirtual 83, 3) := by decide +kernel
theorem dX9_goesOn_17 : decode cX9_goesOn 17 = .ok (.bipush 32, 2) := by decide +kernel
theorem dX9_goesOn_19 : decode cX9_goesOn 19 = .ok (.if_icmp .ne 16, 3) := by decide +kernel
theorem dX9_goesOn_22 : decode cX9_goesOn 22 = .ok (.aload_n 0, 1) := by decide +kernel
theorem dX9_goesOn_23 : decode cX9_goesOn 23 = .ok (.dup, 1) := by decide +kernel
theorem dX9_goesOn_24 : decode cX9_goesOn 24 = .ok (.getfield 80, 3) := by decide +kernel
theorem dX9_goesOn_27 : decode cX9_goesOn 27 = .ok (.iconst 1, 1) := by decide +kernel
theorem dX9_goesOn_28 : decode cX9_goesOn 28 = .ok (.iadd, 1) := by decide +kernel
theorem dX9_goesOn_29 : decode cX9_goesOn 29 = .ok (.putfield 80, 3) := by decide +kernel
theorem dX9_goesOn_32 : decode cX9_goesOn 32 = .ok (.goto (-23), 3) := by decide +kernel
theorem dX9_goesOn_35 : decode cX9_goesOn 35 = .ok (.aload_n 0, 1) := by decide +kernel
theorem dX9_goesOn_36 : decode cX9_goesOn 36 = .ok (.aload_n 0, 1) := by decide +kernel
theorem dX9_goesOn_37 : decode cX9_goesOn 37 = .ok (.getfield 80, 3) := by decide +kernel
theorem dX9_goesOn_40 : decode cX9_goesOn 40 = .ok (.putfield 86, 3) := by decide +kernel
theorem dX9_goesOn_43 : decode cX9_goesOn 43 = .ok (.aload_n 0, 1) := by decide +kernel
theorem dX9_goesOn_44 : decode cX9_goesOn 44 = .ok (.iconst 0, 1) := by decide +kernel
theorem dX9_goesOn_45 : decode cX9_goesOn 45 = .ok (.putfield 77, 3) := by decide +kernel
theorem dX9_goesOn_48 : decode cX9_goesOn 48 = .ok (.aload_n 0, 1) := by decide +kernel
theorem dX9_goesOn_49 : decode cX9_goesOn 49 = .ok (.aload_n 0, 1) := by decide +kernel
theorem dX9_goesOn_50 : decode cX9_goesOn 50 = .ok (.getfield 80, 3) := by decide +kernel
theorem dX9_goesOn_53 : decode cX9_goesOn 53 = .ok (.invokevirtual 83, 3) := by decide +kernel
theorem dX9_goesOn_56 : decode cX9_goesOn 56 = .ok (.istore_n 1, 1) := by decide +kernel
theorem dX9_goesOn_57 : decode cX9_goesOn 57 = .ok (.iconst 0, 1) := by decide +kernel
theorem dX9_goesOn_58 : decode cX9_goesOn 58 = .ok (.istore_n 2, 1) := by decide +kernel
theorem dX9_goesOn_59 : decode cX9_goesOn 59 = .ok (.iload_n 1, 1) := by decide +kernel
theorem dX9_goesOn_60 : decode cX9_goesOn 60 = .ok (.iconst (-1), 1) := by decide +kernel
theorem dX9_goesOn_61 : decode cX9_goesOn 61 = .ok (.if_icmp .ne 11, 3) := by decide +kernel
theorem dX9_goesOn_64 : decode cX9_goesOn 64 = .ok (.aload_n 0, 1) := by decide +kernel
theorem dX9_goesOn_65 : decode cX9_goesOn 65 = .ok (.iconst 1, 1) := by decide +kernel
theorem dX9_goesOn_66 : decode cX9_goesOn 66 = .ok (.putfield 77, 3) := by decide +kernel
theorem dX9_goesOn_69 : decode cX9_goesOn 69 = .ok (.goto 196, 3) := by decide +kernel
theorem dX9_goesOn_72 : decode cX9_goesOn 72 = .ok (.iload_n 1, 1) := by decide +kernel
theorem dX9_goesOn_73 : decode cX9_goesOn 73 = .ok (.invokestatic 89, 3) := by decide +kernel
theorem dX9_goesOn_76 : decode cX9_goesOn 76 = .ok (.ifCond .eq 85, 3) := by decide +kernel
theorem dX9_goesOn_79 : decode cX9_goesOn 79 = .ok (.aload_n 0, 1) := by decide +kernel
theorem dX9_goesOn_80 : decode cX9_goesOn 80 = .ok (.lconst 0, 1) := by decide +kernel
theorem dX9_goesOn_81 : decode cX9_goesOn 81 = .ok (.putfield 93, 3) := by decide +kernel
theorem dX9_goesOn_84 : decode cX9_goesOn 84 = .ok (.aload_n 0, 1) := by decide +kernel
theorem dX9_goesOn_85 : decode cX9_goesOn 85 = .ok (.aload_n 0, 1) := by decide +kernel
theorem dX9_goesOn_86 : decode cX9_goesOn 86 = .ok (.getfield 80, 3) := by decide +kernel
theorem dX9_goesOn_89 : decode cX9_goesOn 89 = .ok (.invokevirtual 83, 3) := by decide +kernel
theorem dX9_goesOn_92 : decode cX9_goesOn 92 = .ok (.invokestatic 89, 3) := by decide +kernel
theorem dX9_goesOn_95 : decode cX9_goesOn 95 = .ok (.ifCond .eq 52, 3) := by decide +kernel
theorem dX9_goesOn_98 : decode cX9_goesOn 98 = .ok (.iload_n 2, 1) := by decide +kernel
theorem dX9_goesOn_99 : decode cX9_goesOn 99 = .ok (.bipush 8, 2) := by decide +kernel
theorem dX9_goesOn_101 : decode cX9_goesOn 101 = .ok (.if_icmp .ge 30, 3) := by decide +kernel
theorem dX9_goesOn_104 : decode cX9_goesOn 104 = .ok (.aload_n 0, 1) := by decide +kernel
theorem dX9_goesOn_105 : decode cX9_goesOn 105 = .ok (.ldc2_w 71, 3) := by decide +kernel
theorem dX9_goesOn_108 : decode cX9_goesOn 108 = .ok (.aload_n 0, 1) := by decide +kernel
theorem dX9_goesOn_109 : decode cX9_goesOn 109 = .ok (.getfield 93, 3) := by decide +kernel
theorem dX9_goesOn_112 : decode cX9_goesOn 112 = .ok (.lmul, 1) := by decide +kernel
theorem dX9_goesOn_113 : decode cX9_goesOn 113 = .ok (.aload_n 0, 1) := by decide +kernel
theorem dX9_goesOn_114 : decode cX9_goesOn 114 = .ok (.aload_n 0, 1) := by decide +kernel
theorem dX9_goesOn_115 : decode cX9_goesOn 115 = .ok (.getfield 80, 3) := by decide +kernel
theorem dX9_goesOn_118 : decode cX9_goesOn 118 = .ok (.invokevirtual 83, 3) := by decide +kernel
theorem dX9_goesOn_121 : decode cX9_goesOn 121 = .ok (.bipush 97, 2) := by decide +kernel
theorem dX9_goesOn_123 : decode cX9_goesOn 123 = .ok (.isub, 1) := by decide +kernel
theorem dX9_goesOn_124 : decode cX9_goesOn 124 = .ok (.iconst 1, 1) := by decide +kernel
theorem dX9_goesOn_125 : decode cX9_goesOn 125 = .ok (.iadd, 1) := by decide +kernel
theorem dX9_goesOn_126 : decode cX9_goesOn 126 = .ok (.i2l, 1) := by decide +kernel
theorem dX9_goesOn_127 : decode cX9_goesOn 127 = .ok (.ladd, 1) := by decide +kernel
theorem dX9_goesOn_128 : decode cX9_goesOn 128 = .ok (.putfield 93, 3) := by decide +kernel
theorem dX9_goesOn_131 : decode cX9_goesOn 131 = .ok (.iinc 2 1, 3) := by decide +kernel
theorem dX9_goesOn_134 : decode cX9_goesOn 134 = .ok (.aload_n 0, 1) := by decide +kernel
theorem dX9_goesOn_135 : decode cX9_goesOn 135 = .ok (.dup, 1) := by decide +kernel
theorem dX9_goesOn_136 : decode cX9_goesOn 136 = .ok (.getfield 80, 3) := by decide +kernel
theorem dX9_goesOn_139 : decode cX9_goesOn 139 = .ok (.iconst 1, 1) := by decide +kernel
theorem dX9_goesOn_140 : decode cX9_goesOn 140 = .ok (.iadd, 1) := by decide +kernel
theorem dX9_goesOn_141 : decode cX9_goesOn 141 = .ok (.putfield 80, 3) := by decide +kernel
theorem dX9_goesOn_144 : decode cX9_goesOn 144 = .ok (.goto (-60), 3) := by decide +kernel
theorem dX9_goesOn_147 : decode cX9_goesOn 147 = .ok (.iload_n 2, 1) := by decide +kernel
theorem dX9_goesOn_148 : decode cX9_goesOn 148 = .ok (.bipush 8, 2) := by decide +kernel
theorem dX9_goesOn_150 : decode cX9_goesOn 150 = .ok (.if_icmp .gt 115, 3) := by decide +kernel
theorem dX9_goesOn_153 : decode cX9_goesOn 153 = .ok (.aload_n 0, 1) := by decide +kernel
theorem dX9_goesOn_154 : decode cX9_goesOn 154 = .ok (.iconst 2, 1) := by decide +kernel
theorem dX9_goesOn_155 : decode cX9_goesOn 155 = .ok (.putfield 77, 3) := by decide +kernel
theorem dX9_goesOn_158 : decode cX9_goesOn 158 = .ok (.goto 107, 3) := by decide +kernel
theorem dX9_goesOn_161 : decode cX9_goesOn 161 = .ok (.iload_n 1, 1) := by decide +kernel
theorem dX9_goesOn_162 : decode cX9_goesOn 162 = .ok (.invokestatic 97, 3) := by decide +kernel
theorem dX9_goesOn_165 : decode cX9_goesOn 165 = .ok (.ifCond .eq 79, 3) := by decide +kernel
theorem dX9_goesOn_168 : decode cX9_goesOn 168 = .ok (.aload_n 0, 1) := by decide +kernel
theorem dX9_goesOn_169 : decode cX9_goesOn 169 = .ok (.iconst 0, 1) := by decide +kernel
theorem dX9_goesOn_170 : decode cX9_goesOn 170 = .ok (.putfield 100, 3) := by decide +kernel
theorem dX9_goesOn_173 : decode cX9_goesOn 173 = .ok (.aload_n 0, 1) := by decide +kernel
theorem dX9_goesOn_174 : decode cX9_goesOn 174 = .ok (.aload_n 0, 1) := by decide +kernel
theorem dX9_goesOn_175 : decode cX9_goesOn 175 = .ok (.getfield 80, 3) := by decide +kernel
theorem dX9_goesOn_178 : decode cX9_goesOn 178 = .ok (.invokevirtual 83, 3) := by decide +kernel
theorem dX9_goesOn_181 : decode cX9_goesOn 181 = .ok (.invokestatic 97, 3) := by decide +kernel
theorem dX9_goesOn_184 : decode cX9_goesOn 184 = .ok (.ifCond .eq 47, 3) := by decide +kernel
theorem dX9_goesOn_187 : decode cX9_goesOn 187 = .ok (.iload_n 2, 1) := by decide +kernel
theorem dX9_goesOn_188 : decode cX9_goesOn 188 = .ok (.iconst 2, 1) := by decide +kernel
theorem dX9_goesOn_189 : decode cX9_goesOn 189 = .ok (.if_icmp .ge 26, 3) := by decide +kernel
theorem dX9_goesOn_192 : decode cX9_goesOn 192 = .ok (.aload_n 0, 1) := by decide +kernel
theorem dX9_goesOn_193 : decode cX9_goesOn 193 = .ok (.bipush 10, 2) := by decide +kernel
theorem dX9_goesOn_195 : decode cX9_goesOn 195 = .ok (.aload_n 0, 1) := by decide +kernel
theorem dX9_goesOn_196 : decode cX9_goesOn 196 = .ok (.getfield 100, 3) := by decide +kernel
theorem dX9_goesOn_199 : decode cX9_goesOn 199 = .ok (.imul, 1) := by decide +kernel
theorem dX9_goesOn_200 : decode cX9_goesOn 200 = .ok (.aload_n 0, 1) := by decide +kernel
theorem dX9_goesOn_201 : decode cX9_goesOn 201 = .ok (.aload_n 0, 1) := by decide +kernel
theorem dX9_goesOn_202 : decode cX9_goesOn 202 = .ok (.getfield 80, 3) := by decide +kernel
theorem dX9_goesOn_205 : decode cX9_goesOn 205 = .ok (.invokevirtual 83, 3) := by decide +kernel
theorem dX9_goesOn_208 : decode cX9_goesOn 208 = .ok (.iadd, 1) := by decide +kernel
theorem dX9_goesOn_209 : decode cX9_goesOn 209 = .ok (.bipush 48, 2) := by decide +kernel
theorem dX9_goesOn_211 : decode cX9_goesOn 211 = .ok (.isub, 1) := by decide +kernel
theorem dX9_goesOn_212 : decode cX9_goesOn 212 = .ok (.putfield 100, 3) := by decide +kernel
theorem dX9_goesOn_215 : decode cX9_goesOn 215 = .ok (.iinc 2 1, 3) := by decide +kernel
theorem dX9_goesOn_218 : decode cX9_goesOn 218 = .ok (.aload_n 0, 1) := by decide +kernel
theorem dX9_goesOn_219 : decode cX9_goesOn 219 = .ok (.dup, 1) := by decide +kernel
theorem dX9_goesOn_220 : decode cX9_goesOn 220 = .ok (.getfield 80, 3) := by decide +kernel
theorem dX9_goesOn_223 : decode cX9_goesOn 223 = .ok (.iconst 1, 1) := by decide +kernel
theorem dX9_goesOn_224 : decode cX9_goesOn 224 = .ok (.iadd, 1) := by decide +kernel
theorem dX9_goesOn_225 : decode cX9_goesOn 225 = .ok (.putfield 80, 3) := by decide +kernel
theorem dX9_goesOn_228 : decode cX9_goesOn 228 = .ok (.goto (-55), 3) := by decide +kernel
theorem dX9_goesOn_231 : decode cX9_goesOn 231 = .ok (.iload_n 2, 1) := by decide +kernel
theorem dX9_goesOn_232 : decode cX9_goesOn 232 = .ok (.iconst 2, 1) := by decide +kernel
theorem dX9_goesOn_233 : decode cX9_goesOn 233 = .ok (.if_icmp .gt 32, 3) := by decide +kernel
theorem dX9_goesOn_236 : decode cX9_goesOn 236 = .ok (.aload_n 0, 1) := by decide +kernel
theorem dX9_goesOn_237 : decode cX9_goesOn 237 = .ok (.iconst 3, 1) := by decide +kernel
theorem dX9_goesOn_238 : decode cX9_goesOn 238 = .ok (.putfield 77, 3) := by decide +kernel
theorem dX9_goesOn_241 : decode cX9_goesOn 241 = .ok (.goto 24, 3) := by decide +kernel
theorem dX9_goesOn_244 : decode cX9_goesOn 244 = .ok (.iload_n 1, 1) := by decide +kernel
theorem dX9_goesOn_245 : decode cX9_goesOn 245 = .ok (.bipush 59, 2) := by decide +kernel
theorem dX9_goesOn_247 : decode cX9_goesOn 247 = .ok (.if_icmp .ne 18, 3) := by decide +kernel
theorem dX9_goesOn_250 : decode cX9_goesOn 250 = .ok (.aload_n 0, 1) := by decide +kernel
theorem dX9_goesOn_251 : decode cX9_goesOn 251 = .ok (.iconst 4, 1) := by decide +kernel
theorem dX9_goesOn_252 : decode cX9_goesOn 252 = .ok (.putfield 77, 3) := by decide +kernel
theorem dX9_goesOn_255 : decode cX9_goesOn 255 = .ok (.aload_n 0, 1) := by decide +kernel
theorem dX9_goesOn_256 : decode cX9_goesOn 256 = .ok (.dup, 1) := by decide +kernel
theorem dX9_goesOn_257 : decode cX9_goesOn 257 = .ok (.getfield 80, 3) := by decide +kernel
theorem dX9_goesOn_260 : decode cX9_goesOn 260 = .ok (.iconst 1, 1) := by decide +kernel
theorem dX9_goesOn_261 : decode cX9_goesOn 261 = .ok (.iadd, 1) := by decide +kernel
theorem dX9_goesOn_262 : decode cX9_goesOn 262 = .ok (.putfield 80, 3) := by decide +kernel
theorem dX9_goesOn_265 : decode cX9_goesOn 265 = .ok (.return_, 1) := by decide +kernel
theorem dX9_flaw_0 : decode cX9_flaw 0 = .ok (.aload_n 0, 1) := by decide +kernel
theorem dX9_flaw_1 : decode cX9_flaw 1 = .ok (.getfield 77, 3) := by decide +kernel
theorem dX9_flaw_4 : decode cX9_flaw 4 = .ok (.iconst 5, 1) := by decide +kernel
theorem dX9_flaw_5 : decode cX9_flaw 5 = .ok (.if_icmp .ne 4, 3) := by decide +kernel
theorem dX9_flaw_8 : decode cX9_flaw 8 = .ok (.return_, 1) := by decide +kernel
theorem dX9_flaw_9 : decode cX9_flaw 9 = .ok (.aload_n 0, 1) := by decide +kernel
theorem dX9_flaw_10 : decode cX9_flaw 10 = .ok (.iload_n 1, 1) := by decide +kernel
theorem dX9_flaw_11 : decode cX9_flaw 11 = .ok (.putfield 103, 3) := by decide +kernel
theorem dX9_flaw_14 : decode cX9_flaw 14 = .ok (.aload_n 0, 1) := by decide +kernel
theorem dX9_flaw_15 : decode cX9_flaw 15 = .ok (.aload_n 0, 1) := by decide +kernel
theorem dX9_flaw_16 : decode cX9_flaw 16 = .ok (.getfield 86, 3) := by decide +kernel
theorem dX9_flaw_19 : decode cX9_flaw 19 = .ok (.putfield 106, 3) := by decide +kernel
theorem dX9_flaw_22 : decode cX9_flaw 22 = .ok (.aload_n 0, 1) := by decide +kernel
theorem dX9_flaw_23 : decode cX9_flaw 23 = .ok (.iconst 5, 1) := by decide +kernel
theorem dX9_flaw_24 : decode cX9_flaw 24 = .ok (.putfield 77, 3) := by decide +kernel
theorem dX9_flaw_27 : decode cX9_flaw 27 = .ok (.return_, 1) := by decide +kernel
theorem dX9_isWord_0 : decode cX9_isWord 0 = .ok (.aload_n 0, 1) := by decide +kernel
theorem dX9_isWord_1 : decode cX9_isWord 1 = .ok (.getfield 77, 3) := by decide +kernel
theorem dX9_isWord_4 : decode cX9_isWord 4 = .ok (.iconst 2, 1) := by decide +kernel
theorem dX9_isWord_5 : decode cX9_isWord 5 = .ok (.if_icmp .ne 19, 3) := by decide +kernel
theorem dX9_isWord_8 : decode cX9_isWord 8 = .ok (.aload_n 0, 1) := by decide +kernel
theorem dX9_isWord_9 : decode cX9_isWord 9 = .ok (.getfield 93, 3) := by decide +kernel
theorem dX9_isWord_12 : decode cX9_isWord 12 = .ok (.aload_n 1, 1) := by decide +kernel
theorem dX9_isWord_13 : decode cX9_isWord 13 = .ok (.invokestatic 109, 3) := by decide +kernel
theorem dX9_isWord_16 : decode cX9_isWord 16 = .ok (.lcmp, 1) := by decide +kernel
theorem dX9_isWord_17 : decode cX9_isWord 17 = .ok (.ifCond .ne 7, 3) := by decide +kernel
theorem dX9_isWord_20 : decode cX9_isWord 20 = .ok (.iconst 1, 1) := by decide +kernel
theorem dX9_isWord_21 : decode cX9_isWord 21 = .ok (.goto 4, 3) := by decide +kernel
theorem dX9_isWord_24 : decode cX9_isWord 24 = .ok (.iconst 0, 1) := by decide +kernel
theorem dX9_isWord_25 : decode cX9_isWord 25 = .ok (.ireturn, 1) := by decide +kernel
theorem dX9_eatsSemicolon_0 : decode cX9_eatsSemicolon 0 = .ok (.aload_n 0, 1) := by decide +kernel
theorem dX9_eatsSemicolon_1 : decode cX9_eatsSemicolon 1 = .ok (.getfield 77, 3) := by decide +kernel
theorem dX9_eatsSemicolon_4 : decode cX9_eatsSemicolon 4 = .ok (.iconst 4, 1) := by decide +kernel
theorem dX9_eatsSemicolon_5 : decode cX9_eatsSemicolon 5 = .ok (.if_icmp .ne 7, 3) := by decide +kernel
theorem dX9_eatsSemicolon_8 : decode cX9_eatsSemicolon 8 = .ok (.iconst 1, 1) := by decide +kernel
theorem dX9_eatsSemicolon_9 : decode cX9_eatsSemicolon 9 = .ok (.goto 4, 3) := by decide +kernel
theorem dX9_eatsSemicolon_12 : decode cX9_eatsSemicolon 12 = .ok (.iconst 0, 1) := by decide +kernel
theorem dX9_eatsSemicolon_13 : decode cX9_eatsSemicolon 13 = .ok (.istore_n 1, 1) := by decide +kernel
theorem dX9_eatsSemicolon_14 : decode cX9_eatsSemicolon 14 = .ok (.iload_n 1, 1) := by decide +kernel
theorem dX9_eatsSemicolon_15 : decode cX9_eatsSemicolon 15 = .ok (.ifCond .eq 7, 3) := by decide +kernel
theorem dX9_eatsSemicolon_18 : decode cX9_eatsSemicolon 18 = .ok (.aload_n 0, 1) := by decide +kernel
theorem dX9_eatsSemicolon_19 : decode cX9_eatsSemicolon 19 = .ok (.invokevirtual 113, 3) := by decide +kernel
theorem dX9_eatsSemicolon_22 : decode cX9_eatsSemicolon 22 = .ok (.iload_n 1, 1) := by decide +kernel
theorem dX9_eatsSemicolon_23 : decode cX9_eatsSemicolon 23 = .ok (.ireturn, 1) := by decide +kernel
theorem dX9_needs_0 : decode cX9_needs 0 = .ok (.aload_n 0, 1) := by decide +kernel
theorem dX9_needs_1 : decode cX9_needs 1 = .ok (.aload_n 1, 1) := by decide +kernel
theorem dX9_needs_2 : decode cX9_needs 2 = .ok (.invokevirtual 116, 3) := by decide +kernel
theorem dX9_needs_5 : decode cX9_needs 5 = .ok (.ifCond .ne 8, 3) := by decide +kernel
theorem dX9_needs_8 : decode cX9_needs 8 = .ok (.aload_n 0, 1) := by decide +kernel
theorem dX9_needs_9 : decode cX9_needs 9 = .ok (.iconst 1, 1) := by decide +kernel
theorem dX9_needs_10 : decode cX9_needs 10 = .ok (.invokevirtual 120, 3) := by decide +kernel
theorem dX9_needs_13 : decode cX9_needs 13 = .ok (.aload_n 0, 1) := by decide +kernel
theorem dX9_needs_14 : decode cX9_needs 14 = .ok (.invokevirtual 113, 3) := by decide +kernel
theorem dX9_needs_17 : decode cX9_needs 17 = .ok (.return_, 1) := by decide +kernel
theorem dX9_readWhole_0 : decode cX9_readWhole 0 = .ok (.aload_n 0, 1) := by decide +kernel
theorem dX9_readWhole_1 : decode cX9_readWhole 1 = .ok (.getfield 77, 3) := by decide +kernel
theorem dX9_readWhole_4 : decode cX9_readWhole 4 = .ok (.iconst 3, 1) := by decide +kernel
theorem dX9_readWhole_5 : decode cX9_readWhole 5 = .ok (.if_icmp .eq 11, 3) := by decide +kernel
theorem dX9_readWhole_8 : decode cX9_readWhole 8 = .ok (.aload_n 0, 1) := by decide +kernel
theorem dX9_readWhole_9 : decode cX9_readWhole 9 = .ok (.iconst 1, 1) := by decide +kernel
theorem dX9_readWhole_10 : decode cX9_readWhole 10 = .ok (.invokevirtual 120, 3) := by decide +kernel
theorem dX9_readWhole_13 : decode cX9_readWhole 13 = .ok (.goto 20, 3) := by decide +kernel
theorem dX9_readWhole_16 : decode cX9_readWhole 16 = .ok (.aload_n 0, 1) := by decide +kernel
theorem dX9_readWhole_17 : decode cX9_readWhole 17 = .ok (.getfield 100, 3) := by decide +kernel
theorem dX9_readWhole_20 : decode cX9_readWhole 20 = .ok (.iload_n 1, 1) := by decide +kernel
theorem dX9_readWhole_21 : decode cX9_readWhole 21 = .ok (.iload_n 2, 1) := by decide +kernel
theorem dX9_readWhole_22 : decode cX9_readWhole 22 = .ok (.invokestatic 124, 3) := by decide +kernel
theorem dX9_readWhole_25 : decode cX9_readWhole 25 = .ok (.ifCond .ne 8, 3) := by decide +kernel
theorem dX9_readWhole_28 : decode cX9_readWhole 28 = .ok (.aload_n 0, 1) := by decide +kernel
theorem dX9_readWhole_29 : decode cX9_readWhole 29 = .ok (.iconst 4, 1) := by decide +kernel
theorem dX9_readWhole_30 : decode cX9_readWhole 30 = .ok (.invokevirtual 120, 3) := by decide +kernel
theorem dX9_readWhole_33 : decode cX9_readWhole 33 = .ok (.aload_n 0, 1) := by decide +kernel
theorem dX9_readWhole_34 : decode cX9_readWhole 34 = .ok (.getfield 77, 3) := by decide +kernel
theorem dX9_readWhole_37 : decode cX9_readWhole 37 = .ok (.iconst 5, 1) := by decide +kernel
theorem dX9_readWhole_38 : decode cX9_readWhole 38 = .ok (.if_icmp .ne 7, 3) := by decide +kernel
theorem dX9_readWhole_41 : decode cX9_readWhole 41 = .ok (.iload_n 1, 1) := by decide +kernel
theorem dX9_readWhole_42 : decode cX9_readWhole 42 = .ok (.goto 7, 3) := by decide +kernel
theorem dX9_readWhole_45 : decode cX9_readWhole 45 = .ok (.aload_n 0, 1) := by decide +kernel
theorem dX9_readWhole_46 : decode cX9_readWhole 46 = .ok (.getfield 100, 3) := by decide +kernel
theorem dX9_readWhole_49 : decode cX9_readWhole 49 = .ok (.istore_n 3, 1) := by decide +kernel
theorem dX9_readWhole_50 : decode cX9_readWhole 50 = .ok (.aload_n 0, 1) := by decide +kernel
theorem dX9_readWhole_51 : decode cX9_readWhole 51 = .ok (.invokevirtual 113, 3) := by decide +kernel
theorem dX9_readWhole_54 : decode cX9_readWhole 54 = .ok (.iload_n 3, 1) := by decide +kernel
theorem dX9_readWhole_55 : decode cX9_readWhole 55 = .ok (.ireturn, 1) := by decide +kernel
theorem dX9_readPart_0 : decode cX9_readPart 0 = .ok (.aload_n 0, 1) := by decide +kernel
theorem dX9_readPart_1 : decode cX9_readPart 1 = .ok (.aload_n 1, 1) := by decide +kernel
theorem dX9_readPart_2 : decode cX9_readPart 2 = .ok (.invokevirtual 128, 3) := by decide +kernel
theorem dX9_readPart_5 : decode cX9_readPart 5 = .ok (.aload_n 0, 1) := by decide +kernel
theorem dX9_readPart_6 : decode cX9_readPart 6 = .ok (.iload_n 2, 1) := by decide +kernel
theorem dX9_readPart_7 : decode cX9_readPart 7 = .ok (.iload_n 3, 1) := by decide +kernel
theorem dX9_readPart_8 : decode cX9_readPart 8 = .ok (.invokevirtual 132, 3) := by decide +kernel
theorem dX9_readPart_11 : decode cX9_readPart 11 = .ok (.ireturn, 1) := by decide +kernel
theorem dX9_isName_0 : decode cX9_isName 0 = .ok (.aload_n 0, 1) := by decide +kernel
theorem dX9_isName_1 : decode cX9_isName 1 = .ok (.getfield 77, 3) := by decide +kernel
theorem dX9_isName_4 : decode cX9_isName 4 = .ok (.iconst 2, 1) := by decide +kernel
theorem dX9_isName_5 : decode cX9_isName 5 = .ok (.if_icmp .ne 39, 3) := by decide +kernel
theorem dX9_isName_8 : decode cX9_isName 8 = .ok (.aload_n 0, 1) := by decide +kernel
theorem dX9_isName_9 : decode cX9_isName 9 = .ok (.ldc 136, 2) := by decide +kernel
theorem dX9_isName_11 : decode cX9_isName 11 = .ok (.invokevirtual 116, 3) := by decide +kernel
theorem dX9_isName_14 : decode cX9_isName 14 = .ok (.ifCond .ne 30, 3) := by decide +kernel
theorem dX9_isName_17 : decode cX9_isName 17 = .ok (.aload_n 0, 1) := by decide +kernel
theorem dX9_isName_18 : decode cX9_isName 18 = .ok (.ldc 138, 2) := by decide +kernel
theorem dX9_isName_20 : decode cX9_isName 20 = .ok (.invokevirtual 116, 3) := by decide +kernel
theorem dX9_isName_23 : decode cX9_isName 23 = .ok (.ifCond .ne 21, 3) := by decide +kernel
theorem dX9_isName_26 : decode cX9_isName 26 = .ok (.aload_n 0, 1) := by decide +kernel
theorem dX9_isName_27 : decode cX9_isName 27 = .ok (.ldc 140, 2) := by decide +kernel
theorem dX9_isName_29 : decode cX9_isName 29 = .ok (.invokevirtual 116, 3) := by decide +kernel
theorem dX9_isName_32 : decode cX9_isName 32 = .ok (.ifCond .ne 12, 3) := by decide +kernel
theorem dX9_isName_35 : decode cX9_isName 35 = .ok (.aload_n 0, 1) := by decide +kernel
theorem dX9_isName_36 : decode cX9_isName 36 = .ok (.ldc 142, 2) := by decide +kernel
theorem dX9_isName_38 : decode cX9_isName 38 = .ok (.invokevirtual 116, 3) := by decide +kernel
theorem dX9_isName_41 : decode cX9_isName 41 = .ok (.ifCond .eq 5, 3) := by decide +kernel
theorem dX9_isName_44 : decode cX9_isName 44 = .ok (.iconst 0, 1) := by decide +kernel
theorem dX9_isName_45 : decode cX9_isName 45 = .ok (.ireturn, 1) := by decide +kernel
theorem dX9_isName_46 : decode cX9_isName 46 = .ok (.aload_n 0, 1) := by decide +kernel
theorem dX9_isName_47 : decode cX9_isName 47 = .ok (.ldc 144, 2) := by decide +kernel
theorem dX9_isName_49 : decode cX9_isName 49 = .ok (.invokevirtual 116, 3) := by decide +kernel
theorem dX9_isName_52 : decode cX9_isName 52 = .ok (.ifCond .ne 34, 3) := by decide +kernel
theorem dX9_isName_55 : decode cX9_isName 55 = .ok (.aload_n 0, 1) := by decide +kernel
theorem dX9_isName_56 : decode cX9_isName 56 = .ok (.ldc 146, 2) := by decide +kernel
theorem dX9_isName_58 : decode cX9_isName 58 = .ok (.invokevirtual 116, 3) := by decide +kernel
theorem dX9_isName_61 : decode cX9_isName 61 = .ok (.ifCond .ne 25, 3) := by decide +kernel
theorem dX9_isName_64 : decode cX9_isName 64 = .ok (.aload_n 0, 1) := by decide +kernel
theorem dX9_isName_65 : decode cX9_isName 65 = .ok (.ldc 148, 2) := by decide +kernel
theorem dX9_isName_67 : decode cX9_isName 67 = .ok (.invokevirtual 116, 3) := by decide +kernel
theorem dX9_isName_70 : decode cX9_isName 70 = .ok (.ifCond .ne 16, 3) := by decide +kernel
theorem dX9_isName_73 : decode cX9_isName 73 = .ok (.aload_n 0, 1) := by decide +kernel
theorem dX9_isName_74 : decode cX9_isName 74 = .ok (.ldc 150, 2) := by decide +kernel
theorem dX9_isName_76 : decode cX9_isName 76 = .ok (.invokevirtual 116, 3) := by decide +kernel
theorem dX9_isName_79 : decode cX9_isName 79 = .ok (.ifCond .ne 7, 3) := by decide +kernel
theorem dX9_isName_82 : decode cX9_isName 82 = .ok (.iconst 1, 1) := by decide +kernel
theorem dX9_isName_83 : decode cX9_isName 83 = .ok (.goto 4, 3) := by decide +kernel
theorem dX9_isName_86 : decode cX9_isName 86 = .ok (.iconst 0, 1) := by decide +kernel
theorem dX9_isName_87 : decode cX9_isName 87 = .ok (.ireturn, 1) := by decide +kernel
theorem dX9_lineBegins_0 : decode cX9_lineBegins 0 = .ok (.iload_n 1, 1) := by decide +kernel
theorem dX9_lineBegins_1 : decode cX9_lineBegins 1 = .ok (.iload_n 2, 1) := by decide +kernel
theorem dX9_lineBegins_2 : decode cX9_lineBegins 2 = .ok (.if_icmp .ne 8, 3) := by decide +kernel
theorem dX9_lineBegins_5 : decode cX9_lineBegins 5 = .ok (.aload_n 0, 1) := by decide +kernel
theorem dX9_lineBegins_6 : decode cX9_lineBegins 6 = .ok (.iconst 5, 1) := by decide +kernel
theorem dX9_lineBegins_7 : decode cX9_lineBegins 7 = .ok (.invokevirtual 120, 3) := by decide +kernel
theorem dX9_lineBegins_10 : decode cX9_lineBegins 10 = .ok (.aload_n 0, 1) := by decide +kernel
theorem dX9_lineBegins_11 : decode cX9_lineBegins 11 = .ok (.getfield 152, 3) := by decide +kernel
theorem dX9_lineBegins_14 : decode cX9_lineBegins 14 = .ok (.getfield 156, 3) := by decide +kernel
theorem dX9_lineBegins_17 : decode cX9_lineBegins 17 = .ok (.ifCond .ne 9, 3) := by decide +kernel
theorem dX9_lineBegins_20 : decode cX9_lineBegins 20 = .ok (.aload_n 0, 1) := by decide +kernel
theorem dX9_lineBegins_21 : decode cX9_lineBegins 21 = .ok (.bipush 6, 2) := by decide +kernel
theorem dX9_lineBegins_23 : decode cX9_lineBegins 23 = .ok (.invokevirtual 120, 3) := by decide +kernel
theorem dX9_lineBegins_26 : decode cX9_lineBegins 26 = .ok (.aload_n 0, 1) := by decide +kernel
theorem dX9_lineBegins_27 : decode cX9_lineBegins 27 = .ok (.invokevirtual 113, 3) := by decide +kernel
theorem dX9_lineBegins_30 : decode cX9_lineBegins 30 = .ok (.return_, 1) := by decide +kernel
theorem dX9_readFresh_0 : decode cX9_readFresh 0 = .ok (.aload_n 0, 1) := by decide +kernel
theorem dX9_readFresh_1 : decode cX9_readFresh 1 = .ok (.invokevirtual 161, 3) := by decide +kernel
theorem dX9_readFresh_4 : decode cX9_readFresh 4 = .ok (.ifCond .ne 8, 3) := by decide +kernel
theorem dX9_readFresh_7 : decode cX9_readFresh 7 = .ok (.aload_n 0, 1) := by decide +kernel
theorem dX9_readFresh_8 : decode cX9_readFresh 8 = .ok (.iconst 1, 1) := by decide +kernel
theorem dX9_readFresh_9 : decode cX9_readFresh 9 = .ok (.invokevirtual 120, 3) := by decide +kernel
theorem dX9_readFresh_12 : decode cX9_readFresh 12 = .ok (.aload_n 0, 1) := by decide +kernel
theorem dX9_readFresh_13 : decode cX9_readFresh 13 = .ok (.getfield 152, 3) := by decide +kernel
theorem dX9_readFresh_16 : decode cX9_readFresh 16 = .ok (.aload_n 0, 1) := by decide +kernel
theorem dX9_readFresh_17 : decode cX9_readFresh 17 = .ok (.getfield 93, 3) := by decide +kernel
theorem dX9_readFresh_20 : decode cX9_readFresh 20 = .ok (.invokevirtual 165, 3) := by decide +kernel
theorem dX9_readFresh_23 : decode cX9_readFresh 23 = .ok (.iconst (-1), 1) := by decide +kernel
theorem dX9_readFresh_24 : decode cX9_readFresh 24 = .ok (.if_icmp .eq 8, 3) := by decide +kernel
theorem dX9_readFresh_27 : decode cX9_readFresh 27 = .ok (.aload_n 0, 1) := by decide +kernel
theorem dX9_readFresh_28 : decode cX9_readFresh 28 = .ok (.iconst 3, 1) := by decide +kernel
theorem dX9_readFresh_29 : decode cX9_readFresh 29 = .ok (.invokevirtual 120, 3) := by decide +kernel
theorem dX9_readFresh_32 : decode cX9_readFresh 32 = .ok (.aload_n 0, 1) := by decide +kernel
theorem dX9_readFresh_33 : decode cX9_readFresh 33 = .ok (.getfield 93, 3) := by decide +kernel
theorem dX9_readFresh_36 : decode cX9_readFresh 36 = .ok (.lstore_n 1, 1) := by decide +kernel
theorem dX9_readFresh_37 : decode cX9_readFresh 37 = .ok (.aload_n 0, 1) := by decide +kernel
theorem dX9_readFresh_38 : decode cX9_readFresh 38 = .ok (.invokevirtual 113, 3) := by decide +kernel
theorem dX9_readFresh_41 : decode cX9_readFresh 41 = .ok (.lload_n 1, 1) := by decide +kernel
theorem dX9_readFresh_42 : decode cX9_readFresh 42 = .ok (.lreturn, 1) := by decide +kernel
theorem dX9_names_0 : decode cX9_names 0 = .ok (.aload_n 0, 1) := by decide +kernel
theorem dX9_names_1 : decode cX9_names 1 = .ok (.getfield 152, 3) := by decide +kernel
theorem dX9_names_4 : decode cX9_names 4 = .ok (.getfield 169, 3) := by decide +kernel
theorem dX9_names_7 : decode cX9_names 7 = .ok (.aload_n 0, 1) := by decide +kernel
theorem dX9_names_8 : decode cX9_names 8 = .ok (.getfield 152, 3) := by decide +kernel
theorem dX9_names_11 : decode cX9_names 11 = .ok (.getfield 173, 3) := by decide +kernel
theorem dX9_names_14 : decode cX9_names 14 = .ok (.lload_n 1, 1) := by decide +kernel
theorem dX9_names_15 : decode cX9_names 15 = .ok (.lastore, 1) := by decide +kernel
theorem dX9_names_16 : decode cX9_names 16 = .ok (.aload_n 0, 1) := by decide +kernel
theorem dX9_names_17 : decode cX9_names 17 = .ok (.getfield 152, 3) := by decide +kernel
theorem dX9_names_20 : decode cX9_names 20 = .ok (.getfield 176, 3) := by decide +kernel
theorem dX9_names_23 : decode cX9_names 23 = .ok (.aload_n 0, 1) := by decide +kernel
theorem dX9_names_24 : decode cX9_names 24 = .ok (.getfield 152, 3) := by decide +kernel
theorem dX9_names_27 : decode cX9_names 27 = .ok (.getfield 173, 3) := by decide +kernel
theorem dX9_names_30 : decode cX9_names 30 = .ok (.iload_n 3, 1) := by decide +kernel
theorem dX9_names_31 : decode cX9_names 31 = .ok (.iastore, 1) := by decide +kernel
theorem dX9_names_32 : decode cX9_names 32 = .ok (.aload_n 0, 1) := by decide +kernel
theorem dX9_names_33 : decode cX9_names 33 = .ok (.getfield 152, 3) := by decide +kernel
theorem dX9_names_36 : decode cX9_names 36 = .ok (.getfield 179, 3) := by decide +kernel
theorem dX9_names_39 : decode cX9_names 39 = .ok (.aload_n 0, 1) := by decide +kernel
theorem dX9_names_40 : decode cX9_names 40 = .ok (.getfield 152, 3) := by decide +kernel
theorem dX9_names_43 : decode cX9_names 43 = .ok (.getfield 173, 3) := by decide +kernel
theorem dX9_names_46 : decode cX9_names 46 = .ok (.iload 4, 2) := by decide +kernel
theorem dX9_names_48 : decode cX9_names 48 = .ok (.iastore, 1) := by decide +kernel
theorem dX9_names_49 : decode cX9_names 49 = .ok (.aload_n 0, 1) := by decide +kernel
theorem dX9_names_50 : decode cX9_names 50 = .ok (.getfield 152, 3) := by decide +kernel
theorem dX9_names_53 : decode cX9_names 53 = .ok (.dup, 1) := by decide +kernel
theorem dX9_names_54 : decode cX9_names 54 = .ok (.getfield 173, 3) := by decide +kernel
theorem dX9_names_57 : decode cX9_names 57 = .ok (.iconst 1, 1) := by decide +kernel
theorem dX9_names_58 : decode cX9_names 58 = .ok (.iadd, 1) := by decide +kernel
theorem dX9_names_59 : decode cX9_names 59 = .ok (.putfield 173, 3) := by decide +kernel
theorem dX9_names_62 : decode cX9_names 62 = .ok (.return_, 1) := by decide +kernel
theorem dX9_knownOne_0 : decode cX9_knownOne 0 = .ok (.aload_n 0, 1) := by decide +kernel
theorem dX9_knownOne_1 : decode cX9_knownOne 1 = .ok (.invokevirtual 161, 3) := by decide +kernel
theorem dX9_knownOne_4 : decode cX9_knownOne 4 = .ok (.ifCond .ne 8, 3) := by decide +kernel
theorem dX9_knownOne_7 : decode cX9_knownOne 7 = .ok (.aload_n 0, 1) := by decide +kernel
theorem dX9_knownOne_8 : decode cX9_knownOne 8 = .ok (.iconst 1, 1) := by decide +kernel
theorem dX9_knownOne_9 : decode cX9_knownOne 9 = .ok (.invokevirtual 120, 3) := by decide +kernel
theorem dX9_knownOne_12 : decode cX9_knownOne 12 = .ok (.aload_n 0, 1) := by decide +kernel
theorem dX9_knownOne_13 : decode cX9_knownOne 13 = .ok (.getfield 152, 3) := by decide +kernel
theorem dX9_knownOne_16 : decode cX9_knownOne 16 = .ok (.aload_n 0, 1) := by decide +kernel
theorem dX9_knownOne_17 : decode cX9_knownOne 17 = .ok (.getfield 93, 3) := by decide +kernel
theorem dX9_knownOne_20 : decode cX9_knownOne 20 = .ok (.invokevirtual 165, 3) := by decide +kernel
theorem dX9_knownOne_23 : decode cX9_knownOne 23 = .ok (.istore_n 2, 1) := by decide +kernel
theorem dX9_knownOne_24 : decode cX9_knownOne 24 = .ok (.iload_n 2, 1) := by decide +kernel
theorem dX9_knownOne_25 : decode cX9_knownOne 25 = .ok (.iconst (-1), 1) := by decide +kernel
theorem dX9_knownOne_26 : decode cX9_knownOne 26 = .ok (.if_icmp .eq 16, 3) := by decide +kernel
theorem dX9_knownOne_29 : decode cX9_knownOne 29 = .ok (.aload_n 0, 1) := by decide +kernel
theorem dX9_knownOne_30 : decode cX9_knownOne 30 = .ok (.getfield 152, 3) := by decide +kernel
theorem dX9_knownOne_33 : decode cX9_knownOne 33 = .ok (.getfield 176, 3) := by decide +kernel
theorem dX9_knownOne_36 : decode cX9_knownOne 36 = .ok (.iload_n 2, 1) := by decide +kernel
theorem dX9_knownOne_37 : decode cX9_knownOne 37 = .ok (.iaload, 1) := by decide +kernel
theorem dX9_knownOne_38 : decode cX9_knownOne 38 = .ok (.iload_n 1, 1) := by decide +kernel
theorem dX9_knownOne_39 : decode cX9_knownOne 39 = .ok (.if_icmp .eq 8, 3) := by decide +kernel
theorem dX9_knownOne_42 : decode cX9_knownOne 42 = .ok (.aload_n 0, 1) := by decide +kernel
theorem dX9_knownOne_43 : decode cX9_knownOne 43 = .ok (.iconst 2, 1) := by decide +kernel
theorem dX9_knownOne_44 : decode cX9_knownOne 44 = .ok (.invokevirtual 120, 3) := by decide +kernel
theorem dX9_knownOne_47 : decode cX9_knownOne 47 = .ok (.aload_n 0, 1) := by decide +kernel
theorem dX9_knownOne_48 : decode cX9_knownOne 48 = .ok (.getfield 77, 3) := by decide +kernel
theorem dX9_knownOne_51 : decode cX9_knownOne 51 = .ok (.iconst 5, 1) := by decide +kernel
theorem dX9_knownOne_52 : decode cX9_knownOne 52 = .ok (.if_icmp .ne 7, 3) := by decide +kernel
theorem dX9_knownOne_55 : decode cX9_knownOne 55 = .ok (.iconst 0, 1) := by decide +kernel
theorem dX9_knownOne_56 : decode cX9_knownOne 56 = .ok (.goto 12, 3) := by decide +kernel
theorem dX9_knownOne_59 : decode cX9_knownOne 59 = .ok (.aload_n 0, 1) := by decide +kernel
theorem dX9_knownOne_60 : decode cX9_knownOne 60 = .ok (.getfield 152, 3) := by decide +kernel
theorem dX9_knownOne_63 : decode cX9_knownOne 63 = .ok (.getfield 179, 3) := by decide +kernel
theorem dX9_knownOne_66 : decode cX9_knownOne 66 = .ok (.iload_n 2, 1) := by decide +kernel
theorem dX9_knownOne_67 : decode cX9_knownOne 67 = .ok (.iaload, 1) := by decide +kernel
theorem dX9_knownOne_68 : decode cX9_knownOne 68 = .ok (.ireturn, 1) := by decide +kernel
theorem dX9_readKnown_0 : decode cX9_readKnown 0 = .ok (.aload_n 0, 1) := by decide +kernel
theorem dX9_readKnown_1 : decode cX9_readKnown 1 = .ok (.iload_n 1, 1) := by decide +kernel
theorem dX9_readKnown_2 : decode cX9_readKnown 2 = .ok (.invokevirtual 182, 3) := by decide +kernel
theorem dX9_readKnown_5 : decode cX9_readKnown 5 = .ok (.istore_n 2, 1) := by decide +kernel
theorem dX9_readKnown_6 : decode cX9_readKnown 6 = .ok (.aload_n 0, 1) := by decide +kernel
theorem dX9_readKnown_7 : decode cX9_readKnown 7 = .ok (.invokevirtual 113, 3) := by decide +kernel
theorem dX9_readKnown_10 : decode cX9_readKnown 10 = .ok (.iload_n 2, 1) := by decide +kernel
theorem dX9_readKnown_11 : decode cX9_readKnown 11 = .ok (.ireturn, 1) := by decide +kernel
theorem dX9_readAll_0 : decode cX9_readAll 0 = .ok (.iconst 1, 1) := by decide +kernel
theorem dX9_readAll_1 : decode cX9_readAll 1 = .ok (.istore_n 1, 1) := by decide +kernel
theorem dX9_readAll_2 : decode cX9_readAll 2 = .ok (.iload_n 1, 1) := by decide +kernel
theorem dX9_readAll_3 : decode cX9_readAll 3 = .ok (.ifCond .eq 15, 3) := by decide +kernel
theorem dX9_readAll_6 : decode cX9_readAll 6 = .ok (.aload_n 0, 1) := by decide +kernel
theorem dX9_readAll_7 : decode cX9_readAll 7 = .ok (.invokevirtual 185, 3) := by decide +kernel
theorem dX9_readAll_10 : decode cX9_readAll 10 = .ok (.aload_n 0, 1) := by decide +kernel
theorem dX9_readAll_11 : decode cX9_readAll 11 = .ok (.invokevirtual 188, 3) := by decide +kernel
theorem dX9_readAll_14 : decode cX9_readAll 14 = .ok (.istore_n 1, 1) := by decide +kernel
theorem dX9_readAll_15 : decode cX9_readAll 15 = .ok (.goto (-13), 3) := by decide +kernel
theorem dX9_readAll_18 : decode cX9_readAll 18 = .ok (.aload_n 0, 1) := by decide +kernel
theorem dX9_readAll_19 : decode cX9_readAll 19 = .ok (.getfield 77, 3) := by decide +kernel
theorem dX9_readAll_22 : decode cX9_readAll 22 = .ok (.iconst 1, 1) := by decide +kernel
theorem dX9_readAll_23 : decode cX9_readAll 23 = .ok (.if_icmp .eq 8, 3) := by decide +kernel
theorem dX9_readAll_26 : decode cX9_readAll 26 = .ok (.aload_n 0, 1) := by decide +kernel
theorem dX9_readAll_27 : decode cX9_readAll 27 = .ok (.iconst 1, 1) := by decide +kernel
theorem dX9_readAll_28 : decode cX9_readAll 28 = .ok (.invokevirtual 120, 3) := by decide +kernel
theorem dX9_readAll_31 : decode cX9_readAll 31 = .ok (.aload_n 0, 1) := by decide +kernel
theorem dX9_readAll_32 : decode cX9_readAll 32 = .ok (.getfield 152, 3) := by decide +kernel
theorem dX9_readAll_35 : decode cX9_readAll 35 = .ok (.getfield 191, 3) := by decide +kernel
theorem dX9_readAll_38 : decode cX9_readAll 38 = .ok (.ifCond .eq 13, 3) := by decide +kernel
theorem dX9_readAll_41 : decode cX9_readAll 41 = .ok (.aload_n 0, 1) := by decide +kernel
theorem dX9_readAll_42 : decode cX9_readAll 42 = .ok (.getfield 152, 3) := by decide +kernel
theorem dX9_readAll_45 : decode cX9_readAll 45 = .ok (.getfield 194, 3) := by decide +kernel
theorem dX9_readAll_48 : decode cX9_readAll 48 = .ok (.ifCond .ne 9, 3) := by decide +kernel
theorem dX9_readAll_51 : decode cX9_readAll 51 = .ok (.aload_n 0, 1) := by decide +kernel
theorem dX9_readAll_52 : decode cX9_readAll 52 = .ok (.bipush 6, 2) := by decide +kernel
theorem dX9_readAll_54 : decode cX9_readAll 54 = .ok (.invokevirtual 120, 3) := by decide +kernel
theorem dX9_readAll_57 : decode cX9_readAll 57 = .ok (.return_, 1) := by decide +kernel
theorem dX9_readLine_0 : decode cX9_readLine 0 = .ok (.aload_n 0, 1) := by decide +kernel
theorem dX9_readLine_1 : decode cX9_readLine 1 = .ok (.ldc 136, 2) := by decide +kernel
theorem dX9_readLine_3 : decode cX9_readLine 3 = .ok (.invokevirtual 116, 3) := by decide +kernel
theorem dX9_readLine_6 : decode cX9_readLine 6 = .ok (.ifCond .eq 10, 3) := by decide +kernel
theorem dX9_readLine_9 : decode cX9_readLine 9 = .ok (.aload_n 0, 1) := by decide +kernel
theorem dX9_readLine_10 : decode cX9_readLine 10 = .ok (.invokevirtual 197, 3) := by decide +kernel
theorem dX9_readLine_13 : decode cX9_readLine 13 = .ok (.goto 120, 3) := by decide +kernel
theorem dX9_readLine_16 : decode cX9_readLine 16 = .ok (.aload_n 0, 1) := by decide +kernel
theorem dX9_readLine_17 : decode cX9_readLine 17 = .ok (.ldc 138, 2) := by decide +kernel
theorem dX9_readLine_19 : decode cX9_readLine 19 = .ok (.invokevirtual 116, 3) := by decide +kernel
theorem dX9_readLine_22 : decode cX9_readLine 22 = .ok (.ifCond .eq 10, 3) := by decide +kernel
theorem dX9_readLine_25 : decode cX9_readLine 25 = .ok (.aload_n 0, 1) := by decide +kernel
theorem dX9_readLine_26 : decode cX9_readLine 26 = .ok (.invokevirtual 200, 3) := by decide +kernel
theorem dX9_readLine_29 : decode cX9_readLine 29 = .ok (.goto 104, 3) := by decide +kernel
theorem dX9_readLine_32 : decode cX9_readLine 32 = .ok (.aload_n 0, 1) := by decide +kernel
theorem dX9_readLine_33 : decode cX9_readLine 33 = .ok (.ldc 140, 2) := by decide +kernel
theorem dX9_readLine_35 : decode cX9_readLine 35 = .ok (.invokevirtual 116, 3) := by decide +kernel
theorem dX9_readLine_38 : decode cX9_readLine 38 = .ok (.ifCond .eq 10, 3) := by decide +kernel
theorem dX9_readLine_41 : decode cX9_readLine 41 = .ok (.aload_n 0, 1) := by decide +kernel
theorem dX9_readLine_42 : decode cX9_readLine 42 = .ok (.invokevirtual 203, 3) := by decide +kernel
theorem dX9_readLine_45 : decode cX9_readLine 45 = .ok (.goto 88, 3) := by decide +kernel
theorem dX9_readLine_48 : decode cX9_readLine 48 = .ok (.aload_n 0, 1) := by decide +kernel
theorem dX9_readLine_49 : decode cX9_readLine 49 = .ok (.ldc 142, 2) := by decide +kernel
theorem dX9_readLine_51 : decode cX9_readLine 51 = .ok (.invokevirtual 116, 3) := by decide +kernel
theorem dX9_readLine_54 : decode cX9_readLine 54 = .ok (.ifCond .eq 10, 3) := by decide +kernel
theorem dX9_readLine_57 : decode cX9_readLine 57 = .ok (.aload_n 0, 1) := by decide +kernel
theorem dX9_readLine_58 : decode cX9_readLine 58 = .ok (.invokevirtual 206, 3) := by decide +kernel
theorem dX9_readLine_61 : decode cX9_readLine 61 = .ok (.goto 72, 3) := by decide +kernel
theorem dX9_readLine_64 : decode cX9_readLine 64 = .ok (.aload_n 0, 1) := by decide +kernel
theorem dX9_readLine_65 : decode cX9_readLine 65 = .ok (.ldc 144, 2) := by decide +kernel
theorem dX9_readLine_67 : decode cX9_readLine 67 = .ok (.invokevirtual 116, 3) := by decide +kernel
theorem dX9_readLine_70 : decode cX9_readLine 70 = .ok (.ifCond .eq 10, 3) := by decide +kernel
theorem dX9_readLine_73 : decode cX9_readLine 73 = .ok (.aload_n 0, 1) := by decide +kernel
theorem dX9_readLine_74 : decode cX9_readLine 74 = .ok (.invokevirtual 209, 3) := by decide +kernel
theorem dX9_readLine_77 : decode cX9_readLine 77 = .ok (.goto 56, 3) := by decide +kernel
theorem dX9_readLine_80 : decode cX9_readLine 80 = .ok (.aload_n 0, 1) := by decide +kernel
theorem dX9_readLine_81 : decode cX9_readLine 81 = .ok (.ldc 146, 2) := by decide +kernel
theorem dX9_readLine_83 : decode cX9_readLine 83 = .ok (.invokevirtual 116, 3) := by decide +kernel
theorem dX9_readLine_86 : decode cX9_readLine 86 = .ok (.ifCond .eq 10, 3) := by decide +kernel
theorem dX9_readLine_89 : decode cX9_readLine 89 = .ok (.aload_n 0, 1) := by decide +kernel
theorem dX9_readLine_90 : decode cX9_readLine 90 = .ok (.invokevirtual 212, 3) := by decide +kernel
theorem dX9_readLine_93 : decode cX9_readLine 93 = .ok (.goto 40, 3) := by decide +kernel
theorem dX9_readLine_96 : decode cX9_readLine 96 = .ok (.aload_n 0, 1) := by decide +kernel
theorem dX9_readLine_97 : decode cX9_readLine 97 = .ok (.ldc 148, 2) := by decide +kernel
theorem dX9_readLine_99 : decode cX9_readLine 99 = .ok (.invokevirtual 116, 3) := by decide +kernel
theorem dX9_readLine_102 : decode cX9_readLine 102 = .ok (.ifCond .eq 10, 3) := by decide +kernel
theorem dX9_readLine_105 : decode cX9_readLine 105 = .ok (.aload_n 0, 1) := by decide +kernel
theorem dX9_readLine_106 : decode cX9_readLine 106 = .ok (.invokevirtual 215, 3) := by decide +kernel
theorem dX9_readLine_109 : decode cX9_readLine 109 = .ok (.goto 24, 3) := by decide +kernel
theorem dX9_readLine_112 : decode cX9_readLine 112 = .ok (.aload_n 0, 1) := by decide +kernel
theorem dX9_readLine_113 : decode cX9_readLine 113 = .ok (.ldc 150, 2) := by decide +kernel
theorem dX9_readLine_115 : decode cX9_readLine 115 = .ok (.invokevirtual 116, 3) := by decide +kernel
theorem dX9_readLine_118 : decode cX9_readLine 118 = .ok (.ifCond .eq 10, 3) := by decide +kernel
theorem dX9_readLine_121 : decode cX9_readLine 121 = .ok (.aload_n 0, 1) := by decide +kernel
theorem dX9_readLine_122 : decode cX9_readLine 122 = .ok (.invokevirtual 218, 3) := by decide +kernel
theorem dX9_readLine_125 : decode cX9_readLine 125 = .ok (.goto 8, 3) := by decide +kernel
theorem dX9_readLine_128 : decode cX9_readLine 128 = .ok (.aload_n 0, 1) := by decide +kernel
theorem dX9_readLine_129 : decode cX9_readLine 129 = .ok (.iconst 1, 1) := by decide +kernel
theorem dX9_readLine_130 : decode cX9_readLine 130 = .ok (.invokevirtual 120, 3) := by decide +kernel
theorem dX9_readLine_133 : decode cX9_readLine 133 = .ok (.return_, 1) := by decide +kernel
theorem dX9_readCounty_0 : decode cX9_readCounty 0 = .ok (.aload_n 0, 1) := by decide +kernel
theorem dX9_readCounty_1 : decode cX9_readCounty 1 = .ok (.getfield 152, 3) := by decide +kernel
theorem dX9_readCounty_4 : decode cX9_readCounty 4 = .ok (.getfield 156, 3) := by decide +kernel
theorem dX9_readCounty_7 : decode cX9_readCounty 7 = .ok (.ifCond .le 8, 3) := by decide +kernel
theorem dX9_readCounty_10 : decode cX9_readCounty 10 = .ok (.aload_n 0, 1) := by decide +kernel
theorem dX9_readCounty_11 : decode cX9_readCounty 11 = .ok (.iconst 3, 1) := by decide +kernel
theorem dX9_readCounty_12 : decode cX9_readCounty 12 = .ok (.invokevirtual 120, 3) := by decide +kernel
theorem dX9_readCounty_15 : decode cX9_readCounty 15 = .ok (.aload_n 0, 1) := by decide +kernel
theorem dX9_readCounty_16 : decode cX9_readCounty 16 = .ok (.invokevirtual 113, 3) := by decide +kernel
theorem dX9_readCounty_19 : decode cX9_readCounty 19 = .ok (.aload_n 0, 1) := by decide +kernel
theorem dX9_readCounty_20 : decode cX9_readCounty 20 = .ok (.ldc 221, 2) := by decide +kernel
theorem dX9_readCounty_22 : decode cX9_readCounty 22 = .ok (.iconst 1, 1) := by decide +kernel
theorem dX9_readCounty_23 : decode cX9_readCounty 23 = .ok (.bipush 30, 2) := by decide +kernel
theorem dX9_readCounty_25 : decode cX9_readCounty 25 = .ok (.invokevirtual 222, 3) := by decide +kernel
theorem dX9_readCounty_28 : decode cX9_readCounty 28 = .ok (.istore_n 1, 1) := by decide +kernel
theorem dX9_readCounty_29 : decode cX9_readCounty 29 = .ok (.aload_n 0, 1) := by decide +kernel
theorem dX9_readCounty_30 : decode cX9_readCounty 30 = .ok (.ldc 226, 2) := by decide +kernel
theorem dX9_readCounty_32 : decode cX9_readCounty 32 = .ok (.iconst 0, 1) := by decide +kernel
theorem dX9_readCounty_33 : decode cX9_readCounty 33 = .ok (.bipush 99, 2) := by decide +kernel
theorem dX9_readCounty_35 : decode cX9_readCounty 35 = .ok (.invokevirtual 222, 3) := by decide +kernel
theorem dX9_readCounty_38 : decode cX9_readCounty 38 = .ok (.istore_n 2, 1) := by decide +kernel
theorem dX9_readCounty_39 : decode cX9_readCounty 39 = .ok (.aload_n 0, 1) := by decide +kernel
theorem dX9_readCounty_40 : decode cX9_readCounty 40 = .ok (.ldc 228, 2) := by decide +kernel
theorem dX9_readCounty_42 : decode cX9_readCounty 42 = .ok (.iconst 0, 1) := by decide +kernel
theorem dX9_readCounty_43 : decode cX9_readCounty 43 = .ok (.bipush 99, 2) := by decide +kernel
theorem dX9_readCounty_45 : decode cX9_readCounty 45 = .ok (.invokevirtual 222, 3) := by decide +kernel
theorem dX9_readCounty_48 : decode cX9_readCounty 48 = .ok (.istore_n 3, 1) := by decide +kernel
theorem dX9_readCounty_49 : decode cX9_readCounty 49 = .ok (.aload_n 0, 1) := by decide +kernel
theorem dX9_readCounty_50 : decode cX9_readCounty 50 = .ok (.getfield 77, 3) := by decide +kernel
theorem dX9_readCounty_53 : decode cX9_readCounty 53 = .ok (.iconst 5, 1) := by decide +kernel
theorem dX9_readCounty_54 : decode cX9_readCounty 54 = .ok (.if_icmp .ne 4, 3) := by decide +kernel
theorem dX9_readCounty_57 : decode cX9_readCounty 57 = .ok (.return_, 1) := by decide +kernel
theorem dX9_readCounty_58 : decode cX9_readCounty 58 = .ok (.aload_n 0, 1) := by decide +kernel
theorem dX9_readCounty_59 : decode cX9_readCounty 59 = .ok (.getfield 152, 3) := by decide +kernel
theorem dX9_readCounty_62 : decode cX9_readCounty 62 = .ok (.iload_n 1, 1) := by decide +kernel
theorem dX9_readCounty_63 : decode cX9_readCounty 63 = .ok (.putfield 156, 3) := by decide +kernel
theorem dX9_readCounty_66 : decode cX9_readCounty 66 = .ok (.aload_n 0, 1) := by decide +kernel
theorem dX9_readCounty_67 : decode cX9_readCounty 67 = .ok (.getfield 152, 3) := by decide +kernel
theorem dX9_readCounty_70 : decode cX9_readCounty 70 = .ok (.iload_n 2, 1) := by decide +kernel
theorem dX9_readCounty_71 : decode cX9_readCounty 71 = .ok (.putfield 230, 3) := by decide +kernel
theorem dX9_readCounty_74 : decode cX9_readCounty 74 = .ok (.aload_n 0, 1) := by decide +kernel
theorem dX9_readCounty_75 : decode cX9_readCounty 75 = .ok (.getfield 152, 3) := by decide +kernel
theorem dX9_readCounty_78 : decode cX9_readCounty 78 = .ok (.iload_n 3, 1) := by decide +kernel
theorem dX9_readCounty_79 : decode cX9_readCounty 79 = .ok (.putfield 232, 3) := by decide +kernel
theorem dX9_readCounty_82 : decode cX9_readCounty 82 = .ok (.return_, 1) := by decide +kernel
theorem dX9_readPerson_0 : decode cX9_readPerson 0 = .ok (.aload_n 0, 1) := by decide +kernel
theorem dX9_readPerson_1 : decode cX9_readPerson 1 = .ok (.aload_n 0, 1) := by decide +kernel
theorem dX9_readPerson_2 : decode cX9_readPerson 2 = .ok (.getfield 152, 3) := by decide +kernel
theorem dX9_readPerson_5 : decode cX9_readPerson 5 = .ok (.getfield 191, 3) := by decide +kernel
theorem dX9_readPerson_8 : decode cX9_readPerson 8 = .ok (.bipush 6, 2) := by decide +kernel
theorem dX9_readPerson_10 : decode cX9_readPerson 10 = .ok (.invokevirtual 234, 3) := by decide +kernel
theorem dX9_readPerson_13 : decode cX9_readPerson 13 = .ok (.aload_n 0, 1) := by decide +kernel
theorem dX9_readPerson_14 : decode cX9_readPerson 14 = .ok (.invokevirtual 238, 3) := by decide +kernel
theorem dX9_readPerson_17 : decode cX9_readPerson 17 = .ok (.lstore_n 1, 1) := by decide +kernel
theorem dX9_readPerson_18 : decode cX9_readPerson 18 = .ok (.aload_n 0, 1) := by decide +kernel
theorem dX9_readPerson_19 : decode cX9_readPerson 19 = .ok (.ldc 242, 2) := by decide +kernel
theorem dX9_readPerson_21 : decode cX9_readPerson 21 = .ok (.invokevirtual 116, 3) := by decide +kernel
theorem dX9_readPerson_24 : decode cX9_readPerson 24 = .ok (.ifCond .eq 7, 3) := by decide +kernel
theorem dX9_readPerson_27 : decode cX9_readPerson 27 = .ok (.iconst 0, 1) := by decide +kernel
theorem dX9_readPerson_28 : decode cX9_readPerson 28 = .ok (.goto 30, 3) := by decide +kernel
theorem dX9_readPerson_31 : decode cX9_readPerson 31 = .ok (.aload_n 0, 1) := by decide +kernel
theorem dX9_readPerson_32 : decode cX9_readPerson 32 = .ok (.ldc 244, 2) := by decide +kernel
theorem dX9_readPerson_34 : decode cX9_readPerson 34 = .ok (.invokevirtual 116, 3) := by decide +kernel
theorem dX9_readPerson_37 : decode cX9_readPerson 37 = .ok (.ifCond .eq 7, 3) := by decide +kernel
theorem dX9_readPerson_40 : decode cX9_readPerson 40 = .ok (.iconst 1, 1) := by decide +kernel
theorem dX9_readPerson_41 : decode cX9_readPerson 41 = .ok (.goto 17, 3) := by decide +kernel
theorem dX9_readPerson_44 : decode cX9_readPerson 44 = .ok (.aload_n 0, 1) := by decide +kernel
theorem dX9_readPerson_45 : decode cX9_readPerson 45 = .ok (.ldc 246, 2) := by decide +kernel
theorem dX9_readPerson_47 : decode cX9_readPerson 47 = .ok (.invokevirtual 116, 3) := by decide +kernel
theorem dX9_readPerson_50 : decode cX9_readPerson 50 = .ok (.ifCond .eq 7, 3) := by decide +kernel
theorem dX9_readPerson_53 : decode cX9_readPerson 53 = .ok (.iconst 2, 1) := by decide +kernel
theorem dX9_readPerson_54 : decode cX9_readPerson 54 = .ok (.goto 4, 3) := by decide +kernel
theorem dX9_readPerson_57 : decode cX9_readPerson 57 = .ok (.iconst (-1), 1) := by decide +kernel
theorem dX9_readPerson_58 : decode cX9_readPerson 58 = .ok (.istore_n 3, 1) := by decide +kernel
theorem dX9_readPerson_59 : decode cX9_readPerson 59 = .ok (.iload_n 3, 1) := by decide +kernel
theorem dX9_readPerson_60 : decode cX9_readPerson 60 = .ok (.iconst (-1), 1) := by decide +kernel
theorem dX9_readPerson_61 : decode cX9_readPerson 61 = .ok (.if_icmp .ne 8, 3) := by decide +kernel
theorem dX9_readPerson_64 : decode cX9_readPerson 64 = .ok (.aload_n 0, 1) := by decide +kernel
theorem dX9_readPerson_65 : decode cX9_readPerson 65 = .ok (.iconst 1, 1) := by decide +kernel
theorem dX9_readPerson_66 : decode cX9_readPerson 66 = .ok (.invokevirtual 120, 3) := by decide +kernel
theorem dX9_readPerson_69 : decode cX9_readPerson 69 = .ok (.aload_n 0, 1) := by decide +kernel
theorem dX9_readPerson_70 : decode cX9_readPerson 70 = .ok (.invokevirtual 113, 3) := by decide +kernel
theorem dX9_readPerson_73 : decode cX9_readPerson 73 = .ok (.aload_n 0, 1) := by decide +kernel
theorem dX9_readPerson_74 : decode cX9_readPerson 74 = .ok (.getfield 77, 3) := by decide +kernel
theorem dX9_readPerson_77 : decode cX9_readPerson 77 = .ok (.iconst 5, 1) := by decide +kernel
theorem dX9_readPerson_78 : decode cX9_readPerson 78 = .ok (.if_icmp .ne 4, 3) := by decide +kernel
theorem dX9_readPerson_81 : decode cX9_readPerson 81 = .ok (.return_, 1) := by decide +kernel
theorem dX9_readPerson_82 : decode cX9_readPerson 82 = .ok (.aload_n 0, 1) := by decide +kernel
theorem dX9_readPerson_83 : decode cX9_readPerson 83 = .ok (.lload_n 1, 1) := by decide +kernel
theorem dX9_readPerson_84 : decode cX9_readPerson 84 = .ok (.iconst 0, 1) := by decide +kernel
theorem dX9_readPerson_85 : decode cX9_readPerson 85 = .ok (.aload_n 0, 1) := by decide +kernel
theorem dX9_readPerson_86 : decode cX9_readPerson 86 = .ok (.getfield 152, 3) := by decide +kernel
theorem dX9_readPerson_89 : decode cX9_readPerson 89 = .ok (.getfield 191, 3) := by decide +kernel
theorem dX9_readPerson_92 : decode cX9_readPerson 92 = .ok (.invokevirtual 248, 3) := by decide +kernel
theorem dX9_readPerson_95 : decode cX9_readPerson 95 = .ok (.aload_n 0, 1) := by decide +kernel
theorem dX9_readPerson_96 : decode cX9_readPerson 96 = .ok (.getfield 152, 3) := by decide +kernel
theorem dX9_readPerson_99 : decode cX9_readPerson 99 = .ok (.getfield 251, 3) := by decide +kernel
theorem dX9_readPerson_102 : decode cX9_readPerson 102 = .ok (.aload_n 0, 1) := by decide +kernel
theorem dX9_readPerson_103 : decode cX9_readPerson 103 = .ok (.getfield 152, 3) := by decide +kernel
theorem dX9_readPerson_106 : decode cX9_readPerson 106 = .ok (.getfield 191, 3) := by decide +kernel
theorem dX9_readPerson_109 : decode cX9_readPerson 109 = .ok (.iload_n 3, 1) := by decide +kernel
theorem dX9_readPerson_110 : decode cX9_readPerson 110 = .ok (.iastore, 1) := by decide +kernel
theorem dX9_readPerson_111 : decode cX9_readPerson 111 = .ok (.aload_n 0, 1) := by decide +kernel
theorem dX9_readPerson_112 : decode cX9_readPerson 112 = .ok (.getfield 152, 3) := by decide +kernel
theorem dX9_readPerson_115 : decode cX9_readPerson 115 = .ok (.dup, 1) := by decide +kernel
theorem dX9_readPerson_116 : decode cX9_readPerson 116 = .ok (.getfield 191, 3) := by decide +kernel
theorem dX9_readPerson_119 : decode cX9_readPerson 119 = .ok (.iconst 1, 1) := by decide +kernel
theorem dX9_readPerson_120 : decode cX9_readPerson 120 = .ok (.iadd, 1) := by decide +kernel
theorem dX9_readPerson_121 : decode cX9_readPerson 121 = .ok (.putfield 191, 3) := by decide +kernel
theorem dX9_readPerson_124 : decode cX9_readPerson 124 = .ok (.return_, 1) := by decide +kernel
theorem dX9_readUmbrella_0 : decode cX9_readUmbrella 0 = .ok (.aload_n 0, 1) := by decide +kernel
theorem dX9_readUmbrella_1 : decode cX9_readUmbrella 1 = .ok (.aload_n 0, 1) := by decide +kernel
theorem dX9_readUmbrella_2 : decode cX9_readUmbrella 2 = .ok (.getfield 152, 3) := by decide +kernel
theorem dX9_readUmbrella_5 : decode cX9_readUmbrella 5 = .ok (.getfield 194, 3) := by decide +kernel
theorem dX9_readUmbrella_8 : decode cX9_readUmbrella 8 = .ok (.iconst 5, 1) := by decide +kernel
theorem dX9_readUmbrella_9 : decode cX9_readUmbrella 9 = .ok (.invokevirtual 234, 3) := by decide +kernel
theorem dX9_readUmbrella_12 : decode cX9_readUmbrella 12 = .ok (.aload_n 0, 1) := by decide +kernel
theorem dX9_readUmbrella_13 : decode cX9_readUmbrella 13 = .ok (.invokevirtual 238, 3) := by decide +kernel
theorem dX9_readUmbrella_16 : decode cX9_readUmbrella 16 = .ok (.lstore_n 1, 1) := by decide +kernel
theorem dX9_readUmbrella_17 : decode cX9_readUmbrella 17 = .ok (.aload_n 0, 1) := by decide +kernel
theorem dX9_readUmbrella_18 : decode cX9_readUmbrella 18 = .ok (.ldc 253, 2) := by decide +kernel
theorem dX9_readUmbrella_20 : decode cX9_readUmbrella 20 = .ok (.invokevirtual 116, 3) := by decide +kernel
theorem dX9_readUmbrella_23 : decode cX9_readUmbrella 23 = .ok (.ifCond .eq 7, 3) := by decide +kernel
theorem dX9_readUmbrella_26 : decode cX9_readUmbrella 26 = .ok (.iconst 0, 1) := by decide +kernel
theorem dX9_readUmbrella_27 : decode cX9_readUmbrella 27 = .ok (.goto 45, 3) := by decide +kernel
theorem dX9_readUmbrella_30 : decode cX9_readUmbrella 30 = .ok (.aload_n 0, 1) := by decide +kernel
theorem dX9_readUmbrella_31 : decode cX9_readUmbrella 31 = .ok (.ldc 255, 2) := by decide +kernel
theorem dX9_readUmbrella_33 : decode cX9_readUmbrella 33 = .ok (.invokevirtual 116, 3) := by decide +kernel
theorem dX9_readUmbrella_36 : decode cX9_readUmbrella 36 = .ok (.ifCond .eq 7, 3) := by decide +kernel
theorem dX9_readUmbrella_39 : decode cX9_readUmbrella 39 = .ok (.iconst 1, 1) := by decide +kernel
theorem dX9_readUmbrella_40 : decode cX9_readUmbrella 40 = .ok (.goto 32, 3) := by decide +kernel
theorem dX9_readUmbrella_43 : decode cX9_readUmbrella 43 = .ok (.aload_n 0, 1) := by decide +kernel
theorem dX9_readUmbrella_44 : decode cX9_readUmbrella 44 = .ok (.ldc_w 257, 3) := by decide +kernel
theorem dX9_readUmbrella_47 : decode cX9_readUmbrella 47 = .ok (.invokevirtual 116, 3) := by decide +kernel
theorem dX9_readUmbrella_50 : decode cX9_readUmbrella 50 = .ok (.ifCond .eq 7, 3) := by decide +kernel
theorem dX9_readUmbrella_53 : decode cX9_readUmbrella 53 = .ok (.iconst 2, 1) := by decide +kernel
theorem dX9_readUmbrella_54 : decode cX9_readUmbrella 54 = .ok (.goto 18, 3) := by decide +kernel
theorem dX9_readUmbrella_57 : decode cX9_readUmbrella 57 = .ok (.aload_n 0, 1) := by decide +kernel
theorem dX9_readUmbrella_58 : decode cX9_readUmbrella 58 = .ok (.ldc_w 259, 3) := by decide +kernel
theorem dX9_readUmbrella_61 : decode cX9_readUmbrella 61 = .ok (.invokevirtual 116, 3) := by decide +kernel
theorem dX9_readUmbrella_64 : decode cX9_readUmbrella 64 = .ok (.ifCond .eq 7, 3) := by decide +kernel
theorem dX9_readUmbrella_67 : decode cX9_readUmbrella 67 = .ok (.iconst 3, 1) := by decide +kernel
theorem dX9_readUmbrella_68 : decode cX9_readUmbrella 68 = .ok (.goto 4, 3) := by decide +kernel
theorem dX9_readUmbrella_71 : decode cX9_readUmbrella 71 = .ok (.iconst (-1), 1) := by decide +kernel
theorem dX9_readUmbrella_72 : decode cX9_readUmbrella 72 = .ok (.istore_n 3, 1) := by decide +kernel
theorem dX9_readUmbrella_73 : decode cX9_readUmbrella 73 = .ok (.iload_n 3, 1) := by decide +kernel
theorem dX9_readUmbrella_74 : decode cX9_readUmbrella 74 = .ok (.iconst (-1), 1) := by decide +kernel
theorem dX9_readUmbrella_75 : decode cX9_readUmbrella 75 = .ok (.if_icmp .ne 8, 3) := by decide +kernel
theorem dX9_readUmbrella_78 : decode cX9_readUmbrella 78 = .ok (.aload_n 0, 1) := by decide +kernel
theorem dX9_readUmbrella_79 : decode cX9_readUmbrella 79 = .ok (.iconst 1, 1) := by decide +kernel
theorem dX9_readUmbrella_80 : decode cX9_readUmbrella 80 = .ok (.invokevirtual 120, 3) := by decide +kernel
theorem dX9_readUmbrella_83 : decode cX9_readUmbrella 83 = .ok (.aload_n 0, 1) := by decide +kernel
theorem dX9_readUmbrella_84 : decode cX9_readUmbrella 84 = .ok (.invokevirtual 113, 3) := by decide +kernel
theorem dX9_readUmbrella_87 : decode cX9_readUmbrella 87 = .ok (.aload_n 0, 1) := by decide +kernel
theorem dX9_readUmbrella_88 : decode cX9_readUmbrella 88 = .ok (.ldc_w 261, 3) := by decide +kernel
theorem dX9_readUmbrella_91 : decode cX9_readUmbrella 91 = .ok (.iconst 0, 1) := by decide +kernel
theorem dX9_readUmbrella_92 : decode cX9_readUmbrella 92 = .ok (.bipush 99, 2) := by decide +kernel
theorem dX9_readUmbrella_94 : decode cX9_readUmbrella 94 = .ok (.invokevirtual 222, 3) := by decide +kernel
theorem dX9_readUmbrella_97 : decode cX9_readUmbrella 97 = .ok (.istore 4, 2) := by decide +kernel
theorem dX9_readUmbrella_99 : decode cX9_readUmbrella 99 = .ok (.aload_n 0, 1) := by decide +kernel
theorem dX9_readUmbrella_100 : decode cX9_readUmbrella 100 = .ok (.ldc_w 263, 3) := by decide +kernel
theorem dX9_readUmbrella_103 : decode cX9_readUmbrella 103 = .ok (.iconst 4, 1) := by decide +kernel
theorem dX9_readUmbrella_104 : decode cX9_readUmbrella 104 = .ok (.bipush 12, 2) := by decide +kernel
theorem dX9_readUmbrella_106 : decode cX9_readUmbrella 106 = .ok (.invokevirtual 222, 3) := by decide +kernel
theorem dX9_readUmbrella_109 : decode cX9_readUmbrella 109 = .ok (.istore 5, 2) := by decide +kernel
theorem dX9_readUmbrella_111 : decode cX9_readUmbrella 111 = .ok (.bipush (-2), 2) := by decide +kernel
theorem dX9_readUmbrella_113 : decode cX9_readUmbrella 113 = .ok (.istore 6, 2) := by decide +kernel
theorem dX9_readUmbrella_115 : decode cX9_readUmbrella 115 = .ok (.aload_n 0, 1) := by decide +kernel
theorem dX9_readUmbrella_116 : decode cX9_readUmbrella 116 = .ok (.ldc_w 265, 3) := by decide +kernel
theorem dX9_readUmbrella_119 : decode cX9_readUmbrella 119 = .ok (.invokevirtual 116, 3) := by decide +kernel
theorem dX9_readUmbrella_122 : decode cX9_readUmbrella 122 = .ok (.ifCond .eq 14, 3) := by decide +kernel
theorem dX9_readUmbrella_125 : decode cX9_readUmbrella 125 = .ok (.aload_n 0, 1) := by decide +kernel
theorem dX9_readUmbrella_126 : decode cX9_readUmbrella 126 = .ok (.invokevirtual 113, 3) := by decide +kernel
theorem dX9_readUmbrella_129 : decode cX9_readUmbrella 129 = .ok (.aload_n 0, 1) := by decide +kernel
theorem dX9_readUmbrella_130 : decode cX9_readUmbrella 130 = .ok (.iconst 0, 1) := by decide +kernel
theorem dX9_readUmbrella_131 : decode cX9_readUmbrella 131 = .ok (.invokevirtual 267, 3) := by decide +kernel
theorem dX9_readUmbrella_134 : decode cX9_readUmbrella 134 = .ok (.istore 6, 2) := by decide +kernel
theorem dX9_readUmbrella_136 : decode cX9_readUmbrella 136 = .ok (.aload_n 0, 1) := by decide +kernel
theorem dX9_readUmbrella_137 : decode cX9_readUmbrella 137 = .ok (.getfield 77, 3) := by decide +kernel
theorem dX9_readUmbrella_140 : decode cX9_readUmbrella 140 = .ok (.iconst 5, 1) := by decide +kernel
theorem dX9_readUmbrella_141 : decode cX9_readUmbrella 141 = .ok (.if_icmp .ne 4, 3) := by decide +kernel
theorem dX9_readUmbrella_144 : decode cX9_readUmbrella 144 = .ok (.return_, 1) := by decide +kernel
theorem dX9_readUmbrella_145 : decode cX9_readUmbrella 145 = .ok (.aload_n 0, 1) := by decide +kernel
theorem dX9_readUmbrella_146 : decode cX9_readUmbrella 146 = .ok (.getfield 152, 3) := by decide +kernel
theorem dX9_readUmbrella_149 : decode cX9_readUmbrella 149 = .ok (.getfield 194, 3) := by decide +kernel
theorem dX9_readUmbrella_152 : decode cX9_readUmbrella 152 = .ok (.istore 7, 2) := by decide +kernel
theorem dX9_readUmbrella_154 : decode cX9_readUmbrella 154 = .ok (.aload_n 0, 1) := by decide +kernel
theorem dX9_readUmbrella_155 : decode cX9_readUmbrella 155 = .ok (.lload_n 1, 1) := by decide +kernel
theorem dX9_readUmbrella_156 : decode cX9_readUmbrella 156 = .ok (.iconst 1, 1) := by decide +kernel
theorem dX9_readUmbrella_157 : decode cX9_readUmbrella 157 = .ok (.iload 7, 2) := by decide +kernel
theorem dX9_readUmbrella_159 : decode cX9_readUmbrella 159 = .ok (.invokevirtual 248, 3) := by decide +kernel
theorem dX9_readUmbrella_162 : decode cX9_readUmbrella 162 = .ok (.aload_n 0, 1) := by decide +kernel
theorem dX9_readUmbrella_163 : decode cX9_readUmbrella 163 = .ok (.getfield 152, 3) := by decide +kernel
theorem dX9_readUmbrella_166 : decode cX9_readUmbrella 166 = .ok (.getfield 270, 3) := by decide +kernel
theorem dX9_readUmbrella_169 : decode cX9_readUmbrella 169 = .ok (.iload 7, 2) := by decide +kernel
theorem dX9_readUmbrella_171 : decode cX9_readUmbrella 171 = .ok (.iload_n 3, 1) := by decide +kernel
theorem dX9_readUmbrella_172 : decode cX9_readUmbrella 172 = .ok (.iastore, 1) := by decide +kernel
theorem dX9_readUmbrella_173 : decode cX9_readUmbrella 173 = .ok (.aload_n 0, 1) := by decide +kernel
theorem dX9_readUmbrella_174 : decode cX9_readUmbrella 174 = .ok (.getfield 152, 3) := by decide +kernel
theorem dX9_readUmbrella_177 : decode cX9_readUmbrella 177 = .ok (.getfield 273, 3) := by decide +kernel
theorem dX9_readUmbrella_180 : decode cX9_readUmbrella 180 = .ok (.iload 7, 2) := by decide +kernel
theorem dX9_readUmbrella_182 : decode cX9_readUmbrella 182 = .ok (.iload 4, 2) := by decide +kernel
theorem dX9_readUmbrella_184 : decode cX9_readUmbrella 184 = .ok (.iastore, 1) := by decide +kernel
theorem dX9_readUmbrella_185 : decode cX9_readUmbrella 185 = .ok (.aload_n 0, 1) := by decide +kernel
theorem dX9_readUmbrella_186 : decode cX9_readUmbrella 186 = .ok (.getfield 152, 3) := by decide +kernel
theorem dX9_readUmbrella_189 : decode cX9_readUmbrella 189 = .ok (.getfield 275, 3) := by decide +kernel
theorem dX9_readUmbrella_192 : decode cX9_readUmbrella 192 = .ok (.iload 7, 2) := by decide +kernel
theorem dX9_readUmbrella_194 : decode cX9_readUmbrella 194 = .ok (.iload 5, 2) := by decide +kernel
theorem dX9_readUmbrella_196 : decode cX9_readUmbrella 196 = .ok (.iastore, 1) := by decide +kernel
theorem dX9_readUmbrella_197 : decode cX9_readUmbrella 197 = .ok (.aload_n 0, 1) := by decide +kernel
theorem dX9_readUmbrella_198 : decode cX9_readUmbrella 198 = .ok (.getfield 152, 3) := by decide +kernel
theorem dX9_readUmbrella_201 : decode cX9_readUmbrella 201 = .ok (.getfield 277, 3) := by decide +kernel
theorem dX9_readUmbrella_204 : decode cX9_readUmbrella 204 = .ok (.iload 7, 2) := by decide +kernel
theorem dX9_readUmbrella_206 : decode cX9_readUmbrella 206 = .ok (.iload 6, 2) := by decide +kernel
theorem dX9_readUmbrella_208 : decode cX9_readUmbrella 208 = .ok (.iastore, 1) := by decide +kernel
theorem dX9_readUmbrella_209 : decode cX9_readUmbrella 209 = .ok (.aload_n 0, 1) := by decide +kernel
theorem dX9_readUmbrella_210 : decode cX9_readUmbrella 210 = .ok (.getfield 152, 3) := by decide +kernel
theorem dX9_readUmbrella_213 : decode cX9_readUmbrella 213 = .ok (.dup, 1) := by decide +kernel
theorem dX9_readUmbrella_214 : decode cX9_readUmbrella 214 = .ok (.getfield 194, 3) := by decide +kernel
theorem dX9_readUmbrella_217 : decode cX9_readUmbrella 217 = .ok (.iconst 1, 1) := by decide +kernel
theorem dX9_readUmbrella_218 : decode cX9_readUmbrella 218 = .ok (.iadd, 1) := by decide +kernel
theorem dX9_readUmbrella_219 : decode cX9_readUmbrella 219 = .ok (.putfield 194, 3) := by decide +kernel
theorem dX9_readUmbrella_222 : decode cX9_readUmbrella 222 = .ok (.return_, 1) := by decide +kernel
theorem dX9_logs_0 : decode cX9_logs 0 = .ok (.aload_n 0, 1) := by decide +kernel
theorem dX9_logs_1 : decode cX9_logs 1 = .ok (.getfield 152, 3) := by decide +kernel
theorem dX9_logs_4 : decode cX9_logs 4 = .ok (.getfield 279, 3) := by decide +kernel
theorem dX9_logs_7 : decode cX9_logs 7 = .ok (.ifCond .ne 7, 3) := by decide +kernel
theorem dX9_logs_10 : decode cX9_logs 10 = .ok (.iconst 0, 1) := by decide +kernel
theorem dX9_logs_11 : decode cX9_logs 11 = .ok (.goto 20, 3) := by decide +kernel
theorem dX9_logs_14 : decode cX9_logs 14 = .ok (.aload_n 0, 1) := by decide +kernel
theorem dX9_logs_15 : decode cX9_logs 15 = .ok (.getfield 152, 3) := by decide +kernel
theorem dX9_logs_18 : decode cX9_logs 18 = .ok (.getfield 282, 3) := by decide +kernel
theorem dX9_logs_21 : decode cX9_logs 21 = .ok (.aload_n 0, 1) := by decide +kernel
theorem dX9_logs_22 : decode cX9_logs 22 = .ok (.getfield 152, 3) := by decide +kernel
theorem dX9_logs_25 : decode cX9_logs 25 = .ok (.getfield 279, 3) := by decide +kernel
theorem dX9_logs_28 : decode cX9_logs 28 = .ok (.iconst 1, 1) := by decide +kernel
theorem dX9_logs_29 : decode cX9_logs 29 = .ok (.isub, 1) := by decide +kernel
theorem dX9_logs_30 : decode cX9_logs 30 = .ok (.iaload, 1) := by decide +kernel
theorem dX9_logs_31 : decode cX9_logs 31 = .ok (.istore 4, 2) := by decide +kernel
theorem dX9_logs_33 : decode cX9_logs 33 = .ok (.aload_n 0, 1) := by decide +kernel
theorem dX9_logs_34 : decode cX9_logs 34 = .ok (.ldc_w 285, 3) := by decide +kernel
theorem dX9_logs_37 : decode cX9_logs 37 = .ok (.iload 4, 2) := by decide +kernel
theorem dX9_logs_39 : decode cX9_logs 39 = .ok (.bipush 40, 2) := by decide +kernel
theorem dX9_logs_41 : decode cX9_logs 41 = .ok (.invokevirtual 222, 3) := by decide +kernel
theorem dX9_logs_44 : decode cX9_logs 44 = .ok (.istore 5, 2) := by decide +kernel
theorem dX9_logs_46 : decode cX9_logs 46 = .ok (.aload_n 0, 1) := by decide +kernel
theorem dX9_logs_47 : decode cX9_logs 47 = .ok (.getfield 77, 3) := by decide +kernel
theorem dX9_logs_50 : decode cX9_logs 50 = .ok (.iconst 5, 1) := by decide +kernel
theorem dX9_logs_51 : decode cX9_logs 51 = .ok (.if_icmp .ne 4, 3) := by decide +kernel
theorem dX9_logs_54 : decode cX9_logs 54 = .ok (.return_, 1) := by decide +kernel
theorem dX9_logs_55 : decode cX9_logs 55 = .ok (.aload_n 0, 1) := by decide +kernel
theorem dX9_logs_56 : decode cX9_logs 56 = .ok (.getfield 152, 3) := by decide +kernel
theorem dX9_logs_59 : decode cX9_logs 59 = .ok (.getfield 286, 3) := by decide +kernel
theorem dX9_logs_62 : decode cX9_logs 62 = .ok (.aload_n 0, 1) := by decide +kernel
theorem dX9_logs_63 : decode cX9_logs 63 = .ok (.getfield 152, 3) := by decide +kernel
theorem dX9_logs_66 : decode cX9_logs 66 = .ok (.getfield 279, 3) := by decide +kernel
theorem dX9_logs_69 : decode cX9_logs 69 = .ok (.iload_n 1, 1) := by decide +kernel
theorem dX9_logs_70 : decode cX9_logs 70 = .ok (.iastore, 1) := by decide +kernel
theorem dX9_logs_71 : decode cX9_logs 71 = .ok (.aload_n 0, 1) := by decide +kernel
theorem dX9_logs_72 : decode cX9_logs 72 = .ok (.getfield 152, 3) := by decide +kernel
theorem dX9_logs_75 : decode cX9_logs 75 = .ok (.getfield 289, 3) := by decide +kernel
theorem dX9_logs_78 : decode cX9_logs 78 = .ok (.aload_n 0, 1) := by decide +kernel
theorem dX9_logs_79 : decode cX9_logs 79 = .ok (.getfield 152, 3) := by decide +kernel
theorem dX9_logs_82 : decode cX9_logs 82 = .ok (.getfield 279, 3) := by decide +kernel
theorem dX9_logs_85 : decode cX9_logs 85 = .ok (.iload_n 2, 1) := by decide +kernel
theorem dX9_logs_86 : decode cX9_logs 86 = .ok (.iastore, 1) := by decide +kernel
theorem dX9_logs_87 : decode cX9_logs 87 = .ok (.aload_n 0, 1) := by decide +kernel
theorem dX9_logs_88 : decode cX9_logs 88 = .ok (.getfield 152, 3) := by decide +kernel
theorem dX9_logs_91 : decode cX9_logs 91 = .ok (.getfield 292, 3) := by decide +kernel
theorem dX9_logs_94 : decode cX9_logs 94 = .ok (.aload_n 0, 1) := by decide +kernel
theorem dX9_logs_95 : decode cX9_logs 95 = .ok (.getfield 152, 3) := by decide +kernel
theorem dX9_logs_98 : decode cX9_logs 98 = .ok (.getfield 279, 3) := by decide +kernel
theorem dX9_logs_101 : decode cX9_logs 101 = .ok (.iload_n 3, 1) := by decide +kernel
theorem dX9_logs_102 : decode cX9_logs 102 = .ok (.iastore, 1) := by decide +kernel
theorem dX9_logs_103 : decode cX9_logs 103 = .ok (.aload_n 0, 1) := by decide +kernel
theorem dX9_logs_104 : decode cX9_logs 104 = .ok (.getfield 152, 3) := by decide +kernel
theorem dX9_logs_107 : decode cX9_logs 107 = .ok (.getfield 282, 3) := by decide +kernel
theorem dX9_logs_110 : decode cX9_logs 110 = .ok (.aload_n 0, 1) := by decide +kernel
theorem dX9_logs_111 : decode cX9_logs 111 = .ok (.getfield 152, 3) := by decide +kernel
theorem dX9_logs_114 : decode cX9_logs 114 = .ok (.getfield 279, 3) := by decide +kernel
theorem dX9_logs_117 : decode cX9_logs 117 = .ok (.iload 5, 2) := by decide +kernel
theorem dX9_logs_119 : decode cX9_logs 119 = .ok (.iastore, 1) := by decide +kernel
theorem dX9_logs_120 : decode cX9_logs 120 = .ok (.aload_n 0, 1) := by decide +kernel
theorem dX9_logs_121 : decode cX9_logs 121 = .ok (.getfield 152, 3) := by decide +kernel
theorem dX9_logs_124 : decode cX9_logs 124 = .ok (.dup, 1) := by decide +kernel
theorem dX9_logs_125 : decode cX9_logs 125 = .ok (.getfield 279, 3) := by decide +kernel
theorem dX9_logs_128 : decode cX9_logs 128 = .ok (.iconst 1, 1) := by decide +kernel
theorem dX9_logs_129 : decode cX9_logs 129 = .ok (.iadd, 1) := by decide +kernel
theorem dX9_logs_130 : decode cX9_logs 130 = .ok (.putfield 279, 3) := by decide +kernel
theorem dX9_logs_133 : decode cX9_logs 133 = .ok (.return_, 1) := by decide +kernel
theorem dX9_readLent_0 : decode cX9_readLent 0 = .ok (.aload_n 0, 1) := by decide +kernel
theorem dX9_readLent_1 : decode cX9_readLent 1 = .ok (.aload_n 0, 1) := by decide +kernel
theorem dX9_readLent_2 : decode cX9_readLent 2 = .ok (.getfield 152, 3) := by decide +kernel
theorem dX9_readLent_5 : decode cX9_readLent 5 = .ok (.getfield 279, 3) := by decide +kernel
theorem dX9_readLent_8 : decode cX9_readLent 8 = .ok (.bipush 16, 2) := by decide +kernel
theorem dX9_readLent_10 : decode cX9_readLent 10 = .ok (.invokevirtual 234, 3) := by decide +kernel
theorem dX9_readLent_13 : decode cX9_readLent 13 = .ok (.aload_n 0, 1) := by decide +kernel
theorem dX9_readLent_14 : decode cX9_readLent 14 = .ok (.iconst 1, 1) := by decide +kernel
theorem dX9_readLent_15 : decode cX9_readLent 15 = .ok (.invokevirtual 267, 3) := by decide +kernel
theorem dX9_readLent_18 : decode cX9_readLent 18 = .ok (.istore_n 1, 1) := by decide +kernel
theorem dX9_readLent_19 : decode cX9_readLent 19 = .ok (.aload_n 0, 1) := by decide +kernel
theorem dX9_readLent_20 : decode cX9_readLent 20 = .ok (.iconst 0, 1) := by decide +kernel
theorem dX9_readLent_21 : decode cX9_readLent 21 = .ok (.invokevirtual 267, 3) := by decide +kernel
theorem dX9_readLent_24 : decode cX9_readLent 24 = .ok (.istore_n 2, 1) := by decide +kernel
theorem dX9_readLent_25 : decode cX9_readLent 25 = .ok (.aload_n 0, 1) := by decide +kernel
theorem dX9_readLent_26 : decode cX9_readLent 26 = .ok (.iconst 0, 1) := by decide +kernel
theorem dX9_readLent_27 : decode cX9_readLent 27 = .ok (.iload_n 1, 1) := by decide +kernel
theorem dX9_readLent_28 : decode cX9_readLent 28 = .ok (.iload_n 2, 1) := by decide +kernel
theorem dX9_readLent_29 : decode cX9_readLent 29 = .ok (.invokevirtual 295, 3) := by decide +kernel
theorem dX9_readLent_32 : decode cX9_readLent 32 = .ok (.return_, 1) := by decide +kernel
theorem dX9_readLeft_0 : decode cX9_readLeft 0 = .ok (.aload_n 0, 1) := by decide +kernel
theorem dX9_readLeft_1 : decode cX9_readLeft 1 = .ok (.aload_n 0, 1) := by decide +kernel
theorem dX9_readLeft_2 : decode cX9_readLeft 2 = .ok (.getfield 152, 3) := by decide +kernel
theorem dX9_readLeft_5 : decode cX9_readLeft 5 = .ok (.getfield 279, 3) := by decide +kernel
theorem dX9_readLeft_8 : decode cX9_readLeft 8 = .ok (.bipush 16, 2) := by decide +kernel
theorem dX9_readLeft_10 : decode cX9_readLeft 10 = .ok (.invokevirtual 234, 3) := by decide +kernel
theorem dX9_readLeft_13 : decode cX9_readLeft 13 = .ok (.aload_n 0, 1) := by decide +kernel
theorem dX9_readLeft_14 : decode cX9_readLeft 14 = .ok (.iconst 1, 1) := by decide +kernel
theorem dX9_readLeft_15 : decode cX9_readLeft 15 = .ok (.invokevirtual 267, 3) := by decide +kernel
theorem dX9_readLeft_18 : decode cX9_readLeft 18 = .ok (.istore_n 1, 1) := by decide +kernel
theorem dX9_readLeft_19 : decode cX9_readLeft 19 = .ok (.aload_n 0, 1) := by decide +kernel
theorem dX9_readLeft_20 : decode cX9_readLeft 20 = .ok (.iconst 1, 1) := by decide +kernel
theorem dX9_readLeft_21 : decode cX9_readLeft 21 = .ok (.iload_n 1, 1) := by decide +kernel
theorem dX9_readLeft_22 : decode cX9_readLeft 22 = .ok (.iconst 0, 1) := by decide +kernel
theorem dX9_readLeft_23 : decode cX9_readLeft 23 = .ok (.invokevirtual 295, 3) := by decide +kernel
theorem dX9_readLeft_26 : decode cX9_readLeft 26 = .ok (.return_, 1) := by decide +kernel
theorem dX9_readChanged_0 : decode cX9_readChanged 0 = .ok (.aload_n 0, 1) := by decide +kernel
theorem dX9_readChanged_1 : decode cX9_readChanged 1 = .ok (.aload_n 0, 1) := by decide +kernel
theorem dX9_readChanged_2 : decode cX9_readChanged 2 = .ok (.getfield 152, 3) := by decide +kernel
theorem dX9_readChanged_5 : decode cX9_readChanged 5 = .ok (.getfield 279, 3) := by decide +kernel
theorem dX9_readChanged_8 : decode cX9_readChanged 8 = .ok (.bipush 16, 2) := by decide +kernel
theorem dX9_readChanged_10 : decode cX9_readChanged 10 = .ok (.invokevirtual 234, 3) := by decide +kernel
theorem dX9_readChanged_13 : decode cX9_readChanged 13 = .ok (.aload_n 0, 1) := by decide +kernel
theorem dX9_readChanged_14 : decode cX9_readChanged 14 = .ok (.iconst 1, 1) := by decide +kernel
theorem dX9_readChanged_15 : decode cX9_readChanged 15 = .ok (.invokevirtual 267, 3) := by decide +kernel
theorem dX9_readChanged_18 : decode cX9_readChanged 18 = .ok (.istore_n 1, 1) := by decide +kernel
theorem dX9_readChanged_19 : decode cX9_readChanged 19 = .ok (.aload_n 0, 1) := by decide +kernel
theorem dX9_readChanged_20 : decode cX9_readChanged 20 = .ok (.iconst 1, 1) := by decide +kernel
theorem dX9_readChanged_21 : decode cX9_readChanged 21 = .ok (.invokevirtual 182, 3) := by decide +kernel
theorem dX9_readChanged_24 : decode cX9_readChanged 24 = .ok (.istore_n 2, 1) := by decide +kernel
theorem dX9_readChanged_25 : decode cX9_readChanged 25 = .ok (.aload_n 0, 1) := by decide +kernel
theorem dX9_readChanged_26 : decode cX9_readChanged 26 = .ok (.getfield 77, 3) := by decide +kernel
theorem dX9_readChanged_29 : decode cX9_readChanged 29 = .ok (.iconst 5, 1) := by decide +kernel
theorem dX9_readChanged_30 : decode cX9_readChanged 30 = .ok (.if_icmp .eq 13, 3) := by decide +kernel
theorem dX9_readChanged_33 : decode cX9_readChanged 33 = .ok (.iload_n 1, 1) := by decide +kernel
theorem dX9_readChanged_34 : decode cX9_readChanged 34 = .ok (.iload_n 2, 1) := by decide +kernel
theorem dX9_readChanged_35 : decode cX9_readChanged 35 = .ok (.if_icmp .ne 8, 3) := by decide +kernel
theorem dX9_readChanged_38 : decode cX9_readChanged 38 = .ok (.aload_n 0, 1) := by decide +kernel
theorem dX9_readChanged_39 : decode cX9_readChanged 39 = .ok (.iconst 3, 1) := by decide +kernel
theorem dX9_readChanged_40 : decode cX9_readChanged 40 = .ok (.invokevirtual 120, 3) := by decide +kernel
theorem dX9_readChanged_43 : decode cX9_readChanged 43 = .ok (.aload_n 0, 1) := by decide +kernel
theorem dX9_readChanged_44 : decode cX9_readChanged 44 = .ok (.invokevirtual 113, 3) := by decide +kernel
theorem dX9_readChanged_47 : decode cX9_readChanged 47 = .ok (.aload_n 0, 1) := by decide +kernel
theorem dX9_readChanged_48 : decode cX9_readChanged 48 = .ok (.iconst 2, 1) := by decide +kernel
theorem dX9_readChanged_49 : decode cX9_readChanged 49 = .ok (.iload_n 1, 1) := by decide +kernel
theorem dX9_readChanged_50 : decode cX9_readChanged 50 = .ok (.iload_n 2, 1) := by decide +kernel
theorem dX9_readChanged_51 : decode cX9_readChanged 51 = .ok (.invokevirtual 295, 3) := by decide +kernel
theorem dX9_readChanged_54 : decode cX9_readChanged 54 = .ok (.return_, 1) := by decide +kernel
theorem dX9_readRain_0 : decode cX9_readRain 0 = .ok (.aload_n 0, 1) := by decide +kernel
theorem dX9_readRain_1 : decode cX9_readRain 1 = .ok (.aload_n 0, 1) := by decide +kernel
theorem dX9_readRain_2 : decode cX9_readRain 2 = .ok (.getfield 152, 3) := by decide +kernel
theorem dX9_readRain_5 : decode cX9_readRain 5 = .ok (.getfield 279, 3) := by decide +kernel
theorem dX9_readRain_8 : decode cX9_readRain 8 = .ok (.bipush 16, 2) := by decide +kernel
theorem dX9_readRain_10 : decode cX9_readRain 10 = .ok (.invokevirtual 234, 3) := by decide +kernel
theorem dX9_readRain_13 : decode cX9_readRain 13 = .ok (.aload_n 0, 1) := by decide +kernel
theorem dX9_readRain_14 : decode cX9_readRain 14 = .ok (.iconst 3, 1) := by decide +kernel
theorem dX9_readRain_15 : decode cX9_readRain 15 = .ok (.iconst 0, 1) := by decide +kernel
theorem dX9_readRain_16 : decode cX9_readRain 16 = .ok (.iconst 0, 1) := by decide +kernel
theorem dX9_readRain_17 : decode cX9_readRain 17 = .ok (.invokevirtual 295, 3) := by decide +kernel
theorem dX9_readRain_20 : decode cX9_readRain 20 = .ok (.return_, 1) := by decide +kernel
theorem dX9_readClaims_0 : decode cX9_readClaims 0 = .ok (.aload_n 0, 1) := by decide +kernel
theorem dX9_readClaims_1 : decode cX9_readClaims 1 = .ok (.aload_n 0, 1) := by decide +kernel
theorem dX9_readClaims_2 : decode cX9_readClaims 2 = .ok (.getfield 152, 3) := by decide +kernel
theorem dX9_readClaims_5 : decode cX9_readClaims 5 = .ok (.getfield 298, 3) := by decide +kernel
theorem dX9_readClaims_8 : decode cX9_readClaims 8 = .ok (.bipush 6, 2) := by decide +kernel
theorem dX9_readClaims_10 : decode cX9_readClaims 10 = .ok (.invokevirtual 234, 3) := by decide +kernel
theorem dX9_readClaims_13 : decode cX9_readClaims 13 = .ok (.aload_n 0, 1) := by decide +kernel
theorem dX9_readClaims_14 : decode cX9_readClaims 14 = .ok (.iconst 0, 1) := by decide +kernel
theorem dX9_readClaims_15 : decode cX9_readClaims 15 = .ok (.invokevirtual 267, 3) := by decide +kernel
theorem dX9_readClaims_18 : decode cX9_readClaims 18 = .ok (.istore_n 1, 1) := by decide +kernel
theorem dX9_readClaims_19 : decode cX9_readClaims 19 = .ok (.aload_n 0, 1) := by decide +kernel
theorem dX9_readClaims_20 : decode cX9_readClaims 20 = .ok (.iconst 1, 1) := by decide +kernel
theorem dX9_readClaims_21 : decode cX9_readClaims 21 = .ok (.invokevirtual 267, 3) := by decide +kernel
theorem dX9_readClaims_24 : decode cX9_readClaims 24 = .ok (.istore_n 2, 1) := by decide +kernel
theorem dX9_readClaims_25 : decode cX9_readClaims 25 = .ok (.aload_n 0, 1) := by decide +kernel
theorem dX9_readClaims_26 : decode cX9_readClaims 26 = .ok (.ldc_w 285, 3) := by decide +kernel
theorem dX9_readClaims_29 : decode cX9_readClaims 29 = .ok (.iconst 0, 1) := by decide +kernel
theorem dX9_readClaims_30 : decode cX9_readClaims 30 = .ok (.bipush 40, 2) := by decide +kernel
theorem dX9_readClaims_32 : decode cX9_readClaims 32 = .ok (.invokevirtual 222, 3) := by decide +kernel
theorem dX9_readClaims_35 : decode cX9_readClaims 35 = .ok (.istore_n 3, 1) := by decide +kernel
theorem dX9_readClaims_36 : decode cX9_readClaims 36 = .ok (.aload_n 0, 1) := by decide +kernel
theorem dX9_readClaims_37 : decode cX9_readClaims 37 = .ok (.getfield 77, 3) := by decide +kernel
theorem dX9_readClaims_40 : decode cX9_readClaims 40 = .ok (.iconst 5, 1) := by decide +kernel
theorem dX9_readClaims_41 : decode cX9_readClaims 41 = .ok (.if_icmp .ne 4, 3) := by decide +kernel
theorem dX9_readClaims_44 : decode cX9_readClaims 44 = .ok (.return_, 1) := by decide +kernel
theorem dX9_readClaims_45 : decode cX9_readClaims 45 = .ok (.aload_n 0, 1) := by decide +kernel
theorem dX9_readClaims_46 : decode cX9_readClaims 46 = .ok (.getfield 152, 3) := by decide +kernel
theorem dX9_readClaims_49 : decode cX9_readClaims 49 = .ok (.getfield 300, 3) := by decide +kernel
theorem dX9_readClaims_52 : decode cX9_readClaims 52 = .ok (.aload_n 0, 1) := by decide +kernel
theorem dX9_readClaims_53 : decode cX9_readClaims 53 = .ok (.getfield 152, 3) := by decide +kernel
theorem dX9_readClaims_56 : decode cX9_readClaims 56 = .ok (.getfield 298, 3) := by decide +kernel
theorem dX9_readClaims_59 : decode cX9_readClaims 59 = .ok (.iload_n 1, 1) := by decide +kernel
theorem dX9_readClaims_60 : decode cX9_readClaims 60 = .ok (.iastore, 1) := by decide +kernel
theorem dX9_readClaims_61 : decode cX9_readClaims 61 = .ok (.aload_n 0, 1) := by decide +kernel
theorem dX9_readClaims_62 : decode cX9_readClaims 62 = .ok (.getfield 152, 3) := by decide +kernel
theorem dX9_readClaims_65 : decode cX9_readClaims 65 = .ok (.getfield 303, 3) := by decide +kernel
theorem dX9_readClaims_68 : decode cX9_readClaims 68 = .ok (.aload_n 0, 1) := by decide +kernel
theorem dX9_readClaims_69 : decode cX9_readClaims 69 = .ok (.getfield 152, 3) := by decide +kernel
theorem dX9_readClaims_72 : decode cX9_readClaims 72 = .ok (.getfield 298, 3) := by decide +kernel
theorem dX9_readClaims_75 : decode cX9_readClaims 75 = .ok (.iload_n 2, 1) := by decide +kernel
theorem dX9_readClaims_76 : decode cX9_readClaims 76 = .ok (.iastore, 1) := by decide +kernel
theorem dX9_readClaims_77 : decode cX9_readClaims 77 = .ok (.aload_n 0, 1) := by decide +kernel
theorem dX9_readClaims_78 : decode cX9_readClaims 78 = .ok (.getfield 152, 3) := by decide +kernel
theorem dX9_readClaims_81 : decode cX9_readClaims 81 = .ok (.getfield 306, 3) := by decide +kernel
theorem dX9_readClaims_84 : decode cX9_readClaims 84 = .ok (.aload_n 0, 1) := by decide +kernel
theorem dX9_readClaims_85 : decode cX9_readClaims 85 = .ok (.getfield 152, 3) := by decide +kernel
theorem dX9_readClaims_88 : decode cX9_readClaims 88 = .ok (.getfield 298, 3) := by decide +kernel
theorem dX9_readClaims_91 : decode cX9_readClaims 91 = .ok (.iload_n 3, 1) := by decide +kernel
theorem dX9_readClaims_92 : decode cX9_readClaims 92 = .ok (.iastore, 1) := by decide +kernel
theorem dX9_readClaims_93 : decode cX9_readClaims 93 = .ok (.aload_n 0, 1) := by decide +kernel
theorem dX9_readClaims_94 : decode cX9_readClaims 94 = .ok (.getfield 152, 3) := by decide +kernel
theorem dX9_readClaims_97 : decode cX9_readClaims 97 = .ok (.dup, 1) := by decide +kernel
theorem dX9_readClaims_98 : decode cX9_readClaims 98 = .ok (.getfield 298, 3) := by decide +kernel
theorem dX9_readClaims_101 : decode cX9_readClaims 101 = .ok (.iconst 1, 1) := by decide +kernel
theorem dX9_readClaims_102 : decode cX9_readClaims 102 = .ok (.iadd, 1) := by decide +kernel
theorem dX9_readClaims_103 : decode cX9_readClaims 103 = .ok (.putfield 298, 3) := by decide +kernel
theorem dX9_readClaims_106 : decode cX9_readClaims 106 = .ok (.return_, 1) := by decide +kernel
theorem dX9_feed_0 : decode cX9_feed 0 = .ok (.aload_n 0, 1) := by decide +kernel
theorem dX9_feed_1 : decode cX9_feed 1 = .ok (.iconst 0, 1) := by decide +kernel
theorem dX9_feed_2 : decode cX9_feed 2 = .ok (.putfield 45, 3) := by decide +kernel
theorem dX9_feed_5 : decode cX9_feed 5 = .ok (.aload_n 0, 1) := by decide +kernel
theorem dX9_feed_6 : decode cX9_feed 6 = .ok (.getfield 309, 3) := by decide +kernel
theorem dX9_feed_9 : decode cX9_feed 9 = .ok (.bipush 20, 2) := by decide +kernel
theorem dX9_feed_11 : decode cX9_feed 11 = .ok (.iadd, 1) := by decide +kernel
theorem dX9_feed_12 : decode cX9_feed 12 = .ok (.sipush 1000, 3) := by decide +kernel
theorem dX9_feed_15 : decode cX9_feed 15 = .ok (.if_icmp .le 5, 3) := by decide +kernel
theorem dX9_feed_18 : decode cX9_feed 18 = .ok (.iconst (-1), 1) := by decide +kernel
theorem dX9_feed_19 : decode cX9_feed 19 = .ok (.ireturn, 1) := by decide +kernel
theorem dX9_feed_20 : decode cX9_feed 20 = .ok (.iconst 0, 1) := by decide +kernel
theorem dX9_feed_21 : decode cX9_feed 21 = .ok (.istore 6, 2) := by decide +kernel
theorem dX9_feed_23 : decode cX9_feed 23 = .ok (.iload 6, 2) := by decide +kernel
theorem dX9_feed_25 : decode cX9_feed 25 = .ok (.bipush 20, 2) := by decide +kernel
theorem dX9_feed_27 : decode cX9_feed 27 = .ok (.if_icmp .ge 90, 3) := by decide +kernel
theorem dX9_feed_30 : decode cX9_feed 30 = .ok (.iload 6, 2) := by decide +kernel
theorem dX9_feed_32 : decode cX9_feed 32 = .ok (.iconst 4, 1) := by decide +kernel
theorem dX9_feed_33 : decode cX9_feed 33 = .ok (.if_icmp .ge 7, 3) := by decide +kernel
theorem dX9_feed_36 : decode cX9_feed 36 = .ok (.iload_n 1, 1) := by decide +kernel
theorem dX9_feed_37 : decode cX9_feed 37 = .ok (.goto 39, 3) := by decide +kernel
theorem dX9_feed_40 : decode cX9_feed 40 = .ok (.iload 6, 2) := by decide +kernel
theorem dX9_feed_42 : decode cX9_feed 42 = .ok (.bipush 8, 2) := by decide +kernel
theorem dX9_feed_44 : decode cX9_feed 44 = .ok (.if_icmp .ge 7, 3) := by decide +kernel
theorem dX9_feed_47 : decode cX9_feed 47 = .ok (.iload_n 2, 1) := by decide +kernel
theorem dX9_feed_48 : decode cX9_feed 48 = .ok (.goto 28, 3) := by decide +kernel
theorem dX9_feed_51 : decode cX9_feed 51 = .ok (.iload 6, 2) := by decide +kernel
theorem dX9_feed_53 : decode cX9_feed 53 = .ok (.bipush 12, 2) := by decide +kernel
theorem dX9_feed_55 : decode cX9_feed 55 = .ok (.if_icmp .ge 7, 3) := by decide +kernel
theorem dX9_feed_58 : decode cX9_feed 58 = .ok (.iload_n 3, 1) := by decide +kernel
theorem dX9_feed_59 : decode cX9_feed 59 = .ok (.goto 17, 3) := by decide +kernel
theorem dX9_feed_62 : decode cX9_feed 62 = .ok (.iload 6, 2) := by decide +kernel
theorem dX9_feed_64 : decode cX9_feed 64 = .ok (.bipush 16, 2) := by decide +kernel
theorem dX9_feed_66 : decode cX9_feed 66 = .ok (.if_icmp .ge 8, 3) := by decide +kernel
theorem dX9_feed_69 : decode cX9_feed 69 = .ok (.iload 4, 2) := by decide +kernel
theorem dX9_feed_71 : decode cX9_feed 71 = .ok (.goto 5, 3) := by decide +kernel
theorem dX9_feed_74 : decode cX9_feed 74 = .ok (.iload 5, 2) := by decide +kernel
theorem dX9_feed_76 : decode cX9_feed 76 = .ok (.istore 7, 2) := by decide +kernel
theorem dX9_feed_78 : decode cX9_feed 78 = .ok (.aload_n 0, 1) := by decide +kernel
theorem dX9_feed_79 : decode cX9_feed 79 = .ok (.getfield 13, 3) := by decide +kernel
theorem dX9_feed_82 : decode cX9_feed 82 = .ok (.aload_n 0, 1) := by decide +kernel
theorem dX9_feed_83 : decode cX9_feed 83 = .ok (.getfield 309, 3) := by decide +kernel
theorem dX9_feed_86 : decode cX9_feed 86 = .ok (.iload 7, 2) := by decide +kernel
theorem dX9_feed_88 : decode cX9_feed 88 = .ok (.bipush 24, 2) := by decide +kernel
theorem dX9_feed_90 : decode cX9_feed 90 = .ok (.bipush 8, 2) := by decide +kernel
theorem dX9_feed_92 : decode cX9_feed 92 = .ok (.iload 6, 2) := by decide +kernel
theorem dX9_feed_94 : decode cX9_feed 94 = .ok (.iconst 4, 1) := by decide +kernel
theorem dX9_feed_95 : decode cX9_feed 95 = .ok (.irem, 1) := by decide +kernel
theorem dX9_feed_96 : decode cX9_feed 96 = .ok (.imul, 1) := by decide +kernel
theorem dX9_feed_97 : decode cX9_feed 97 = .ok (.isub, 1) := by decide +kernel
theorem dX9_feed_98 : decode cX9_feed 98 = .ok (.ishr, 1) := by decide +kernel
theorem dX9_feed_99 : decode cX9_feed 99 = .ok (.i2b, 1) := by decide +kernel
theorem dX9_feed_100 : decode cX9_feed 100 = .ok (.bastore, 1) := by decide +kernel
theorem dX9_feed_101 : decode cX9_feed 101 = .ok (.aload_n 0, 1) := by decide +kernel
theorem dX9_feed_102 : decode cX9_feed 102 = .ok (.dup, 1) := by decide +kernel
theorem dX9_feed_103 : decode cX9_feed 103 = .ok (.getfield 309, 3) := by decide +kernel
theorem dX9_feed_106 : decode cX9_feed 106 = .ok (.iconst 1, 1) := by decide +kernel
theorem dX9_feed_107 : decode cX9_feed 107 = .ok (.iadd, 1) := by decide +kernel
theorem dX9_feed_108 : decode cX9_feed 108 = .ok (.putfield 309, 3) := by decide +kernel
theorem dX9_feed_111 : decode cX9_feed 111 = .ok (.iinc 6 1, 3) := by decide +kernel
theorem dX9_feed_114 : decode cX9_feed 114 = .ok (.goto (-91), 3) := by decide +kernel
theorem dX9_feed_117 : decode cX9_feed 117 = .ok (.aload_n 0, 1) := by decide +kernel
theorem dX9_feed_118 : decode cX9_feed 118 = .ok (.getfield 309, 3) := by decide +kernel
theorem dX9_feed_121 : decode cX9_feed 121 = .ok (.ireturn, 1) := by decide +kernel
theorem dX9_county_0 : decode cX9_county 0 = .ok (.aload_n 0, 1) := by decide +kernel
theorem dX9_county_1 : decode cX9_county 1 = .ok (.iconst 0, 1) := by decide +kernel
theorem dX9_county_2 : decode cX9_county 2 = .ok (.putfield 45, 3) := by decide +kernel
theorem dX9_county_5 : decode cX9_county 5 = .ok (.iload_n 1, 1) := by decide +kernel
theorem dX9_county_6 : decode cX9_county 6 = .ok (.ifCond .lt 11, 3) := by decide +kernel
theorem dX9_county_9 : decode cX9_county 9 = .ok (.iload_n 1, 1) := by decide +kernel
theorem dX9_county_10 : decode cX9_county 10 = .ok (.aload_n 0, 1) := by decide +kernel
theorem dX9_county_11 : decode cX9_county 11 = .ok (.getfield 309, 3) := by decide +kernel
theorem dX9_county_14 : decode cX9_county 14 = .ok (.if_icmp .le 9, 3) := by decide +kernel
theorem dX9_county_17 : decode cX9_county 17 = .ok (.aload_n 0, 1) := by decide +kernel
theorem dX9_county_18 : decode cX9_county 18 = .ok (.iconst 2, 1) := by decide +kernel
theorem dX9_county_19 : decode cX9_county 19 = .ok (.invokevirtual 51, 3) := by decide +kernel
theorem dX9_county_22 : decode cX9_county 22 = .ok (.ireturn, 1) := by decide +kernel
theorem dX9_county_23 : decode cX9_county 23 = .ok (.aload_n 0, 1) := by decide +kernel
theorem dX9_county_24 : decode cX9_county 24 = .ok (.iload_n 1, 1) := by decide +kernel
theorem dX9_county_25 : decode cX9_county 25 = .ok (.putfield 62, 3) := by decide +kernel
theorem dX9_county_28 : decode cX9_county 28 = .ok (.aload_n 0, 1) := by decide +kernel
theorem dX9_county_29 : decode cX9_county 29 = .ok (.iconst 0, 1) := by decide +kernel
theorem dX9_county_30 : decode cX9_county 30 = .ok (.putfield 309, 3) := by decide +kernel
theorem dX9_county_33 : decode cX9_county 33 = .ok (.aload_n 0, 1) := by decide +kernel
theorem dX9_county_34 : decode cX9_county 34 = .ok (.iconst 0, 1) := by decide +kernel
theorem dX9_county_35 : decode cX9_county 35 = .ok (.putfield 80, 3) := by decide +kernel
theorem dX9_county_38 : decode cX9_county 38 = .ok (.aload_n 0, 1) := by decide +kernel
theorem dX9_county_39 : decode cX9_county 39 = .ok (.iconst 0, 1) := by decide +kernel
theorem dX9_county_40 : decode cX9_county 40 = .ok (.putfield 103, 3) := by decide +kernel
theorem dX9_county_43 : decode cX9_county 43 = .ok (.aload_n 0, 1) := by decide +kernel
theorem dX9_county_44 : decode cX9_county 44 = .ok (.new 157, 3) := by decide +kernel
theorem dX9_county_47 : decode cX9_county 47 = .ok (.dup, 1) := by decide +kernel
theorem dX9_county_48 : decode cX9_county 48 = .ok (.invokespecial 312, 3) := by decide +kernel
theorem dX9_county_51 : decode cX9_county 51 = .ok (.putfield 152, 3) := by decide +kernel
theorem dX9_county_54 : decode cX9_county 54 = .ok (.aload_n 0, 1) := by decide +kernel
theorem dX9_county_55 : decode cX9_county 55 = .ok (.iconst 0, 1) := by decide +kernel
theorem dX9_county_56 : decode cX9_county 56 = .ok (.putfield 77, 3) := by decide +kernel
theorem dX9_county_59 : decode cX9_county 59 = .ok (.aload_n 0, 1) := by decide +kernel
theorem dX9_county_60 : decode cX9_county 60 = .ok (.invokevirtual 113, 3) := by decide +kernel
theorem dX9_county_63 : decode cX9_county 63 = .ok (.aload_n 0, 1) := by decide +kernel
theorem dX9_county_64 : decode cX9_county 64 = .ok (.invokevirtual 313, 3) := by decide +kernel
theorem dX9_county_67 : decode cX9_county 67 = .ok (.aload_n 0, 1) := by decide +kernel
theorem dX9_county_68 : decode cX9_county 68 = .ok (.getfield 103, 3) := by decide +kernel
theorem dX9_county_71 : decode cX9_county 71 = .ok (.ifCond .le 18, 3) := by decide +kernel
theorem dX9_county_74 : decode cX9_county 74 = .ok (.aload_n 0, 1) := by decide +kernel
theorem dX9_county_75 : decode cX9_county 75 = .ok (.iconst 4, 1) := by decide +kernel
theorem dX9_county_76 : decode cX9_county 76 = .ok (.putfield 48, 3) := by decide +kernel
theorem dX9_county_79 : decode cX9_county 79 = .ok (.aload_n 0, 1) := by decide +kernel
theorem dX9_county_80 : decode cX9_county 80 = .ok (.aload_n 0, 1) := by decide +kernel
theorem dX9_county_81 : decode cX9_county 81 = .ok (.getfield 106, 3) := by decide +kernel
theorem dX9_county_84 : decode cX9_county 84 = .ok (.putfield 9, 3) := by decide +kernel
theorem dX9_county_87 : decode cX9_county 87 = .ok (.iconst (-1), 1) := by decide +kernel
theorem dX9_county_88 : decode cX9_county 88 = .ok (.ireturn, 1) := by decide +kernel
theorem dX9_county_89 : decode cX9_county 89 = .ok (.aload_n 0, 1) := by decide +kernel
theorem dX9_county_90 : decode cX9_county 90 = .ok (.aload_n 0, 1) := by decide +kernel
theorem dX9_county_91 : decode cX9_county 91 = .ok (.getfield 152, 3) := by decide +kernel
theorem dX9_county_94 : decode cX9_county 94 = .ok (.putfield 316, 3) := by decide +kernel
theorem dX9_county_97 : decode cX9_county 97 = .ok (.aload_n 0, 1) := by decide +kernel
theorem dX9_county_98 : decode cX9_county 98 = .ok (.aload_n 0, 1) := by decide +kernel
theorem dX9_county_99 : decode cX9_county 99 = .ok (.getfield 17, 3) := by decide +kernel
theorem dX9_county_102 : decode cX9_county 102 = .ok (.invokevirtual 318, 3) := by decide +kernel
theorem dX9_county_105 : decode cX9_county 105 = .ok (.aload_n 0, 1) := by decide +kernel
theorem dX9_county_106 : decode cX9_county 106 = .ok (.iconst 0, 1) := by decide +kernel
theorem dX9_county_107 : decode cX9_county 107 = .ok (.putfield 322, 3) := by decide +kernel
theorem dX9_county_110 : decode cX9_county 110 = .ok (.aload_n 0, 1) := by decide +kernel
theorem dX9_county_111 : decode cX9_county 111 = .ok (.iconst 0, 1) := by decide +kernel
theorem dX9_county_112 : decode cX9_county 112 = .ok (.putfield 325, 3) := by decide +kernel
theorem dX9_county_115 : decode cX9_county 115 = .ok (.aload_n 0, 1) := by decide +kernel
theorem dX9_county_116 : decode cX9_county 116 = .ok (.aload_n 0, 1) := by decide +kernel
theorem dX9_county_117 : decode cX9_county 117 = .ok (.getfield 316, 3) := by decide +kernel
theorem dX9_county_120 : decode cX9_county 120 = .ok (.getfield 194, 3) := by decide +kernel
theorem dX9_county_123 : decode cX9_county 123 = .ok (.invokevirtual 55, 3) := by decide +kernel
theorem dX9_county_126 : decode cX9_county 126 = .ok (.ireturn, 1) := by decide +kernel
theorem dX9_fault_0 : decode cX9_fault 0 = .ok (.aload_n 0, 1) := by decide +kernel
theorem dX9_fault_1 : decode cX9_fault 1 = .ok (.iconst 0, 1) := by decide +kernel
theorem dX9_fault_2 : decode cX9_fault 2 = .ok (.putfield 45, 3) := by decide +kernel
theorem dX9_fault_5 : decode cX9_fault 5 = .ok (.aload_n 0, 1) := by decide +kernel
theorem dX9_fault_6 : decode cX9_fault 6 = .ok (.getfield 103, 3) := by decide +kernel
theorem dX9_fault_9 : decode cX9_fault 9 = .ok (.ireturn, 1) := by decide +kernel
theorem dX9_where_0 : decode cX9_where 0 = .ok (.aload_n 0, 1) := by decide +kernel
theorem dX9_where_1 : decode cX9_where 1 = .ok (.iconst 0, 1) := by decide +kernel
theorem dX9_where_2 : decode cX9_where 2 = .ok (.putfield 45, 3) := by decide +kernel
theorem dX9_where_5 : decode cX9_where 5 = .ok (.aload_n 0, 1) := by decide +kernel
theorem dX9_where_6 : decode cX9_where 6 = .ok (.getfield 9, 3) := by decide +kernel
theorem dX9_where_9 : decode cX9_where 9 = .ok (.ireturn, 1) := by decide +kernel
theorem dX9_isChild_0 : decode cX9_isChild 0 = .ok (.aload_n 0, 1) := by decide +kernel
theorem dX9_isChild_1 : decode cX9_isChild 1 = .ok (.getfield 316, 3) := by decide +kernel
theorem dX9_isChild_4 : decode cX9_isChild 4 = .ok (.getfield 251, 3) := by decide +kernel
theorem dX9_isChild_7 : decode cX9_isChild 7 = .ok (.iload_n 1, 1) := by decide +kernel
theorem dX9_isChild_8 : decode cX9_isChild 8 = .ok (.iaload, 1) := by decide +kernel
theorem dX9_isChild_9 : decode cX9_isChild 9 = .ok (.iconst 1, 1) := by decide +kernel
theorem dX9_isChild_10 : decode cX9_isChild 10 = .ok (.if_icmp .ne 7, 3) := by decide +kernel
theorem dX9_isChild_13 : decode cX9_isChild 13 = .ok (.iconst 1, 1) := by decide +kernel
theorem dX9_isChild_14 : decode cX9_isChild 14 = .ok (.goto 4, 3) := by decide +kernel
theorem dX9_isChild_17 : decode cX9_isChild 17 = .ok (.iconst 0, 1) := by decide +kernel
theorem dX9_isChild_18 : decode cX9_isChild 18 = .ok (.ireturn, 1) := by decide +kernel
theorem dX9_starts_0 : decode cX9_starts 0 = .ok (.aload_n 1, 1) := by decide +kernel
theorem dX9_starts_1 : decode cX9_starts 1 = .ok (.bipush 10, 2) := by decide +kernel
theorem dX9_starts_3 : decode cX9_starts 3 = .ok (.iconst 0, 1) := by decide +kernel
theorem dX9_starts_4 : decode cX9_starts 4 = .ok (.iastore, 1) := by decide +kernel
theorem dX9_starts_5 : decode cX9_starts 5 = .ok (.iconst 0, 1) := by decide +kernel
theorem dX9_starts_6 : decode cX9_starts 6 = .ok (.istore_n 2, 1) := by decide +kernel
theorem dX9_starts_7 : decode cX9_starts 7 = .ok (.iload_n 2, 1) := by decide +kernel
theorem dX9_starts_8 : decode cX9_starts 8 = .ok (.iconst 5, 1) := by decide +kernel
theorem dX9_starts_9 : decode cX9_starts 9 = .ok (.if_icmp .ge 79, 3) := by decide +kernel
theorem dX9_starts_12 : decode cX9_starts 12 = .ok (.iload_n 2, 1) := by decide +kernel
theorem dX9_starts_13 : decode cX9_starts 13 = .ok (.aload_n 0, 1) := by decide +kernel
theorem dX9_starts_14 : decode cX9_starts 14 = .ok (.getfield 316, 3) := by decide +kernel
theorem dX9_starts_17 : decode cX9_starts 17 = .ok (.getfield 194, 3) := by decide +kernel
theorem dX9_starts_20 : decode cX9_starts 20 = .ok (.if_icmp .ge 15, 3) := by decide +kernel
theorem dX9_starts_23 : decode cX9_starts 23 = .ok (.aload_n 0, 1) := by decide +kernel
theorem dX9_starts_24 : decode cX9_starts 24 = .ok (.getfield 316, 3) := by decide +kernel
theorem dX9_starts_27 : decode cX9_starts 27 = .ok (.getfield 277, 3) := by decide +kernel
theorem dX9_starts_30 : decode cX9_starts 30 = .ok (.iload_n 2, 1) := by decide +kernel
theorem dX9_starts_31 : decode cX9_starts 31 = .ok (.iaload, 1) := by decide +kernel
theorem dX9_starts_32 : decode cX9_starts 32 = .ok (.goto 5, 3) := by decide +kernel
theorem dX9_starts_35 : decode cX9_starts 35 = .ok (.bipush (-2), 2) := by decide +kernel
theorem dX9_starts_37 : decode cX9_starts 37 = .ok (.istore_n 3, 1) := by decide +kernel
theorem dX9_starts_38 : decode cX9_starts 38 = .ok (.aload_n 1, 1) := by decide +kernel
theorem dX9_starts_39 : decode cX9_starts 39 = .ok (.iconst 0, 1) := by decide +kernel
theorem dX9_starts_40 : decode cX9_starts 40 = .ok (.iload_n 2, 1) := by decide +kernel
theorem dX9_starts_41 : decode cX9_starts 41 = .ok (.iadd, 1) := by decide +kernel
theorem dX9_starts_42 : decode cX9_starts 42 = .ok (.iload_n 3, 1) := by decide +kernel
theorem dX9_starts_43 : decode cX9_starts 43 = .ok (.iastore, 1) := by decide +kernel
theorem dX9_starts_44 : decode cX9_starts 44 = .ok (.aload_n 1, 1) := by decide +kernel
theorem dX9_starts_45 : decode cX9_starts 45 = .ok (.iconst 5, 1) := by decide +kernel
theorem dX9_starts_46 : decode cX9_starts 46 = .ok (.iload_n 2, 1) := by decide +kernel
theorem dX9_starts_47 : decode cX9_starts 47 = .ok (.iadd, 1) := by decide +kernel
theorem dX9_starts_48 : decode cX9_starts 48 = .ok (.iload_n 3, 1) := by decide +kernel
theorem dX9_starts_49 : decode cX9_starts 49 = .ok (.bipush (-2), 2) := by decide +kernel
theorem dX9_starts_51 : decode cX9_starts 51 = .ok (.if_icmp .eq 24, 3) := by decide +kernel
theorem dX9_starts_54 : decode cX9_starts 54 = .ok (.aload_n 0, 1) := by decide +kernel
theorem dX9_starts_55 : decode cX9_starts 55 = .ok (.getfield 316, 3) := by decide +kernel
theorem dX9_starts_58 : decode cX9_starts 58 = .ok (.getfield 270, 3) := by decide +kernel
theorem dX9_starts_61 : decode cX9_starts 61 = .ok (.iload_n 2, 1) := by decide +kernel
theorem dX9_starts_62 : decode cX9_starts 62 = .ok (.iaload, 1) := by decide +kernel
theorem dX9_starts_63 : decode cX9_starts 63 = .ok (.iconst 2, 1) := by decide +kernel
theorem dX9_starts_64 : decode cX9_starts 64 = .ok (.if_icmp .eq 11, 3) := by decide +kernel
theorem dX9_starts_67 : decode cX9_starts 67 = .ok (.aload_n 0, 1) := by decide +kernel
theorem dX9_starts_68 : decode cX9_starts 68 = .ok (.iload_n 3, 1) := by decide +kernel
theorem dX9_starts_69 : decode cX9_starts 69 = .ok (.invokevirtual 328, 3) := by decide +kernel
theorem dX9_starts_72 : decode cX9_starts 72 = .ok (.ifCond .eq 8, 3) := by decide +kernel
theorem dX9_starts_75 : decode cX9_starts 75 = .ok (.bipush (-2), 2) := by decide +kernel
theorem dX9_starts_77 : decode cX9_starts 77 = .ok (.goto 4, 3) := by decide +kernel
theorem dX9_starts_80 : decode cX9_starts 80 = .ok (.iload_n 3, 1) := by decide +kernel
theorem dX9_starts_81 : decode cX9_starts 81 = .ok (.iastore, 1) := by decide +kernel
theorem dX9_starts_82 : decode cX9_starts 82 = .ok (.iinc 2 1, 3) := by decide +kernel
theorem dX9_starts_85 : decode cX9_starts 85 = .ok (.goto (-78), 3) := by decide +kernel
theorem dX9_starts_88 : decode cX9_starts 88 = .ok (.return_, 1) := by decide +kernel
theorem dX9_tries_0 : decode cX9_tries 0 = .ok (.iconst 0, 1) := by decide +kernel
theorem dX9_tries_1 : decode cX9_tries 1 = .ok (.istore_n 1, 1) := by decide +kernel
theorem dX9_tries_2 : decode cX9_tries 2 = .ok (.iload_n 1, 1) := by decide +kernel
theorem dX9_tries_3 : decode cX9_tries 3 = .ok (.bipush 11, 2) := by decide +kernel
theorem dX9_tries_5 : decode cX9_tries 5 = .ok (.if_icmp .ge 21, 3) := by decide +kernel
theorem dX9_tries_8 : decode cX9_tries 8 = .ok (.aload_n 0, 1) := by decide +kernel
theorem dX9_tries_9 : decode cX9_tries 9 = .ok (.getfield 21, 3) := by decide +kernel
theorem dX9_tries_12 : decode cX9_tries 12 = .ok (.iload_n 1, 1) := by decide +kernel
theorem dX9_tries_13 : decode cX9_tries 13 = .ok (.aload_n 0, 1) := by decide +kernel
theorem dX9_tries_14 : decode cX9_tries 14 = .ok (.getfield 17, 3) := by decide +kernel
theorem dX9_tries_17 : decode cX9_tries 17 = .ok (.iload_n 1, 1) := by decide +kernel
theorem dX9_tries_18 : decode cX9_tries 18 = .ok (.iaload, 1) := by decide +kernel
theorem dX9_tries_19 : decode cX9_tries 19 = .ok (.iastore, 1) := by decide +kernel
theorem dX9_tries_20 : decode cX9_tries 20 = .ok (.iinc 1 1, 3) := by decide +kernel
theorem dX9_tries_23 : decode cX9_tries 23 = .ok (.goto (-21), 3) := by decide +kernel
theorem dX9_tries_26 : decode cX9_tries 26 = .ok (.return_, 1) := by decide +kernel
theorem dX9_isPerson_0 : decode cX9_isPerson 0 = .ok (.aload_n 0, 1) := by decide +kernel
theorem dX9_isPerson_1 : decode cX9_isPerson 1 = .ok (.getfield 316, 3) := by decide +kernel
theorem dX9_isPerson_4 : decode cX9_isPerson 4 = .ok (.ifnull 22, 3) := by decide +kernel
theorem dX9_isPerson_7 : decode cX9_isPerson 7 = .ok (.iload_n 1, 1) := by decide +kernel
theorem dX9_isPerson_8 : decode cX9_isPerson 8 = .ok (.ifCond .lt 18, 3) := by decide +kernel
theorem dX9_isPerson_11 : decode cX9_isPerson 11 = .ok (.iload_n 1, 1) := by decide +kernel
theorem dX9_isPerson_12 : decode cX9_isPerson 12 = .ok (.aload_n 0, 1) := by decide +kernel
theorem dX9_isPerson_13 : decode cX9_isPerson 13 = .ok (.getfield 316, 3) := by decide +kernel
theorem dX9_isPerson_16 : decode cX9_isPerson 16 = .ok (.getfield 191, 3) := by decide +kernel
theorem dX9_isPerson_19 : decode cX9_isPerson 19 = .ok (.if_icmp .ge 7, 3) := by decide +kernel
theorem dX9_isPerson_22 : decode cX9_isPerson 22 = .ok (.iconst 1, 1) := by decide +kernel
theorem dX9_isPerson_23 : decode cX9_isPerson 23 = .ok (.goto 4, 3) := by decide +kernel
theorem dX9_isPerson_26 : decode cX9_isPerson 26 = .ok (.iconst 0, 1) := by decide +kernel
theorem dX9_isPerson_27 : decode cX9_isPerson 27 = .ok (.ireturn, 1) := by decide +kernel
theorem dX9_isUmbrella_0 : decode cX9_isUmbrella 0 = .ok (.aload_n 0, 1) := by decide +kernel
theorem dX9_isUmbrella_1 : decode cX9_isUmbrella 1 = .ok (.getfield 316, 3) := by decide +kernel
theorem dX9_isUmbrella_4 : decode cX9_isUmbrella 4 = .ok (.ifnull 22, 3) := by decide +kernel
theorem dX9_isUmbrella_7 : decode cX9_isUmbrella 7 = .ok (.iload_n 1, 1) := by decide +kernel
theorem dX9_isUmbrella_8 : decode cX9_isUmbrella 8 = .ok (.ifCond .lt 18, 3) := by decide +kernel
theorem dX9_isUmbrella_11 : decode cX9_isUmbrella 11 = .ok (.iload_n 1, 1) := by decide +kernel
theorem dX9_isUmbrella_12 : decode cX9_isUmbrella 12 = .ok (.aload_n 0, 1) := by decide +kernel
theorem dX9_isUmbrella_13 : decode cX9_isUmbrella 13 = .ok (.getfield 316, 3) := by decide +kernel
theorem dX9_isUmbrella_16 : decode cX9_isUmbrella 16 = .ok (.getfield 194, 3) := by decide +kernel
theorem dX9_isUmbrella_19 : decode cX9_isUmbrella 19 = .ok (.if_icmp .ge 7, 3) := by decide +kernel
theorem dX9_isUmbrella_22 : decode cX9_isUmbrella 22 = .ok (.iconst 1, 1) := by decide +kernel
theorem dX9_isUmbrella_23 : decode cX9_isUmbrella 23 = .ok (.goto 4, 3) := by decide +kernel
theorem dX9_isUmbrella_26 : decode cX9_isUmbrella 26 = .ok (.iconst 0, 1) := by decide +kernel
theorem dX9_isUmbrella_27 : decode cX9_isUmbrella 27 = .ok (.ireturn, 1) := by decide +kernel
theorem dX9_changes_0 : decode cX9_changes 0 = .ok (.aload_n 0, 1) := by decide +kernel
theorem dX9_changes_1 : decode cX9_changes 1 = .ok (.iconst 0, 1) := by decide +kernel
theorem dX9_changes_2 : decode cX9_changes 2 = .ok (.iload_n 1, 1) := by decide +kernel
theorem dX9_changes_3 : decode cX9_changes 3 = .ok (.iadd, 1) := by decide +kernel
theorem dX9_changes_4 : decode cX9_changes 4 = .ok (.iaload, 1) := by decide +kernel
theorem dX9_changes_5 : decode cX9_changes 5 = .ok (.istore_n 3, 1) := by decide +kernel
theorem dX9_changes_6 : decode cX9_changes 6 = .ok (.aload_n 0, 1) := by decide +kernel
theorem dX9_changes_7 : decode cX9_changes 7 = .ok (.iconst 0, 1) := by decide +kernel
theorem dX9_changes_8 : decode cX9_changes 8 = .ok (.iload_n 1, 1) := by decide +kernel
theorem dX9_changes_9 : decode cX9_changes 9 = .ok (.iadd, 1) := by decide +kernel
theorem dX9_changes_10 : decode cX9_changes 10 = .ok (.aload_n 0, 1) := by decide +kernel
theorem dX9_changes_11 : decode cX9_changes 11 = .ok (.iconst 0, 1) := by decide +kernel
theorem dX9_changes_12 : decode cX9_changes 12 = .ok (.iload_n 2, 1) := by decide +kernel
theorem dX9_changes_13 : decode cX9_changes 13 = .ok (.iadd, 1) := by decide +kernel
theorem dX9_changes_14 : decode cX9_changes 14 = .ok (.iaload, 1) := by decide +kernel
theorem dX9_changes_15 : decode cX9_changes 15 = .ok (.iastore, 1) := by decide +kernel
theorem dX9_changes_16 : decode cX9_changes 16 = .ok (.aload_n 0, 1) := by decide +kernel
theorem dX9_changes_17 : decode cX9_changes 17 = .ok (.iconst 0, 1) := by decide +kernel
theorem dX9_changes_18 : decode cX9_changes 18 = .ok (.iload_n 2, 1) := by decide +kernel
theorem dX9_changes_19 : decode cX9_changes 19 = .ok (.iadd, 1) := by decide +kernel
theorem dX9_changes_20 : decode cX9_changes 20 = .ok (.iload_n 3, 1) := by decide +kernel
theorem dX9_changes_21 : decode cX9_changes 21 = .ok (.iastore, 1) := by decide +kernel
theorem dX9_changes_22 : decode cX9_changes 22 = .ok (.return_, 1) := by decide +kernel
theorem dX9_hadBy_0 : decode cX9_hadBy 0 = .ok (.iconst 0, 1) := by decide +kernel
theorem dX9_hadBy_1 : decode cX9_hadBy 1 = .ok (.istore_n 3, 1) := by decide +kernel
theorem dX9_hadBy_2 : decode cX9_hadBy 2 = .ok (.iconst 0, 1) := by decide +kernel
theorem dX9_hadBy_3 : decode cX9_hadBy 3 = .ok (.istore 4, 2) := by decide +kernel
theorem dX9_hadBy_5 : decode cX9_hadBy 5 = .ok (.iload 4, 2) := by decide +kernel
theorem dX9_hadBy_7 : decode cX9_hadBy 7 = .ok (.aload_n 0, 1) := by decide +kernel
theorem dX9_hadBy_8 : decode cX9_hadBy 8 = .ok (.getfield 316, 3) := by decide +kernel
theorem dX9_hadBy_11 : decode cX9_hadBy 11 = .ok (.getfield 194, 3) := by decide +kernel
theorem dX9_hadBy_14 : decode cX9_hadBy 14 = .ok (.if_icmp .ge 30, 3) := by decide +kernel
theorem dX9_hadBy_17 : decode cX9_hadBy 17 = .ok (.iload_n 3, 1) := by decide +kernel
theorem dX9_hadBy_18 : decode cX9_hadBy 18 = .ok (.aload_n 1, 1) := by decide +kernel
theorem dX9_hadBy_19 : decode cX9_hadBy 19 = .ok (.iconst 0, 1) := by decide +kernel
theorem dX9_hadBy_20 : decode cX9_hadBy 20 = .ok (.iload 4, 2) := by decide +kernel
theorem dX9_hadBy_22 : decode cX9_hadBy 22 = .ok (.iadd, 1) := by decide +kernel
theorem dX9_hadBy_23 : decode cX9_hadBy 23 = .ok (.iaload, 1) := by decide +kernel
theorem dX9_hadBy_24 : decode cX9_hadBy 24 = .ok (.iload_n 2, 1) := by decide +kernel
theorem dX9_hadBy_25 : decode cX9_hadBy 25 = .ok (.if_icmp .ne 10, 3) := by decide +kernel
theorem dX9_hadBy_28 : decode cX9_hadBy 28 = .ok (.iconst 1, 1) := by decide +kernel
theorem dX9_hadBy_29 : decode cX9_hadBy 29 = .ok (.iload 4, 2) := by decide +kernel
theorem dX9_hadBy_31 : decode cX9_hadBy 31 = .ok (.ishl, 1) := by decide +kernel
theorem dX9_hadBy_32 : decode cX9_hadBy 32 = .ok (.goto 4, 3) := by decide +kernel
theorem dX9_hadBy_35 : decode cX9_hadBy 35 = .ok (.iconst 0, 1) := by decide +kernel
theorem dX9_hadBy_36 : decode cX9_hadBy 36 = .ok (.ior, 1) := by decide +kernel
theorem dX9_hadBy_37 : decode cX9_hadBy 37 = .ok (.istore_n 3, 1) := by decide +kernel
theorem dX9_hadBy_38 : decode cX9_hadBy 38 = .ok (.iinc 4 1, 3) := by decide +kernel
theorem dX9_hadBy_41 : decode cX9_hadBy 41 = .ok (.goto (-36), 3) := by decide +kernel
theorem dX9_hadBy_44 : decode cX9_hadBy 44 = .ok (.iload_n 3, 1) := by decide +kernel
theorem dX9_hadBy_45 : decode cX9_hadBy 45 = .ok (.ireturn, 1) := by decide +kernel
theorem dX9_landsIn_0 : decode cX9_landsIn 0 = .ok (.iconst 0, 1) := by decide +kernel
theorem dX9_landsIn_1 : decode cX9_landsIn 1 = .ok (.istore_n 3, 1) := by decide +kernel
theorem dX9_landsIn_2 : decode cX9_landsIn 2 = .ok (.iconst 0, 1) := by decide +kernel
theorem dX9_landsIn_3 : decode cX9_landsIn 3 = .ok (.istore 4, 2) := by decide +kernel
theorem dX9_landsIn_5 : decode cX9_landsIn 5 = .ok (.iload 4, 2) := by decide +kernel
theorem dX9_landsIn_7 : decode cX9_landsIn 7 = .ok (.aload_n 0, 1) := by decide +kernel
theorem dX9_landsIn_8 : decode cX9_landsIn 8 = .ok (.getfield 316, 3) := by decide +kernel
theorem dX9_landsIn_11 : decode cX9_landsIn 11 = .ok (.getfield 194, 3) := by decide +kernel
theorem dX9_landsIn_14 : decode cX9_landsIn 14 = .ok (.if_icmp .ge 36, 3) := by decide +kernel
theorem dX9_landsIn_17 : decode cX9_landsIn 17 = .ok (.iload_n 3, 1) := by decide +kernel
theorem dX9_landsIn_18 : decode cX9_landsIn 18 = .ok (.aload_n 1, 1) := by decide +kernel
theorem dX9_landsIn_19 : decode cX9_landsIn 19 = .ok (.iconst 5, 1) := by decide +kernel
theorem dX9_landsIn_20 : decode cX9_landsIn 20 = .ok (.iload 4, 2) := by decide +kernel
theorem dX9_landsIn_22 : decode cX9_landsIn 22 = .ok (.iadd, 1) := by decide +kernel
theorem dX9_landsIn_23 : decode cX9_landsIn 23 = .ok (.iaload, 1) := by decide +kernel
theorem dX9_landsIn_24 : decode cX9_landsIn 24 = .ok (.iload_n 2, 1) := by decide +kernel
theorem dX9_landsIn_25 : decode cX9_landsIn 25 = .ok (.if_icmp .ne 16, 3) := by decide +kernel
theorem dX9_landsIn_28 : decode cX9_landsIn 28 = .ok (.aload_n 0, 1) := by decide +kernel
theorem dX9_landsIn_29 : decode cX9_landsIn 29 = .ok (.getfield 316, 3) := by decide +kernel
theorem dX9_landsIn_32 : decode cX9_landsIn 32 = .ok (.getfield 273, 3) := by decide +kernel
theorem dX9_landsIn_35 : decode cX9_landsIn 35 = .ok (.iload 4, 2) := by decide +kernel
theorem dX9_landsIn_37 : decode cX9_landsIn 37 = .ok (.iaload, 1) := by decide +kernel
theorem dX9_landsIn_38 : decode cX9_landsIn 38 = .ok (.goto 4, 3) := by decide +kernel
theorem dX9_landsIn_41 : decode cX9_landsIn 41 = .ok (.iconst 0, 1) := by decide +kernel
theorem dX9_landsIn_42 : decode cX9_landsIn 42 = .ok (.iadd, 1) := by decide +kernel
theorem dX9_landsIn_43 : decode cX9_landsIn 43 = .ok (.istore_n 3, 1) := by decide +kernel
theorem dX9_landsIn_44 : decode cX9_landsIn 44 = .ok (.iinc 4 1, 3) := by decide +kernel
theorem dX9_landsIn_47 : decode cX9_landsIn 47 = .ok (.goto (-42), 3) := by decide +kernel
theorem dX9_landsIn_50 : decode cX9_landsIn 50 = .ok (.iload_n 3, 1) := by decide +kernel
theorem dX9_landsIn_51 : decode cX9_landsIn 51 = .ok (.ireturn, 1) := by decide +kernel
theorem dX9_ends_0 : decode cX9_ends 0 = .ok (.iconst 0, 1) := by decide +kernel
theorem dX9_ends_1 : decode cX9_ends 1 = .ok (.istore_n 3, 1) := by decide +kernel
theorem dX9_ends_2 : decode cX9_ends 2 = .ok (.iload_n 3, 1) := by decide +kernel
theorem dX9_ends_3 : decode cX9_ends 3 = .ok (.aload_n 0, 1) := by decide +kernel
theorem dX9_ends_4 : decode cX9_ends 4 = .ok (.getfield 316, 3) := by decide +kernel
theorem dX9_ends_7 : decode cX9_ends 7 = .ok (.getfield 194, 3) := by decide +kernel
theorem dX9_ends_10 : decode cX9_ends 10 = .ok (.if_icmp .ge 93, 3) := by decide +kernel
theorem dX9_ends_13 : decode cX9_ends 13 = .ok (.aload_n 1, 1) := by decide +kernel
theorem dX9_ends_14 : decode cX9_ends 14 = .ok (.iconst 0, 1) := by decide +kernel
theorem dX9_ends_15 : decode cX9_ends 15 = .ok (.iload_n 3, 1) := by decide +kernel
theorem dX9_ends_16 : decode cX9_ends 16 = .ok (.iadd, 1) := by decide +kernel
theorem dX9_ends_17 : decode cX9_ends 17 = .ok (.iaload, 1) := by decide +kernel
theorem dX9_ends_18 : decode cX9_ends 18 = .ok (.istore 4, 2) := by decide +kernel
theorem dX9_ends_20 : decode cX9_ends 20 = .ok (.aload_n 0, 1) := by decide +kernel
theorem dX9_ends_21 : decode cX9_ends 21 = .ok (.getfield 316, 3) := by decide +kernel
theorem dX9_ends_24 : decode cX9_ends 24 = .ok (.getfield 270, 3) := by decide +kernel
theorem dX9_ends_27 : decode cX9_ends 27 = .ok (.iload_n 3, 1) := by decide +kernel
theorem dX9_ends_28 : decode cX9_ends 28 = .ok (.iaload, 1) := by decide +kernel
theorem dX9_ends_29 : decode cX9_ends 29 = .ok (.iconst 3, 1) := by decide +kernel
theorem dX9_ends_30 : decode cX9_ends 30 = .ok (.if_icmp .ne 15, 3) := by decide +kernel
theorem dX9_ends_33 : decode cX9_ends 33 = .ok (.iload_n 2, 1) := by decide +kernel
theorem dX9_ends_34 : decode cX9_ends 34 = .ok (.ifCond .ne 7, 3) := by decide +kernel
theorem dX9_ends_37 : decode cX9_ends 37 = .ok (.iconst 1, 1) := by decide +kernel
theorem dX9_ends_38 : decode cX9_ends 38 = .ok (.goto 29, 3) := by decide +kernel
theorem dX9_ends_41 : decode cX9_ends 41 = .ok (.iconst 0, 1) := by decide +kernel
theorem dX9_ends_42 : decode cX9_ends 42 = .ok (.goto 25, 3) := by decide +kernel
theorem dX9_ends_45 : decode cX9_ends 45 = .ok (.iload_n 2, 1) := by decide +kernel
theorem dX9_ends_46 : decode cX9_ends 46 = .ok (.ifCond .eq 20, 3) := by decide +kernel
theorem dX9_ends_49 : decode cX9_ends 49 = .ok (.aload_n 0, 1) := by decide +kernel
theorem dX9_ends_50 : decode cX9_ends 50 = .ok (.getfield 316, 3) := by decide +kernel
theorem dX9_ends_53 : decode cX9_ends 53 = .ok (.getfield 270, 3) := by decide +kernel
theorem dX9_ends_56 : decode cX9_ends 56 = .ok (.iload_n 3, 1) := by decide +kernel
theorem dX9_ends_57 : decode cX9_ends 57 = .ok (.iaload, 1) := by decide +kernel
theorem dX9_ends_58 : decode cX9_ends 58 = .ok (.iconst 2, 1) := by decide +kernel
theorem dX9_ends_59 : decode cX9_ends 59 = .ok (.if_icmp .eq 7, 3) := by decide +kernel
theorem dX9_ends_62 : decode cX9_ends 62 = .ok (.iconst 1, 1) := by decide +kernel
theorem dX9_ends_63 : decode cX9_ends 63 = .ok (.goto 4, 3) := by decide +kernel
theorem dX9_ends_66 : decode cX9_ends 66 = .ok (.iconst 0, 1) := by decide +kernel
theorem dX9_ends_67 : decode cX9_ends 67 = .ok (.istore 5, 2) := by decide +kernel
theorem dX9_ends_69 : decode cX9_ends 69 = .ok (.iload 5, 2) := by decide +kernel
theorem dX9_ends_71 : decode cX9_ends 71 = .ok (.ifCond .eq 26, 3) := by decide +kernel
theorem dX9_ends_74 : decode cX9_ends 74 = .ok (.iload 4, 2) := by decide +kernel
theorem dX9_ends_76 : decode cX9_ends 76 = .ok (.bipush (-2), 2) := by decide +kernel
theorem dX9_ends_78 : decode cX9_ends 78 = .ok (.if_icmp .eq 19, 3) := by decide +kernel
theorem dX9_ends_81 : decode cX9_ends 81 = .ok (.aload_n 0, 1) := by decide +kernel
theorem dX9_ends_82 : decode cX9_ends 82 = .ok (.iload 4, 2) := by decide +kernel
theorem dX9_ends_84 : decode cX9_ends 84 = .ok (.invokevirtual 328, 3) := by decide +kernel
theorem dX9_ends_87 : decode cX9_ends 87 = .ok (.ifCond .ne 10, 3) := by decide +kernel
theorem dX9_ends_90 : decode cX9_ends 90 = .ok (.aload_n 1, 1) := by decide +kernel
theorem dX9_ends_91 : decode cX9_ends 91 = .ok (.iconst 5, 1) := by decide +kernel
theorem dX9_ends_92 : decode cX9_ends 92 = .ok (.iload_n 3, 1) := by decide +kernel
theorem dX9_ends_93 : decode cX9_ends 93 = .ok (.iadd, 1) := by decide +kernel
theorem dX9_ends_94 : decode cX9_ends 94 = .ok (.iload 4, 2) := by decide +kernel
theorem dX9_ends_96 : decode cX9_ends 96 = .ok (.iastore, 1) := by decide +kernel
theorem dX9_ends_97 : decode cX9_ends 97 = .ok (.iinc 3 1, 3) := by decide +kernel
theorem dX9_ends_100 : decode cX9_ends 100 = .ok (.goto (-98), 3) := by decide +kernel
theorem dX9_ends_103 : decode cX9_ends 103 = .ok (.iload_n 2, 1) := by decide +kernel
theorem dX9_ends_104 : decode cX9_ends 104 = .ok (.ifCond .eq 11, 3) := by decide +kernel
theorem dX9_ends_107 : decode cX9_ends 107 = .ok (.aload_n 1, 1) := by decide +kernel
theorem dX9_ends_108 : decode cX9_ends 108 = .ok (.bipush 10, 2) := by decide +kernel
theorem dX9_ends_110 : decode cX9_ends 110 = .ok (.iconst 0, 1) := by decide +kernel
theorem dX9_ends_111 : decode cX9_ends 111 = .ok (.iastore, 1) := by decide +kernel
theorem dX9_ends_112 : decode cX9_ends 112 = .ok (.goto 20, 3) := by decide +kernel
theorem dX9_ends_115 : decode cX9_ends 115 = .ok (.aload_n 1, 1) := by decide +kernel
theorem dX9_ends_116 : decode cX9_ends 116 = .ok (.bipush 10, 2) := by decide +kernel
theorem dX9_ends_118 : decode cX9_ends 118 = .ok (.iaload, 1) := by decide +kernel
theorem dX9_ends_119 : decode cX9_ends 119 = .ok (.bipush 30, 2) := by decide +kernel
theorem dX9_ends_121 : decode cX9_ends 121 = .ok (.if_icmp .ge 11, 3) := by decide +kernel
theorem dX9_ends_124 : decode cX9_ends 124 = .ok (.aload_n 1, 1) := by decide +kernel
theorem dX9_ends_125 : decode cX9_ends 125 = .ok (.bipush 10, 2) := by decide +kernel
theorem dX9_ends_127 : decode cX9_ends 127 = .ok (.dup2, 1) := by decide +kernel
theorem dX9_ends_128 : decode cX9_ends 128 = .ok (.iaload, 1) := by decide +kernel
theorem dX9_ends_129 : decode cX9_ends 129 = .ok (.iconst 1, 1) := by decide +kernel
theorem dX9_ends_130 : decode cX9_ends 130 = .ok (.iadd, 1) := by decide +kernel
theorem dX9_ends_131 : decode cX9_ends 131 = .ok (.iastore, 1) := by decide +kernel
theorem dX9_ends_132 : decode cX9_ends 132 = .ok (.aload_n 1, 1) := by decide +kernel
theorem dX9_ends_133 : decode cX9_ends 133 = .ok (.bipush 10, 2) := by decide +kernel
theorem dX9_ends_135 : decode cX9_ends 135 = .ok (.iaload, 1) := by decide +kernel
theorem dX9_ends_136 : decode cX9_ends 136 = .ok (.aload_n 0, 1) := by decide +kernel
theorem dX9_ends_137 : decode cX9_ends 137 = .ok (.getfield 316, 3) := by decide +kernel
theorem dX9_ends_140 : decode cX9_ends 140 = .ok (.getfield 156, 3) := by decide +kernel
theorem dX9_ends_143 : decode cX9_ends 143 = .ok (.if_icmp .lt 8, 3) := by decide +kernel
theorem dX9_ends_146 : decode cX9_ends 146 = .ok (.aload_n 0, 1) := by decide +kernel
theorem dX9_ends_147 : decode cX9_ends 147 = .ok (.aload_n 1, 1) := by decide +kernel
theorem dX9_ends_148 : decode cX9_ends 148 = .ok (.invokevirtual 331, 3) := by decide +kernel
theorem dX9_ends_151 : decode cX9_ends 151 = .ok (.iconst 0, 1) := by decide +kernel
theorem dX9_ends_152 : decode cX9_ends 152 = .ok (.istore_n 3, 1) := by decide +kernel
theorem dX9_ends_153 : decode cX9_ends 153 = .ok (.iload_n 3, 1) := by decide +kernel
theorem dX9_ends_154 : decode cX9_ends 154 = .ok (.aload_n 0, 1) := by decide +kernel
theorem dX9_ends_155 : decode cX9_ends 155 = .ok (.getfield 316, 3) := by decide +kernel
theorem dX9_ends_158 : decode cX9_ends 158 = .ok (.getfield 191, 3) := by decide +kernel
theorem dX9_ends_161 : decode cX9_ends 161 = .ok (.if_icmp .ge 28, 3) := by decide +kernel
theorem dX9_ends_164 : decode cX9_ends 164 = .ok (.aload_n 0, 1) := by decide +kernel
theorem dX9_ends_165 : decode cX9_ends 165 = .ok (.getfield 316, 3) := by decide +kernel
theorem dX9_ends_168 : decode cX9_ends 168 = .ok (.getfield 251, 3) := by decide +kernel
theorem dX9_ends_171 : decode cX9_ends 171 = .ok (.iload_n 3, 1) := by decide +kernel
theorem dX9_ends_172 : decode cX9_ends 172 = .ok (.iaload, 1) := by decide +kernel
theorem dX9_ends_173 : decode cX9_ends 173 = .ok (.iconst 2, 1) := by decide +kernel
theorem dX9_ends_174 : decode cX9_ends 174 = .ok (.if_icmp .ne 9, 3) := by decide +kernel
theorem dX9_ends_177 : decode cX9_ends 177 = .ok (.aload_n 0, 1) := by decide +kernel
theorem dX9_ends_178 : decode cX9_ends 178 = .ok (.aload_n 1, 1) := by decide +kernel
theorem dX9_ends_179 : decode cX9_ends 179 = .ok (.iload_n 3, 1) := by decide +kernel
theorem dX9_ends_180 : decode cX9_ends 180 = .ok (.invokevirtual 334, 3) := by decide +kernel
theorem dX9_ends_183 : decode cX9_ends 183 = .ok (.iinc 3 1, 3) := by decide +kernel
theorem dX9_ends_186 : decode cX9_ends 186 = .ok (.goto (-33), 3) := by decide +kernel
theorem dX9_ends_189 : decode cX9_ends 189 = .ok (.return_, 1) := by decide +kernel
theorem dX9_lapses_0 : decode cX9_lapses 0 = .ok (.iconst 0, 1) := by decide +kernel
theorem dX9_lapses_1 : decode cX9_lapses 1 = .ok (.istore_n 2, 1) := by decide +kernel
theorem dX9_lapses_2 : decode cX9_lapses 2 = .ok (.iload_n 2, 1) := by decide +kernel
theorem dX9_lapses_3 : decode cX9_lapses 3 = .ok (.aload_n 0, 1) := by decide +kernel
theorem dX9_lapses_4 : decode cX9_lapses 4 = .ok (.getfield 316, 3) := by decide +kernel
theorem dX9_lapses_7 : decode cX9_lapses 7 = .ok (.getfield 194, 3) := by decide +kernel
theorem dX9_lapses_10 : decode cX9_lapses 10 = .ok (.if_icmp .ge 28, 3) := by decide +kernel
theorem dX9_lapses_13 : decode cX9_lapses 13 = .ok (.aload_n 0, 1) := by decide +kernel
theorem dX9_lapses_14 : decode cX9_lapses 14 = .ok (.getfield 316, 3) := by decide +kernel
theorem dX9_lapses_17 : decode cX9_lapses 17 = .ok (.getfield 270, 3) := by decide +kernel
theorem dX9_lapses_20 : decode cX9_lapses 20 = .ok (.iload_n 2, 1) := by decide +kernel
theorem dX9_lapses_21 : decode cX9_lapses 21 = .ok (.iaload, 1) := by decide +kernel
theorem dX9_lapses_22 : decode cX9_lapses 22 = .ok (.ifCond .eq 10, 3) := by decide +kernel
theorem dX9_lapses_25 : decode cX9_lapses 25 = .ok (.aload_n 1, 1) := by decide +kernel
theorem dX9_lapses_26 : decode cX9_lapses 26 = .ok (.iconst 5, 1) := by decide +kernel
theorem dX9_lapses_27 : decode cX9_lapses 27 = .ok (.iload_n 2, 1) := by decide +kernel
theorem dX9_lapses_28 : decode cX9_lapses 28 = .ok (.iadd, 1) := by decide +kernel
theorem dX9_lapses_29 : decode cX9_lapses 29 = .ok (.bipush (-2), 2) := by decide +kernel
theorem dX9_lapses_31 : decode cX9_lapses 31 = .ok (.iastore, 1) := by decide +kernel
theorem dX9_lapses_32 : decode cX9_lapses 32 = .ok (.iinc 2 1, 3) := by decide +kernel
theorem dX9_lapses_35 : decode cX9_lapses 35 = .ok (.goto (-33), 3) := by decide +kernel
theorem dX9_lapses_38 : decode cX9_lapses 38 = .ok (.return_, 1) := by decide +kernel
theorem dX9_forgets_0 : decode cX9_forgets 0 = .ok (.aload_n 0, 1) := by decide +kernel
theorem dX9_forgets_1 : decode cX9_forgets 1 = .ok (.aload_n 1, 1) := by decide +kernel
theorem dX9_forgets_2 : decode cX9_forgets 2 = .ok (.iload_n 2, 1) := by decide +kernel
theorem dX9_forgets_3 : decode cX9_forgets 3 = .ok (.invokevirtual 338, 3) := by decide +kernel
theorem dX9_forgets_6 : decode cX9_forgets 6 = .ok (.invokestatic 342, 3) := by decide +kernel
theorem dX9_forgets_9 : decode cX9_forgets 9 = .ok (.iconst 2, 1) := by decide +kernel
theorem dX9_forgets_10 : decode cX9_forgets 10 = .ok (.if_icmp .ge 4, 3) := by decide +kernel
theorem dX9_forgets_13 : decode cX9_forgets 13 = .ok (.return_, 1) := by decide +kernel
theorem dX9_forgets_14 : decode cX9_forgets 14 = .ok (.iconst (-1), 1) := by decide +kernel
theorem dX9_forgets_15 : decode cX9_forgets 15 = .ok (.istore_n 3, 1) := by decide +kernel
theorem dX9_forgets_16 : decode cX9_forgets 16 = .ok (.iconst 0, 1) := by decide +kernel
theorem dX9_forgets_17 : decode cX9_forgets 17 = .ok (.istore 4, 2) := by decide +kernel
theorem dX9_forgets_19 : decode cX9_forgets 19 = .ok (.iload 4, 2) := by decide +kernel
theorem dX9_forgets_21 : decode cX9_forgets 21 = .ok (.aload_n 0, 1) := by decide +kernel
theorem dX9_forgets_22 : decode cX9_forgets 22 = .ok (.getfield 316, 3) := by decide +kernel
theorem dX9_forgets_25 : decode cX9_forgets 25 = .ok (.getfield 194, 3) := by decide +kernel
theorem dX9_forgets_28 : decode cX9_forgets 28 = .ok (.if_icmp .ge 52, 3) := by decide +kernel
theorem dX9_forgets_31 : decode cX9_forgets 31 = .ok (.aload_n 1, 1) := by decide +kernel
theorem dX9_forgets_32 : decode cX9_forgets 32 = .ok (.iconst 0, 1) := by decide +kernel
theorem dX9_forgets_33 : decode cX9_forgets 33 = .ok (.iload 4, 2) := by decide +kernel
theorem dX9_forgets_35 : decode cX9_forgets 35 = .ok (.iadd, 1) := by decide +kernel
theorem dX9_forgets_36 : decode cX9_forgets 36 = .ok (.iaload, 1) := by decide +kernel
theorem dX9_forgets_37 : decode cX9_forgets 37 = .ok (.iload_n 2, 1) := by decide +kernel
theorem dX9_forgets_38 : decode cX9_forgets 38 = .ok (.if_icmp .eq 6, 3) := by decide +kernel
theorem dX9_forgets_41 : decode cX9_forgets 41 = .ok (.goto 33, 3) := by decide +kernel
theorem dX9_forgets_44 : decode cX9_forgets 44 = .ok (.iload_n 3, 1) := by decide +kernel
theorem dX9_forgets_45 : decode cX9_forgets 45 = .ok (.iconst (-1), 1) := by decide +kernel
theorem dX9_forgets_46 : decode cX9_forgets 46 = .ok (.if_icmp .eq 25, 3) := by decide +kernel
theorem dX9_forgets_49 : decode cX9_forgets 49 = .ok (.aload_n 0, 1) := by decide +kernel
theorem dX9_forgets_50 : decode cX9_forgets 50 = .ok (.getfield 316, 3) := by decide +kernel
theorem dX9_forgets_53 : decode cX9_forgets 53 = .ok (.getfield 273, 3) := by decide +kernel
theorem dX9_forgets_56 : decode cX9_forgets 56 = .ok (.iload 4, 2) := by decide +kernel
theorem dX9_forgets_58 : decode cX9_forgets 58 = .ok (.iaload, 1) := by decide +kernel
theorem dX9_forgets_59 : decode cX9_forgets 59 = .ok (.aload_n 0, 1) := by decide +kernel
theorem dX9_forgets_60 : decode cX9_forgets 60 = .ok (.getfield 316, 3) := by decide +kernel
theorem dX9_forgets_63 : decode cX9_forgets 63 = .ok (.getfield 273, 3) := by decide +kernel
theorem dX9_forgets_66 : decode cX9_forgets 66 = .ok (.iload_n 3, 1) := by decide +kernel
theorem dX9_forgets_67 : decode cX9_forgets 67 = .ok (.iaload, 1) := by decide +kernel
theorem dX9_forgets_68 : decode cX9_forgets 68 = .ok (.if_icmp .ge 6, 3) := by decide +kernel
theorem dX9_forgets_71 : decode cX9_forgets 71 = .ok (.iload 4, 2) := by decide +kernel
theorem dX9_forgets_73 : decode cX9_forgets 73 = .ok (.istore_n 3, 1) := by decide +kernel
theorem dX9_forgets_74 : decode cX9_forgets 74 = .ok (.iinc 4 1, 3) := by decide +kernel
theorem dX9_forgets_77 : decode cX9_forgets 77 = .ok (.goto (-58), 3) := by decide +kernel
theorem dX9_forgets_80 : decode cX9_forgets 80 = .ok (.aload_n 1, 1) := by decide +kernel
theorem dX9_forgets_81 : decode cX9_forgets 81 = .ok (.iconst 0, 1) := by decide +kernel
theorem dX9_forgets_82 : decode cX9_forgets 82 = .ok (.iload_n 3, 1) := by decide +kernel
theorem dX9_forgets_83 : decode cX9_forgets 83 = .ok (.iadd, 1) := by decide +kernel
theorem dX9_forgets_84 : decode cX9_forgets 84 = .ok (.bipush (-2), 2) := by decide +kernel
theorem dX9_forgets_86 : decode cX9_forgets 86 = .ok (.iastore, 1) := by decide +kernel
theorem dX9_forgets_87 : decode cX9_forgets 87 = .ok (.return_, 1) := by decide +kernel
theorem dX9_happens_0 : decode cX9_happens 0 = .ok (.iconst 0, 1) := by decide +kernel
theorem dX9_happens_1 : decode cX9_happens 1 = .ok (.istore_n 2, 1) := by decide +kernel
theorem dX9_happens_2 : decode cX9_happens 2 = .ok (.iconst 0, 1) := by decide +kernel
theorem dX9_happens_3 : decode cX9_happens 3 = .ok (.istore_n 3, 1) := by decide +kernel
theorem dX9_happens_4 : decode cX9_happens 4 = .ok (.iload_n 3, 1) := by decide +kernel
theorem dX9_happens_5 : decode cX9_happens 5 = .ok (.aload_n 0, 1) := by decide +kernel
theorem dX9_happens_6 : decode cX9_happens 6 = .ok (.getfield 316, 3) := by decide +kernel
theorem dX9_happens_9 : decode cX9_happens 9 = .ok (.getfield 279, 3) := by decide +kernel
theorem dX9_happens_12 : decode cX9_happens 12 = .ok (.if_icmp .ge 128, 3) := by decide +kernel
theorem dX9_happens_15 : decode cX9_happens 15 = .ok (.aload_n 0, 1) := by decide +kernel
theorem dX9_happens_16 : decode cX9_happens 16 = .ok (.getfield 316, 3) := by decide +kernel
theorem dX9_happens_19 : decode cX9_happens 19 = .ok (.getfield 282, 3) := by decide +kernel
theorem dX9_happens_22 : decode cX9_happens 22 = .ok (.iload_n 3, 1) := by decide +kernel
theorem dX9_happens_23 : decode cX9_happens 23 = .ok (.iaload, 1) := by decide +kernel
theorem dX9_happens_24 : decode cX9_happens 24 = .ok (.iload_n 1, 1) := by decide +kernel
theorem dX9_happens_25 : decode cX9_happens 25 = .ok (.if_icmp .eq 6, 3) := by decide +kernel
theorem dX9_happens_28 : decode cX9_happens 28 = .ok (.goto 106, 3) := by decide +kernel
theorem dX9_happens_31 : decode cX9_happens 31 = .ok (.aload_n 0, 1) := by decide +kernel
theorem dX9_happens_32 : decode cX9_happens 32 = .ok (.getfield 316, 3) := by decide +kernel
theorem dX9_happens_35 : decode cX9_happens 35 = .ok (.getfield 289, 3) := by decide +kernel
theorem dX9_happens_38 : decode cX9_happens 38 = .ok (.iload_n 3, 1) := by decide +kernel
theorem dX9_happens_39 : decode cX9_happens 39 = .ok (.iaload, 1) := by decide +kernel
theorem dX9_happens_40 : decode cX9_happens 40 = .ok (.istore 4, 2) := by decide +kernel
theorem dX9_happens_42 : decode cX9_happens 42 = .ok (.aload_n 0, 1) := by decide +kernel
theorem dX9_happens_43 : decode cX9_happens 43 = .ok (.getfield 316, 3) := by decide +kernel
theorem dX9_happens_46 : decode cX9_happens 46 = .ok (.getfield 286, 3) := by decide +kernel
theorem dX9_happens_49 : decode cX9_happens 49 = .ok (.iload_n 3, 1) := by decide +kernel
theorem dX9_happens_50 : decode cX9_happens 50 = .ok (.iaload, 1) := by decide +kernel
theorem dX9_happens_51 : decode cX9_happens 51 = .ok (.tableswitch 81 0 2 #[25, 46, 60], 25) := by decide +kernel
theorem dX9_happens_76 : decode cX9_happens 76 = .ok (.aload_n 0, 1) := by decide +kernel
theorem dX9_happens_77 : decode cX9_happens 77 = .ok (.getfield 21, 3) := by decide +kernel
theorem dX9_happens_80 : decode cX9_happens 80 = .ok (.iconst 0, 1) := by decide +kernel
theorem dX9_happens_81 : decode cX9_happens 81 = .ok (.iload 4, 2) := by decide +kernel
theorem dX9_happens_83 : decode cX9_happens 83 = .ok (.iadd, 1) := by decide +kernel
theorem dX9_happens_84 : decode cX9_happens 84 = .ok (.aload_n 0, 1) := by decide +kernel
theorem dX9_happens_85 : decode cX9_happens 85 = .ok (.getfield 316, 3) := by decide +kernel
theorem dX9_happens_88 : decode cX9_happens 88 = .ok (.getfield 292, 3) := by decide +kernel
theorem dX9_happens_91 : decode cX9_happens 91 = .ok (.iload_n 3, 1) := by decide +kernel
theorem dX9_happens_92 : decode cX9_happens 92 = .ok (.iaload, 1) := by decide +kernel
theorem dX9_happens_93 : decode cX9_happens 93 = .ok (.iastore, 1) := by decide +kernel
theorem dX9_happens_94 : decode cX9_happens 94 = .ok (.goto 40, 3) := by decide +kernel
theorem dX9_happens_97 : decode cX9_happens 97 = .ok (.aload_n 0, 1) := by decide +kernel
theorem dX9_happens_98 : decode cX9_happens 98 = .ok (.getfield 21, 3) := by decide +kernel
theorem dX9_happens_101 : decode cX9_happens 101 = .ok (.iconst 0, 1) := by decide +kernel
theorem dX9_happens_102 : decode cX9_happens 102 = .ok (.iload 4, 2) := by decide +kernel
theorem dX9_happens_104 : decode cX9_happens 104 = .ok (.iadd, 1) := by decide +kernel
theorem dX9_happens_105 : decode cX9_happens 105 = .ok (.bipush (-2), 2) := by decide +kernel
theorem dX9_happens_107 : decode cX9_happens 107 = .ok (.iastore, 1) := by decide +kernel
theorem dX9_happens_108 : decode cX9_happens 108 = .ok (.goto 26, 3) := by decide +kernel
theorem dX9_happens_111 : decode cX9_happens 111 = .ok (.aload_n 0, 1) := by decide +kernel
theorem dX9_happens_112 : decode cX9_happens 112 = .ok (.getfield 21, 3) := by decide +kernel
theorem dX9_happens_115 : decode cX9_happens 115 = .ok (.iload 4, 2) := by decide +kernel
theorem dX9_happens_117 : decode cX9_happens 117 = .ok (.aload_n 0, 1) := by decide +kernel
theorem dX9_happens_118 : decode cX9_happens 118 = .ok (.getfield 316, 3) := by decide +kernel
theorem dX9_happens_121 : decode cX9_happens 121 = .ok (.getfield 292, 3) := by decide +kernel
theorem dX9_happens_124 : decode cX9_happens 124 = .ok (.iload_n 3, 1) := by decide +kernel
theorem dX9_happens_125 : decode cX9_happens 125 = .ok (.iaload, 1) := by decide +kernel
theorem dX9_happens_126 : decode cX9_happens 126 = .ok (.invokestatic 345, 3) := by decide +kernel
theorem dX9_happens_129 : decode cX9_happens 129 = .ok (.goto 5, 3) := by decide +kernel
theorem dX9_happens_132 : decode cX9_happens 132 = .ok (.iconst 1, 1) := by decide +kernel
theorem dX9_happens_133 : decode cX9_happens 133 = .ok (.istore_n 2, 1) := by decide +kernel
theorem dX9_happens_134 : decode cX9_happens 134 = .ok (.iinc 3 1, 3) := by decide +kernel
theorem dX9_happens_137 : decode cX9_happens 137 = .ok (.goto (-133), 3) := by decide +kernel
theorem dX9_happens_140 : decode cX9_happens 140 = .ok (.iload_n 2, 1) := by decide +kernel
theorem dX9_happens_141 : decode cX9_happens 141 = .ok (.ireturn, 1) := by decide +kernel
theorem dX9_goesBy_0 : decode cX9_goesBy 0 = .ok (.aload_n 0, 1) := by decide +kernel
theorem dX9_goesBy_1 : decode cX9_goesBy 1 = .ok (.aload_n 0, 1) := by decide +kernel
theorem dX9_goesBy_2 : decode cX9_goesBy 2 = .ok (.getfield 21, 3) := by decide +kernel
theorem dX9_goesBy_5 : decode cX9_goesBy 5 = .ok (.aload_n 0, 1) := by decide +kernel
theorem dX9_goesBy_6 : decode cX9_goesBy 6 = .ok (.iload_n 1, 1) := by decide +kernel
theorem dX9_goesBy_7 : decode cX9_goesBy 7 = .ok (.invokevirtual 349, 3) := by decide +kernel
theorem dX9_goesBy_10 : decode cX9_goesBy 10 = .ok (.invokevirtual 352, 3) := by decide +kernel
theorem dX9_goesBy_13 : decode cX9_goesBy 13 = .ok (.return_, 1) := by decide +kernel
theorem dX9_behind_0 : decode cX9_behind 0 = .ok (.aload_n 0, 1) := by decide +kernel
theorem dX9_behind_1 : decode cX9_behind 1 = .ok (.aload_n 0, 1) := by decide +kernel
theorem dX9_behind_2 : decode cX9_behind 2 = .ok (.getfield 21, 3) := by decide +kernel
theorem dX9_behind_5 : decode cX9_behind 5 = .ok (.invokevirtual 318, 3) := by decide +kernel
theorem dX9_behind_8 : decode cX9_behind 8 = .ok (.iconst 0, 1) := by decide +kernel
theorem dX9_behind_9 : decode cX9_behind 9 = .ok (.istore_n 2, 1) := by decide +kernel
theorem dX9_behind_10 : decode cX9_behind 10 = .ok (.iload_n 2, 1) := by decide +kernel
theorem dX9_behind_11 : decode cX9_behind 11 = .ok (.iload_n 1, 1) := by decide +kernel
theorem dX9_behind_12 : decode cX9_behind 12 = .ok (.if_icmp .gt 14, 3) := by decide +kernel
theorem dX9_behind_15 : decode cX9_behind 15 = .ok (.aload_n 0, 1) := by decide +kernel
theorem dX9_behind_16 : decode cX9_behind 16 = .ok (.iload_n 2, 1) := by decide +kernel
theorem dX9_behind_17 : decode cX9_behind 17 = .ok (.invokevirtual 356, 3) := by decide +kernel
theorem dX9_behind_20 : decode cX9_behind 20 = .ok (.iinc 2 1, 3) := by decide +kernel
theorem dX9_behind_23 : decode cX9_behind 23 = .ok (.goto (-13), 3) := by decide +kernel
theorem dX9_behind_26 : decode cX9_behind 26 = .ok (.return_, 1) := by decide +kernel
theorem dX9_umbrella_0 : decode cX9_umbrella 0 = .ok (.aload_n 0, 1) := by decide +kernel
theorem dX9_umbrella_1 : decode cX9_umbrella 1 = .ok (.iconst 0, 1) := by decide +kernel
theorem dX9_umbrella_2 : decode cX9_umbrella 2 = .ok (.putfield 45, 3) := by decide +kernel
theorem dX9_umbrella_5 : decode cX9_umbrella 5 = .ok (.aload_n 0, 1) := by decide +kernel
theorem dX9_umbrella_6 : decode cX9_umbrella 6 = .ok (.iload_n 1, 1) := by decide +kernel
theorem dX9_umbrella_7 : decode cX9_umbrella 7 = .ok (.invokevirtual 359, 3) := by decide +kernel
theorem dX9_umbrella_10 : decode cX9_umbrella 10 = .ok (.ifCond .eq 12, 3) := by decide +kernel
theorem dX9_umbrella_13 : decode cX9_umbrella 13 = .ok (.iload_n 2, 1) := by decide +kernel
theorem dX9_umbrella_14 : decode cX9_umbrella 14 = .ok (.iconst 0, 1) := by decide +kernel
theorem dX9_umbrella_15 : decode cX9_umbrella 15 = .ok (.iconst 4, 1) := by decide +kernel
theorem dX9_umbrella_16 : decode cX9_umbrella 16 = .ok (.invokestatic 124, 3) := by decide +kernel
theorem dX9_umbrella_19 : decode cX9_umbrella 19 = .ok (.ifCond .ne 9, 3) := by decide +kernel
theorem dX9_umbrella_22 : decode cX9_umbrella 22 = .ok (.aload_n 0, 1) := by decide +kernel
theorem dX9_umbrella_23 : decode cX9_umbrella 23 = .ok (.iconst 1, 1) := by decide +kernel
theorem dX9_umbrella_24 : decode cX9_umbrella 24 = .ok (.invokevirtual 51, 3) := by decide +kernel
theorem dX9_umbrella_27 : decode cX9_umbrella 27 = .ok (.ireturn, 1) := by decide +kernel
theorem dX9_umbrella_28 : decode cX9_umbrella 28 = .ok (.iload_n 2, 1) := by decide +kernel
theorem dX9_umbrella_29 : decode cX9_umbrella 29 = .ok (.tableswitch 86 0 3 #[31, 45, 59, 73], 31) := by decide +kernel
theorem dX9_umbrella_60 : decode cX9_umbrella 60 = .ok (.aload_n 0, 1) := by decide +kernel
theorem dX9_umbrella_61 : decode cX9_umbrella 61 = .ok (.aload_n 0, 1) := by decide +kernel
theorem dX9_umbrella_62 : decode cX9_umbrella 62 = .ok (.getfield 316, 3) := by decide +kernel
theorem dX9_umbrella_65 : decode cX9_umbrella 65 = .ok (.getfield 270, 3) := by decide +kernel
theorem dX9_umbrella_68 : decode cX9_umbrella 68 = .ok (.iload_n 1, 1) := by decide +kernel
theorem dX9_umbrella_69 : decode cX9_umbrella 69 = .ok (.iaload, 1) := by decide +kernel
theorem dX9_umbrella_70 : decode cX9_umbrella 70 = .ok (.invokevirtual 55, 3) := by decide +kernel
theorem dX9_umbrella_73 : decode cX9_umbrella 73 = .ok (.ireturn, 1) := by decide +kernel
theorem dX9_umbrella_74 : decode cX9_umbrella 74 = .ok (.aload_n 0, 1) := by decide +kernel
theorem dX9_umbrella_75 : decode cX9_umbrella 75 = .ok (.aload_n 0, 1) := by decide +kernel
theorem dX9_umbrella_76 : decode cX9_umbrella 76 = .ok (.getfield 316, 3) := by decide +kernel
theorem dX9_umbrella_79 : decode cX9_umbrella 79 = .ok (.getfield 273, 3) := by decide +kernel
theorem dX9_umbrella_82 : decode cX9_umbrella 82 = .ok (.iload_n 1, 1) := by decide +kernel
theorem dX9_umbrella_83 : decode cX9_umbrella 83 = .ok (.iaload, 1) := by decide +kernel
theorem dX9_umbrella_84 : decode cX9_umbrella 84 = .ok (.invokevirtual 55, 3) := by decide +kernel
theorem dX9_umbrella_87 : decode cX9_umbrella 87 = .ok (.ireturn, 1) := by decide +kernel
theorem dX9_umbrella_88 : decode cX9_umbrella 88 = .ok (.aload_n 0, 1) := by decide +kernel
theorem dX9_umbrella_89 : decode cX9_umbrella 89 = .ok (.aload_n 0, 1) := by decide +kernel
theorem dX9_umbrella_90 : decode cX9_umbrella 90 = .ok (.getfield 316, 3) := by decide +kernel
theorem dX9_umbrella_93 : decode cX9_umbrella 93 = .ok (.getfield 275, 3) := by decide +kernel
theorem dX9_umbrella_96 : decode cX9_umbrella 96 = .ok (.iload_n 1, 1) := by decide +kernel
theorem dX9_umbrella_97 : decode cX9_umbrella 97 = .ok (.iaload, 1) := by decide +kernel
theorem dX9_umbrella_98 : decode cX9_umbrella 98 = .ok (.invokevirtual 55, 3) := by decide +kernel
theorem dX9_umbrella_101 : decode cX9_umbrella 101 = .ok (.ireturn, 1) := by decide +kernel
theorem dX9_umbrella_102 : decode cX9_umbrella 102 = .ok (.aload_n 0, 1) := by decide +kernel
theorem dX9_umbrella_103 : decode cX9_umbrella 103 = .ok (.aload_n 0, 1) := by decide +kernel
theorem dX9_umbrella_104 : decode cX9_umbrella 104 = .ok (.getfield 17, 3) := by decide +kernel
theorem dX9_umbrella_107 : decode cX9_umbrella 107 = .ok (.iconst 0, 1) := by decide +kernel
theorem dX9_umbrella_108 : decode cX9_umbrella 108 = .ok (.iload_n 1, 1) := by decide +kernel
theorem dX9_umbrella_109 : decode cX9_umbrella 109 = .ok (.iadd, 1) := by decide +kernel
theorem dX9_umbrella_110 : decode cX9_umbrella 110 = .ok (.iaload, 1) := by decide +kernel
theorem dX9_umbrella_111 : decode cX9_umbrella 111 = .ok (.invokevirtual 55, 3) := by decide +kernel
theorem dX9_umbrella_114 : decode cX9_umbrella 114 = .ok (.ireturn, 1) := by decide +kernel
theorem dX9_umbrella_115 : decode cX9_umbrella 115 = .ok (.aload_n 0, 1) := by decide +kernel
theorem dX9_umbrella_116 : decode cX9_umbrella 116 = .ok (.aload_n 0, 1) := by decide +kernel
theorem dX9_umbrella_117 : decode cX9_umbrella 117 = .ok (.getfield 17, 3) := by decide +kernel
theorem dX9_umbrella_120 : decode cX9_umbrella 120 = .ok (.iconst 5, 1) := by decide +kernel
theorem dX9_umbrella_121 : decode cX9_umbrella 121 = .ok (.iload_n 1, 1) := by decide +kernel
theorem dX9_umbrella_122 : decode cX9_umbrella 122 = .ok (.iadd, 1) := by decide +kernel
theorem dX9_umbrella_123 : decode cX9_umbrella 123 = .ok (.iaload, 1) := by decide +kernel
theorem dX9_umbrella_124 : decode cX9_umbrella 124 = .ok (.invokevirtual 55, 3) := by decide +kernel
theorem dX9_umbrella_127 : decode cX9_umbrella 127 = .ok (.ireturn, 1) := by decide +kernel
theorem dX9_person_0 : decode cX9_person 0 = .ok (.aload_n 0, 1) := by decide +kernel
theorem dX9_person_1 : decode cX9_person 1 = .ok (.iconst 0, 1) := by decide +kernel
theorem dX9_person_2 : decode cX9_person 2 = .ok (.putfield 45, 3) := by decide +kernel
theorem dX9_person_5 : decode cX9_person 5 = .ok (.aload_n 0, 1) := by decide +kernel
theorem dX9_person_6 : decode cX9_person 6 = .ok (.iload_n 1, 1) := by decide +kernel
theorem dX9_person_7 : decode cX9_person 7 = .ok (.invokevirtual 362, 3) := by decide +kernel
theorem dX9_person_10 : decode cX9_person 10 = .ok (.ifCond .eq 12, 3) := by decide +kernel
theorem dX9_person_13 : decode cX9_person 13 = .ok (.iload_n 2, 1) := by decide +kernel
theorem dX9_person_14 : decode cX9_person 14 = .ok (.iconst 0, 1) := by decide +kernel
theorem dX9_person_15 : decode cX9_person 15 = .ok (.iconst 2, 1) := by decide +kernel
theorem dX9_person_16 : decode cX9_person 16 = .ok (.invokestatic 124, 3) := by decide +kernel
theorem dX9_person_19 : decode cX9_person 19 = .ok (.ifCond .ne 9, 3) := by decide +kernel
theorem dX9_person_22 : decode cX9_person 22 = .ok (.aload_n 0, 1) := by decide +kernel
theorem dX9_person_23 : decode cX9_person 23 = .ok (.iconst 1, 1) := by decide +kernel
theorem dX9_person_24 : decode cX9_person 24 = .ok (.invokevirtual 51, 3) := by decide +kernel
theorem dX9_person_27 : decode cX9_person 27 = .ok (.ireturn, 1) := by decide +kernel
theorem dX9_person_28 : decode cX9_person 28 = .ok (.aload_n 0, 1) := by decide +kernel
theorem dX9_person_29 : decode cX9_person 29 = .ok (.iload_n 2, 1) := by decide +kernel
theorem dX9_person_30 : decode cX9_person 30 = .ok (.ifCond .ne 15, 3) := by decide +kernel
theorem dX9_person_33 : decode cX9_person 33 = .ok (.aload_n 0, 1) := by decide +kernel
theorem dX9_person_34 : decode cX9_person 34 = .ok (.getfield 316, 3) := by decide +kernel
theorem dX9_person_37 : decode cX9_person 37 = .ok (.getfield 251, 3) := by decide +kernel
theorem dX9_person_40 : decode cX9_person 40 = .ok (.iload_n 1, 1) := by decide +kernel
theorem dX9_person_41 : decode cX9_person 41 = .ok (.iaload, 1) := by decide +kernel
theorem dX9_person_42 : decode cX9_person 42 = .ok (.goto 29, 3) := by decide +kernel
theorem dX9_person_45 : decode cX9_person 45 = .ok (.iload_n 2, 1) := by decide +kernel
theorem dX9_person_46 : decode cX9_person 46 = .ok (.iconst 1, 1) := by decide +kernel
theorem dX9_person_47 : decode cX9_person 47 = .ok (.if_icmp .ne 15, 3) := by decide +kernel
theorem dX9_person_50 : decode cX9_person 50 = .ok (.aload_n 0, 1) := by decide +kernel
theorem dX9_person_51 : decode cX9_person 51 = .ok (.aload_n 0, 1) := by decide +kernel
theorem dX9_person_52 : decode cX9_person 52 = .ok (.getfield 17, 3) := by decide +kernel
theorem dX9_person_55 : decode cX9_person 55 = .ok (.iload_n 1, 1) := by decide +kernel
theorem dX9_person_56 : decode cX9_person 56 = .ok (.invokevirtual 338, 3) := by decide +kernel
theorem dX9_person_59 : decode cX9_person 59 = .ok (.goto 12, 3) := by decide +kernel
theorem dX9_person_62 : decode cX9_person 62 = .ok (.aload_n 0, 1) := by decide +kernel
theorem dX9_person_63 : decode cX9_person 63 = .ok (.aload_n 0, 1) := by decide +kernel
theorem dX9_person_64 : decode cX9_person 64 = .ok (.getfield 17, 3) := by decide +kernel
theorem dX9_person_67 : decode cX9_person 67 = .ok (.iload_n 1, 1) := by decide +kernel
theorem dX9_person_68 : decode cX9_person 68 = .ok (.invokevirtual 365, 3) := by decide +kernel
theorem dX9_person_71 : decode cX9_person 71 = .ok (.invokevirtual 55, 3) := by decide +kernel
theorem dX9_person_74 : decode cX9_person 74 = .ok (.ireturn, 1) := by decide +kernel
theorem dX9_alike_0 : decode cX9_alike 0 = .ok (.aload_n 0, 1) := by decide +kernel
theorem dX9_alike_1 : decode cX9_alike 1 = .ok (.iconst 0, 1) := by decide +kernel
theorem dX9_alike_2 : decode cX9_alike 2 = .ok (.putfield 45, 3) := by decide +kernel
theorem dX9_alike_5 : decode cX9_alike 5 = .ok (.aload_n 0, 1) := by decide +kernel
theorem dX9_alike_6 : decode cX9_alike 6 = .ok (.iload_n 1, 1) := by decide +kernel
theorem dX9_alike_7 : decode cX9_alike 7 = .ok (.invokevirtual 359, 3) := by decide +kernel
theorem dX9_alike_10 : decode cX9_alike 10 = .ok (.ifCond .ne 9, 3) := by decide +kernel
theorem dX9_alike_13 : decode cX9_alike 13 = .ok (.aload_n 0, 1) := by decide +kernel
theorem dX9_alike_14 : decode cX9_alike 14 = .ok (.iconst 1, 1) := by decide +kernel
theorem dX9_alike_15 : decode cX9_alike 15 = .ok (.invokevirtual 51, 3) := by decide +kernel
theorem dX9_alike_18 : decode cX9_alike 18 = .ok (.ireturn, 1) := by decide +kernel
theorem dX9_alike_19 : decode cX9_alike 19 = .ok (.iconst 0, 1) := by decide +kernel
theorem dX9_alike_20 : decode cX9_alike 20 = .ok (.istore_n 2, 1) := by decide +kernel
theorem dX9_alike_21 : decode cX9_alike 21 = .ok (.iconst 0, 1) := by decide +kernel
theorem dX9_alike_22 : decode cX9_alike 22 = .ok (.istore_n 3, 1) := by decide +kernel
theorem dX9_alike_23 : decode cX9_alike 23 = .ok (.iload_n 3, 1) := by decide +kernel
theorem dX9_alike_24 : decode cX9_alike 24 = .ok (.aload_n 0, 1) := by decide +kernel
theorem dX9_alike_25 : decode cX9_alike 25 = .ok (.getfield 316, 3) := by decide +kernel
theorem dX9_alike_28 : decode cX9_alike 28 = .ok (.getfield 194, 3) := by decide +kernel
theorem dX9_alike_31 : decode cX9_alike 31 = .ok (.if_icmp .ge 31, 3) := by decide +kernel
theorem dX9_alike_34 : decode cX9_alike 34 = .ok (.iload_n 2, 1) := by decide +kernel
theorem dX9_alike_35 : decode cX9_alike 35 = .ok (.aload_n 0, 1) := by decide +kernel
theorem dX9_alike_36 : decode cX9_alike 36 = .ok (.getfield 316, 3) := by decide +kernel
theorem dX9_alike_39 : decode cX9_alike 39 = .ok (.iload_n 1, 1) := by decide +kernel
theorem dX9_alike_40 : decode cX9_alike 40 = .ok (.iload_n 3, 1) := by decide +kernel
theorem dX9_alike_41 : decode cX9_alike 41 = .ok (.invokevirtual 368, 3) := by decide +kernel
theorem dX9_alike_44 : decode cX9_alike 44 = .ok (.ifCond .eq 9, 3) := by decide +kernel
theorem dX9_alike_47 : decode cX9_alike 47 = .ok (.iconst 1, 1) := by decide +kernel
theorem dX9_alike_48 : decode cX9_alike 48 = .ok (.iload_n 3, 1) := by decide +kernel
theorem dX9_alike_49 : decode cX9_alike 49 = .ok (.ishl, 1) := by decide +kernel
theorem dX9_alike_50 : decode cX9_alike 50 = .ok (.goto 4, 3) := by decide +kernel
theorem dX9_alike_53 : decode cX9_alike 53 = .ok (.iconst 0, 1) := by decide +kernel
theorem dX9_alike_54 : decode cX9_alike 54 = .ok (.ior, 1) := by decide +kernel
theorem dX9_alike_55 : decode cX9_alike 55 = .ok (.istore_n 2, 1) := by decide +kernel
theorem dX9_alike_56 : decode cX9_alike 56 = .ok (.iinc 3 1, 3) := by decide +kernel
theorem dX9_alike_59 : decode cX9_alike 59 = .ok (.goto (-36), 3) := by decide +kernel
theorem dX9_alike_62 : decode cX9_alike 62 = .ok (.aload_n 0, 1) := by decide +kernel
theorem dX9_alike_63 : decode cX9_alike 63 = .ok (.iload_n 2, 1) := by decide +kernel
theorem dX9_alike_64 : decode cX9_alike 64 = .ok (.invokevirtual 55, 3) := by decide +kernel
theorem dX9_alike_67 : decode cX9_alike 67 = .ok (.ireturn, 1) := by decide +kernel
theorem dX9_rightIn_0 : decode cX9_rightIn 0 = .ok (.iconst 0, 1) := by decide +kernel
theorem dX9_rightIn_1 : decode cX9_rightIn 1 = .ok (.istore_n 2, 1) := by decide +kernel
theorem dX9_rightIn_2 : decode cX9_rightIn 2 = .ok (.iconst 0, 1) := by decide +kernel
theorem dX9_rightIn_3 : decode cX9_rightIn 3 = .ok (.istore_n 3, 1) := by decide +kernel
theorem dX9_rightIn_4 : decode cX9_rightIn 4 = .ok (.iload_n 3, 1) := by decide +kernel
theorem dX9_rightIn_5 : decode cX9_rightIn 5 = .ok (.aload_n 0, 1) := by decide +kernel
theorem dX9_rightIn_6 : decode cX9_rightIn 6 = .ok (.getfield 316, 3) := by decide +kernel
theorem dX9_rightIn_9 : decode cX9_rightIn 9 = .ok (.getfield 194, 3) := by decide +kernel
theorem dX9_rightIn_12 : decode cX9_rightIn 12 = .ok (.if_icmp .ge 42, 3) := by decide +kernel
theorem dX9_rightIn_15 : decode cX9_rightIn 15 = .ok (.iload_n 2, 1) := by decide +kernel
theorem dX9_rightIn_16 : decode cX9_rightIn 16 = .ok (.aload_n 1, 1) := by decide +kernel
theorem dX9_rightIn_17 : decode cX9_rightIn 17 = .ok (.iconst 5, 1) := by decide +kernel
theorem dX9_rightIn_18 : decode cX9_rightIn 18 = .ok (.iload_n 3, 1) := by decide +kernel
theorem dX9_rightIn_19 : decode cX9_rightIn 19 = .ok (.iadd, 1) := by decide +kernel
theorem dX9_rightIn_20 : decode cX9_rightIn 20 = .ok (.iaload, 1) := by decide +kernel
theorem dX9_rightIn_21 : decode cX9_rightIn 21 = .ok (.bipush (-2), 2) := by decide +kernel
theorem dX9_rightIn_23 : decode cX9_rightIn 23 = .ok (.if_icmp .eq 22, 3) := by decide +kernel
theorem dX9_rightIn_26 : decode cX9_rightIn 26 = .ok (.aload_n 1, 1) := by decide +kernel
theorem dX9_rightIn_27 : decode cX9_rightIn 27 = .ok (.iconst 5, 1) := by decide +kernel
theorem dX9_rightIn_28 : decode cX9_rightIn 28 = .ok (.iload_n 3, 1) := by decide +kernel
theorem dX9_rightIn_29 : decode cX9_rightIn 29 = .ok (.iadd, 1) := by decide +kernel
theorem dX9_rightIn_30 : decode cX9_rightIn 30 = .ok (.iaload, 1) := by decide +kernel
theorem dX9_rightIn_31 : decode cX9_rightIn 31 = .ok (.aload_n 1, 1) := by decide +kernel
theorem dX9_rightIn_32 : decode cX9_rightIn 32 = .ok (.iconst 0, 1) := by decide +kernel
theorem dX9_rightIn_33 : decode cX9_rightIn 33 = .ok (.iload_n 3, 1) := by decide +kernel
theorem dX9_rightIn_34 : decode cX9_rightIn 34 = .ok (.iadd, 1) := by decide +kernel
theorem dX9_rightIn_35 : decode cX9_rightIn 35 = .ok (.iaload, 1) := by decide +kernel
theorem dX9_rightIn_36 : decode cX9_rightIn 36 = .ok (.if_icmp .ne 9, 3) := by decide +kernel
theorem dX9_rightIn_39 : decode cX9_rightIn 39 = .ok (.iconst 1, 1) := by decide +kernel
theorem dX9_rightIn_40 : decode cX9_rightIn 40 = .ok (.iload_n 3, 1) := by decide +kernel
theorem dX9_rightIn_41 : decode cX9_rightIn 41 = .ok (.ishl, 1) := by decide +kernel
theorem dX9_rightIn_42 : decode cX9_rightIn 42 = .ok (.goto 4, 3) := by decide +kernel
theorem dX9_rightIn_45 : decode cX9_rightIn 45 = .ok (.iconst 0, 1) := by decide +kernel
theorem dX9_rightIn_46 : decode cX9_rightIn 46 = .ok (.ior, 1) := by decide +kernel
theorem dX9_rightIn_47 : decode cX9_rightIn 47 = .ok (.istore_n 2, 1) := by decide +kernel
theorem dX9_rightIn_48 : decode cX9_rightIn 48 = .ok (.iinc 3 1, 3) := by decide +kernel
theorem dX9_rightIn_51 : decode cX9_rightIn 51 = .ok (.goto (-47), 3) := by decide +kernel
theorem dX9_rightIn_54 : decode cX9_rightIn 54 = .ok (.iload_n 2, 1) := by decide +kernel
theorem dX9_rightIn_55 : decode cX9_rightIn 55 = .ok (.ireturn, 1) := by decide +kernel
theorem dX9_right_0 : decode cX9_right 0 = .ok (.aload_n 0, 1) := by decide +kernel
theorem dX9_right_1 : decode cX9_right 1 = .ok (.iconst 0, 1) := by decide +kernel
theorem dX9_right_2 : decode cX9_right 2 = .ok (.putfield 45, 3) := by decide +kernel
theorem dX9_right_5 : decode cX9_right 5 = .ok (.aload_n 0, 1) := by decide +kernel
theorem dX9_right_6 : decode cX9_right 6 = .ok (.getfield 316, 3) := by decide +kernel
theorem dX9_right_9 : decode cX9_right 9 = .ok (.ifnonnull 11, 3) := by decide +kernel
theorem dX9_right_12 : decode cX9_right 12 = .ok (.aload_n 0, 1) := by decide +kernel
theorem dX9_right_13 : decode cX9_right 13 = .ok (.iconst 1, 1) := by decide +kernel
theorem dX9_right_14 : decode cX9_right 14 = .ok (.invokevirtual 51, 3) := by decide +kernel
theorem dX9_right_17 : decode cX9_right 17 = .ok (.goto 15, 3) := by decide +kernel
theorem dX9_right_20 : decode cX9_right 20 = .ok (.aload_n 0, 1) := by decide +kernel
theorem dX9_right_21 : decode cX9_right 21 = .ok (.aload_n 0, 1) := by decide +kernel
theorem dX9_right_22 : decode cX9_right 22 = .ok (.aload_n 0, 1) := by decide +kernel
theorem dX9_right_23 : decode cX9_right 23 = .ok (.getfield 17, 3) := by decide +kernel
theorem dX9_right_26 : decode cX9_right 26 = .ok (.invokevirtual 372, 3) := by decide +kernel
theorem dX9_right_29 : decode cX9_right 29 = .ok (.invokevirtual 55, 3) := by decide +kernel
theorem dX9_right_32 : decode cX9_right 32 = .ok (.ireturn, 1) := by decide +kernel
theorem dX9_richest_0 : decode cX9_richest 0 = .ok (.aload_n 0, 1) := by decide +kernel
theorem dX9_richest_1 : decode cX9_richest 1 = .ok (.iconst 0, 1) := by decide +kernel
theorem dX9_richest_2 : decode cX9_richest 2 = .ok (.putfield 45, 3) := by decide +kernel
theorem dX9_richest_5 : decode cX9_richest 5 = .ok (.aload_n 0, 1) := by decide +kernel
theorem dX9_richest_6 : decode cX9_richest 6 = .ok (.getfield 316, 3) := by decide +kernel
theorem dX9_richest_9 : decode cX9_richest 9 = .ok (.ifnonnull 9, 3) := by decide +kernel
theorem dX9_richest_12 : decode cX9_richest 12 = .ok (.aload_n 0, 1) := by decide +kernel
theorem dX9_richest_13 : decode cX9_richest 13 = .ok (.iconst 1, 1) := by decide +kernel
theorem dX9_richest_14 : decode cX9_richest 14 = .ok (.invokevirtual 51, 3) := by decide +kernel
theorem dX9_richest_17 : decode cX9_richest 17 = .ok (.ireturn, 1) := by decide +kernel
theorem dX9_richest_18 : decode cX9_richest 18 = .ok (.bipush (-2), 2) := by decide +kernel
theorem dX9_richest_20 : decode cX9_richest 20 = .ok (.istore_n 1, 1) := by decide +kernel
theorem dX9_richest_21 : decode cX9_richest 21 = .ok (.iconst 0, 1) := by decide +kernel
theorem dX9_richest_22 : decode cX9_richest 22 = .ok (.istore_n 2, 1) := by decide +kernel
theorem dX9_richest_23 : decode cX9_richest 23 = .ok (.iconst 0, 1) := by decide +kernel
theorem dX9_richest_24 : decode cX9_richest 24 = .ok (.istore_n 3, 1) := by decide +kernel
theorem dX9_richest_25 : decode cX9_richest 25 = .ok (.iload_n 3, 1) := by decide +kernel
theorem dX9_richest_26 : decode cX9_richest 26 = .ok (.aload_n 0, 1) := by decide +kernel
theorem dX9_richest_27 : decode cX9_richest 27 = .ok (.getfield 316, 3) := by decide +kernel
theorem dX9_richest_30 : decode cX9_richest 30 = .ok (.getfield 191, 3) := by decide +kernel
theorem dX9_richest_33 : decode cX9_richest 33 = .ok (.if_icmp .ge 37, 3) := by decide +kernel
theorem dX9_richest_36 : decode cX9_richest 36 = .ok (.aload_n 0, 1) := by decide +kernel
theorem dX9_richest_37 : decode cX9_richest 37 = .ok (.aload_n 0, 1) := by decide +kernel
theorem dX9_richest_38 : decode cX9_richest 38 = .ok (.getfield 17, 3) := by decide +kernel
theorem dX9_richest_41 : decode cX9_richest 41 = .ok (.iload_n 3, 1) := by decide +kernel
theorem dX9_richest_42 : decode cX9_richest 42 = .ok (.invokevirtual 365, 3) := by decide +kernel
theorem dX9_richest_45 : decode cX9_richest 45 = .ok (.iload_n 2, 1) := by decide +kernel
theorem dX9_richest_46 : decode cX9_richest 46 = .ok (.if_icmp .gt 6, 3) := by decide +kernel
theorem dX9_richest_49 : decode cX9_richest 49 = .ok (.goto 15, 3) := by decide +kernel
theorem dX9_richest_52 : decode cX9_richest 52 = .ok (.aload_n 0, 1) := by decide +kernel
theorem dX9_richest_53 : decode cX9_richest 53 = .ok (.aload_n 0, 1) := by decide +kernel
theorem dX9_richest_54 : decode cX9_richest 54 = .ok (.getfield 17, 3) := by decide +kernel
theorem dX9_richest_57 : decode cX9_richest 57 = .ok (.iload_n 3, 1) := by decide +kernel
theorem dX9_richest_58 : decode cX9_richest 58 = .ok (.invokevirtual 365, 3) := by decide +kernel
theorem dX9_richest_61 : decode cX9_richest 61 = .ok (.istore_n 2, 1) := by decide +kernel
theorem dX9_richest_62 : decode cX9_richest 62 = .ok (.iload_n 3, 1) := by decide +kernel
theorem dX9_richest_63 : decode cX9_richest 63 = .ok (.istore_n 1, 1) := by decide +kernel
theorem dX9_richest_64 : decode cX9_richest 64 = .ok (.iinc 3 1, 3) := by decide +kernel
theorem dX9_richest_67 : decode cX9_richest 67 = .ok (.goto (-42), 3) := by decide +kernel
theorem dX9_richest_70 : decode cX9_richest 70 = .ok (.aload_n 0, 1) := by decide +kernel
theorem dX9_richest_71 : decode cX9_richest 71 = .ok (.iload_n 1, 1) := by decide +kernel
theorem dX9_richest_72 : decode cX9_richest 72 = .ok (.invokevirtual 55, 3) := by decide +kernel
theorem dX9_richest_75 : decode cX9_richest 75 = .ok (.ireturn, 1) := by decide +kernel
theorem dX9_asks_0 : decode cX9_asks 0 = .ok (.iload_n 1, 1) := by decide +kernel
theorem dX9_asks_1 : decode cX9_asks 1 = .ok (.ifCond .ne 5, 3) := by decide +kernel
theorem dX9_asks_4 : decode cX9_asks 4 = .ok (.iconst 1, 1) := by decide +kernel
theorem dX9_asks_5 : decode cX9_asks 5 = .ok (.ireturn, 1) := by decide +kernel
theorem dX9_asks_6 : decode cX9_asks 6 = .ok (.iload_n 2, 1) := by decide +kernel
theorem dX9_asks_7 : decode cX9_asks 7 = .ok (.iconst 0, 1) := by decide +kernel
theorem dX9_asks_8 : decode cX9_asks 8 = .ok (.bipush 40, 2) := by decide +kernel
theorem dX9_asks_10 : decode cX9_asks 10 = .ok (.invokestatic 124, 3) := by decide +kernel
theorem dX9_asks_13 : decode cX9_asks 13 = .ok (.ifCond .ne 5, 3) := by decide +kernel
theorem dX9_asks_16 : decode cX9_asks 16 = .ok (.iconst 2, 1) := by decide +kernel
theorem dX9_asks_17 : decode cX9_asks 17 = .ok (.ireturn, 1) := by decide +kernel
theorem dX9_asks_18 : decode cX9_asks 18 = .ok (.aload_n 0, 1) := by decide +kernel
theorem dX9_asks_19 : decode cX9_asks 19 = .ok (.iload_n 2, 1) := by decide +kernel
theorem dX9_asks_20 : decode cX9_asks 20 = .ok (.invokevirtual 376, 3) := by decide +kernel
theorem dX9_asks_23 : decode cX9_asks 23 = .ok (.iconst 0, 1) := by decide +kernel
theorem dX9_asks_24 : decode cX9_asks 24 = .ok (.ireturn, 1) := by decide +kernel
theorem dX9_hasIt_0 : decode cX9_hasIt 0 = .ok (.aload_n 0, 1) := by decide +kernel
theorem dX9_hasIt_1 : decode cX9_hasIt 1 = .ok (.iconst 0, 1) := by decide +kernel
theorem dX9_hasIt_2 : decode cX9_hasIt 2 = .ok (.putfield 45, 3) := by decide +kernel
theorem dX9_hasIt_5 : decode cX9_hasIt 5 = .ok (.aload_n 0, 1) := by decide +kernel
theorem dX9_hasIt_6 : decode cX9_hasIt 6 = .ok (.aload_n 0, 1) := by decide +kernel
theorem dX9_hasIt_7 : decode cX9_hasIt 7 = .ok (.iload_n 1, 1) := by decide +kernel
theorem dX9_hasIt_8 : decode cX9_hasIt 8 = .ok (.invokevirtual 359, 3) := by decide +kernel
theorem dX9_hasIt_11 : decode cX9_hasIt 11 = .ok (.iload_n 2, 1) := by decide +kernel
theorem dX9_hasIt_12 : decode cX9_hasIt 12 = .ok (.invokevirtual 379, 3) := by decide +kernel
theorem dX9_hasIt_15 : decode cX9_hasIt 15 = .ok (.istore_n 3, 1) := by decide +kernel
theorem dX9_hasIt_16 : decode cX9_hasIt 16 = .ok (.iload_n 3, 1) := by decide +kernel
theorem dX9_hasIt_17 : decode cX9_hasIt 17 = .ok (.ifCond .le 11, 3) := by decide +kernel
theorem dX9_hasIt_20 : decode cX9_hasIt 20 = .ok (.aload_n 0, 1) := by decide +kernel
theorem dX9_hasIt_21 : decode cX9_hasIt 21 = .ok (.iload_n 3, 1) := by decide +kernel
theorem dX9_hasIt_22 : decode cX9_hasIt 22 = .ok (.invokevirtual 51, 3) := by decide +kernel
theorem dX9_hasIt_25 : decode cX9_hasIt 25 = .ok (.goto 15, 3) := by decide +kernel
theorem dX9_hasIt_28 : decode cX9_hasIt 28 = .ok (.aload_n 0, 1) := by decide +kernel
theorem dX9_hasIt_29 : decode cX9_hasIt 29 = .ok (.aload_n 0, 1) := by decide +kernel
theorem dX9_hasIt_30 : decode cX9_hasIt 30 = .ok (.getfield 21, 3) := by decide +kernel
theorem dX9_hasIt_33 : decode cX9_hasIt 33 = .ok (.iconst 0, 1) := by decide +kernel
theorem dX9_hasIt_34 : decode cX9_hasIt 34 = .ok (.iload_n 1, 1) := by decide +kernel
theorem dX9_hasIt_35 : decode cX9_hasIt 35 = .ok (.iadd, 1) := by decide +kernel
theorem dX9_hasIt_36 : decode cX9_hasIt 36 = .ok (.iaload, 1) := by decide +kernel
theorem dX9_hasIt_37 : decode cX9_hasIt 37 = .ok (.invokevirtual 55, 3) := by decide +kernel
theorem dX9_hasIt_40 : decode cX9_hasIt 40 = .ok (.ireturn, 1) := by decide +kernel
theorem dX9_titleOf_0 : decode cX9_titleOf 0 = .ok (.aload_n 0, 1) := by decide +kernel
theorem dX9_titleOf_1 : decode cX9_titleOf 1 = .ok (.iconst 0, 1) := by decide +kernel
theorem dX9_titleOf_2 : decode cX9_titleOf 2 = .ok (.putfield 45, 3) := by decide +kernel
theorem dX9_titleOf_5 : decode cX9_titleOf 5 = .ok (.aload_n 0, 1) := by decide +kernel
theorem dX9_titleOf_6 : decode cX9_titleOf 6 = .ok (.aload_n 0, 1) := by decide +kernel
theorem dX9_titleOf_7 : decode cX9_titleOf 7 = .ok (.iload_n 1, 1) := by decide +kernel
theorem dX9_titleOf_8 : decode cX9_titleOf 8 = .ok (.invokevirtual 359, 3) := by decide +kernel
theorem dX9_titleOf_11 : decode cX9_titleOf 11 = .ok (.iload_n 2, 1) := by decide +kernel
theorem dX9_titleOf_12 : decode cX9_titleOf 12 = .ok (.invokevirtual 379, 3) := by decide +kernel
theorem dX9_titleOf_15 : decode cX9_titleOf 15 = .ok (.istore_n 3, 1) := by decide +kernel
theorem dX9_titleOf_16 : decode cX9_titleOf 16 = .ok (.iload_n 3, 1) := by decide +kernel
theorem dX9_titleOf_17 : decode cX9_titleOf 17 = .ok (.ifCond .le 11, 3) := by decide +kernel
theorem dX9_titleOf_20 : decode cX9_titleOf 20 = .ok (.aload_n 0, 1) := by decide +kernel
theorem dX9_titleOf_21 : decode cX9_titleOf 21 = .ok (.iload_n 3, 1) := by decide +kernel
theorem dX9_titleOf_22 : decode cX9_titleOf 22 = .ok (.invokevirtual 51, 3) := by decide +kernel
theorem dX9_titleOf_25 : decode cX9_titleOf 25 = .ok (.goto 15, 3) := by decide +kernel
theorem dX9_titleOf_28 : decode cX9_titleOf 28 = .ok (.aload_n 0, 1) := by decide +kernel
theorem dX9_titleOf_29 : decode cX9_titleOf 29 = .ok (.aload_n 0, 1) := by decide +kernel
theorem dX9_titleOf_30 : decode cX9_titleOf 30 = .ok (.getfield 21, 3) := by decide +kernel
theorem dX9_titleOf_33 : decode cX9_titleOf 33 = .ok (.iconst 5, 1) := by decide +kernel
theorem dX9_titleOf_34 : decode cX9_titleOf 34 = .ok (.iload_n 1, 1) := by decide +kernel
theorem dX9_titleOf_35 : decode cX9_titleOf 35 = .ok (.iadd, 1) := by decide +kernel
theorem dX9_titleOf_36 : decode cX9_titleOf 36 = .ok (.iaload, 1) := by decide +kernel
theorem dX9_titleOf_37 : decode cX9_titleOf 37 = .ok (.invokevirtual 55, 3) := by decide +kernel
theorem dX9_titleOf_40 : decode cX9_titleOf 40 = .ok (.ireturn, 1) := by decide +kernel
theorem dX9_landsOf_0 : decode cX9_landsOf 0 = .ok (.aload_n 0, 1) := by decide +kernel
theorem dX9_landsOf_1 : decode cX9_landsOf 1 = .ok (.iconst 0, 1) := by decide +kernel
theorem dX9_landsOf_2 : decode cX9_landsOf 2 = .ok (.putfield 45, 3) := by decide +kernel
theorem dX9_landsOf_5 : decode cX9_landsOf 5 = .ok (.aload_n 0, 1) := by decide +kernel
theorem dX9_landsOf_6 : decode cX9_landsOf 6 = .ok (.aload_n 0, 1) := by decide +kernel
theorem dX9_landsOf_7 : decode cX9_landsOf 7 = .ok (.iload_n 1, 1) := by decide +kernel
theorem dX9_landsOf_8 : decode cX9_landsOf 8 = .ok (.invokevirtual 362, 3) := by decide +kernel
theorem dX9_landsOf_11 : decode cX9_landsOf 11 = .ok (.iload_n 2, 1) := by decide +kernel
theorem dX9_landsOf_12 : decode cX9_landsOf 12 = .ok (.invokevirtual 379, 3) := by decide +kernel
theorem dX9_landsOf_15 : decode cX9_landsOf 15 = .ok (.istore_n 3, 1) := by decide +kernel
theorem dX9_landsOf_16 : decode cX9_landsOf 16 = .ok (.iload_n 3, 1) := by decide +kernel
theorem dX9_landsOf_17 : decode cX9_landsOf 17 = .ok (.ifCond .le 11, 3) := by decide +kernel
theorem dX9_landsOf_20 : decode cX9_landsOf 20 = .ok (.aload_n 0, 1) := by decide +kernel
theorem dX9_landsOf_21 : decode cX9_landsOf 21 = .ok (.iload_n 3, 1) := by decide +kernel
theorem dX9_landsOf_22 : decode cX9_landsOf 22 = .ok (.invokevirtual 51, 3) := by decide +kernel
theorem dX9_landsOf_25 : decode cX9_landsOf 25 = .ok (.goto 16, 3) := by decide +kernel
theorem dX9_landsOf_28 : decode cX9_landsOf 28 = .ok (.aload_n 0, 1) := by decide +kernel
theorem dX9_landsOf_29 : decode cX9_landsOf 29 = .ok (.aload_n 0, 1) := by decide +kernel
theorem dX9_landsOf_30 : decode cX9_landsOf 30 = .ok (.aload_n 0, 1) := by decide +kernel
theorem dX9_landsOf_31 : decode cX9_landsOf 31 = .ok (.getfield 21, 3) := by decide +kernel
theorem dX9_landsOf_34 : decode cX9_landsOf 34 = .ok (.iload_n 1, 1) := by decide +kernel
theorem dX9_landsOf_35 : decode cX9_landsOf 35 = .ok (.invokevirtual 365, 3) := by decide +kernel
theorem dX9_landsOf_38 : decode cX9_landsOf 38 = .ok (.invokevirtual 55, 3) := by decide +kernel
theorem dX9_landsOf_41 : decode cX9_landsOf 41 = .ok (.ireturn, 1) := by decide +kernel
theorem dX9_lapsed_0 : decode cX9_lapsed 0 = .ok (.aload_n 0, 1) := by decide +kernel
theorem dX9_lapsed_1 : decode cX9_lapsed 1 = .ok (.iconst 0, 1) := by decide +kernel
theorem dX9_lapsed_2 : decode cX9_lapsed 2 = .ok (.putfield 45, 3) := by decide +kernel
theorem dX9_lapsed_5 : decode cX9_lapsed 5 = .ok (.aload_n 0, 1) := by decide +kernel
theorem dX9_lapsed_6 : decode cX9_lapsed 6 = .ok (.aload_n 0, 1) := by decide +kernel
theorem dX9_lapsed_7 : decode cX9_lapsed 7 = .ok (.getfield 316, 3) := by decide +kernel
theorem dX9_lapsed_10 : decode cX9_lapsed 10 = .ok (.ifnull 7, 3) := by decide +kernel
theorem dX9_lapsed_13 : decode cX9_lapsed 13 = .ok (.iconst 1, 1) := by decide +kernel
theorem dX9_lapsed_14 : decode cX9_lapsed 14 = .ok (.goto 4, 3) := by decide +kernel
theorem dX9_lapsed_17 : decode cX9_lapsed 17 = .ok (.iconst 0, 1) := by decide +kernel
theorem dX9_lapsed_18 : decode cX9_lapsed 18 = .ok (.iload_n 1, 1) := by decide +kernel
theorem dX9_lapsed_19 : decode cX9_lapsed 19 = .ok (.invokevirtual 379, 3) := by decide +kernel
theorem dX9_lapsed_22 : decode cX9_lapsed 22 = .ok (.istore_n 2, 1) := by decide +kernel
theorem dX9_lapsed_23 : decode cX9_lapsed 23 = .ok (.iload_n 2, 1) := by decide +kernel
theorem dX9_lapsed_24 : decode cX9_lapsed 24 = .ok (.ifCond .le 11, 3) := by decide +kernel
theorem dX9_lapsed_27 : decode cX9_lapsed 27 = .ok (.aload_n 0, 1) := by decide +kernel
theorem dX9_lapsed_28 : decode cX9_lapsed 28 = .ok (.iload_n 2, 1) := by decide +kernel
theorem dX9_lapsed_29 : decode cX9_lapsed 29 = .ok (.invokevirtual 51, 3) := by decide +kernel
theorem dX9_lapsed_32 : decode cX9_lapsed 32 = .ok (.goto 17, 3) := by decide +kernel
theorem dX9_lapsed_35 : decode cX9_lapsed 35 = .ok (.aload_n 0, 1) := by decide +kernel
theorem dX9_lapsed_36 : decode cX9_lapsed 36 = .ok (.aload_n 0, 1) := by decide +kernel
theorem dX9_lapsed_37 : decode cX9_lapsed 37 = .ok (.aload_n 0, 1) := by decide +kernel
theorem dX9_lapsed_38 : decode cX9_lapsed 38 = .ok (.getfield 21, 3) := by decide +kernel
theorem dX9_lapsed_41 : decode cX9_lapsed 41 = .ok (.bipush (-2), 2) := by decide +kernel
theorem dX9_lapsed_43 : decode cX9_lapsed 43 = .ok (.invokevirtual 365, 3) := by decide +kernel
theorem dX9_lapsed_46 : decode cX9_lapsed 46 = .ok (.invokevirtual 55, 3) := by decide +kernel
theorem dX9_lapsed_49 : decode cX9_lapsed 49 = .ok (.ireturn, 1) := by decide +kernel
theorem dX9_passed_0 : decode cX9_passed 0 = .ok (.aload_n 0, 1) := by decide +kernel
theorem dX9_passed_1 : decode cX9_passed 1 = .ok (.iconst 0, 1) := by decide +kernel
theorem dX9_passed_2 : decode cX9_passed 2 = .ok (.putfield 45, 3) := by decide +kernel
theorem dX9_passed_5 : decode cX9_passed 5 = .ok (.aload_n 0, 1) := by decide +kernel
theorem dX9_passed_6 : decode cX9_passed 6 = .ok (.iload_n 1, 1) := by decide +kernel
theorem dX9_passed_7 : decode cX9_passed 7 = .ok (.invokevirtual 359, 3) := by decide +kernel
theorem dX9_passed_10 : decode cX9_passed 10 = .ok (.ifCond .ne 9, 3) := by decide +kernel
theorem dX9_passed_13 : decode cX9_passed 13 = .ok (.aload_n 0, 1) := by decide +kernel
theorem dX9_passed_14 : decode cX9_passed 14 = .ok (.iconst 1, 1) := by decide +kernel
theorem dX9_passed_15 : decode cX9_passed 15 = .ok (.invokevirtual 51, 3) := by decide +kernel
theorem dX9_passed_18 : decode cX9_passed 18 = .ok (.ireturn, 1) := by decide +kernel
theorem dX9_passed_19 : decode cX9_passed 19 = .ok (.iconst 0, 1) := by decide +kernel
theorem dX9_passed_20 : decode cX9_passed 20 = .ok (.istore_n 2, 1) := by decide +kernel
theorem dX9_passed_21 : decode cX9_passed 21 = .ok (.aload_n 0, 1) := by decide +kernel
theorem dX9_passed_22 : decode cX9_passed 22 = .ok (.aload_n 0, 1) := by decide +kernel
theorem dX9_passed_23 : decode cX9_passed 23 = .ok (.getfield 21, 3) := by decide +kernel
theorem dX9_passed_26 : decode cX9_passed 26 = .ok (.invokevirtual 318, 3) := by decide +kernel
theorem dX9_passed_29 : decode cX9_passed 29 = .ok (.iconst 0, 1) := by decide +kernel
theorem dX9_passed_30 : decode cX9_passed 30 = .ok (.istore_n 3, 1) := by decide +kernel
theorem dX9_passed_31 : decode cX9_passed 31 = .ok (.iload_n 3, 1) := by decide +kernel
theorem dX9_passed_32 : decode cX9_passed 32 = .ok (.bipush 41, 2) := by decide +kernel
theorem dX9_passed_34 : decode cX9_passed 34 = .ok (.if_icmp .ge 45, 3) := by decide +kernel
theorem dX9_passed_37 : decode cX9_passed 37 = .ok (.aload_n 0, 1) := by decide +kernel
theorem dX9_passed_38 : decode cX9_passed 38 = .ok (.getfield 21, 3) := by decide +kernel
theorem dX9_passed_41 : decode cX9_passed 41 = .ok (.iconst 5, 1) := by decide +kernel
theorem dX9_passed_42 : decode cX9_passed 42 = .ok (.iload_n 1, 1) := by decide +kernel
theorem dX9_passed_43 : decode cX9_passed 43 = .ok (.iadd, 1) := by decide +kernel
theorem dX9_passed_44 : decode cX9_passed 44 = .ok (.iaload, 1) := by decide +kernel
theorem dX9_passed_45 : decode cX9_passed 45 = .ok (.istore 4, 2) := by decide +kernel
theorem dX9_passed_47 : decode cX9_passed 47 = .ok (.aload_n 0, 1) := by decide +kernel
theorem dX9_passed_48 : decode cX9_passed 48 = .ok (.iload_n 3, 1) := by decide +kernel
theorem dX9_passed_49 : decode cX9_passed 49 = .ok (.invokevirtual 356, 3) := by decide +kernel
theorem dX9_passed_52 : decode cX9_passed 52 = .ok (.iload_n 2, 1) := by decide +kernel
theorem dX9_passed_53 : decode cX9_passed 53 = .ok (.aload_n 0, 1) := by decide +kernel
theorem dX9_passed_54 : decode cX9_passed 54 = .ok (.getfield 21, 3) := by decide +kernel
theorem dX9_passed_57 : decode cX9_passed 57 = .ok (.iconst 5, 1) := by decide +kernel
theorem dX9_passed_58 : decode cX9_passed 58 = .ok (.iload_n 1, 1) := by decide +kernel
theorem dX9_passed_59 : decode cX9_passed 59 = .ok (.iadd, 1) := by decide +kernel
theorem dX9_passed_60 : decode cX9_passed 60 = .ok (.iaload, 1) := by decide +kernel
theorem dX9_passed_61 : decode cX9_passed 61 = .ok (.iload 4, 2) := by decide +kernel
theorem dX9_passed_63 : decode cX9_passed 63 = .ok (.if_icmp .ne 7, 3) := by decide +kernel
theorem dX9_passed_66 : decode cX9_passed 66 = .ok (.iconst 0, 1) := by decide +kernel
theorem dX9_passed_67 : decode cX9_passed 67 = .ok (.goto 4, 3) := by decide +kernel
theorem dX9_passed_70 : decode cX9_passed 70 = .ok (.iconst 1, 1) := by decide +kernel
theorem dX9_passed_71 : decode cX9_passed 71 = .ok (.iadd, 1) := by decide +kernel
theorem dX9_passed_72 : decode cX9_passed 72 = .ok (.istore_n 2, 1) := by decide +kernel
theorem dX9_passed_73 : decode cX9_passed 73 = .ok (.iinc 3 1, 3) := by decide +kernel
theorem dX9_passed_76 : decode cX9_passed 76 = .ok (.goto (-45), 3) := by decide +kernel
theorem dX9_passed_79 : decode cX9_passed 79 = .ok (.aload_n 0, 1) := by decide +kernel
theorem dX9_passed_80 : decode cX9_passed 80 = .ok (.iload_n 2, 1) := by decide +kernel
theorem dX9_passed_81 : decode cX9_passed 81 = .ok (.invokevirtual 55, 3) := by decide +kernel
theorem dX9_passed_84 : decode cX9_passed 84 = .ok (.ireturn, 1) := by decide +kernel
theorem dX9_longest_0 : decode cX9_longest 0 = .ok (.aload_n 0, 1) := by decide +kernel
theorem dX9_longest_1 : decode cX9_longest 1 = .ok (.iconst 0, 1) := by decide +kernel
theorem dX9_longest_2 : decode cX9_longest 2 = .ok (.putfield 45, 3) := by decide +kernel
theorem dX9_longest_5 : decode cX9_longest 5 = .ok (.aload_n 0, 1) := by decide +kernel
theorem dX9_longest_6 : decode cX9_longest 6 = .ok (.iload_n 1, 1) := by decide +kernel
theorem dX9_longest_7 : decode cX9_longest 7 = .ok (.invokevirtual 359, 3) := by decide +kernel
theorem dX9_longest_10 : decode cX9_longest 10 = .ok (.ifCond .ne 9, 3) := by decide +kernel
theorem dX9_longest_13 : decode cX9_longest 13 = .ok (.aload_n 0, 1) := by decide +kernel
theorem dX9_longest_14 : decode cX9_longest 14 = .ok (.iconst 1, 1) := by decide +kernel
theorem dX9_longest_15 : decode cX9_longest 15 = .ok (.invokevirtual 51, 3) := by decide +kernel
theorem dX9_longest_18 : decode cX9_longest 18 = .ok (.ireturn, 1) := by decide +kernel
theorem dX9_longest_19 : decode cX9_longest 19 = .ok (.iconst 0, 1) := by decide +kernel
theorem dX9_longest_20 : decode cX9_longest 20 = .ok (.istore_n 2, 1) := by decide +kernel
theorem dX9_longest_21 : decode cX9_longest 21 = .ok (.iconst 0, 1) := by decide +kernel
theorem dX9_longest_22 : decode cX9_longest 22 = .ok (.istore_n 3, 1) := by decide +kernel
theorem dX9_longest_23 : decode cX9_longest 23 = .ok (.bipush (-2), 2) := by decide +kernel
theorem dX9_longest_25 : decode cX9_longest 25 = .ok (.istore 4, 2) := by decide +kernel
theorem dX9_longest_27 : decode cX9_longest 27 = .ok (.aload_n 0, 1) := by decide +kernel
theorem dX9_longest_28 : decode cX9_longest 28 = .ok (.aload_n 0, 1) := by decide +kernel
theorem dX9_longest_29 : decode cX9_longest 29 = .ok (.getfield 21, 3) := by decide +kernel
theorem dX9_longest_32 : decode cX9_longest 32 = .ok (.invokevirtual 318, 3) := by decide +kernel
theorem dX9_longest_35 : decode cX9_longest 35 = .ok (.iconst 0, 1) := by decide +kernel
theorem dX9_longest_36 : decode cX9_longest 36 = .ok (.istore 5, 2) := by decide +kernel
theorem dX9_longest_38 : decode cX9_longest 38 = .ok (.iload 5, 2) := by decide +kernel
theorem dX9_longest_40 : decode cX9_longest 40 = .ok (.bipush 41, 2) := by decide +kernel
theorem dX9_longest_42 : decode cX9_longest 42 = .ok (.if_icmp .ge 60, 3) := by decide +kernel
theorem dX9_longest_45 : decode cX9_longest 45 = .ok (.aload_n 0, 1) := by decide +kernel
theorem dX9_longest_46 : decode cX9_longest 46 = .ok (.iload 5, 2) := by decide +kernel
theorem dX9_longest_48 : decode cX9_longest 48 = .ok (.invokevirtual 356, 3) := by decide +kernel
theorem dX9_longest_51 : decode cX9_longest 51 = .ok (.aload_n 0, 1) := by decide +kernel
theorem dX9_longest_52 : decode cX9_longest 52 = .ok (.getfield 21, 3) := by decide +kernel
theorem dX9_longest_55 : decode cX9_longest 55 = .ok (.iconst 5, 1) := by decide +kernel
theorem dX9_longest_56 : decode cX9_longest 56 = .ok (.iload_n 1, 1) := by decide +kernel
theorem dX9_longest_57 : decode cX9_longest 57 = .ok (.iadd, 1) := by decide +kernel
theorem dX9_longest_58 : decode cX9_longest 58 = .ok (.iaload, 1) := by decide +kernel
theorem dX9_longest_59 : decode cX9_longest 59 = .ok (.iload 4, 2) := by decide +kernel
theorem dX9_longest_61 : decode cX9_longest 61 = .ok (.if_icmp .ne 9, 3) := by decide +kernel
theorem dX9_longest_64 : decode cX9_longest 64 = .ok (.iload_n 3, 1) := by decide +kernel
theorem dX9_longest_65 : decode cX9_longest 65 = .ok (.iconst 1, 1) := by decide +kernel
theorem dX9_longest_66 : decode cX9_longest 66 = .ok (.iadd, 1) := by decide +kernel
theorem dX9_longest_67 : decode cX9_longest 67 = .ok (.goto 4, 3) := by decide +kernel
theorem dX9_longest_70 : decode cX9_longest 70 = .ok (.iconst 1, 1) := by decide +kernel
theorem dX9_longest_71 : decode cX9_longest 71 = .ok (.istore_n 3, 1) := by decide +kernel
theorem dX9_longest_72 : decode cX9_longest 72 = .ok (.aload_n 0, 1) := by decide +kernel
theorem dX9_longest_73 : decode cX9_longest 73 = .ok (.getfield 21, 3) := by decide +kernel
theorem dX9_longest_76 : decode cX9_longest 76 = .ok (.iconst 5, 1) := by decide +kernel
theorem dX9_longest_77 : decode cX9_longest 77 = .ok (.iload_n 1, 1) := by decide +kernel
theorem dX9_longest_78 : decode cX9_longest 78 = .ok (.iadd, 1) := by decide +kernel
theorem dX9_longest_79 : decode cX9_longest 79 = .ok (.iaload, 1) := by decide +kernel
theorem dX9_longest_80 : decode cX9_longest 80 = .ok (.istore 4, 2) := by decide +kernel
theorem dX9_longest_82 : decode cX9_longest 82 = .ok (.iload 4, 2) := by decide +kernel
theorem dX9_longest_84 : decode cX9_longest 84 = .ok (.bipush (-2), 2) := by decide +kernel
theorem dX9_longest_86 : decode cX9_longest 86 = .ok (.if_icmp .eq 10, 3) := by decide +kernel
theorem dX9_longest_89 : decode cX9_longest 89 = .ok (.iload_n 3, 1) := by decide +kernel
theorem dX9_longest_90 : decode cX9_longest 90 = .ok (.iload_n 2, 1) := by decide +kernel
theorem dX9_longest_91 : decode cX9_longest 91 = .ok (.if_icmp .le 5, 3) := by decide +kernel
theorem dX9_longest_94 : decode cX9_longest 94 = .ok (.iload_n 3, 1) := by decide +kernel
theorem dX9_longest_95 : decode cX9_longest 95 = .ok (.istore_n 2, 1) := by decide +kernel
theorem dX9_longest_96 : decode cX9_longest 96 = .ok (.iinc 5 1, 3) := by decide +kernel
theorem dX9_longest_99 : decode cX9_longest 99 = .ok (.goto (-61), 3) := by decide +kernel
theorem dX9_longest_102 : decode cX9_longest 102 = .ok (.aload_n 0, 1) := by decide +kernel
theorem dX9_longest_103 : decode cX9_longest 103 = .ok (.iload_n 2, 1) := by decide +kernel
theorem dX9_longest_104 : decode cX9_longest 104 = .ok (.invokevirtual 55, 3) := by decide +kernel
theorem dX9_longest_107 : decode cX9_longest 107 = .ok (.ireturn, 1) := by decide +kernel
theorem dX9_worstDay_0 : decode cX9_worstDay 0 = .ok (.aload_n 0, 1) := by decide +kernel
theorem dX9_worstDay_1 : decode cX9_worstDay 1 = .ok (.iconst 0, 1) := by decide +kernel
theorem dX9_worstDay_2 : decode cX9_worstDay 2 = .ok (.putfield 45, 3) := by decide +kernel
theorem dX9_worstDay_5 : decode cX9_worstDay 5 = .ok (.aload_n 0, 1) := by decide +kernel
theorem dX9_worstDay_6 : decode cX9_worstDay 6 = .ok (.getfield 316, 3) := by decide +kernel
theorem dX9_worstDay_9 : decode cX9_worstDay 9 = .ok (.ifnonnull 9, 3) := by decide +kernel
theorem dX9_worstDay_12 : decode cX9_worstDay 12 = .ok (.aload_n 0, 1) := by decide +kernel
theorem dX9_worstDay_13 : decode cX9_worstDay 13 = .ok (.iconst 1, 1) := by decide +kernel
theorem dX9_worstDay_14 : decode cX9_worstDay 14 = .ok (.invokevirtual 51, 3) := by decide +kernel
theorem dX9_worstDay_17 : decode cX9_worstDay 17 = .ok (.ireturn, 1) := by decide +kernel
theorem dX9_worstDay_18 : decode cX9_worstDay 18 = .ok (.iconst 0, 1) := by decide +kernel
theorem dX9_worstDay_19 : decode cX9_worstDay 19 = .ok (.istore_n 1, 1) := by decide +kernel
theorem dX9_worstDay_20 : decode cX9_worstDay 20 = .ok (.iconst (-1), 1) := by decide +kernel
theorem dX9_worstDay_21 : decode cX9_worstDay 21 = .ok (.istore_n 2, 1) := by decide +kernel
theorem dX9_worstDay_22 : decode cX9_worstDay 22 = .ok (.aload_n 0, 1) := by decide +kernel
theorem dX9_worstDay_23 : decode cX9_worstDay 23 = .ok (.aload_n 0, 1) := by decide +kernel
theorem dX9_worstDay_24 : decode cX9_worstDay 24 = .ok (.getfield 21, 3) := by decide +kernel
theorem dX9_worstDay_27 : decode cX9_worstDay 27 = .ok (.invokevirtual 318, 3) := by decide +kernel
theorem dX9_worstDay_30 : decode cX9_worstDay 30 = .ok (.iconst 0, 1) := by decide +kernel
theorem dX9_worstDay_31 : decode cX9_worstDay 31 = .ok (.istore_n 3, 1) := by decide +kernel
theorem dX9_worstDay_32 : decode cX9_worstDay 32 = .ok (.iload_n 3, 1) := by decide +kernel
theorem dX9_worstDay_33 : decode cX9_worstDay 33 = .ok (.bipush 41, 2) := by decide +kernel
theorem dX9_worstDay_35 : decode cX9_worstDay 35 = .ok (.if_icmp .ge 44, 3) := by decide +kernel
theorem dX9_worstDay_38 : decode cX9_worstDay 38 = .ok (.aload_n 0, 1) := by decide +kernel
theorem dX9_worstDay_39 : decode cX9_worstDay 39 = .ok (.iload_n 3, 1) := by decide +kernel
theorem dX9_worstDay_40 : decode cX9_worstDay 40 = .ok (.invokevirtual 356, 3) := by decide +kernel
theorem dX9_worstDay_43 : decode cX9_worstDay 43 = .ok (.aload_n 0, 1) := by decide +kernel
theorem dX9_worstDay_44 : decode cX9_worstDay 44 = .ok (.aload_n 0, 1) := by decide +kernel
theorem dX9_worstDay_45 : decode cX9_worstDay 45 = .ok (.getfield 21, 3) := by decide +kernel
theorem dX9_worstDay_48 : decode cX9_worstDay 48 = .ok (.bipush (-2), 2) := by decide +kernel
theorem dX9_worstDay_50 : decode cX9_worstDay 50 = .ok (.invokevirtual 365, 3) := by decide +kernel
theorem dX9_worstDay_53 : decode cX9_worstDay 53 = .ok (.iload_n 2, 1) := by decide +kernel
theorem dX9_worstDay_54 : decode cX9_worstDay 54 = .ok (.if_icmp .gt 6, 3) := by decide +kernel
theorem dX9_worstDay_57 : decode cX9_worstDay 57 = .ok (.goto 16, 3) := by decide +kernel
theorem dX9_worstDay_60 : decode cX9_worstDay 60 = .ok (.aload_n 0, 1) := by decide +kernel
theorem dX9_worstDay_61 : decode cX9_worstDay 61 = .ok (.aload_n 0, 1) := by decide +kernel
theorem dX9_worstDay_62 : decode cX9_worstDay 62 = .ok (.getfield 21, 3) := by decide +kernel
theorem dX9_worstDay_65 : decode cX9_worstDay 65 = .ok (.bipush (-2), 2) := by decide +kernel
theorem dX9_worstDay_67 : decode cX9_worstDay 67 = .ok (.invokevirtual 365, 3) := by decide +kernel
theorem dX9_worstDay_70 : decode cX9_worstDay 70 = .ok (.istore_n 2, 1) := by decide +kernel
theorem dX9_worstDay_71 : decode cX9_worstDay 71 = .ok (.iload_n 3, 1) := by decide +kernel
theorem dX9_worstDay_72 : decode cX9_worstDay 72 = .ok (.istore_n 1, 1) := by decide +kernel
theorem dX9_worstDay_73 : decode cX9_worstDay 73 = .ok (.iinc 3 1, 3) := by decide +kernel
theorem dX9_worstDay_76 : decode cX9_worstDay 76 = .ok (.goto (-44), 3) := by decide +kernel
theorem dX9_worstDay_79 : decode cX9_worstDay 79 = .ok (.aload_n 0, 1) := by decide +kernel
theorem dX9_worstDay_80 : decode cX9_worstDay 80 = .ok (.iload_n 1, 1) := by decide +kernel
theorem dX9_worstDay_81 : decode cX9_worstDay 81 = .ok (.invokevirtual 55, 3) := by decide +kernel
theorem dX9_worstDay_84 : decode cX9_worstDay 84 = .ok (.ireturn, 1) := by decide +kernel
theorem dX9_wrongClaim_0 : decode cX9_wrongClaim 0 = .ok (.bipush 6, 2) := by decide +kernel
theorem dX9_wrongClaim_2 : decode cX9_wrongClaim 2 = .ok (.istore 4, 2) := by decide +kernel
theorem dX9_wrongClaim_4 : decode cX9_wrongClaim 4 = .ok (.aload_n 0, 1) := by decide +kernel
theorem dX9_wrongClaim_5 : decode cX9_wrongClaim 5 = .ok (.aload_n 0, 1) := by decide +kernel
theorem dX9_wrongClaim_6 : decode cX9_wrongClaim 6 = .ok (.getfield 21, 3) := by decide +kernel
theorem dX9_wrongClaim_9 : decode cX9_wrongClaim 9 = .ok (.invokevirtual 318, 3) := by decide +kernel
theorem dX9_wrongClaim_12 : decode cX9_wrongClaim 12 = .ok (.iconst 0, 1) := by decide +kernel
theorem dX9_wrongClaim_13 : decode cX9_wrongClaim 13 = .ok (.istore 5, 2) := by decide +kernel
theorem dX9_wrongClaim_15 : decode cX9_wrongClaim 15 = .ok (.iload 5, 2) := by decide +kernel
theorem dX9_wrongClaim_17 : decode cX9_wrongClaim 17 = .ok (.bipush 41, 2) := by decide +kernel
theorem dX9_wrongClaim_19 : decode cX9_wrongClaim 19 = .ok (.if_icmp .ge 107, 3) := by decide +kernel
theorem dX9_wrongClaim_22 : decode cX9_wrongClaim 22 = .ok (.iload 5, 2) := by decide +kernel
theorem dX9_wrongClaim_24 : decode cX9_wrongClaim 24 = .ok (.iload_n 1, 1) := by decide +kernel
theorem dX9_wrongClaim_25 : decode cX9_wrongClaim 25 = .ok (.if_icmp .ne 12, 3) := by decide +kernel
theorem dX9_wrongClaim_28 : decode cX9_wrongClaim 28 = .ok (.aload_n 0, 1) := by decide +kernel
theorem dX9_wrongClaim_29 : decode cX9_wrongClaim 29 = .ok (.getfield 21, 3) := by decide +kernel
theorem dX9_wrongClaim_32 : decode cX9_wrongClaim 32 = .ok (.iload_n 2, 1) := by decide +kernel
theorem dX9_wrongClaim_33 : decode cX9_wrongClaim 33 = .ok (.iload_n 3, 1) := by decide +kernel
theorem dX9_wrongClaim_34 : decode cX9_wrongClaim 34 = .ok (.invokestatic 345, 3) := by decide +kernel
theorem dX9_wrongClaim_37 : decode cX9_wrongClaim 37 = .ok (.aload_n 0, 1) := by decide +kernel
theorem dX9_wrongClaim_38 : decode cX9_wrongClaim 38 = .ok (.iload 5, 2) := by decide +kernel
theorem dX9_wrongClaim_40 : decode cX9_wrongClaim 40 = .ok (.invokevirtual 356, 3) := by decide +kernel
theorem dX9_wrongClaim_43 : decode cX9_wrongClaim 43 = .ok (.iconst 0, 1) := by decide +kernel
theorem dX9_wrongClaim_44 : decode cX9_wrongClaim 44 = .ok (.istore 6, 2) := by decide +kernel
theorem dX9_wrongClaim_46 : decode cX9_wrongClaim 46 = .ok (.iload 6, 2) := by decide +kernel
theorem dX9_wrongClaim_48 : decode cX9_wrongClaim 48 = .ok (.iload 4, 2) := by decide +kernel
theorem dX9_wrongClaim_50 : decode cX9_wrongClaim 50 = .ok (.if_icmp .ge 70, 3) := by decide +kernel
theorem dX9_wrongClaim_53 : decode cX9_wrongClaim 53 = .ok (.iload 6, 2) := by decide +kernel
theorem dX9_wrongClaim_55 : decode cX9_wrongClaim 55 = .ok (.aload_n 0, 1) := by decide +kernel
theorem dX9_wrongClaim_56 : decode cX9_wrongClaim 56 = .ok (.getfield 316, 3) := by decide +kernel
theorem dX9_wrongClaim_59 : decode cX9_wrongClaim 59 = .ok (.getfield 298, 3) := by decide +kernel
theorem dX9_wrongClaim_62 : decode cX9_wrongClaim 62 = .ok (.if_icmp .ge 58, 3) := by decide +kernel
theorem dX9_wrongClaim_65 : decode cX9_wrongClaim 65 = .ok (.aload_n 0, 1) := by decide +kernel
theorem dX9_wrongClaim_66 : decode cX9_wrongClaim 66 = .ok (.getfield 316, 3) := by decide +kernel
theorem dX9_wrongClaim_69 : decode cX9_wrongClaim 69 = .ok (.getfield 306, 3) := by decide +kernel
theorem dX9_wrongClaim_72 : decode cX9_wrongClaim 72 = .ok (.iload 6, 2) := by decide +kernel
theorem dX9_wrongClaim_74 : decode cX9_wrongClaim 74 = .ok (.iaload, 1) := by decide +kernel
theorem dX9_wrongClaim_75 : decode cX9_wrongClaim 75 = .ok (.iload 5, 2) := by decide +kernel
theorem dX9_wrongClaim_77 : decode cX9_wrongClaim 77 = .ok (.if_icmp .ne 37, 3) := by decide +kernel
theorem dX9_wrongClaim_80 : decode cX9_wrongClaim 80 = .ok (.aload_n 0, 1) := by decide +kernel
theorem dX9_wrongClaim_81 : decode cX9_wrongClaim 81 = .ok (.getfield 21, 3) := by decide +kernel
theorem dX9_wrongClaim_84 : decode cX9_wrongClaim 84 = .ok (.iconst 5, 1) := by decide +kernel
theorem dX9_wrongClaim_85 : decode cX9_wrongClaim 85 = .ok (.aload_n 0, 1) := by decide +kernel
theorem dX9_wrongClaim_86 : decode cX9_wrongClaim 86 = .ok (.getfield 316, 3) := by decide +kernel
theorem dX9_wrongClaim_89 : decode cX9_wrongClaim 89 = .ok (.getfield 303, 3) := by decide +kernel
theorem dX9_wrongClaim_92 : decode cX9_wrongClaim 92 = .ok (.iload 6, 2) := by decide +kernel
theorem dX9_wrongClaim_94 : decode cX9_wrongClaim 94 = .ok (.iaload, 1) := by decide +kernel
theorem dX9_wrongClaim_95 : decode cX9_wrongClaim 95 = .ok (.iadd, 1) := by decide +kernel
theorem dX9_wrongClaim_96 : decode cX9_wrongClaim 96 = .ok (.iaload, 1) := by decide +kernel
theorem dX9_wrongClaim_97 : decode cX9_wrongClaim 97 = .ok (.aload_n 0, 1) := by decide +kernel
theorem dX9_wrongClaim_98 : decode cX9_wrongClaim 98 = .ok (.getfield 316, 3) := by decide +kernel
theorem dX9_wrongClaim_101 : decode cX9_wrongClaim 101 = .ok (.getfield 300, 3) := by decide +kernel
theorem dX9_wrongClaim_104 : decode cX9_wrongClaim 104 = .ok (.iload 6, 2) := by decide +kernel
theorem dX9_wrongClaim_106 : decode cX9_wrongClaim 106 = .ok (.iaload, 1) := by decide +kernel
theorem dX9_wrongClaim_107 : decode cX9_wrongClaim 107 = .ok (.if_icmp .eq 7, 3) := by decide +kernel
theorem dX9_wrongClaim_110 : decode cX9_wrongClaim 110 = .ok (.iload 6, 2) := by decide +kernel
theorem dX9_wrongClaim_112 : decode cX9_wrongClaim 112 = .ok (.istore 4, 2) := by decide +kernel
theorem dX9_wrongClaim_114 : decode cX9_wrongClaim 114 = .ok (.iinc 6 1, 3) := by decide +kernel
theorem dX9_wrongClaim_117 : decode cX9_wrongClaim 117 = .ok (.goto (-71), 3) := by decide +kernel
theorem dX9_wrongClaim_120 : decode cX9_wrongClaim 120 = .ok (.iinc 5 1, 3) := by decide +kernel
theorem dX9_wrongClaim_123 : decode cX9_wrongClaim 123 = .ok (.goto (-108), 3) := by decide +kernel
theorem dX9_wrongClaim_126 : decode cX9_wrongClaim 126 = .ok (.iload 4, 2) := by decide +kernel
theorem dX9_wrongClaim_128 : decode cX9_wrongClaim 128 = .ok (.bipush 6, 2) := by decide +kernel
theorem dX9_wrongClaim_130 : decode cX9_wrongClaim 130 = .ok (.if_icmp .ne 8, 3) := by decide +kernel
theorem dX9_wrongClaim_133 : decode cX9_wrongClaim 133 = .ok (.bipush (-2), 2) := by decide +kernel
theorem dX9_wrongClaim_135 : decode cX9_wrongClaim 135 = .ok (.goto 5, 3) := by decide +kernel
theorem dX9_wrongClaim_138 : decode cX9_wrongClaim 138 = .ok (.iload 4, 2) := by decide +kernel
theorem dX9_wrongClaim_140 : decode cX9_wrongClaim 140 = .ok (.ireturn, 1) := by decide +kernel
theorem dX9_judge_0 : decode cX9_judge 0 = .ok (.aload_n 0, 1) := by decide +kernel
theorem dX9_judge_1 : decode cX9_judge 1 = .ok (.iconst 0, 1) := by decide +kernel
theorem dX9_judge_2 : decode cX9_judge 2 = .ok (.putfield 45, 3) := by decide +kernel
theorem dX9_judge_5 : decode cX9_judge 5 = .ok (.aload_n 0, 1) := by decide +kernel
theorem dX9_judge_6 : decode cX9_judge 6 = .ok (.getfield 316, 3) := by decide +kernel
theorem dX9_judge_9 : decode cX9_judge 9 = .ok (.ifnonnull 11, 3) := by decide +kernel
theorem dX9_judge_12 : decode cX9_judge 12 = .ok (.aload_n 0, 1) := by decide +kernel
theorem dX9_judge_13 : decode cX9_judge 13 = .ok (.iconst 1, 1) := by decide +kernel
theorem dX9_judge_14 : decode cX9_judge 14 = .ok (.invokevirtual 51, 3) := by decide +kernel
theorem dX9_judge_17 : decode cX9_judge 17 = .ok (.goto 14, 3) := by decide +kernel
theorem dX9_judge_20 : decode cX9_judge 20 = .ok (.aload_n 0, 1) := by decide +kernel
theorem dX9_judge_21 : decode cX9_judge 21 = .ok (.aload_n 0, 1) := by decide +kernel
theorem dX9_judge_22 : decode cX9_judge 22 = .ok (.iconst (-1), 1) := by decide +kernel
theorem dX9_judge_23 : decode cX9_judge 23 = .ok (.iconst 0, 1) := by decide +kernel
theorem dX9_judge_24 : decode cX9_judge 24 = .ok (.iconst 0, 1) := by decide +kernel
theorem dX9_judge_25 : decode cX9_judge 25 = .ok (.invokevirtual 383, 3) := by decide +kernel
theorem dX9_judge_28 : decode cX9_judge 28 = .ok (.invokevirtual 55, 3) := by decide +kernel
theorem dX9_judge_31 : decode cX9_judge 31 = .ok (.ireturn, 1) := by decide +kernel
theorem dX9_countsWays_0 : decode cX9_countsWays 0 = .ok (.iconst 0, 1) := by decide +kernel
theorem dX9_countsWays_1 : decode cX9_countsWays 1 = .ok (.istore_n 2, 1) := by decide +kernel
theorem dX9_countsWays_2 : decode cX9_countsWays 2 = .ok (.aload_n 0, 1) := by decide +kernel
theorem dX9_countsWays_3 : decode cX9_countsWays 3 = .ok (.iconst (-1), 1) := by decide +kernel
theorem dX9_countsWays_4 : decode cX9_countsWays 4 = .ok (.putfield 387, 3) := by decide +kernel
theorem dX9_countsWays_7 : decode cX9_countsWays 7 = .ok (.aload_n 0, 1) := by decide +kernel
theorem dX9_countsWays_8 : decode cX9_countsWays 8 = .ok (.iconst (-1), 1) := by decide +kernel
theorem dX9_countsWays_9 : decode cX9_countsWays 9 = .ok (.iconst 0, 1) := by decide +kernel
theorem dX9_countsWays_10 : decode cX9_countsWays 10 = .ok (.iconst 0, 1) := by decide +kernel
theorem dX9_countsWays_11 : decode cX9_countsWays 11 = .ok (.invokevirtual 383, 3) := by decide +kernel
theorem dX9_countsWays_14 : decode cX9_countsWays 14 = .ok (.bipush (-2), 2) := by decide +kernel
theorem dX9_countsWays_16 : decode cX9_countsWays 16 = .ok (.if_icmp .ne 16, 3) := by decide +kernel
theorem dX9_countsWays_19 : decode cX9_countsWays 19 = .ok (.iload_n 1, 1) := by decide +kernel
theorem dX9_countsWays_20 : decode cX9_countsWays 20 = .ok (.ifCond .ne 9, 3) := by decide +kernel
theorem dX9_countsWays_23 : decode cX9_countsWays 23 = .ok (.aload_n 0, 1) := by decide +kernel
theorem dX9_countsWays_24 : decode cX9_countsWays 24 = .ok (.bipush (-2), 2) := by decide +kernel
theorem dX9_countsWays_26 : decode cX9_countsWays 26 = .ok (.putfield 387, 3) := by decide +kernel
theorem dX9_countsWays_29 : decode cX9_countsWays 29 = .ok (.iinc 2 1, 3) := by decide +kernel
theorem dX9_countsWays_32 : decode cX9_countsWays 32 = .ok (.iconst 0, 1) := by decide +kernel
theorem dX9_countsWays_33 : decode cX9_countsWays 33 = .ok (.istore_n 3, 1) := by decide +kernel
theorem dX9_countsWays_34 : decode cX9_countsWays 34 = .ok (.iload_n 3, 1) := by decide +kernel
theorem dX9_countsWays_35 : decode cX9_countsWays 35 = .ok (.sipush 4100, 3) := by decide +kernel
theorem dX9_countsWays_38 : decode cX9_countsWays 38 = .ok (.if_icmp .ge 90, 3) := by decide +kernel
theorem dX9_countsWays_41 : decode cX9_countsWays 41 = .ok (.iload_n 3, 1) := by decide +kernel
theorem dX9_countsWays_42 : decode cX9_countsWays 42 = .ok (.bipush 10, 2) := by decide +kernel
theorem dX9_countsWays_44 : decode cX9_countsWays 44 = .ok (.idiv, 1) := by decide +kernel
theorem dX9_countsWays_45 : decode cX9_countsWays 45 = .ok (.bipush 10, 2) := by decide +kernel
theorem dX9_countsWays_47 : decode cX9_countsWays 47 = .ok (.irem, 1) := by decide +kernel
theorem dX9_countsWays_48 : decode cX9_countsWays 48 = .ok (.istore 4, 2) := by decide +kernel
theorem dX9_countsWays_50 : decode cX9_countsWays 50 = .ok (.iload_n 3, 1) := by decide +kernel
theorem dX9_countsWays_51 : decode cX9_countsWays 51 = .ok (.bipush 10, 2) := by decide +kernel
theorem dX9_countsWays_53 : decode cX9_countsWays 53 = .ok (.irem, 1) := by decide +kernel
theorem dX9_countsWays_54 : decode cX9_countsWays 54 = .ok (.istore 5, 2) := by decide +kernel
theorem dX9_countsWays_56 : decode cX9_countsWays 56 = .ok (.iload 4, 2) := by decide +kernel
theorem dX9_countsWays_58 : decode cX9_countsWays 58 = .ok (.iload 5, 2) := by decide +kernel
theorem dX9_countsWays_60 : decode cX9_countsWays 60 = .ok (.if_icmp .ge 62, 3) := by decide +kernel
theorem dX9_countsWays_63 : decode cX9_countsWays 63 = .ok (.iload 5, 2) := by decide +kernel
theorem dX9_countsWays_65 : decode cX9_countsWays 65 = .ok (.aload_n 0, 1) := by decide +kernel
theorem dX9_countsWays_66 : decode cX9_countsWays 66 = .ok (.getfield 316, 3) := by decide +kernel
theorem dX9_countsWays_69 : decode cX9_countsWays 69 = .ok (.getfield 194, 3) := by decide +kernel
theorem dX9_countsWays_72 : decode cX9_countsWays 72 = .ok (.if_icmp .ge 50, 3) := by decide +kernel
theorem dX9_countsWays_75 : decode cX9_countsWays 75 = .ok (.aload_n 0, 1) := by decide +kernel
theorem dX9_countsWays_76 : decode cX9_countsWays 76 = .ok (.getfield 316, 3) := by decide +kernel
theorem dX9_countsWays_79 : decode cX9_countsWays 79 = .ok (.iload 4, 2) := by decide +kernel
theorem dX9_countsWays_81 : decode cX9_countsWays 81 = .ok (.iload 5, 2) := by decide +kernel
theorem dX9_countsWays_83 : decode cX9_countsWays 83 = .ok (.invokevirtual 368, 3) := by decide +kernel
theorem dX9_countsWays_86 : decode cX9_countsWays 86 = .ok (.ifCond .eq 36, 3) := by decide +kernel
theorem dX9_countsWays_89 : decode cX9_countsWays 89 = .ok (.aload_n 0, 1) := by decide +kernel
theorem dX9_countsWays_90 : decode cX9_countsWays 90 = .ok (.iload_n 3, 1) := by decide +kernel
theorem dX9_countsWays_91 : decode cX9_countsWays 91 = .ok (.bipush 100, 2) := by decide +kernel
theorem dX9_countsWays_93 : decode cX9_countsWays 93 = .ok (.idiv, 1) := by decide +kernel
theorem dX9_countsWays_94 : decode cX9_countsWays 94 = .ok (.iload 4, 2) := by decide +kernel
theorem dX9_countsWays_96 : decode cX9_countsWays 96 = .ok (.iload 5, 2) := by decide +kernel
theorem dX9_countsWays_98 : decode cX9_countsWays 98 = .ok (.invokevirtual 383, 3) := by decide +kernel
theorem dX9_countsWays_101 : decode cX9_countsWays 101 = .ok (.bipush (-2), 2) := by decide +kernel
theorem dX9_countsWays_103 : decode cX9_countsWays 103 = .ok (.if_icmp .eq 6, 3) := by decide +kernel
theorem dX9_countsWays_106 : decode cX9_countsWays 106 = .ok (.goto 16, 3) := by decide +kernel
theorem dX9_countsWays_109 : decode cX9_countsWays 109 = .ok (.iload_n 2, 1) := by decide +kernel
theorem dX9_countsWays_110 : decode cX9_countsWays 110 = .ok (.iload_n 1, 1) := by decide +kernel
theorem dX9_countsWays_111 : decode cX9_countsWays 111 = .ok (.if_icmp .ne 8, 3) := by decide +kernel
theorem dX9_countsWays_114 : decode cX9_countsWays 114 = .ok (.aload_n 0, 1) := by decide +kernel
theorem dX9_countsWays_115 : decode cX9_countsWays 115 = .ok (.iload_n 3, 1) := by decide +kernel
theorem dX9_countsWays_116 : decode cX9_countsWays 116 = .ok (.putfield 387, 3) := by decide +kernel
theorem dX9_countsWays_119 : decode cX9_countsWays 119 = .ok (.iinc 2 1, 3) := by decide +kernel
theorem dX9_countsWays_122 : decode cX9_countsWays 122 = .ok (.iinc 3 1, 3) := by decide +kernel
theorem dX9_countsWays_125 : decode cX9_countsWays 125 = .ok (.goto (-91), 3) := by decide +kernel
theorem dX9_countsWays_128 : decode cX9_countsWays 128 = .ok (.iload_n 2, 1) := by decide +kernel
theorem dX9_countsWays_129 : decode cX9_countsWays 129 = .ok (.ireturn, 1) := by decide +kernel
theorem dX9_ways_0 : decode cX9_ways 0 = .ok (.aload_n 0, 1) := by decide +kernel
theorem dX9_ways_1 : decode cX9_ways 1 = .ok (.iconst 0, 1) := by decide +kernel
theorem dX9_ways_2 : decode cX9_ways 2 = .ok (.putfield 45, 3) := by decide +kernel
theorem dX9_ways_5 : decode cX9_ways 5 = .ok (.aload_n 0, 1) := by decide +kernel
theorem dX9_ways_6 : decode cX9_ways 6 = .ok (.getfield 316, 3) := by decide +kernel
theorem dX9_ways_9 : decode cX9_ways 9 = .ok (.ifnonnull 11, 3) := by decide +kernel
theorem dX9_ways_12 : decode cX9_ways 12 = .ok (.aload_n 0, 1) := by decide +kernel
theorem dX9_ways_13 : decode cX9_ways 13 = .ok (.iconst 1, 1) := by decide +kernel
theorem dX9_ways_14 : decode cX9_ways 14 = .ok (.invokevirtual 51, 3) := by decide +kernel
theorem dX9_ways_17 : decode cX9_ways 17 = .ok (.goto 12, 3) := by decide +kernel
theorem dX9_ways_20 : decode cX9_ways 20 = .ok (.aload_n 0, 1) := by decide +kernel
theorem dX9_ways_21 : decode cX9_ways 21 = .ok (.aload_n 0, 1) := by decide +kernel
theorem dX9_ways_22 : decode cX9_ways 22 = .ok (.iconst (-1), 1) := by decide +kernel
theorem dX9_ways_23 : decode cX9_ways 23 = .ok (.invokevirtual 390, 3) := by decide +kernel
theorem dX9_ways_26 : decode cX9_ways 26 = .ok (.invokevirtual 55, 3) := by decide +kernel
theorem dX9_ways_29 : decode cX9_ways 29 = .ok (.ireturn, 1) := by decide +kernel
theorem dX9_wayAt_0 : decode cX9_wayAt 0 = .ok (.aload_n 0, 1) := by decide +kernel
theorem dX9_wayAt_1 : decode cX9_wayAt 1 = .ok (.iconst 0, 1) := by decide +kernel
theorem dX9_wayAt_2 : decode cX9_wayAt 2 = .ok (.putfield 45, 3) := by decide +kernel
theorem dX9_wayAt_5 : decode cX9_wayAt 5 = .ok (.aload_n 0, 1) := by decide +kernel
theorem dX9_wayAt_6 : decode cX9_wayAt 6 = .ok (.getfield 316, 3) := by decide +kernel
theorem dX9_wayAt_9 : decode cX9_wayAt 9 = .ok (.ifnonnull 9, 3) := by decide +kernel
theorem dX9_wayAt_12 : decode cX9_wayAt 12 = .ok (.aload_n 0, 1) := by decide +kernel
theorem dX9_wayAt_13 : decode cX9_wayAt 13 = .ok (.iconst 1, 1) := by decide +kernel
theorem dX9_wayAt_14 : decode cX9_wayAt 14 = .ok (.invokevirtual 51, 3) := by decide +kernel
theorem dX9_wayAt_17 : decode cX9_wayAt 17 = .ok (.ireturn, 1) := by decide +kernel
theorem dX9_wayAt_18 : decode cX9_wayAt 18 = .ok (.iload_n 1, 1) := by decide +kernel
theorem dX9_wayAt_19 : decode cX9_wayAt 19 = .ok (.ifCond .lt 23, 3) := by decide +kernel
theorem dX9_wayAt_22 : decode cX9_wayAt 22 = .ok (.iload_n 1, 1) := by decide +kernel
theorem dX9_wayAt_23 : decode cX9_wayAt 23 = .ok (.aload_n 0, 1) := by decide +kernel
theorem dX9_wayAt_24 : decode cX9_wayAt 24 = .ok (.iload_n 1, 1) := by decide +kernel
theorem dX9_wayAt_25 : decode cX9_wayAt 25 = .ok (.invokevirtual 390, 3) := by decide +kernel
theorem dX9_wayAt_28 : decode cX9_wayAt 28 = .ok (.if_icmp .ge 14, 3) := by decide +kernel
theorem dX9_wayAt_31 : decode cX9_wayAt 31 = .ok (.aload_n 0, 1) := by decide +kernel
theorem dX9_wayAt_32 : decode cX9_wayAt 32 = .ok (.aload_n 0, 1) := by decide +kernel
theorem dX9_wayAt_33 : decode cX9_wayAt 33 = .ok (.getfield 387, 3) := by decide +kernel
theorem dX9_wayAt_36 : decode cX9_wayAt 36 = .ok (.invokevirtual 55, 3) := by decide +kernel
theorem dX9_wayAt_39 : decode cX9_wayAt 39 = .ok (.goto 8, 3) := by decide +kernel
theorem dX9_wayAt_42 : decode cX9_wayAt 42 = .ok (.aload_n 0, 1) := by decide +kernel
theorem dX9_wayAt_43 : decode cX9_wayAt 43 = .ok (.iconst 1, 1) := by decide +kernel
theorem dX9_wayAt_44 : decode cX9_wayAt 44 = .ok (.invokevirtual 51, 3) := by decide +kernel
theorem dX9_wayAt_47 : decode cX9_wayAt 47 = .ok (.ireturn, 1) := by decide +kernel
theorem dX9_owing_0 : decode cX9_owing 0 = .ok (.aload_n 0, 1) := by decide +kernel
theorem dX9_owing_1 : decode cX9_owing 1 = .ok (.iconst 0, 1) := by decide +kernel
theorem dX9_owing_2 : decode cX9_owing 2 = .ok (.putfield 45, 3) := by decide +kernel
theorem dX9_owing_5 : decode cX9_owing 5 = .ok (.aload_n 0, 1) := by decide +kernel
theorem dX9_owing_6 : decode cX9_owing 6 = .ok (.iload_n 1, 1) := by decide +kernel
theorem dX9_owing_7 : decode cX9_owing 7 = .ok (.invokevirtual 362, 3) := by decide +kernel
theorem dX9_owing_10 : decode cX9_owing 10 = .ok (.ifCond .eq 16, 3) := by decide +kernel
theorem dX9_owing_13 : decode cX9_owing 13 = .ok (.aload_n 0, 1) := by decide +kernel
theorem dX9_owing_14 : decode cX9_owing 14 = .ok (.iload_n 2, 1) := by decide +kernel
theorem dX9_owing_15 : decode cX9_owing 15 = .ok (.invokevirtual 362, 3) := by decide +kernel
theorem dX9_owing_18 : decode cX9_owing 18 = .ok (.ifCond .eq 8, 3) := by decide +kernel
theorem dX9_owing_21 : decode cX9_owing 21 = .ok (.iload_n 1, 1) := by decide +kernel
theorem dX9_owing_22 : decode cX9_owing 22 = .ok (.iload_n 2, 1) := by decide +kernel
theorem dX9_owing_23 : decode cX9_owing 23 = .ok (.if_icmp .ne 9, 3) := by decide +kernel
theorem dX9_owing_26 : decode cX9_owing 26 = .ok (.aload_n 0, 1) := by decide +kernel
theorem dX9_owing_27 : decode cX9_owing 27 = .ok (.iconst 1, 1) := by decide +kernel
theorem dX9_owing_28 : decode cX9_owing 28 = .ok (.invokevirtual 51, 3) := by decide +kernel
theorem dX9_owing_31 : decode cX9_owing 31 = .ok (.ireturn, 1) := by decide +kernel
theorem dX9_owing_32 : decode cX9_owing 32 = .ok (.iconst 0, 1) := by decide +kernel
theorem dX9_owing_33 : decode cX9_owing 33 = .ok (.istore_n 3, 1) := by decide +kernel
theorem dX9_owing_34 : decode cX9_owing 34 = .ok (.iconst 0, 1) := by decide +kernel
theorem dX9_owing_35 : decode cX9_owing 35 = .ok (.istore 4, 2) := by decide +kernel
theorem dX9_owing_37 : decode cX9_owing 37 = .ok (.iload 4, 2) := by decide +kernel
theorem dX9_owing_39 : decode cX9_owing 39 = .ok (.aload_n 0, 1) := by decide +kernel
theorem dX9_owing_40 : decode cX9_owing 40 = .ok (.getfield 316, 3) := by decide +kernel
theorem dX9_owing_43 : decode cX9_owing 43 = .ok (.getfield 194, 3) := by decide +kernel
theorem dX9_owing_46 : decode cX9_owing 46 = .ok (.if_icmp .ge 46, 3) := by decide +kernel
theorem dX9_owing_49 : decode cX9_owing 49 = .ok (.iload_n 3, 1) := by decide +kernel
theorem dX9_owing_50 : decode cX9_owing 50 = .ok (.aload_n 0, 1) := by decide +kernel
theorem dX9_owing_51 : decode cX9_owing 51 = .ok (.getfield 17, 3) := by decide +kernel
theorem dX9_owing_54 : decode cX9_owing 54 = .ok (.iconst 5, 1) := by decide +kernel
theorem dX9_owing_55 : decode cX9_owing 55 = .ok (.iload 4, 2) := by decide +kernel
theorem dX9_owing_57 : decode cX9_owing 57 = .ok (.iadd, 1) := by decide +kernel
theorem dX9_owing_58 : decode cX9_owing 58 = .ok (.iaload, 1) := by decide +kernel
theorem dX9_owing_59 : decode cX9_owing 59 = .ok (.iload_n 1, 1) := by decide +kernel
theorem dX9_owing_60 : decode cX9_owing 60 = .ok (.if_icmp .ne 23, 3) := by decide +kernel
theorem dX9_owing_63 : decode cX9_owing 63 = .ok (.aload_n 0, 1) := by decide +kernel
theorem dX9_owing_64 : decode cX9_owing 64 = .ok (.getfield 17, 3) := by decide +kernel
theorem dX9_owing_67 : decode cX9_owing 67 = .ok (.iconst 0, 1) := by decide +kernel
theorem dX9_owing_68 : decode cX9_owing 68 = .ok (.iload 4, 2) := by decide +kernel
theorem dX9_owing_70 : decode cX9_owing 70 = .ok (.iadd, 1) := by decide +kernel
theorem dX9_owing_71 : decode cX9_owing 71 = .ok (.iaload, 1) := by decide +kernel
theorem dX9_owing_72 : decode cX9_owing 72 = .ok (.iload_n 2, 1) := by decide +kernel
theorem dX9_owing_73 : decode cX9_owing 73 = .ok (.if_icmp .ne 10, 3) := by decide +kernel
theorem dX9_owing_76 : decode cX9_owing 76 = .ok (.iconst 1, 1) := by decide +kernel
theorem dX9_owing_77 : decode cX9_owing 77 = .ok (.iload 4, 2) := by decide +kernel
theorem dX9_owing_79 : decode cX9_owing 79 = .ok (.ishl, 1) := by decide +kernel
theorem dX9_owing_80 : decode cX9_owing 80 = .ok (.goto 4, 3) := by decide +kernel
theorem dX9_owing_83 : decode cX9_owing 83 = .ok (.iconst 0, 1) := by decide +kernel
theorem dX9_owing_84 : decode cX9_owing 84 = .ok (.ior, 1) := by decide +kernel
theorem dX9_owing_85 : decode cX9_owing 85 = .ok (.istore_n 3, 1) := by decide +kernel
theorem dX9_owing_86 : decode cX9_owing 86 = .ok (.iinc 4 1, 3) := by decide +kernel
theorem dX9_owing_89 : decode cX9_owing 89 = .ok (.goto (-52), 3) := by decide +kernel
theorem dX9_owing_92 : decode cX9_owing 92 = .ok (.aload_n 0, 1) := by decide +kernel
theorem dX9_owing_93 : decode cX9_owing 93 = .ok (.iload_n 3, 1) := by decide +kernel
theorem dX9_owing_94 : decode cX9_owing 94 = .ok (.invokevirtual 55, 3) := by decide +kernel
theorem dX9_owing_97 : decode cX9_owing 97 = .ok (.ireturn, 1) := by decide +kernel
theorem dX9_change_0 : decode cX9_change 0 = .ok (.aload_n 0, 1) := by decide +kernel
theorem dX9_change_1 : decode cX9_change 1 = .ok (.iconst 0, 1) := by decide +kernel
theorem dX9_change_2 : decode cX9_change 2 = .ok (.putfield 45, 3) := by decide +kernel
theorem dX9_change_5 : decode cX9_change 5 = .ok (.aload_n 0, 1) := by decide +kernel
theorem dX9_change_6 : decode cX9_change 6 = .ok (.iload_n 1, 1) := by decide +kernel
theorem dX9_change_7 : decode cX9_change 7 = .ok (.invokevirtual 362, 3) := by decide +kernel
theorem dX9_change_10 : decode cX9_change 10 = .ok (.ifCond .ne 13, 3) := by decide +kernel
theorem dX9_change_13 : decode cX9_change 13 = .ok (.aload_n 0, 1) := by decide +kernel
theorem dX9_change_14 : decode cX9_change 14 = .ok (.iconst 1, 1) := by decide +kernel
theorem dX9_change_15 : decode cX9_change 15 = .ok (.invokevirtual 51, 3) := by decide +kernel
theorem dX9_change_18 : decode cX9_change 18 = .ok (.pop, 1) := by decide +kernel
theorem dX9_change_19 : decode cX9_change 19 = .ok (.sipush (-1000), 3) := by decide +kernel
theorem dX9_change_22 : decode cX9_change 22 = .ok (.ireturn, 1) := by decide +kernel
theorem dX9_change_23 : decode cX9_change 23 = .ok (.aload_n 0, 1) := by decide +kernel
theorem dX9_change_24 : decode cX9_change 24 = .ok (.invokevirtual 393, 3) := by decide +kernel
theorem dX9_change_27 : decode cX9_change 27 = .ok (.aload_n 0, 1) := by decide +kernel
theorem dX9_change_28 : decode cX9_change 28 = .ok (.aload_n 0, 1) := by decide +kernel
theorem dX9_change_29 : decode cX9_change 29 = .ok (.getfield 21, 3) := by decide +kernel
theorem dX9_change_32 : decode cX9_change 32 = .ok (.iload_n 2, 1) := by decide +kernel
theorem dX9_change_33 : decode cX9_change 33 = .ok (.invokevirtual 352, 3) := by decide +kernel
theorem dX9_change_36 : decode cX9_change 36 = .ok (.aload_n 0, 1) := by decide +kernel
theorem dX9_change_37 : decode cX9_change 37 = .ok (.aload_n 0, 1) := by decide +kernel
theorem dX9_change_38 : decode cX9_change 38 = .ok (.aload_n 0, 1) := by decide +kernel
theorem dX9_change_39 : decode cX9_change 39 = .ok (.getfield 21, 3) := by decide +kernel
theorem dX9_change_42 : decode cX9_change 42 = .ok (.iload_n 1, 1) := by decide +kernel
theorem dX9_change_43 : decode cX9_change 43 = .ok (.invokevirtual 365, 3) := by decide +kernel
theorem dX9_change_46 : decode cX9_change 46 = .ok (.aload_n 0, 1) := by decide +kernel
theorem dX9_change_47 : decode cX9_change 47 = .ok (.aload_n 0, 1) := by decide +kernel
theorem dX9_change_48 : decode cX9_change 48 = .ok (.getfield 17, 3) := by decide +kernel
theorem dX9_change_51 : decode cX9_change 51 = .ok (.iload_n 1, 1) := by decide +kernel
theorem dX9_change_52 : decode cX9_change 52 = .ok (.invokevirtual 365, 3) := by decide +kernel
theorem dX9_change_55 : decode cX9_change 55 = .ok (.isub, 1) := by decide +kernel
theorem dX9_change_56 : decode cX9_change 56 = .ok (.invokevirtual 55, 3) := by decide +kernel
theorem dX9_change_59 : decode cX9_change 59 = .ok (.ireturn, 1) := by decide +kernel
theorem dX9_lapsesIn_0 : decode cX9_lapsesIn 0 = .ok (.aload_n 0, 1) := by decide +kernel
theorem dX9_lapsesIn_1 : decode cX9_lapsesIn 1 = .ok (.iconst 0, 1) := by decide +kernel
theorem dX9_lapsesIn_2 : decode cX9_lapsesIn 2 = .ok (.putfield 45, 3) := by decide +kernel
theorem dX9_lapsesIn_5 : decode cX9_lapsesIn 5 = .ok (.aload_n 0, 1) := by decide +kernel
theorem dX9_lapsesIn_6 : decode cX9_lapsesIn 6 = .ok (.iload_n 1, 1) := by decide +kernel
theorem dX9_lapsesIn_7 : decode cX9_lapsesIn 7 = .ok (.invokevirtual 359, 3) := by decide +kernel
theorem dX9_lapsesIn_10 : decode cX9_lapsesIn 10 = .ok (.ifCond .ne 9, 3) := by decide +kernel
theorem dX9_lapsesIn_13 : decode cX9_lapsesIn 13 = .ok (.aload_n 0, 1) := by decide +kernel
theorem dX9_lapsesIn_14 : decode cX9_lapsesIn 14 = .ok (.iconst 1, 1) := by decide +kernel
theorem dX9_lapsesIn_15 : decode cX9_lapsesIn 15 = .ok (.invokevirtual 51, 3) := by decide +kernel
theorem dX9_lapsesIn_18 : decode cX9_lapsesIn 18 = .ok (.ireturn, 1) := by decide +kernel
theorem dX9_lapsesIn_19 : decode cX9_lapsesIn 19 = .ok (.aload_n 0, 1) := by decide +kernel
theorem dX9_lapsesIn_20 : decode cX9_lapsesIn 20 = .ok (.invokevirtual 393, 3) := by decide +kernel
theorem dX9_lapsesIn_23 : decode cX9_lapsesIn 23 = .ok (.iconst 0, 1) := by decide +kernel
theorem dX9_lapsesIn_24 : decode cX9_lapsesIn 24 = .ok (.istore_n 2, 1) := by decide +kernel
theorem dX9_lapsesIn_25 : decode cX9_lapsesIn 25 = .ok (.iload_n 2, 1) := by decide +kernel
theorem dX9_lapsesIn_26 : decode cX9_lapsesIn 26 = .ok (.bipush 30, 2) := by decide +kernel
theorem dX9_lapsesIn_28 : decode cX9_lapsesIn 28 = .ok (.if_icmp .gt 37, 3) := by decide +kernel
theorem dX9_lapsesIn_31 : decode cX9_lapsesIn 31 = .ok (.aload_n 0, 1) := by decide +kernel
theorem dX9_lapsesIn_32 : decode cX9_lapsesIn 32 = .ok (.getfield 21, 3) := by decide +kernel
theorem dX9_lapsesIn_35 : decode cX9_lapsesIn 35 = .ok (.iconst 5, 1) := by decide +kernel
theorem dX9_lapsesIn_36 : decode cX9_lapsesIn 36 = .ok (.iload_n 1, 1) := by decide +kernel
theorem dX9_lapsesIn_37 : decode cX9_lapsesIn 37 = .ok (.iadd, 1) := by decide +kernel
theorem dX9_lapsesIn_38 : decode cX9_lapsesIn 38 = .ok (.iaload, 1) := by decide +kernel
theorem dX9_lapsesIn_39 : decode cX9_lapsesIn 39 = .ok (.bipush (-2), 2) := by decide +kernel
theorem dX9_lapsesIn_41 : decode cX9_lapsesIn 41 = .ok (.if_icmp .ne 9, 3) := by decide +kernel
theorem dX9_lapsesIn_44 : decode cX9_lapsesIn 44 = .ok (.aload_n 0, 1) := by decide +kernel
theorem dX9_lapsesIn_45 : decode cX9_lapsesIn 45 = .ok (.iload_n 2, 1) := by decide +kernel
theorem dX9_lapsesIn_46 : decode cX9_lapsesIn 46 = .ok (.invokevirtual 55, 3) := by decide +kernel
theorem dX9_lapsesIn_49 : decode cX9_lapsesIn 49 = .ok (.ireturn, 1) := by decide +kernel
theorem dX9_lapsesIn_50 : decode cX9_lapsesIn 50 = .ok (.aload_n 0, 1) := by decide +kernel
theorem dX9_lapsesIn_51 : decode cX9_lapsesIn 51 = .ok (.aload_n 0, 1) := by decide +kernel
theorem dX9_lapsesIn_52 : decode cX9_lapsesIn 52 = .ok (.getfield 21, 3) := by decide +kernel
theorem dX9_lapsesIn_55 : decode cX9_lapsesIn 55 = .ok (.iconst 0, 1) := by decide +kernel
theorem dX9_lapsesIn_56 : decode cX9_lapsesIn 56 = .ok (.invokevirtual 352, 3) := by decide +kernel
theorem dX9_lapsesIn_59 : decode cX9_lapsesIn 59 = .ok (.iinc 2 1, 3) := by decide +kernel
theorem dX9_lapsesIn_62 : decode cX9_lapsesIn 62 = .ok (.goto (-37), 3) := by decide +kernel
theorem dX9_lapsesIn_65 : decode cX9_lapsesIn 65 = .ok (.aload_n 0, 1) := by decide +kernel
theorem dX9_lapsesIn_66 : decode cX9_lapsesIn 66 = .ok (.bipush (-2), 2) := by decide +kernel
theorem dX9_lapsesIn_68 : decode cX9_lapsesIn 68 = .ok (.invokevirtual 55, 3) := by decide +kernel
theorem dX9_lapsesIn_71 : decode cX9_lapsesIn 71 = .ok (.ireturn, 1) := by decide +kernel
theorem dX9_canExchange_0 : decode cX9_canExchange 0 = .ok (.iload_n 2, 1) := by decide +kernel
theorem dX9_canExchange_1 : decode cX9_canExchange 1 = .ok (.iload_n 3, 1) := by decide +kernel
theorem dX9_canExchange_2 : decode cX9_canExchange 2 = .ok (.if_icmp .eq 20, 3) := by decide +kernel
theorem dX9_canExchange_5 : decode cX9_canExchange 5 = .ok (.aload_n 1, 1) := by decide +kernel
theorem dX9_canExchange_6 : decode cX9_canExchange 6 = .ok (.iconst 0, 1) := by decide +kernel
theorem dX9_canExchange_7 : decode cX9_canExchange 7 = .ok (.iload_n 2, 1) := by decide +kernel
theorem dX9_canExchange_8 : decode cX9_canExchange 8 = .ok (.iadd, 1) := by decide +kernel
theorem dX9_canExchange_9 : decode cX9_canExchange 9 = .ok (.iaload, 1) := by decide +kernel
theorem dX9_canExchange_10 : decode cX9_canExchange 10 = .ok (.aload_n 1, 1) := by decide +kernel
theorem dX9_canExchange_11 : decode cX9_canExchange 11 = .ok (.iconst 0, 1) := by decide +kernel
theorem dX9_canExchange_12 : decode cX9_canExchange 12 = .ok (.iload_n 3, 1) := by decide +kernel
theorem dX9_canExchange_13 : decode cX9_canExchange 13 = .ok (.iadd, 1) := by decide +kernel
theorem dX9_canExchange_14 : decode cX9_canExchange 14 = .ok (.iaload, 1) := by decide +kernel
theorem dX9_canExchange_15 : decode cX9_canExchange 15 = .ok (.if_icmp .eq 7, 3) := by decide +kernel
theorem dX9_canExchange_18 : decode cX9_canExchange 18 = .ok (.iconst 1, 1) := by decide +kernel
theorem dX9_canExchange_19 : decode cX9_canExchange 19 = .ok (.goto 4, 3) := by decide +kernel
theorem dX9_canExchange_22 : decode cX9_canExchange 22 = .ok (.iconst 0, 1) := by decide +kernel
theorem dX9_canExchange_23 : decode cX9_canExchange 23 = .ok (.ireturn, 1) := by decide +kernel
theorem dX9_seeks_0 : decode cX9_seeks 0 = .ok (.aload_n 0, 1) := by decide +kernel
theorem dX9_seeks_1 : decode cX9_seeks 1 = .ok (.iconst (-1), 1) := by decide +kernel
theorem dX9_seeks_2 : decode cX9_seeks 2 = .ok (.putfield 396, 3) := by decide +kernel
theorem dX9_seeks_5 : decode cX9_seeks 5 = .ok (.iconst 0, 1) := by decide +kernel
theorem dX9_seeks_6 : decode cX9_seeks 6 = .ok (.istore_n 1, 1) := by decide +kernel
theorem dX9_seeks_7 : decode cX9_seeks 7 = .ok (.iload_n 1, 1) := by decide +kernel
theorem dX9_seeks_8 : decode cX9_seeks 8 = .ok (.iconst 3, 1) := by decide +kernel
theorem dX9_seeks_9 : decode cX9_seeks 9 = .ok (.if_icmp .gt 61, 3) := by decide +kernel
theorem dX9_seeks_12 : decode cX9_seeks 12 = .ok (.iconst 0, 1) := by decide +kernel
theorem dX9_seeks_13 : decode cX9_seeks 13 = .ok (.istore_n 2, 1) := by decide +kernel
theorem dX9_seeks_14 : decode cX9_seeks 14 = .ok (.iload_n 2, 1) := by decide +kernel
theorem dX9_seeks_15 : decode cX9_seeks 15 = .ok (.iload_n 1, 1) := by decide +kernel
theorem dX9_seeks_16 : decode cX9_seeks 16 = .ok (.if_icmp .ge 16, 3) := by decide +kernel
theorem dX9_seeks_19 : decode cX9_seeks 19 = .ok (.aload_n 0, 1) := by decide +kernel
theorem dX9_seeks_20 : decode cX9_seeks 20 = .ok (.getfield 30, 3) := by decide +kernel
theorem dX9_seeks_23 : decode cX9_seeks 23 = .ok (.iload_n 2, 1) := by decide +kernel
theorem dX9_seeks_24 : decode cX9_seeks 24 = .ok (.iconst 0, 1) := by decide +kernel
theorem dX9_seeks_25 : decode cX9_seeks 25 = .ok (.iastore, 1) := by decide +kernel
theorem dX9_seeks_26 : decode cX9_seeks 26 = .ok (.iinc 2 1, 3) := by decide +kernel
theorem dX9_seeks_29 : decode cX9_seeks 29 = .ok (.goto (-15), 3) := by decide +kernel
theorem dX9_seeks_32 : decode cX9_seeks 32 = .ok (.iconst 1, 1) := by decide +kernel
theorem dX9_seeks_33 : decode cX9_seeks 33 = .ok (.istore_n 2, 1) := by decide +kernel
theorem dX9_seeks_34 : decode cX9_seeks 34 = .ok (.iload_n 2, 1) := by decide +kernel
theorem dX9_seeks_35 : decode cX9_seeks 35 = .ok (.ifCond .eq 29, 3) := by decide +kernel
theorem dX9_seeks_38 : decode cX9_seeks 38 = .ok (.aload_n 0, 1) := by decide +kernel
theorem dX9_seeks_39 : decode cX9_seeks 39 = .ok (.invokevirtual 393, 3) := by decide +kernel
theorem dX9_seeks_42 : decode cX9_seeks 42 = .ok (.aload_n 0, 1) := by decide +kernel
theorem dX9_seeks_43 : decode cX9_seeks 43 = .ok (.iload_n 1, 1) := by decide +kernel
theorem dX9_seeks_44 : decode cX9_seeks 44 = .ok (.invokevirtual 399, 3) := by decide +kernel
theorem dX9_seeks_47 : decode cX9_seeks 47 = .ok (.ifCond .eq 8, 3) := by decide +kernel
theorem dX9_seeks_50 : decode cX9_seeks 50 = .ok (.aload_n 0, 1) := by decide +kernel
theorem dX9_seeks_51 : decode cX9_seeks 51 = .ok (.iload_n 1, 1) := by decide +kernel
theorem dX9_seeks_52 : decode cX9_seeks 52 = .ok (.invokevirtual 402, 3) := by decide +kernel
theorem dX9_seeks_55 : decode cX9_seeks 55 = .ok (.aload_n 0, 1) := by decide +kernel
theorem dX9_seeks_56 : decode cX9_seeks 56 = .ok (.iload_n 1, 1) := by decide +kernel
theorem dX9_seeks_57 : decode cX9_seeks 57 = .ok (.invokevirtual 405, 3) := by decide +kernel
theorem dX9_seeks_60 : decode cX9_seeks 60 = .ok (.istore_n 2, 1) := by decide +kernel
theorem dX9_seeks_61 : decode cX9_seeks 61 = .ok (.goto (-27), 3) := by decide +kernel
theorem dX9_seeks_64 : decode cX9_seeks 64 = .ok (.iinc 1 1, 3) := by decide +kernel
theorem dX9_seeks_67 : decode cX9_seeks 67 = .ok (.goto (-60), 3) := by decide +kernel
theorem dX9_seeks_70 : decode cX9_seeks 70 = .ok (.return_, 1) := by decide +kernel
theorem dX9_takes_0 : decode cX9_takes 0 = .ok (.aload_n 0, 1) := by decide +kernel
theorem dX9_takes_1 : decode cX9_takes 1 = .ok (.aload_n 0, 1) := by decide +kernel
theorem dX9_takes_2 : decode cX9_takes 2 = .ok (.getfield 21, 3) := by decide +kernel
theorem dX9_takes_5 : decode cX9_takes 5 = .ok (.invokevirtual 372, 3) := by decide +kernel
theorem dX9_takes_8 : decode cX9_takes 8 = .ok (.invokestatic 342, 3) := by decide +kernel
theorem dX9_takes_11 : decode cX9_takes 11 = .ok (.istore_n 2, 1) := by decide +kernel
theorem dX9_takes_12 : decode cX9_takes 12 = .ok (.iload_n 2, 1) := by decide +kernel
theorem dX9_takes_13 : decode cX9_takes 13 = .ok (.aload_n 0, 1) := by decide +kernel
theorem dX9_takes_14 : decode cX9_takes 14 = .ok (.getfield 396, 3) := by decide +kernel
theorem dX9_takes_17 : decode cX9_takes 17 = .ok (.if_icmp .gt 4, 3) := by decide +kernel
theorem dX9_takes_20 : decode cX9_takes 20 = .ok (.return_, 1) := by decide +kernel
theorem dX9_takes_21 : decode cX9_takes 21 = .ok (.aload_n 0, 1) := by decide +kernel
theorem dX9_takes_22 : decode cX9_takes 22 = .ok (.iload_n 2, 1) := by decide +kernel
theorem dX9_takes_23 : decode cX9_takes 23 = .ok (.putfield 396, 3) := by decide +kernel
theorem dX9_takes_26 : decode cX9_takes 26 = .ok (.aload_n 0, 1) := by decide +kernel
theorem dX9_takes_27 : decode cX9_takes 27 = .ok (.iload_n 1, 1) := by decide +kernel
theorem dX9_takes_28 : decode cX9_takes 28 = .ok (.putfield 408, 3) := by decide +kernel
theorem dX9_takes_31 : decode cX9_takes 31 = .ok (.iconst 0, 1) := by decide +kernel
theorem dX9_takes_32 : decode cX9_takes 32 = .ok (.istore_n 3, 1) := by decide +kernel
theorem dX9_takes_33 : decode cX9_takes 33 = .ok (.iload_n 3, 1) := by decide +kernel
theorem dX9_takes_34 : decode cX9_takes 34 = .ok (.iload_n 1, 1) := by decide +kernel
theorem dX9_takes_35 : decode cX9_takes 35 = .ok (.if_icmp .ge 21, 3) := by decide +kernel
theorem dX9_takes_38 : decode cX9_takes 38 = .ok (.aload_n 0, 1) := by decide +kernel
theorem dX9_takes_39 : decode cX9_takes 39 = .ok (.getfield 33, 3) := by decide +kernel
theorem dX9_takes_42 : decode cX9_takes 42 = .ok (.iload_n 3, 1) := by decide +kernel
theorem dX9_takes_43 : decode cX9_takes 43 = .ok (.aload_n 0, 1) := by decide +kernel
theorem dX9_takes_44 : decode cX9_takes 44 = .ok (.getfield 30, 3) := by decide +kernel
theorem dX9_takes_47 : decode cX9_takes 47 = .ok (.iload_n 3, 1) := by decide +kernel
theorem dX9_takes_48 : decode cX9_takes 48 = .ok (.iaload, 1) := by decide +kernel
theorem dX9_takes_49 : decode cX9_takes 49 = .ok (.iastore, 1) := by decide +kernel
theorem dX9_takes_50 : decode cX9_takes 50 = .ok (.iinc 3 1, 3) := by decide +kernel
theorem dX9_takes_53 : decode cX9_takes 53 = .ok (.goto (-20), 3) := by decide +kernel
theorem dX9_takes_56 : decode cX9_takes 56 = .ok (.return_, 1) := by decide +kernel
theorem dX9_isDone_0 : decode cX9_isDone 0 = .ok (.iconst 0, 1) := by decide +kernel
theorem dX9_isDone_1 : decode cX9_isDone 1 = .ok (.istore_n 2, 1) := by decide +kernel
theorem dX9_isDone_2 : decode cX9_isDone 2 = .ok (.iload_n 2, 1) := by decide +kernel
theorem dX9_isDone_3 : decode cX9_isDone 3 = .ok (.iload_n 1, 1) := by decide +kernel
theorem dX9_isDone_4 : decode cX9_isDone 4 = .ok (.if_icmp .ge 74, 3) := by decide +kernel
theorem dX9_isDone_7 : decode cX9_isDone 7 = .ok (.aload_n 0, 1) := by decide +kernel
theorem dX9_isDone_8 : decode cX9_isDone 8 = .ok (.getfield 30, 3) := by decide +kernel
theorem dX9_isDone_11 : decode cX9_isDone 11 = .ok (.iload_n 2, 1) := by decide +kernel
theorem dX9_isDone_12 : decode cX9_isDone 12 = .ok (.iaload, 1) := by decide +kernel
theorem dX9_isDone_13 : decode cX9_isDone 13 = .ok (.bipush 10, 2) := by decide +kernel
theorem dX9_isDone_15 : decode cX9_isDone 15 = .ok (.idiv, 1) := by decide +kernel
theorem dX9_isDone_16 : decode cX9_isDone 16 = .ok (.istore_n 3, 1) := by decide +kernel
theorem dX9_isDone_17 : decode cX9_isDone 17 = .ok (.aload_n 0, 1) := by decide +kernel
theorem dX9_isDone_18 : decode cX9_isDone 18 = .ok (.getfield 30, 3) := by decide +kernel
theorem dX9_isDone_21 : decode cX9_isDone 21 = .ok (.iload_n 2, 1) := by decide +kernel
theorem dX9_isDone_22 : decode cX9_isDone 22 = .ok (.iaload, 1) := by decide +kernel
theorem dX9_isDone_23 : decode cX9_isDone 23 = .ok (.bipush 10, 2) := by decide +kernel
theorem dX9_isDone_25 : decode cX9_isDone 25 = .ok (.irem, 1) := by decide +kernel
theorem dX9_isDone_26 : decode cX9_isDone 26 = .ok (.istore 4, 2) := by decide +kernel
theorem dX9_isDone_28 : decode cX9_isDone 28 = .ok (.iload_n 3, 1) := by decide +kernel
theorem dX9_isDone_29 : decode cX9_isDone 29 = .ok (.iload 4, 2) := by decide +kernel
theorem dX9_isDone_31 : decode cX9_isDone 31 = .ok (.if_icmp .ge 29, 3) := by decide +kernel
theorem dX9_isDone_34 : decode cX9_isDone 34 = .ok (.iload 4, 2) := by decide +kernel
theorem dX9_isDone_36 : decode cX9_isDone 36 = .ok (.aload_n 0, 1) := by decide +kernel
theorem dX9_isDone_37 : decode cX9_isDone 37 = .ok (.getfield 316, 3) := by decide +kernel
theorem dX9_isDone_40 : decode cX9_isDone 40 = .ok (.getfield 194, 3) := by decide +kernel
theorem dX9_isDone_43 : decode cX9_isDone 43 = .ok (.if_icmp .ge 17, 3) := by decide +kernel
theorem dX9_isDone_46 : decode cX9_isDone 46 = .ok (.aload_n 0, 1) := by decide +kernel
theorem dX9_isDone_47 : decode cX9_isDone 47 = .ok (.aload_n 0, 1) := by decide +kernel
theorem dX9_isDone_48 : decode cX9_isDone 48 = .ok (.getfield 21, 3) := by decide +kernel
theorem dX9_isDone_51 : decode cX9_isDone 51 = .ok (.iload_n 3, 1) := by decide +kernel
theorem dX9_isDone_52 : decode cX9_isDone 52 = .ok (.iload 4, 2) := by decide +kernel
theorem dX9_isDone_54 : decode cX9_isDone 54 = .ok (.invokevirtual 411, 3) := by decide +kernel
theorem dX9_isDone_57 : decode cX9_isDone 57 = .ok (.ifCond .ne 5, 3) := by decide +kernel
theorem dX9_isDone_60 : decode cX9_isDone 60 = .ok (.iconst 0, 1) := by decide +kernel
theorem dX9_isDone_61 : decode cX9_isDone 61 = .ok (.ireturn, 1) := by decide +kernel
theorem dX9_isDone_62 : decode cX9_isDone 62 = .ok (.aload_n 0, 1) := by decide +kernel
theorem dX9_isDone_63 : decode cX9_isDone 63 = .ok (.getfield 21, 3) := by decide +kernel
theorem dX9_isDone_66 : decode cX9_isDone 66 = .ok (.iload_n 3, 1) := by decide +kernel
theorem dX9_isDone_67 : decode cX9_isDone 67 = .ok (.iload 4, 2) := by decide +kernel
theorem dX9_isDone_69 : decode cX9_isDone 69 = .ok (.invokestatic 345, 3) := by decide +kernel
theorem dX9_isDone_72 : decode cX9_isDone 72 = .ok (.iinc 2 1, 3) := by decide +kernel
theorem dX9_isDone_75 : decode cX9_isDone 75 = .ok (.goto (-73), 3) := by decide +kernel
theorem dX9_isDone_78 : decode cX9_isDone 78 = .ok (.iconst 1, 1) := by decide +kernel
theorem dX9_isDone_79 : decode cX9_isDone 79 = .ok (.ireturn, 1) := by decide +kernel
theorem dX9_nextRow_0 : decode cX9_nextRow 0 = .ok (.iload_n 1, 1) := by decide +kernel
theorem dX9_nextRow_1 : decode cX9_nextRow 1 = .ok (.iconst 1, 1) := by decide +kernel
theorem dX9_nextRow_2 : decode cX9_nextRow 2 = .ok (.isub, 1) := by decide +kernel
theorem dX9_nextRow_3 : decode cX9_nextRow 3 = .ok (.istore_n 2, 1) := by decide +kernel
theorem dX9_nextRow_4 : decode cX9_nextRow 4 = .ok (.iload_n 2, 1) := by decide +kernel
theorem dX9_nextRow_5 : decode cX9_nextRow 5 = .ok (.ifCond .lt 39, 3) := by decide +kernel
theorem dX9_nextRow_8 : decode cX9_nextRow 8 = .ok (.aload_n 0, 1) := by decide +kernel
theorem dX9_nextRow_9 : decode cX9_nextRow 9 = .ok (.getfield 30, 3) := by decide +kernel
theorem dX9_nextRow_12 : decode cX9_nextRow 12 = .ok (.iload_n 2, 1) := by decide +kernel
theorem dX9_nextRow_13 : decode cX9_nextRow 13 = .ok (.dup2, 1) := by decide +kernel
theorem dX9_nextRow_14 : decode cX9_nextRow 14 = .ok (.iaload, 1) := by decide +kernel
theorem dX9_nextRow_15 : decode cX9_nextRow 15 = .ok (.iconst 1, 1) := by decide +kernel
theorem dX9_nextRow_16 : decode cX9_nextRow 16 = .ok (.iadd, 1) := by decide +kernel
theorem dX9_nextRow_17 : decode cX9_nextRow 17 = .ok (.iastore, 1) := by decide +kernel
theorem dX9_nextRow_18 : decode cX9_nextRow 18 = .ok (.aload_n 0, 1) := by decide +kernel
theorem dX9_nextRow_19 : decode cX9_nextRow 19 = .ok (.getfield 30, 3) := by decide +kernel
theorem dX9_nextRow_22 : decode cX9_nextRow 22 = .ok (.iload_n 2, 1) := by decide +kernel
theorem dX9_nextRow_23 : decode cX9_nextRow 23 = .ok (.iaload, 1) := by decide +kernel
theorem dX9_nextRow_24 : decode cX9_nextRow 24 = .ok (.bipush 50, 2) := by decide +kernel
theorem dX9_nextRow_26 : decode cX9_nextRow 26 = .ok (.if_icmp .ge 5, 3) := by decide +kernel
theorem dX9_nextRow_29 : decode cX9_nextRow 29 = .ok (.iconst 1, 1) := by decide +kernel
theorem dX9_nextRow_30 : decode cX9_nextRow 30 = .ok (.ireturn, 1) := by decide +kernel
theorem dX9_nextRow_31 : decode cX9_nextRow 31 = .ok (.aload_n 0, 1) := by decide +kernel
theorem dX9_nextRow_32 : decode cX9_nextRow 32 = .ok (.getfield 30, 3) := by decide +kernel
theorem dX9_nextRow_35 : decode cX9_nextRow 35 = .ok (.iload_n 2, 1) := by decide +kernel
theorem dX9_nextRow_36 : decode cX9_nextRow 36 = .ok (.iconst 0, 1) := by decide +kernel
theorem dX9_nextRow_37 : decode cX9_nextRow 37 = .ok (.iastore, 1) := by decide +kernel
theorem dX9_nextRow_38 : decode cX9_nextRow 38 = .ok (.iinc 2 (-1), 3) := by decide +kernel
theorem dX9_nextRow_41 : decode cX9_nextRow 41 = .ok (.goto (-37), 3) := by decide +kernel
theorem dX9_nextRow_44 : decode cX9_nextRow 44 = .ok (.iconst 0, 1) := by decide +kernel
theorem dX9_nextRow_45 : decode cX9_nextRow 45 = .ok (.ireturn, 1) := by decide +kernel
theorem dX9_putRight_0 : decode cX9_putRight 0 = .ok (.aload_n 0, 1) := by decide +kernel
theorem dX9_putRight_1 : decode cX9_putRight 1 = .ok (.iconst 0, 1) := by decide +kernel
theorem dX9_putRight_2 : decode cX9_putRight 2 = .ok (.putfield 45, 3) := by decide +kernel
theorem dX9_putRight_5 : decode cX9_putRight 5 = .ok (.aload_n 0, 1) := by decide +kernel
theorem dX9_putRight_6 : decode cX9_putRight 6 = .ok (.getfield 316, 3) := by decide +kernel
theorem dX9_putRight_9 : decode cX9_putRight 9 = .ok (.ifnonnull 9, 3) := by decide +kernel
theorem dX9_putRight_12 : decode cX9_putRight 12 = .ok (.aload_n 0, 1) := by decide +kernel
theorem dX9_putRight_13 : decode cX9_putRight 13 = .ok (.iconst 1, 1) := by decide +kernel
theorem dX9_putRight_14 : decode cX9_putRight 14 = .ok (.invokevirtual 51, 3) := by decide +kernel
theorem dX9_putRight_17 : decode cX9_putRight 17 = .ok (.ireturn, 1) := by decide +kernel
theorem dX9_putRight_18 : decode cX9_putRight 18 = .ok (.aload_n 0, 1) := by decide +kernel
theorem dX9_putRight_19 : decode cX9_putRight 19 = .ok (.invokevirtual 415, 3) := by decide +kernel
theorem dX9_putRight_22 : decode cX9_putRight 22 = .ok (.aload_n 0, 1) := by decide +kernel
theorem dX9_putRight_23 : decode cX9_putRight 23 = .ok (.aload_n 0, 1) := by decide +kernel
theorem dX9_putRight_24 : decode cX9_putRight 24 = .ok (.getfield 396, 3) := by decide +kernel
theorem dX9_putRight_27 : decode cX9_putRight 27 = .ok (.invokevirtual 55, 3) := by decide +kernel
theorem dX9_putRight_30 : decode cX9_putRight 30 = .ok (.ireturn, 1) := by decide +kernel
theorem dX9_exchanges_0 : decode cX9_exchanges 0 = .ok (.aload_n 0, 1) := by decide +kernel
theorem dX9_exchanges_1 : decode cX9_exchanges 1 = .ok (.iconst 0, 1) := by decide +kernel
theorem dX9_exchanges_2 : decode cX9_exchanges 2 = .ok (.putfield 45, 3) := by decide +kernel
theorem dX9_exchanges_5 : decode cX9_exchanges 5 = .ok (.aload_n 0, 1) := by decide +kernel
theorem dX9_exchanges_6 : decode cX9_exchanges 6 = .ok (.getfield 316, 3) := by decide +kernel
theorem dX9_exchanges_9 : decode cX9_exchanges 9 = .ok (.ifnonnull 9, 3) := by decide +kernel
theorem dX9_exchanges_12 : decode cX9_exchanges 12 = .ok (.aload_n 0, 1) := by decide +kernel
theorem dX9_exchanges_13 : decode cX9_exchanges 13 = .ok (.iconst 1, 1) := by decide +kernel
theorem dX9_exchanges_14 : decode cX9_exchanges 14 = .ok (.invokevirtual 51, 3) := by decide +kernel
theorem dX9_exchanges_17 : decode cX9_exchanges 17 = .ok (.ireturn, 1) := by decide +kernel
theorem dX9_exchanges_18 : decode cX9_exchanges 18 = .ok (.aload_n 0, 1) := by decide +kernel
theorem dX9_exchanges_19 : decode cX9_exchanges 19 = .ok (.invokevirtual 415, 3) := by decide +kernel
theorem dX9_exchanges_22 : decode cX9_exchanges 22 = .ok (.aload_n 0, 1) := by decide +kernel
theorem dX9_exchanges_23 : decode cX9_exchanges 23 = .ok (.aload_n 0, 1) := by decide +kernel
theorem dX9_exchanges_24 : decode cX9_exchanges 24 = .ok (.getfield 408, 3) := by decide +kernel
theorem dX9_exchanges_27 : decode cX9_exchanges 27 = .ok (.invokevirtual 55, 3) := by decide +kernel
theorem dX9_exchanges_30 : decode cX9_exchanges 30 = .ok (.ireturn, 1) := by decide +kernel
theorem dX9_exchangeAt_0 : decode cX9_exchangeAt 0 = .ok (.aload_n 0, 1) := by decide +kernel
theorem dX9_exchangeAt_1 : decode cX9_exchangeAt 1 = .ok (.iconst 0, 1) := by decide +kernel
theorem dX9_exchangeAt_2 : decode cX9_exchangeAt 2 = .ok (.putfield 45, 3) := by decide +kernel
theorem dX9_exchangeAt_5 : decode cX9_exchangeAt 5 = .ok (.aload_n 0, 1) := by decide +kernel
theorem dX9_exchangeAt_6 : decode cX9_exchangeAt 6 = .ok (.getfield 316, 3) := by decide +kernel
theorem dX9_exchangeAt_9 : decode cX9_exchangeAt 9 = .ok (.ifnonnull 9, 3) := by decide +kernel
theorem dX9_exchangeAt_12 : decode cX9_exchangeAt 12 = .ok (.aload_n 0, 1) := by decide +kernel
theorem dX9_exchangeAt_13 : decode cX9_exchangeAt 13 = .ok (.iconst 1, 1) := by decide +kernel
theorem dX9_exchangeAt_14 : decode cX9_exchangeAt 14 = .ok (.invokevirtual 51, 3) := by decide +kernel
theorem dX9_exchangeAt_17 : decode cX9_exchangeAt 17 = .ok (.ireturn, 1) := by decide +kernel
theorem dX9_exchangeAt_18 : decode cX9_exchangeAt 18 = .ok (.aload_n 0, 1) := by decide +kernel
theorem dX9_exchangeAt_19 : decode cX9_exchangeAt 19 = .ok (.invokevirtual 415, 3) := by decide +kernel
theorem dX9_exchangeAt_22 : decode cX9_exchangeAt 22 = .ok (.iload_n 1, 1) := by decide +kernel
theorem dX9_exchangeAt_23 : decode cX9_exchangeAt 23 = .ok (.ifCond .lt 24, 3) := by decide +kernel
theorem dX9_exchangeAt_26 : decode cX9_exchangeAt 26 = .ok (.iload_n 1, 1) := by decide +kernel
theorem dX9_exchangeAt_27 : decode cX9_exchangeAt 27 = .ok (.aload_n 0, 1) := by decide +kernel
theorem dX9_exchangeAt_28 : decode cX9_exchangeAt 28 = .ok (.getfield 408, 3) := by decide +kernel
theorem dX9_exchangeAt_31 : decode cX9_exchangeAt 31 = .ok (.if_icmp .ge 16, 3) := by decide +kernel
theorem dX9_exchangeAt_34 : decode cX9_exchangeAt 34 = .ok (.aload_n 0, 1) := by decide +kernel
theorem dX9_exchangeAt_35 : decode cX9_exchangeAt 35 = .ok (.aload_n 0, 1) := by decide +kernel
theorem dX9_exchangeAt_36 : decode cX9_exchangeAt 36 = .ok (.getfield 33, 3) := by decide +kernel
theorem dX9_exchangeAt_39 : decode cX9_exchangeAt 39 = .ok (.iload_n 1, 1) := by decide +kernel
theorem dX9_exchangeAt_40 : decode cX9_exchangeAt 40 = .ok (.iaload, 1) := by decide +kernel
theorem dX9_exchangeAt_41 : decode cX9_exchangeAt 41 = .ok (.invokevirtual 55, 3) := by decide +kernel
theorem dX9_exchangeAt_44 : decode cX9_exchangeAt 44 = .ok (.goto 8, 3) := by decide +kernel
theorem dX9_exchangeAt_47 : decode cX9_exchangeAt 47 = .ok (.aload_n 0, 1) := by decide +kernel
theorem dX9_exchangeAt_48 : decode cX9_exchangeAt 48 = .ok (.iconst 1, 1) := by decide +kernel
theorem dX9_exchangeAt_49 : decode cX9_exchangeAt 49 = .ok (.invokevirtual 51, 3) := by decide +kernel
theorem dX9_exchangeAt_52 : decode cX9_exchangeAt 52 = .ok (.ireturn, 1) := by decide +kernel
theorem dX9_isParty_0 : decode cX9_isParty 0 = .ok (.aload_n 0, 1) := by decide +kernel
theorem dX9_isParty_1 : decode cX9_isParty 1 = .ok (.getfield 316, 3) := by decide +kernel
theorem dX9_isParty_4 : decode cX9_isParty 4 = .ok (.ifnull 26, 3) := by decide +kernel
theorem dX9_isParty_7 : decode cX9_isParty 7 = .ok (.iload_n 1, 1) := by decide +kernel
theorem dX9_isParty_8 : decode cX9_isParty 8 = .ok (.iconst 1, 1) := by decide +kernel
theorem dX9_isParty_9 : decode cX9_isParty 9 = .ok (.iconst 1, 1) := by decide +kernel
theorem dX9_isParty_10 : decode cX9_isParty 10 = .ok (.aload_n 0, 1) := by decide +kernel
theorem dX9_isParty_11 : decode cX9_isParty 11 = .ok (.getfield 316, 3) := by decide +kernel
theorem dX9_isParty_14 : decode cX9_isParty 14 = .ok (.getfield 191, 3) := by decide +kernel
theorem dX9_isParty_17 : decode cX9_isParty 17 = .ok (.ishl, 1) := by decide +kernel
theorem dX9_isParty_18 : decode cX9_isParty 18 = .ok (.iconst 1, 1) := by decide +kernel
theorem dX9_isParty_19 : decode cX9_isParty 19 = .ok (.isub, 1) := by decide +kernel
theorem dX9_isParty_20 : decode cX9_isParty 20 = .ok (.invokestatic 124, 3) := by decide +kernel
theorem dX9_isParty_23 : decode cX9_isParty 23 = .ok (.ifCond .eq 7, 3) := by decide +kernel
theorem dX9_isParty_26 : decode cX9_isParty 26 = .ok (.iconst 1, 1) := by decide +kernel
theorem dX9_isParty_27 : decode cX9_isParty 27 = .ok (.goto 4, 3) := by decide +kernel
theorem dX9_isParty_30 : decode cX9_isParty 30 = .ok (.iconst 0, 1) := by decide +kernel
theorem dX9_isParty_31 : decode cX9_isParty 31 = .ok (.ireturn, 1) := by decide +kernel
theorem dX9_roomOf_0 : decode cX9_roomOf 0 = .ok (.aload_n 0, 1) := by decide +kernel
theorem dX9_roomOf_1 : decode cX9_roomOf 1 = .ok (.getfield 17, 3) := by decide +kernel
theorem dX9_roomOf_4 : decode cX9_roomOf 4 = .ok (.iconst 0, 1) := by decide +kernel
theorem dX9_roomOf_5 : decode cX9_roomOf 5 = .ok (.iload_n 1, 1) := by decide +kernel
theorem dX9_roomOf_6 : decode cX9_roomOf 6 = .ok (.iadd, 1) := by decide +kernel
theorem dX9_roomOf_7 : decode cX9_roomOf 7 = .ok (.iaload, 1) := by decide +kernel
theorem dX9_roomOf_8 : decode cX9_roomOf 8 = .ok (.bipush (-2), 2) := by decide +kernel
theorem dX9_roomOf_10 : decode cX9_roomOf 10 = .ok (.if_icmp .eq 32, 3) := by decide +kernel
theorem dX9_roomOf_13 : decode cX9_roomOf 13 = .ok (.iload_n 2, 1) := by decide +kernel
theorem dX9_roomOf_14 : decode cX9_roomOf 14 = .ok (.aload_n 0, 1) := by decide +kernel
theorem dX9_roomOf_15 : decode cX9_roomOf 15 = .ok (.getfield 17, 3) := by decide +kernel
theorem dX9_roomOf_18 : decode cX9_roomOf 18 = .ok (.iconst 0, 1) := by decide +kernel
theorem dX9_roomOf_19 : decode cX9_roomOf 19 = .ok (.iload_n 1, 1) := by decide +kernel
theorem dX9_roomOf_20 : decode cX9_roomOf 20 = .ok (.iadd, 1) := by decide +kernel
theorem dX9_roomOf_21 : decode cX9_roomOf 21 = .ok (.iaload, 1) := by decide +kernel
theorem dX9_roomOf_22 : decode cX9_roomOf 22 = .ok (.invokestatic 418, 3) := by decide +kernel
theorem dX9_roomOf_25 : decode cX9_roomOf 25 = .ok (.ifCond .eq 17, 3) := by decide +kernel
theorem dX9_roomOf_28 : decode cX9_roomOf 28 = .ok (.aload_n 0, 1) := by decide +kernel
theorem dX9_roomOf_29 : decode cX9_roomOf 29 = .ok (.getfield 316, 3) := by decide +kernel
theorem dX9_roomOf_32 : decode cX9_roomOf 32 = .ok (.getfield 275, 3) := by decide +kernel
theorem dX9_roomOf_35 : decode cX9_roomOf 35 = .ok (.iload_n 1, 1) := by decide +kernel
theorem dX9_roomOf_36 : decode cX9_roomOf 36 = .ok (.iaload, 1) := by decide +kernel
theorem dX9_roomOf_37 : decode cX9_roomOf 37 = .ok (.iconst 4, 1) := by decide +kernel
theorem dX9_roomOf_38 : decode cX9_roomOf 38 = .ok (.idiv, 1) := by decide +kernel
theorem dX9_roomOf_39 : decode cX9_roomOf 39 = .ok (.goto 4, 3) := by decide +kernel
theorem dX9_roomOf_42 : decode cX9_roomOf 42 = .ok (.iconst 0, 1) := by decide +kernel
theorem dX9_roomOf_43 : decode cX9_roomOf 43 = .ok (.ireturn, 1) := by decide +kernel
theorem dX9_parties_0 : decode cX9_parties 0 = .ok (.aload_n 0, 1) := by decide +kernel
theorem dX9_parties_1 : decode cX9_parties 1 = .ok (.bipush (-2), 2) := by decide +kernel
theorem dX9_parties_3 : decode cX9_parties 3 = .ok (.putfield 421, 3) := by decide +kernel
theorem dX9_parties_6 : decode cX9_parties 6 = .ok (.iconst 0, 1) := by decide +kernel
theorem dX9_parties_7 : decode cX9_parties 7 = .ok (.istore_n 2, 1) := by decide +kernel
theorem dX9_parties_8 : decode cX9_parties 8 = .ok (.iload_n 2, 1) := by decide +kernel
theorem dX9_parties_9 : decode cX9_parties 9 = .ok (.bipush 6, 2) := by decide +kernel
theorem dX9_parties_11 : decode cX9_parties 11 = .ok (.if_icmp .ge 16, 3) := by decide +kernel
theorem dX9_parties_14 : decode cX9_parties 14 = .ok (.aload_n 0, 1) := by decide +kernel
theorem dX9_parties_15 : decode cX9_parties 15 = .ok (.getfield 36, 3) := by decide +kernel
theorem dX9_parties_18 : decode cX9_parties 18 = .ok (.iload_n 2, 1) := by decide +kernel
theorem dX9_parties_19 : decode cX9_parties 19 = .ok (.iconst 0, 1) := by decide +kernel
theorem dX9_parties_20 : decode cX9_parties 20 = .ok (.iastore, 1) := by decide +kernel
theorem dX9_parties_21 : decode cX9_parties 21 = .ok (.iinc 2 1, 3) := by decide +kernel
theorem dX9_parties_24 : decode cX9_parties 24 = .ok (.goto (-16), 3) := by decide +kernel
theorem dX9_parties_27 : decode cX9_parties 27 = .ok (.iconst 1, 1) := by decide +kernel
theorem dX9_parties_28 : decode cX9_parties 28 = .ok (.istore_n 2, 1) := by decide +kernel
theorem dX9_parties_29 : decode cX9_parties 29 = .ok (.iload_n 2, 1) := by decide +kernel
theorem dX9_parties_30 : decode cX9_parties 30 = .ok (.ifCond .eq 76, 3) := by decide +kernel
theorem dX9_parties_33 : decode cX9_parties 33 = .ok (.aload_n 0, 1) := by decide +kernel
theorem dX9_parties_34 : decode cX9_parties 34 = .ok (.iload_n 1, 1) := by decide +kernel
theorem dX9_parties_35 : decode cX9_parties 35 = .ok (.invokevirtual 424, 3) := by decide +kernel
theorem dX9_parties_38 : decode cX9_parties 38 = .ok (.istore_n 3, 1) := by decide +kernel
theorem dX9_parties_39 : decode cX9_parties 39 = .ok (.iload_n 3, 1) := by decide +kernel
theorem dX9_parties_40 : decode cX9_parties 40 = .ok (.bipush (-2), 2) := by decide +kernel
theorem dX9_parties_42 : decode cX9_parties 42 = .ok (.if_icmp .eq 55, 3) := by decide +kernel
theorem dX9_parties_45 : decode cX9_parties 45 = .ok (.aload_n 0, 1) := by decide +kernel
theorem dX9_parties_46 : decode cX9_parties 46 = .ok (.getfield 421, 3) := by decide +kernel
theorem dX9_parties_49 : decode cX9_parties 49 = .ok (.bipush (-2), 2) := by decide +kernel
theorem dX9_parties_51 : decode cX9_parties 51 = .ok (.if_icmp .eq 11, 3) := by decide +kernel
theorem dX9_parties_54 : decode cX9_parties 54 = .ok (.iload_n 3, 1) := by decide +kernel
theorem dX9_parties_55 : decode cX9_parties 55 = .ok (.aload_n 0, 1) := by decide +kernel
theorem dX9_parties_56 : decode cX9_parties 56 = .ok (.getfield 421, 3) := by decide +kernel
theorem dX9_parties_59 : decode cX9_parties 59 = .ok (.if_icmp .ge 38, 3) := by decide +kernel
theorem dX9_parties_62 : decode cX9_parties 62 = .ok (.aload_n 0, 1) := by decide +kernel
theorem dX9_parties_63 : decode cX9_parties 63 = .ok (.iload_n 3, 1) := by decide +kernel
theorem dX9_parties_64 : decode cX9_parties 64 = .ok (.putfield 421, 3) := by decide +kernel
theorem dX9_parties_67 : decode cX9_parties 67 = .ok (.iconst 0, 1) := by decide +kernel
theorem dX9_parties_68 : decode cX9_parties 68 = .ok (.istore 4, 2) := by decide +kernel
theorem dX9_parties_70 : decode cX9_parties 70 = .ok (.iload 4, 2) := by decide +kernel
theorem dX9_parties_72 : decode cX9_parties 72 = .ok (.bipush 6, 2) := by decide +kernel
theorem dX9_parties_74 : decode cX9_parties 74 = .ok (.if_icmp .ge 23, 3) := by decide +kernel
theorem dX9_parties_77 : decode cX9_parties 77 = .ok (.aload_n 0, 1) := by decide +kernel
theorem dX9_parties_78 : decode cX9_parties 78 = .ok (.getfield 39, 3) := by decide +kernel
theorem dX9_parties_81 : decode cX9_parties 81 = .ok (.iload 4, 2) := by decide +kernel
theorem dX9_parties_83 : decode cX9_parties 83 = .ok (.aload_n 0, 1) := by decide +kernel
theorem dX9_parties_84 : decode cX9_parties 84 = .ok (.getfield 36, 3) := by decide +kernel
theorem dX9_parties_87 : decode cX9_parties 87 = .ok (.iload 4, 2) := by decide +kernel
theorem dX9_parties_89 : decode cX9_parties 89 = .ok (.iaload, 1) := by decide +kernel
theorem dX9_parties_90 : decode cX9_parties 90 = .ok (.iastore, 1) := by decide +kernel
theorem dX9_parties_91 : decode cX9_parties 91 = .ok (.iinc 4 1, 3) := by decide +kernel
theorem dX9_parties_94 : decode cX9_parties 94 = .ok (.goto (-24), 3) := by decide +kernel
theorem dX9_parties_97 : decode cX9_parties 97 = .ok (.aload_n 0, 1) := by decide +kernel
theorem dX9_parties_98 : decode cX9_parties 98 = .ok (.iload_n 1, 1) := by decide +kernel
theorem dX9_parties_99 : decode cX9_parties 99 = .ok (.invokevirtual 427, 3) := by decide +kernel
theorem dX9_parties_102 : decode cX9_parties 102 = .ok (.istore_n 2, 1) := by decide +kernel
theorem dX9_parties_103 : decode cX9_parties 103 = .ok (.goto (-74), 3) := by decide +kernel
theorem dX9_parties_106 : decode cX9_parties 106 = .ok (.return_, 1) := by decide +kernel
theorem dX9_dangerOf_0 : decode cX9_dangerOf 0 = .ok (.iconst 0, 1) := by decide +kernel
theorem dX9_dangerOf_1 : decode cX9_dangerOf 1 = .ok (.istore_n 2, 1) := by decide +kernel
theorem dX9_dangerOf_2 : decode cX9_dangerOf 2 = .ok (.iconst 0, 1) := by decide +kernel
theorem dX9_dangerOf_3 : decode cX9_dangerOf 3 = .ok (.istore_n 3, 1) := by decide +kernel
theorem dX9_dangerOf_4 : decode cX9_dangerOf 4 = .ok (.iload_n 3, 1) := by decide +kernel
theorem dX9_dangerOf_5 : decode cX9_dangerOf 5 = .ok (.aload_n 0, 1) := by decide +kernel
theorem dX9_dangerOf_6 : decode cX9_dangerOf 6 = .ok (.getfield 316, 3) := by decide +kernel
theorem dX9_dangerOf_9 : decode cX9_dangerOf 9 = .ok (.getfield 194, 3) := by decide +kernel
theorem dX9_dangerOf_12 : decode cX9_dangerOf 12 = .ok (.if_icmp .ge 21, 3) := by decide +kernel
theorem dX9_dangerOf_15 : decode cX9_dangerOf 15 = .ok (.aload_n 0, 1) := by decide +kernel
theorem dX9_dangerOf_16 : decode cX9_dangerOf 16 = .ok (.getfield 42, 3) := by decide +kernel
theorem dX9_dangerOf_19 : decode cX9_dangerOf 19 = .ok (.iload_n 3, 1) := by decide +kernel
theorem dX9_dangerOf_20 : decode cX9_dangerOf 20 = .ok (.aload_n 0, 1) := by decide +kernel
theorem dX9_dangerOf_21 : decode cX9_dangerOf 21 = .ok (.iload_n 3, 1) := by decide +kernel
theorem dX9_dangerOf_22 : decode cX9_dangerOf 22 = .ok (.iload_n 1, 1) := by decide +kernel
theorem dX9_dangerOf_23 : decode cX9_dangerOf 23 = .ok (.invokevirtual 430, 3) := by decide +kernel
theorem dX9_dangerOf_26 : decode cX9_dangerOf 26 = .ok (.iastore, 1) := by decide +kernel
theorem dX9_dangerOf_27 : decode cX9_dangerOf 27 = .ok (.iinc 3 1, 3) := by decide +kernel
theorem dX9_dangerOf_30 : decode cX9_dangerOf 30 = .ok (.goto (-26), 3) := by decide +kernel
theorem dX9_dangerOf_33 : decode cX9_dangerOf 33 = .ok (.iconst 0, 1) := by decide +kernel
theorem dX9_dangerOf_34 : decode cX9_dangerOf 34 = .ok (.istore_n 3, 1) := by decide +kernel
theorem dX9_dangerOf_35 : decode cX9_dangerOf 35 = .ok (.iload_n 3, 1) := by decide +kernel
theorem dX9_dangerOf_36 : decode cX9_dangerOf 36 = .ok (.aload_n 0, 1) := by decide +kernel
theorem dX9_dangerOf_37 : decode cX9_dangerOf 37 = .ok (.getfield 316, 3) := by decide +kernel
theorem dX9_dangerOf_40 : decode cX9_dangerOf 40 = .ok (.getfield 191, 3) := by decide +kernel
theorem dX9_dangerOf_43 : decode cX9_dangerOf 43 = .ok (.if_icmp .ge 82, 3) := by decide +kernel
theorem dX9_dangerOf_46 : decode cX9_dangerOf 46 = .ok (.iload_n 1, 1) := by decide +kernel
theorem dX9_dangerOf_47 : decode cX9_dangerOf 47 = .ok (.iload_n 3, 1) := by decide +kernel
theorem dX9_dangerOf_48 : decode cX9_dangerOf 48 = .ok (.invokestatic 418, 3) := by decide +kernel
theorem dX9_dangerOf_51 : decode cX9_dangerOf 51 = .ok (.ifCond .ne 6, 3) := by decide +kernel
theorem dX9_dangerOf_54 : decode cX9_dangerOf 54 = .ok (.goto 65, 3) := by decide +kernel
theorem dX9_dangerOf_57 : decode cX9_dangerOf 57 = .ok (.aload_n 0, 1) := by decide +kernel
theorem dX9_dangerOf_58 : decode cX9_dangerOf 58 = .ok (.getfield 36, 3) := by decide +kernel
theorem dX9_dangerOf_61 : decode cX9_dangerOf 61 = .ok (.iload_n 3, 1) := by decide +kernel
theorem dX9_dangerOf_62 : decode cX9_dangerOf 62 = .ok (.iaload, 1) := by decide +kernel
theorem dX9_dangerOf_63 : decode cX9_dangerOf 63 = .ok (.istore 4, 2) := by decide +kernel
theorem dX9_dangerOf_65 : decode cX9_dangerOf 65 = .ok (.aload_n 0, 1) := by decide +kernel
theorem dX9_dangerOf_66 : decode cX9_dangerOf 66 = .ok (.getfield 42, 3) := by decide +kernel
theorem dX9_dangerOf_69 : decode cX9_dangerOf 69 = .ok (.iload 4, 2) := by decide +kernel
theorem dX9_dangerOf_71 : decode cX9_dangerOf 71 = .ok (.dup2, 1) := by decide +kernel
theorem dX9_dangerOf_72 : decode cX9_dangerOf 72 = .ok (.iaload, 1) := by decide +kernel
theorem dX9_dangerOf_73 : decode cX9_dangerOf 73 = .ok (.iconst 1, 1) := by decide +kernel
theorem dX9_dangerOf_74 : decode cX9_dangerOf 74 = .ok (.isub, 1) := by decide +kernel
theorem dX9_dangerOf_75 : decode cX9_dangerOf 75 = .ok (.iastore, 1) := by decide +kernel
theorem dX9_dangerOf_76 : decode cX9_dangerOf 76 = .ok (.aload_n 0, 1) := by decide +kernel
theorem dX9_dangerOf_77 : decode cX9_dangerOf 77 = .ok (.getfield 42, 3) := by decide +kernel
theorem dX9_dangerOf_80 : decode cX9_dangerOf 80 = .ok (.iload 4, 2) := by decide +kernel
theorem dX9_dangerOf_82 : decode cX9_dangerOf 82 = .ok (.iaload, 1) := by decide +kernel
theorem dX9_dangerOf_83 : decode cX9_dangerOf 83 = .ok (.ifCond .ge 6, 3) := by decide +kernel
theorem dX9_dangerOf_86 : decode cX9_dangerOf 86 = .ok (.bipush (-2), 2) := by decide +kernel
theorem dX9_dangerOf_88 : decode cX9_dangerOf 88 = .ok (.ireturn, 1) := by decide +kernel
theorem dX9_dangerOf_89 : decode cX9_dangerOf 89 = .ok (.iload_n 2, 1) := by decide +kernel
theorem dX9_dangerOf_90 : decode cX9_dangerOf 90 = .ok (.aload_n 0, 1) := by decide +kernel
theorem dX9_dangerOf_91 : decode cX9_dangerOf 91 = .ok (.getfield 17, 3) := by decide +kernel
theorem dX9_dangerOf_94 : decode cX9_dangerOf 94 = .ok (.iconst 5, 1) := by decide +kernel
theorem dX9_dangerOf_95 : decode cX9_dangerOf 95 = .ok (.iload 4, 2) := by decide +kernel
theorem dX9_dangerOf_97 : decode cX9_dangerOf 97 = .ok (.iadd, 1) := by decide +kernel
theorem dX9_dangerOf_98 : decode cX9_dangerOf 98 = .ok (.iaload, 1) := by decide +kernel
theorem dX9_dangerOf_99 : decode cX9_dangerOf 99 = .ok (.iload_n 3, 1) := by decide +kernel
theorem dX9_dangerOf_100 : decode cX9_dangerOf 100 = .ok (.if_icmp .ne 7, 3) := by decide +kernel
theorem dX9_dangerOf_103 : decode cX9_dangerOf 103 = .ok (.iconst 0, 1) := by decide +kernel
theorem dX9_dangerOf_104 : decode cX9_dangerOf 104 = .ok (.goto 13, 3) := by decide +kernel
theorem dX9_dangerOf_107 : decode cX9_dangerOf 107 = .ok (.aload_n 0, 1) := by decide +kernel
theorem dX9_dangerOf_108 : decode cX9_dangerOf 108 = .ok (.getfield 316, 3) := by decide +kernel
theorem dX9_dangerOf_111 : decode cX9_dangerOf 111 = .ok (.getfield 273, 3) := by decide +kernel
theorem dX9_dangerOf_114 : decode cX9_dangerOf 114 = .ok (.iload 4, 2) := by decide +kernel
theorem dX9_dangerOf_116 : decode cX9_dangerOf 116 = .ok (.iaload, 1) := by decide +kernel
theorem dX9_dangerOf_117 : decode cX9_dangerOf 117 = .ok (.iadd, 1) := by decide +kernel
theorem dX9_dangerOf_118 : decode cX9_dangerOf 118 = .ok (.istore_n 2, 1) := by decide +kernel
theorem dX9_dangerOf_119 : decode cX9_dangerOf 119 = .ok (.iinc 3 1, 3) := by decide +kernel
theorem dX9_dangerOf_122 : decode cX9_dangerOf 122 = .ok (.goto (-87), 3) := by decide +kernel
theorem dX9_dangerOf_125 : decode cX9_dangerOf 125 = .ok (.iload_n 2, 1) := by decide +kernel
theorem dX9_dangerOf_126 : decode cX9_dangerOf 126 = .ok (.ireturn, 1) := by decide +kernel
theorem dX9_nextUnder_0 : decode cX9_nextUnder 0 = .ok (.aload_n 0, 1) := by decide +kernel
theorem dX9_nextUnder_1 : decode cX9_nextUnder 1 = .ok (.getfield 316, 3) := by decide +kernel
theorem dX9_nextUnder_4 : decode cX9_nextUnder 4 = .ok (.getfield 191, 3) := by decide +kernel
theorem dX9_nextUnder_7 : decode cX9_nextUnder 7 = .ok (.iconst 1, 1) := by decide +kernel
theorem dX9_nextUnder_8 : decode cX9_nextUnder 8 = .ok (.isub, 1) := by decide +kernel
theorem dX9_nextUnder_9 : decode cX9_nextUnder 9 = .ok (.istore_n 2, 1) := by decide +kernel
theorem dX9_nextUnder_10 : decode cX9_nextUnder 10 = .ok (.iload_n 2, 1) := by decide +kernel
theorem dX9_nextUnder_11 : decode cX9_nextUnder 11 = .ok (.ifCond .lt 55, 3) := by decide +kernel
theorem dX9_nextUnder_14 : decode cX9_nextUnder 14 = .ok (.iload_n 1, 1) := by decide +kernel
theorem dX9_nextUnder_15 : decode cX9_nextUnder 15 = .ok (.iload_n 2, 1) := by decide +kernel
theorem dX9_nextUnder_16 : decode cX9_nextUnder 16 = .ok (.invokestatic 418, 3) := by decide +kernel
theorem dX9_nextUnder_19 : decode cX9_nextUnder 19 = .ok (.ifCond .ne 6, 3) := by decide +kernel
theorem dX9_nextUnder_22 : decode cX9_nextUnder 22 = .ok (.goto 38, 3) := by decide +kernel
theorem dX9_nextUnder_25 : decode cX9_nextUnder 25 = .ok (.aload_n 0, 1) := by decide +kernel
theorem dX9_nextUnder_26 : decode cX9_nextUnder 26 = .ok (.getfield 36, 3) := by decide +kernel
theorem dX9_nextUnder_29 : decode cX9_nextUnder 29 = .ok (.iload_n 2, 1) := by decide +kernel
theorem dX9_nextUnder_30 : decode cX9_nextUnder 30 = .ok (.dup2, 1) := by decide +kernel
theorem dX9_nextUnder_31 : decode cX9_nextUnder 31 = .ok (.iaload, 1) := by decide +kernel
theorem dX9_nextUnder_32 : decode cX9_nextUnder 32 = .ok (.iconst 1, 1) := by decide +kernel
theorem dX9_nextUnder_33 : decode cX9_nextUnder 33 = .ok (.iadd, 1) := by decide +kernel
theorem dX9_nextUnder_34 : decode cX9_nextUnder 34 = .ok (.iastore, 1) := by decide +kernel
theorem dX9_nextUnder_35 : decode cX9_nextUnder 35 = .ok (.aload_n 0, 1) := by decide +kernel
theorem dX9_nextUnder_36 : decode cX9_nextUnder 36 = .ok (.getfield 36, 3) := by decide +kernel
theorem dX9_nextUnder_39 : decode cX9_nextUnder 39 = .ok (.iload_n 2, 1) := by decide +kernel
theorem dX9_nextUnder_40 : decode cX9_nextUnder 40 = .ok (.iaload, 1) := by decide +kernel
theorem dX9_nextUnder_41 : decode cX9_nextUnder 41 = .ok (.aload_n 0, 1) := by decide +kernel
theorem dX9_nextUnder_42 : decode cX9_nextUnder 42 = .ok (.getfield 316, 3) := by decide +kernel
theorem dX9_nextUnder_45 : decode cX9_nextUnder 45 = .ok (.getfield 194, 3) := by decide +kernel
theorem dX9_nextUnder_48 : decode cX9_nextUnder 48 = .ok (.if_icmp .ge 5, 3) := by decide +kernel
theorem dX9_nextUnder_51 : decode cX9_nextUnder 51 = .ok (.iconst 1, 1) := by decide +kernel
theorem dX9_nextUnder_52 : decode cX9_nextUnder 52 = .ok (.ireturn, 1) := by decide +kernel
theorem dX9_nextUnder_53 : decode cX9_nextUnder 53 = .ok (.aload_n 0, 1) := by decide +kernel
theorem dX9_nextUnder_54 : decode cX9_nextUnder 54 = .ok (.getfield 36, 3) := by decide +kernel
theorem dX9_nextUnder_57 : decode cX9_nextUnder 57 = .ok (.iload_n 2, 1) := by decide +kernel
theorem dX9_nextUnder_58 : decode cX9_nextUnder 58 = .ok (.iconst 0, 1) := by decide +kernel
theorem dX9_nextUnder_59 : decode cX9_nextUnder 59 = .ok (.iastore, 1) := by decide +kernel
theorem dX9_nextUnder_60 : decode cX9_nextUnder 60 = .ok (.iinc 2 (-1), 3) := by decide +kernel
theorem dX9_nextUnder_63 : decode cX9_nextUnder 63 = .ok (.goto (-53), 3) := by decide +kernel
theorem dX9_nextUnder_66 : decode cX9_nextUnder 66 = .ok (.iconst 0, 1) := by decide +kernel
theorem dX9_nextUnder_67 : decode cX9_nextUnder 67 = .ok (.ireturn, 1) := by decide +kernel
theorem dX9_party_0 : decode cX9_party 0 = .ok (.aload_n 0, 1) := by decide +kernel
theorem dX9_party_1 : decode cX9_party 1 = .ok (.iconst 0, 1) := by decide +kernel
theorem dX9_party_2 : decode cX9_party 2 = .ok (.putfield 45, 3) := by decide +kernel
theorem dX9_party_5 : decode cX9_party 5 = .ok (.aload_n 0, 1) := by decide +kernel
theorem dX9_party_6 : decode cX9_party 6 = .ok (.iload_n 1, 1) := by decide +kernel
theorem dX9_party_7 : decode cX9_party 7 = .ok (.invokevirtual 433, 3) := by decide +kernel
theorem dX9_party_10 : decode cX9_party 10 = .ok (.ifCond .ne 9, 3) := by decide +kernel
theorem dX9_party_13 : decode cX9_party 13 = .ok (.aload_n 0, 1) := by decide +kernel
theorem dX9_party_14 : decode cX9_party 14 = .ok (.iconst 1, 1) := by decide +kernel
theorem dX9_party_15 : decode cX9_party 15 = .ok (.invokevirtual 51, 3) := by decide +kernel
theorem dX9_party_18 : decode cX9_party 18 = .ok (.ireturn, 1) := by decide +kernel
theorem dX9_party_19 : decode cX9_party 19 = .ok (.aload_n 0, 1) := by decide +kernel
theorem dX9_party_20 : decode cX9_party 20 = .ok (.iload_n 1, 1) := by decide +kernel
theorem dX9_party_21 : decode cX9_party 21 = .ok (.invokevirtual 436, 3) := by decide +kernel
theorem dX9_party_24 : decode cX9_party 24 = .ok (.aload_n 0, 1) := by decide +kernel
theorem dX9_party_25 : decode cX9_party 25 = .ok (.aload_n 0, 1) := by decide +kernel
theorem dX9_party_26 : decode cX9_party 26 = .ok (.getfield 421, 3) := by decide +kernel
theorem dX9_party_29 : decode cX9_party 29 = .ok (.invokevirtual 55, 3) := by decide +kernel
theorem dX9_party_32 : decode cX9_party 32 = .ok (.ireturn, 1) := by decide +kernel
theorem dX9_partyOf_0 : decode cX9_partyOf 0 = .ok (.aload_n 0, 1) := by decide +kernel
theorem dX9_partyOf_1 : decode cX9_partyOf 1 = .ok (.iconst 0, 1) := by decide +kernel
theorem dX9_partyOf_2 : decode cX9_partyOf 2 = .ok (.putfield 45, 3) := by decide +kernel
theorem dX9_partyOf_5 : decode cX9_partyOf 5 = .ok (.aload_n 0, 1) := by decide +kernel
theorem dX9_partyOf_6 : decode cX9_partyOf 6 = .ok (.iload_n 1, 1) := by decide +kernel
theorem dX9_partyOf_7 : decode cX9_partyOf 7 = .ok (.invokevirtual 433, 3) := by decide +kernel
theorem dX9_partyOf_10 : decode cX9_partyOf 10 = .ok (.ifCond .eq 11, 3) := by decide +kernel
theorem dX9_partyOf_13 : decode cX9_partyOf 13 = .ok (.aload_n 0, 1) := by decide +kernel
theorem dX9_partyOf_14 : decode cX9_partyOf 14 = .ok (.iload_n 2, 1) := by decide +kernel
theorem dX9_partyOf_15 : decode cX9_partyOf 15 = .ok (.invokevirtual 362, 3) := by decide +kernel
theorem dX9_partyOf_18 : decode cX9_partyOf 18 = .ok (.ifCond .ne 9, 3) := by decide +kernel
theorem dX9_partyOf_21 : decode cX9_partyOf 21 = .ok (.aload_n 0, 1) := by decide +kernel
theorem dX9_partyOf_22 : decode cX9_partyOf 22 = .ok (.iconst 1, 1) := by decide +kernel
theorem dX9_partyOf_23 : decode cX9_partyOf 23 = .ok (.invokevirtual 51, 3) := by decide +kernel
theorem dX9_partyOf_26 : decode cX9_partyOf 26 = .ok (.ireturn, 1) := by decide +kernel
theorem dX9_partyOf_27 : decode cX9_partyOf 27 = .ok (.aload_n 0, 1) := by decide +kernel
theorem dX9_partyOf_28 : decode cX9_partyOf 28 = .ok (.iload_n 1, 1) := by decide +kernel
theorem dX9_partyOf_29 : decode cX9_partyOf 29 = .ok (.invokevirtual 436, 3) := by decide +kernel
theorem dX9_partyOf_32 : decode cX9_partyOf 32 = .ok (.aload_n 0, 1) := by decide +kernel
theorem dX9_partyOf_33 : decode cX9_partyOf 33 = .ok (.getfield 421, 3) := by decide +kernel
theorem dX9_partyOf_36 : decode cX9_partyOf 36 = .ok (.bipush (-2), 2) := by decide +kernel
theorem dX9_partyOf_38 : decode cX9_partyOf 38 = .ok (.if_icmp .ne 10, 3) := by decide +kernel
theorem dX9_partyOf_41 : decode cX9_partyOf 41 = .ok (.aload_n 0, 1) := by decide +kernel
theorem dX9_partyOf_42 : decode cX9_partyOf 42 = .ok (.bipush 6, 2) := by decide +kernel
theorem dX9_partyOf_44 : decode cX9_partyOf 44 = .ok (.invokevirtual 51, 3) := by decide +kernel
theorem dX9_partyOf_47 : decode cX9_partyOf 47 = .ok (.ireturn, 1) := by decide +kernel
theorem dX9_partyOf_48 : decode cX9_partyOf 48 = .ok (.aload_n 0, 1) := by decide +kernel
theorem dX9_partyOf_49 : decode cX9_partyOf 49 = .ok (.iload_n 1, 1) := by decide +kernel
theorem dX9_partyOf_50 : decode cX9_partyOf 50 = .ok (.iload_n 2, 1) := by decide +kernel
theorem dX9_partyOf_51 : decode cX9_partyOf 51 = .ok (.invokestatic 418, 3) := by decide +kernel
theorem dX9_partyOf_54 : decode cX9_partyOf 54 = .ok (.ifCond .eq 12, 3) := by decide +kernel
theorem dX9_partyOf_57 : decode cX9_partyOf 57 = .ok (.aload_n 0, 1) := by decide +kernel
theorem dX9_partyOf_58 : decode cX9_partyOf 58 = .ok (.getfield 39, 3) := by decide +kernel
theorem dX9_partyOf_61 : decode cX9_partyOf 61 = .ok (.iload_n 2, 1) := by decide +kernel
theorem dX9_partyOf_62 : decode cX9_partyOf 62 = .ok (.iaload, 1) := by decide +kernel
theorem dX9_partyOf_63 : decode cX9_partyOf 63 = .ok (.goto 5, 3) := by decide +kernel
theorem dX9_partyOf_66 : decode cX9_partyOf 66 = .ok (.bipush (-2), 2) := by decide +kernel
theorem dX9_partyOf_68 : decode cX9_partyOf 68 = .ok (.invokevirtual 55, 3) := by decide +kernel
theorem dX9_partyOf_71 : decode cX9_partyOf 71 = .ok (.ireturn, 1) := by decide +kernel
theorem dX9_guest_0 : decode cX9_guest 0 = .ok (.aload_n 0, 1) := by decide +kernel
theorem dX9_guest_1 : decode cX9_guest 1 = .ok (.iconst 0, 1) := by decide +kernel
theorem dX9_guest_2 : decode cX9_guest 2 = .ok (.putfield 45, 3) := by decide +kernel
theorem dX9_guest_5 : decode cX9_guest 5 = .ok (.aload_n 0, 1) := by decide +kernel
theorem dX9_guest_6 : decode cX9_guest 6 = .ok (.iload_n 1, 1) := by decide +kernel
theorem dX9_guest_7 : decode cX9_guest 7 = .ok (.invokevirtual 433, 3) := by decide +kernel
theorem dX9_guest_10 : decode cX9_guest 10 = .ok (.ifCond .ne 9, 3) := by decide +kernel
theorem dX9_guest_13 : decode cX9_guest 13 = .ok (.aload_n 0, 1) := by decide +kernel
theorem dX9_guest_14 : decode cX9_guest 14 = .ok (.iconst 1, 1) := by decide +kernel
theorem dX9_guest_15 : decode cX9_guest 15 = .ok (.invokevirtual 51, 3) := by decide +kernel
theorem dX9_guest_18 : decode cX9_guest 18 = .ok (.ireturn, 1) := by decide +kernel
theorem dX9_guest_19 : decode cX9_guest 19 = .ok (.bipush (-2), 2) := by decide +kernel
theorem dX9_guest_21 : decode cX9_guest 21 = .ok (.istore_n 2, 1) := by decide +kernel
theorem dX9_guest_22 : decode cX9_guest 22 = .ok (.iconst 0, 1) := by decide +kernel
theorem dX9_guest_23 : decode cX9_guest 23 = .ok (.istore_n 3, 1) := by decide +kernel
theorem dX9_guest_24 : decode cX9_guest 24 = .ok (.iconst 0, 1) := by decide +kernel
theorem dX9_guest_25 : decode cX9_guest 25 = .ok (.istore 4, 2) := by decide +kernel
theorem dX9_guest_27 : decode cX9_guest 27 = .ok (.iload 4, 2) := by decide +kernel
theorem dX9_guest_29 : decode cX9_guest 29 = .ok (.aload_n 0, 1) := by decide +kernel
theorem dX9_guest_30 : decode cX9_guest 30 = .ok (.getfield 316, 3) := by decide +kernel
theorem dX9_guest_33 : decode cX9_guest 33 = .ok (.getfield 191, 3) := by decide +kernel
theorem dX9_guest_36 : decode cX9_guest 36 = .ok (.if_icmp .ge 65, 3) := by decide +kernel
theorem dX9_guest_39 : decode cX9_guest 39 = .ok (.iload_n 1, 1) := by decide +kernel
theorem dX9_guest_40 : decode cX9_guest 40 = .ok (.iload 4, 2) := by decide +kernel
theorem dX9_guest_42 : decode cX9_guest 42 = .ok (.invokestatic 418, 3) := by decide +kernel
theorem dX9_guest_45 : decode cX9_guest 45 = .ok (.ifCond .eq 6, 3) := by decide +kernel
theorem dX9_guest_48 : decode cX9_guest 48 = .ok (.goto 47, 3) := by decide +kernel
theorem dX9_guest_51 : decode cX9_guest 51 = .ok (.aload_n 0, 1) := by decide +kernel
theorem dX9_guest_52 : decode cX9_guest 52 = .ok (.iload_n 1, 1) := by decide +kernel
theorem dX9_guest_53 : decode cX9_guest 53 = .ok (.iconst 1, 1) := by decide +kernel
theorem dX9_guest_54 : decode cX9_guest 54 = .ok (.iload 4, 2) := by decide +kernel
theorem dX9_guest_56 : decode cX9_guest 56 = .ok (.ishl, 1) := by decide +kernel
theorem dX9_guest_57 : decode cX9_guest 57 = .ok (.ior, 1) := by decide +kernel
theorem dX9_guest_58 : decode cX9_guest 58 = .ok (.invokevirtual 436, 3) := by decide +kernel
theorem dX9_guest_61 : decode cX9_guest 61 = .ok (.aload_n 0, 1) := by decide +kernel
theorem dX9_guest_62 : decode cX9_guest 62 = .ok (.getfield 421, 3) := by decide +kernel
theorem dX9_guest_65 : decode cX9_guest 65 = .ok (.bipush (-2), 2) := by decide +kernel
theorem dX9_guest_67 : decode cX9_guest 67 = .ok (.if_icmp .eq 28, 3) := by decide +kernel
theorem dX9_guest_70 : decode cX9_guest 70 = .ok (.iload_n 2, 1) := by decide +kernel
theorem dX9_guest_71 : decode cX9_guest 71 = .ok (.bipush (-2), 2) := by decide +kernel
theorem dX9_guest_73 : decode cX9_guest 73 = .ok (.if_icmp .eq 14, 3) := by decide +kernel
theorem dX9_guest_76 : decode cX9_guest 76 = .ok (.aload_n 0, 1) := by decide +kernel
theorem dX9_guest_77 : decode cX9_guest 77 = .ok (.getfield 421, 3) := by decide +kernel
theorem dX9_guest_80 : decode cX9_guest 80 = .ok (.iload_n 3, 1) := by decide +kernel
theorem dX9_guest_81 : decode cX9_guest 81 = .ok (.if_icmp .lt 6, 3) := by decide +kernel
theorem dX9_guest_84 : decode cX9_guest 84 = .ok (.goto 11, 3) := by decide +kernel
theorem dX9_guest_87 : decode cX9_guest 87 = .ok (.aload_n 0, 1) := by decide +kernel
theorem dX9_guest_88 : decode cX9_guest 88 = .ok (.getfield 421, 3) := by decide +kernel
theorem dX9_guest_91 : decode cX9_guest 91 = .ok (.istore_n 3, 1) := by decide +kernel
theorem dX9_guest_92 : decode cX9_guest 92 = .ok (.iload 4, 2) := by decide +kernel
theorem dX9_guest_94 : decode cX9_guest 94 = .ok (.istore_n 2, 1) := by decide +kernel
theorem dX9_guest_95 : decode cX9_guest 95 = .ok (.iinc 4 1, 3) := by decide +kernel
theorem dX9_guest_98 : decode cX9_guest 98 = .ok (.goto (-71), 3) := by decide +kernel
theorem dX9_guest_101 : decode cX9_guest 101 = .ok (.aload_n 0, 1) := by decide +kernel
theorem dX9_guest_102 : decode cX9_guest 102 = .ok (.iload_n 2, 1) := by decide +kernel
theorem dX9_guest_103 : decode cX9_guest 103 = .ok (.invokevirtual 55, 3) := by decide +kernel
theorem dX9_guest_106 : decode cX9_guest 106 = .ok (.ireturn, 1) := by decide +kernel
theorem dX9_room_0 : decode cX9_room 0 = .ok (.aload_n 0, 1) := by decide +kernel
theorem dX9_room_1 : decode cX9_room 1 = .ok (.iconst 0, 1) := by decide +kernel
theorem dX9_room_2 : decode cX9_room 2 = .ok (.putfield 45, 3) := by decide +kernel
theorem dX9_room_5 : decode cX9_room 5 = .ok (.aload_n 0, 1) := by decide +kernel
theorem dX9_room_6 : decode cX9_room 6 = .ok (.iload_n 1, 1) := by decide +kernel
theorem dX9_room_7 : decode cX9_room 7 = .ok (.invokevirtual 433, 3) := by decide +kernel
theorem dX9_room_10 : decode cX9_room 10 = .ok (.ifCond .ne 9, 3) := by decide +kernel
theorem dX9_room_13 : decode cX9_room 13 = .ok (.aload_n 0, 1) := by decide +kernel
theorem dX9_room_14 : decode cX9_room 14 = .ok (.iconst 1, 1) := by decide +kernel
theorem dX9_room_15 : decode cX9_room 15 = .ok (.invokevirtual 51, 3) := by decide +kernel
theorem dX9_room_18 : decode cX9_room 18 = .ok (.ireturn, 1) := by decide +kernel
theorem dX9_room_19 : decode cX9_room 19 = .ok (.iconst 0, 1) := by decide +kernel
theorem dX9_room_20 : decode cX9_room 20 = .ok (.istore_n 2, 1) := by decide +kernel
theorem dX9_room_21 : decode cX9_room 21 = .ok (.iconst 0, 1) := by decide +kernel
theorem dX9_room_22 : decode cX9_room 22 = .ok (.istore_n 3, 1) := by decide +kernel
theorem dX9_room_23 : decode cX9_room 23 = .ok (.iload_n 3, 1) := by decide +kernel
theorem dX9_room_24 : decode cX9_room 24 = .ok (.aload_n 0, 1) := by decide +kernel
theorem dX9_room_25 : decode cX9_room 25 = .ok (.getfield 316, 3) := by decide +kernel
theorem dX9_room_28 : decode cX9_room 28 = .ok (.getfield 194, 3) := by decide +kernel
theorem dX9_room_31 : decode cX9_room 31 = .ok (.if_icmp .ge 18, 3) := by decide +kernel
theorem dX9_room_34 : decode cX9_room 34 = .ok (.iload_n 2, 1) := by decide +kernel
theorem dX9_room_35 : decode cX9_room 35 = .ok (.aload_n 0, 1) := by decide +kernel
theorem dX9_room_36 : decode cX9_room 36 = .ok (.iload_n 3, 1) := by decide +kernel
theorem dX9_room_37 : decode cX9_room 37 = .ok (.iload_n 1, 1) := by decide +kernel
theorem dX9_room_38 : decode cX9_room 38 = .ok (.invokevirtual 430, 3) := by decide +kernel
theorem dX9_room_41 : decode cX9_room 41 = .ok (.iadd, 1) := by decide +kernel
theorem dX9_room_42 : decode cX9_room 42 = .ok (.istore_n 2, 1) := by decide +kernel
theorem dX9_room_43 : decode cX9_room 43 = .ok (.iinc 3 1, 3) := by decide +kernel
theorem dX9_room_46 : decode cX9_room 46 = .ok (.goto (-23), 3) := by decide +kernel
theorem dX9_room_49 : decode cX9_room 49 = .ok (.aload_n 0, 1) := by decide +kernel
theorem dX9_room_50 : decode cX9_room 50 = .ok (.iload_n 2, 1) := by decide +kernel
theorem dX9_room_51 : decode cX9_room 51 = .ok (.invokevirtual 55, 3) := by decide +kernel
theorem dX9_room_54 : decode cX9_room 54 = .ok (.ireturn, 1) := by decide +kernel
theorem dX9_power_0 : decode cX9_power 0 = .ok (.lconst 1, 1) := by decide +kernel
theorem dX9_power_1 : decode cX9_power 1 = .ok (.lstore_n 3, 1) := by decide +kernel
theorem dX9_power_2 : decode cX9_power 2 = .ok (.iconst 0, 1) := by decide +kernel
theorem dX9_power_3 : decode cX9_power 3 = .ok (.istore 5, 2) := by decide +kernel
theorem dX9_power_5 : decode cX9_power 5 = .ok (.iload 5, 2) := by decide +kernel
theorem dX9_power_7 : decode cX9_power 7 = .ok (.iload_n 2, 1) := by decide +kernel
theorem dX9_power_8 : decode cX9_power 8 = .ok (.if_icmp .ge 13, 3) := by decide +kernel
theorem dX9_power_11 : decode cX9_power 11 = .ok (.lload_n 3, 1) := by decide +kernel
theorem dX9_power_12 : decode cX9_power 12 = .ok (.lload_n 0, 1) := by decide +kernel
theorem dX9_power_13 : decode cX9_power 13 = .ok (.lmul, 1) := by decide +kernel
theorem dX9_power_14 : decode cX9_power 14 = .ok (.lstore_n 3, 1) := by decide +kernel
theorem dX9_power_15 : decode cX9_power 15 = .ok (.iinc 5 1, 3) := by decide +kernel
theorem dX9_power_18 : decode cX9_power 18 = .ok (.goto (-13), 3) := by decide +kernel
theorem dX9_power_21 : decode cX9_power 21 = .ok (.lload_n 3, 1) := by decide +kernel
theorem dX9_power_22 : decode cX9_power 22 = .ok (.lreturn, 1) := by decide +kernel
theorem dX9_calm_0 : decode cX9_calm 0 = .ok (.ldc2_w 439, 3) := by decide +kernel
theorem dX9_calm_3 : decode cX9_calm 3 = .ok (.aload_n 0, 1) := by decide +kernel
theorem dX9_calm_4 : decode cX9_calm 4 = .ok (.getfield 316, 3) := by decide +kernel
theorem dX9_calm_7 : decode cX9_calm 7 = .ok (.getfield 270, 3) := by decide +kernel
theorem dX9_calm_10 : decode cX9_calm 10 = .ok (.iload_n 1, 1) := by decide +kernel
theorem dX9_calm_11 : decode cX9_calm 11 = .ok (.iaload, 1) := by decide +kernel
theorem dX9_calm_12 : decode cX9_calm 12 = .ok (.ifCond .ne 15, 3) := by decide +kernel
theorem dX9_calm_15 : decode cX9_calm 15 = .ok (.aload_n 0, 1) := by decide +kernel
theorem dX9_calm_16 : decode cX9_calm 16 = .ok (.getfield 316, 3) := by decide +kernel
theorem dX9_calm_19 : decode cX9_calm 19 = .ok (.getfield 230, 3) := by decide +kernel
theorem dX9_calm_22 : decode cX9_calm 22 = .ok (.iconst 2, 1) := by decide +kernel
theorem dX9_calm_23 : decode cX9_calm 23 = .ok (.idiv, 1) := by decide +kernel
theorem dX9_calm_24 : decode cX9_calm 24 = .ok (.goto 10, 3) := by decide +kernel
theorem dX9_calm_27 : decode cX9_calm 27 = .ok (.aload_n 0, 1) := by decide +kernel
theorem dX9_calm_28 : decode cX9_calm 28 = .ok (.getfield 316, 3) := by decide +kernel
theorem dX9_calm_31 : decode cX9_calm 31 = .ok (.getfield 230, 3) := by decide +kernel
theorem dX9_calm_34 : decode cX9_calm 34 = .ok (.i2l, 1) := by decide +kernel
theorem dX9_calm_35 : decode cX9_calm 35 = .ok (.lsub, 1) := by decide +kernel
theorem dX9_calm_36 : decode cX9_calm 36 = .ok (.lreturn, 1) := by decide +kernel
theorem dX9_whole_0 : decode cX9_whole 0 = .ok (.aload_n 0, 1) := by decide +kernel
theorem dX9_whole_1 : decode cX9_whole 1 = .ok (.iconst 0, 1) := by decide +kernel
theorem dX9_whole_2 : decode cX9_whole 2 = .ok (.putfield 45, 3) := by decide +kernel
theorem dX9_whole_5 : decode cX9_whole 5 = .ok (.aload_n 0, 1) := by decide +kernel
theorem dX9_whole_6 : decode cX9_whole 6 = .ok (.iload_n 1, 1) := by decide +kernel
theorem dX9_whole_7 : decode cX9_whole 7 = .ok (.invokevirtual 359, 3) := by decide +kernel
theorem dX9_whole_10 : decode cX9_whole 10 = .ok (.ifCond .ne 10, 3) := by decide +kernel
theorem dX9_whole_13 : decode cX9_whole 13 = .ok (.aload_n 0, 1) := by decide +kernel
theorem dX9_whole_14 : decode cX9_whole 14 = .ok (.iconst 1, 1) := by decide +kernel
theorem dX9_whole_15 : decode cX9_whole 15 = .ok (.invokevirtual 51, 3) := by decide +kernel
theorem dX9_whole_18 : decode cX9_whole 18 = .ok (.i2l, 1) := by decide +kernel
theorem dX9_whole_19 : decode cX9_whole 19 = .ok (.lreturn, 1) := by decide +kernel
theorem dX9_whole_20 : decode cX9_whole 20 = .ok (.iload_n 2, 1) := by decide +kernel
theorem dX9_whole_21 : decode cX9_whole 21 = .ok (.iconst 0, 1) := by decide +kernel
theorem dX9_whole_22 : decode cX9_whole 22 = .ok (.bipush 6, 2) := by decide +kernel
theorem dX9_whole_24 : decode cX9_whole 24 = .ok (.invokestatic 124, 3) := by decide +kernel
theorem dX9_whole_27 : decode cX9_whole 27 = .ok (.ifCond .eq 27, 3) := by decide +kernel
theorem dX9_whole_30 : decode cX9_whole 30 = .ok (.aload_n 0, 1) := by decide +kernel
theorem dX9_whole_31 : decode cX9_whole 31 = .ok (.aload_n 0, 1) := by decide +kernel
theorem dX9_whole_32 : decode cX9_whole 32 = .ok (.iload_n 1, 1) := by decide +kernel
theorem dX9_whole_33 : decode cX9_whole 33 = .ok (.invokevirtual 441, 3) := by decide +kernel
theorem dX9_whole_36 : decode cX9_whole 36 = .ok (.iload_n 2, 1) := by decide +kernel
theorem dX9_whole_37 : decode cX9_whole 37 = .ok (.invokestatic 445, 3) := by decide +kernel
theorem dX9_whole_40 : decode cX9_whole 40 = .ok (.ldc2_w 439, 3) := by decide +kernel
theorem dX9_whole_43 : decode cX9_whole 43 = .ok (.iload_n 2, 1) := by decide +kernel
theorem dX9_whole_44 : decode cX9_whole 44 = .ok (.invokestatic 445, 3) := by decide +kernel
theorem dX9_whole_47 : decode cX9_whole 47 = .ok (.iload_n 3, 1) := by decide +kernel
theorem dX9_whole_48 : decode cX9_whole 48 = .ok (.invokevirtual 449, 3) := by decide +kernel
theorem dX9_whole_51 : decode cX9_whole 51 = .ok (.goto 9, 3) := by decide +kernel
theorem dX9_whole_54 : decode cX9_whole 54 = .ok (.aload_n 0, 1) := by decide +kernel
theorem dX9_whole_55 : decode cX9_whole 55 = .ok (.iconst 2, 1) := by decide +kernel
theorem dX9_whole_56 : decode cX9_whole 56 = .ok (.invokevirtual 51, 3) := by decide +kernel
theorem dX9_whole_59 : decode cX9_whole 59 = .ok (.i2l, 1) := by decide +kernel
theorem dX9_whole_60 : decode cX9_whole 60 = .ok (.lreturn, 1) := by decide +kernel
theorem dX9_allWhole_0 : decode cX9_allWhole 0 = .ok (.aload_n 0, 1) := by decide +kernel
theorem dX9_allWhole_1 : decode cX9_allWhole 1 = .ok (.iconst 0, 1) := by decide +kernel
theorem dX9_allWhole_2 : decode cX9_allWhole 2 = .ok (.putfield 45, 3) := by decide +kernel
theorem dX9_allWhole_5 : decode cX9_allWhole 5 = .ok (.aload_n 0, 1) := by decide +kernel
theorem dX9_allWhole_6 : decode cX9_allWhole 6 = .ok (.iload_n 1, 1) := by decide +kernel
theorem dX9_allWhole_7 : decode cX9_allWhole 7 = .ok (.invokevirtual 362, 3) := by decide +kernel
theorem dX9_allWhole_10 : decode cX9_allWhole 10 = .ok (.ifCond .ne 10, 3) := by decide +kernel
theorem dX9_allWhole_13 : decode cX9_allWhole 13 = .ok (.aload_n 0, 1) := by decide +kernel
theorem dX9_allWhole_14 : decode cX9_allWhole 14 = .ok (.iconst 1, 1) := by decide +kernel
theorem dX9_allWhole_15 : decode cX9_allWhole 15 = .ok (.invokevirtual 51, 3) := by decide +kernel
theorem dX9_allWhole_18 : decode cX9_allWhole 18 = .ok (.i2l, 1) := by decide +kernel
theorem dX9_allWhole_19 : decode cX9_allWhole 19 = .ok (.lreturn, 1) := by decide +kernel
theorem dX9_allWhole_20 : decode cX9_allWhole 20 = .ok (.iload_n 2, 1) := by decide +kernel
theorem dX9_allWhole_21 : decode cX9_allWhole 21 = .ok (.iconst 0, 1) := by decide +kernel
theorem dX9_allWhole_22 : decode cX9_allWhole 22 = .ok (.iconst 1, 1) := by decide +kernel
theorem dX9_allWhole_23 : decode cX9_allWhole 23 = .ok (.invokestatic 124, 3) := by decide +kernel
theorem dX9_allWhole_26 : decode cX9_allWhole 26 = .ok (.ifCond .ne 10, 3) := by decide +kernel
theorem dX9_allWhole_29 : decode cX9_allWhole 29 = .ok (.aload_n 0, 1) := by decide +kernel
theorem dX9_allWhole_30 : decode cX9_allWhole 30 = .ok (.iconst 2, 1) := by decide +kernel
theorem dX9_allWhole_31 : decode cX9_allWhole 31 = .ok (.invokevirtual 51, 3) := by decide +kernel
theorem dX9_allWhole_34 : decode cX9_allWhole 34 = .ok (.i2l, 1) := by decide +kernel
theorem dX9_allWhole_35 : decode cX9_allWhole 35 = .ok (.lreturn, 1) := by decide +kernel
theorem dX9_allWhole_36 : decode cX9_allWhole 36 = .ok (.lconst 1, 1) := by decide +kernel
theorem dX9_allWhole_37 : decode cX9_allWhole 37 = .ok (.lstore 4, 2) := by decide +kernel
theorem dX9_allWhole_39 : decode cX9_allWhole 39 = .ok (.lconst 1, 1) := by decide +kernel
theorem dX9_allWhole_40 : decode cX9_allWhole 40 = .ok (.lstore 6, 2) := by decide +kernel
theorem dX9_allWhole_42 : decode cX9_allWhole 42 = .ok (.iconst 0, 1) := by decide +kernel
theorem dX9_allWhole_43 : decode cX9_allWhole 43 = .ok (.istore 8, 2) := by decide +kernel
theorem dX9_allWhole_45 : decode cX9_allWhole 45 = .ok (.iload 8, 2) := by decide +kernel
theorem dX9_allWhole_47 : decode cX9_allWhole 47 = .ok (.aload_n 0, 1) := by decide +kernel
theorem dX9_allWhole_48 : decode cX9_allWhole 48 = .ok (.getfield 316, 3) := by decide +kernel
theorem dX9_allWhole_51 : decode cX9_allWhole 51 = .ok (.getfield 194, 3) := by decide +kernel
theorem dX9_allWhole_54 : decode cX9_allWhole 54 = .ok (.if_icmp .ge 52, 3) := by decide +kernel
theorem dX9_allWhole_57 : decode cX9_allWhole 57 = .ok (.aload_n 0, 1) := by decide +kernel
theorem dX9_allWhole_58 : decode cX9_allWhole 58 = .ok (.getfield 17, 3) := by decide +kernel
theorem dX9_allWhole_61 : decode cX9_allWhole 61 = .ok (.iconst 0, 1) := by decide +kernel
theorem dX9_allWhole_62 : decode cX9_allWhole 62 = .ok (.iload 8, 2) := by decide +kernel
theorem dX9_allWhole_64 : decode cX9_allWhole 64 = .ok (.iadd, 1) := by decide +kernel
theorem dX9_allWhole_65 : decode cX9_allWhole 65 = .ok (.iaload, 1) := by decide +kernel
theorem dX9_allWhole_66 : decode cX9_allWhole 66 = .ok (.iload_n 1, 1) := by decide +kernel
theorem dX9_allWhole_67 : decode cX9_allWhole 67 = .ok (.if_icmp .eq 6, 3) := by decide +kernel
theorem dX9_allWhole_70 : decode cX9_allWhole 70 = .ok (.goto 30, 3) := by decide +kernel
theorem dX9_allWhole_73 : decode cX9_allWhole 73 = .ok (.lload 4, 2) := by decide +kernel
theorem dX9_allWhole_75 : decode cX9_allWhole 75 = .ok (.aload_n 0, 1) := by decide +kernel
theorem dX9_allWhole_76 : decode cX9_allWhole 76 = .ok (.iload 8, 2) := by decide +kernel
theorem dX9_allWhole_78 : decode cX9_allWhole 78 = .ok (.invokevirtual 441, 3) := by decide +kernel
theorem dX9_allWhole_81 : decode cX9_allWhole 81 = .ok (.iload_n 2, 1) := by decide +kernel
theorem dX9_allWhole_82 : decode cX9_allWhole 82 = .ok (.invokestatic 445, 3) := by decide +kernel
theorem dX9_allWhole_85 : decode cX9_allWhole 85 = .ok (.lmul, 1) := by decide +kernel
theorem dX9_allWhole_86 : decode cX9_allWhole 86 = .ok (.lstore 4, 2) := by decide +kernel
theorem dX9_allWhole_88 : decode cX9_allWhole 88 = .ok (.lload 6, 2) := by decide +kernel
theorem dX9_allWhole_90 : decode cX9_allWhole 90 = .ok (.ldc2_w 439, 3) := by decide +kernel
theorem dX9_allWhole_93 : decode cX9_allWhole 93 = .ok (.iload_n 2, 1) := by decide +kernel
theorem dX9_allWhole_94 : decode cX9_allWhole 94 = .ok (.invokestatic 445, 3) := by decide +kernel
theorem dX9_allWhole_97 : decode cX9_allWhole 97 = .ok (.lmul, 1) := by decide +kernel
theorem dX9_allWhole_98 : decode cX9_allWhole 98 = .ok (.lstore 6, 2) := by decide +kernel
theorem dX9_allWhole_100 : decode cX9_allWhole 100 = .ok (.iinc 8 1, 3) := by decide +kernel
theorem dX9_allWhole_103 : decode cX9_allWhole 103 = .ok (.goto (-58), 3) := by decide +kernel
theorem dX9_allWhole_106 : decode cX9_allWhole 106 = .ok (.aload_n 0, 1) := by decide +kernel
theorem dX9_allWhole_107 : decode cX9_allWhole 107 = .ok (.lload 4, 2) := by decide +kernel
theorem dX9_allWhole_109 : decode cX9_allWhole 109 = .ok (.lload 6, 2) := by decide +kernel
theorem dX9_allWhole_111 : decode cX9_allWhole 111 = .ok (.iload_n 3, 1) := by decide +kernel
theorem dX9_allWhole_112 : decode cX9_allWhole 112 = .ok (.invokevirtual 449, 3) := by decide +kernel
theorem dX9_allWhole_115 : decode cX9_allWhole 115 = .ok (.lreturn, 1) := by decide +kernel
theorem dX9_divided_0 : decode cX9_divided 0 = .ok (.aload_n 0, 1) := by decide +kernel
theorem dX9_divided_1 : decode cX9_divided 1 = .ok (.iconst 0, 1) := by decide +kernel
theorem dX9_divided_2 : decode cX9_divided 2 = .ok (.putfield 45, 3) := by decide +kernel
theorem dX9_divided_5 : decode cX9_divided 5 = .ok (.aload_n 0, 1) := by decide +kernel
theorem dX9_divided_6 : decode cX9_divided 6 = .ok (.iload_n 1, 1) := by decide +kernel
theorem dX9_divided_7 : decode cX9_divided 7 = .ok (.invokevirtual 359, 3) := by decide +kernel
theorem dX9_divided_10 : decode cX9_divided 10 = .ok (.ifCond .ne 9, 3) := by decide +kernel
theorem dX9_divided_13 : decode cX9_divided 13 = .ok (.aload_n 0, 1) := by decide +kernel
theorem dX9_divided_14 : decode cX9_divided 14 = .ok (.iconst 1, 1) := by decide +kernel
theorem dX9_divided_15 : decode cX9_divided 15 = .ok (.invokevirtual 51, 3) := by decide +kernel
theorem dX9_divided_18 : decode cX9_divided 18 = .ok (.ireturn, 1) := by decide +kernel
theorem dX9_divided_19 : decode cX9_divided 19 = .ok (.iload_n 2, 1) := by decide +kernel
theorem dX9_divided_20 : decode cX9_divided 20 = .ok (.iconst 1, 1) := by decide +kernel
theorem dX9_divided_21 : decode cX9_divided 21 = .ok (.bipush 9, 2) := by decide +kernel
theorem dX9_divided_23 : decode cX9_divided 23 = .ok (.invokestatic 124, 3) := by decide +kernel
theorem dX9_divided_26 : decode cX9_divided 26 = .ok (.ifCond .ne 9, 3) := by decide +kernel
theorem dX9_divided_29 : decode cX9_divided 29 = .ok (.aload_n 0, 1) := by decide +kernel
theorem dX9_divided_30 : decode cX9_divided 30 = .ok (.iconst 2, 1) := by decide +kernel
theorem dX9_divided_31 : decode cX9_divided 31 = .ok (.invokevirtual 51, 3) := by decide +kernel
theorem dX9_divided_34 : decode cX9_divided 34 = .ok (.ireturn, 1) := by decide +kernel
theorem dX9_divided_35 : decode cX9_divided 35 = .ok (.iload_n 3, 1) := by decide +kernel
theorem dX9_divided_36 : decode cX9_divided 36 = .ok (.iconst 0, 1) := by decide +kernel
theorem dX9_divided_37 : decode cX9_divided 37 = .ok (.iload_n 2, 1) := by decide +kernel
theorem dX9_divided_38 : decode cX9_divided 38 = .ok (.iconst 1, 1) := by decide +kernel
theorem dX9_divided_39 : decode cX9_divided 39 = .ok (.isub, 1) := by decide +kernel
theorem dX9_divided_40 : decode cX9_divided 40 = .ok (.invokestatic 124, 3) := by decide +kernel
theorem dX9_divided_43 : decode cX9_divided 43 = .ok (.ifCond .ne 9, 3) := by decide +kernel
theorem dX9_divided_46 : decode cX9_divided 46 = .ok (.aload_n 0, 1) := by decide +kernel
theorem dX9_divided_47 : decode cX9_divided 47 = .ok (.iconst 1, 1) := by decide +kernel
theorem dX9_divided_48 : decode cX9_divided 48 = .ok (.invokevirtual 51, 3) := by decide +kernel
theorem dX9_divided_51 : decode cX9_divided 51 = .ok (.ireturn, 1) := by decide +kernel
theorem dX9_divided_52 : decode cX9_divided 52 = .ok (.aload_n 0, 1) := by decide +kernel
theorem dX9_divided_53 : decode cX9_divided 53 = .ok (.aload_n 0, 1) := by decide +kernel
theorem dX9_divided_54 : decode cX9_divided 54 = .ok (.getfield 316, 3) := by decide +kernel
theorem dX9_divided_57 : decode cX9_divided 57 = .ok (.getfield 273, 3) := by decide +kernel
theorem dX9_divided_60 : decode cX9_divided 60 = .ok (.iload_n 1, 1) := by decide +kernel
theorem dX9_divided_61 : decode cX9_divided 61 = .ok (.iaload, 1) := by decide +kernel
theorem dX9_divided_62 : decode cX9_divided 62 = .ok (.iload_n 2, 1) := by decide +kernel
theorem dX9_divided_63 : decode cX9_divided 63 = .ok (.idiv, 1) := by decide +kernel
theorem dX9_divided_64 : decode cX9_divided 64 = .ok (.iload_n 3, 1) := by decide +kernel
theorem dX9_divided_65 : decode cX9_divided 65 = .ok (.aload_n 0, 1) := by decide +kernel
theorem dX9_divided_66 : decode cX9_divided 66 = .ok (.getfield 316, 3) := by decide +kernel
theorem dX9_divided_69 : decode cX9_divided 69 = .ok (.getfield 273, 3) := by decide +kernel
theorem dX9_divided_72 : decode cX9_divided 72 = .ok (.iload_n 1, 1) := by decide +kernel
theorem dX9_divided_73 : decode cX9_divided 73 = .ok (.iaload, 1) := by decide +kernel
theorem dX9_divided_74 : decode cX9_divided 74 = .ok (.iload_n 2, 1) := by decide +kernel
theorem dX9_divided_75 : decode cX9_divided 75 = .ok (.irem, 1) := by decide +kernel
theorem dX9_divided_76 : decode cX9_divided 76 = .ok (.if_icmp .ge 7, 3) := by decide +kernel
theorem dX9_divided_79 : decode cX9_divided 79 = .ok (.iconst 1, 1) := by decide +kernel
theorem dX9_divided_80 : decode cX9_divided 80 = .ok (.goto 4, 3) := by decide +kernel
theorem dX9_divided_83 : decode cX9_divided 83 = .ok (.iconst 0, 1) := by decide +kernel
theorem dX9_divided_84 : decode cX9_divided 84 = .ok (.iadd, 1) := by decide +kernel
theorem dX9_divided_85 : decode cX9_divided 85 = .ok (.invokevirtual 55, 3) := by decide +kernel
theorem dX9_divided_88 : decode cX9_divided 88 = .ok (.ireturn, 1) := by decide +kernel
theorem dX9_gets_0 : decode cX9_gets 0 = .ok (.iload_n 1, 1) := by decide +kernel
theorem dX9_gets_1 : decode cX9_gets 1 = .ok (.iload_n 2, 1) := by decide +kernel
theorem dX9_gets_2 : decode cX9_gets 2 = .ok (.if_icmp .le 7, 3) := by decide +kernel
theorem dX9_gets_5 : decode cX9_gets 5 = .ok (.iload_n 0, 1) := by decide +kernel
theorem dX9_gets_6 : decode cX9_gets 6 = .ok (.goto 15, 3) := by decide +kernel
theorem dX9_gets_9 : decode cX9_gets 9 = .ok (.iload_n 1, 1) := by decide +kernel
theorem dX9_gets_10 : decode cX9_gets 10 = .ok (.iload_n 2, 1) := by decide +kernel
theorem dX9_gets_11 : decode cX9_gets 11 = .ok (.if_icmp .ne 9, 3) := by decide +kernel
theorem dX9_gets_14 : decode cX9_gets 14 = .ok (.iload_n 0, 1) := by decide +kernel
theorem dX9_gets_15 : decode cX9_gets 15 = .ok (.iconst 2, 1) := by decide +kernel
theorem dX9_gets_16 : decode cX9_gets 16 = .ok (.idiv, 1) := by decide +kernel
theorem dX9_gets_17 : decode cX9_gets 17 = .ok (.goto 4, 3) := by decide +kernel
theorem dX9_gets_20 : decode cX9_gets 20 = .ok (.iconst 0, 1) := by decide +kernel
theorem dX9_gets_21 : decode cX9_gets 21 = .ok (.iconst 2, 1) := by decide +kernel
theorem dX9_gets_22 : decode cX9_gets 22 = .ok (.iload_n 1, 1) := by decide +kernel
theorem dX9_gets_23 : decode cX9_gets 23 = .ok (.imul, 1) := by decide +kernel
theorem dX9_gets_24 : decode cX9_gets 24 = .ok (.isub, 1) := by decide +kernel
theorem dX9_gets_25 : decode cX9_gets 25 = .ok (.ireturn, 1) := by decide +kernel
theorem dX9_heirs_0 : decode cX9_heirs 0 = .ok (.aload_n 0, 1) := by decide +kernel
theorem dX9_heirs_1 : decode cX9_heirs 1 = .ok (.iconst 0, 1) := by decide +kernel
theorem dX9_heirs_2 : decode cX9_heirs 2 = .ok (.putfield 45, 3) := by decide +kernel
theorem dX9_heirs_5 : decode cX9_heirs 5 = .ok (.aload_n 0, 1) := by decide +kernel
theorem dX9_heirs_6 : decode cX9_heirs 6 = .ok (.getfield 316, 3) := by decide +kernel
theorem dX9_heirs_9 : decode cX9_heirs 9 = .ok (.ifnonnull 9, 3) := by decide +kernel
theorem dX9_heirs_12 : decode cX9_heirs 12 = .ok (.aload_n 0, 1) := by decide +kernel
theorem dX9_heirs_13 : decode cX9_heirs 13 = .ok (.iconst 1, 1) := by decide +kernel
theorem dX9_heirs_14 : decode cX9_heirs 14 = .ok (.invokevirtual 453, 3) := by decide +kernel
theorem dX9_heirs_17 : decode cX9_heirs 17 = .ok (.ireturn, 1) := by decide +kernel
theorem dX9_heirs_18 : decode cX9_heirs 18 = .ok (.iload_n 1, 1) := by decide +kernel
theorem dX9_heirs_19 : decode cX9_heirs 19 = .ok (.iconst 0, 1) := by decide +kernel
theorem dX9_heirs_20 : decode cX9_heirs 20 = .ok (.bipush 99, 2) := by decide +kernel
theorem dX9_heirs_22 : decode cX9_heirs 22 = .ok (.invokestatic 124, 3) := by decide +kernel
theorem dX9_heirs_25 : decode cX9_heirs 25 = .ok (.ifCond .eq 23, 3) := by decide +kernel
theorem dX9_heirs_28 : decode cX9_heirs 28 = .ok (.iload_n 2, 1) := by decide +kernel
theorem dX9_heirs_29 : decode cX9_heirs 29 = .ok (.iconst 0, 1) := by decide +kernel
theorem dX9_heirs_30 : decode cX9_heirs 30 = .ok (.bipush 6, 2) := by decide +kernel
theorem dX9_heirs_32 : decode cX9_heirs 32 = .ok (.invokestatic 124, 3) := by decide +kernel
theorem dX9_heirs_35 : decode cX9_heirs 35 = .ok (.ifCond .eq 13, 3) := by decide +kernel
theorem dX9_heirs_38 : decode cX9_heirs 38 = .ok (.iload_n 3, 1) := by decide +kernel
theorem dX9_heirs_39 : decode cX9_heirs 39 = .ok (.iconst 0, 1) := by decide +kernel
theorem dX9_heirs_40 : decode cX9_heirs 40 = .ok (.bipush 6, 2) := by decide +kernel
theorem dX9_heirs_42 : decode cX9_heirs 42 = .ok (.invokestatic 124, 3) := by decide +kernel
theorem dX9_heirs_45 : decode cX9_heirs 45 = .ok (.ifCond .ne 9, 3) := by decide +kernel
theorem dX9_heirs_48 : decode cX9_heirs 48 = .ok (.aload_n 0, 1) := by decide +kernel
theorem dX9_heirs_49 : decode cX9_heirs 49 = .ok (.iconst 2, 1) := by decide +kernel
theorem dX9_heirs_50 : decode cX9_heirs 50 = .ok (.invokevirtual 453, 3) := by decide +kernel
theorem dX9_heirs_53 : decode cX9_heirs 53 = .ok (.ireturn, 1) := by decide +kernel
theorem dX9_heirs_54 : decode cX9_heirs 54 = .ok (.aload_n 0, 1) := by decide +kernel
theorem dX9_heirs_55 : decode cX9_heirs 55 = .ok (.iload 4, 2) := by decide +kernel
theorem dX9_heirs_57 : decode cX9_heirs 57 = .ok (.ifCond .eq 12, 3) := by decide +kernel
theorem dX9_heirs_60 : decode cX9_heirs 60 = .ok (.iload_n 1, 1) := by decide +kernel
theorem dX9_heirs_61 : decode cX9_heirs 61 = .ok (.iload_n 3, 1) := by decide +kernel
theorem dX9_heirs_62 : decode cX9_heirs 62 = .ok (.iload_n 2, 1) := by decide +kernel
theorem dX9_heirs_63 : decode cX9_heirs 63 = .ok (.invokestatic 456, 3) := by decide +kernel
theorem dX9_heirs_66 : decode cX9_heirs 66 = .ok (.goto 9, 3) := by decide +kernel
theorem dX9_heirs_69 : decode cX9_heirs 69 = .ok (.iload_n 1, 1) := by decide +kernel
theorem dX9_heirs_70 : decode cX9_heirs 70 = .ok (.iload_n 2, 1) := by decide +kernel
theorem dX9_heirs_71 : decode cX9_heirs 71 = .ok (.iload_n 3, 1) := by decide +kernel
theorem dX9_heirs_72 : decode cX9_heirs 72 = .ok (.invokestatic 456, 3) := by decide +kernel
theorem dX9_heirs_75 : decode cX9_heirs 75 = .ok (.invokevirtual 55, 3) := by decide +kernel
theorem dX9_heirs_78 : decode cX9_heirs 78 = .ok (.ireturn, 1) := by decide +kernel
theorem dX9_isRest_0 : decode cX9_isRest 0 = .ok (.iconst 0, 1) := by decide +kernel
theorem dX9_isRest_1 : decode cX9_isRest 1 = .ok (.istore_n 3, 1) := by decide +kernel
theorem dX9_isRest_2 : decode cX9_isRest 2 = .ok (.iload_n 3, 1) := by decide +kernel
theorem dX9_isRest_3 : decode cX9_isRest 3 = .ok (.bipush 7, 2) := by decide +kernel
theorem dX9_isRest_5 : decode cX9_isRest 5 = .ok (.if_icmp .ge 41, 3) := by decide +kernel
theorem dX9_isRest_8 : decode cX9_isRest 8 = .ok (.iload_n 0, 1) := by decide +kernel
theorem dX9_isRest_9 : decode cX9_isRest 9 = .ok (.iload_n 3, 1) := by decide +kernel
theorem dX9_isRest_10 : decode cX9_isRest 10 = .ok (.iload_n 2, 1) := by decide +kernel
theorem dX9_isRest_11 : decode cX9_isRest 11 = .ok (.invokestatic 456, 3) := by decide +kernel
theorem dX9_isRest_14 : decode cX9_isRest 14 = .ok (.iload_n 0, 1) := by decide +kernel
theorem dX9_isRest_15 : decode cX9_isRest 15 = .ok (.iload_n 1, 1) := by decide +kernel
theorem dX9_isRest_16 : decode cX9_isRest 16 = .ok (.iload_n 2, 1) := by decide +kernel
theorem dX9_isRest_17 : decode cX9_isRest 17 = .ok (.invokestatic 456, 3) := by decide +kernel
theorem dX9_isRest_20 : decode cX9_isRest 20 = .ok (.if_icmp .gt 18, 3) := by decide +kernel
theorem dX9_isRest_23 : decode cX9_isRest 23 = .ok (.iload_n 0, 1) := by decide +kernel
theorem dX9_isRest_24 : decode cX9_isRest 24 = .ok (.iload_n 3, 1) := by decide +kernel
theorem dX9_isRest_25 : decode cX9_isRest 25 = .ok (.iload_n 1, 1) := by decide +kernel
theorem dX9_isRest_26 : decode cX9_isRest 26 = .ok (.invokestatic 456, 3) := by decide +kernel
theorem dX9_isRest_29 : decode cX9_isRest 29 = .ok (.iload_n 0, 1) := by decide +kernel
theorem dX9_isRest_30 : decode cX9_isRest 30 = .ok (.iload_n 2, 1) := by decide +kernel
theorem dX9_isRest_31 : decode cX9_isRest 31 = .ok (.iload_n 1, 1) := by decide +kernel
theorem dX9_isRest_32 : decode cX9_isRest 32 = .ok (.invokestatic 456, 3) := by decide +kernel
theorem dX9_isRest_35 : decode cX9_isRest 35 = .ok (.if_icmp .le 5, 3) := by decide +kernel
theorem dX9_isRest_38 : decode cX9_isRest 38 = .ok (.iconst 0, 1) := by decide +kernel
theorem dX9_isRest_39 : decode cX9_isRest 39 = .ok (.ireturn, 1) := by decide +kernel
theorem dX9_isRest_40 : decode cX9_isRest 40 = .ok (.iinc 3 1, 3) := by decide +kernel
theorem dX9_isRest_43 : decode cX9_isRest 43 = .ok (.goto (-41), 3) := by decide +kernel
theorem dX9_isRest_46 : decode cX9_isRest 46 = .ok (.iconst 1, 1) := by decide +kernel
theorem dX9_isRest_47 : decode cX9_isRest 47 = .ok (.ireturn, 1) := by decide +kernel
theorem dX9_refusesRests_0 : decode cX9_refusesRests 0 = .ok (.aload_n 0, 1) := by decide +kernel
theorem dX9_refusesRests_1 : decode cX9_refusesRests 1 = .ok (.getfield 316, 3) := by decide +kernel
theorem dX9_refusesRests_4 : decode cX9_refusesRests 4 = .ok (.ifnonnull 7, 3) := by decide +kernel
theorem dX9_refusesRests_7 : decode cX9_refusesRests 7 = .ok (.iconst 1, 1) := by decide +kernel
theorem dX9_refusesRests_8 : decode cX9_refusesRests 8 = .ok (.goto 18, 3) := by decide +kernel
theorem dX9_refusesRests_11 : decode cX9_refusesRests 11 = .ok (.iload_n 1, 1) := by decide +kernel
theorem dX9_refusesRests_12 : decode cX9_refusesRests 12 = .ok (.iconst 0, 1) := by decide +kernel
theorem dX9_refusesRests_13 : decode cX9_refusesRests 13 = .ok (.bipush 99, 2) := by decide +kernel
theorem dX9_refusesRests_15 : decode cX9_refusesRests 15 = .ok (.invokestatic 124, 3) := by decide +kernel
theorem dX9_refusesRests_18 : decode cX9_refusesRests 18 = .ok (.ifCond .eq 7, 3) := by decide +kernel
theorem dX9_refusesRests_21 : decode cX9_refusesRests 21 = .ok (.iconst 0, 1) := by decide +kernel
theorem dX9_refusesRests_22 : decode cX9_refusesRests 22 = .ok (.goto 4, 3) := by decide +kernel
theorem dX9_refusesRests_25 : decode cX9_refusesRests 25 = .ok (.iconst 2, 1) := by decide +kernel
theorem dX9_refusesRests_26 : decode cX9_refusesRests 26 = .ok (.ireturn, 1) := by decide +kernel
theorem dX9_rests_0 : decode cX9_rests 0 = .ok (.aload_n 0, 1) := by decide +kernel
theorem dX9_rests_1 : decode cX9_rests 1 = .ok (.iconst 0, 1) := by decide +kernel
theorem dX9_rests_2 : decode cX9_rests 2 = .ok (.putfield 45, 3) := by decide +kernel
theorem dX9_rests_5 : decode cX9_rests 5 = .ok (.aload_n 0, 1) := by decide +kernel
theorem dX9_rests_6 : decode cX9_rests 6 = .ok (.iload_n 1, 1) := by decide +kernel
theorem dX9_rests_7 : decode cX9_rests 7 = .ok (.invokevirtual 459, 3) := by decide +kernel
theorem dX9_rests_10 : decode cX9_rests 10 = .ok (.istore_n 2, 1) := by decide +kernel
theorem dX9_rests_11 : decode cX9_rests 11 = .ok (.iload_n 2, 1) := by decide +kernel
theorem dX9_rests_12 : decode cX9_rests 12 = .ok (.ifCond .le 9, 3) := by decide +kernel
theorem dX9_rests_15 : decode cX9_rests 15 = .ok (.aload_n 0, 1) := by decide +kernel
theorem dX9_rests_16 : decode cX9_rests 16 = .ok (.iload_n 2, 1) := by decide +kernel
theorem dX9_rests_17 : decode cX9_rests 17 = .ok (.invokevirtual 51, 3) := by decide +kernel
theorem dX9_rests_20 : decode cX9_rests 20 = .ok (.ireturn, 1) := by decide +kernel
theorem dX9_rests_21 : decode cX9_rests 21 = .ok (.iconst 0, 1) := by decide +kernel
theorem dX9_rests_22 : decode cX9_rests 22 = .ok (.istore_n 3, 1) := by decide +kernel
theorem dX9_rests_23 : decode cX9_rests 23 = .ok (.iconst 0, 1) := by decide +kernel
theorem dX9_rests_24 : decode cX9_rests 24 = .ok (.istore 4, 2) := by decide +kernel
theorem dX9_rests_26 : decode cX9_rests 26 = .ok (.iload 4, 2) := by decide +kernel
theorem dX9_rests_28 : decode cX9_rests 28 = .ok (.bipush 49, 2) := by decide +kernel
theorem dX9_rests_30 : decode cX9_rests 30 = .ok (.if_icmp .ge 34, 3) := by decide +kernel
theorem dX9_rests_33 : decode cX9_rests 33 = .ok (.iload_n 3, 1) := by decide +kernel
theorem dX9_rests_34 : decode cX9_rests 34 = .ok (.iload_n 1, 1) := by decide +kernel
theorem dX9_rests_35 : decode cX9_rests 35 = .ok (.iload 4, 2) := by decide +kernel
theorem dX9_rests_37 : decode cX9_rests 37 = .ok (.bipush 7, 2) := by decide +kernel
theorem dX9_rests_39 : decode cX9_rests 39 = .ok (.idiv, 1) := by decide +kernel
theorem dX9_rests_40 : decode cX9_rests 40 = .ok (.iload 4, 2) := by decide +kernel
theorem dX9_rests_42 : decode cX9_rests 42 = .ok (.bipush 7, 2) := by decide +kernel
theorem dX9_rests_44 : decode cX9_rests 44 = .ok (.irem, 1) := by decide +kernel
theorem dX9_rests_45 : decode cX9_rests 45 = .ok (.invokestatic 462, 3) := by decide +kernel
theorem dX9_rests_48 : decode cX9_rests 48 = .ok (.ifCond .eq 7, 3) := by decide +kernel
theorem dX9_rests_51 : decode cX9_rests 51 = .ok (.iconst 1, 1) := by decide +kernel
theorem dX9_rests_52 : decode cX9_rests 52 = .ok (.goto 4, 3) := by decide +kernel
theorem dX9_rests_55 : decode cX9_rests 55 = .ok (.iconst 0, 1) := by decide +kernel
theorem dX9_rests_56 : decode cX9_rests 56 = .ok (.iadd, 1) := by decide +kernel
theorem dX9_rests_57 : decode cX9_rests 57 = .ok (.istore_n 3, 1) := by decide +kernel
theorem dX9_rests_58 : decode cX9_rests 58 = .ok (.iinc 4 1, 3) := by decide +kernel
theorem dX9_rests_61 : decode cX9_rests 61 = .ok (.goto (-35), 3) := by decide +kernel
theorem dX9_rests_64 : decode cX9_rests 64 = .ok (.aload_n 0, 1) := by decide +kernel
theorem dX9_rests_65 : decode cX9_rests 65 = .ok (.iload_n 3, 1) := by decide +kernel
theorem dX9_rests_66 : decode cX9_rests 66 = .ok (.invokevirtual 55, 3) := by decide +kernel
theorem dX9_rests_69 : decode cX9_rests 69 = .ok (.ireturn, 1) := by decide +kernel
theorem dX9_rest_0 : decode cX9_rest 0 = .ok (.aload_n 0, 1) := by decide +kernel
theorem dX9_rest_1 : decode cX9_rest 1 = .ok (.iconst 0, 1) := by decide +kernel
theorem dX9_rest_2 : decode cX9_rest 2 = .ok (.putfield 45, 3) := by decide +kernel
theorem dX9_rest_5 : decode cX9_rest 5 = .ok (.aload_n 0, 1) := by decide +kernel
theorem dX9_rest_6 : decode cX9_rest 6 = .ok (.iload_n 1, 1) := by decide +kernel
theorem dX9_rest_7 : decode cX9_rest 7 = .ok (.invokevirtual 459, 3) := by decide +kernel
theorem dX9_rest_10 : decode cX9_rest 10 = .ok (.istore_n 2, 1) := by decide +kernel
theorem dX9_rest_11 : decode cX9_rest 11 = .ok (.iload_n 2, 1) := by decide +kernel
theorem dX9_rest_12 : decode cX9_rest 12 = .ok (.ifCond .le 9, 3) := by decide +kernel
theorem dX9_rest_15 : decode cX9_rest 15 = .ok (.aload_n 0, 1) := by decide +kernel
theorem dX9_rest_16 : decode cX9_rest 16 = .ok (.iload_n 2, 1) := by decide +kernel
theorem dX9_rest_17 : decode cX9_rest 17 = .ok (.invokevirtual 51, 3) := by decide +kernel
theorem dX9_rest_20 : decode cX9_rest 20 = .ok (.ireturn, 1) := by decide +kernel
theorem dX9_rest_21 : decode cX9_rest 21 = .ok (.iconst 0, 1) := by decide +kernel
theorem dX9_rest_22 : decode cX9_rest 22 = .ok (.istore_n 3, 1) := by decide +kernel
theorem dX9_rest_23 : decode cX9_rest 23 = .ok (.iload_n 3, 1) := by decide +kernel
theorem dX9_rest_24 : decode cX9_rest 24 = .ok (.bipush 49, 2) := by decide +kernel
theorem dX9_rest_26 : decode cX9_rest 26 = .ok (.if_icmp .ge 41, 3) := by decide +kernel
theorem dX9_rest_29 : decode cX9_rest 29 = .ok (.iload_n 1, 1) := by decide +kernel
theorem dX9_rest_30 : decode cX9_rest 30 = .ok (.iload_n 3, 1) := by decide +kernel
theorem dX9_rest_31 : decode cX9_rest 31 = .ok (.bipush 7, 2) := by decide +kernel
theorem dX9_rest_33 : decode cX9_rest 33 = .ok (.idiv, 1) := by decide +kernel
theorem dX9_rest_34 : decode cX9_rest 34 = .ok (.iload_n 3, 1) := by decide +kernel
theorem dX9_rest_35 : decode cX9_rest 35 = .ok (.bipush 7, 2) := by decide +kernel
theorem dX9_rest_37 : decode cX9_rest 37 = .ok (.irem, 1) := by decide +kernel
theorem dX9_rest_38 : decode cX9_rest 38 = .ok (.invokestatic 462, 3) := by decide +kernel
theorem dX9_rest_41 : decode cX9_rest 41 = .ok (.ifCond .eq 20, 3) := by decide +kernel
theorem dX9_rest_44 : decode cX9_rest 44 = .ok (.aload_n 0, 1) := by decide +kernel
theorem dX9_rest_45 : decode cX9_rest 45 = .ok (.bipush 10, 2) := by decide +kernel
theorem dX9_rest_47 : decode cX9_rest 47 = .ok (.iload_n 3, 1) := by decide +kernel
theorem dX9_rest_48 : decode cX9_rest 48 = .ok (.bipush 7, 2) := by decide +kernel
theorem dX9_rest_50 : decode cX9_rest 50 = .ok (.idiv, 1) := by decide +kernel
theorem dX9_rest_51 : decode cX9_rest 51 = .ok (.imul, 1) := by decide +kernel
theorem dX9_rest_52 : decode cX9_rest 52 = .ok (.iload_n 3, 1) := by decide +kernel
theorem dX9_rest_53 : decode cX9_rest 53 = .ok (.bipush 7, 2) := by decide +kernel
theorem dX9_rest_55 : decode cX9_rest 55 = .ok (.irem, 1) := by decide +kernel
theorem dX9_rest_56 : decode cX9_rest 56 = .ok (.iadd, 1) := by decide +kernel
theorem dX9_rest_57 : decode cX9_rest 57 = .ok (.invokevirtual 55, 3) := by decide +kernel
theorem dX9_rest_60 : decode cX9_rest 60 = .ok (.ireturn, 1) := by decide +kernel
theorem dX9_rest_61 : decode cX9_rest 61 = .ok (.iinc 3 1, 3) := by decide +kernel
theorem dX9_rest_64 : decode cX9_rest 64 = .ok (.goto (-41), 3) := by decide +kernel
theorem dX9_rest_67 : decode cX9_rest 67 = .ok (.aload_n 0, 1) := by decide +kernel
theorem dX9_rest_68 : decode cX9_rest 68 = .ok (.bipush (-2), 2) := by decide +kernel
theorem dX9_rest_70 : decode cX9_rest 70 = .ok (.invokevirtual 55, 3) := by decide +kernel
theorem dX9_rest_73 : decode cX9_rest 73 = .ok (.ireturn, 1) := by decide +kernel
theorem dX9_mosts_0 : decode cX9_mosts 0 = .ok (.iconst (-1), 1) := by decide +kernel
theorem dX9_mosts_1 : decode cX9_mosts 1 = .ok (.istore_n 2, 1) := by decide +kernel
theorem dX9_mosts_2 : decode cX9_mosts 2 = .ok (.iconst 0, 1) := by decide +kernel
theorem dX9_mosts_3 : decode cX9_mosts 3 = .ok (.istore_n 3, 1) := by decide +kernel
theorem dX9_mosts_4 : decode cX9_mosts 4 = .ok (.iload_n 3, 1) := by decide +kernel
theorem dX9_mosts_5 : decode cX9_mosts 5 = .ok (.aload_n 0, 1) := by decide +kernel
theorem dX9_mosts_6 : decode cX9_mosts 6 = .ok (.getfield 316, 3) := by decide +kernel
theorem dX9_mosts_9 : decode cX9_mosts 9 = .ok (.getfield 194, 3) := by decide +kernel
theorem dX9_mosts_12 : decode cX9_mosts 12 = .ok (.if_icmp .ge 70, 3) := by decide +kernel
theorem dX9_mosts_15 : decode cX9_mosts 15 = .ok (.aload_n 0, 1) := by decide +kernel
theorem dX9_mosts_16 : decode cX9_mosts 16 = .ok (.invokevirtual 393, 3) := by decide +kernel
theorem dX9_mosts_19 : decode cX9_mosts 19 = .ok (.aload_n 0, 1) := by decide +kernel
theorem dX9_mosts_20 : decode cX9_mosts 20 = .ok (.getfield 21, 3) := by decide +kernel
theorem dX9_mosts_23 : decode cX9_mosts 23 = .ok (.iconst 0, 1) := by decide +kernel
theorem dX9_mosts_24 : decode cX9_mosts 24 = .ok (.iload_n 3, 1) := by decide +kernel
theorem dX9_mosts_25 : decode cX9_mosts 25 = .ok (.iadd, 1) := by decide +kernel
theorem dX9_mosts_26 : decode cX9_mosts 26 = .ok (.iload_n 1, 1) := by decide +kernel
theorem dX9_mosts_27 : decode cX9_mosts 27 = .ok (.iastore, 1) := by decide +kernel
theorem dX9_mosts_28 : decode cX9_mosts 28 = .ok (.aload_n 0, 1) := by decide +kernel
theorem dX9_mosts_29 : decode cX9_mosts 29 = .ok (.aload_n 0, 1) := by decide +kernel
theorem dX9_mosts_30 : decode cX9_mosts 30 = .ok (.getfield 21, 3) := by decide +kernel
theorem dX9_mosts_33 : decode cX9_mosts 33 = .ok (.iconst 1, 1) := by decide +kernel
theorem dX9_mosts_34 : decode cX9_mosts 34 = .ok (.invokevirtual 352, 3) := by decide +kernel
theorem dX9_mosts_37 : decode cX9_mosts 37 = .ok (.iload_n 2, 1) := by decide +kernel
theorem dX9_mosts_38 : decode cX9_mosts 38 = .ok (.iconst (-1), 1) := by decide +kernel
theorem dX9_mosts_39 : decode cX9_mosts 39 = .ok (.if_icmp .eq 22, 3) := by decide +kernel
theorem dX9_mosts_42 : decode cX9_mosts 42 = .ok (.aload_n 0, 1) := by decide +kernel
theorem dX9_mosts_43 : decode cX9_mosts 43 = .ok (.aload_n 0, 1) := by decide +kernel
theorem dX9_mosts_44 : decode cX9_mosts 44 = .ok (.getfield 21, 3) := by decide +kernel
theorem dX9_mosts_47 : decode cX9_mosts 47 = .ok (.iload_n 1, 1) := by decide +kernel
theorem dX9_mosts_48 : decode cX9_mosts 48 = .ok (.invokevirtual 365, 3) := by decide +kernel
theorem dX9_mosts_51 : decode cX9_mosts 51 = .ok (.aload_n 0, 1) := by decide +kernel
theorem dX9_mosts_52 : decode cX9_mosts 52 = .ok (.getfield 465, 3) := by decide +kernel
theorem dX9_mosts_55 : decode cX9_mosts 55 = .ok (.if_icmp .gt 6, 3) := by decide +kernel
theorem dX9_mosts_58 : decode cX9_mosts 58 = .ok (.goto 18, 3) := by decide +kernel
theorem dX9_mosts_61 : decode cX9_mosts 61 = .ok (.iload_n 3, 1) := by decide +kernel
theorem dX9_mosts_62 : decode cX9_mosts 62 = .ok (.istore_n 2, 1) := by decide +kernel
theorem dX9_mosts_63 : decode cX9_mosts 63 = .ok (.aload_n 0, 1) := by decide +kernel
theorem dX9_mosts_64 : decode cX9_mosts 64 = .ok (.aload_n 0, 1) := by decide +kernel
theorem dX9_mosts_65 : decode cX9_mosts 65 = .ok (.aload_n 0, 1) := by decide +kernel
theorem dX9_mosts_66 : decode cX9_mosts 66 = .ok (.getfield 21, 3) := by decide +kernel
theorem dX9_mosts_69 : decode cX9_mosts 69 = .ok (.iload_n 1, 1) := by decide +kernel
theorem dX9_mosts_70 : decode cX9_mosts 70 = .ok (.invokevirtual 365, 3) := by decide +kernel
theorem dX9_mosts_73 : decode cX9_mosts 73 = .ok (.putfield 465, 3) := by decide +kernel
theorem dX9_mosts_76 : decode cX9_mosts 76 = .ok (.iinc 3 1, 3) := by decide +kernel
theorem dX9_mosts_79 : decode cX9_mosts 79 = .ok (.goto (-75), 3) := by decide +kernel
theorem dX9_mosts_82 : decode cX9_mosts 82 = .ok (.iload_n 2, 1) := by decide +kernel
theorem dX9_mosts_83 : decode cX9_mosts 83 = .ok (.ireturn, 1) := by decide +kernel
theorem dX9_most_0 : decode cX9_most 0 = .ok (.aload_n 0, 1) := by decide +kernel
theorem dX9_most_1 : decode cX9_most 1 = .ok (.iconst 0, 1) := by decide +kernel
theorem dX9_most_2 : decode cX9_most 2 = .ok (.putfield 45, 3) := by decide +kernel
theorem dX9_most_5 : decode cX9_most 5 = .ok (.aload_n 0, 1) := by decide +kernel
theorem dX9_most_6 : decode cX9_most 6 = .ok (.iload_n 1, 1) := by decide +kernel
theorem dX9_most_7 : decode cX9_most 7 = .ok (.invokevirtual 362, 3) := by decide +kernel
theorem dX9_most_10 : decode cX9_most 10 = .ok (.ifCond .eq 15, 3) := by decide +kernel
theorem dX9_most_13 : decode cX9_most 13 = .ok (.aload_n 0, 1) := by decide +kernel
theorem dX9_most_14 : decode cX9_most 14 = .ok (.aload_n 0, 1) := by decide +kernel
theorem dX9_most_15 : decode cX9_most 15 = .ok (.iload_n 1, 1) := by decide +kernel
theorem dX9_most_16 : decode cX9_most 16 = .ok (.invokevirtual 468, 3) := by decide +kernel
theorem dX9_most_19 : decode cX9_most 19 = .ok (.invokevirtual 55, 3) := by decide +kernel
theorem dX9_most_22 : decode cX9_most 22 = .ok (.goto 8, 3) := by decide +kernel
theorem dX9_most_25 : decode cX9_most 25 = .ok (.aload_n 0, 1) := by decide +kernel
theorem dX9_most_26 : decode cX9_most 26 = .ok (.iconst 1, 1) := by decide +kernel
theorem dX9_most_27 : decode cX9_most 27 = .ok (.invokevirtual 51, 3) := by decide +kernel
theorem dX9_most_30 : decode cX9_most 30 = .ok (.ireturn, 1) := by decide +kernel
theorem dX9_mostLands_0 : decode cX9_mostLands 0 = .ok (.aload_n 0, 1) := by decide +kernel
theorem dX9_mostLands_1 : decode cX9_mostLands 1 = .ok (.iconst 0, 1) := by decide +kernel
theorem dX9_mostLands_2 : decode cX9_mostLands 2 = .ok (.putfield 45, 3) := by decide +kernel
theorem dX9_mostLands_5 : decode cX9_mostLands 5 = .ok (.aload_n 0, 1) := by decide +kernel
theorem dX9_mostLands_6 : decode cX9_mostLands 6 = .ok (.iload_n 1, 1) := by decide +kernel
theorem dX9_mostLands_7 : decode cX9_mostLands 7 = .ok (.invokevirtual 362, 3) := by decide +kernel
theorem dX9_mostLands_10 : decode cX9_mostLands 10 = .ok (.ifCond .ne 9, 3) := by decide +kernel
theorem dX9_mostLands_13 : decode cX9_mostLands 13 = .ok (.aload_n 0, 1) := by decide +kernel
theorem dX9_mostLands_14 : decode cX9_mostLands 14 = .ok (.iconst 1, 1) := by decide +kernel
theorem dX9_mostLands_15 : decode cX9_mostLands 15 = .ok (.invokevirtual 51, 3) := by decide +kernel
theorem dX9_mostLands_18 : decode cX9_mostLands 18 = .ok (.ireturn, 1) := by decide +kernel
theorem dX9_mostLands_19 : decode cX9_mostLands 19 = .ok (.aload_n 0, 1) := by decide +kernel
theorem dX9_mostLands_20 : decode cX9_mostLands 20 = .ok (.iload_n 1, 1) := by decide +kernel
theorem dX9_mostLands_21 : decode cX9_mostLands 21 = .ok (.invokevirtual 468, 3) := by decide +kernel
theorem dX9_mostLands_24 : decode cX9_mostLands 24 = .ok (.pop, 1) := by decide +kernel
theorem dX9_mostLands_25 : decode cX9_mostLands 25 = .ok (.aload_n 0, 1) := by decide +kernel
theorem dX9_mostLands_26 : decode cX9_mostLands 26 = .ok (.aload_n 0, 1) := by decide +kernel
theorem dX9_mostLands_27 : decode cX9_mostLands 27 = .ok (.getfield 465, 3) := by decide +kernel
theorem dX9_mostLands_30 : decode cX9_mostLands 30 = .ok (.invokevirtual 55, 3) := by decide +kernel
theorem dX9_mostLands_33 : decode cX9_mostLands 33 = .ok (.ireturn, 1) := by decide +kernel
theorem dX9_draw_0 : decode cX9_draw 0 = .ok (.aload_n 0, 1) := by decide +kernel
theorem dX9_draw_1 : decode cX9_draw 1 = .ok (.ldc2_w 471, 3) := by decide +kernel
theorem dX9_draw_4 : decode cX9_draw 4 = .ok (.aload_n 0, 1) := by decide +kernel
theorem dX9_draw_5 : decode cX9_draw 5 = .ok (.getfield 473, 3) := by decide +kernel
theorem dX9_draw_8 : decode cX9_draw 8 = .ok (.i2l, 1) := by decide +kernel
theorem dX9_draw_9 : decode cX9_draw 9 = .ok (.lmul, 1) := by decide +kernel
theorem dX9_draw_10 : decode cX9_draw 10 = .ok (.ldc2_w 476, 3) := by decide +kernel
theorem dX9_draw_13 : decode cX9_draw 13 = .ok (.ladd, 1) := by decide +kernel
theorem dX9_draw_14 : decode cX9_draw 14 = .ok (.ldc2_w 478, 3) := by decide +kernel
theorem dX9_draw_17 : decode cX9_draw 17 = .ok (.lrem, 1) := by decide +kernel
theorem dX9_draw_18 : decode cX9_draw 18 = .ok (.l2i, 1) := by decide +kernel
theorem dX9_draw_19 : decode cX9_draw 19 = .ok (.putfield 473, 3) := by decide +kernel
theorem dX9_draw_22 : decode cX9_draw 22 = .ok (.aload_n 0, 1) := by decide +kernel
theorem dX9_draw_23 : decode cX9_draw 23 = .ok (.getfield 473, 3) := by decide +kernel
theorem dX9_draw_26 : decode cX9_draw 26 = .ok (.iload_n 1, 1) := by decide +kernel
theorem dX9_draw_27 : decode cX9_draw 27 = .ok (.irem, 1) := by decide +kernel
theorem dX9_draw_28 : decode cX9_draw 28 = .ok (.ireturn, 1) := by decide +kernel
theorem dX9_centuries_0 : decode cX9_centuries 0 = .ok (.iload_n 1, 1) := by decide +kernel
theorem dX9_centuries_1 : decode cX9_centuries 1 = .ok (.ifCond .ne 5, 3) := by decide +kernel
theorem dX9_centuries_4 : decode cX9_centuries 4 = .ok (.iconst 1, 1) := by decide +kernel
theorem dX9_centuries_5 : decode cX9_centuries 5 = .ok (.ireturn, 1) := by decide +kernel
theorem dX9_centuries_6 : decode cX9_centuries 6 = .ok (.iload_n 2, 1) := by decide +kernel
theorem dX9_centuries_7 : decode cX9_centuries 7 = .ok (.iconst 0, 1) := by decide +kernel
theorem dX9_centuries_8 : decode cX9_centuries 8 = .ok (.ldc_w 480, 3) := by decide +kernel
theorem dX9_centuries_11 : decode cX9_centuries 11 = .ok (.invokestatic 124, 3) := by decide +kernel
theorem dX9_centuries_14 : decode cX9_centuries 14 = .ok (.ifCond .eq 13, 3) := by decide +kernel
theorem dX9_centuries_17 : decode cX9_centuries 17 = .ok (.iload_n 3, 1) := by decide +kernel
theorem dX9_centuries_18 : decode cX9_centuries 18 = .ok (.iconst 0, 1) := by decide +kernel
theorem dX9_centuries_19 : decode cX9_centuries 19 = .ok (.bipush 60, 2) := by decide +kernel
theorem dX9_centuries_21 : decode cX9_centuries 21 = .ok (.invokestatic 124, 3) := by decide +kernel
theorem dX9_centuries_24 : decode cX9_centuries 24 = .ok (.ifCond .ne 5, 3) := by decide +kernel
theorem dX9_centuries_27 : decode cX9_centuries 27 = .ok (.iconst 2, 1) := by decide +kernel
theorem dX9_centuries_28 : decode cX9_centuries 28 = .ok (.ireturn, 1) := by decide +kernel
theorem dX9_centuries_29 : decode cX9_centuries 29 = .ok (.aload_n 0, 1) := by decide +kernel
theorem dX9_centuries_30 : decode cX9_centuries 30 = .ok (.iload_n 2, 1) := by decide +kernel
theorem dX9_centuries_31 : decode cX9_centuries 31 = .ok (.putfield 473, 3) := by decide +kernel
theorem dX9_centuries_34 : decode cX9_centuries 34 = .ok (.aload_n 0, 1) := by decide +kernel
theorem dX9_centuries_35 : decode cX9_centuries 35 = .ok (.invokevirtual 393, 3) := by decide +kernel
theorem dX9_centuries_38 : decode cX9_centuries 38 = .ok (.iconst 0, 1) := by decide +kernel
theorem dX9_centuries_39 : decode cX9_centuries 39 = .ok (.istore 4, 2) := by decide +kernel
theorem dX9_centuries_41 : decode cX9_centuries 41 = .ok (.iload 4, 2) := by decide +kernel
theorem dX9_centuries_43 : decode cX9_centuries 43 = .ok (.iload_n 3, 1) := by decide +kernel
theorem dX9_centuries_44 : decode cX9_centuries 44 = .ok (.if_icmp .ge 71, 3) := by decide +kernel
theorem dX9_centuries_47 : decode cX9_centuries 47 = .ok (.aload_n 0, 1) := by decide +kernel
theorem dX9_centuries_48 : decode cX9_centuries 48 = .ok (.aload_n 0, 1) := by decide +kernel
theorem dX9_centuries_49 : decode cX9_centuries 49 = .ok (.getfield 316, 3) := by decide +kernel
theorem dX9_centuries_52 : decode cX9_centuries 52 = .ok (.getfield 194, 3) := by decide +kernel
theorem dX9_centuries_55 : decode cX9_centuries 55 = .ok (.invokevirtual 481, 3) := by decide +kernel
theorem dX9_centuries_58 : decode cX9_centuries 58 = .ok (.istore 5, 2) := by decide +kernel
theorem dX9_centuries_60 : decode cX9_centuries 60 = .ok (.aload_n 0, 1) := by decide +kernel
theorem dX9_centuries_61 : decode cX9_centuries 61 = .ok (.getfield 21, 3) := by decide +kernel
theorem dX9_centuries_64 : decode cX9_centuries 64 = .ok (.iconst 0, 1) := by decide +kernel
theorem dX9_centuries_65 : decode cX9_centuries 65 = .ok (.iload 5, 2) := by decide +kernel
theorem dX9_centuries_67 : decode cX9_centuries 67 = .ok (.iadd, 1) := by decide +kernel
theorem dX9_centuries_68 : decode cX9_centuries 68 = .ok (.aload_n 0, 1) := by decide +kernel
theorem dX9_centuries_69 : decode cX9_centuries 69 = .ok (.aload_n 0, 1) := by decide +kernel
theorem dX9_centuries_70 : decode cX9_centuries 70 = .ok (.getfield 316, 3) := by decide +kernel
theorem dX9_centuries_73 : decode cX9_centuries 73 = .ok (.getfield 191, 3) := by decide +kernel
theorem dX9_centuries_76 : decode cX9_centuries 76 = .ok (.invokevirtual 481, 3) := by decide +kernel
theorem dX9_centuries_79 : decode cX9_centuries 79 = .ok (.iastore, 1) := by decide +kernel
theorem dX9_centuries_80 : decode cX9_centuries 80 = .ok (.aload_n 0, 1) := by decide +kernel
theorem dX9_centuries_81 : decode cX9_centuries 81 = .ok (.aload_n 0, 1) := by decide +kernel
theorem dX9_centuries_82 : decode cX9_centuries 82 = .ok (.getfield 21, 3) := by decide +kernel
theorem dX9_centuries_85 : decode cX9_centuries 85 = .ok (.aload_n 0, 1) := by decide +kernel
theorem dX9_centuries_86 : decode cX9_centuries 86 = .ok (.bipush 100, 2) := by decide +kernel
theorem dX9_centuries_88 : decode cX9_centuries 88 = .ok (.invokevirtual 481, 3) := by decide +kernel
theorem dX9_centuries_91 : decode cX9_centuries 91 = .ok (.aload_n 0, 1) := by decide +kernel
theorem dX9_centuries_92 : decode cX9_centuries 92 = .ok (.getfield 316, 3) := by decide +kernel
theorem dX9_centuries_95 : decode cX9_centuries 95 = .ok (.getfield 232, 3) := by decide +kernel
theorem dX9_centuries_98 : decode cX9_centuries 98 = .ok (.if_icmp .ge 7, 3) := by decide +kernel
theorem dX9_centuries_101 : decode cX9_centuries 101 = .ok (.iconst 1, 1) := by decide +kernel
theorem dX9_centuries_102 : decode cX9_centuries 102 = .ok (.goto 4, 3) := by decide +kernel
theorem dX9_centuries_105 : decode cX9_centuries 105 = .ok (.iconst 0, 1) := by decide +kernel
theorem dX9_centuries_106 : decode cX9_centuries 106 = .ok (.invokevirtual 352, 3) := by decide +kernel
theorem dX9_centuries_109 : decode cX9_centuries 109 = .ok (.iinc 4 1, 3) := by decide +kernel
theorem dX9_centuries_112 : decode cX9_centuries 112 = .ok (.goto (-71), 3) := by decide +kernel
theorem dX9_centuries_115 : decode cX9_centuries 115 = .ok (.iconst 0, 1) := by decide +kernel
theorem dX9_centuries_116 : decode cX9_centuries 116 = .ok (.ireturn, 1) := by decide +kernel
theorem dX9_century_0 : decode cX9_century 0 = .ok (.aload_n 0, 1) := by decide +kernel
theorem dX9_century_1 : decode cX9_century 1 = .ok (.iconst 0, 1) := by decide +kernel
theorem dX9_century_2 : decode cX9_century 2 = .ok (.putfield 45, 3) := by decide +kernel
theorem dX9_century_5 : decode cX9_century 5 = .ok (.aload_n 0, 1) := by decide +kernel
theorem dX9_century_6 : decode cX9_century 6 = .ok (.aload_n 0, 1) := by decide +kernel
theorem dX9_century_7 : decode cX9_century 7 = .ok (.iload_n 1, 1) := by decide +kernel
theorem dX9_century_8 : decode cX9_century 8 = .ok (.invokevirtual 362, 3) := by decide +kernel
theorem dX9_century_11 : decode cX9_century 11 = .ok (.iload_n 2, 1) := by decide +kernel
theorem dX9_century_12 : decode cX9_century 12 = .ok (.iload_n 3, 1) := by decide +kernel
theorem dX9_century_13 : decode cX9_century 13 = .ok (.invokevirtual 484, 3) := by decide +kernel
theorem dX9_century_16 : decode cX9_century 16 = .ok (.istore 4, 2) := by decide +kernel
theorem dX9_century_18 : decode cX9_century 18 = .ok (.iload 4, 2) := by decide +kernel
theorem dX9_century_20 : decode cX9_century 20 = .ok (.ifCond .le 12, 3) := by decide +kernel
theorem dX9_century_23 : decode cX9_century 23 = .ok (.aload_n 0, 1) := by decide +kernel
theorem dX9_century_24 : decode cX9_century 24 = .ok (.iload 4, 2) := by decide +kernel
theorem dX9_century_26 : decode cX9_century 26 = .ok (.invokevirtual 51, 3) := by decide +kernel
theorem dX9_century_29 : decode cX9_century 29 = .ok (.goto 16, 3) := by decide +kernel
theorem dX9_century_32 : decode cX9_century 32 = .ok (.aload_n 0, 1) := by decide +kernel
theorem dX9_century_33 : decode cX9_century 33 = .ok (.aload_n 0, 1) := by decide +kernel
theorem dX9_century_34 : decode cX9_century 34 = .ok (.aload_n 0, 1) := by decide +kernel
theorem dX9_century_35 : decode cX9_century 35 = .ok (.getfield 21, 3) := by decide +kernel
theorem dX9_century_38 : decode cX9_century 38 = .ok (.iload_n 1, 1) := by decide +kernel
theorem dX9_century_39 : decode cX9_century 39 = .ok (.invokevirtual 365, 3) := by decide +kernel
theorem dX9_century_42 : decode cX9_century 42 = .ok (.invokevirtual 55, 3) := by decide +kernel
theorem dX9_century_45 : decode cX9_century 45 = .ok (.ireturn, 1) := by decide +kernel
theorem dX9_untitled_0 : decode cX9_untitled 0 = .ok (.aload_n 0, 1) := by decide +kernel
theorem dX9_untitled_1 : decode cX9_untitled 1 = .ok (.iconst 0, 1) := by decide +kernel
theorem dX9_untitled_2 : decode cX9_untitled 2 = .ok (.putfield 45, 3) := by decide +kernel
theorem dX9_untitled_5 : decode cX9_untitled 5 = .ok (.aload_n 0, 1) := by decide +kernel
theorem dX9_untitled_6 : decode cX9_untitled 6 = .ok (.aload_n 0, 1) := by decide +kernel
theorem dX9_untitled_7 : decode cX9_untitled 7 = .ok (.getfield 316, 3) := by decide +kernel
theorem dX9_untitled_10 : decode cX9_untitled 10 = .ok (.ifnull 7, 3) := by decide +kernel
theorem dX9_untitled_13 : decode cX9_untitled 13 = .ok (.iconst 1, 1) := by decide +kernel
theorem dX9_untitled_14 : decode cX9_untitled 14 = .ok (.goto 4, 3) := by decide +kernel
theorem dX9_untitled_17 : decode cX9_untitled 17 = .ok (.iconst 0, 1) := by decide +kernel
theorem dX9_untitled_18 : decode cX9_untitled 18 = .ok (.iload_n 1, 1) := by decide +kernel
theorem dX9_untitled_19 : decode cX9_untitled 19 = .ok (.iload_n 2, 1) := by decide +kernel
theorem dX9_untitled_20 : decode cX9_untitled 20 = .ok (.invokevirtual 484, 3) := by decide +kernel
theorem dX9_untitled_23 : decode cX9_untitled 23 = .ok (.istore_n 3, 1) := by decide +kernel
theorem dX9_untitled_24 : decode cX9_untitled 24 = .ok (.iload_n 3, 1) := by decide +kernel
theorem dX9_untitled_25 : decode cX9_untitled 25 = .ok (.ifCond .le 9, 3) := by decide +kernel
theorem dX9_untitled_28 : decode cX9_untitled 28 = .ok (.aload_n 0, 1) := by decide +kernel
theorem dX9_untitled_29 : decode cX9_untitled 29 = .ok (.iload_n 3, 1) := by decide +kernel
theorem dX9_untitled_30 : decode cX9_untitled 30 = .ok (.invokevirtual 51, 3) := by decide +kernel
theorem dX9_untitled_33 : decode cX9_untitled 33 = .ok (.ireturn, 1) := by decide +kernel
theorem dX9_untitled_34 : decode cX9_untitled 34 = .ok (.iconst 0, 1) := by decide +kernel
theorem dX9_untitled_35 : decode cX9_untitled 35 = .ok (.istore 4, 2) := by decide +kernel
theorem dX9_untitled_37 : decode cX9_untitled 37 = .ok (.iconst 0, 1) := by decide +kernel
theorem dX9_untitled_38 : decode cX9_untitled 38 = .ok (.istore 5, 2) := by decide +kernel
theorem dX9_untitled_40 : decode cX9_untitled 40 = .ok (.iload 5, 2) := by decide +kernel
theorem dX9_untitled_42 : decode cX9_untitled 42 = .ok (.aload_n 0, 1) := by decide +kernel
theorem dX9_untitled_43 : decode cX9_untitled 43 = .ok (.getfield 316, 3) := by decide +kernel
theorem dX9_untitled_46 : decode cX9_untitled 46 = .ok (.getfield 194, 3) := by decide +kernel
theorem dX9_untitled_49 : decode cX9_untitled 49 = .ok (.if_icmp .ge 33, 3) := by decide +kernel
theorem dX9_untitled_52 : decode cX9_untitled 52 = .ok (.iload 4, 2) := by decide +kernel
theorem dX9_untitled_54 : decode cX9_untitled 54 = .ok (.aload_n 0, 1) := by decide +kernel
theorem dX9_untitled_55 : decode cX9_untitled 55 = .ok (.getfield 21, 3) := by decide +kernel
theorem dX9_untitled_58 : decode cX9_untitled 58 = .ok (.iconst 5, 1) := by decide +kernel
theorem dX9_untitled_59 : decode cX9_untitled 59 = .ok (.iload 5, 2) := by decide +kernel
theorem dX9_untitled_61 : decode cX9_untitled 61 = .ok (.iadd, 1) := by decide +kernel
theorem dX9_untitled_62 : decode cX9_untitled 62 = .ok (.iaload, 1) := by decide +kernel
theorem dX9_untitled_63 : decode cX9_untitled 63 = .ok (.bipush (-2), 2) := by decide +kernel
theorem dX9_untitled_65 : decode cX9_untitled 65 = .ok (.if_icmp .ne 7, 3) := by decide +kernel
theorem dX9_untitled_68 : decode cX9_untitled 68 = .ok (.iconst 1, 1) := by decide +kernel
theorem dX9_untitled_69 : decode cX9_untitled 69 = .ok (.goto 4, 3) := by decide +kernel
theorem dX9_untitled_72 : decode cX9_untitled 72 = .ok (.iconst 0, 1) := by decide +kernel
theorem dX9_untitled_73 : decode cX9_untitled 73 = .ok (.iadd, 1) := by decide +kernel
theorem dX9_untitled_74 : decode cX9_untitled 74 = .ok (.istore 4, 2) := by decide +kernel
theorem dX9_untitled_76 : decode cX9_untitled 76 = .ok (.iinc 5 1, 3) := by decide +kernel
theorem dX9_untitled_79 : decode cX9_untitled 79 = .ok (.goto (-39), 3) := by decide +kernel
theorem dX9_untitled_82 : decode cX9_untitled 82 = .ok (.aload_n 0, 1) := by decide +kernel
theorem dX9_untitled_83 : decode cX9_untitled 83 = .ok (.iload 4, 2) := by decide +kernel
theorem dX9_untitled_85 : decode cX9_untitled 85 = .ok (.invokevirtual 55, 3) := by decide +kernel
theorem dX9_untitled_88 : decode cX9_untitled 88 = .ok (.ireturn, 1) := by decide +kernel
theorem dX9_remembers_0 : decode cX9_remembers 0 = .ok (.aload_n 0, 1) := by decide +kernel
theorem dX9_remembers_1 : decode cX9_remembers 1 = .ok (.getfield 322, 3) := by decide +kernel
theorem dX9_remembers_4 : decode cX9_remembers 4 = .ok (.bipush 16, 2) := by decide +kernel
theorem dX9_remembers_6 : decode cX9_remembers 6 = .ok (.if_icmp .ne 43, 3) := by decide +kernel
theorem dX9_remembers_9 : decode cX9_remembers 9 = .ok (.iconst 0, 1) := by decide +kernel
theorem dX9_remembers_10 : decode cX9_remembers 10 = .ok (.istore_n 1, 1) := by decide +kernel
theorem dX9_remembers_11 : decode cX9_remembers 11 = .ok (.iload_n 1, 1) := by decide +kernel
theorem dX9_remembers_12 : decode cX9_remembers 12 = .ok (.sipush 165, 3) := by decide +kernel
theorem dX9_remembers_15 : decode cX9_remembers 15 = .ok (.if_icmp .ge 24, 3) := by decide +kernel
theorem dX9_remembers_18 : decode cX9_remembers 18 = .ok (.aload_n 0, 1) := by decide +kernel
theorem dX9_remembers_19 : decode cX9_remembers 19 = .ok (.getfield 24, 3) := by decide +kernel
theorem dX9_remembers_22 : decode cX9_remembers 22 = .ok (.iload_n 1, 1) := by decide +kernel
theorem dX9_remembers_23 : decode cX9_remembers 23 = .ok (.aload_n 0, 1) := by decide +kernel
theorem dX9_remembers_24 : decode cX9_remembers 24 = .ok (.getfield 24, 3) := by decide +kernel
theorem dX9_remembers_27 : decode cX9_remembers 27 = .ok (.iload_n 1, 1) := by decide +kernel
theorem dX9_remembers_28 : decode cX9_remembers 28 = .ok (.bipush 11, 2) := by decide +kernel
theorem dX9_remembers_30 : decode cX9_remembers 30 = .ok (.iadd, 1) := by decide +kernel
theorem dX9_remembers_31 : decode cX9_remembers 31 = .ok (.iaload, 1) := by decide +kernel
theorem dX9_remembers_32 : decode cX9_remembers 32 = .ok (.iastore, 1) := by decide +kernel
theorem dX9_remembers_33 : decode cX9_remembers 33 = .ok (.iinc 1 1, 3) := by decide +kernel
theorem dX9_remembers_36 : decode cX9_remembers 36 = .ok (.goto (-25), 3) := by decide +kernel
theorem dX9_remembers_39 : decode cX9_remembers 39 = .ok (.aload_n 0, 1) := by decide +kernel
theorem dX9_remembers_40 : decode cX9_remembers 40 = .ok (.dup, 1) := by decide +kernel
theorem dX9_remembers_41 : decode cX9_remembers 41 = .ok (.getfield 322, 3) := by decide +kernel
theorem dX9_remembers_44 : decode cX9_remembers 44 = .ok (.iconst 1, 1) := by decide +kernel
theorem dX9_remembers_45 : decode cX9_remembers 45 = .ok (.isub, 1) := by decide +kernel
theorem dX9_remembers_46 : decode cX9_remembers 46 = .ok (.putfield 322, 3) := by decide +kernel
theorem dX9_remembers_49 : decode cX9_remembers 49 = .ok (.iconst 0, 1) := by decide +kernel
theorem dX9_remembers_50 : decode cX9_remembers 50 = .ok (.istore_n 1, 1) := by decide +kernel
theorem dX9_remembers_51 : decode cX9_remembers 51 = .ok (.iload_n 1, 1) := by decide +kernel
theorem dX9_remembers_52 : decode cX9_remembers 52 = .ok (.bipush 11, 2) := by decide +kernel
theorem dX9_remembers_54 : decode cX9_remembers 54 = .ok (.if_icmp .ge 29, 3) := by decide +kernel
theorem dX9_remembers_57 : decode cX9_remembers 57 = .ok (.aload_n 0, 1) := by decide +kernel
theorem dX9_remembers_58 : decode cX9_remembers 58 = .ok (.getfield 24, 3) := by decide +kernel
theorem dX9_remembers_61 : decode cX9_remembers 61 = .ok (.bipush 11, 2) := by decide +kernel
theorem dX9_remembers_63 : decode cX9_remembers 63 = .ok (.aload_n 0, 1) := by decide +kernel
theorem dX9_remembers_64 : decode cX9_remembers 64 = .ok (.getfield 322, 3) := by decide +kernel
theorem dX9_remembers_67 : decode cX9_remembers 67 = .ok (.imul, 1) := by decide +kernel
theorem dX9_remembers_68 : decode cX9_remembers 68 = .ok (.iload_n 1, 1) := by decide +kernel
theorem dX9_remembers_69 : decode cX9_remembers 69 = .ok (.iadd, 1) := by decide +kernel
theorem dX9_remembers_70 : decode cX9_remembers 70 = .ok (.aload_n 0, 1) := by decide +kernel
theorem dX9_remembers_71 : decode cX9_remembers 71 = .ok (.getfield 17, 3) := by decide +kernel
theorem dX9_remembers_74 : decode cX9_remembers 74 = .ok (.iload_n 1, 1) := by decide +kernel
theorem dX9_remembers_75 : decode cX9_remembers 75 = .ok (.iaload, 1) := by decide +kernel
theorem dX9_remembers_76 : decode cX9_remembers 76 = .ok (.iastore, 1) := by decide +kernel
theorem dX9_remembers_77 : decode cX9_remembers 77 = .ok (.iinc 1 1, 3) := by decide +kernel
theorem dX9_remembers_80 : decode cX9_remembers 80 = .ok (.goto (-29), 3) := by decide +kernel
theorem dX9_remembers_83 : decode cX9_remembers 83 = .ok (.aload_n 0, 1) := by decide +kernel
theorem dX9_remembers_84 : decode cX9_remembers 84 = .ok (.dup, 1) := by decide +kernel
theorem dX9_remembers_85 : decode cX9_remembers 85 = .ok (.getfield 322, 3) := by decide +kernel
theorem dX9_remembers_88 : decode cX9_remembers 88 = .ok (.iconst 1, 1) := by decide +kernel
theorem dX9_remembers_89 : decode cX9_remembers 89 = .ok (.iadd, 1) := by decide +kernel
theorem dX9_remembers_90 : decode cX9_remembers 90 = .ok (.putfield 322, 3) := by decide +kernel
theorem dX9_remembers_93 : decode cX9_remembers 93 = .ok (.return_, 1) := by decide +kernel
theorem dX9_lend_0 : decode cX9_lend 0 = .ok (.aload_n 0, 1) := by decide +kernel
theorem dX9_lend_1 : decode cX9_lend 1 = .ok (.iconst 0, 1) := by decide +kernel
theorem dX9_lend_2 : decode cX9_lend 2 = .ok (.putfield 45, 3) := by decide +kernel
theorem dX9_lend_5 : decode cX9_lend 5 = .ok (.aload_n 0, 1) := by decide +kernel
theorem dX9_lend_6 : decode cX9_lend 6 = .ok (.iload_n 1, 1) := by decide +kernel
theorem dX9_lend_7 : decode cX9_lend 7 = .ok (.invokevirtual 359, 3) := by decide +kernel
theorem dX9_lend_10 : decode cX9_lend 10 = .ok (.ifCond .eq 11, 3) := by decide +kernel
theorem dX9_lend_13 : decode cX9_lend 13 = .ok (.aload_n 0, 1) := by decide +kernel
theorem dX9_lend_14 : decode cX9_lend 14 = .ok (.iload_n 2, 1) := by decide +kernel
theorem dX9_lend_15 : decode cX9_lend 15 = .ok (.invokevirtual 362, 3) := by decide +kernel
theorem dX9_lend_18 : decode cX9_lend 18 = .ok (.ifCond .ne 9, 3) := by decide +kernel
theorem dX9_lend_21 : decode cX9_lend 21 = .ok (.aload_n 0, 1) := by decide +kernel
theorem dX9_lend_22 : decode cX9_lend 22 = .ok (.iconst 1, 1) := by decide +kernel
theorem dX9_lend_23 : decode cX9_lend 23 = .ok (.invokevirtual 488, 3) := by decide +kernel
theorem dX9_lend_26 : decode cX9_lend 26 = .ok (.ireturn, 1) := by decide +kernel
theorem dX9_lend_27 : decode cX9_lend 27 = .ok (.aload_n 0, 1) := by decide +kernel
theorem dX9_lend_28 : decode cX9_lend 28 = .ok (.getfield 17, 3) := by decide +kernel
theorem dX9_lend_31 : decode cX9_lend 31 = .ok (.iconst 0, 1) := by decide +kernel
theorem dX9_lend_32 : decode cX9_lend 32 = .ok (.iload_n 1, 1) := by decide +kernel
theorem dX9_lend_33 : decode cX9_lend 33 = .ok (.iadd, 1) := by decide +kernel
theorem dX9_lend_34 : decode cX9_lend 34 = .ok (.iaload, 1) := by decide +kernel
theorem dX9_lend_35 : decode cX9_lend 35 = .ok (.iload_n 2, 1) := by decide +kernel
theorem dX9_lend_36 : decode cX9_lend 36 = .ok (.if_icmp .ne 9, 3) := by decide +kernel
theorem dX9_lend_39 : decode cX9_lend 39 = .ok (.aload_n 0, 1) := by decide +kernel
theorem dX9_lend_40 : decode cX9_lend 40 = .ok (.iconst 5, 1) := by decide +kernel
theorem dX9_lend_41 : decode cX9_lend 41 = .ok (.invokevirtual 488, 3) := by decide +kernel
theorem dX9_lend_44 : decode cX9_lend 44 = .ok (.ireturn, 1) := by decide +kernel
theorem dX9_lend_45 : decode cX9_lend 45 = .ok (.aload_n 0, 1) := by decide +kernel
theorem dX9_lend_46 : decode cX9_lend 46 = .ok (.invokevirtual 491, 3) := by decide +kernel
theorem dX9_lend_49 : decode cX9_lend 49 = .ok (.aload_n 0, 1) := by decide +kernel
theorem dX9_lend_50 : decode cX9_lend 50 = .ok (.getfield 17, 3) := by decide +kernel
theorem dX9_lend_53 : decode cX9_lend 53 = .ok (.iconst 0, 1) := by decide +kernel
theorem dX9_lend_54 : decode cX9_lend 54 = .ok (.iload_n 1, 1) := by decide +kernel
theorem dX9_lend_55 : decode cX9_lend 55 = .ok (.iadd, 1) := by decide +kernel
theorem dX9_lend_56 : decode cX9_lend 56 = .ok (.iload_n 2, 1) := by decide +kernel
theorem dX9_lend_57 : decode cX9_lend 57 = .ok (.iastore, 1) := by decide +kernel
theorem dX9_lend_58 : decode cX9_lend 58 = .ok (.aload_n 0, 1) := by decide +kernel
theorem dX9_lend_59 : decode cX9_lend 59 = .ok (.invokevirtual 494, 3) := by decide +kernel
theorem dX9_lend_62 : decode cX9_lend 62 = .ok (.ireturn, 1) := by decide +kernel
theorem dX9_leave_0 : decode cX9_leave 0 = .ok (.aload_n 0, 1) := by decide +kernel
theorem dX9_leave_1 : decode cX9_leave 1 = .ok (.iconst 0, 1) := by decide +kernel
theorem dX9_leave_2 : decode cX9_leave 2 = .ok (.putfield 45, 3) := by decide +kernel
theorem dX9_leave_5 : decode cX9_leave 5 = .ok (.aload_n 0, 1) := by decide +kernel
theorem dX9_leave_6 : decode cX9_leave 6 = .ok (.iload_n 1, 1) := by decide +kernel
theorem dX9_leave_7 : decode cX9_leave 7 = .ok (.invokevirtual 359, 3) := by decide +kernel
theorem dX9_leave_10 : decode cX9_leave 10 = .ok (.ifCond .ne 9, 3) := by decide +kernel
theorem dX9_leave_13 : decode cX9_leave 13 = .ok (.aload_n 0, 1) := by decide +kernel
theorem dX9_leave_14 : decode cX9_leave 14 = .ok (.iconst 1, 1) := by decide +kernel
theorem dX9_leave_15 : decode cX9_leave 15 = .ok (.invokevirtual 488, 3) := by decide +kernel
theorem dX9_leave_18 : decode cX9_leave 18 = .ok (.ireturn, 1) := by decide +kernel
theorem dX9_leave_19 : decode cX9_leave 19 = .ok (.aload_n 0, 1) := by decide +kernel
theorem dX9_leave_20 : decode cX9_leave 20 = .ok (.getfield 17, 3) := by decide +kernel
theorem dX9_leave_23 : decode cX9_leave 23 = .ok (.iconst 0, 1) := by decide +kernel
theorem dX9_leave_24 : decode cX9_leave 24 = .ok (.iload_n 1, 1) := by decide +kernel
theorem dX9_leave_25 : decode cX9_leave 25 = .ok (.iadd, 1) := by decide +kernel
theorem dX9_leave_26 : decode cX9_leave 26 = .ok (.iaload, 1) := by decide +kernel
theorem dX9_leave_27 : decode cX9_leave 27 = .ok (.bipush (-2), 2) := by decide +kernel
theorem dX9_leave_29 : decode cX9_leave 29 = .ok (.if_icmp .ne 9, 3) := by decide +kernel
theorem dX9_leave_32 : decode cX9_leave 32 = .ok (.aload_n 0, 1) := by decide +kernel
theorem dX9_leave_33 : decode cX9_leave 33 = .ok (.iconst 5, 1) := by decide +kernel
theorem dX9_leave_34 : decode cX9_leave 34 = .ok (.invokevirtual 488, 3) := by decide +kernel
theorem dX9_leave_37 : decode cX9_leave 37 = .ok (.ireturn, 1) := by decide +kernel
theorem dX9_leave_38 : decode cX9_leave 38 = .ok (.aload_n 0, 1) := by decide +kernel
theorem dX9_leave_39 : decode cX9_leave 39 = .ok (.invokevirtual 491, 3) := by decide +kernel
theorem dX9_leave_42 : decode cX9_leave 42 = .ok (.aload_n 0, 1) := by decide +kernel
theorem dX9_leave_43 : decode cX9_leave 43 = .ok (.getfield 17, 3) := by decide +kernel
theorem dX9_leave_46 : decode cX9_leave 46 = .ok (.iconst 0, 1) := by decide +kernel
theorem dX9_leave_47 : decode cX9_leave 47 = .ok (.iload_n 1, 1) := by decide +kernel
theorem dX9_leave_48 : decode cX9_leave 48 = .ok (.iadd, 1) := by decide +kernel
theorem dX9_leave_49 : decode cX9_leave 49 = .ok (.bipush (-2), 2) := by decide +kernel
theorem dX9_leave_51 : decode cX9_leave 51 = .ok (.iastore, 1) := by decide +kernel
theorem dX9_leave_52 : decode cX9_leave 52 = .ok (.aload_n 0, 1) := by decide +kernel
theorem dX9_leave_53 : decode cX9_leave 53 = .ok (.invokevirtual 494, 3) := by decide +kernel
theorem dX9_leave_56 : decode cX9_leave 56 = .ok (.ireturn, 1) := by decide +kernel
theorem dX9_exchange_0 : decode cX9_exchange 0 = .ok (.aload_n 0, 1) := by decide +kernel
theorem dX9_exchange_1 : decode cX9_exchange 1 = .ok (.iconst 0, 1) := by decide +kernel
theorem dX9_exchange_2 : decode cX9_exchange 2 = .ok (.putfield 45, 3) := by decide +kernel
theorem dX9_exchange_5 : decode cX9_exchange 5 = .ok (.aload_n 0, 1) := by decide +kernel
theorem dX9_exchange_6 : decode cX9_exchange 6 = .ok (.iload_n 1, 1) := by decide +kernel
theorem dX9_exchange_7 : decode cX9_exchange 7 = .ok (.invokevirtual 359, 3) := by decide +kernel
theorem dX9_exchange_10 : decode cX9_exchange 10 = .ok (.ifCond .eq 16, 3) := by decide +kernel
theorem dX9_exchange_13 : decode cX9_exchange 13 = .ok (.aload_n 0, 1) := by decide +kernel
theorem dX9_exchange_14 : decode cX9_exchange 14 = .ok (.iload_n 2, 1) := by decide +kernel
theorem dX9_exchange_15 : decode cX9_exchange 15 = .ok (.invokevirtual 359, 3) := by decide +kernel
theorem dX9_exchange_18 : decode cX9_exchange 18 = .ok (.ifCond .eq 8, 3) := by decide +kernel
theorem dX9_exchange_21 : decode cX9_exchange 21 = .ok (.iload_n 1, 1) := by decide +kernel
theorem dX9_exchange_22 : decode cX9_exchange 22 = .ok (.iload_n 2, 1) := by decide +kernel
theorem dX9_exchange_23 : decode cX9_exchange 23 = .ok (.if_icmp .ne 9, 3) := by decide +kernel
theorem dX9_exchange_26 : decode cX9_exchange 26 = .ok (.aload_n 0, 1) := by decide +kernel
theorem dX9_exchange_27 : decode cX9_exchange 27 = .ok (.iconst 1, 1) := by decide +kernel
theorem dX9_exchange_28 : decode cX9_exchange 28 = .ok (.invokevirtual 488, 3) := by decide +kernel
theorem dX9_exchange_31 : decode cX9_exchange 31 = .ok (.ireturn, 1) := by decide +kernel
theorem dX9_exchange_32 : decode cX9_exchange 32 = .ok (.aload_n 0, 1) := by decide +kernel
theorem dX9_exchange_33 : decode cX9_exchange 33 = .ok (.aload_n 0, 1) := by decide +kernel
theorem dX9_exchange_34 : decode cX9_exchange 34 = .ok (.getfield 17, 3) := by decide +kernel
theorem dX9_exchange_37 : decode cX9_exchange 37 = .ok (.iload_n 1, 1) := by decide +kernel
theorem dX9_exchange_38 : decode cX9_exchange 38 = .ok (.iload_n 2, 1) := by decide +kernel
theorem dX9_exchange_39 : decode cX9_exchange 39 = .ok (.invokevirtual 411, 3) := by decide +kernel
theorem dX9_exchange_42 : decode cX9_exchange 42 = .ok (.ifCond .ne 9, 3) := by decide +kernel
theorem dX9_exchange_45 : decode cX9_exchange 45 = .ok (.aload_n 0, 1) := by decide +kernel
theorem dX9_exchange_46 : decode cX9_exchange 46 = .ok (.iconst 5, 1) := by decide +kernel
theorem dX9_exchange_47 : decode cX9_exchange 47 = .ok (.invokevirtual 488, 3) := by decide +kernel
theorem dX9_exchange_50 : decode cX9_exchange 50 = .ok (.ireturn, 1) := by decide +kernel
theorem dX9_exchange_51 : decode cX9_exchange 51 = .ok (.aload_n 0, 1) := by decide +kernel
theorem dX9_exchange_52 : decode cX9_exchange 52 = .ok (.invokevirtual 491, 3) := by decide +kernel
theorem dX9_exchange_55 : decode cX9_exchange 55 = .ok (.aload_n 0, 1) := by decide +kernel
theorem dX9_exchange_56 : decode cX9_exchange 56 = .ok (.getfield 17, 3) := by decide +kernel
theorem dX9_exchange_59 : decode cX9_exchange 59 = .ok (.iload_n 1, 1) := by decide +kernel
theorem dX9_exchange_60 : decode cX9_exchange 60 = .ok (.iload_n 2, 1) := by decide +kernel
theorem dX9_exchange_61 : decode cX9_exchange 61 = .ok (.invokestatic 345, 3) := by decide +kernel
theorem dX9_exchange_64 : decode cX9_exchange 64 = .ok (.aload_n 0, 1) := by decide +kernel
theorem dX9_exchange_65 : decode cX9_exchange 65 = .ok (.invokevirtual 494, 3) := by decide +kernel
theorem dX9_exchange_68 : decode cX9_exchange 68 = .ok (.ireturn, 1) := by decide +kernel
theorem dX9_day_0 : decode cX9_day 0 = .ok (.aload_n 0, 1) := by decide +kernel
theorem dX9_day_1 : decode cX9_day 1 = .ok (.iconst 0, 1) := by decide +kernel
theorem dX9_day_2 : decode cX9_day 2 = .ok (.putfield 45, 3) := by decide +kernel
theorem dX9_day_5 : decode cX9_day 5 = .ok (.aload_n 0, 1) := by decide +kernel
theorem dX9_day_6 : decode cX9_day 6 = .ok (.getfield 316, 3) := by decide +kernel
theorem dX9_day_9 : decode cX9_day 9 = .ok (.ifnonnull 9, 3) := by decide +kernel
theorem dX9_day_12 : decode cX9_day 12 = .ok (.aload_n 0, 1) := by decide +kernel
theorem dX9_day_13 : decode cX9_day 13 = .ok (.iconst 1, 1) := by decide +kernel
theorem dX9_day_14 : decode cX9_day 14 = .ok (.invokevirtual 51, 3) := by decide +kernel
theorem dX9_day_17 : decode cX9_day 17 = .ok (.ireturn, 1) := by decide +kernel
theorem dX9_day_18 : decode cX9_day 18 = .ok (.aload_n 0, 1) := by decide +kernel
theorem dX9_day_19 : decode cX9_day 19 = .ok (.invokevirtual 491, 3) := by decide +kernel
theorem dX9_day_22 : decode cX9_day 22 = .ok (.aload_n 0, 1) := by decide +kernel
theorem dX9_day_23 : decode cX9_day 23 = .ok (.invokevirtual 393, 3) := by decide +kernel
theorem dX9_day_26 : decode cX9_day 26 = .ok (.aload_n 0, 1) := by decide +kernel
theorem dX9_day_27 : decode cX9_day 27 = .ok (.aload_n 0, 1) := by decide +kernel
theorem dX9_day_28 : decode cX9_day 28 = .ok (.getfield 17, 3) := by decide +kernel
theorem dX9_day_31 : decode cX9_day 31 = .ok (.iload_n 1, 1) := by decide +kernel
theorem dX9_day_32 : decode cX9_day 32 = .ok (.invokevirtual 352, 3) := by decide +kernel
theorem dX9_day_35 : decode cX9_day 35 = .ok (.iconst 0, 1) := by decide +kernel
theorem dX9_day_36 : decode cX9_day 36 = .ok (.istore_n 2, 1) := by decide +kernel
theorem dX9_day_37 : decode cX9_day 37 = .ok (.iconst 0, 1) := by decide +kernel
theorem dX9_day_38 : decode cX9_day 38 = .ok (.istore_n 3, 1) := by decide +kernel
theorem dX9_day_39 : decode cX9_day 39 = .ok (.iload_n 3, 1) := by decide +kernel
theorem dX9_day_40 : decode cX9_day 40 = .ok (.aload_n 0, 1) := by decide +kernel
theorem dX9_day_41 : decode cX9_day 41 = .ok (.getfield 316, 3) := by decide +kernel
theorem dX9_day_44 : decode cX9_day 44 = .ok (.getfield 194, 3) := by decide +kernel
theorem dX9_day_47 : decode cX9_day 47 = .ok (.if_icmp .ge 36, 3) := by decide +kernel
theorem dX9_day_50 : decode cX9_day 50 = .ok (.iload_n 2, 1) := by decide +kernel
theorem dX9_day_51 : decode cX9_day 51 = .ok (.aload_n 0, 1) := by decide +kernel
theorem dX9_day_52 : decode cX9_day 52 = .ok (.getfield 17, 3) := by decide +kernel
theorem dX9_day_55 : decode cX9_day 55 = .ok (.iconst 5, 1) := by decide +kernel
theorem dX9_day_56 : decode cX9_day 56 = .ok (.iload_n 3, 1) := by decide +kernel
theorem dX9_day_57 : decode cX9_day 57 = .ok (.iadd, 1) := by decide +kernel
theorem dX9_day_58 : decode cX9_day 58 = .ok (.iaload, 1) := by decide +kernel
theorem dX9_day_59 : decode cX9_day 59 = .ok (.aload_n 0, 1) := by decide +kernel
theorem dX9_day_60 : decode cX9_day 60 = .ok (.getfield 21, 3) := by decide +kernel
theorem dX9_day_63 : decode cX9_day 63 = .ok (.iconst 5, 1) := by decide +kernel
theorem dX9_day_64 : decode cX9_day 64 = .ok (.iload_n 3, 1) := by decide +kernel
theorem dX9_day_65 : decode cX9_day 65 = .ok (.iadd, 1) := by decide +kernel
theorem dX9_day_66 : decode cX9_day 66 = .ok (.iaload, 1) := by decide +kernel
theorem dX9_day_67 : decode cX9_day 67 = .ok (.if_icmp .ne 7, 3) := by decide +kernel
theorem dX9_day_70 : decode cX9_day 70 = .ok (.iconst 0, 1) := by decide +kernel
theorem dX9_day_71 : decode cX9_day 71 = .ok (.goto 4, 3) := by decide +kernel
theorem dX9_day_74 : decode cX9_day 74 = .ok (.iconst 1, 1) := by decide +kernel
theorem dX9_day_75 : decode cX9_day 75 = .ok (.iadd, 1) := by decide +kernel
theorem dX9_day_76 : decode cX9_day 76 = .ok (.istore_n 2, 1) := by decide +kernel
theorem dX9_day_77 : decode cX9_day 77 = .ok (.iinc 3 1, 3) := by decide +kernel
theorem dX9_day_80 : decode cX9_day 80 = .ok (.goto (-41), 3) := by decide +kernel
theorem dX9_day_83 : decode cX9_day 83 = .ok (.aload_n 0, 1) := by decide +kernel
theorem dX9_day_84 : decode cX9_day 84 = .ok (.iload_n 2, 1) := by decide +kernel
theorem dX9_day_85 : decode cX9_day 85 = .ok (.invokevirtual 55, 3) := by decide +kernel
theorem dX9_day_88 : decode cX9_day 88 = .ok (.ireturn, 1) := by decide +kernel
theorem dX9_undo_0 : decode cX9_undo 0 = .ok (.aload_n 0, 1) := by decide +kernel
theorem dX9_undo_1 : decode cX9_undo 1 = .ok (.iconst 0, 1) := by decide +kernel
theorem dX9_undo_2 : decode cX9_undo 2 = .ok (.putfield 45, 3) := by decide +kernel
theorem dX9_undo_5 : decode cX9_undo 5 = .ok (.aload_n 0, 1) := by decide +kernel
theorem dX9_undo_6 : decode cX9_undo 6 = .ok (.getfield 316, 3) := by decide +kernel
theorem dX9_undo_9 : decode cX9_undo 9 = .ok (.ifnull 10, 3) := by decide +kernel
theorem dX9_undo_12 : decode cX9_undo 12 = .ok (.aload_n 0, 1) := by decide +kernel
theorem dX9_undo_13 : decode cX9_undo 13 = .ok (.getfield 322, 3) := by decide +kernel
theorem dX9_undo_16 : decode cX9_undo 16 = .ok (.ifCond .ne 10, 3) := by decide +kernel
theorem dX9_undo_19 : decode cX9_undo 19 = .ok (.aload_n 0, 1) := by decide +kernel
theorem dX9_undo_20 : decode cX9_undo 20 = .ok (.bipush 6, 2) := by decide +kernel
theorem dX9_undo_22 : decode cX9_undo 22 = .ok (.invokevirtual 488, 3) := by decide +kernel
theorem dX9_undo_25 : decode cX9_undo 25 = .ok (.ireturn, 1) := by decide +kernel
theorem dX9_undo_26 : decode cX9_undo 26 = .ok (.aload_n 0, 1) := by decide +kernel
theorem dX9_undo_27 : decode cX9_undo 27 = .ok (.dup, 1) := by decide +kernel
theorem dX9_undo_28 : decode cX9_undo 28 = .ok (.getfield 322, 3) := by decide +kernel
theorem dX9_undo_31 : decode cX9_undo 31 = .ok (.iconst 1, 1) := by decide +kernel
theorem dX9_undo_32 : decode cX9_undo 32 = .ok (.isub, 1) := by decide +kernel
theorem dX9_undo_33 : decode cX9_undo 33 = .ok (.putfield 322, 3) := by decide +kernel
theorem dX9_undo_36 : decode cX9_undo 36 = .ok (.iconst 0, 1) := by decide +kernel
theorem dX9_undo_37 : decode cX9_undo 37 = .ok (.istore_n 1, 1) := by decide +kernel
theorem dX9_undo_38 : decode cX9_undo 38 = .ok (.iload_n 1, 1) := by decide +kernel
theorem dX9_undo_39 : decode cX9_undo 39 = .ok (.bipush 11, 2) := by decide +kernel
theorem dX9_undo_41 : decode cX9_undo 41 = .ok (.if_icmp .ge 29, 3) := by decide +kernel
theorem dX9_undo_44 : decode cX9_undo 44 = .ok (.aload_n 0, 1) := by decide +kernel
theorem dX9_undo_45 : decode cX9_undo 45 = .ok (.getfield 17, 3) := by decide +kernel
theorem dX9_undo_48 : decode cX9_undo 48 = .ok (.iload_n 1, 1) := by decide +kernel
theorem dX9_undo_49 : decode cX9_undo 49 = .ok (.aload_n 0, 1) := by decide +kernel
theorem dX9_undo_50 : decode cX9_undo 50 = .ok (.getfield 24, 3) := by decide +kernel
theorem dX9_undo_53 : decode cX9_undo 53 = .ok (.bipush 11, 2) := by decide +kernel
theorem dX9_undo_55 : decode cX9_undo 55 = .ok (.aload_n 0, 1) := by decide +kernel
theorem dX9_undo_56 : decode cX9_undo 56 = .ok (.getfield 322, 3) := by decide +kernel
theorem dX9_undo_59 : decode cX9_undo 59 = .ok (.imul, 1) := by decide +kernel
theorem dX9_undo_60 : decode cX9_undo 60 = .ok (.iload_n 1, 1) := by decide +kernel
theorem dX9_undo_61 : decode cX9_undo 61 = .ok (.iadd, 1) := by decide +kernel
theorem dX9_undo_62 : decode cX9_undo 62 = .ok (.iaload, 1) := by decide +kernel
theorem dX9_undo_63 : decode cX9_undo 63 = .ok (.iastore, 1) := by decide +kernel
theorem dX9_undo_64 : decode cX9_undo 64 = .ok (.iinc 1 1, 3) := by decide +kernel
theorem dX9_undo_67 : decode cX9_undo 67 = .ok (.goto (-29), 3) := by decide +kernel
theorem dX9_undo_70 : decode cX9_undo 70 = .ok (.aload_n 0, 1) := by decide +kernel
theorem dX9_undo_71 : decode cX9_undo 71 = .ok (.invokevirtual 494, 3) := by decide +kernel
theorem dX9_undo_74 : decode cX9_undo 74 = .ok (.ireturn, 1) := by decide +kernel
theorem dX9_mark_0 : decode cX9_mark 0 = .ok (.aload_n 0, 1) := by decide +kernel
theorem dX9_mark_1 : decode cX9_mark 1 = .ok (.iconst 0, 1) := by decide +kernel
theorem dX9_mark_2 : decode cX9_mark 2 = .ok (.putfield 45, 3) := by decide +kernel
theorem dX9_mark_5 : decode cX9_mark 5 = .ok (.aload_n 0, 1) := by decide +kernel
theorem dX9_mark_6 : decode cX9_mark 6 = .ok (.getfield 316, 3) := by decide +kernel
theorem dX9_mark_9 : decode cX9_mark 9 = .ok (.ifnonnull 9, 3) := by decide +kernel
theorem dX9_mark_12 : decode cX9_mark 12 = .ok (.aload_n 0, 1) := by decide +kernel
theorem dX9_mark_13 : decode cX9_mark 13 = .ok (.iconst 1, 1) := by decide +kernel
theorem dX9_mark_14 : decode cX9_mark 14 = .ok (.invokevirtual 51, 3) := by decide +kernel
theorem dX9_mark_17 : decode cX9_mark 17 = .ok (.ireturn, 1) := by decide +kernel
theorem dX9_mark_18 : decode cX9_mark 18 = .ok (.aload_n 0, 1) := by decide +kernel
theorem dX9_mark_19 : decode cX9_mark 19 = .ok (.getfield 325, 3) := by decide +kernel
theorem dX9_mark_22 : decode cX9_mark 22 = .ok (.iconst 3, 1) := by decide +kernel
theorem dX9_mark_23 : decode cX9_mark 23 = .ok (.if_icmp .ne 9, 3) := by decide +kernel
theorem dX9_mark_26 : decode cX9_mark 26 = .ok (.aload_n 0, 1) := by decide +kernel
theorem dX9_mark_27 : decode cX9_mark 27 = .ok (.iconst 3, 1) := by decide +kernel
theorem dX9_mark_28 : decode cX9_mark 28 = .ok (.invokevirtual 51, 3) := by decide +kernel
theorem dX9_mark_31 : decode cX9_mark 31 = .ok (.ireturn, 1) := by decide +kernel
theorem dX9_mark_32 : decode cX9_mark 32 = .ok (.iconst 0, 1) := by decide +kernel
theorem dX9_mark_33 : decode cX9_mark 33 = .ok (.istore_n 1, 1) := by decide +kernel
theorem dX9_mark_34 : decode cX9_mark 34 = .ok (.iload_n 1, 1) := by decide +kernel
theorem dX9_mark_35 : decode cX9_mark 35 = .ok (.bipush 11, 2) := by decide +kernel
theorem dX9_mark_37 : decode cX9_mark 37 = .ok (.if_icmp .ge 29, 3) := by decide +kernel
theorem dX9_mark_40 : decode cX9_mark 40 = .ok (.aload_n 0, 1) := by decide +kernel
theorem dX9_mark_41 : decode cX9_mark 41 = .ok (.getfield 27, 3) := by decide +kernel
theorem dX9_mark_44 : decode cX9_mark 44 = .ok (.bipush 11, 2) := by decide +kernel
theorem dX9_mark_46 : decode cX9_mark 46 = .ok (.aload_n 0, 1) := by decide +kernel
theorem dX9_mark_47 : decode cX9_mark 47 = .ok (.getfield 325, 3) := by decide +kernel
theorem dX9_mark_50 : decode cX9_mark 50 = .ok (.imul, 1) := by decide +kernel
theorem dX9_mark_51 : decode cX9_mark 51 = .ok (.iload_n 1, 1) := by decide +kernel
theorem dX9_mark_52 : decode cX9_mark 52 = .ok (.iadd, 1) := by decide +kernel
theorem dX9_mark_53 : decode cX9_mark 53 = .ok (.aload_n 0, 1) := by decide +kernel
theorem dX9_mark_54 : decode cX9_mark 54 = .ok (.getfield 17, 3) := by decide +kernel
theorem dX9_mark_57 : decode cX9_mark 57 = .ok (.iload_n 1, 1) := by decide +kernel
theorem dX9_mark_58 : decode cX9_mark 58 = .ok (.iaload, 1) := by decide +kernel
theorem dX9_mark_59 : decode cX9_mark 59 = .ok (.iastore, 1) := by decide +kernel
theorem dX9_mark_60 : decode cX9_mark 60 = .ok (.iinc 1 1, 3) := by decide +kernel
theorem dX9_mark_63 : decode cX9_mark 63 = .ok (.goto (-29), 3) := by decide +kernel
theorem dX9_mark_66 : decode cX9_mark 66 = .ok (.aload_n 0, 1) := by decide +kernel
theorem dX9_mark_67 : decode cX9_mark 67 = .ok (.dup, 1) := by decide +kernel
theorem dX9_mark_68 : decode cX9_mark 68 = .ok (.getfield 325, 3) := by decide +kernel
theorem dX9_mark_71 : decode cX9_mark 71 = .ok (.iconst 1, 1) := by decide +kernel
theorem dX9_mark_72 : decode cX9_mark 72 = .ok (.iadd, 1) := by decide +kernel
theorem dX9_mark_73 : decode cX9_mark 73 = .ok (.putfield 325, 3) := by decide +kernel
theorem dX9_mark_76 : decode cX9_mark 76 = .ok (.aload_n 0, 1) := by decide +kernel
theorem dX9_mark_77 : decode cX9_mark 77 = .ok (.aload_n 0, 1) := by decide +kernel
theorem dX9_mark_78 : decode cX9_mark 78 = .ok (.getfield 325, 3) := by decide +kernel
theorem dX9_mark_81 : decode cX9_mark 81 = .ok (.iconst 1, 1) := by decide +kernel
theorem dX9_mark_82 : decode cX9_mark 82 = .ok (.isub, 1) := by decide +kernel
theorem dX9_mark_83 : decode cX9_mark 83 = .ok (.invokevirtual 55, 3) := by decide +kernel
theorem dX9_mark_86 : decode cX9_mark 86 = .ok (.ireturn, 1) := by decide +kernel
theorem dX9_back_0 : decode cX9_back 0 = .ok (.aload_n 0, 1) := by decide +kernel
theorem dX9_back_1 : decode cX9_back 1 = .ok (.iconst 0, 1) := by decide +kernel
theorem dX9_back_2 : decode cX9_back 2 = .ok (.putfield 45, 3) := by decide +kernel
theorem dX9_back_5 : decode cX9_back 5 = .ok (.aload_n 0, 1) := by decide +kernel
theorem dX9_back_6 : decode cX9_back 6 = .ok (.getfield 316, 3) := by decide +kernel
theorem dX9_back_9 : decode cX9_back 9 = .ok (.ifnull 15, 3) := by decide +kernel
theorem dX9_back_12 : decode cX9_back 12 = .ok (.iload_n 1, 1) := by decide +kernel
theorem dX9_back_13 : decode cX9_back 13 = .ok (.ifCond .lt 11, 3) := by decide +kernel
theorem dX9_back_16 : decode cX9_back 16 = .ok (.iload_n 1, 1) := by decide +kernel
theorem dX9_back_17 : decode cX9_back 17 = .ok (.aload_n 0, 1) := by decide +kernel
theorem dX9_back_18 : decode cX9_back 18 = .ok (.getfield 325, 3) := by decide +kernel
theorem dX9_back_21 : decode cX9_back 21 = .ok (.if_icmp .lt 9, 3) := by decide +kernel
theorem dX9_back_24 : decode cX9_back 24 = .ok (.aload_n 0, 1) := by decide +kernel
theorem dX9_back_25 : decode cX9_back 25 = .ok (.iconst 1, 1) := by decide +kernel
theorem dX9_back_26 : decode cX9_back 26 = .ok (.invokevirtual 488, 3) := by decide +kernel
theorem dX9_back_29 : decode cX9_back 29 = .ok (.ireturn, 1) := by decide +kernel
theorem dX9_back_30 : decode cX9_back 30 = .ok (.iconst 0, 1) := by decide +kernel
theorem dX9_back_31 : decode cX9_back 31 = .ok (.istore_n 2, 1) := by decide +kernel
theorem dX9_back_32 : decode cX9_back 32 = .ok (.iload_n 2, 1) := by decide +kernel
theorem dX9_back_33 : decode cX9_back 33 = .ok (.bipush 11, 2) := by decide +kernel
theorem dX9_back_35 : decode cX9_back 35 = .ok (.if_icmp .ge 26, 3) := by decide +kernel
theorem dX9_back_38 : decode cX9_back 38 = .ok (.aload_n 0, 1) := by decide +kernel
theorem dX9_back_39 : decode cX9_back 39 = .ok (.getfield 17, 3) := by decide +kernel
theorem dX9_back_42 : decode cX9_back 42 = .ok (.iload_n 2, 1) := by decide +kernel
theorem dX9_back_43 : decode cX9_back 43 = .ok (.aload_n 0, 1) := by decide +kernel
theorem dX9_back_44 : decode cX9_back 44 = .ok (.getfield 27, 3) := by decide +kernel
theorem dX9_back_47 : decode cX9_back 47 = .ok (.bipush 11, 2) := by decide +kernel
theorem dX9_back_49 : decode cX9_back 49 = .ok (.iload_n 1, 1) := by decide +kernel
theorem dX9_back_50 : decode cX9_back 50 = .ok (.imul, 1) := by decide +kernel
theorem dX9_back_51 : decode cX9_back 51 = .ok (.iload_n 2, 1) := by decide +kernel
theorem dX9_back_52 : decode cX9_back 52 = .ok (.iadd, 1) := by decide +kernel
theorem dX9_back_53 : decode cX9_back 53 = .ok (.iaload, 1) := by decide +kernel
theorem dX9_back_54 : decode cX9_back 54 = .ok (.iastore, 1) := by decide +kernel
theorem dX9_back_55 : decode cX9_back 55 = .ok (.iinc 2 1, 3) := by decide +kernel
theorem dX9_back_58 : decode cX9_back 58 = .ok (.goto (-26), 3) := by decide +kernel
theorem dX9_back_61 : decode cX9_back 61 = .ok (.aload_n 0, 1) := by decide +kernel
theorem dX9_back_62 : decode cX9_back 62 = .ok (.iconst 0, 1) := by decide +kernel
theorem dX9_back_63 : decode cX9_back 63 = .ok (.putfield 322, 3) := by decide +kernel
theorem dX9_back_66 : decode cX9_back 66 = .ok (.aload_n 0, 1) := by decide +kernel
theorem dX9_back_67 : decode cX9_back 67 = .ok (.invokevirtual 494, 3) := by decide +kernel
theorem dX9_back_70 : decode cX9_back 70 = .ok (.ireturn, 1) := by decide +kernel
theorem dX9_led_0 : decode cX9_led 0 = .ok (.aload_n 0, 1) := by decide +kernel
theorem dX9_led_1 : decode cX9_led 1 = .ok (.iconst 0, 1) := by decide +kernel
theorem dX9_led_2 : decode cX9_led 2 = .ok (.putfield 45, 3) := by decide +kernel
theorem dX9_led_5 : decode cX9_led 5 = .ok (.iconst 0, 1) := by decide +kernel
theorem dX9_led_6 : decode cX9_led 6 = .ok (.istore_n 2, 1) := by decide +kernel
theorem dX9_led_7 : decode cX9_led 7 = .ok (.iconst 0, 1) := by decide +kernel
theorem dX9_led_8 : decode cX9_led 8 = .ok (.istore_n 3, 1) := by decide +kernel
theorem dX9_led_9 : decode cX9_led 9 = .ok (.aload_n 0, 1) := by decide +kernel
theorem dX9_led_10 : decode cX9_led 10 = .ok (.getfield 316, 3) := by decide +kernel
theorem dX9_led_13 : decode cX9_led 13 = .ok (.ifnull 46, 3) := by decide +kernel
theorem dX9_led_16 : decode cX9_led 16 = .ok (.iload_n 3, 1) := by decide +kernel
theorem dX9_led_17 : decode cX9_led 17 = .ok (.aload_n 0, 1) := by decide +kernel
theorem dX9_led_18 : decode cX9_led 18 = .ok (.getfield 316, 3) := by decide +kernel
theorem dX9_led_21 : decode cX9_led 21 = .ok (.getfield 194, 3) := by decide +kernel
theorem dX9_led_24 : decode cX9_led 24 = .ok (.if_icmp .ge 35, 3) := by decide +kernel
theorem dX9_led_27 : decode cX9_led 27 = .ok (.aload_n 0, 1) := by decide +kernel
theorem dX9_led_28 : decode cX9_led 28 = .ok (.getfield 17, 3) := by decide +kernel
theorem dX9_led_31 : decode cX9_led 31 = .ok (.iconst 0, 1) := by decide +kernel
theorem dX9_led_32 : decode cX9_led 32 = .ok (.iload_n 3, 1) := by decide +kernel
theorem dX9_led_33 : decode cX9_led 33 = .ok (.iadd, 1) := by decide +kernel
theorem dX9_led_34 : decode cX9_led 34 = .ok (.iaload, 1) := by decide +kernel
theorem dX9_led_35 : decode cX9_led 35 = .ok (.bipush (-2), 2) := by decide +kernel
theorem dX9_led_37 : decode cX9_led 37 = .ok (.if_icmp .eq 6, 3) := by decide +kernel
theorem dX9_led_40 : decode cX9_led 40 = .ok (.goto 13, 3) := by decide +kernel
theorem dX9_led_43 : decode cX9_led 43 = .ok (.iload_n 2, 1) := by decide +kernel
theorem dX9_led_44 : decode cX9_led 44 = .ok (.iload_n 1, 1) := by decide +kernel
theorem dX9_led_45 : decode cX9_led 45 = .ok (.if_icmp .ne 5, 3) := by decide +kernel
theorem dX9_led_48 : decode cX9_led 48 = .ok (.iload_n 3, 1) := by decide +kernel
theorem dX9_led_49 : decode cX9_led 49 = .ok (.ireturn, 1) := by decide +kernel
theorem dX9_led_50 : decode cX9_led 50 = .ok (.iinc 2 1, 3) := by decide +kernel
theorem dX9_led_53 : decode cX9_led 53 = .ok (.iinc 3 1, 3) := by decide +kernel
theorem dX9_led_56 : decode cX9_led 56 = .ok (.goto (-47), 3) := by decide +kernel
theorem dX9_led_59 : decode cX9_led 59 = .ok (.aload_n 0, 1) := by decide +kernel
theorem dX9_led_60 : decode cX9_led 60 = .ok (.iconst 1, 1) := by decide +kernel
theorem dX9_led_61 : decode cX9_led 61 = .ok (.putfield 45, 3) := by decide +kernel
theorem dX9_led_64 : decode cX9_led 64 = .ok (.iconst 0, 1) := by decide +kernel
theorem dX9_led_65 : decode cX9_led 65 = .ok (.ireturn, 1) := by decide +kernel
theorem dX9_size_0 : decode cX9_size 0 = .ok (.aload_n 0, 1) := by decide +kernel
theorem dX9_size_1 : decode cX9_size 1 = .ok (.iconst 0, 1) := by decide +kernel
theorem dX9_size_2 : decode cX9_size 2 = .ok (.putfield 45, 3) := by decide +kernel
theorem dX9_size_5 : decode cX9_size 5 = .ok (.iload_n 1, 1) := by decide +kernel
theorem dX9_size_6 : decode cX9_size 6 = .ok (.bipush 10, 2) := by decide +kernel
theorem dX9_size_8 : decode cX9_size 8 = .ok (.if_icmp .ne 8, 3) := by decide +kernel
theorem dX9_size_11 : decode cX9_size 11 = .ok (.aload_n 0, 1) := by decide +kernel
theorem dX9_size_12 : decode cX9_size 12 = .ok (.getfield 309, 3) := by decide +kernel
theorem dX9_size_15 : decode cX9_size 15 = .ok (.ireturn, 1) := by decide +kernel
theorem dX9_size_16 : decode cX9_size 16 = .ok (.iload_n 1, 1) := by decide +kernel
theorem dX9_size_17 : decode cX9_size 17 = .ok (.iconst 0, 1) := by decide +kernel
theorem dX9_size_18 : decode cX9_size 18 = .ok (.bipush 9, 2) := by decide +kernel
theorem dX9_size_20 : decode cX9_size 20 = .ok (.invokestatic 124, 3) := by decide +kernel
theorem dX9_size_23 : decode cX9_size 23 = .ok (.ifCond .ne 5, 3) := by decide +kernel
theorem dX9_size_26 : decode cX9_size 26 = .ok (.iconst (-1), 1) := by decide +kernel
theorem dX9_size_27 : decode cX9_size 27 = .ok (.ireturn, 1) := by decide +kernel
theorem dX9_size_28 : decode cX9_size 28 = .ok (.aload_n 0, 1) := by decide +kernel
theorem dX9_size_29 : decode cX9_size 29 = .ok (.getfield 316, 3) := by decide +kernel
theorem dX9_size_32 : decode cX9_size 32 = .ok (.ifnonnull 5, 3) := by decide +kernel
theorem dX9_size_35 : decode cX9_size 35 = .ok (.iconst 0, 1) := by decide +kernel
theorem dX9_size_36 : decode cX9_size 36 = .ok (.ireturn, 1) := by decide +kernel
theorem dX9_size_37 : decode cX9_size 37 = .ok (.iload_n 1, 1) := by decide +kernel
theorem dX9_size_38 : decode cX9_size 38 = .ok (.tableswitch 119 0 8 #[50, 58, 66, 74, 82, 90, 98, 106, 114], 50) := by decide +kernel
theorem dX9_size_88 : decode cX9_size 88 = .ok (.aload_n 0, 1) := by decide +kernel
theorem dX9_size_89 : decode cX9_size 89 = .ok (.getfield 316, 3) := by decide +kernel
theorem dX9_size_92 : decode cX9_size 92 = .ok (.getfield 156, 3) := by decide +kernel
theorem dX9_size_95 : decode cX9_size 95 = .ok (.ireturn, 1) := by decide +kernel
theorem dX9_size_96 : decode cX9_size 96 = .ok (.aload_n 0, 1) := by decide +kernel
theorem dX9_size_97 : decode cX9_size 97 = .ok (.getfield 316, 3) := by decide +kernel
theorem dX9_size_100 : decode cX9_size 100 = .ok (.getfield 230, 3) := by decide +kernel
theorem dX9_size_103 : decode cX9_size 103 = .ok (.ireturn, 1) := by decide +kernel
theorem dX9_size_104 : decode cX9_size 104 = .ok (.aload_n 0, 1) := by decide +kernel
theorem dX9_size_105 : decode cX9_size 105 = .ok (.getfield 316, 3) := by decide +kernel
theorem dX9_size_108 : decode cX9_size 108 = .ok (.getfield 232, 3) := by decide +kernel
theorem dX9_size_111 : decode cX9_size 111 = .ok (.ireturn, 1) := by decide +kernel
theorem dX9_size_112 : decode cX9_size 112 = .ok (.aload_n 0, 1) := by decide +kernel
theorem dX9_size_113 : decode cX9_size 113 = .ok (.getfield 316, 3) := by decide +kernel
theorem dX9_size_116 : decode cX9_size 116 = .ok (.getfield 191, 3) := by decide +kernel
theorem dX9_size_119 : decode cX9_size 119 = .ok (.ireturn, 1) := by decide +kernel
theorem dX9_size_120 : decode cX9_size 120 = .ok (.aload_n 0, 1) := by decide +kernel
theorem dX9_size_121 : decode cX9_size 121 = .ok (.getfield 316, 3) := by decide +kernel
theorem dX9_size_124 : decode cX9_size 124 = .ok (.getfield 194, 3) := by decide +kernel
theorem dX9_size_127 : decode cX9_size 127 = .ok (.ireturn, 1) := by decide +kernel
theorem dX9_size_128 : decode cX9_size 128 = .ok (.aload_n 0, 1) := by decide +kernel
theorem dX9_size_129 : decode cX9_size 129 = .ok (.getfield 316, 3) := by decide +kernel
theorem dX9_size_132 : decode cX9_size 132 = .ok (.getfield 279, 3) := by decide +kernel
theorem dX9_size_135 : decode cX9_size 135 = .ok (.ireturn, 1) := by decide +kernel
theorem dX9_size_136 : decode cX9_size 136 = .ok (.aload_n 0, 1) := by decide +kernel
theorem dX9_size_137 : decode cX9_size 137 = .ok (.getfield 316, 3) := by decide +kernel
theorem dX9_size_140 : decode cX9_size 140 = .ok (.getfield 298, 3) := by decide +kernel
theorem dX9_size_143 : decode cX9_size 143 = .ok (.ireturn, 1) := by decide +kernel
theorem dX9_size_144 : decode cX9_size 144 = .ok (.aload_n 0, 1) := by decide +kernel
theorem dX9_size_145 : decode cX9_size 145 = .ok (.getfield 17, 3) := by decide +kernel
theorem dX9_size_148 : decode cX9_size 148 = .ok (.bipush 10, 2) := by decide +kernel
theorem dX9_size_150 : decode cX9_size 150 = .ok (.iaload, 1) := by decide +kernel
theorem dX9_size_151 : decode cX9_size 151 = .ok (.ireturn, 1) := by decide +kernel
theorem dX9_size_152 : decode cX9_size 152 = .ok (.aload_n 0, 1) := by decide +kernel
theorem dX9_size_153 : decode cX9_size 153 = .ok (.getfield 322, 3) := by decide +kernel
theorem dX9_size_156 : decode cX9_size 156 = .ok (.ireturn, 1) := by decide +kernel
theorem dX9_size_157 : decode cX9_size 157 = .ok (.aload_n 0, 1) := by decide +kernel
theorem dX9_size_158 : decode cX9_size 158 = .ok (.getfield 325, 3) := by decide +kernel
theorem dX9_size_161 : decode cX9_size 161 = .ok (.ireturn, 1) := by decide +kernel
theorem dX9_trouble_0 : decode cX9_trouble 0 = .ok (.aload_n 0, 1) := by decide +kernel
theorem dX9_trouble_1 : decode cX9_trouble 1 = .ok (.iconst 0, 1) := by decide +kernel
theorem dX9_trouble_2 : decode cX9_trouble 2 = .ok (.putfield 45, 3) := by decide +kernel
theorem dX9_trouble_5 : decode cX9_trouble 5 = .ok (.aload_n 0, 1) := by decide +kernel
theorem dX9_trouble_6 : decode cX9_trouble 6 = .ok (.getfield 48, 3) := by decide +kernel
theorem dX9_trouble_9 : decode cX9_trouble 9 = .ok (.ireturn, 1) := by decide +kernel
theorem dJ6_bitCount_0f7a4_0 : decode cJ6_bitCount_0f7a4 0 = .ok (.iload_n 0, 1) := by decide +kernel
theorem dJ6_bitCount_0f7a4_1 : decode cJ6_bitCount_0f7a4 1 = .ok (.iload_n 0, 1) := by decide +kernel
theorem dJ6_bitCount_0f7a4_2 : decode cJ6_bitCount_0f7a4 2 = .ok (.iconst 1, 1) := by decide +kernel
theorem dJ6_bitCount_0f7a4_3 : decode cJ6_bitCount_0f7a4 3 = .ok (.iushr, 1) := by decide +kernel
theorem dJ6_bitCount_0f7a4_4 : decode cJ6_bitCount_0f7a4 4 = .ok (.ldc_w 265, 3) := by decide +kernel
theorem dJ6_bitCount_0f7a4_7 : decode cJ6_bitCount_0f7a4 7 = .ok (.iand, 1) := by decide +kernel
theorem dJ6_bitCount_0f7a4_8 : decode cJ6_bitCount_0f7a4 8 = .ok (.isub, 1) := by decide +kernel
theorem dJ6_bitCount_0f7a4_9 : decode cJ6_bitCount_0f7a4 9 = .ok (.istore_n 0, 1) := by decide +kernel
theorem dJ6_bitCount_0f7a4_10 : decode cJ6_bitCount_0f7a4 10 = .ok (.iload_n 0, 1) := by decide +kernel
theorem dJ6_bitCount_0f7a4_11 : decode cJ6_bitCount_0f7a4 11 = .ok (.ldc_w 266, 3) := by decide +kernel
theorem dJ6_bitCount_0f7a4_14 : decode cJ6_bitCount_0f7a4 14 = .ok (.iand, 1) := by decide +kernel
theorem dJ6_bitCount_0f7a4_15 : decode cJ6_bitCount_0f7a4 15 = .ok (.iload_n 0, 1) := by decide +kernel
theorem dJ6_bitCount_0f7a4_16 : decode cJ6_bitCount_0f7a4 16 = .ok (.iconst 2, 1) := by decide +kernel
theorem dJ6_bitCount_0f7a4_17 : decode cJ6_bitCount_0f7a4 17 = .ok (.iushr, 1) := by decide +kernel
theorem dJ6_bitCount_0f7a4_18 : decode cJ6_bitCount_0f7a4 18 = .ok (.ldc_w 266, 3) := by decide +kernel
theorem dJ6_bitCount_0f7a4_21 : decode cJ6_bitCount_0f7a4 21 = .ok (.iand, 1) := by decide +kernel
theorem dJ6_bitCount_0f7a4_22 : decode cJ6_bitCount_0f7a4 22 = .ok (.iadd, 1) := by decide +kernel
theorem dJ6_bitCount_0f7a4_23 : decode cJ6_bitCount_0f7a4 23 = .ok (.istore_n 0, 1) := by decide +kernel
theorem dJ6_bitCount_0f7a4_24 : decode cJ6_bitCount_0f7a4 24 = .ok (.iload_n 0, 1) := by decide +kernel
theorem dJ6_bitCount_0f7a4_25 : decode cJ6_bitCount_0f7a4 25 = .ok (.iload_n 0, 1) := by decide +kernel
theorem dJ6_bitCount_0f7a4_26 : decode cJ6_bitCount_0f7a4 26 = .ok (.iconst 4, 1) := by decide +kernel
theorem dJ6_bitCount_0f7a4_27 : decode cJ6_bitCount_0f7a4 27 = .ok (.iushr, 1) := by decide +kernel
theorem dJ6_bitCount_0f7a4_28 : decode cJ6_bitCount_0f7a4 28 = .ok (.iadd, 1) := by decide +kernel
theorem dJ6_bitCount_0f7a4_29 : decode cJ6_bitCount_0f7a4 29 = .ok (.ldc_w 267, 3) := by decide +kernel
theorem dJ6_bitCount_0f7a4_32 : decode cJ6_bitCount_0f7a4 32 = .ok (.iand, 1) := by decide +kernel
theorem dJ6_bitCount_0f7a4_33 : decode cJ6_bitCount_0f7a4 33 = .ok (.istore_n 0, 1) := by decide +kernel
theorem dJ6_bitCount_0f7a4_34 : decode cJ6_bitCount_0f7a4 34 = .ok (.iload_n 0, 1) := by decide +kernel
theorem dJ6_bitCount_0f7a4_35 : decode cJ6_bitCount_0f7a4 35 = .ok (.iload_n 0, 1) := by decide +kernel
theorem dJ6_bitCount_0f7a4_36 : decode cJ6_bitCount_0f7a4 36 = .ok (.bipush 8, 2) := by decide +kernel
theorem dJ6_bitCount_0f7a4_38 : decode cJ6_bitCount_0f7a4 38 = .ok (.iushr, 1) := by decide +kernel
theorem dJ6_bitCount_0f7a4_39 : decode cJ6_bitCount_0f7a4 39 = .ok (.iadd, 1) := by decide +kernel
theorem dJ6_bitCount_0f7a4_40 : decode cJ6_bitCount_0f7a4 40 = .ok (.istore_n 0, 1) := by decide +kernel
theorem dJ6_bitCount_0f7a4_41 : decode cJ6_bitCount_0f7a4 41 = .ok (.iload_n 0, 1) := by decide +kernel
theorem dJ6_bitCount_0f7a4_42 : decode cJ6_bitCount_0f7a4 42 = .ok (.iload_n 0, 1) := by decide +kernel
theorem dJ6_bitCount_0f7a4_43 : decode cJ6_bitCount_0f7a4 43 = .ok (.bipush 16, 2) := by decide +kernel
theorem dJ6_bitCount_0f7a4_45 : decode cJ6_bitCount_0f7a4 45 = .ok (.iushr, 1) := by decide +kernel
theorem dJ6_bitCount_0f7a4_46 : decode cJ6_bitCount_0f7a4 46 = .ok (.iadd, 1) := by decide +kernel
theorem dJ6_bitCount_0f7a4_47 : decode cJ6_bitCount_0f7a4 47 = .ok (.istore_n 0, 1) := by decide +kernel
theorem dJ6_bitCount_0f7a4_48 : decode cJ6_bitCount_0f7a4 48 = .ok (.iload_n 0, 1) := by decide +kernel
theorem dJ6_bitCount_0f7a4_49 : decode cJ6_bitCount_0f7a4 49 = .ok (.bipush 63, 2) := by decide +kernel
theorem dJ6_bitCount_0f7a4_51 : decode cJ6_bitCount_0f7a4 51 = .ok (.iand, 1) := by decide +kernel
theorem dJ6_bitCount_0f7a4_52 : decode cJ6_bitCount_0f7a4 52 = .ok (.ireturn, 1) := by decide +kernel
