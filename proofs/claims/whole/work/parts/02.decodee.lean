theorem dMo_numberOf_32 : decode cMo_numberOf 32 = .ok (.bipush 95, 2) := by decide +kernel
theorem dMo_numberOf_34 : decode cMo_numberOf 34 = .ok (.if_icmp .gt 14, 3) := by decide +kernel
theorem dMo_numberOf_37 : decode cMo_numberOf 37 = .ok (.aload_n 0, 1) := by decide +kernel
theorem dMo_numberOf_38 : decode cMo_numberOf 38 = .ok (.iconst 0, 1) := by decide +kernel
theorem dMo_numberOf_39 : decode cMo_numberOf 39 = .ok (.invokevirtual 175, 3) := by decide +kernel
theorem dMo_numberOf_42 : decode cMo_numberOf 42 = .ok (.bipush 32, 2) := by decide +kernel
theorem dMo_numberOf_44 : decode cMo_numberOf 44 = .ok (.isub, 1) := by decide +kernel
theorem dMo_numberOf_45 : decode cMo_numberOf 45 = .ok (.goto 4, 3) := by decide +kernel
theorem dMo_numberOf_48 : decode cMo_numberOf 48 = .ok (.iconst (-1), 1) := by decide +kernel
theorem dMo_numberOf_49 : decode cMo_numberOf 49 = .ok (.ireturn, 1) := by decide +kernel
theorem dMo_numberOf_50 : decode cMo_numberOf 50 = .ok (.iload_n 1, 1) := by decide +kernel
theorem dMo_numberOf_51 : decode cMo_numberOf 51 = .ok (.iconst 2, 1) := by decide +kernel
theorem dMo_numberOf_52 : decode cMo_numberOf 52 = .ok (.if_icmp .lt 23, 3) := by decide +kernel
theorem dMo_numberOf_55 : decode cMo_numberOf 55 = .ok (.aload_n 0, 1) := by decide +kernel
theorem dMo_numberOf_56 : decode cMo_numberOf 56 = .ok (.iconst 0, 1) := by decide +kernel
theorem dMo_numberOf_57 : decode cMo_numberOf 57 = .ok (.invokevirtual 175, 3) := by decide +kernel
theorem dMo_numberOf_60 : decode cMo_numberOf 60 = .ok (.bipush 9, 2) := by decide +kernel
theorem dMo_numberOf_62 : decode cMo_numberOf 62 = .ok (.if_icmp .gt 13, 3) := by decide +kernel
theorem dMo_numberOf_65 : decode cMo_numberOf 65 = .ok (.aload_n 0, 1) := by decide +kernel
theorem dMo_numberOf_66 : decode cMo_numberOf 66 = .ok (.iconst 1, 1) := by decide +kernel
theorem dMo_numberOf_67 : decode cMo_numberOf 67 = .ok (.invokevirtual 175, 3) := by decide +kernel
theorem dMo_numberOf_70 : decode cMo_numberOf 70 = .ok (.bipush 9, 2) := by decide +kernel
theorem dMo_numberOf_72 : decode cMo_numberOf 72 = .ok (.if_icmp .le 5, 3) := by decide +kernel
theorem dMo_numberOf_75 : decode cMo_numberOf 75 = .ok (.iconst (-1), 1) := by decide +kernel
theorem dMo_numberOf_76 : decode cMo_numberOf 76 = .ok (.ireturn, 1) := by decide +kernel
theorem dMo_numberOf_77 : decode cMo_numberOf 77 = .ok (.bipush 10, 2) := by decide +kernel
theorem dMo_numberOf_79 : decode cMo_numberOf 79 = .ok (.aload_n 0, 1) := by decide +kernel
theorem dMo_numberOf_80 : decode cMo_numberOf 80 = .ok (.iconst 0, 1) := by decide +kernel
theorem dMo_numberOf_81 : decode cMo_numberOf 81 = .ok (.invokevirtual 175, 3) := by decide +kernel
theorem dMo_numberOf_84 : decode cMo_numberOf 84 = .ok (.imul, 1) := by decide +kernel
theorem dMo_numberOf_85 : decode cMo_numberOf 85 = .ok (.aload_n 0, 1) := by decide +kernel
theorem dMo_numberOf_86 : decode cMo_numberOf 86 = .ok (.iconst 1, 1) := by decide +kernel
theorem dMo_numberOf_87 : decode cMo_numberOf 87 = .ok (.invokevirtual 175, 3) := by decide +kernel
theorem dMo_numberOf_90 : decode cMo_numberOf 90 = .ok (.iadd, 1) := by decide +kernel
theorem dMo_numberOf_91 : decode cMo_numberOf 91 = .ok (.istore_n 2, 1) := by decide +kernel
theorem dMo_numberOf_92 : decode cMo_numberOf 92 = .ok (.iload_n 2, 1) := by decide +kernel
theorem dMo_numberOf_93 : decode cMo_numberOf 93 = .ok (.bipush 63, 2) := by decide +kernel
theorem dMo_numberOf_95 : decode cMo_numberOf 95 = .ok (.if_icmp .le 7, 3) := by decide +kernel
theorem dMo_numberOf_98 : decode cMo_numberOf 98 = .ok (.iconst (-1), 1) := by decide +kernel
theorem dMo_numberOf_99 : decode cMo_numberOf 99 = .ok (.goto 4, 3) := by decide +kernel
theorem dMo_numberOf_102 : decode cMo_numberOf 102 = .ok (.iload_n 2, 1) := by decide +kernel
theorem dMo_numberOf_103 : decode cMo_numberOf 103 = .ok (.ireturn, 1) := by decide +kernel
theorem dMo_onesOf_0 : decode cMo_onesOf 0 = .ok (.iconst 0, 1) := by decide +kernel
theorem dMo_onesOf_1 : decode cMo_onesOf 1 = .ok (.istore_n 1, 1) := by decide +kernel
theorem dMo_onesOf_2 : decode cMo_onesOf 2 = .ok (.iconst 0, 1) := by decide +kernel
theorem dMo_onesOf_3 : decode cMo_onesOf 3 = .ok (.istore_n 2, 1) := by decide +kernel
theorem dMo_onesOf_4 : decode cMo_onesOf 4 = .ok (.iload_n 2, 1) := by decide +kernel
theorem dMo_onesOf_5 : decode cMo_onesOf 5 = .ok (.bipush 32, 2) := by decide +kernel
theorem dMo_onesOf_7 : decode cMo_onesOf 7 = .ok (.if_icmp .ge 17, 3) := by decide +kernel
theorem dMo_onesOf_10 : decode cMo_onesOf 10 = .ok (.iload_n 1, 1) := by decide +kernel
theorem dMo_onesOf_11 : decode cMo_onesOf 11 = .ok (.iload_n 0, 1) := by decide +kernel
theorem dMo_onesOf_12 : decode cMo_onesOf 12 = .ok (.iload_n 2, 1) := by decide +kernel
theorem dMo_onesOf_13 : decode cMo_onesOf 13 = .ok (.ishr, 1) := by decide +kernel
theorem dMo_onesOf_14 : decode cMo_onesOf 14 = .ok (.iconst 1, 1) := by decide +kernel
theorem dMo_onesOf_15 : decode cMo_onesOf 15 = .ok (.iand, 1) := by decide +kernel
theorem dMo_onesOf_16 : decode cMo_onesOf 16 = .ok (.iadd, 1) := by decide +kernel
theorem dMo_onesOf_17 : decode cMo_onesOf 17 = .ok (.istore_n 1, 1) := by decide +kernel
theorem dMo_onesOf_18 : decode cMo_onesOf 18 = .ok (.iinc 2 1, 3) := by decide +kernel
theorem dMo_onesOf_21 : decode cMo_onesOf 21 = .ok (.goto (-17), 3) := by decide +kernel
theorem dMo_onesOf_24 : decode cMo_onesOf 24 = .ok (.iload_n 1, 1) := by decide +kernel
theorem dMo_onesOf_25 : decode cMo_onesOf 25 = .ok (.ireturn, 1) := by decide +kernel
theorem dMo_outBit_0 : decode cMo_outBit 0 = .ok (.aload_n 0, 1) := by decide +kernel
theorem dMo_outBit_1 : decode cMo_outBit 1 = .ok (.getfield 13, 3) := by decide +kernel
theorem dMo_outBit_4 : decode cMo_outBit 4 = .ok (.aload_n 0, 1) := by decide +kernel
theorem dMo_outBit_5 : decode cMo_outBit 5 = .ok (.getfield 19, 3) := by decide +kernel
theorem dMo_outBit_8 : decode cMo_outBit 8 = .ok (.iload_n 1, 1) := by decide +kernel
theorem dMo_outBit_9 : decode cMo_outBit 9 = .ok (.iaload, 1) := by decide +kernel
theorem dMo_outBit_10 : decode cMo_outBit 10 = .ok (.iaload, 1) := by decide +kernel
theorem dMo_outBit_11 : decode cMo_outBit 11 = .ok (.ifCond .ne 7, 3) := by decide +kernel
theorem dMo_outBit_14 : decode cMo_outBit 14 = .ok (.iconst 4, 1) := by decide +kernel
theorem dMo_outBit_15 : decode cMo_outBit 15 = .ok (.goto 5, 3) := by decide +kernel
theorem dMo_outBit_18 : decode cMo_outBit 18 = .ok (.bipush 7, 2) := by decide +kernel
theorem dMo_outBit_20 : decode cMo_outBit 20 = .ok (.istore_n 3, 1) := by decide +kernel
theorem dMo_outBit_21 : decode cMo_outBit 21 = .ok (.aload_n 0, 1) := by decide +kernel
theorem dMo_outBit_22 : decode cMo_outBit 22 = .ok (.iload_n 1, 1) := by decide +kernel
theorem dMo_outBit_23 : decode cMo_outBit 23 = .ok (.iload_n 2, 1) := by decide +kernel
theorem dMo_outBit_24 : decode cMo_outBit 24 = .ok (.iload_n 3, 1) := by decide +kernel
theorem dMo_outBit_25 : decode cMo_outBit 25 = .ok (.idiv, 1) := by decide +kernel
theorem dMo_outBit_26 : decode cMo_outBit 26 = .ok (.invokevirtual 134, 3) := by decide +kernel
theorem dMo_outBit_29 : decode cMo_outBit 29 = .ok (.iload_n 2, 1) := by decide +kernel
theorem dMo_outBit_30 : decode cMo_outBit 30 = .ok (.iload_n 3, 1) := by decide +kernel
theorem dMo_outBit_31 : decode cMo_outBit 31 = .ok (.irem, 1) := by decide +kernel
theorem dMo_outBit_32 : decode cMo_outBit 32 = .ok (.ishr, 1) := by decide +kernel
theorem dMo_outBit_33 : decode cMo_outBit 33 = .ok (.iconst 1, 1) := by decide +kernel
theorem dMo_outBit_34 : decode cMo_outBit 34 = .ok (.iand, 1) := by decide +kernel
theorem dMo_outBit_35 : decode cMo_outBit 35 = .ok (.ireturn, 1) := by decide +kernel
theorem dMo_outgoing_0 : decode cMo_outgoing 0 = .ok (.aload_n 0, 1) := by decide +kernel
theorem dMo_outgoing_1 : decode cMo_outgoing 1 = .ok (.getfield 13, 3) := by decide +kernel
theorem dMo_outgoing_4 : decode cMo_outgoing 4 = .ok (.aload_n 0, 1) := by decide +kernel
theorem dMo_outgoing_5 : decode cMo_outgoing 5 = .ok (.getfield 19, 3) := by decide +kernel
theorem dMo_outgoing_8 : decode cMo_outgoing 8 = .ok (.iload_n 1, 1) := by decide +kernel
theorem dMo_outgoing_9 : decode cMo_outgoing 9 = .ok (.iaload, 1) := by decide +kernel
theorem dMo_outgoing_10 : decode cMo_outgoing 10 = .ok (.iaload, 1) := by decide +kernel
theorem dMo_outgoing_11 : decode cMo_outgoing 11 = .ok (.ifCond .ne 67, 3) := by decide +kernel
theorem dMo_outgoing_14 : decode cMo_outgoing 14 = .ok (.iload_n 2, 1) := by decide +kernel
theorem dMo_outgoing_15 : decode cMo_outgoing 15 = .ok (.ifCond .ne 15, 3) := by decide +kernel
theorem dMo_outgoing_18 : decode cMo_outgoing 18 = .ok (.aload_n 0, 1) := by decide +kernel
theorem dMo_outgoing_19 : decode cMo_outgoing 19 = .ok (.getfield 25, 3) := by decide +kernel
theorem dMo_outgoing_22 : decode cMo_outgoing 22 = .ok (.iload_n 1, 1) := by decide +kernel
theorem dMo_outgoing_23 : decode cMo_outgoing 23 = .ok (.iaload, 1) := by decide +kernel
theorem dMo_outgoing_24 : decode cMo_outgoing 24 = .ok (.bipush 10, 2) := by decide +kernel
theorem dMo_outgoing_26 : decode cMo_outgoing 26 = .ok (.idiv, 1) := by decide +kernel
theorem dMo_outgoing_27 : decode cMo_outgoing 27 = .ok (.goto 50, 3) := by decide +kernel
theorem dMo_outgoing_30 : decode cMo_outgoing 30 = .ok (.iload_n 2, 1) := by decide +kernel
theorem dMo_outgoing_31 : decode cMo_outgoing 31 = .ok (.iconst 1, 1) := by decide +kernel
theorem dMo_outgoing_32 : decode cMo_outgoing 32 = .ok (.if_icmp .ne 15, 3) := by decide +kernel
theorem dMo_outgoing_35 : decode cMo_outgoing 35 = .ok (.aload_n 0, 1) := by decide +kernel
theorem dMo_outgoing_36 : decode cMo_outgoing 36 = .ok (.getfield 25, 3) := by decide +kernel
theorem dMo_outgoing_39 : decode cMo_outgoing 39 = .ok (.iload_n 1, 1) := by decide +kernel
theorem dMo_outgoing_40 : decode cMo_outgoing 40 = .ok (.iaload, 1) := by decide +kernel
theorem dMo_outgoing_41 : decode cMo_outgoing 41 = .ok (.bipush 10, 2) := by decide +kernel
theorem dMo_outgoing_43 : decode cMo_outgoing 43 = .ok (.irem, 1) := by decide +kernel
theorem dMo_outgoing_44 : decode cMo_outgoing 44 = .ok (.goto 33, 3) := by decide +kernel
theorem dMo_outgoing_47 : decode cMo_outgoing 47 = .ok (.iload_n 2, 1) := by decide +kernel
theorem dMo_outgoing_48 : decode cMo_outgoing 48 = .ok (.aload_n 0, 1) := by decide +kernel
theorem dMo_outgoing_49 : decode cMo_outgoing 49 = .ok (.getfield 28, 3) := by decide +kernel
theorem dMo_outgoing_52 : decode cMo_outgoing 52 = .ok (.iload_n 1, 1) := by decide +kernel
theorem dMo_outgoing_53 : decode cMo_outgoing 53 = .ok (.iaload, 1) := by decide +kernel
theorem dMo_outgoing_54 : decode cMo_outgoing 54 = .ok (.iconst 2, 1) := by decide +kernel
theorem dMo_outgoing_55 : decode cMo_outgoing 55 = .ok (.iadd, 1) := by decide +kernel
theorem dMo_outgoing_56 : decode cMo_outgoing 56 = .ok (.if_icmp .ge 19, 3) := by decide +kernel
theorem dMo_outgoing_59 : decode cMo_outgoing 59 = .ok (.aload_n 0, 1) := by decide +kernel
theorem dMo_outgoing_60 : decode cMo_outgoing 60 = .ok (.getfield 31, 3) := by decide +kernel
theorem dMo_outgoing_63 : decode cMo_outgoing 63 = .ok (.bipush 20, 2) := by decide +kernel
theorem dMo_outgoing_65 : decode cMo_outgoing 65 = .ok (.iload_n 1, 1) := by decide +kernel
theorem dMo_outgoing_66 : decode cMo_outgoing 66 = .ok (.imul, 1) := by decide +kernel
theorem dMo_outgoing_67 : decode cMo_outgoing 67 = .ok (.iload_n 2, 1) := by decide +kernel
theorem dMo_outgoing_68 : decode cMo_outgoing 68 = .ok (.iadd, 1) := by decide +kernel
theorem dMo_outgoing_69 : decode cMo_outgoing 69 = .ok (.iconst 2, 1) := by decide +kernel
theorem dMo_outgoing_70 : decode cMo_outgoing 70 = .ok (.isub, 1) := by decide +kernel
theorem dMo_outgoing_71 : decode cMo_outgoing 71 = .ok (.iaload, 1) := by decide +kernel
theorem dMo_outgoing_72 : decode cMo_outgoing 72 = .ok (.goto 5, 3) := by decide +kernel
theorem dMo_outgoing_75 : decode cMo_outgoing 75 = .ok (.bipush 12, 2) := by decide +kernel
theorem dMo_outgoing_77 : decode cMo_outgoing 77 = .ok (.ireturn, 1) := by decide +kernel
theorem dMo_outgoing_78 : decode cMo_outgoing 78 = .ok (.iload_n 2, 1) := by decide +kernel
theorem dMo_outgoing_79 : decode cMo_outgoing 79 = .ok (.ifCond .ne 15, 3) := by decide +kernel
theorem dMo_outgoing_82 : decode cMo_outgoing 82 = .ok (.bipush 32, 2) := by decide +kernel
theorem dMo_outgoing_84 : decode cMo_outgoing 84 = .ok (.aload_n 0, 1) := by decide +kernel
theorem dMo_outgoing_85 : decode cMo_outgoing 85 = .ok (.getfield 25, 3) := by decide +kernel
theorem dMo_outgoing_88 : decode cMo_outgoing 88 = .ok (.iload_n 1, 1) := by decide +kernel
theorem dMo_outgoing_89 : decode cMo_outgoing 89 = .ok (.iaload, 1) := by decide +kernel
theorem dMo_outgoing_90 : decode cMo_outgoing 90 = .ok (.iadd, 1) := by decide +kernel
theorem dMo_outgoing_91 : decode cMo_outgoing 91 = .ok (.goto 32, 3) := by decide +kernel
theorem dMo_outgoing_94 : decode cMo_outgoing 94 = .ok (.iload_n 2, 1) := by decide +kernel
theorem dMo_outgoing_95 : decode cMo_outgoing 95 = .ok (.aload_n 0, 1) := by decide +kernel
theorem dMo_outgoing_96 : decode cMo_outgoing 96 = .ok (.getfield 28, 3) := by decide +kernel
theorem dMo_outgoing_99 : decode cMo_outgoing 99 = .ok (.iload_n 1, 1) := by decide +kernel
theorem dMo_outgoing_100 : decode cMo_outgoing 100 = .ok (.iaload, 1) := by decide +kernel
theorem dMo_outgoing_101 : decode cMo_outgoing 101 = .ok (.iconst 1, 1) := by decide +kernel
theorem dMo_outgoing_102 : decode cMo_outgoing 102 = .ok (.iadd, 1) := by decide +kernel
theorem dMo_outgoing_103 : decode cMo_outgoing 103 = .ok (.if_icmp .ge 19, 3) := by decide +kernel
theorem dMo_outgoing_106 : decode cMo_outgoing 106 = .ok (.aload_n 0, 1) := by decide +kernel
theorem dMo_outgoing_107 : decode cMo_outgoing 107 = .ok (.getfield 31, 3) := by decide +kernel
theorem dMo_outgoing_110 : decode cMo_outgoing 110 = .ok (.bipush 20, 2) := by decide +kernel
theorem dMo_outgoing_112 : decode cMo_outgoing 112 = .ok (.iload_n 1, 1) := by decide +kernel
theorem dMo_outgoing_113 : decode cMo_outgoing 113 = .ok (.imul, 1) := by decide +kernel
theorem dMo_outgoing_114 : decode cMo_outgoing 114 = .ok (.iload_n 2, 1) := by decide +kernel
theorem dMo_outgoing_115 : decode cMo_outgoing 115 = .ok (.iadd, 1) := by decide +kernel
theorem dMo_outgoing_116 : decode cMo_outgoing 116 = .ok (.iconst 1, 1) := by decide +kernel
theorem dMo_outgoing_117 : decode cMo_outgoing 117 = .ok (.isub, 1) := by decide +kernel
theorem dMo_outgoing_118 : decode cMo_outgoing 118 = .ok (.iaload, 1) := by decide +kernel
theorem dMo_outgoing_119 : decode cMo_outgoing 119 = .ok (.goto 4, 3) := by decide +kernel
theorem dMo_outgoing_122 : decode cMo_outgoing 122 = .ok (.iconst 0, 1) := by decide +kernel
theorem dMo_outgoing_123 : decode cMo_outgoing 123 = .ok (.ireturn, 1) := by decide +kernel
theorem dMo_pager_0 : decode cMo_pager 0 = .ok (.aload_n 0, 1) := by decide +kernel
theorem dMo_pager_1 : decode cMo_pager 1 = .ok (.getfield 107, 3) := by decide +kernel
theorem dMo_pager_4 : decode cMo_pager 4 = .ok (.bipush 6, 2) := by decide +kernel
theorem dMo_pager_6 : decode cMo_pager 6 = .ok (.if_icmp .ne 5, 3) := by decide +kernel
theorem dMo_pager_9 : decode cMo_pager 9 = .ok (.iconst (-1), 1) := by decide +kernel
theorem dMo_pager_10 : decode cMo_pager 10 = .ok (.ireturn, 1) := by decide +kernel
theorem dMo_pager_11 : decode cMo_pager 11 = .ok (.aload_n 0, 1) := by decide +kernel
theorem dMo_pager_12 : decode cMo_pager 12 = .ok (.dup, 1) := by decide +kernel
theorem dMo_pager_13 : decode cMo_pager 13 = .ok (.getfield 107, 3) := by decide +kernel
theorem dMo_pager_16 : decode cMo_pager 16 = .ok (.iconst 1, 1) := by decide +kernel
theorem dMo_pager_17 : decode cMo_pager 17 = .ok (.iadd, 1) := by decide +kernel
theorem dMo_pager_18 : decode cMo_pager 18 = .ok (.putfield 107, 3) := by decide +kernel
theorem dMo_pager_21 : decode cMo_pager 21 = .ok (.aload_n 0, 1) := by decide +kernel
theorem dMo_pager_22 : decode cMo_pager 22 = .ok (.getfield 107, 3) := by decide +kernel
theorem dMo_pager_25 : decode cMo_pager 25 = .ok (.iconst 1, 1) := by decide +kernel
theorem dMo_pager_26 : decode cMo_pager 26 = .ok (.isub, 1) := by decide +kernel
theorem dMo_pager_27 : decode cMo_pager 27 = .ok (.ireturn, 1) := by decide +kernel
theorem dMo_repair_0 : decode cMo_repair 0 = .ok (.iload_n 1, 1) := by decide +kernel
theorem dMo_repair_1 : decode cMo_repair 1 = .ok (.invokestatic 99, 3) := by decide +kernel
theorem dMo_repair_4 : decode cMo_repair 4 = .ok (.ifCond .eq 8, 3) := by decide +kernel
theorem dMo_repair_7 : decode cMo_repair 7 = .ok (.iload_n 1, 1) := by decide +kernel
theorem dMo_repair_8 : decode cMo_repair 8 = .ok (.bipush 11, 2) := by decide +kernel
theorem dMo_repair_10 : decode cMo_repair 10 = .ok (.iushr, 1) := by decide +kernel
theorem dMo_repair_11 : decode cMo_repair 11 = .ok (.ireturn, 1) := by decide +kernel
theorem dMo_repair_12 : decode cMo_repair 12 = .ok (.iconst 0, 1) := by decide +kernel
theorem dMo_repair_13 : decode cMo_repair 13 = .ok (.istore_n 2, 1) := by decide +kernel
theorem dMo_repair_14 : decode cMo_repair 14 = .ok (.iload_n 2, 1) := by decide +kernel
theorem dMo_repair_15 : decode cMo_repair 15 = .ok (.bipush 32, 2) := by decide +kernel
theorem dMo_repair_17 : decode cMo_repair 17 = .ok (.if_icmp .ge 67, 3) := by decide +kernel
theorem dMo_repair_20 : decode cMo_repair 20 = .ok (.iload_n 1, 1) := by decide +kernel
theorem dMo_repair_21 : decode cMo_repair 21 = .ok (.iconst 1, 1) := by decide +kernel
theorem dMo_repair_22 : decode cMo_repair 22 = .ok (.iload_n 2, 1) := by decide +kernel
theorem dMo_repair_23 : decode cMo_repair 23 = .ok (.ishl, 1) := by decide +kernel
theorem dMo_repair_24 : decode cMo_repair 24 = .ok (.ixor, 1) := by decide +kernel
theorem dMo_repair_25 : decode cMo_repair 25 = .ok (.invokestatic 99, 3) := by decide +kernel
theorem dMo_repair_28 : decode cMo_repair 28 = .ok (.ifCond .eq 12, 3) := by decide +kernel
theorem dMo_repair_31 : decode cMo_repair 31 = .ok (.iload_n 1, 1) := by decide +kernel
theorem dMo_repair_32 : decode cMo_repair 32 = .ok (.iconst 1, 1) := by decide +kernel
theorem dMo_repair_33 : decode cMo_repair 33 = .ok (.iload_n 2, 1) := by decide +kernel
theorem dMo_repair_34 : decode cMo_repair 34 = .ok (.ishl, 1) := by decide +kernel
theorem dMo_repair_35 : decode cMo_repair 35 = .ok (.ixor, 1) := by decide +kernel
theorem dMo_repair_36 : decode cMo_repair 36 = .ok (.bipush 11, 2) := by decide +kernel
theorem dMo_repair_38 : decode cMo_repair 38 = .ok (.iushr, 1) := by decide +kernel
theorem dMo_repair_39 : decode cMo_repair 39 = .ok (.ireturn, 1) := by decide +kernel
theorem dMo_repair_40 : decode cMo_repair 40 = .ok (.iconst 0, 1) := by decide +kernel
theorem dMo_repair_41 : decode cMo_repair 41 = .ok (.istore_n 3, 1) := by decide +kernel
theorem dMo_repair_42 : decode cMo_repair 42 = .ok (.iload_n 3, 1) := by decide +kernel
theorem dMo_repair_43 : decode cMo_repair 43 = .ok (.iload_n 2, 1) := by decide +kernel
theorem dMo_repair_44 : decode cMo_repair 44 = .ok (.if_icmp .ge 34, 3) := by decide +kernel
theorem dMo_repair_47 : decode cMo_repair 47 = .ok (.iload_n 1, 1) := by decide +kernel
theorem dMo_repair_48 : decode cMo_repair 48 = .ok (.iconst 1, 1) := by decide +kernel
theorem dMo_repair_49 : decode cMo_repair 49 = .ok (.iload_n 2, 1) := by decide +kernel
theorem dMo_repair_50 : decode cMo_repair 50 = .ok (.ishl, 1) := by decide +kernel
theorem dMo_repair_51 : decode cMo_repair 51 = .ok (.ixor, 1) := by decide +kernel
theorem dMo_repair_52 : decode cMo_repair 52 = .ok (.iconst 1, 1) := by decide +kernel
theorem dMo_repair_53 : decode cMo_repair 53 = .ok (.iload_n 3, 1) := by decide +kernel
theorem dMo_repair_54 : decode cMo_repair 54 = .ok (.ishl, 1) := by decide +kernel
theorem dMo_repair_55 : decode cMo_repair 55 = .ok (.ixor, 1) := by decide +kernel
theorem dMo_repair_56 : decode cMo_repair 56 = .ok (.istore 4, 2) := by decide +kernel
theorem dMo_repair_58 : decode cMo_repair 58 = .ok (.iload 4, 2) := by decide +kernel
theorem dMo_repair_60 : decode cMo_repair 60 = .ok (.invokestatic 99, 3) := by decide +kernel
theorem dMo_repair_63 : decode cMo_repair 63 = .ok (.ifCond .eq 9, 3) := by decide +kernel
theorem dMo_repair_66 : decode cMo_repair 66 = .ok (.iload 4, 2) := by decide +kernel
theorem dMo_repair_68 : decode cMo_repair 68 = .ok (.bipush 11, 2) := by decide +kernel
theorem dMo_repair_70 : decode cMo_repair 70 = .ok (.iushr, 1) := by decide +kernel
theorem dMo_repair_71 : decode cMo_repair 71 = .ok (.ireturn, 1) := by decide +kernel
theorem dMo_repair_72 : decode cMo_repair 72 = .ok (.iinc 3 1, 3) := by decide +kernel
theorem dMo_repair_75 : decode cMo_repair 75 = .ok (.goto (-33), 3) := by decide +kernel
theorem dMo_repair_78 : decode cMo_repair 78 = .ok (.iinc 2 1, 3) := by decide +kernel
theorem dMo_repair_81 : decode cMo_repair 81 = .ok (.goto (-67), 3) := by decide +kernel
theorem dMo_repair_84 : decode cMo_repair 84 = .ok (.iconst (-1), 1) := by decide +kernel
theorem dMo_repair_85 : decode cMo_repair 85 = .ok (.ireturn, 1) := by decide +kernel
theorem dMo_room_0 : decode cMo_room 0 = .ok (.bipush 10, 2) := by decide +kernel
theorem dMo_room_2 : decode cMo_room 2 = .ok (.aload_n 0, 1) := by decide +kernel
theorem dMo_room_3 : decode cMo_room 3 = .ok (.getfield 178, 3) := by decide +kernel
theorem dMo_room_6 : decode cMo_room 6 = .ok (.imul, 1) := by decide +kernel
theorem dMo_room_7 : decode cMo_room 7 = .ok (.istore_n 1, 1) := by decide +kernel
theorem dMo_room_8 : decode cMo_room 8 = .ok (.aload_n 0, 1) := by decide +kernel
theorem dMo_room_9 : decode cMo_room 9 = .ok (.getfield 56, 3) := by decide +kernel
theorem dMo_room_12 : decode cMo_room 12 = .ok (.aload_n 0, 1) := by decide +kernel
theorem dMo_room_13 : decode cMo_room 13 = .ok (.getfield 178, 3) := by decide +kernel
theorem dMo_room_16 : decode cMo_room 16 = .ok (.iaload, 1) := by decide +kernel
theorem dMo_room_17 : decode cMo_room 17 = .ok (.bipush 10, 2) := by decide +kernel
theorem dMo_room_19 : decode cMo_room 19 = .ok (.if_icmp .ne 127, 3) := by decide +kernel
theorem dMo_room_22 : decode cMo_room 22 = .ok (.iload_n 1, 1) := by decide +kernel
theorem dMo_room_23 : decode cMo_room 23 = .ok (.istore_n 2, 1) := by decide +kernel
theorem dMo_room_24 : decode cMo_room 24 = .ok (.iload_n 2, 1) := by decide +kernel
theorem dMo_room_25 : decode cMo_room 25 = .ok (.iload_n 1, 1) := by decide +kernel
theorem dMo_room_26 : decode cMo_room 26 = .ok (.bipush 9, 2) := by decide +kernel
theorem dMo_room_28 : decode cMo_room 28 = .ok (.iadd, 1) := by decide +kernel
theorem dMo_room_29 : decode cMo_room 29 = .ok (.if_icmp .ge 104, 3) := by decide +kernel
theorem dMo_room_32 : decode cMo_room 32 = .ok (.aload_n 0, 1) := by decide +kernel
theorem dMo_room_33 : decode cMo_room 33 = .ok (.getfield 59, 3) := by decide +kernel
theorem dMo_room_36 : decode cMo_room 36 = .ok (.iload_n 2, 1) := by decide +kernel
theorem dMo_room_37 : decode cMo_room 37 = .ok (.aload_n 0, 1) := by decide +kernel
theorem dMo_room_38 : decode cMo_room 38 = .ok (.getfield 59, 3) := by decide +kernel
theorem dMo_room_41 : decode cMo_room 41 = .ok (.iload_n 2, 1) := by decide +kernel
theorem dMo_room_42 : decode cMo_room 42 = .ok (.iconst 1, 1) := by decide +kernel
theorem dMo_room_43 : decode cMo_room 43 = .ok (.iadd, 1) := by decide +kernel
theorem dMo_room_44 : decode cMo_room 44 = .ok (.iaload, 1) := by decide +kernel
theorem dMo_room_45 : decode cMo_room 45 = .ok (.iastore, 1) := by decide +kernel
theorem dMo_room_46 : decode cMo_room 46 = .ok (.aload_n 0, 1) := by decide +kernel
theorem dMo_room_47 : decode cMo_room 47 = .ok (.getfield 62, 3) := by decide +kernel
theorem dMo_room_50 : decode cMo_room 50 = .ok (.iload_n 2, 1) := by decide +kernel
theorem dMo_room_51 : decode cMo_room 51 = .ok (.aload_n 0, 1) := by decide +kernel
theorem dMo_room_52 : decode cMo_room 52 = .ok (.getfield 62, 3) := by decide +kernel
theorem dMo_room_55 : decode cMo_room 55 = .ok (.iload_n 2, 1) := by decide +kernel
theorem dMo_room_56 : decode cMo_room 56 = .ok (.iconst 1, 1) := by decide +kernel
theorem dMo_room_57 : decode cMo_room 57 = .ok (.iadd, 1) := by decide +kernel
theorem dMo_room_58 : decode cMo_room 58 = .ok (.iaload, 1) := by decide +kernel
theorem dMo_room_59 : decode cMo_room 59 = .ok (.iastore, 1) := by decide +kernel
theorem dMo_room_60 : decode cMo_room 60 = .ok (.aload_n 0, 1) := by decide +kernel
theorem dMo_room_61 : decode cMo_room 61 = .ok (.getfield 65, 3) := by decide +kernel
theorem dMo_room_64 : decode cMo_room 64 = .ok (.iload_n 2, 1) := by decide +kernel
theorem dMo_room_65 : decode cMo_room 65 = .ok (.aload_n 0, 1) := by decide +kernel
theorem dMo_room_66 : decode cMo_room 66 = .ok (.getfield 65, 3) := by decide +kernel
theorem dMo_room_69 : decode cMo_room 69 = .ok (.iload_n 2, 1) := by decide +kernel
theorem dMo_room_70 : decode cMo_room 70 = .ok (.iconst 1, 1) := by decide +kernel
theorem dMo_room_71 : decode cMo_room 71 = .ok (.iadd, 1) := by decide +kernel
theorem dMo_room_72 : decode cMo_room 72 = .ok (.iaload, 1) := by decide +kernel
theorem dMo_room_73 : decode cMo_room 73 = .ok (.iastore, 1) := by decide +kernel
theorem dMo_room_74 : decode cMo_room 74 = .ok (.aload_n 0, 1) := by decide +kernel
theorem dMo_room_75 : decode cMo_room 75 = .ok (.getfield 68, 3) := by decide +kernel
theorem dMo_room_78 : decode cMo_room 78 = .ok (.iload_n 2, 1) := by decide +kernel
theorem dMo_room_79 : decode cMo_room 79 = .ok (.aload_n 0, 1) := by decide +kernel
theorem dMo_room_80 : decode cMo_room 80 = .ok (.getfield 68, 3) := by decide +kernel
theorem dMo_room_83 : decode cMo_room 83 = .ok (.iload_n 2, 1) := by decide +kernel
theorem dMo_room_84 : decode cMo_room 84 = .ok (.iconst 1, 1) := by decide +kernel
theorem dMo_room_85 : decode cMo_room 85 = .ok (.iadd, 1) := by decide +kernel
theorem dMo_room_86 : decode cMo_room 86 = .ok (.baload, 1) := by decide +kernel
theorem dMo_room_87 : decode cMo_room 87 = .ok (.bastore, 1) := by decide +kernel
theorem dMo_room_88 : decode cMo_room 88 = .ok (.iconst 0, 1) := by decide +kernel
theorem dMo_room_89 : decode cMo_room 89 = .ok (.istore_n 3, 1) := by decide +kernel
theorem dMo_room_90 : decode cMo_room 90 = .ok (.iload_n 3, 1) := by decide +kernel
theorem dMo_room_91 : decode cMo_room 91 = .ok (.bipush 22, 2) := by decide +kernel
theorem dMo_room_93 : decode cMo_room 93 = .ok (.if_icmp .ge 34, 3) := by decide +kernel
theorem dMo_room_96 : decode cMo_room 96 = .ok (.aload_n 0, 1) := by decide +kernel
theorem dMo_room_97 : decode cMo_room 97 = .ok (.getfield 71, 3) := by decide +kernel
theorem dMo_room_100 : decode cMo_room 100 = .ok (.bipush 22, 2) := by decide +kernel
theorem dMo_room_102 : decode cMo_room 102 = .ok (.iload_n 2, 1) := by decide +kernel
theorem dMo_room_103 : decode cMo_room 103 = .ok (.imul, 1) := by decide +kernel
theorem dMo_room_104 : decode cMo_room 104 = .ok (.iload_n 3, 1) := by decide +kernel
theorem dMo_room_105 : decode cMo_room 105 = .ok (.iadd, 1) := by decide +kernel
theorem dMo_room_106 : decode cMo_room 106 = .ok (.aload_n 0, 1) := by decide +kernel
theorem dMo_room_107 : decode cMo_room 107 = .ok (.getfield 71, 3) := by decide +kernel
theorem dMo_room_110 : decode cMo_room 110 = .ok (.bipush 22, 2) := by decide +kernel
theorem dMo_room_112 : decode cMo_room 112 = .ok (.iload_n 2, 1) := by decide +kernel
theorem dMo_room_113 : decode cMo_room 113 = .ok (.imul, 1) := by decide +kernel
theorem dMo_room_114 : decode cMo_room 114 = .ok (.bipush 22, 2) := by decide +kernel
theorem dMo_room_116 : decode cMo_room 116 = .ok (.iadd, 1) := by decide +kernel
theorem dMo_room_117 : decode cMo_room 117 = .ok (.iload_n 3, 1) := by decide +kernel
theorem dMo_room_118 : decode cMo_room 118 = .ok (.iadd, 1) := by decide +kernel
theorem dMo_room_119 : decode cMo_room 119 = .ok (.iaload, 1) := by decide +kernel
theorem dMo_room_120 : decode cMo_room 120 = .ok (.iastore, 1) := by decide +kernel
theorem dMo_room_121 : decode cMo_room 121 = .ok (.iinc 3 1, 3) := by decide +kernel
theorem dMo_room_124 : decode cMo_room 124 = .ok (.goto (-34), 3) := by decide +kernel
theorem dMo_room_127 : decode cMo_room 127 = .ok (.iinc 2 1, 3) := by decide +kernel
theorem dMo_room_130 : decode cMo_room 130 = .ok (.goto (-106), 3) := by decide +kernel
theorem dMo_room_133 : decode cMo_room 133 = .ok (.aload_n 0, 1) := by decide +kernel
theorem dMo_room_134 : decode cMo_room 134 = .ok (.getfield 56, 3) := by decide +kernel
theorem dMo_room_137 : decode cMo_room 137 = .ok (.aload_n 0, 1) := by decide +kernel
theorem dMo_room_138 : decode cMo_room 138 = .ok (.getfield 178, 3) := by decide +kernel
theorem dMo_room_141 : decode cMo_room 141 = .ok (.dup2, 1) := by decide +kernel
theorem dMo_room_142 : decode cMo_room 142 = .ok (.iaload, 1) := by decide +kernel
theorem dMo_room_143 : decode cMo_room 143 = .ok (.iconst 1, 1) := by decide +kernel
theorem dMo_room_144 : decode cMo_room 144 = .ok (.isub, 1) := by decide +kernel
theorem dMo_room_145 : decode cMo_room 145 = .ok (.iastore, 1) := by decide +kernel
theorem dMo_room_146 : decode cMo_room 146 = .ok (.aload_n 0, 1) := by decide +kernel
theorem dMo_room_147 : decode cMo_room 147 = .ok (.getfield 56, 3) := by decide +kernel
theorem dMo_room_150 : decode cMo_room 150 = .ok (.aload_n 0, 1) := by decide +kernel
theorem dMo_room_151 : decode cMo_room 151 = .ok (.getfield 178, 3) := by decide +kernel
theorem dMo_room_154 : decode cMo_room 154 = .ok (.dup2, 1) := by decide +kernel
theorem dMo_room_155 : decode cMo_room 155 = .ok (.iaload, 1) := by decide +kernel
theorem dMo_room_156 : decode cMo_room 156 = .ok (.iconst 1, 1) := by decide +kernel
theorem dMo_room_157 : decode cMo_room 157 = .ok (.iadd, 1) := by decide +kernel
theorem dMo_room_158 : decode cMo_room 158 = .ok (.iastore, 1) := by decide +kernel
theorem dMo_room_159 : decode cMo_room 159 = .ok (.iload_n 1, 1) := by decide +kernel
theorem dMo_room_160 : decode cMo_room 160 = .ok (.aload_n 0, 1) := by decide +kernel
theorem dMo_room_161 : decode cMo_room 161 = .ok (.getfield 56, 3) := by decide +kernel
theorem dMo_room_164 : decode cMo_room 164 = .ok (.aload_n 0, 1) := by decide +kernel
theorem dMo_room_165 : decode cMo_room 165 = .ok (.getfield 178, 3) := by decide +kernel
theorem dMo_room_168 : decode cMo_room 168 = .ok (.iaload, 1) := by decide +kernel
theorem dMo_room_169 : decode cMo_room 169 = .ok (.iadd, 1) := by decide +kernel
theorem dMo_room_170 : decode cMo_room 170 = .ok (.iconst 1, 1) := by decide +kernel
theorem dMo_room_171 : decode cMo_room 171 = .ok (.isub, 1) := by decide +kernel
theorem dMo_room_172 : decode cMo_room 172 = .ok (.ireturn, 1) := by decide +kernel
theorem dMo_send_0 : decode cMo_send 0 = .ok (.bipush 31, 2) := by decide +kernel
theorem dMo_send_2 : decode cMo_send 2 = .ok (.istore_n 2, 1) := by decide +kernel
theorem dMo_send_3 : decode cMo_send 3 = .ok (.iload_n 2, 1) := by decide +kernel
theorem dMo_send_4 : decode cMo_send 4 = .ok (.ifCond .lt 33, 3) := by decide +kernel
theorem dMo_send_7 : decode cMo_send 7 = .ok (.aload_n 0, 1) := by decide +kernel
theorem dMo_send_8 : decode cMo_send 8 = .ok (.getfield 47, 3) := by decide +kernel
theorem dMo_send_11 : decode cMo_send 11 = .ok (.aload_n 0, 1) := by decide +kernel
theorem dMo_send_12 : decode cMo_send 12 = .ok (.getfield 155, 3) := by decide +kernel
theorem dMo_send_15 : decode cMo_send 15 = .ok (.iload_n 1, 1) := by decide +kernel
theorem dMo_send_16 : decode cMo_send 16 = .ok (.iload_n 2, 1) := by decide +kernel
theorem dMo_send_17 : decode cMo_send 17 = .ok (.ishr, 1) := by decide +kernel
theorem dMo_send_18 : decode cMo_send 18 = .ok (.iconst 1, 1) := by decide +kernel
theorem dMo_send_19 : decode cMo_send 19 = .ok (.iand, 1) := by decide +kernel
theorem dMo_send_20 : decode cMo_send 20 = .ok (.iastore, 1) := by decide +kernel
theorem dMo_send_21 : decode cMo_send 21 = .ok (.aload_n 0, 1) := by decide +kernel
theorem dMo_send_22 : decode cMo_send 22 = .ok (.dup, 1) := by decide +kernel
theorem dMo_send_23 : decode cMo_send 23 = .ok (.getfield 155, 3) := by decide +kernel
theorem dMo_send_26 : decode cMo_send 26 = .ok (.iconst 1, 1) := by decide +kernel
theorem dMo_send_27 : decode cMo_send 27 = .ok (.iadd, 1) := by decide +kernel
theorem dMo_send_28 : decode cMo_send 28 = .ok (.putfield 155, 3) := by decide +kernel
theorem dMo_send_31 : decode cMo_send 31 = .ok (.iinc 2 (-1), 3) := by decide +kernel
theorem dMo_send_34 : decode cMo_send 34 = .ok (.goto (-31), 3) := by decide +kernel
theorem dMo_send_37 : decode cMo_send 37 = .ok (.return_, 1) := by decide +kernel
theorem dMo_sign_0 : decode cMo_sign 0 = .ok (.aload_n 0, 1) := by decide +kernel
theorem dMo_sign_1 : decode cMo_sign 1 = .ok (.iload_n 1, 1) := by decide +kernel
theorem dMo_sign_2 : decode cMo_sign 2 = .ok (.iload_n 2, 1) := by decide +kernel
theorem dMo_sign_3 : decode cMo_sign 3 = .ok (.invokevirtual 224, 3) := by decide +kernel
theorem dMo_sign_6 : decode cMo_sign 6 = .ok (.ifCond .eq 22, 3) := by decide +kernel
theorem dMo_sign_9 : decode cMo_sign 9 = .ok (.iload_n 3, 1) := by decide +kernel
theorem dMo_sign_10 : decode cMo_sign 10 = .ok (.ifCond .lt 18, 3) := by decide +kernel
theorem dMo_sign_13 : decode cMo_sign 13 = .ok (.iload_n 3, 1) := by decide +kernel
theorem dMo_sign_14 : decode cMo_sign 14 = .ok (.aload_n 0, 1) := by decide +kernel
theorem dMo_sign_15 : decode cMo_sign 15 = .ok (.getfield 65, 3) := by decide +kernel
theorem dMo_sign_18 : decode cMo_sign 18 = .ok (.bipush 10, 2) := by decide +kernel
theorem dMo_sign_20 : decode cMo_sign 20 = .ok (.iload_n 1, 1) := by decide +kernel
theorem dMo_sign_21 : decode cMo_sign 21 = .ok (.imul, 1) := by decide +kernel
theorem dMo_sign_22 : decode cMo_sign 22 = .ok (.iload_n 2, 1) := by decide +kernel
theorem dMo_sign_23 : decode cMo_sign 23 = .ok (.iadd, 1) := by decide +kernel
theorem dMo_sign_24 : decode cMo_sign 24 = .ok (.iaload, 1) := by decide +kernel
theorem dMo_sign_25 : decode cMo_sign 25 = .ok (.if_icmp .lt 5, 3) := by decide +kernel
theorem dMo_sign_28 : decode cMo_sign 28 = .ok (.iconst (-1), 1) := by decide +kernel
theorem dMo_sign_29 : decode cMo_sign 29 = .ok (.ireturn, 1) := by decide +kernel
theorem dMo_sign_30 : decode cMo_sign 30 = .ok (.aload_n 0, 1) := by decide +kernel
theorem dMo_sign_31 : decode cMo_sign 31 = .ok (.getfield 71, 3) := by decide +kernel
theorem dMo_sign_34 : decode cMo_sign 34 = .ok (.bipush 22, 2) := by decide +kernel
theorem dMo_sign_36 : decode cMo_sign 36 = .ok (.bipush 10, 2) := by decide +kernel
theorem dMo_sign_38 : decode cMo_sign 38 = .ok (.iload_n 1, 1) := by decide +kernel
theorem dMo_sign_39 : decode cMo_sign 39 = .ok (.imul, 1) := by decide +kernel
theorem dMo_sign_40 : decode cMo_sign 40 = .ok (.iload_n 2, 1) := by decide +kernel
theorem dMo_sign_41 : decode cMo_sign 41 = .ok (.iadd, 1) := by decide +kernel
theorem dMo_sign_42 : decode cMo_sign 42 = .ok (.imul, 1) := by decide +kernel
theorem dMo_sign_43 : decode cMo_sign 43 = .ok (.iload_n 3, 1) := by decide +kernel
theorem dMo_sign_44 : decode cMo_sign 44 = .ok (.iadd, 1) := by decide +kernel
theorem dMo_sign_45 : decode cMo_sign 45 = .ok (.iaload, 1) := by decide +kernel
theorem dMo_sign_46 : decode cMo_sign 46 = .ok (.ireturn, 1) := by decide +kernel
theorem dMo_transmit_0 : decode cMo_transmit 0 = .ok (.iload_n 1, 1) := by decide +kernel
theorem dMo_transmit_1 : decode cMo_transmit 1 = .ok (.iconst 1, 1) := by decide +kernel
theorem dMo_transmit_2 : decode cMo_transmit 2 = .ok (.if_icmp .lt 8, 3) := by decide +kernel
theorem dMo_transmit_5 : decode cMo_transmit 5 = .ok (.iload_n 1, 1) := by decide +kernel
theorem dMo_transmit_6 : decode cMo_transmit 6 = .ok (.iconst 4, 1) := by decide +kernel
theorem dMo_transmit_7 : decode cMo_transmit 7 = .ok (.if_icmp .le 5, 3) := by decide +kernel
theorem dMo_transmit_10 : decode cMo_transmit 10 = .ok (.iconst (-1), 1) := by decide +kernel
theorem dMo_transmit_11 : decode cMo_transmit 11 = .ok (.ireturn, 1) := by decide +kernel
theorem dMo_transmit_12 : decode cMo_transmit 12 = .ok (.iconst 0, 1) := by decide +kernel
theorem dMo_transmit_13 : decode cMo_transmit 13 = .ok (.istore_n 2, 1) := by decide +kernel
theorem dMo_transmit_14 : decode cMo_transmit 14 = .ok (.iload_n 2, 1) := by decide +kernel
theorem dMo_transmit_15 : decode cMo_transmit 15 = .ok (.bipush 64, 2) := by decide +kernel
theorem dMo_transmit_17 : decode cMo_transmit 17 = .ok (.if_icmp .ge 24, 3) := by decide +kernel
theorem dMo_transmit_20 : decode cMo_transmit 20 = .ok (.aload_n 0, 1) := by decide +kernel
theorem dMo_transmit_21 : decode cMo_transmit 21 = .ok (.getfield 44, 3) := by decide +kernel
theorem dMo_transmit_24 : decode cMo_transmit 24 = .ok (.iload_n 2, 1) := by decide +kernel
theorem dMo_transmit_25 : decode cMo_transmit 25 = .ok (.iconst 0, 1) := by decide +kernel
theorem dMo_transmit_26 : decode cMo_transmit 26 = .ok (.bastore, 1) := by decide +kernel
theorem dMo_transmit_27 : decode cMo_transmit 27 = .ok (.aload_n 0, 1) := by decide +kernel
theorem dMo_transmit_28 : decode cMo_transmit 28 = .ok (.getfield 41, 3) := by decide +kernel
theorem dMo_transmit_31 : decode cMo_transmit 31 = .ok (.iload_n 2, 1) := by decide +kernel
theorem dMo_transmit_32 : decode cMo_transmit 32 = .ok (.ldc 158, 2) := by decide +kernel
theorem dMo_transmit_34 : decode cMo_transmit 34 = .ok (.iastore, 1) := by decide +kernel
theorem dMo_transmit_35 : decode cMo_transmit 35 = .ok (.iinc 2 1, 3) := by decide +kernel
theorem dMo_transmit_38 : decode cMo_transmit 38 = .ok (.goto (-24), 3) := by decide +kernel
theorem dMo_transmit_41 : decode cMo_transmit 41 = .ok (.iconst 0, 1) := by decide +kernel
theorem dMo_transmit_42 : decode cMo_transmit 42 = .ok (.istore_n 2, 1) := by decide +kernel
theorem dMo_transmit_43 : decode cMo_transmit 43 = .ok (.iload_n 2, 1) := by decide +kernel
theorem dMo_transmit_44 : decode cMo_transmit 44 = .ok (.bipush 12, 2) := by decide +kernel
theorem dMo_transmit_46 : decode cMo_transmit 46 = .ok (.if_icmp .ge 16, 3) := by decide +kernel
theorem dMo_transmit_49 : decode cMo_transmit 49 = .ok (.aload_n 0, 1) := by decide +kernel
theorem dMo_transmit_50 : decode cMo_transmit 50 = .ok (.getfield 91, 3) := by decide +kernel
theorem dMo_transmit_53 : decode cMo_transmit 53 = .ok (.iload_n 2, 1) := by decide +kernel
theorem dMo_transmit_54 : decode cMo_transmit 54 = .ok (.iconst 0, 1) := by decide +kernel
theorem dMo_transmit_55 : decode cMo_transmit 55 = .ok (.iastore, 1) := by decide +kernel
theorem dMo_transmit_56 : decode cMo_transmit 56 = .ok (.iinc 2 1, 3) := by decide +kernel
theorem dMo_transmit_59 : decode cMo_transmit 59 = .ok (.goto (-16), 3) := by decide +kernel
theorem dMo_transmit_62 : decode cMo_transmit 62 = .ok (.iconst 3, 1) := by decide +kernel
theorem dMo_transmit_63 : decode cMo_transmit 63 = .ok (.istore_n 2, 1) := by decide +kernel
theorem dMo_transmit_64 : decode cMo_transmit 64 = .ok (.iload_n 2, 1) := by decide +kernel
theorem dMo_transmit_65 : decode cMo_transmit 65 = .ok (.ifCond .lt 89, 3) := by decide +kernel
theorem dMo_transmit_68 : decode cMo_transmit 68 = .ok (.iconst 0, 1) := by decide +kernel
theorem dMo_transmit_69 : decode cMo_transmit 69 = .ok (.istore_n 3, 1) := by decide +kernel
theorem dMo_transmit_70 : decode cMo_transmit 70 = .ok (.iload_n 3, 1) := by decide +kernel
theorem dMo_transmit_71 : decode cMo_transmit 71 = .ok (.aload_n 0, 1) := by decide +kernel
theorem dMo_transmit_72 : decode cMo_transmit 72 = .ok (.getfield 127, 3) := by decide +kernel
theorem dMo_transmit_75 : decode cMo_transmit 75 = .ok (.if_icmp .ge 73, 3) := by decide +kernel
theorem dMo_transmit_78 : decode cMo_transmit 78 = .ok (.aload_n 0, 1) := by decide +kernel
theorem dMo_transmit_79 : decode cMo_transmit 79 = .ok (.getfield 34, 3) := by decide +kernel
theorem dMo_transmit_82 : decode cMo_transmit 82 = .ok (.iload_n 3, 1) := by decide +kernel
theorem dMo_transmit_83 : decode cMo_transmit 83 = .ok (.baload, 1) := by decide +kernel
theorem dMo_transmit_84 : decode cMo_transmit 84 = .ok (.ifCond .eq 58, 3) := by decide +kernel
theorem dMo_transmit_87 : decode cMo_transmit 87 = .ok (.aload_n 0, 1) := by decide +kernel
theorem dMo_transmit_88 : decode cMo_transmit 88 = .ok (.getfield 22, 3) := by decide +kernel
theorem dMo_transmit_91 : decode cMo_transmit 91 = .ok (.iload_n 3, 1) := by decide +kernel
theorem dMo_transmit_92 : decode cMo_transmit 92 = .ok (.iaload, 1) := by decide +kernel
theorem dMo_transmit_93 : decode cMo_transmit 93 = .ok (.iload_n 2, 1) := by decide +kernel
theorem dMo_transmit_94 : decode cMo_transmit 94 = .ok (.if_icmp .ne 48, 3) := by decide +kernel
theorem dMo_transmit_97 : decode cMo_transmit 97 = .ok (.aload_n 0, 1) := by decide +kernel
theorem dMo_transmit_98 : decode cMo_transmit 98 = .ok (.getfield 91, 3) := by decide +kernel
theorem dMo_transmit_101 : decode cMo_transmit 101 = .ok (.aload_n 0, 1) := by decide +kernel
theorem dMo_transmit_102 : decode cMo_transmit 102 = .ok (.getfield 19, 3) := by decide +kernel
theorem dMo_transmit_105 : decode cMo_transmit 105 = .ok (.iload_n 3, 1) := by decide +kernel
theorem dMo_transmit_106 : decode cMo_transmit 106 = .ok (.iaload, 1) := by decide +kernel
theorem dMo_transmit_107 : decode cMo_transmit 107 = .ok (.iaload, 1) := by decide +kernel
theorem dMo_transmit_108 : decode cMo_transmit 108 = .ok (.ifCond .lt 34, 3) := by decide +kernel
theorem dMo_transmit_111 : decode cMo_transmit 111 = .ok (.aload_n 0, 1) := by decide +kernel
theorem dMo_transmit_112 : decode cMo_transmit 112 = .ok (.getfield 91, 3) := by decide +kernel
theorem dMo_transmit_115 : decode cMo_transmit 115 = .ok (.aload_n 0, 1) := by decide +kernel
theorem dMo_transmit_116 : decode cMo_transmit 116 = .ok (.getfield 19, 3) := by decide +kernel
theorem dMo_transmit_119 : decode cMo_transmit 119 = .ok (.iload_n 3, 1) := by decide +kernel
theorem dMo_transmit_120 : decode cMo_transmit 120 = .ok (.iaload, 1) := by decide +kernel
theorem dMo_transmit_121 : decode cMo_transmit 121 = .ok (.aload_n 0, 1) := by decide +kernel
theorem dMo_transmit_122 : decode cMo_transmit 122 = .ok (.iload_n 3, 1) := by decide +kernel
theorem dMo_transmit_123 : decode cMo_transmit 123 = .ok (.aload_n 0, 1) := by decide +kernel
theorem dMo_transmit_124 : decode cMo_transmit 124 = .ok (.getfield 91, 3) := by decide +kernel
theorem dMo_transmit_127 : decode cMo_transmit 127 = .ok (.aload_n 0, 1) := by decide +kernel
theorem dMo_transmit_128 : decode cMo_transmit 128 = .ok (.getfield 19, 3) := by decide +kernel
theorem dMo_transmit_131 : decode cMo_transmit 131 = .ok (.iload_n 3, 1) := by decide +kernel
theorem dMo_transmit_132 : decode cMo_transmit 132 = .ok (.iaload, 1) := by decide +kernel
theorem dMo_transmit_133 : decode cMo_transmit 133 = .ok (.iaload, 1) := by decide +kernel
theorem dMo_transmit_134 : decode cMo_transmit 134 = .ok (.bipush 16, 2) := by decide +kernel
theorem dMo_transmit_136 : decode cMo_transmit 136 = .ok (.iload_n 1, 1) := by decide +kernel
theorem dMo_transmit_137 : decode cMo_transmit 137 = .ok (.imul, 1) := by decide +kernel
theorem dMo_transmit_138 : decode cMo_transmit 138 = .ok (.invokevirtual 159, 3) := by decide +kernel
theorem dMo_transmit_141 : decode cMo_transmit 141 = .ok (.iastore, 1) := by decide +kernel
theorem dMo_transmit_142 : decode cMo_transmit 142 = .ok (.iinc 3 1, 3) := by decide +kernel
theorem dMo_transmit_145 : decode cMo_transmit 145 = .ok (.goto (-75), 3) := by decide +kernel
theorem dMo_transmit_148 : decode cMo_transmit 148 = .ok (.iinc 2 (-1), 3) := by decide +kernel
theorem dMo_transmit_151 : decode cMo_transmit 151 = .ok (.goto (-87), 3) := by decide +kernel
theorem dMo_transmit_154 : decode cMo_transmit 154 = .ok (.aload_n 0, 1) := by decide +kernel
theorem dMo_transmit_155 : decode cMo_transmit 155 = .ok (.iconst 0, 1) := by decide +kernel
theorem dMo_transmit_156 : decode cMo_transmit 156 = .ok (.putfield 155, 3) := by decide +kernel
theorem dMo_transmit_159 : decode cMo_transmit 159 = .ok (.aload_n 0, 1) := by decide +kernel
theorem dMo_transmit_160 : decode cMo_transmit 160 = .ok (.ldc 163, 2) := by decide +kernel
theorem dMo_transmit_162 : decode cMo_transmit 162 = .ok (.invokevirtual 164, 3) := by decide +kernel
theorem dMo_transmit_165 : decode cMo_transmit 165 = .ok (.aload_n 0, 1) := by decide +kernel
theorem dMo_transmit_166 : decode cMo_transmit 166 = .ok (.ldc 163, 2) := by decide +kernel
theorem dMo_transmit_168 : decode cMo_transmit 168 = .ok (.invokevirtual 164, 3) := by decide +kernel
theorem dMo_transmit_171 : decode cMo_transmit 171 = .ok (.iconst 0, 1) := by decide +kernel
theorem dMo_transmit_172 : decode cMo_transmit 172 = .ok (.istore_n 2, 1) := by decide +kernel
theorem dMo_transmit_173 : decode cMo_transmit 173 = .ok (.iload_n 2, 1) := by decide +kernel
theorem dMo_transmit_174 : decode cMo_transmit 174 = .ok (.bipush 16, 2) := by decide +kernel
theorem dMo_transmit_176 : decode cMo_transmit 176 = .ok (.iload_n 1, 1) := by decide +kernel
theorem dMo_transmit_177 : decode cMo_transmit 177 = .ok (.imul, 1) := by decide +kernel
theorem dMo_transmit_178 : decode cMo_transmit 178 = .ok (.if_icmp .ge 32, 3) := by decide +kernel
theorem dMo_transmit_181 : decode cMo_transmit 181 = .ok (.iload_n 2, 1) := by decide +kernel
theorem dMo_transmit_182 : decode cMo_transmit 182 = .ok (.bipush 16, 2) := by decide +kernel
theorem dMo_transmit_184 : decode cMo_transmit 184 = .ok (.irem, 1) := by decide +kernel
theorem dMo_transmit_185 : decode cMo_transmit 185 = .ok (.ifCond .ne 9, 3) := by decide +kernel
theorem dMo_transmit_188 : decode cMo_transmit 188 = .ok (.aload_n 0, 1) := by decide +kernel
theorem dMo_transmit_189 : decode cMo_transmit 189 = .ok (.ldc 168, 2) := by decide +kernel
theorem dMo_transmit_191 : decode cMo_transmit 191 = .ok (.invokevirtual 164, 3) := by decide +kernel
theorem dMo_transmit_194 : decode cMo_transmit 194 = .ok (.aload_n 0, 1) := by decide +kernel
theorem dMo_transmit_195 : decode cMo_transmit 195 = .ok (.aload_n 0, 1) := by decide +kernel
theorem dMo_transmit_196 : decode cMo_transmit 196 = .ok (.getfield 41, 3) := by decide +kernel
theorem dMo_transmit_199 : decode cMo_transmit 199 = .ok (.iload_n 2, 1) := by decide +kernel
theorem dMo_transmit_200 : decode cMo_transmit 200 = .ok (.iaload, 1) := by decide +kernel
theorem dMo_transmit_201 : decode cMo_transmit 201 = .ok (.invokevirtual 164, 3) := by decide +kernel
theorem dMo_transmit_204 : decode cMo_transmit 204 = .ok (.iinc 2 1, 3) := by decide +kernel
theorem dMo_transmit_207 : decode cMo_transmit 207 = .ok (.goto (-34), 3) := by decide +kernel
theorem dMo_transmit_210 : decode cMo_transmit 210 = .ok (.aload_n 0, 1) := by decide +kernel
theorem dMo_transmit_211 : decode cMo_transmit 211 = .ok (.getfield 155, 3) := by decide +kernel
theorem dMo_transmit_214 : decode cMo_transmit 214 = .ok (.ireturn, 1) := by decide +kernel
theorem dMo_unload_0 : decode cMo_unload 0 = .ok (.aload_n 0, 1) := by decide +kernel
theorem dMo_unload_1 : decode cMo_unload 1 = .ok (.getfield 120, 3) := by decide +kernel
theorem dMo_unload_4 : decode cMo_unload 4 = .ok (.istore_n 1, 1) := by decide +kernel
theorem dMo_unload_5 : decode cMo_unload 5 = .ok (.aload_n 0, 1) := by decide +kernel
theorem dMo_unload_6 : decode cMo_unload 6 = .ok (.iconst 0, 1) := by decide +kernel
theorem dMo_unload_7 : decode cMo_unload 7 = .ok (.putfield 120, 3) := by decide +kernel
theorem dMo_unload_10 : decode cMo_unload 10 = .ok (.iload_n 1, 1) := by decide +kernel
theorem dMo_unload_11 : decode cMo_unload 11 = .ok (.ireturn, 1) := by decide +kernel
theorem dMo_waiting_0 : decode cMo_waiting 0 = .ok (.iconst 0, 1) := by decide +kernel
theorem dMo_waiting_1 : decode cMo_waiting 1 = .ok (.istore_n 1, 1) := by decide +kernel
theorem dMo_waiting_2 : decode cMo_waiting 2 = .ok (.iconst 0, 1) := by decide +kernel
theorem dMo_waiting_3 : decode cMo_waiting 3 = .ok (.istore_n 2, 1) := by decide +kernel
theorem dMo_waiting_4 : decode cMo_waiting 4 = .ok (.iload_n 2, 1) := by decide +kernel
theorem dMo_waiting_5 : decode cMo_waiting 5 = .ok (.aload_n 0, 1) := by decide +kernel
theorem dMo_waiting_6 : decode cMo_waiting 6 = .ok (.getfield 127, 3) := by decide +kernel
theorem dMo_waiting_9 : decode cMo_waiting 9 = .ok (.if_icmp .ge 26, 3) := by decide +kernel
theorem dMo_waiting_12 : decode cMo_waiting 12 = .ok (.aload_n 0, 1) := by decide +kernel
theorem dMo_waiting_13 : decode cMo_waiting 13 = .ok (.getfield 34, 3) := by decide +kernel
theorem dMo_waiting_16 : decode cMo_waiting 16 = .ok (.iload_n 2, 1) := by decide +kernel
theorem dMo_waiting_17 : decode cMo_waiting 17 = .ok (.baload, 1) := by decide +kernel
theorem dMo_waiting_18 : decode cMo_waiting 18 = .ok (.ifCond .eq 9, 3) := by decide +kernel
theorem dMo_waiting_21 : decode cMo_waiting 21 = .ok (.iload_n 1, 1) := by decide +kernel
theorem dMo_waiting_22 : decode cMo_waiting 22 = .ok (.iconst 1, 1) := by decide +kernel
theorem dMo_waiting_23 : decode cMo_waiting 23 = .ok (.iadd, 1) := by decide +kernel
theorem dMo_waiting_24 : decode cMo_waiting 24 = .ok (.goto 4, 3) := by decide +kernel
theorem dMo_waiting_27 : decode cMo_waiting 27 = .ok (.iload_n 1, 1) := by decide +kernel
theorem dMo_waiting_28 : decode cMo_waiting 28 = .ok (.istore_n 1, 1) := by decide +kernel
theorem dMo_waiting_29 : decode cMo_waiting 29 = .ok (.iinc 2 1, 3) := by decide +kernel
theorem dMo_waiting_32 : decode cMo_waiting 32 = .ok (.goto (-28), 3) := by decide +kernel
theorem dMo_waiting_35 : decode cMo_waiting 35 = .ok (.iload_n 1, 1) := by decide +kernel
theorem dMo_waiting_36 : decode cMo_waiting 36 = .ok (.ireturn, 1) := by decide +kernel
theorem dMo_wordAt_0 : decode cMo_wordAt 0 = .ok (.iconst 0, 1) := by decide +kernel
theorem dMo_wordAt_1 : decode cMo_wordAt 1 = .ok (.istore_n 2, 1) := by decide +kernel
theorem dMo_wordAt_2 : decode cMo_wordAt 2 = .ok (.iload_n 1, 1) := by decide +kernel
theorem dMo_wordAt_3 : decode cMo_wordAt 3 = .ok (.istore_n 3, 1) := by decide +kernel
theorem dMo_wordAt_4 : decode cMo_wordAt 4 = .ok (.iload_n 3, 1) := by decide +kernel
theorem dMo_wordAt_5 : decode cMo_wordAt 5 = .ok (.iload_n 1, 1) := by decide +kernel
theorem dMo_wordAt_6 : decode cMo_wordAt 6 = .ok (.bipush 32, 2) := by decide +kernel
theorem dMo_wordAt_8 : decode cMo_wordAt 8 = .ok (.iadd, 1) := by decide +kernel
theorem dMo_wordAt_9 : decode cMo_wordAt 9 = .ok (.if_icmp .ge 20, 3) := by decide +kernel
theorem dMo_wordAt_12 : decode cMo_wordAt 12 = .ok (.iconst 2, 1) := by decide +kernel
theorem dMo_wordAt_13 : decode cMo_wordAt 13 = .ok (.iload_n 2, 1) := by decide +kernel
theorem dMo_wordAt_14 : decode cMo_wordAt 14 = .ok (.imul, 1) := by decide +kernel
theorem dMo_wordAt_15 : decode cMo_wordAt 15 = .ok (.aload_n 0, 1) := by decide +kernel
theorem dMo_wordAt_16 : decode cMo_wordAt 16 = .ok (.getfield 47, 3) := by decide +kernel
theorem dMo_wordAt_19 : decode cMo_wordAt 19 = .ok (.iload_n 3, 1) := by decide +kernel
theorem dMo_wordAt_20 : decode cMo_wordAt 20 = .ok (.iaload, 1) := by decide +kernel
theorem dMo_wordAt_21 : decode cMo_wordAt 21 = .ok (.iadd, 1) := by decide +kernel
theorem dMo_wordAt_22 : decode cMo_wordAt 22 = .ok (.istore_n 2, 1) := by decide +kernel
theorem dMo_wordAt_23 : decode cMo_wordAt 23 = .ok (.iinc 3 1, 3) := by decide +kernel
theorem dMo_wordAt_26 : decode cMo_wordAt 26 = .ok (.goto (-22), 3) := by decide +kernel
theorem dMo_wordAt_29 : decode cMo_wordAt 29 = .ok (.iload_n 2, 1) := by decide +kernel
theorem dMo_wordAt_30 : decode cMo_wordAt 30 = .ok (.ireturn, 1) := by decide +kernel
theorem dMo_wordsOf_0 : decode cMo_wordsOf 0 = .ok (.aload_n 0, 1) := by decide +kernel
theorem dMo_wordsOf_1 : decode cMo_wordsOf 1 = .ok (.getfield 13, 3) := by decide +kernel
theorem dMo_wordsOf_4 : decode cMo_wordsOf 4 = .ok (.aload_n 0, 1) := by decide +kernel
theorem dMo_wordsOf_5 : decode cMo_wordsOf 5 = .ok (.getfield 19, 3) := by decide +kernel
theorem dMo_wordsOf_8 : decode cMo_wordsOf 8 = .ok (.iload_n 1, 1) := by decide +kernel
theorem dMo_wordsOf_9 : decode cMo_wordsOf 9 = .ok (.iaload, 1) := by decide +kernel
theorem dMo_wordsOf_10 : decode cMo_wordsOf 10 = .ok (.iaload, 1) := by decide +kernel
theorem dMo_wordsOf_11 : decode cMo_wordsOf 11 = .ok (.ifCond .ne 16, 3) := by decide +kernel
theorem dMo_wordsOf_14 : decode cMo_wordsOf 14 = .ok (.iconst 4, 1) := by decide +kernel
theorem dMo_wordsOf_15 : decode cMo_wordsOf 15 = .ok (.aload_n 0, 1) := by decide +kernel
theorem dMo_wordsOf_16 : decode cMo_wordsOf 16 = .ok (.getfield 28, 3) := by decide +kernel
theorem dMo_wordsOf_19 : decode cMo_wordsOf 19 = .ok (.iload_n 1, 1) := by decide +kernel
theorem dMo_wordsOf_20 : decode cMo_wordsOf 20 = .ok (.iaload, 1) := by decide +kernel
theorem dMo_wordsOf_21 : decode cMo_wordsOf 21 = .ok (.iconst 2, 1) := by decide +kernel
theorem dMo_wordsOf_22 : decode cMo_wordsOf 22 = .ok (.iadd, 1) := by decide +kernel
theorem dMo_wordsOf_23 : decode cMo_wordsOf 23 = .ok (.imul, 1) := by decide +kernel
theorem dMo_wordsOf_24 : decode cMo_wordsOf 24 = .ok (.goto 14, 3) := by decide +kernel
theorem dMo_wordsOf_27 : decode cMo_wordsOf 27 = .ok (.bipush 7, 2) := by decide +kernel
theorem dMo_wordsOf_29 : decode cMo_wordsOf 29 = .ok (.aload_n 0, 1) := by decide +kernel
theorem dMo_wordsOf_30 : decode cMo_wordsOf 30 = .ok (.getfield 28, 3) := by decide +kernel
theorem dMo_wordsOf_33 : decode cMo_wordsOf 33 = .ok (.iload_n 1, 1) := by decide +kernel
theorem dMo_wordsOf_34 : decode cMo_wordsOf 34 = .ok (.iaload, 1) := by decide +kernel
theorem dMo_wordsOf_35 : decode cMo_wordsOf 35 = .ok (.iconst 1, 1) := by decide +kernel
theorem dMo_wordsOf_36 : decode cMo_wordsOf 36 = .ok (.iadd, 1) := by decide +kernel
theorem dMo_wordsOf_37 : decode cMo_wordsOf 37 = .ok (.imul, 1) := by decide +kernel
theorem dMo_wordsOf_38 : decode cMo_wordsOf 38 = .ok (.istore_n 2, 1) := by decide +kernel
theorem dMo_wordsOf_39 : decode cMo_wordsOf 39 = .ok (.iconst 1, 1) := by decide +kernel
theorem dMo_wordsOf_40 : decode cMo_wordsOf 40 = .ok (.iload_n 2, 1) := by decide +kernel
theorem dMo_wordsOf_41 : decode cMo_wordsOf 41 = .ok (.bipush 19, 2) := by decide +kernel
theorem dMo_wordsOf_43 : decode cMo_wordsOf 43 = .ok (.iadd, 1) := by decide +kernel
theorem dMo_wordsOf_44 : decode cMo_wordsOf 44 = .ok (.bipush 20, 2) := by decide +kernel
theorem dMo_wordsOf_46 : decode cMo_wordsOf 46 = .ok (.idiv, 1) := by decide +kernel
theorem dMo_wordsOf_47 : decode cMo_wordsOf 47 = .ok (.iadd, 1) := by decide +kernel
theorem dMo_wordsOf_48 : decode cMo_wordsOf 48 = .ok (.ireturn, 1) := by decide +kernel
theorem dIn_bitCount_0 : decode cIn_bitCount 0 = .ok (.iload_n 0, 1) := by decide +kernel
theorem dIn_bitCount_1 : decode cIn_bitCount 1 = .ok (.iload_n 0, 1) := by decide +kernel
theorem dIn_bitCount_2 : decode cIn_bitCount 2 = .ok (.iconst 1, 1) := by decide +kernel
theorem dIn_bitCount_3 : decode cIn_bitCount 3 = .ok (.iushr, 1) := by decide +kernel
theorem dIn_bitCount_4 : decode cIn_bitCount 4 = .ok (.ldc_w 265, 3) := by decide +kernel
theorem dIn_bitCount_7 : decode cIn_bitCount 7 = .ok (.iand, 1) := by decide +kernel
theorem dIn_bitCount_8 : decode cIn_bitCount 8 = .ok (.isub, 1) := by decide +kernel
theorem dIn_bitCount_9 : decode cIn_bitCount 9 = .ok (.istore_n 0, 1) := by decide +kernel
theorem dIn_bitCount_10 : decode cIn_bitCount 10 = .ok (.iload_n 0, 1) := by decide +kernel
theorem dIn_bitCount_11 : decode cIn_bitCount 11 = .ok (.ldc_w 266, 3) := by decide +kernel
theorem dIn_bitCount_14 : decode cIn_bitCount 14 = .ok (.iand, 1) := by decide +kernel
theorem dIn_bitCount_15 : decode cIn_bitCount 15 = .ok (.iload_n 0, 1) := by decide +kernel
theorem dIn_bitCount_16 : decode cIn_bitCount 16 = .ok (.iconst 2, 1) := by decide +kernel
theorem dIn_bitCount_17 : decode cIn_bitCount 17 = .ok (.iushr, 1) := by decide +kernel
theorem dIn_bitCount_18 : decode cIn_bitCount 18 = .ok (.ldc_w 266, 3) := by decide +kernel
theorem dIn_bitCount_21 : decode cIn_bitCount 21 = .ok (.iand, 1) := by decide +kernel
theorem dIn_bitCount_22 : decode cIn_bitCount 22 = .ok (.iadd, 1) := by decide +kernel
theorem dIn_bitCount_23 : decode cIn_bitCount 23 = .ok (.istore_n 0, 1) := by decide +kernel
theorem dIn_bitCount_24 : decode cIn_bitCount 24 = .ok (.iload_n 0, 1) := by decide +kernel
theorem dIn_bitCount_25 : decode cIn_bitCount 25 = .ok (.iload_n 0, 1) := by decide +kernel
theorem dIn_bitCount_26 : decode cIn_bitCount 26 = .ok (.iconst 4, 1) := by decide +kernel
theorem dIn_bitCount_27 : decode cIn_bitCount 27 = .ok (.iushr, 1) := by decide +kernel
theorem dIn_bitCount_28 : decode cIn_bitCount 28 = .ok (.iadd, 1) := by decide +kernel
theorem dIn_bitCount_29 : decode cIn_bitCount 29 = .ok (.ldc_w 267, 3) := by decide +kernel
theorem dIn_bitCount_32 : decode cIn_bitCount 32 = .ok (.iand, 1) := by decide +kernel
theorem dIn_bitCount_33 : decode cIn_bitCount 33 = .ok (.istore_n 0, 1) := by decide +kernel
theorem dIn_bitCount_34 : decode cIn_bitCount 34 = .ok (.iload_n 0, 1) := by decide +kernel
theorem dIn_bitCount_35 : decode cIn_bitCount 35 = .ok (.iload_n 0, 1) := by decide +kernel
theorem dIn_bitCount_36 : decode cIn_bitCount 36 = .ok (.bipush 8, 2) := by decide +kernel
theorem dIn_bitCount_38 : decode cIn_bitCount 38 = .ok (.iushr, 1) := by decide +kernel
theorem dIn_bitCount_39 : decode cIn_bitCount 39 = .ok (.iadd, 1) := by decide +kernel
theorem dIn_bitCount_40 : decode cIn_bitCount 40 = .ok (.istore_n 0, 1) := by decide +kernel
theorem dIn_bitCount_41 : decode cIn_bitCount 41 = .ok (.iload_n 0, 1) := by decide +kernel
theorem dIn_bitCount_42 : decode cIn_bitCount 42 = .ok (.iload_n 0, 1) := by decide +kernel
theorem dIn_bitCount_43 : decode cIn_bitCount 43 = .ok (.bipush 16, 2) := by decide +kernel
theorem dIn_bitCount_45 : decode cIn_bitCount 45 = .ok (.iushr, 1) := by decide +kernel
theorem dIn_bitCount_46 : decode cIn_bitCount 46 = .ok (.iadd, 1) := by decide +kernel
theorem dIn_bitCount_47 : decode cIn_bitCount 47 = .ok (.istore_n 0, 1) := by decide +kernel
theorem dIn_bitCount_48 : decode cIn_bitCount 48 = .ok (.iload_n 0, 1) := by decide +kernel
theorem dIn_bitCount_49 : decode cIn_bitCount 49 = .ok (.bipush 63, 2) := by decide +kernel
theorem dIn_bitCount_51 : decode cIn_bitCount 51 = .ok (.iand, 1) := by decide +kernel
theorem dIn_bitCount_52 : decode cIn_bitCount 52 = .ok (.ireturn, 1) := by decide +kernel
theorem dMa_floorMod_0 : decode cMa_floorMod 0 = .ok (.iload_n 0, 1) := by decide +kernel
theorem dMa_floorMod_1 : decode cMa_floorMod 1 = .ok (.iload_n 1, 1) := by decide +kernel
theorem dMa_floorMod_2 : decode cMa_floorMod 2 = .ok (.irem, 1) := by decide +kernel
theorem dMa_floorMod_3 : decode cMa_floorMod 3 = .ok (.istore_n 2, 1) := by decide +kernel
theorem dMa_floorMod_4 : decode cMa_floorMod 4 = .ok (.iload_n 0, 1) := by decide +kernel
theorem dMa_floorMod_5 : decode cMa_floorMod 5 = .ok (.iload_n 1, 1) := by decide +kernel
theorem dMa_floorMod_6 : decode cMa_floorMod 6 = .ok (.ixor, 1) := by decide +kernel
theorem dMa_floorMod_7 : decode cMa_floorMod 7 = .ok (.ifCond .ge 11, 3) := by decide +kernel
theorem dMa_floorMod_10 : decode cMa_floorMod 10 = .ok (.iload_n 2, 1) := by decide +kernel
theorem dMa_floorMod_11 : decode cMa_floorMod 11 = .ok (.ifCond .eq 7, 3) := by decide +kernel
theorem dMa_floorMod_14 : decode cMa_floorMod 14 = .ok (.iload_n 2, 1) := by decide +kernel
theorem dMa_floorMod_15 : decode cMa_floorMod 15 = .ok (.iload_n 1, 1) := by decide +kernel
theorem dMa_floorMod_16 : decode cMa_floorMod 16 = .ok (.iadd, 1) := by decide +kernel
theorem dMa_floorMod_17 : decode cMa_floorMod 17 = .ok (.ireturn, 1) := by decide +kernel
theorem dMa_floorMod_18 : decode cMa_floorMod 18 = .ok (.iload_n 2, 1) := by decide +kernel
theorem dMa_floorMod_19 : decode cMa_floorMod 19 = .ok (.ireturn, 1) := by decide +kernel
theorem dMa_min_0 : decode cMa_min 0 = .ok (.iload_n 0, 1) := by decide +kernel
theorem dMa_min_1 : decode cMa_min 1 = .ok (.iload_n 1, 1) := by decide +kernel
theorem dMa_min_2 : decode cMa_min 2 = .ok (.if_icmp .gt 7, 3) := by decide +kernel
theorem dMa_min_5 : decode cMa_min 5 = .ok (.iload_n 0, 1) := by decide +kernel
theorem dMa_min_6 : decode cMa_min 6 = .ok (.goto 4, 3) := by decide +kernel
theorem dMa_min_9 : decode cMa_min 9 = .ok (.iload_n 1, 1) := by decide +kernel
theorem dMa_min_10 : decode cMa_min 10 = .ok (.ireturn, 1) := by decide +kernel
theorem dAr_copyOf_0 : decode cAr_copyOf 0 = .ok (.iload_n 1, 1) := by decide +kernel
theorem dAr_copyOf_1 : decode cAr_copyOf 1 = .ok (.aload_n 0, 1) := by decide +kernel
theorem dAr_copyOf_2 : decode cAr_copyOf 2 = .ok (.arraylength, 1) := by decide +kernel
theorem dAr_copyOf_3 : decode cAr_copyOf 3 = .ok (.if_icmp .ne 11, 3) := by decide +kernel
theorem dAr_copyOf_6 : decode cAr_copyOf 6 = .ok (.aload_n 0, 1) := by decide +kernel
theorem dAr_copyOf_7 : decode cAr_copyOf 7 = .ok (.invokevirtual 316, 3) := by decide +kernel
theorem dAr_copyOf_10 : decode cAr_copyOf 10 = .ok (.checkcast 317, 3) := by decide +kernel
theorem dAr_copyOf_13 : decode cAr_copyOf 13 = .ok (.areturn, 1) := by decide +kernel
theorem dAr_copyOf_14 : decode cAr_copyOf 14 = .ok (.iload_n 1, 1) := by decide +kernel
theorem dAr_copyOf_15 : decode cAr_copyOf 15 = .ok (.newarray .int, 2) := by decide +kernel
theorem dAr_copyOf_17 : decode cAr_copyOf 17 = .ok (.astore_n 2, 1) := by decide +kernel
theorem dAr_copyOf_18 : decode cAr_copyOf 18 = .ok (.aload_n 0, 1) := by decide +kernel
theorem dAr_copyOf_19 : decode cAr_copyOf 19 = .ok (.iconst 0, 1) := by decide +kernel
theorem dAr_copyOf_20 : decode cAr_copyOf 20 = .ok (.aload_n 2, 1) := by decide +kernel
theorem dAr_copyOf_21 : decode cAr_copyOf 21 = .ok (.iconst 0, 1) := by decide +kernel
theorem dAr_copyOf_22 : decode cAr_copyOf 22 = .ok (.aload_n 0, 1) := by decide +kernel
theorem dAr_copyOf_23 : decode cAr_copyOf 23 = .ok (.arraylength, 1) := by decide +kernel
theorem dAr_copyOf_24 : decode cAr_copyOf 24 = .ok (.iload_n 1, 1) := by decide +kernel
theorem dAr_copyOf_25 : decode cAr_copyOf 25 = .ok (.invokestatic 304, 3) := by decide +kernel
theorem dAr_copyOf_28 : decode cAr_copyOf 28 = .ok (.invokestatic 150, 3) := by decide +kernel
theorem dAr_copyOf_31 : decode cAr_copyOf 31 = .ok (.aload_n 2, 1) := by decide +kernel
theorem dAr_copyOf_32 : decode cAr_copyOf 32 = .ok (.areturn, 1) := by decide +kernel
theorem dAr_fill_0 : decode cAr_fill 0 = .ok (.iconst 0, 1) := by decide +kernel
theorem dAr_fill_1 : decode cAr_fill 1 = .ok (.istore_n 2, 1) := by decide +kernel
theorem dAr_fill_2 : decode cAr_fill 2 = .ok (.aload_n 0, 1) := by decide +kernel
theorem dAr_fill_3 : decode cAr_fill 3 = .ok (.arraylength, 1) := by decide +kernel
theorem dAr_fill_4 : decode cAr_fill 4 = .ok (.istore_n 3, 1) := by decide +kernel
theorem dAr_fill_5 : decode cAr_fill 5 = .ok (.iload_n 2, 1) := by decide +kernel
theorem dAr_fill_6 : decode cAr_fill 6 = .ok (.iload_n 3, 1) := by decide +kernel
theorem dAr_fill_7 : decode cAr_fill 7 = .ok (.if_icmp .ge 13, 3) := by decide +kernel
theorem dAr_fill_10 : decode cAr_fill 10 = .ok (.aload_n 0, 1) := by decide +kernel
theorem dAr_fill_11 : decode cAr_fill 11 = .ok (.iload_n 2, 1) := by decide +kernel
theorem dAr_fill_12 : decode cAr_fill 12 = .ok (.iload_n 1, 1) := by decide +kernel
theorem dAr_fill_13 : decode cAr_fill 13 = .ok (.iastore, 1) := by decide +kernel
theorem dAr_fill_14 : decode cAr_fill 14 = .ok (.iinc 2 1, 3) := by decide +kernel
theorem dAr_fill_17 : decode cAr_fill 17 = .ok (.goto (-12), 3) := by decide +kernel
theorem dAr_fill_20 : decode cAr_fill 20 = .ok (.return_, 1) := by decide +kernel
