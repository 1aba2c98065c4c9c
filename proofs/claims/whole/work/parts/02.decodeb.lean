theorem dHd_noteNumber_54 : decode cHd_noteNumber 54 = .ok (.iload_n 2, 1) := by decide +kernel
theorem dHd_noteNumber_55 : decode cHd_noteNumber 55 = .ok (.if_icmp .ge 29, 3) := by decide +kernel
theorem dHd_noteNumber_58 : decode cHd_noteNumber 58 = .ok (.aload_n 0, 1) := by decide +kernel
theorem dHd_noteNumber_59 : decode cHd_noteNumber 59 = .ok (.dup, 1) := by decide +kernel
theorem dHd_noteNumber_60 : decode cHd_noteNumber 60 = .ok (.getfield 9, 3) := by decide +kernel
theorem dHd_noteNumber_63 : decode cHd_noteNumber 63 = .ok (.lconst 1, 1) := by decide +kernel
theorem dHd_noteNumber_64 : decode cHd_noteNumber 64 = .ok (.aload_n 0, 1) := by decide +kernel
theorem dHd_noteNumber_65 : decode cHd_noteNumber 65 = .ok (.getfield 15, 3) := by decide +kernel
theorem dHd_noteNumber_68 : decode cHd_noteNumber 68 = .ok (.iload_n 3, 1) := by decide +kernel
theorem dHd_noteNumber_69 : decode cHd_noteNumber 69 = .ok (.iadd, 1) := by decide +kernel
theorem dHd_noteNumber_70 : decode cHd_noteNumber 70 = .ok (.bipush 64, 2) := by decide +kernel
theorem dHd_noteNumber_72 : decode cHd_noteNumber 72 = .ok (.irem, 1) := by decide +kernel
theorem dHd_noteNumber_73 : decode cHd_noteNumber 73 = .ok (.lshl, 1) := by decide +kernel
theorem dHd_noteNumber_74 : decode cHd_noteNumber 74 = .ok (.lor, 1) := by decide +kernel
theorem dHd_noteNumber_75 : decode cHd_noteNumber 75 = .ok (.putfield 9, 3) := by decide +kernel
theorem dHd_noteNumber_78 : decode cHd_noteNumber 78 = .ok (.iinc 3 1, 3) := by decide +kernel
theorem dHd_noteNumber_81 : decode cHd_noteNumber 81 = .ok (.goto (-28), 3) := by decide +kernel
theorem dHd_noteNumber_84 : decode cHd_noteNumber 84 = .ok (.aload_n 0, 1) := by decide +kernel
theorem dHd_noteNumber_85 : decode cHd_noteNumber 85 = .ok (.iload_n 1, 1) := by decide +kernel
theorem dHd_noteNumber_86 : decode cHd_noteNumber 86 = .ok (.putfield 15, 3) := by decide +kernel
theorem dHd_noteNumber_89 : decode cHd_noteNumber 89 = .ok (.aload_n 0, 1) := by decide +kernel
theorem dHd_noteNumber_90 : decode cHd_noteNumber 90 = .ok (.dup, 1) := by decide +kernel
theorem dHd_noteNumber_91 : decode cHd_noteNumber 91 = .ok (.getfield 9, 3) := by decide +kernel
theorem dHd_noteNumber_94 : decode cHd_noteNumber 94 = .ok (.lconst 1, 1) := by decide +kernel
theorem dHd_noteNumber_95 : decode cHd_noteNumber 95 = .ok (.iload_n 1, 1) := by decide +kernel
theorem dHd_noteNumber_96 : decode cHd_noteNumber 96 = .ok (.lshl, 1) := by decide +kernel
theorem dHd_noteNumber_97 : decode cHd_noteNumber 97 = .ok (.ldc2_w 29, 3) := by decide +kernel
theorem dHd_noteNumber_100 : decode cHd_noteNumber 100 = .ok (.lxor, 1) := by decide +kernel
theorem dHd_noteNumber_101 : decode cHd_noteNumber 101 = .ok (.land, 1) := by decide +kernel
theorem dHd_noteNumber_102 : decode cHd_noteNumber 102 = .ok (.putfield 9, 3) := by decide +kernel
theorem dHd_noteNumber_105 : decode cHd_noteNumber 105 = .ok (.return_, 1) := by decide +kernel
theorem dId_init_0 : decode cId_init 0 = .ok (.aload_n 0, 1) := by decide +kernel
theorem dId_init_1 : decode cId_init 1 = .ok (.invokespecial 3, 3) := by decide +kernel
theorem dId_init_4 : decode cId_init 4 = .ok (.aload_n 0, 1) := by decide +kernel
theorem dId_init_5 : decode cId_init 5 = .ok (.iconst 0, 1) := by decide +kernel
theorem dId_init_6 : decode cId_init 6 = .ok (.putfield 9, 3) := by decide +kernel
theorem dId_init_9 : decode cId_init 9 = .ok (.aload_n 0, 1) := by decide +kernel
theorem dId_init_10 : decode cId_init 10 = .ok (.iconst 0, 1) := by decide +kernel
theorem dId_init_11 : decode cId_init 11 = .ok (.putfield 15, 3) := by decide +kernel
theorem dId_init_14 : decode cId_init 14 = .ok (.aload_n 0, 1) := by decide +kernel
theorem dId_init_15 : decode cId_init 15 = .ok (.iload_n 1, 1) := by decide +kernel
theorem dId_init_16 : decode cId_init 16 = .ok (.putfield 18, 3) := by decide +kernel
theorem dId_init_19 : decode cId_init 19 = .ok (.aload_n 0, 1) := by decide +kernel
theorem dId_init_20 : decode cId_init 20 = .ok (.iload_n 2, 1) := by decide +kernel
theorem dId_init_21 : decode cId_init 21 = .ok (.putfield 21, 3) := by decide +kernel
theorem dId_init_24 : decode cId_init 24 = .ok (.aload_n 0, 1) := by decide +kernel
theorem dId_init_25 : decode cId_init 25 = .ok (.iload_n 3, 1) := by decide +kernel
theorem dId_init_26 : decode cId_init 26 = .ok (.iconst 1, 1) := by decide +kernel
theorem dId_init_27 : decode cId_init 27 = .ok (.if_icmp .ne 7, 3) := by decide +kernel
theorem dId_init_30 : decode cId_init 30 = .ok (.iconst 1, 1) := by decide +kernel
theorem dId_init_31 : decode cId_init 31 = .ok (.goto 4, 3) := by decide +kernel
theorem dId_init_34 : decode cId_init 34 = .ok (.iconst 0, 1) := by decide +kernel
theorem dId_init_35 : decode cId_init 35 = .ok (.putfield 24, 3) := by decide +kernel
theorem dId_init_38 : decode cId_init 38 = .ok (.aload_n 0, 1) := by decide +kernel
theorem dId_init_39 : decode cId_init 39 = .ok (.iload_n 2, 1) := by decide +kernel
theorem dId_init_40 : decode cId_init 40 = .ok (.bipush 8, 2) := by decide +kernel
theorem dId_init_42 : decode cId_init 42 = .ok (.irem, 1) := by decide +kernel
theorem dId_init_43 : decode cId_init 43 = .ok (.putfield 28, 3) := by decide +kernel
theorem dId_init_46 : decode cId_init 46 = .ok (.aload_n 0, 1) := by decide +kernel
theorem dId_init_47 : decode cId_init 47 = .ok (.iload_n 2, 1) := by decide +kernel
theorem dId_init_48 : decode cId_init 48 = .ok (.bipush 8, 2) := by decide +kernel
theorem dId_init_50 : decode cId_init 50 = .ok (.idiv, 1) := by decide +kernel
theorem dId_init_51 : decode cId_init 51 = .ok (.iconst 4, 1) := by decide +kernel
theorem dId_init_52 : decode cId_init 52 = .ok (.imul, 1) := by decide +kernel
theorem dId_init_53 : decode cId_init 53 = .ok (.aload_n 0, 1) := by decide +kernel
theorem dId_init_54 : decode cId_init 54 = .ok (.getfield 24, 3) := by decide +kernel
theorem dId_init_57 : decode cId_init 57 = .ok (.ifCond .eq 7, 3) := by decide +kernel
theorem dId_init_60 : decode cId_init 60 = .ok (.iconst 3, 1) := by decide +kernel
theorem dId_init_61 : decode cId_init 61 = .ok (.goto 4, 3) := by decide +kernel
theorem dId_init_64 : decode cId_init 64 = .ok (.iconst 0, 1) := by decide +kernel
theorem dId_init_65 : decode cId_init 65 = .ok (.iadd, 1) := by decide +kernel
theorem dId_init_66 : decode cId_init 66 = .ok (.invokestatic 31, 3) := by decide +kernel
theorem dId_init_69 : decode cId_init 69 = .ok (.putfield 35, 3) := by decide +kernel
theorem dId_init_72 : decode cId_init 72 = .ok (.aload_n 0, 1) := by decide +kernel
theorem dId_init_73 : decode cId_init 73 = .ok (.aload_n 0, 1) := by decide +kernel
theorem dId_init_74 : decode cId_init 74 = .ok (.getfield 24, 3) := by decide +kernel
theorem dId_init_77 : decode cId_init 77 = .ok (.ifCond .eq 8, 3) := by decide +kernel
theorem dId_init_80 : decode cId_init 80 = .ok (.bipush 32, 2) := by decide +kernel
theorem dId_init_82 : decode cId_init 82 = .ok (.goto 4, 3) := by decide +kernel
theorem dId_init_85 : decode cId_init 85 = .ok (.iconst 0, 1) := by decide +kernel
theorem dId_init_86 : decode cId_init 86 = .ok (.putfield 38, 3) := by decide +kernel
theorem dId_init_89 : decode cId_init 89 = .ok (.aload_n 0, 1) := by decide +kernel
theorem dId_init_90 : decode cId_init 90 = .ok (.aload_n 0, 1) := by decide +kernel
theorem dId_init_91 : decode cId_init 91 = .ok (.getfield 24, 3) := by decide +kernel
theorem dId_init_94 : decode cId_init 94 = .ok (.ifCond .eq 8, 3) := by decide +kernel
theorem dId_init_97 : decode cId_init 97 = .ok (.bipush 126, 2) := by decide +kernel
theorem dId_init_99 : decode cId_init 99 = .ok (.goto 5, 3) := by decide +kernel
theorem dId_init_102 : decode cId_init 102 = .ok (.bipush 11, 2) := by decide +kernel
theorem dId_init_104 : decode cId_init 104 = .ok (.putfield 41, 3) := by decide +kernel
theorem dId_init_107 : decode cId_init 107 = .ok (.aload_n 0, 1) := by decide +kernel
theorem dId_init_108 : decode cId_init 108 = .ok (.aload_n 0, 1) := by decide +kernel
theorem dId_init_109 : decode cId_init 109 = .ok (.getfield 24, 3) := by decide +kernel
theorem dId_init_112 : decode cId_init 112 = .ok (.ifCond .eq 8, 3) := by decide +kernel
theorem dId_init_115 : decode cId_init 115 = .ok (.bipush 7, 2) := by decide +kernel
theorem dId_init_117 : decode cId_init 117 = .ok (.goto 4, 3) := by decide +kernel
theorem dId_init_120 : decode cId_init 120 = .ok (.iconst 4, 1) := by decide +kernel
theorem dId_init_121 : decode cId_init 121 = .ok (.putfield 44, 3) := by decide +kernel
theorem dId_init_124 : decode cId_init 124 = .ok (.aload_n 0, 1) := by decide +kernel
theorem dId_init_125 : decode cId_init 125 = .ok (.aload_n 0, 1) := by decide +kernel
theorem dId_init_126 : decode cId_init 126 = .ok (.getfield 24, 3) := by decide +kernel
theorem dId_init_129 : decode cId_init 129 = .ok (.ifCond .eq 7, 3) := by decide +kernel
theorem dId_init_132 : decode cId_init 132 = .ok (.iconst 0, 1) := by decide +kernel
theorem dId_init_133 : decode cId_init 133 = .ok (.goto 5, 3) := by decide +kernel
theorem dId_init_136 : decode cId_init 136 = .ok (.bipush 12, 2) := by decide +kernel
theorem dId_init_138 : decode cId_init 138 = .ok (.putfield 47, 3) := by decide +kernel
theorem dId_init_141 : decode cId_init 141 = .ok (.return_, 1) := by decide +kernel
theorem dId_decimal_0 : decode cId_decimal 0 = .ok (.iload_n 0, 1) := by decide +kernel
theorem dId_decimal_1 : decode cId_decimal 1 = .ok (.bipush 9, 2) := by decide +kernel
theorem dId_decimal_3 : decode cId_decimal 3 = .ok (.if_icmp .gt 18, 3) := by decide +kernel
theorem dId_decimal_6 : decode cId_decimal 6 = .ok (.iload_n 1, 1) := by decide +kernel
theorem dId_decimal_7 : decode cId_decimal 7 = .ok (.bipush 9, 2) := by decide +kernel
theorem dId_decimal_9 : decode cId_decimal 9 = .ok (.if_icmp .gt 12, 3) := by decide +kernel
theorem dId_decimal_12 : decode cId_decimal 12 = .ok (.bipush 10, 2) := by decide +kernel
theorem dId_decimal_14 : decode cId_decimal 14 = .ok (.iload_n 0, 1) := by decide +kernel
theorem dId_decimal_15 : decode cId_decimal 15 = .ok (.imul, 1) := by decide +kernel
theorem dId_decimal_16 : decode cId_decimal 16 = .ok (.iload_n 1, 1) := by decide +kernel
theorem dId_decimal_17 : decode cId_decimal 17 = .ok (.iadd, 1) := by decide +kernel
theorem dId_decimal_18 : decode cId_decimal 18 = .ok (.goto 4, 3) := by decide +kernel
theorem dId_decimal_21 : decode cId_decimal 21 = .ok (.iconst (-1), 1) := by decide +kernel
theorem dId_decimal_22 : decode cId_decimal 22 = .ok (.ireturn, 1) := by decide +kernel
theorem dId_numberIn_0 : decode cId_numberIn 0 = .ok (.iload_n 2, 1) := by decide +kernel
theorem dId_numberIn_1 : decode cId_numberIn 1 = .ok (.aload_n 0, 1) := by decide +kernel
theorem dId_numberIn_2 : decode cId_numberIn 2 = .ok (.invokevirtual 50, 3) := by decide +kernel
theorem dId_numberIn_5 : decode cId_numberIn 5 = .ok (.if_icmp .ge 5, 3) := by decide +kernel
theorem dId_numberIn_8 : decode cId_numberIn 8 = .ok (.iconst (-1), 1) := by decide +kernel
theorem dId_numberIn_9 : decode cId_numberIn 9 = .ok (.ireturn, 1) := by decide +kernel
theorem dId_numberIn_10 : decode cId_numberIn 10 = .ok (.aload_n 0, 1) := by decide +kernel
theorem dId_numberIn_11 : decode cId_numberIn 11 = .ok (.getfield 24, 3) := by decide +kernel
theorem dId_numberIn_14 : decode cId_numberIn 14 = .ok (.ifCond .eq 12, 3) := by decide +kernel
theorem dId_numberIn_17 : decode cId_numberIn 17 = .ok (.aload_n 1, 1) := by decide +kernel
theorem dId_numberIn_18 : decode cId_numberIn 18 = .ok (.iconst 0, 1) := by decide +kernel
theorem dId_numberIn_19 : decode cId_numberIn 19 = .ok (.iaload, 1) := by decide +kernel
theorem dId_numberIn_20 : decode cId_numberIn 20 = .ok (.bipush 32, 2) := by decide +kernel
theorem dId_numberIn_22 : decode cId_numberIn 22 = .ok (.isub, 1) := by decide +kernel
theorem dId_numberIn_23 : decode cId_numberIn 23 = .ok (.goto 12, 3) := by decide +kernel
theorem dId_numberIn_26 : decode cId_numberIn 26 = .ok (.aload_n 1, 1) := by decide +kernel
theorem dId_numberIn_27 : decode cId_numberIn 27 = .ok (.iconst 0, 1) := by decide +kernel
theorem dId_numberIn_28 : decode cId_numberIn 28 = .ok (.iaload, 1) := by decide +kernel
theorem dId_numberIn_29 : decode cId_numberIn 29 = .ok (.aload_n 1, 1) := by decide +kernel
theorem dId_numberIn_30 : decode cId_numberIn 30 = .ok (.iconst 1, 1) := by decide +kernel
theorem dId_numberIn_31 : decode cId_numberIn 31 = .ok (.iaload, 1) := by decide +kernel
theorem dId_numberIn_32 : decode cId_numberIn 32 = .ok (.invokestatic 54, 3) := by decide +kernel
theorem dId_numberIn_35 : decode cId_numberIn 35 = .ok (.istore_n 3, 1) := by decide +kernel
theorem dId_numberIn_36 : decode cId_numberIn 36 = .ok (.iload_n 3, 1) := by decide +kernel
theorem dId_numberIn_37 : decode cId_numberIn 37 = .ok (.ifCond .lt 13, 3) := by decide +kernel
theorem dId_numberIn_40 : decode cId_numberIn 40 = .ok (.iload_n 3, 1) := by decide +kernel
theorem dId_numberIn_41 : decode cId_numberIn 41 = .ok (.bipush 64, 2) := by decide +kernel
theorem dId_numberIn_43 : decode cId_numberIn 43 = .ok (.if_icmp .ge 7, 3) := by decide +kernel
theorem dId_numberIn_46 : decode cId_numberIn 46 = .ok (.iload_n 3, 1) := by decide +kernel
theorem dId_numberIn_47 : decode cId_numberIn 47 = .ok (.goto 4, 3) := by decide +kernel
theorem dId_numberIn_50 : decode cId_numberIn 50 = .ok (.iconst (-1), 1) := by decide +kernel
theorem dId_numberIn_51 : decode cId_numberIn 51 = .ok (.ireturn, 1) := by decide +kernel
theorem dId_numberSign_0 : decode cId_numberSign 0 = .ok (.aload_n 0, 1) := by decide +kernel
theorem dId_numberSign_1 : decode cId_numberSign 1 = .ok (.getfield 24, 3) := by decide +kernel
theorem dId_numberSign_4 : decode cId_numberSign 4 = .ok (.ifCond .eq 8, 3) := by decide +kernel
theorem dId_numberSign_7 : decode cId_numberSign 7 = .ok (.bipush 32, 2) := by decide +kernel
theorem dId_numberSign_9 : decode cId_numberSign 9 = .ok (.iload_n 2, 1) := by decide +kernel
theorem dId_numberSign_10 : decode cId_numberSign 10 = .ok (.iadd, 1) := by decide +kernel
theorem dId_numberSign_11 : decode cId_numberSign 11 = .ok (.ireturn, 1) := by decide +kernel
theorem dId_numberSign_12 : decode cId_numberSign 12 = .ok (.iload_n 1, 1) := by decide +kernel
theorem dId_numberSign_13 : decode cId_numberSign 13 = .ok (.ifCond .ne 10, 3) := by decide +kernel
theorem dId_numberSign_16 : decode cId_numberSign 16 = .ok (.iload_n 2, 1) := by decide +kernel
theorem dId_numberSign_17 : decode cId_numberSign 17 = .ok (.bipush 10, 2) := by decide +kernel
theorem dId_numberSign_19 : decode cId_numberSign 19 = .ok (.idiv, 1) := by decide +kernel
theorem dId_numberSign_20 : decode cId_numberSign 20 = .ok (.goto 7, 3) := by decide +kernel
theorem dId_numberSign_23 : decode cId_numberSign 23 = .ok (.iload_n 2, 1) := by decide +kernel
theorem dId_numberSign_24 : decode cId_numberSign 24 = .ok (.bipush 10, 2) := by decide +kernel
theorem dId_numberSign_26 : decode cId_numberSign 26 = .ok (.irem, 1) := by decide +kernel
theorem dId_numberSign_27 : decode cId_numberSign 27 = .ok (.ireturn, 1) := by decide +kernel
theorem dId_numberSigns_0 : decode cId_numberSigns 0 = .ok (.aload_n 0, 1) := by decide +kernel
theorem dId_numberSigns_1 : decode cId_numberSigns 1 = .ok (.getfield 24, 3) := by decide +kernel
theorem dId_numberSigns_4 : decode cId_numberSigns 4 = .ok (.ifCond .eq 7, 3) := by decide +kernel
theorem dId_numberSigns_7 : decode cId_numberSigns 7 = .ok (.iconst 1, 1) := by decide +kernel
theorem dId_numberSigns_8 : decode cId_numberSigns 8 = .ok (.goto 4, 3) := by decide +kernel
theorem dId_numberSigns_11 : decode cId_numberSigns 11 = .ok (.iconst 2, 1) := by decide +kernel
theorem dId_numberSigns_12 : decode cId_numberSigns 12 = .ok (.ireturn, 1) := by decide +kernel
theorem dLy_init_0 : decode cLy_init 0 = .ok (.aload_n 0, 1) := by decide +kernel
theorem dLy_init_1 : decode cLy_init 1 = .ok (.invokespecial 3, 3) := by decide +kernel
theorem dLy_init_4 : decode cLy_init 4 = .ok (.aload_n 0, 1) := by decide +kernel
theorem dLy_init_5 : decode cLy_init 5 = .ok (.bipush 64, 2) := by decide +kernel
theorem dLy_init_7 : decode cLy_init 7 = .ok (.newarray .int, 2) := by decide +kernel
theorem dLy_init_9 : decode cLy_init 9 = .ok (.putfield 9, 3) := by decide +kernel
theorem dLy_init_12 : decode cLy_init 12 = .ok (.aload_n 0, 1) := by decide +kernel
theorem dLy_init_13 : decode cLy_init 13 = .ok (.iconst 0, 1) := by decide +kernel
theorem dLy_init_14 : decode cLy_init 14 = .ok (.putfield 15, 3) := by decide +kernel
theorem dLy_init_17 : decode cLy_init 17 = .ok (.return_, 1) := by decide +kernel
theorem dLy_areFree_0 : decode cLy_areFree 0 = .ok (.iload_n 1, 1) := by decide +kernel
theorem dLy_areFree_1 : decode cLy_areFree 1 = .ok (.istore_n 3, 1) := by decide +kernel
theorem dLy_areFree_2 : decode cLy_areFree 2 = .ok (.iload_n 3, 1) := by decide +kernel
theorem dLy_areFree_3 : decode cLy_areFree 3 = .ok (.iload_n 1, 1) := by decide +kernel
theorem dLy_areFree_4 : decode cLy_areFree 4 = .ok (.iload_n 2, 1) := by decide +kernel
theorem dLy_areFree_5 : decode cLy_areFree 5 = .ok (.iadd, 1) := by decide +kernel
theorem dLy_areFree_6 : decode cLy_areFree 6 = .ok (.if_icmp .ge 22, 3) := by decide +kernel
theorem dLy_areFree_9 : decode cLy_areFree 9 = .ok (.aload_n 0, 1) := by decide +kernel
theorem dLy_areFree_10 : decode cLy_areFree 10 = .ok (.getfield 9, 3) := by decide +kernel
theorem dLy_areFree_13 : decode cLy_areFree 13 = .ok (.iload_n 3, 1) := by decide +kernel
theorem dLy_areFree_14 : decode cLy_areFree 14 = .ok (.iaload, 1) := by decide +kernel
theorem dLy_areFree_15 : decode cLy_areFree 15 = .ok (.ldc 19, 2) := by decide +kernel
theorem dLy_areFree_17 : decode cLy_areFree 17 = .ok (.if_icmp .eq 5, 3) := by decide +kernel
theorem dLy_areFree_20 : decode cLy_areFree 20 = .ok (.iconst 0, 1) := by decide +kernel
theorem dLy_areFree_21 : decode cLy_areFree 21 = .ok (.ireturn, 1) := by decide +kernel
theorem dLy_areFree_22 : decode cLy_areFree 22 = .ok (.iinc 3 1, 3) := by decide +kernel
theorem dLy_areFree_25 : decode cLy_areFree 25 = .ok (.goto (-23), 3) := by decide +kernel
theorem dLy_areFree_28 : decode cLy_areFree 28 = .ok (.iconst 1, 1) := by decide +kernel
theorem dLy_areFree_29 : decode cLy_areFree 29 = .ok (.ireturn, 1) := by decide +kernel
theorem dLy_clear_0 : decode cLy_clear 0 = .ok (.aload_n 0, 1) := by decide +kernel
theorem dLy_clear_1 : decode cLy_clear 1 = .ok (.getfield 9, 3) := by decide +kernel
theorem dLy_clear_4 : decode cLy_clear 4 = .ok (.ldc 19, 2) := by decide +kernel
theorem dLy_clear_6 : decode cLy_clear 6 = .ok (.invokestatic 20, 3) := by decide +kernel
theorem dLy_clear_9 : decode cLy_clear 9 = .ok (.aload_n 0, 1) := by decide +kernel
theorem dLy_clear_10 : decode cLy_clear 10 = .ok (.iload_n 1, 1) := by decide +kernel
theorem dLy_clear_11 : decode cLy_clear 11 = .ok (.bipush 16, 2) := by decide +kernel
theorem dLy_clear_13 : decode cLy_clear 13 = .ok (.imul, 1) := by decide +kernel
theorem dLy_clear_14 : decode cLy_clear 14 = .ok (.putfield 15, 3) := by decide +kernel
theorem dLy_clear_17 : decode cLy_clear 17 = .ok (.return_, 1) := by decide +kernel
theorem dLy_findPlace_0 : decode cLy_findPlace 0 = .ok (.aload_n 1, 1) := by decide +kernel
theorem dLy_findPlace_1 : decode cLy_findPlace 1 = .ok (.getfield 35, 3) := by decide +kernel
theorem dLy_findPlace_4 : decode cLy_findPlace 4 = .ok (.istore_n 3, 1) := by decide +kernel
theorem dLy_findPlace_5 : decode cLy_findPlace 5 = .ok (.iload_n 3, 1) := by decide +kernel
theorem dLy_findPlace_6 : decode cLy_findPlace 6 = .ok (.iload_n 2, 1) := by decide +kernel
theorem dLy_findPlace_7 : decode cLy_findPlace 7 = .ok (.iadd, 1) := by decide +kernel
theorem dLy_findPlace_8 : decode cLy_findPlace 8 = .ok (.aload_n 0, 1) := by decide +kernel
theorem dLy_findPlace_9 : decode cLy_findPlace 9 = .ok (.getfield 15, 3) := by decide +kernel
theorem dLy_findPlace_12 : decode cLy_findPlace 12 = .ok (.if_icmp .gt 33, 3) := by decide +kernel
theorem dLy_findPlace_15 : decode cLy_findPlace 15 = .ok (.iload_n 3, 1) := by decide +kernel
theorem dLy_findPlace_16 : decode cLy_findPlace 16 = .ok (.bipush 16, 2) := by decide +kernel
theorem dLy_findPlace_18 : decode cLy_findPlace 18 = .ok (.irem, 1) := by decide +kernel
theorem dLy_findPlace_19 : decode cLy_findPlace 19 = .ok (.iconst 2, 1) := by decide +kernel
theorem dLy_findPlace_20 : decode cLy_findPlace 20 = .ok (.idiv, 1) := by decide +kernel
theorem dLy_findPlace_21 : decode cLy_findPlace 21 = .ok (.aload_n 1, 1) := by decide +kernel
theorem dLy_findPlace_22 : decode cLy_findPlace 22 = .ok (.getfield 50, 3) := by decide +kernel
theorem dLy_findPlace_25 : decode cLy_findPlace 25 = .ok (.if_icmp .ne 14, 3) := by decide +kernel
theorem dLy_findPlace_28 : decode cLy_findPlace 28 = .ok (.aload_n 0, 1) := by decide +kernel
theorem dLy_findPlace_29 : decode cLy_findPlace 29 = .ok (.iload_n 3, 1) := by decide +kernel
theorem dLy_findPlace_30 : decode cLy_findPlace 30 = .ok (.iload_n 2, 1) := by decide +kernel
theorem dLy_findPlace_31 : decode cLy_findPlace 31 = .ok (.invokevirtual 53, 3) := by decide +kernel
theorem dLy_findPlace_34 : decode cLy_findPlace 34 = .ok (.ifCond .eq 5, 3) := by decide +kernel
theorem dLy_findPlace_37 : decode cLy_findPlace 37 = .ok (.iload_n 3, 1) := by decide +kernel
theorem dLy_findPlace_38 : decode cLy_findPlace 38 = .ok (.ireturn, 1) := by decide +kernel
theorem dLy_findPlace_39 : decode cLy_findPlace 39 = .ok (.iinc 3 1, 3) := by decide +kernel
theorem dLy_findPlace_42 : decode cLy_findPlace 42 = .ok (.goto (-37), 3) := by decide +kernel
theorem dLy_findPlace_45 : decode cLy_findPlace 45 = .ok (.iconst (-1), 1) := by decide +kernel
theorem dLy_findPlace_46 : decode cLy_findPlace 46 = .ok (.ireturn, 1) := by decide +kernel
theorem dLy_lay_0 : decode cLy_lay 0 = .ok (.aload_n 1, 1) := by decide +kernel
theorem dLy_lay_1 : decode cLy_lay 1 = .ok (.getfield 26, 3) := by decide +kernel
theorem dLy_lay_4 : decode cLy_lay 4 = .ok (.astore_n 2, 1) := by decide +kernel
theorem dLy_lay_5 : decode cLy_lay 5 = .ok (.aload_n 1, 1) := by decide +kernel
theorem dLy_lay_6 : decode cLy_lay 6 = .ok (.getfield 32, 3) := by decide +kernel
theorem dLy_lay_9 : decode cLy_lay 9 = .ok (.arraylength, 1) := by decide +kernel
theorem dLy_lay_10 : decode cLy_lay 10 = .ok (.istore_n 3, 1) := by decide +kernel
theorem dLy_lay_11 : decode cLy_lay 11 = .ok (.aload_n 2, 1) := by decide +kernel
theorem dLy_lay_12 : decode cLy_lay 12 = .ok (.getfield 35, 3) := by decide +kernel
theorem dLy_lay_15 : decode cLy_lay 15 = .ok (.iconst (-1), 1) := by decide +kernel
theorem dLy_lay_16 : decode cLy_lay 16 = .ok (.if_icmp .ne 7, 3) := by decide +kernel
theorem dLy_lay_19 : decode cLy_lay 19 = .ok (.iconst (-1), 1) := by decide +kernel
theorem dLy_lay_20 : decode cLy_lay 20 = .ok (.goto 9, 3) := by decide +kernel
theorem dLy_lay_23 : decode cLy_lay 23 = .ok (.aload_n 0, 1) := by decide +kernel
theorem dLy_lay_24 : decode cLy_lay 24 = .ok (.aload_n 2, 1) := by decide +kernel
theorem dLy_lay_25 : decode cLy_lay 25 = .ok (.iload_n 3, 1) := by decide +kernel
theorem dLy_lay_26 : decode cLy_lay 26 = .ok (.invokevirtual 40, 3) := by decide +kernel
theorem dLy_lay_29 : decode cLy_lay 29 = .ok (.istore 4, 2) := by decide +kernel
theorem dLy_lay_31 : decode cLy_lay 31 = .ok (.iload 4, 2) := by decide +kernel
theorem dLy_lay_33 : decode cLy_lay 33 = .ok (.iconst (-1), 1) := by decide +kernel
theorem dLy_lay_34 : decode cLy_lay 34 = .ok (.if_icmp .ne 10, 3) := by decide +kernel
theorem dLy_lay_37 : decode cLy_lay 37 = .ok (.aload_n 2, 1) := by decide +kernel
theorem dLy_lay_38 : decode cLy_lay 38 = .ok (.iconst (-1), 1) := by decide +kernel
theorem dLy_lay_39 : decode cLy_lay 39 = .ok (.putfield 35, 3) := by decide +kernel
theorem dLy_lay_42 : decode cLy_lay 42 = .ok (.iconst 0, 1) := by decide +kernel
theorem dLy_lay_43 : decode cLy_lay 43 = .ok (.ireturn, 1) := by decide +kernel
theorem dLy_lay_44 : decode cLy_lay 44 = .ok (.aload_n 1, 1) := by decide +kernel
theorem dLy_lay_45 : decode cLy_lay 45 = .ok (.getfield 32, 3) := by decide +kernel
theorem dLy_lay_48 : decode cLy_lay 48 = .ok (.iconst 0, 1) := by decide +kernel
theorem dLy_lay_49 : decode cLy_lay 49 = .ok (.aload_n 0, 1) := by decide +kernel
theorem dLy_lay_50 : decode cLy_lay 50 = .ok (.getfield 9, 3) := by decide +kernel
theorem dLy_lay_53 : decode cLy_lay 53 = .ok (.iload 4, 2) := by decide +kernel
theorem dLy_lay_55 : decode cLy_lay 55 = .ok (.iload_n 3, 1) := by decide +kernel
theorem dLy_lay_56 : decode cLy_lay 56 = .ok (.invokestatic 44, 3) := by decide +kernel
theorem dLy_lay_59 : decode cLy_lay 59 = .ok (.aload_n 2, 1) := by decide +kernel
theorem dLy_lay_60 : decode cLy_lay 60 = .ok (.iload 4, 2) := by decide +kernel
theorem dLy_lay_62 : decode cLy_lay 62 = .ok (.iload_n 3, 1) := by decide +kernel
theorem dLy_lay_63 : decode cLy_lay 63 = .ok (.iadd, 1) := by decide +kernel
theorem dLy_lay_64 : decode cLy_lay 64 = .ok (.putfield 35, 3) := by decide +kernel
theorem dLy_lay_67 : decode cLy_lay 67 = .ok (.iconst 1, 1) := by decide +kernel
theorem dLy_lay_68 : decode cLy_lay 68 = .ok (.ireturn, 1) := by decide +kernel
theorem dLs_init_0 : decode cLs_init 0 = .ok (.aload_n 0, 1) := by decide +kernel
theorem dLs_init_1 : decode cLs_init 1 = .ok (.invokespecial 3, 3) := by decide +kernel
theorem dLs_init_4 : decode cLs_init 4 = .ok (.aload_n 0, 1) := by decide +kernel
theorem dLs_init_5 : decode cLs_init 5 = .ok (.aconst_null, 1) := by decide +kernel
theorem dLs_init_6 : decode cLs_init 6 = .ok (.putfield 9, 3) := by decide +kernel
theorem dLs_init_9 : decode cLs_init 9 = .ok (.aload_n 0, 1) := by decide +kernel
theorem dLs_init_10 : decode cLs_init 10 = .ok (.aconst_null, 1) := by decide +kernel
theorem dLs_init_11 : decode cLs_init 11 = .ok (.putfield 15, 3) := by decide +kernel
theorem dLs_init_14 : decode cLs_init 14 = .ok (.aload_n 0, 1) := by decide +kernel
theorem dLs_init_15 : decode cLs_init 15 = .ok (.iconst 0, 1) := by decide +kernel
theorem dLs_init_16 : decode cLs_init 16 = .ok (.putfield 19, 3) := by decide +kernel
theorem dLs_init_19 : decode cLs_init 19 = .ok (.aload_n 0, 1) := by decide +kernel
theorem dLs_init_20 : decode cLs_init 20 = .ok (.aconst_null, 1) := by decide +kernel
theorem dLs_init_21 : decode cLs_init 21 = .ok (.putfield 23, 3) := by decide +kernel
theorem dLs_init_24 : decode cLs_init 24 = .ok (.aload_n 0, 1) := by decide +kernel
theorem dLs_init_25 : decode cLs_init 25 = .ok (.bipush 22, 2) := by decide +kernel
theorem dLs_init_27 : decode cLs_init 27 = .ok (.newarray .int, 2) := by decide +kernel
theorem dLs_init_29 : decode cLs_init 29 = .ok (.putfield 27, 3) := by decide +kernel
theorem dLs_init_32 : decode cLs_init 32 = .ok (.aload_n 0, 1) := by decide +kernel
theorem dLs_init_33 : decode cLs_init 33 = .ok (.iconst 0, 1) := by decide +kernel
theorem dLs_init_34 : decode cLs_init 34 = .ok (.putfield 31, 3) := by decide +kernel
theorem dLs_init_37 : decode cLs_init 37 = .ok (.aload_n 0, 1) := by decide +kernel
theorem dLs_init_38 : decode cLs_init 38 = .ok (.iconst 0, 1) := by decide +kernel
theorem dLs_init_39 : decode cLs_init 39 = .ok (.putfield 34, 3) := by decide +kernel
theorem dLs_init_42 : decode cLs_init 42 = .ok (.aload_n 0, 1) := by decide +kernel
theorem dLs_init_43 : decode cLs_init 43 = .ok (.iconst 0, 1) := by decide +kernel
theorem dLs_init_44 : decode cLs_init 44 = .ok (.putfield 37, 3) := by decide +kernel
theorem dLs_init_47 : decode cLs_init 47 = .ok (.return_, 1) := by decide +kernel
theorem dLs_addContent_0 : decode cLs_addContent 0 = .ok (.bipush 19, 2) := by decide +kernel
theorem dLs_addContent_2 : decode cLs_addContent 2 = .ok (.istore_n 2, 1) := by decide +kernel
theorem dLs_addContent_3 : decode cLs_addContent 3 = .ok (.iload_n 2, 1) := by decide +kernel
theorem dLs_addContent_4 : decode cLs_addContent 4 = .ok (.ifCond .lt 73, 3) := by decide +kernel
theorem dLs_addContent_7 : decode cLs_addContent 7 = .ok (.aload_n 0, 1) := by decide +kernel
theorem dLs_addContent_8 : decode cLs_addContent 8 = .ok (.dup, 1) := by decide +kernel
theorem dLs_addContent_9 : decode cLs_addContent 9 = .ok (.getfield 34, 3) := by decide +kernel
theorem dLs_addContent_12 : decode cLs_addContent 12 = .ok (.iload_n 1, 1) := by decide +kernel
theorem dLs_addContent_13 : decode cLs_addContent 13 = .ok (.iload_n 2, 1) := by decide +kernel
theorem dLs_addContent_14 : decode cLs_addContent 14 = .ok (.iushr, 1) := by decide +kernel
theorem dLs_addContent_15 : decode cLs_addContent 15 = .ok (.iconst 1, 1) := by decide +kernel
theorem dLs_addContent_16 : decode cLs_addContent 16 = .ok (.iand, 1) := by decide +kernel
theorem dLs_addContent_17 : decode cLs_addContent 17 = .ok (.aload_n 0, 1) := by decide +kernel
theorem dLs_addContent_18 : decode cLs_addContent 18 = .ok (.getfield 37, 3) := by decide +kernel
theorem dLs_addContent_21 : decode cLs_addContent 21 = .ok (.ishl, 1) := by decide +kernel
theorem dLs_addContent_22 : decode cLs_addContent 22 = .ok (.ior, 1) := by decide +kernel
theorem dLs_addContent_23 : decode cLs_addContent 23 = .ok (.putfield 34, 3) := by decide +kernel
theorem dLs_addContent_26 : decode cLs_addContent 26 = .ok (.aload_n 0, 1) := by decide +kernel
theorem dLs_addContent_27 : decode cLs_addContent 27 = .ok (.dup, 1) := by decide +kernel
theorem dLs_addContent_28 : decode cLs_addContent 28 = .ok (.getfield 37, 3) := by decide +kernel
theorem dLs_addContent_31 : decode cLs_addContent 31 = .ok (.iconst 1, 1) := by decide +kernel
theorem dLs_addContent_32 : decode cLs_addContent 32 = .ok (.iadd, 1) := by decide +kernel
theorem dLs_addContent_33 : decode cLs_addContent 33 = .ok (.putfield 37, 3) := by decide +kernel
theorem dLs_addContent_36 : decode cLs_addContent 36 = .ok (.aload_n 0, 1) := by decide +kernel
theorem dLs_addContent_37 : decode cLs_addContent 37 = .ok (.getfield 37, 3) := by decide +kernel
theorem dLs_addContent_40 : decode cLs_addContent 40 = .ok (.aload_n 0, 1) := by decide +kernel
theorem dLs_addContent_41 : decode cLs_addContent 41 = .ok (.getfield 23, 3) := by decide +kernel
theorem dLs_addContent_44 : decode cLs_addContent 44 = .ok (.getfield 113, 3) := by decide +kernel
theorem dLs_addContent_47 : decode cLs_addContent 47 = .ok (.getfield 119, 3) := by decide +kernel
theorem dLs_addContent_50 : decode cLs_addContent 50 = .ok (.if_icmp .ne 21, 3) := by decide +kernel
theorem dLs_addContent_53 : decode cLs_addContent 53 = .ok (.aload_n 0, 1) := by decide +kernel
theorem dLs_addContent_54 : decode cLs_addContent 54 = .ok (.aload_n 0, 1) := by decide +kernel
theorem dLs_addContent_55 : decode cLs_addContent 55 = .ok (.getfield 34, 3) := by decide +kernel
theorem dLs_addContent_58 : decode cLs_addContent 58 = .ok (.invokevirtual 124, 3) := by decide +kernel
theorem dLs_addContent_61 : decode cLs_addContent 61 = .ok (.aload_n 0, 1) := by decide +kernel
theorem dLs_addContent_62 : decode cLs_addContent 62 = .ok (.iconst 0, 1) := by decide +kernel
theorem dLs_addContent_63 : decode cLs_addContent 63 = .ok (.putfield 34, 3) := by decide +kernel
theorem dLs_addContent_66 : decode cLs_addContent 66 = .ok (.aload_n 0, 1) := by decide +kernel
theorem dLs_addContent_67 : decode cLs_addContent 67 = .ok (.iconst 0, 1) := by decide +kernel
theorem dLs_addContent_68 : decode cLs_addContent 68 = .ok (.putfield 37, 3) := by decide +kernel
theorem dLs_addContent_71 : decode cLs_addContent 71 = .ok (.iinc 2 (-1), 3) := by decide +kernel
theorem dLs_addContent_74 : decode cLs_addContent 74 = .ok (.goto (-71), 3) := by decide +kernel
theorem dLs_addContent_77 : decode cLs_addContent 77 = .ok (.return_, 1) := by decide +kernel
theorem dLs_addSign_0 : decode cLs_addSign 0 = .ok (.aload_n 0, 1) := by decide +kernel
theorem dLs_addSign_1 : decode cLs_addSign 1 = .ok (.getfield 31, 3) := by decide +kernel
theorem dLs_addSign_4 : decode cLs_addSign 4 = .ok (.bipush 22, 2) := by decide +kernel
theorem dLs_addSign_6 : decode cLs_addSign 6 = .ok (.if_icmp .ge 23, 3) := by decide +kernel
theorem dLs_addSign_9 : decode cLs_addSign 9 = .ok (.aload_n 0, 1) := by decide +kernel
theorem dLs_addSign_10 : decode cLs_addSign 10 = .ok (.getfield 27, 3) := by decide +kernel
theorem dLs_addSign_13 : decode cLs_addSign 13 = .ok (.aload_n 0, 1) := by decide +kernel
theorem dLs_addSign_14 : decode cLs_addSign 14 = .ok (.getfield 31, 3) := by decide +kernel
theorem dLs_addSign_17 : decode cLs_addSign 17 = .ok (.iload_n 1, 1) := by decide +kernel
theorem dLs_addSign_18 : decode cLs_addSign 18 = .ok (.iastore, 1) := by decide +kernel
theorem dLs_addSign_19 : decode cLs_addSign 19 = .ok (.aload_n 0, 1) := by decide +kernel
theorem dLs_addSign_20 : decode cLs_addSign 20 = .ok (.dup, 1) := by decide +kernel
theorem dLs_addSign_21 : decode cLs_addSign 21 = .ok (.getfield 31, 3) := by decide +kernel
theorem dLs_addSign_24 : decode cLs_addSign 24 = .ok (.iconst 1, 1) := by decide +kernel
theorem dLs_addSign_25 : decode cLs_addSign 25 = .ok (.iadd, 1) := by decide +kernel
theorem dLs_addSign_26 : decode cLs_addSign 26 = .ok (.putfield 31, 3) := by decide +kernel
theorem dLs_addSign_29 : decode cLs_addSign 29 = .ok (.return_, 1) := by decide +kernel
theorem dLs_beginMessage_0 : decode cLs_beginMessage 0 = .ok (.aload_n 0, 1) := by decide +kernel
theorem dLs_beginMessage_1 : decode cLs_beginMessage 1 = .ok (.aload_n 1, 1) := by decide +kernel
theorem dLs_beginMessage_2 : decode cLs_beginMessage 2 = .ok (.putfield 23, 3) := by decide +kernel
theorem dLs_beginMessage_5 : decode cLs_beginMessage 5 = .ok (.aload_n 0, 1) := by decide +kernel
theorem dLs_beginMessage_6 : decode cLs_beginMessage 6 = .ok (.iconst 0, 1) := by decide +kernel
theorem dLs_beginMessage_7 : decode cLs_beginMessage 7 = .ok (.putfield 31, 3) := by decide +kernel
theorem dLs_beginMessage_10 : decode cLs_beginMessage 10 = .ok (.aload_n 0, 1) := by decide +kernel
theorem dLs_beginMessage_11 : decode cLs_beginMessage 11 = .ok (.iconst 0, 1) := by decide +kernel
theorem dLs_beginMessage_12 : decode cLs_beginMessage 12 = .ok (.putfield 34, 3) := by decide +kernel
theorem dLs_beginMessage_15 : decode cLs_beginMessage 15 = .ok (.aload_n 0, 1) := by decide +kernel
theorem dLs_beginMessage_16 : decode cLs_beginMessage 16 = .ok (.iconst 0, 1) := by decide +kernel
theorem dLs_beginMessage_17 : decode cLs_beginMessage 17 = .ok (.putfield 37, 3) := by decide +kernel
theorem dLs_beginMessage_20 : decode cLs_beginMessage 20 = .ok (.return_, 1) := by decide +kernel
theorem dLs_endMessage_0 : decode cLs_endMessage 0 = .ok (.aload_n 0, 1) := by decide +kernel
theorem dLs_endMessage_1 : decode cLs_endMessage 1 = .ok (.getfield 23, 3) := by decide +kernel
theorem dLs_endMessage_4 : decode cLs_endMessage 4 = .ok (.ifnonnull 4, 3) := by decide +kernel
theorem dLs_endMessage_7 : decode cLs_endMessage 7 = .ok (.return_, 1) := by decide +kernel
theorem dLs_endMessage_8 : decode cLs_endMessage 8 = .ok (.aload_n 0, 1) := by decide +kernel
theorem dLs_endMessage_9 : decode cLs_endMessage 9 = .ok (.getfield 23, 3) := by decide +kernel
theorem dLs_endMessage_12 : decode cLs_endMessage 12 = .ok (.getfield 113, 3) := by decide +kernel
theorem dLs_endMessage_15 : decode cLs_endMessage 15 = .ok (.aload_n 0, 1) := by decide +kernel
theorem dLs_endMessage_16 : decode cLs_endMessage 16 = .ok (.getfield 27, 3) := by decide +kernel
theorem dLs_endMessage_19 : decode cLs_endMessage 19 = .ok (.aload_n 0, 1) := by decide +kernel
theorem dLs_endMessage_20 : decode cLs_endMessage 20 = .ok (.getfield 31, 3) := by decide +kernel
theorem dLs_endMessage_23 : decode cLs_endMessage 23 = .ok (.invokevirtual 127, 3) := by decide +kernel
theorem dLs_endMessage_26 : decode cLs_endMessage 26 = .ok (.istore_n 2, 1) := by decide +kernel
theorem dLs_endMessage_27 : decode cLs_endMessage 27 = .ok (.iload_n 2, 1) := by decide +kernel
theorem dLs_endMessage_28 : decode cLs_endMessage 28 = .ok (.iconst (-1), 1) := by decide +kernel
theorem dLs_endMessage_29 : decode cLs_endMessage 29 = .ok (.if_icmp .ne 19, 3) := by decide +kernel
theorem dLs_endMessage_32 : decode cLs_endMessage 32 = .ok (.aload_n 0, 1) := by decide +kernel
theorem dLs_endMessage_33 : decode cLs_endMessage 33 = .ok (.getfield 15, 3) := by decide +kernel
theorem dLs_endMessage_36 : decode cLs_endMessage 36 = .ok (.dup, 1) := by decide +kernel
theorem dLs_endMessage_37 : decode cLs_endMessage 37 = .ok (.getfield 131, 3) := by decide +kernel
theorem dLs_endMessage_40 : decode cLs_endMessage 40 = .ok (.iconst 1, 1) := by decide +kernel
theorem dLs_endMessage_41 : decode cLs_endMessage 41 = .ok (.iadd, 1) := by decide +kernel
theorem dLs_endMessage_42 : decode cLs_endMessage 42 = .ok (.putfield 131, 3) := by decide +kernel
theorem dLs_endMessage_45 : decode cLs_endMessage 45 = .ok (.goto 27, 3) := by decide +kernel
theorem dLs_endMessage_48 : decode cLs_endMessage 48 = .ok (.aload_n 0, 1) := by decide +kernel
theorem dLs_endMessage_49 : decode cLs_endMessage 49 = .ok (.iload_n 2, 1) := by decide +kernel
theorem dLs_endMessage_50 : decode cLs_endMessage 50 = .ok (.iload_n 1, 1) := by decide +kernel
theorem dLs_endMessage_51 : decode cLs_endMessage 51 = .ok (.invokevirtual 134, 3) := by decide +kernel
theorem dLs_endMessage_54 : decode cLs_endMessage 54 = .ok (.aload_n 0, 1) := by decide +kernel
theorem dLs_endMessage_55 : decode cLs_endMessage 55 = .ok (.getfield 23, 3) := by decide +kernel
theorem dLs_endMessage_58 : decode cLs_endMessage 58 = .ok (.iload_n 2, 1) := by decide +kernel
theorem dLs_endMessage_59 : decode cLs_endMessage 59 = .ok (.invokevirtual 138, 3) := by decide +kernel
theorem dLs_endMessage_62 : decode cLs_endMessage 62 = .ok (.aload_n 0, 1) := by decide +kernel
theorem dLs_endMessage_63 : decode cLs_endMessage 63 = .ok (.dup, 1) := by decide +kernel
theorem dLs_endMessage_64 : decode cLs_endMessage 64 = .ok (.getfield 19, 3) := by decide +kernel
theorem dLs_endMessage_67 : decode cLs_endMessage 67 = .ok (.iconst 1, 1) := by decide +kernel
theorem dLs_endMessage_68 : decode cLs_endMessage 68 = .ok (.iadd, 1) := by decide +kernel
theorem dLs_endMessage_69 : decode cLs_endMessage 69 = .ok (.putfield 19, 3) := by decide +kernel
theorem dLs_endMessage_72 : decode cLs_endMessage 72 = .ok (.aload_n 0, 1) := by decide +kernel
theorem dLs_endMessage_73 : decode cLs_endMessage 73 = .ok (.aconst_null, 1) := by decide +kernel
theorem dLs_endMessage_74 : decode cLs_endMessage 74 = .ok (.putfield 23, 3) := by decide +kernel
theorem dLs_endMessage_77 : decode cLs_endMessage 77 = .ok (.return_, 1) := by decide +kernel
theorem dLs_hunt_0 : decode cLs_hunt 0 = .ok (.iconst 0, 1) := by decide +kernel
theorem dLs_hunt_1 : decode cLs_hunt 1 = .ok (.istore_n 2, 1) := by decide +kernel
theorem dLs_hunt_2 : decode cLs_hunt 2 = .ok (.iload_n 1, 1) := by decide +kernel
theorem dLs_hunt_3 : decode cLs_hunt 3 = .ok (.istore_n 3, 1) := by decide +kernel
theorem dLs_hunt_4 : decode cLs_hunt 4 = .ok (.iload_n 3, 1) := by decide +kernel
theorem dLs_hunt_5 : decode cLs_hunt 5 = .ok (.aload_n 0, 1) := by decide +kernel
theorem dLs_hunt_6 : decode cLs_hunt 6 = .ok (.getfield 9, 3) := by decide +kernel
theorem dLs_hunt_9 : decode cLs_hunt 9 = .ok (.getfield 60, 3) := by decide +kernel
theorem dLs_hunt_12 : decode cLs_hunt 12 = .ok (.if_icmp .ge 54, 3) := by decide +kernel
theorem dLs_hunt_15 : decode cLs_hunt 15 = .ok (.iload_n 2, 1) := by decide +kernel
theorem dLs_hunt_16 : decode cLs_hunt 16 = .ok (.iconst 1, 1) := by decide +kernel
theorem dLs_hunt_17 : decode cLs_hunt 17 = .ok (.ishl, 1) := by decide +kernel
theorem dLs_hunt_18 : decode cLs_hunt 18 = .ok (.aload_n 0, 1) := by decide +kernel
theorem dLs_hunt_19 : decode cLs_hunt 19 = .ok (.getfield 9, 3) := by decide +kernel
theorem dLs_hunt_22 : decode cLs_hunt 22 = .ok (.iload_n 3, 1) := by decide +kernel
theorem dLs_hunt_23 : decode cLs_hunt 23 = .ok (.invokevirtual 63, 3) := by decide +kernel
theorem dLs_hunt_26 : decode cLs_hunt 26 = .ok (.ior, 1) := by decide +kernel
theorem dLs_hunt_27 : decode cLs_hunt 27 = .ok (.istore_n 2, 1) := by decide +kernel
theorem dLs_hunt_28 : decode cLs_hunt 28 = .ok (.aload_n 0, 1) := by decide +kernel
theorem dLs_hunt_29 : decode cLs_hunt 29 = .ok (.getfield 15, 3) := by decide +kernel
theorem dLs_hunt_32 : decode cLs_hunt 32 = .ok (.dup, 1) := by decide +kernel
theorem dLs_hunt_33 : decode cLs_hunt 33 = .ok (.getfield 66, 3) := by decide +kernel
theorem dLs_hunt_36 : decode cLs_hunt 36 = .ok (.iconst 1, 1) := by decide +kernel
theorem dLs_hunt_37 : decode cLs_hunt 37 = .ok (.iadd, 1) := by decide +kernel
theorem dLs_hunt_38 : decode cLs_hunt 38 = .ok (.putfield 66, 3) := by decide +kernel
theorem dLs_hunt_41 : decode cLs_hunt 41 = .ok (.iload_n 3, 1) := by decide +kernel
theorem dLs_hunt_42 : decode cLs_hunt 42 = .ok (.iload_n 1, 1) := by decide +kernel
theorem dLs_hunt_43 : decode cLs_hunt 43 = .ok (.isub, 1) := by decide +kernel
theorem dLs_hunt_44 : decode cLs_hunt 44 = .ok (.bipush 31, 2) := by decide +kernel
theorem dLs_hunt_46 : decode cLs_hunt 46 = .ok (.if_icmp .lt 14, 3) := by decide +kernel
theorem dLs_hunt_49 : decode cLs_hunt 49 = .ok (.iload_n 2, 1) := by decide +kernel
theorem dLs_hunt_50 : decode cLs_hunt 50 = .ok (.invokestatic 71, 3) := by decide +kernel
theorem dLs_hunt_53 : decode cLs_hunt 53 = .ok (.ifCond .eq 7, 3) := by decide +kernel
theorem dLs_hunt_56 : decode cLs_hunt 56 = .ok (.iload_n 3, 1) := by decide +kernel
theorem dLs_hunt_57 : decode cLs_hunt 57 = .ok (.iconst 1, 1) := by decide +kernel
theorem dLs_hunt_58 : decode cLs_hunt 58 = .ok (.iadd, 1) := by decide +kernel
theorem dLs_hunt_59 : decode cLs_hunt 59 = .ok (.ireturn, 1) := by decide +kernel
theorem dLs_hunt_60 : decode cLs_hunt 60 = .ok (.iinc 3 1, 3) := by decide +kernel
theorem dLs_hunt_63 : decode cLs_hunt 63 = .ok (.goto (-59), 3) := by decide +kernel
theorem dLs_hunt_66 : decode cLs_hunt 66 = .ok (.aload_n 0, 1) := by decide +kernel
theorem dLs_hunt_67 : decode cLs_hunt 67 = .ok (.getfield 9, 3) := by decide +kernel
theorem dLs_hunt_70 : decode cLs_hunt 70 = .ok (.getfield 60, 3) := by decide +kernel
theorem dLs_hunt_73 : decode cLs_hunt 73 = .ok (.ireturn, 1) := by decide +kernel
theorem dLs_listen_0 : decode cLs_listen 0 = .ok (.aload_n 0, 1) := by decide +kernel
theorem dLs_listen_1 : decode cLs_listen 1 = .ok (.aload_n 1, 1) := by decide +kernel
theorem dLs_listen_2 : decode cLs_listen 2 = .ok (.putfield 15, 3) := by decide +kernel
theorem dLs_listen_5 : decode cLs_listen 5 = .ok (.aload_n 0, 1) := by decide +kernel
theorem dLs_listen_6 : decode cLs_listen 6 = .ok (.aload_n 2, 1) := by decide +kernel
theorem dLs_listen_7 : decode cLs_listen 7 = .ok (.putfield 9, 3) := by decide +kernel
theorem dLs_listen_10 : decode cLs_listen 10 = .ok (.aload_n 0, 1) := by decide +kernel
theorem dLs_listen_11 : decode cLs_listen 11 = .ok (.iconst 0, 1) := by decide +kernel
theorem dLs_listen_12 : decode cLs_listen 12 = .ok (.putfield 19, 3) := by decide +kernel
theorem dLs_listen_15 : decode cLs_listen 15 = .ok (.aload_n 0, 1) := by decide +kernel
theorem dLs_listen_16 : decode cLs_listen 16 = .ok (.iload_n 3, 1) := by decide +kernel
theorem dLs_listen_17 : decode cLs_listen 17 = .ok (.invokevirtual 40, 3) := by decide +kernel
theorem dLs_listen_20 : decode cLs_listen 20 = .ok (.istore 4, 2) := by decide +kernel
theorem dLs_listen_22 : decode cLs_listen 22 = .ok (.iconst 0, 1) := by decide +kernel
theorem dLs_listen_23 : decode cLs_listen 23 = .ok (.istore 5, 2) := by decide +kernel
theorem dLs_listen_25 : decode cLs_listen 25 = .ok (.iload 5, 2) := by decide +kernel
theorem dLs_listen_27 : decode cLs_listen 27 = .ok (.bipush 70, 2) := by decide +kernel
theorem dLs_listen_29 : decode cLs_listen 29 = .ok (.if_icmp .ge 33, 3) := by decide +kernel
theorem dLs_listen_32 : decode cLs_listen 32 = .ok (.aload_n 0, 1) := by decide +kernel
theorem dLs_listen_33 : decode cLs_listen 33 = .ok (.getfield 9, 3) := by decide +kernel
theorem dLs_listen_36 : decode cLs_listen 36 = .ok (.iload 4, 2) := by decide +kernel
theorem dLs_listen_38 : decode cLs_listen 38 = .ok (.invokevirtual 46, 3) := by decide +kernel
theorem dLs_listen_41 : decode cLs_listen 41 = .ok (.ifCond .eq 21, 3) := by decide +kernel
theorem dLs_listen_44 : decode cLs_listen 44 = .ok (.aload_n 0, 1) := by decide +kernel
theorem dLs_listen_45 : decode cLs_listen 45 = .ok (.aload_n 0, 1) := by decide +kernel
theorem dLs_listen_46 : decode cLs_listen 46 = .ok (.iload 4, 2) := by decide +kernel
theorem dLs_listen_48 : decode cLs_listen 48 = .ok (.invokevirtual 50, 3) := by decide +kernel
theorem dLs_listen_51 : decode cLs_listen 51 = .ok (.invokevirtual 53, 3) := by decide +kernel
theorem dLs_listen_54 : decode cLs_listen 54 = .ok (.istore 4, 2) := by decide +kernel
theorem dLs_listen_56 : decode cLs_listen 56 = .ok (.iinc 5 1, 3) := by decide +kernel
theorem dLs_listen_59 : decode cLs_listen 59 = .ok (.goto (-34), 3) := by decide +kernel
theorem dLs_listen_62 : decode cLs_listen 62 = .ok (.aload_n 0, 1) := by decide +kernel
theorem dLs_listen_63 : decode cLs_listen 63 = .ok (.iconst 0, 1) := by decide +kernel
theorem dLs_listen_64 : decode cLs_listen 64 = .ok (.invokevirtual 56, 3) := by decide +kernel
theorem dLs_listen_67 : decode cLs_listen 67 = .ok (.aload_n 0, 1) := by decide +kernel
theorem dLs_listen_68 : decode cLs_listen 68 = .ok (.getfield 19, 3) := by decide +kernel
theorem dLs_listen_71 : decode cLs_listen 71 = .ok (.ireturn, 1) := by decide +kernel
theorem dLs_store_0 : decode cLs_store 0 = .ok (.aload_n 0, 1) := by decide +kernel
theorem dLs_store_1 : decode cLs_store 1 = .ok (.getfield 23, 3) := by decide +kernel
theorem dLs_store_4 : decode cLs_store 4 = .ok (.getfield 113, 3) := by decide +kernel
theorem dLs_store_7 : decode cLs_store 7 = .ok (.astore_n 3, 1) := by decide +kernel
theorem dLs_store_8 : decode cLs_store 8 = .ok (.aload_n 3, 1) := by decide +kernel
theorem dLs_store_9 : decode cLs_store 9 = .ok (.invokevirtual 141, 3) := by decide +kernel
theorem dLs_store_12 : decode cLs_store 12 = .ok (.istore 4, 2) := by decide +kernel
theorem dLs_store_14 : decode cLs_store 14 = .ok (.aload_n 0, 1) := by decide +kernel
theorem dLs_store_15 : decode cLs_store 15 = .ok (.getfield 31, 3) := by decide +kernel
theorem dLs_store_18 : decode cLs_store 18 = .ok (.istore 5, 2) := by decide +kernel
theorem dLs_store_20 : decode cLs_store 20 = .ok (.iload 5, 2) := by decide +kernel
theorem dLs_store_22 : decode cLs_store 22 = .ok (.iload 4, 2) := by decide +kernel
theorem dLs_store_24 : decode cLs_store 24 = .ok (.if_icmp .le 25, 3) := by decide +kernel
theorem dLs_store_27 : decode cLs_store 27 = .ok (.aload_n 0, 1) := by decide +kernel
theorem dLs_store_28 : decode cLs_store 28 = .ok (.getfield 27, 3) := by decide +kernel
theorem dLs_store_31 : decode cLs_store 31 = .ok (.iload 5, 2) := by decide +kernel
theorem dLs_store_33 : decode cLs_store 33 = .ok (.iconst 1, 1) := by decide +kernel
theorem dLs_store_34 : decode cLs_store 34 = .ok (.isub, 1) := by decide +kernel
theorem dLs_store_35 : decode cLs_store 35 = .ok (.iaload, 1) := by decide +kernel
theorem dLs_store_36 : decode cLs_store 36 = .ok (.aload_n 3, 1) := by decide +kernel
theorem dLs_store_37 : decode cLs_store 37 = .ok (.getfield 145, 3) := by decide +kernel
theorem dLs_store_40 : decode cLs_store 40 = .ok (.if_icmp .ne 9, 3) := by decide +kernel
theorem dLs_store_43 : decode cLs_store 43 = .ok (.iinc 5 (-1), 3) := by decide +kernel
theorem dLs_store_46 : decode cLs_store 46 = .ok (.goto (-26), 3) := by decide +kernel
theorem dLs_store_49 : decode cLs_store 49 = .ok (.aload_n 0, 1) := by decide +kernel
theorem dLs_store_50 : decode cLs_store 50 = .ok (.getfield 15, 3) := by decide +kernel
theorem dLs_store_53 : decode cLs_store 53 = .ok (.invokevirtual 148, 3) := by decide +kernel
theorem dLs_store_56 : decode cLs_store 56 = .ok (.astore 6, 2) := by decide +kernel
theorem dLs_store_58 : decode cLs_store 58 = .ok (.aload 6, 2) := by decide +kernel
theorem dLs_store_60 : decode cLs_store 60 = .ok (.aload_n 3, 1) := by decide +kernel
theorem dLs_store_61 : decode cLs_store 61 = .ok (.getfield 152, 3) := by decide +kernel
theorem dLs_store_64 : decode cLs_store 64 = .ok (.putfield 155, 3) := by decide +kernel
theorem dLs_store_67 : decode cLs_store 67 = .ok (.aload 6, 2) := by decide +kernel
theorem dLs_store_69 : decode cLs_store 69 = .ok (.iload_n 1, 1) := by decide +kernel
theorem dLs_store_70 : decode cLs_store 70 = .ok (.putfield 159, 3) := by decide +kernel
theorem dLs_store_73 : decode cLs_store 73 = .ok (.aload 6, 2) := by decide +kernel
theorem dLs_store_75 : decode cLs_store 75 = .ok (.iload_n 2, 1) := by decide +kernel
theorem dLs_store_76 : decode cLs_store 76 = .ok (.putfield 162, 3) := by decide +kernel
theorem dLs_store_79 : decode cLs_store 79 = .ok (.aload 6, 2) := by decide +kernel
theorem dLs_store_81 : decode cLs_store 81 = .ok (.iload 5, 2) := by decide +kernel
theorem dLs_store_83 : decode cLs_store 83 = .ok (.iload 4, 2) := by decide +kernel
theorem dLs_store_85 : decode cLs_store 85 = .ok (.isub, 1) := by decide +kernel
theorem dLs_store_86 : decode cLs_store 86 = .ok (.putfield 166, 3) := by decide +kernel
theorem dLs_store_89 : decode cLs_store 89 = .ok (.aload_n 0, 1) := by decide +kernel
theorem dLs_store_90 : decode cLs_store 90 = .ok (.getfield 27, 3) := by decide +kernel
theorem dLs_store_93 : decode cLs_store 93 = .ok (.iload 4, 2) := by decide +kernel
theorem dLs_store_95 : decode cLs_store 95 = .ok (.aload 6, 2) := by decide +kernel
theorem dLs_store_97 : decode cLs_store 97 = .ok (.getfield 167, 3) := by decide +kernel
theorem dLs_store_100 : decode cLs_store 100 = .ok (.iconst 0, 1) := by decide +kernel
theorem dLs_store_101 : decode cLs_store 101 = .ok (.iload 5, 2) := by decide +kernel
theorem dLs_store_103 : decode cLs_store 103 = .ok (.iload 4, 2) := by decide +kernel
theorem dLs_store_105 : decode cLs_store 105 = .ok (.isub, 1) := by decide +kernel
theorem dLs_store_106 : decode cLs_store 106 = .ok (.invokestatic 168, 3) := by decide +kernel
theorem dLs_store_109 : decode cLs_store 109 = .ok (.return_, 1) := by decide +kernel
theorem dLs_takeBatch_0 : decode cLs_takeBatch 0 = .ok (.iload_n 1, 1) := by decide +kernel
theorem dLs_takeBatch_1 : decode cLs_takeBatch 1 = .ok (.istore_n 2, 1) := by decide +kernel
theorem dLs_takeBatch_2 : decode cLs_takeBatch 2 = .ok (.iconst 0, 1) := by decide +kernel
theorem dLs_takeBatch_3 : decode cLs_takeBatch 3 = .ok (.istore_n 3, 1) := by decide +kernel
theorem dLs_takeBatch_4 : decode cLs_takeBatch 4 = .ok (.iload_n 3, 1) := by decide +kernel
theorem dLs_takeBatch_5 : decode cLs_takeBatch 5 = .ok (.bipush 16, 2) := by decide +kernel
theorem dLs_takeBatch_7 : decode cLs_takeBatch 7 = .ok (.if_icmp .ge 69, 3) := by decide +kernel
theorem dLs_takeBatch_10 : decode cLs_takeBatch 10 = .ok (.aload_n 0, 1) := by decide +kernel
theorem dLs_takeBatch_11 : decode cLs_takeBatch 11 = .ok (.getfield 9, 3) := by decide +kernel
theorem dLs_takeBatch_14 : decode cLs_takeBatch 14 = .ok (.iload_n 2, 1) := by decide +kernel
theorem dLs_takeBatch_15 : decode cLs_takeBatch 15 = .ok (.invokevirtual 46, 3) := by decide +kernel
theorem dLs_takeBatch_18 : decode cLs_takeBatch 18 = .ok (.ifCond .ne 11, 3) := by decide +kernel
theorem dLs_takeBatch_21 : decode cLs_takeBatch 21 = .ok (.aload_n 0, 1) := by decide +kernel
theorem dLs_takeBatch_22 : decode cLs_takeBatch 22 = .ok (.getfield 9, 3) := by decide +kernel
theorem dLs_takeBatch_25 : decode cLs_takeBatch 25 = .ok (.getfield 60, 3) := by decide +kernel
theorem dLs_takeBatch_28 : decode cLs_takeBatch 28 = .ok (.ireturn, 1) := by decide +kernel
theorem dLs_takeBatch_29 : decode cLs_takeBatch 29 = .ok (.iload_n 3, 1) := by decide +kernel
theorem dLs_takeBatch_30 : decode cLs_takeBatch 30 = .ok (.iconst 2, 1) := by decide +kernel
theorem dLs_takeBatch_31 : decode cLs_takeBatch 31 = .ok (.idiv, 1) := by decide +kernel
theorem dLs_takeBatch_32 : decode cLs_takeBatch 32 = .ok (.istore 4, 2) := by decide +kernel
theorem dLs_takeBatch_34 : decode cLs_takeBatch 34 = .ok (.aload_n 0, 1) := by decide +kernel
theorem dLs_takeBatch_35 : decode cLs_takeBatch 35 = .ok (.getfield 23, 3) := by decide +kernel
theorem dLs_takeBatch_38 : decode cLs_takeBatch 38 = .ok (.ifnonnull 15, 3) := by decide +kernel
theorem dLs_takeBatch_41 : decode cLs_takeBatch 41 = .ok (.aload_n 0, 1) := by decide +kernel
theorem dLs_takeBatch_42 : decode cLs_takeBatch 42 = .ok (.getfield 15, 3) := by decide +kernel
theorem dLs_takeBatch_45 : decode cLs_takeBatch 45 = .ok (.iload 4, 2) := by decide +kernel
theorem dLs_takeBatch_47 : decode cLs_takeBatch 47 = .ok (.invokevirtual 74, 3) := by decide +kernel
theorem dLs_takeBatch_50 : decode cLs_takeBatch 50 = .ok (.ifCond .eq 17, 3) := by decide +kernel
theorem dLs_takeBatch_53 : decode cLs_takeBatch 53 = .ok (.aload_n 0, 1) := by decide +kernel
theorem dLs_takeBatch_54 : decode cLs_takeBatch 54 = .ok (.aload_n 0, 1) := by decide +kernel
theorem dLs_takeBatch_55 : decode cLs_takeBatch 55 = .ok (.getfield 9, 3) := by decide +kernel
theorem dLs_takeBatch_58 : decode cLs_takeBatch 58 = .ok (.iload_n 2, 1) := by decide +kernel
theorem dLs_takeBatch_59 : decode cLs_takeBatch 59 = .ok (.invokevirtual 77, 3) := by decide +kernel
theorem dLs_takeBatch_62 : decode cLs_takeBatch 62 = .ok (.iload 4, 2) := by decide +kernel
theorem dLs_takeBatch_64 : decode cLs_takeBatch 64 = .ok (.invokevirtual 80, 3) := by decide +kernel
theorem dLs_takeBatch_67 : decode cLs_takeBatch 67 = .ok (.iinc 2 32, 3) := by decide +kernel
theorem dLs_takeBatch_70 : decode cLs_takeBatch 70 = .ok (.iinc 3 1, 3) := by decide +kernel
theorem dLs_takeBatch_73 : decode cLs_takeBatch 73 = .ok (.goto (-69), 3) := by decide +kernel
theorem dLs_takeBatch_76 : decode cLs_takeBatch 76 = .ok (.iload_n 2, 1) := by decide +kernel
theorem dLs_takeBatch_77 : decode cLs_takeBatch 77 = .ok (.ireturn, 1) := by decide +kernel
theorem dLs_takeSync_0 : decode cLs_takeSync 0 = .ok (.aload_n 0, 1) := by decide +kernel
theorem dLs_takeSync_1 : decode cLs_takeSync 1 = .ok (.getfield 9, 3) := by decide +kernel
theorem dLs_takeSync_4 : decode cLs_takeSync 4 = .ok (.iload_n 1, 1) := by decide +kernel
theorem dLs_takeSync_5 : decode cLs_takeSync 5 = .ok (.invokevirtual 46, 3) := by decide +kernel
theorem dLs_takeSync_8 : decode cLs_takeSync 8 = .ok (.ifCond .ne 11, 3) := by decide +kernel
theorem dLs_takeSync_11 : decode cLs_takeSync 11 = .ok (.aload_n 0, 1) := by decide +kernel
theorem dLs_takeSync_12 : decode cLs_takeSync 12 = .ok (.getfield 9, 3) := by decide +kernel
theorem dLs_takeSync_15 : decode cLs_takeSync 15 = .ok (.getfield 60, 3) := by decide +kernel
theorem dLs_takeSync_18 : decode cLs_takeSync 18 = .ok (.ireturn, 1) := by decide +kernel
theorem dLs_takeSync_19 : decode cLs_takeSync 19 = .ok (.aload_n 0, 1) := by decide +kernel
theorem dLs_takeSync_20 : decode cLs_takeSync 20 = .ok (.getfield 15, 3) := by decide +kernel
theorem dLs_takeSync_23 : decode cLs_takeSync 23 = .ok (.dup, 1) := by decide +kernel
theorem dLs_takeSync_24 : decode cLs_takeSync 24 = .ok (.getfield 66, 3) := by decide +kernel
theorem dLs_takeSync_27 : decode cLs_takeSync 27 = .ok (.bipush 32, 2) := by decide +kernel
theorem dLs_takeSync_29 : decode cLs_takeSync 29 = .ok (.iadd, 1) := by decide +kernel
theorem dLs_takeSync_30 : decode cLs_takeSync 30 = .ok (.putfield 66, 3) := by decide +kernel
theorem dLs_takeSync_33 : decode cLs_takeSync 33 = .ok (.aload_n 0, 1) := by decide +kernel
theorem dLs_takeSync_34 : decode cLs_takeSync 34 = .ok (.getfield 9, 3) := by decide +kernel
theorem dLs_takeSync_37 : decode cLs_takeSync 37 = .ok (.iload_n 1, 1) := by decide +kernel
theorem dLs_takeSync_38 : decode cLs_takeSync 38 = .ok (.invokevirtual 77, 3) := by decide +kernel
theorem dLs_takeSync_41 : decode cLs_takeSync 41 = .ok (.invokestatic 71, 3) := by decide +kernel
theorem dLs_takeSync_44 : decode cLs_takeSync 44 = .ok (.ifCond .eq 8, 3) := by decide +kernel
theorem dLs_takeSync_47 : decode cLs_takeSync 47 = .ok (.iload_n 1, 1) := by decide +kernel
theorem dLs_takeSync_48 : decode cLs_takeSync 48 = .ok (.bipush 32, 2) := by decide +kernel
theorem dLs_takeSync_50 : decode cLs_takeSync 50 = .ok (.iadd, 1) := by decide +kernel
theorem dLs_takeSync_51 : decode cLs_takeSync 51 = .ok (.ireturn, 1) := by decide +kernel
theorem dLs_takeSync_52 : decode cLs_takeSync 52 = .ok (.aload_n 0, 1) := by decide +kernel
theorem dLs_takeSync_53 : decode cLs_takeSync 53 = .ok (.iconst 0, 1) := by decide +kernel
theorem dLs_takeSync_54 : decode cLs_takeSync 54 = .ok (.invokevirtual 56, 3) := by decide +kernel
theorem dLs_takeSync_57 : decode cLs_takeSync 57 = .ok (.aload_n 0, 1) := by decide +kernel
theorem dLs_takeSync_58 : decode cLs_takeSync 58 = .ok (.iload_n 1, 1) := by decide +kernel
theorem dLs_takeSync_59 : decode cLs_takeSync 59 = .ok (.bipush 32, 2) := by decide +kernel
theorem dLs_takeSync_61 : decode cLs_takeSync 61 = .ok (.iadd, 1) := by decide +kernel
theorem dLs_takeSync_62 : decode cLs_takeSync 62 = .ok (.invokevirtual 40, 3) := by decide +kernel
theorem dLs_takeSync_65 : decode cLs_takeSync 65 = .ok (.ireturn, 1) := by decide +kernel
theorem dLs_takeWord_0 : decode cLs_takeWord 0 = .ok (.aload_n 0, 1) := by decide +kernel
theorem dLs_takeWord_1 : decode cLs_takeWord 1 = .ok (.getfield 15, 3) := by decide +kernel
theorem dLs_takeWord_4 : decode cLs_takeWord 4 = .ok (.dup, 1) := by decide +kernel
theorem dLs_takeWord_5 : decode cLs_takeWord 5 = .ok (.getfield 66, 3) := by decide +kernel
theorem dLs_takeWord_8 : decode cLs_takeWord 8 = .ok (.bipush 32, 2) := by decide +kernel
theorem dLs_takeWord_10 : decode cLs_takeWord 10 = .ok (.iadd, 1) := by decide +kernel
theorem dLs_takeWord_11 : decode cLs_takeWord 11 = .ok (.putfield 66, 3) := by decide +kernel
theorem dLs_takeWord_14 : decode cLs_takeWord 14 = .ok (.iload_n 1, 1) := by decide +kernel
theorem dLs_takeWord_15 : decode cLs_takeWord 15 = .ok (.invokestatic 84, 3) := by decide +kernel
theorem dLs_takeWord_18 : decode cLs_takeWord 18 = .ok (.istore_n 3, 1) := by decide +kernel
theorem dLs_takeWord_19 : decode cLs_takeWord 19 = .ok (.iload_n 3, 1) := by decide +kernel
theorem dLs_takeWord_20 : decode cLs_takeWord 20 = .ok (.iconst (-1), 1) := by decide +kernel
theorem dLs_takeWord_21 : decode cLs_takeWord 21 = .ok (.if_icmp .ne 22, 3) := by decide +kernel
theorem dLs_takeWord_24 : decode cLs_takeWord 24 = .ok (.aload_n 0, 1) := by decide +kernel
theorem dLs_takeWord_25 : decode cLs_takeWord 25 = .ok (.getfield 15, 3) := by decide +kernel
theorem dLs_takeWord_28 : decode cLs_takeWord 28 = .ok (.dup, 1) := by decide +kernel
theorem dLs_takeWord_29 : decode cLs_takeWord 29 = .ok (.getfield 89, 3) := by decide +kernel
theorem dLs_takeWord_32 : decode cLs_takeWord 32 = .ok (.iconst 1, 1) := by decide +kernel
theorem dLs_takeWord_33 : decode cLs_takeWord 33 = .ok (.iadd, 1) := by decide +kernel
theorem dLs_takeWord_34 : decode cLs_takeWord 34 = .ok (.putfield 89, 3) := by decide +kernel
theorem dLs_takeWord_37 : decode cLs_takeWord 37 = .ok (.aload_n 0, 1) := by decide +kernel
theorem dLs_takeWord_38 : decode cLs_takeWord 38 = .ok (.iconst 1, 1) := by decide +kernel
theorem dLs_takeWord_39 : decode cLs_takeWord 39 = .ok (.invokevirtual 56, 3) := by decide +kernel
theorem dLs_takeWord_42 : decode cLs_takeWord 42 = .ok (.return_, 1) := by decide +kernel
theorem dLs_takeWord_43 : decode cLs_takeWord 43 = .ok (.aload_n 0, 1) := by decide +kernel
theorem dLs_takeWord_44 : decode cLs_takeWord 44 = .ok (.getfield 15, 3) := by decide +kernel
theorem dLs_takeWord_47 : decode cLs_takeWord 47 = .ok (.dup, 1) := by decide +kernel
theorem dLs_takeWord_48 : decode cLs_takeWord 48 = .ok (.getfield 92, 3) := by decide +kernel
theorem dLs_takeWord_51 : decode cLs_takeWord 51 = .ok (.iload_n 3, 1) := by decide +kernel
theorem dLs_takeWord_52 : decode cLs_takeWord 52 = .ok (.invokestatic 95, 3) := by decide +kernel
theorem dLs_takeWord_55 : decode cLs_takeWord 55 = .ok (.iadd, 1) := by decide +kernel
theorem dLs_takeWord_56 : decode cLs_takeWord 56 = .ok (.putfield 92, 3) := by decide +kernel
theorem dLs_takeWord_59 : decode cLs_takeWord 59 = .ok (.iload_n 1, 1) := by decide +kernel
theorem dLs_takeWord_60 : decode cLs_takeWord 60 = .ok (.iload_n 3, 1) := by decide +kernel
theorem dLs_takeWord_61 : decode cLs_takeWord 61 = .ok (.ixor, 1) := by decide +kernel
theorem dLs_takeWord_62 : decode cLs_takeWord 62 = .ok (.bipush 11, 2) := by decide +kernel
theorem dLs_takeWord_64 : decode cLs_takeWord 64 = .ok (.iushr, 1) := by decide +kernel
theorem dLs_takeWord_65 : decode cLs_takeWord 65 = .ok (.istore 4, 2) := by decide +kernel
theorem dLs_takeWord_67 : decode cLs_takeWord 67 = .ok (.aload_n 0, 1) := by decide +kernel
theorem dLs_takeWord_68 : decode cLs_takeWord 68 = .ok (.getfield 23, 3) := by decide +kernel
theorem dLs_takeWord_71 : decode cLs_takeWord 71 = .ok (.ifnull 21, 3) := by decide +kernel
theorem dLs_takeWord_74 : decode cLs_takeWord 74 = .ok (.iload 4, 2) := by decide +kernel
theorem dLs_takeWord_76 : decode cLs_takeWord 76 = .ok (.ldc 99, 2) := by decide +kernel
theorem dLs_takeWord_78 : decode cLs_takeWord 78 = .ok (.iand, 1) := by decide +kernel
theorem dLs_takeWord_79 : decode cLs_takeWord 79 = .ok (.ifCond .eq 13, 3) := by decide +kernel
theorem dLs_takeWord_82 : decode cLs_takeWord 82 = .ok (.aload_n 0, 1) := by decide +kernel
theorem dLs_takeWord_83 : decode cLs_takeWord 83 = .ok (.iload 4, 2) := by decide +kernel
theorem dLs_takeWord_85 : decode cLs_takeWord 85 = .ok (.ldc 100, 2) := by decide +kernel
theorem dLs_takeWord_87 : decode cLs_takeWord 87 = .ok (.iand, 1) := by decide +kernel
theorem dLs_takeWord_88 : decode cLs_takeWord 88 = .ok (.invokevirtual 101, 3) := by decide +kernel
theorem dLs_takeWord_91 : decode cLs_takeWord 91 = .ok (.return_, 1) := by decide +kernel
theorem dLs_takeWord_92 : decode cLs_takeWord 92 = .ok (.aload_n 0, 1) := by decide +kernel
theorem dLs_takeWord_93 : decode cLs_takeWord 93 = .ok (.iconst 0, 1) := by decide +kernel
theorem dLs_takeWord_94 : decode cLs_takeWord 94 = .ok (.invokevirtual 56, 3) := by decide +kernel
theorem dLs_takeWord_97 : decode cLs_takeWord 97 = .ok (.aload_n 0, 1) := by decide +kernel
theorem dLs_takeWord_98 : decode cLs_takeWord 98 = .ok (.aload_n 0, 1) := by decide +kernel
theorem dLs_takeWord_99 : decode cLs_takeWord 99 = .ok (.getfield 15, 3) := by decide +kernel
theorem dLs_takeWord_102 : decode cLs_takeWord 102 = .ok (.iload_n 1, 1) := by decide +kernel
theorem dLs_takeWord_103 : decode cLs_takeWord 103 = .ok (.iload_n 3, 1) := by decide +kernel
theorem dLs_takeWord_104 : decode cLs_takeWord 104 = .ok (.ixor, 1) := by decide +kernel
theorem dLs_takeWord_105 : decode cLs_takeWord 105 = .ok (.iload_n 2, 1) := by decide +kernel
theorem dLs_takeWord_106 : decode cLs_takeWord 106 = .ok (.invokevirtual 105, 3) := by decide +kernel
theorem dLs_takeWord_109 : decode cLs_takeWord 109 = .ok (.invokevirtual 109, 3) := by decide +kernel
theorem dLs_takeWord_112 : decode cLs_takeWord 112 = .ok (.return_, 1) := by decide +kernel
theorem dMs_init_0 : decode cMs_init 0 = .ok (.aload_n 0, 1) := by decide +kernel
theorem dMs_init_1 : decode cMs_init 1 = .ok (.invokespecial 3, 3) := by decide +kernel
theorem dMs_init_4 : decode cMs_init 4 = .ok (.aload_n 0, 1) := by decide +kernel
theorem dMs_init_5 : decode cMs_init 5 = .ok (.iconst 1, 1) := by decide +kernel
theorem dMs_init_6 : decode cMs_init 6 = .ok (.putfield 9, 3) := by decide +kernel
theorem dMs_init_9 : decode cMs_init 9 = .ok (.aload_n 0, 1) := by decide +kernel
theorem dMs_init_10 : decode cMs_init 10 = .ok (.aload_n 1, 1) := by decide +kernel
theorem dMs_init_11 : decode cMs_init 11 = .ok (.putfield 15, 3) := by decide +kernel
theorem dMs_init_14 : decode cMs_init 14 = .ok (.aload_n 0, 1) := by decide +kernel
theorem dMs_init_15 : decode cMs_init 15 = .ok (.iload_n 2, 1) := by decide +kernel
theorem dMs_init_16 : decode cMs_init 16 = .ok (.putfield 19, 3) := by decide +kernel
theorem dMs_init_19 : decode cMs_init 19 = .ok (.aload_n 0, 1) := by decide +kernel
theorem dMs_init_20 : decode cMs_init 20 = .ok (.iload_n 3, 1) := by decide +kernel
theorem dMs_init_21 : decode cMs_init 21 = .ok (.putfield 23, 3) := by decide +kernel
theorem dMs_init_24 : decode cMs_init 24 = .ok (.aload_n 0, 1) := by decide +kernel
theorem dMs_init_25 : decode cMs_init 25 = .ok (.aload 4, 2) := by decide +kernel
theorem dMs_init_27 : decode cMs_init 27 = .ok (.putfield 26, 3) := by decide +kernel
theorem dMs_init_30 : decode cMs_init 30 = .ok (.aload_n 0, 1) := by decide +kernel
theorem dMs_init_31 : decode cMs_init 31 = .ok (.aload_n 1, 1) := by decide +kernel
theorem dMs_init_32 : decode cMs_init 32 = .ok (.iload_n 3, 1) := by decide +kernel
theorem dMs_init_33 : decode cMs_init 33 = .ok (.aload 4, 2) := by decide +kernel
theorem dMs_init_35 : decode cMs_init 35 = .ok (.invokestatic 30, 3) := by decide +kernel
theorem dMs_init_38 : decode cMs_init 38 = .ok (.putfield 34, 3) := by decide +kernel
theorem dMs_init_41 : decode cMs_init 41 = .ok (.return_, 1) := by decide +kernel
theorem dMs_sentSign_0 : decode cMs_sentSign 0 = .ok (.iload_n 0, 1) := by decide +kernel
theorem dMs_sentSign_1 : decode cMs_sentSign 1 = .ok (.aload_n 1, 1) := by decide +kernel
theorem dMs_sentSign_2 : decode cMs_sentSign 2 = .ok (.invokevirtual 37, 3) := by decide +kernel
theorem dMs_sentSign_5 : decode cMs_sentSign 5 = .ok (.isub, 1) := by decide +kernel
theorem dMs_sentSign_6 : decode cMs_sentSign 6 = .ok (.istore 4, 2) := by decide +kernel
theorem dMs_sentSign_8 : decode cMs_sentSign 8 = .ok (.iload 4, 2) := by decide +kernel
theorem dMs_sentSign_10 : decode cMs_sentSign 10 = .ok (.ifCond .ge 10, 3) := by decide +kernel
theorem dMs_sentSign_13 : decode cMs_sentSign 13 = .ok (.aload_n 1, 1) := by decide +kernel
theorem dMs_sentSign_14 : decode cMs_sentSign 14 = .ok (.iload_n 0, 1) := by decide +kernel
theorem dMs_sentSign_15 : decode cMs_sentSign 15 = .ok (.iload_n 2, 1) := by decide +kernel
theorem dMs_sentSign_16 : decode cMs_sentSign 16 = .ok (.invokevirtual 58, 3) := by decide +kernel
theorem dMs_sentSign_19 : decode cMs_sentSign 19 = .ok (.ireturn, 1) := by decide +kernel
theorem dMs_sentSign_20 : decode cMs_sentSign 20 = .ok (.iload 4, 2) := by decide +kernel
theorem dMs_sentSign_22 : decode cMs_sentSign 22 = .ok (.aload_n 3, 1) := by decide +kernel
theorem dMs_sentSign_23 : decode cMs_sentSign 23 = .ok (.arraylength, 1) := by decide +kernel
theorem dMs_sentSign_24 : decode cMs_sentSign 24 = .ok (.if_icmp .ge 10, 3) := by decide +kernel
theorem dMs_sentSign_27 : decode cMs_sentSign 27 = .ok (.aload_n 3, 1) := by decide +kernel
theorem dMs_sentSign_28 : decode cMs_sentSign 28 = .ok (.iload 4, 2) := by decide +kernel
theorem dMs_sentSign_30 : decode cMs_sentSign 30 = .ok (.iaload, 1) := by decide +kernel
theorem dMs_sentSign_31 : decode cMs_sentSign 31 = .ok (.goto 7, 3) := by decide +kernel
theorem dMs_sentSign_34 : decode cMs_sentSign 34 = .ok (.aload_n 1, 1) := by decide +kernel
theorem dMs_sentSign_35 : decode cMs_sentSign 35 = .ok (.getfield 62, 3) := by decide +kernel
theorem dMs_sentSign_38 : decode cMs_sentSign 38 = .ok (.ireturn, 1) := by decide +kernel
theorem dMs_wordsOf_0 : decode cMs_wordsOf 0 = .ok (.aload_n 0, 1) := by decide +kernel
theorem dMs_wordsOf_1 : decode cMs_wordsOf 1 = .ok (.invokevirtual 37, 3) := by decide +kernel
theorem dMs_wordsOf_4 : decode cMs_wordsOf 4 = .ok (.aload_n 2, 1) := by decide +kernel
theorem dMs_wordsOf_5 : decode cMs_wordsOf 5 = .ok (.arraylength, 1) := by decide +kernel
theorem dMs_wordsOf_6 : decode cMs_wordsOf 6 = .ok (.iadd, 1) := by decide +kernel
theorem dMs_wordsOf_7 : decode cMs_wordsOf 7 = .ok (.aload_n 0, 1) := by decide +kernel
theorem dMs_wordsOf_8 : decode cMs_wordsOf 8 = .ok (.getfield 43, 3) := by decide +kernel
theorem dMs_wordsOf_11 : decode cMs_wordsOf 11 = .ok (.imul, 1) := by decide +kernel
theorem dMs_wordsOf_12 : decode cMs_wordsOf 12 = .ok (.istore_n 3, 1) := by decide +kernel
theorem dMs_wordsOf_13 : decode cMs_wordsOf 13 = .ok (.iconst 1, 1) := by decide +kernel
theorem dMs_wordsOf_14 : decode cMs_wordsOf 14 = .ok (.iload_n 3, 1) := by decide +kernel
theorem dMs_wordsOf_15 : decode cMs_wordsOf 15 = .ok (.bipush 20, 2) := by decide +kernel
theorem dMs_wordsOf_17 : decode cMs_wordsOf 17 = .ok (.iadd, 1) := by decide +kernel
theorem dMs_wordsOf_18 : decode cMs_wordsOf 18 = .ok (.iconst 1, 1) := by decide +kernel
theorem dMs_wordsOf_19 : decode cMs_wordsOf 19 = .ok (.isub, 1) := by decide +kernel
theorem dMs_wordsOf_20 : decode cMs_wordsOf 20 = .ok (.bipush 20, 2) := by decide +kernel
theorem dMs_wordsOf_22 : decode cMs_wordsOf 22 = .ok (.idiv, 1) := by decide +kernel
theorem dMs_wordsOf_23 : decode cMs_wordsOf 23 = .ok (.iadd, 1) := by decide +kernel
theorem dMs_wordsOf_24 : decode cMs_wordsOf 24 = .ok (.newarray .int, 2) := by decide +kernel
theorem dMs_wordsOf_26 : decode cMs_wordsOf 26 = .ok (.astore 4, 2) := by decide +kernel
theorem dMs_wordsOf_28 : decode cMs_wordsOf 28 = .ok (.aload 4, 2) := by decide +kernel
theorem dMs_wordsOf_30 : decode cMs_wordsOf 30 = .ok (.iconst 0, 1) := by decide +kernel
theorem dMs_wordsOf_31 : decode cMs_wordsOf 31 = .ok (.aload_n 0, 1) := by decide +kernel
theorem dMs_wordsOf_32 : decode cMs_wordsOf 32 = .ok (.getfield 46, 3) := by decide +kernel
theorem dMs_wordsOf_35 : decode cMs_wordsOf 35 = .ok (.iastore, 1) := by decide +kernel
theorem dMs_wordsOf_36 : decode cMs_wordsOf 36 = .ok (.iconst 0, 1) := by decide +kernel
theorem dMs_wordsOf_37 : decode cMs_wordsOf 37 = .ok (.istore 5, 2) := by decide +kernel
theorem dMs_wordsOf_39 : decode cMs_wordsOf 39 = .ok (.iconst 0, 1) := by decide +kernel
theorem dMs_wordsOf_40 : decode cMs_wordsOf 40 = .ok (.istore 6, 2) := by decide +kernel
theorem dMs_wordsOf_42 : decode cMs_wordsOf 42 = .ok (.iconst 1, 1) := by decide +kernel
theorem dMs_wordsOf_43 : decode cMs_wordsOf 43 = .ok (.istore 7, 2) := by decide +kernel
theorem dMs_wordsOf_45 : decode cMs_wordsOf 45 = .ok (.iload 7, 2) := by decide +kernel
theorem dMs_wordsOf_47 : decode cMs_wordsOf 47 = .ok (.aload 4, 2) := by decide +kernel
theorem dMs_wordsOf_49 : decode cMs_wordsOf 49 = .ok (.arraylength, 1) := by decide +kernel
theorem dMs_wordsOf_50 : decode cMs_wordsOf 50 = .ok (.if_icmp .ge 79, 3) := by decide +kernel
theorem dMs_wordsOf_53 : decode cMs_wordsOf 53 = .ok (.iconst 0, 1) := by decide +kernel
theorem dMs_wordsOf_54 : decode cMs_wordsOf 54 = .ok (.istore 8, 2) := by decide +kernel
theorem dMs_wordsOf_56 : decode cMs_wordsOf 56 = .ok (.iconst 0, 1) := by decide +kernel
theorem dMs_wordsOf_57 : decode cMs_wordsOf 57 = .ok (.istore 9, 2) := by decide +kernel
theorem dMs_wordsOf_59 : decode cMs_wordsOf 59 = .ok (.iload 9, 2) := by decide +kernel
theorem dMs_wordsOf_61 : decode cMs_wordsOf 61 = .ok (.bipush 20, 2) := by decide +kernel
theorem dMs_wordsOf_63 : decode cMs_wordsOf 63 = .ok (.if_icmp .ge 47, 3) := by decide +kernel
theorem dMs_wordsOf_66 : decode cMs_wordsOf 66 = .ok (.iload 8, 2) := by decide +kernel
theorem dMs_wordsOf_68 : decode cMs_wordsOf 68 = .ok (.iconst 1, 1) := by decide +kernel
theorem dMs_wordsOf_69 : decode cMs_wordsOf 69 = .ok (.ishl, 1) := by decide +kernel
theorem dMs_wordsOf_70 : decode cMs_wordsOf 70 = .ok (.iload 5, 2) := by decide +kernel
theorem dMs_wordsOf_72 : decode cMs_wordsOf 72 = .ok (.aload_n 0, 1) := by decide +kernel
theorem dMs_wordsOf_73 : decode cMs_wordsOf 73 = .ok (.iload_n 1, 1) := by decide +kernel
theorem dMs_wordsOf_74 : decode cMs_wordsOf 74 = .ok (.aload_n 2, 1) := by decide +kernel
theorem dMs_wordsOf_75 : decode cMs_wordsOf 75 = .ok (.invokestatic 49, 3) := by decide +kernel
theorem dMs_wordsOf_78 : decode cMs_wordsOf 78 = .ok (.iload 6, 2) := by decide +kernel
theorem dMs_wordsOf_80 : decode cMs_wordsOf 80 = .ok (.iushr, 1) := by decide +kernel
theorem dMs_wordsOf_81 : decode cMs_wordsOf 81 = .ok (.iconst 1, 1) := by decide +kernel
theorem dMs_wordsOf_82 : decode cMs_wordsOf 82 = .ok (.iand, 1) := by decide +kernel
theorem dMs_wordsOf_83 : decode cMs_wordsOf 83 = .ok (.ior, 1) := by decide +kernel
theorem dMs_wordsOf_84 : decode cMs_wordsOf 84 = .ok (.istore 8, 2) := by decide +kernel
theorem dMs_wordsOf_86 : decode cMs_wordsOf 86 = .ok (.iinc 6 1, 3) := by decide +kernel
theorem dMs_wordsOf_89 : decode cMs_wordsOf 89 = .ok (.iload 6, 2) := by decide +kernel
theorem dMs_wordsOf_91 : decode cMs_wordsOf 91 = .ok (.aload_n 0, 1) := by decide +kernel
theorem dMs_wordsOf_92 : decode cMs_wordsOf 92 = .ok (.getfield 43, 3) := by decide +kernel
theorem dMs_wordsOf_95 : decode cMs_wordsOf 95 = .ok (.if_icmp .ne 9, 3) := by decide +kernel
theorem dMs_wordsOf_98 : decode cMs_wordsOf 98 = .ok (.iconst 0, 1) := by decide +kernel
theorem dMs_wordsOf_99 : decode cMs_wordsOf 99 = .ok (.istore 6, 2) := by decide +kernel
theorem dMs_wordsOf_101 : decode cMs_wordsOf 101 = .ok (.iinc 5 1, 3) := by decide +kernel
theorem dMs_wordsOf_104 : decode cMs_wordsOf 104 = .ok (.iinc 9 1, 3) := by decide +kernel
theorem dMs_wordsOf_107 : decode cMs_wordsOf 107 = .ok (.goto (-48), 3) := by decide +kernel
theorem dMs_wordsOf_110 : decode cMs_wordsOf 110 = .ok (.aload 4, 2) := by decide +kernel
theorem dMs_wordsOf_112 : decode cMs_wordsOf 112 = .ok (.iload 7, 2) := by decide +kernel
theorem dMs_wordsOf_114 : decode cMs_wordsOf 114 = .ok (.ldc 53, 2) := by decide +kernel
theorem dMs_wordsOf_116 : decode cMs_wordsOf 116 = .ok (.iload 8, 2) := by decide +kernel
theorem dMs_wordsOf_118 : decode cMs_wordsOf 118 = .ok (.ior, 1) := by decide +kernel
theorem dMs_wordsOf_119 : decode cMs_wordsOf 119 = .ok (.invokestatic 54, 3) := by decide +kernel
theorem dMs_wordsOf_122 : decode cMs_wordsOf 122 = .ok (.iastore, 1) := by decide +kernel
theorem dMs_wordsOf_123 : decode cMs_wordsOf 123 = .ok (.iinc 7 1, 3) := by decide +kernel
theorem dMs_wordsOf_126 : decode cMs_wordsOf 126 = .ok (.goto (-81), 3) := by decide +kernel
theorem dMs_wordsOf_129 : decode cMs_wordsOf 129 = .ok (.aload 4, 2) := by decide +kernel
theorem dMs_wordsOf_131 : decode cMs_wordsOf 131 = .ok (.areturn, 1) := by decide +kernel
theorem dPg_init_0 : decode cPg_init 0 = .ok (.aload_n 0, 1) := by decide +kernel
theorem dPg_init_1 : decode cPg_init 1 = .ok (.invokespecial 1, 3) := by decide +kernel
theorem dPg_init_4 : decode cPg_init 4 = .ok (.aload_n 0, 1) := by decide +kernel
theorem dPg_init_5 : decode cPg_init 5 = .ok (.iconst 4, 1) := by decide +kernel
theorem dPg_init_6 : decode cPg_init 6 = .ok (.anewarray 9, 3) := by decide +kernel
theorem dPg_init_9 : decode cPg_init 9 = .ok (.putfield 11, 3) := by decide +kernel
theorem dPg_init_12 : decode cPg_init 12 = .ok (.aload_n 0, 1) := by decide +kernel
theorem dPg_init_13 : decode cPg_init 13 = .ok (.iconst 0, 1) := by decide +kernel
theorem dPg_init_14 : decode cPg_init 14 = .ok (.putfield 15, 3) := by decide +kernel
theorem dPg_init_17 : decode cPg_init 17 = .ok (.aload_n 0, 1) := by decide +kernel
theorem dPg_init_18 : decode cPg_init 18 = .ok (.bipush 10, 2) := by decide +kernel
theorem dPg_init_20 : decode cPg_init 20 = .ok (.anewarray 19, 3) := by decide +kernel
theorem dPg_init_23 : decode cPg_init 23 = .ok (.putfield 21, 3) := by decide +kernel
theorem dPg_init_26 : decode cPg_init 26 = .ok (.aload_n 0, 1) := by decide +kernel
theorem dPg_init_27 : decode cPg_init 27 = .ok (.iconst 0, 1) := by decide +kernel
theorem dPg_init_28 : decode cPg_init 28 = .ok (.putfield 25, 3) := by decide +kernel
theorem dPg_init_31 : decode cPg_init 31 = .ok (.aload_n 0, 1) := by decide +kernel
theorem dPg_init_32 : decode cPg_init 32 = .ok (.iconst 0, 1) := by decide +kernel
theorem dPg_init_33 : decode cPg_init 33 = .ok (.putfield 28, 3) := by decide +kernel
theorem dPg_init_36 : decode cPg_init 36 = .ok (.aload_n 0, 1) := by decide +kernel
theorem dPg_init_37 : decode cPg_init 37 = .ok (.iconst 0, 1) := by decide +kernel
theorem dPg_init_38 : decode cPg_init 38 = .ok (.putfield 31, 3) := by decide +kernel
theorem dPg_init_41 : decode cPg_init 41 = .ok (.aload_n 0, 1) := by decide +kernel
theorem dPg_init_42 : decode cPg_init 42 = .ok (.iconst 0, 1) := by decide +kernel
theorem dPg_init_43 : decode cPg_init 43 = .ok (.putfield 34, 3) := by decide +kernel
theorem dPg_init_46 : decode cPg_init 46 = .ok (.aload_n 0, 1) := by decide +kernel
theorem dPg_init_47 : decode cPg_init 47 = .ok (.iconst 0, 1) := by decide +kernel
theorem dPg_init_48 : decode cPg_init 48 = .ok (.putfield 37, 3) := by decide +kernel
theorem dPg_init_51 : decode cPg_init 51 = .ok (.aload_n 0, 1) := by decide +kernel
theorem dPg_init_52 : decode cPg_init 52 = .ok (.iconst 0, 1) := by decide +kernel
theorem dPg_init_53 : decode cPg_init 53 = .ok (.putfield 40, 3) := by decide +kernel
theorem dPg_init_56 : decode cPg_init 56 = .ok (.iconst 0, 1) := by decide +kernel
theorem dPg_init_57 : decode cPg_init 57 = .ok (.istore_n 1, 1) := by decide +kernel
theorem dPg_init_58 : decode cPg_init 58 = .ok (.iload_n 1, 1) := by decide +kernel
theorem dPg_init_59 : decode cPg_init 59 = .ok (.bipush 10, 2) := by decide +kernel
theorem dPg_init_61 : decode cPg_init 61 = .ok (.if_icmp .ge 22, 3) := by decide +kernel
theorem dPg_init_64 : decode cPg_init 64 = .ok (.aload_n 0, 1) := by decide +kernel
theorem dPg_init_65 : decode cPg_init 65 = .ok (.getfield 21, 3) := by decide +kernel
theorem dPg_init_68 : decode cPg_init 68 = .ok (.iload_n 1, 1) := by decide +kernel
theorem dPg_init_69 : decode cPg_init 69 = .ok (.new 19, 3) := by decide +kernel
theorem dPg_init_72 : decode cPg_init 72 = .ok (.dup, 1) := by decide +kernel
theorem dPg_init_73 : decode cPg_init 73 = .ok (.invokespecial 43, 3) := by decide +kernel
theorem dPg_init_76 : decode cPg_init 76 = .ok (.aastore, 1) := by decide +kernel
theorem dPg_init_77 : decode cPg_init 77 = .ok (.iinc 1 1, 3) := by decide +kernel
theorem dPg_init_80 : decode cPg_init 80 = .ok (.goto (-22), 3) := by decide +kernel
theorem dPg_init_83 : decode cPg_init 83 = .ok (.return_, 1) := by decide +kernel
theorem dPg_addHeard_0 : decode cPg_addHeard 0 = .ok (.aload_n 0, 1) := by decide +kernel
theorem dPg_addHeard_1 : decode cPg_addHeard 1 = .ok (.getfield 15, 3) := by decide +kernel
theorem dPg_addHeard_4 : decode cPg_addHeard 4 = .ok (.iconst 4, 1) := by decide +kernel
theorem dPg_addHeard_5 : decode cPg_addHeard 5 = .ok (.if_icmp .ge 14, 3) := by decide +kernel
theorem dPg_addHeard_8 : decode cPg_addHeard 8 = .ok (.aload_n 0, 1) := by decide +kernel
theorem dPg_addHeard_9 : decode cPg_addHeard 9 = .ok (.aload_n 1, 1) := by decide +kernel
theorem dPg_addHeard_10 : decode cPg_addHeard 10 = .ok (.getfield 44, 3) := by decide +kernel
theorem dPg_addHeard_13 : decode cPg_addHeard 13 = .ok (.invokevirtual 49, 3) := by decide +kernel
theorem dPg_addHeard_16 : decode cPg_addHeard 16 = .ok (.ifnull 5, 3) := by decide +kernel
theorem dPg_addHeard_19 : decode cPg_addHeard 19 = .ok (.iconst 0, 1) := by decide +kernel
theorem dPg_addHeard_20 : decode cPg_addHeard 20 = .ok (.ireturn, 1) := by decide +kernel
theorem dPg_addHeard_21 : decode cPg_addHeard 21 = .ok (.aload_n 0, 1) := by decide +kernel
theorem dPg_addHeard_22 : decode cPg_addHeard 22 = .ok (.getfield 11, 3) := by decide +kernel
theorem dPg_addHeard_25 : decode cPg_addHeard 25 = .ok (.aload_n 0, 1) := by decide +kernel
theorem dPg_addHeard_26 : decode cPg_addHeard 26 = .ok (.getfield 15, 3) := by decide +kernel
theorem dPg_addHeard_29 : decode cPg_addHeard 29 = .ok (.new 9, 3) := by decide +kernel
theorem dPg_addHeard_32 : decode cPg_addHeard 32 = .ok (.dup, 1) := by decide +kernel
theorem dPg_addHeard_33 : decode cPg_addHeard 33 = .ok (.aload_n 1, 1) := by decide +kernel
theorem dPg_addHeard_34 : decode cPg_addHeard 34 = .ok (.invokespecial 53, 3) := by decide +kernel
theorem dPg_addHeard_37 : decode cPg_addHeard 37 = .ok (.aastore, 1) := by decide +kernel
theorem dPg_addHeard_38 : decode cPg_addHeard 38 = .ok (.aload_n 0, 1) := by decide +kernel
theorem dPg_addHeard_39 : decode cPg_addHeard 39 = .ok (.dup, 1) := by decide +kernel
theorem dPg_addHeard_40 : decode cPg_addHeard 40 = .ok (.getfield 15, 3) := by decide +kernel
theorem dPg_addHeard_43 : decode cPg_addHeard 43 = .ok (.iconst 1, 1) := by decide +kernel
theorem dPg_addHeard_44 : decode cPg_addHeard 44 = .ok (.iadd, 1) := by decide +kernel
theorem dPg_addHeard_45 : decode cPg_addHeard 45 = .ok (.putfield 15, 3) := by decide +kernel
theorem dPg_addHeard_48 : decode cPg_addHeard 48 = .ok (.iconst 1, 1) := by decide +kernel
theorem dPg_addHeard_49 : decode cPg_addHeard 49 = .ok (.ireturn, 1) := by decide +kernel
theorem dPg_calledBy_0 : decode cPg_calledBy 0 = .ok (.iconst 0, 1) := by decide +kernel
theorem dPg_calledBy_1 : decode cPg_calledBy 1 = .ok (.istore_n 3, 1) := by decide +kernel
