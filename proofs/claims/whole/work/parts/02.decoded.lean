theorem dMo_finish_231 : decode cMo_finish 231 = .ok (.iadd, 1) := by decide +kernel
theorem dMo_finish_232 : decode cMo_finish 232 = .ok (.putfield 195, 3) := by decide +kernel
theorem dMo_finish_235 : decode cMo_finish 235 = .ok (.aload_n 0, 1) := by decide +kernel
theorem dMo_finish_236 : decode cMo_finish 236 = .ok (.iconst (-1), 1) := by decide +kernel
theorem dMo_finish_237 : decode cMo_finish 237 = .ok (.putfield 84, 3) := by decide +kernel
theorem dMo_finish_240 : decode cMo_finish 240 = .ok (.return_, 1) := by decide +kernel
theorem dMo_fits_0 : decode cMo_fits 0 = .ok (.iload_n 2, 1) := by decide +kernel
theorem dMo_fits_1 : decode cMo_fits 1 = .ok (.bipush 16, 2) := by decide +kernel
theorem dMo_fits_3 : decode cMo_fits 3 = .ok (.irem, 1) := by decide +kernel
theorem dMo_fits_4 : decode cMo_fits 4 = .ok (.iconst 2, 1) := by decide +kernel
theorem dMo_fits_5 : decode cMo_fits 5 = .ok (.idiv, 1) := by decide +kernel
theorem dMo_fits_6 : decode cMo_fits 6 = .ok (.aload_n 0, 1) := by decide +kernel
theorem dMo_fits_7 : decode cMo_fits 7 = .ok (.getfield 7, 3) := by decide +kernel
theorem dMo_fits_10 : decode cMo_fits 10 = .ok (.aload_n 0, 1) := by decide +kernel
theorem dMo_fits_11 : decode cMo_fits 11 = .ok (.getfield 19, 3) := by decide +kernel
theorem dMo_fits_14 : decode cMo_fits 14 = .ok (.iload_n 1, 1) := by decide +kernel
theorem dMo_fits_15 : decode cMo_fits 15 = .ok (.iaload, 1) := by decide +kernel
theorem dMo_fits_16 : decode cMo_fits 16 = .ok (.iaload, 1) := by decide +kernel
theorem dMo_fits_17 : decode cMo_fits 17 = .ok (.bipush 8, 2) := by decide +kernel
theorem dMo_fits_19 : decode cMo_fits 19 = .ok (.irem, 1) := by decide +kernel
theorem dMo_fits_20 : decode cMo_fits 20 = .ok (.if_icmp .ne 18, 3) := by decide +kernel
theorem dMo_fits_23 : decode cMo_fits 23 = .ok (.iload_n 2, 1) := by decide +kernel
theorem dMo_fits_24 : decode cMo_fits 24 = .ok (.aload_n 0, 1) := by decide +kernel
theorem dMo_fits_25 : decode cMo_fits 25 = .ok (.iload_n 1, 1) := by decide +kernel
theorem dMo_fits_26 : decode cMo_fits 26 = .ok (.invokevirtual 141, 3) := by decide +kernel
theorem dMo_fits_29 : decode cMo_fits 29 = .ok (.iadd, 1) := by decide +kernel
theorem dMo_fits_30 : decode cMo_fits 30 = .ok (.iload_n 3, 1) := by decide +kernel
theorem dMo_fits_31 : decode cMo_fits 31 = .ok (.if_icmp .gt 7, 3) := by decide +kernel
theorem dMo_fits_34 : decode cMo_fits 34 = .ok (.iconst 1, 1) := by decide +kernel
theorem dMo_fits_35 : decode cMo_fits 35 = .ok (.goto 4, 3) := by decide +kernel
theorem dMo_fits_38 : decode cMo_fits 38 = .ok (.iconst 0, 1) := by decide +kernel
theorem dMo_fits_39 : decode cMo_fits 39 = .ok (.istore 4, 2) := by decide +kernel
theorem dMo_fits_41 : decode cMo_fits 41 = .ok (.iload_n 2, 1) := by decide +kernel
theorem dMo_fits_42 : decode cMo_fits 42 = .ok (.istore 5, 2) := by decide +kernel
theorem dMo_fits_44 : decode cMo_fits 44 = .ok (.iload 5, 2) := by decide +kernel
theorem dMo_fits_46 : decode cMo_fits 46 = .ok (.iload_n 2, 1) := by decide +kernel
theorem dMo_fits_47 : decode cMo_fits 47 = .ok (.aload_n 0, 1) := by decide +kernel
theorem dMo_fits_48 : decode cMo_fits 48 = .ok (.iload_n 1, 1) := by decide +kernel
theorem dMo_fits_49 : decode cMo_fits 49 = .ok (.invokevirtual 141, 3) := by decide +kernel
theorem dMo_fits_52 : decode cMo_fits 52 = .ok (.iadd, 1) := by decide +kernel
theorem dMo_fits_53 : decode cMo_fits 53 = .ok (.if_icmp .ge 31, 3) := by decide +kernel
theorem dMo_fits_56 : decode cMo_fits 56 = .ok (.iload 4, 2) := by decide +kernel
theorem dMo_fits_58 : decode cMo_fits 58 = .ok (.ifCond .eq 26, 3) := by decide +kernel
theorem dMo_fits_61 : decode cMo_fits 61 = .ok (.aload_n 0, 1) := by decide +kernel
theorem dMo_fits_62 : decode cMo_fits 62 = .ok (.getfield 44, 3) := by decide +kernel
theorem dMo_fits_65 : decode cMo_fits 65 = .ok (.iload 5, 2) := by decide +kernel
theorem dMo_fits_67 : decode cMo_fits 67 = .ok (.baload, 1) := by decide +kernel
theorem dMo_fits_68 : decode cMo_fits 68 = .ok (.ifCond .ne 7, 3) := by decide +kernel
theorem dMo_fits_71 : decode cMo_fits 71 = .ok (.iconst 1, 1) := by decide +kernel
theorem dMo_fits_72 : decode cMo_fits 72 = .ok (.goto 4, 3) := by decide +kernel
theorem dMo_fits_75 : decode cMo_fits 75 = .ok (.iconst 0, 1) := by decide +kernel
theorem dMo_fits_76 : decode cMo_fits 76 = .ok (.istore 4, 2) := by decide +kernel
theorem dMo_fits_78 : decode cMo_fits 78 = .ok (.iinc 5 1, 3) := by decide +kernel
theorem dMo_fits_81 : decode cMo_fits 81 = .ok (.goto (-37), 3) := by decide +kernel
theorem dMo_fits_84 : decode cMo_fits 84 = .ok (.iload 4, 2) := by decide +kernel
theorem dMo_fits_86 : decode cMo_fits 86 = .ok (.ireturn, 1) := by decide +kernel
theorem dMo_flip_0 : decode cMo_flip 0 = .ok (.iload_n 1, 1) := by decide +kernel
theorem dMo_flip_1 : decode cMo_flip 1 = .ok (.ifCond .lt 11, 3) := by decide +kernel
theorem dMo_flip_4 : decode cMo_flip 4 = .ok (.iload_n 1, 1) := by decide +kernel
theorem dMo_flip_5 : decode cMo_flip 5 = .ok (.aload_n 0, 1) := by decide +kernel
theorem dMo_flip_6 : decode cMo_flip 6 = .ok (.getfield 155, 3) := by decide +kernel
theorem dMo_flip_9 : decode cMo_flip 9 = .ok (.if_icmp .lt 5, 3) := by decide +kernel
theorem dMo_flip_12 : decode cMo_flip 12 = .ok (.iconst (-1), 1) := by decide +kernel
theorem dMo_flip_13 : decode cMo_flip 13 = .ok (.ireturn, 1) := by decide +kernel
theorem dMo_flip_14 : decode cMo_flip 14 = .ok (.aload_n 0, 1) := by decide +kernel
theorem dMo_flip_15 : decode cMo_flip 15 = .ok (.getfield 47, 3) := by decide +kernel
theorem dMo_flip_18 : decode cMo_flip 18 = .ok (.iload_n 1, 1) := by decide +kernel
theorem dMo_flip_19 : decode cMo_flip 19 = .ok (.iconst 1, 1) := by decide +kernel
theorem dMo_flip_20 : decode cMo_flip 20 = .ok (.aload_n 0, 1) := by decide +kernel
theorem dMo_flip_21 : decode cMo_flip 21 = .ok (.getfield 47, 3) := by decide +kernel
theorem dMo_flip_24 : decode cMo_flip 24 = .ok (.iload_n 1, 1) := by decide +kernel
theorem dMo_flip_25 : decode cMo_flip 25 = .ok (.iaload, 1) := by decide +kernel
theorem dMo_flip_26 : decode cMo_flip 26 = .ok (.isub, 1) := by decide +kernel
theorem dMo_flip_27 : decode cMo_flip 27 = .ok (.iastore, 1) := by decide +kernel
theorem dMo_flip_28 : decode cMo_flip 28 = .ok (.aload_n 0, 1) := by decide +kernel
theorem dMo_flip_29 : decode cMo_flip 29 = .ok (.getfield 47, 3) := by decide +kernel
theorem dMo_flip_32 : decode cMo_flip 32 = .ok (.iload_n 1, 1) := by decide +kernel
theorem dMo_flip_33 : decode cMo_flip 33 = .ok (.iaload, 1) := by decide +kernel
theorem dMo_flip_34 : decode cMo_flip 34 = .ok (.ireturn, 1) := by decide +kernel
theorem dMo_gotSign_0 : decode cMo_gotSign 0 = .ok (.aload_n 0, 1) := by decide +kernel
theorem dMo_gotSign_1 : decode cMo_gotSign 1 = .ok (.getfield 13, 3) := by decide +kernel
theorem dMo_gotSign_4 : decode cMo_gotSign 4 = .ok (.aload_n 0, 1) := by decide +kernel
theorem dMo_gotSign_5 : decode cMo_gotSign 5 = .ok (.getfield 84, 3) := by decide +kernel
theorem dMo_gotSign_8 : decode cMo_gotSign 8 = .ok (.iaload, 1) := by decide +kernel
theorem dMo_gotSign_9 : decode cMo_gotSign 9 = .ok (.ifCond .ne 7, 3) := by decide +kernel
theorem dMo_gotSign_12 : decode cMo_gotSign 12 = .ok (.iconst 4, 1) := by decide +kernel
theorem dMo_gotSign_13 : decode cMo_gotSign 13 = .ok (.goto 5, 3) := by decide +kernel
theorem dMo_gotSign_16 : decode cMo_gotSign 16 = .ok (.bipush 7, 2) := by decide +kernel
theorem dMo_gotSign_18 : decode cMo_gotSign 18 = .ok (.istore_n 2, 1) := by decide +kernel
theorem dMo_gotSign_19 : decode cMo_gotSign 19 = .ok (.iconst 0, 1) := by decide +kernel
theorem dMo_gotSign_20 : decode cMo_gotSign 20 = .ok (.istore_n 3, 1) := by decide +kernel
theorem dMo_gotSign_21 : decode cMo_gotSign 21 = .ok (.iload_n 2, 1) := by decide +kernel
theorem dMo_gotSign_22 : decode cMo_gotSign 22 = .ok (.iconst 1, 1) := by decide +kernel
theorem dMo_gotSign_23 : decode cMo_gotSign 23 = .ok (.isub, 1) := by decide +kernel
theorem dMo_gotSign_24 : decode cMo_gotSign 24 = .ok (.istore 4, 2) := by decide +kernel
theorem dMo_gotSign_26 : decode cMo_gotSign 26 = .ok (.iload 4, 2) := by decide +kernel
theorem dMo_gotSign_28 : decode cMo_gotSign 28 = .ok (.ifCond .lt 25, 3) := by decide +kernel
theorem dMo_gotSign_31 : decode cMo_gotSign 31 = .ok (.iconst 2, 1) := by decide +kernel
theorem dMo_gotSign_32 : decode cMo_gotSign 32 = .ok (.iload_n 3, 1) := by decide +kernel
theorem dMo_gotSign_33 : decode cMo_gotSign 33 = .ok (.imul, 1) := by decide +kernel
theorem dMo_gotSign_34 : decode cMo_gotSign 34 = .ok (.aload_n 0, 1) := by decide +kernel
theorem dMo_gotSign_35 : decode cMo_gotSign 35 = .ok (.getfield 88, 3) := by decide +kernel
theorem dMo_gotSign_38 : decode cMo_gotSign 38 = .ok (.iload_n 2, 1) := by decide +kernel
theorem dMo_gotSign_39 : decode cMo_gotSign 39 = .ok (.iload_n 1, 1) := by decide +kernel
theorem dMo_gotSign_40 : decode cMo_gotSign 40 = .ok (.imul, 1) := by decide +kernel
theorem dMo_gotSign_41 : decode cMo_gotSign 41 = .ok (.iload 4, 2) := by decide +kernel
theorem dMo_gotSign_43 : decode cMo_gotSign 43 = .ok (.iadd, 1) := by decide +kernel
theorem dMo_gotSign_44 : decode cMo_gotSign 44 = .ok (.iaload, 1) := by decide +kernel
theorem dMo_gotSign_45 : decode cMo_gotSign 45 = .ok (.iadd, 1) := by decide +kernel
theorem dMo_gotSign_46 : decode cMo_gotSign 46 = .ok (.istore_n 3, 1) := by decide +kernel
theorem dMo_gotSign_47 : decode cMo_gotSign 47 = .ok (.iinc 4 (-1), 3) := by decide +kernel
theorem dMo_gotSign_50 : decode cMo_gotSign 50 = .ok (.goto (-24), 3) := by decide +kernel
theorem dMo_gotSign_53 : decode cMo_gotSign 53 = .ok (.iload_n 3, 1) := by decide +kernel
theorem dMo_gotSign_54 : decode cMo_gotSign 54 = .ok (.ireturn, 1) := by decide +kernel
theorem dMo_hear_0 : decode cMo_hear 0 = .ok (.aload_n 0, 1) := by decide +kernel
theorem dMo_hear_1 : decode cMo_hear 1 = .ok (.iload_n 1, 1) := by decide +kernel
theorem dMo_hear_2 : decode cMo_hear 2 = .ok (.invokevirtual 110, 3) := by decide +kernel
theorem dMo_hear_5 : decode cMo_hear 5 = .ok (.ifCond .eq 15, 3) := by decide +kernel
theorem dMo_hear_8 : decode cMo_hear 8 = .ok (.iload_n 2, 1) := by decide +kernel
theorem dMo_hear_9 : decode cMo_hear 9 = .ok (.ifCond .lt 11, 3) := by decide +kernel
theorem dMo_hear_12 : decode cMo_hear 12 = .ok (.iload_n 2, 1) := by decide +kernel
theorem dMo_hear_13 : decode cMo_hear 13 = .ok (.aload_n 0, 1) := by decide +kernel
theorem dMo_hear_14 : decode cMo_hear 14 = .ok (.getfield 155, 3) := by decide +kernel
theorem dMo_hear_17 : decode cMo_hear 17 = .ok (.if_icmp .lt 5, 3) := by decide +kernel
theorem dMo_hear_20 : decode cMo_hear 20 = .ok (.iconst (-1), 1) := by decide +kernel
theorem dMo_hear_21 : decode cMo_hear 21 = .ok (.ireturn, 1) := by decide +kernel
theorem dMo_hear_22 : decode cMo_hear 22 = .ok (.aload_n 0, 1) := by decide +kernel
theorem dMo_hear_23 : decode cMo_hear 23 = .ok (.iload_n 1, 1) := by decide +kernel
theorem dMo_hear_24 : decode cMo_hear 24 = .ok (.putfield 178, 3) := by decide +kernel
theorem dMo_hear_27 : decode cMo_hear 27 = .ok (.aload_n 0, 1) := by decide +kernel
theorem dMo_hear_28 : decode cMo_hear 28 = .ok (.iconst (-1), 1) := by decide +kernel
theorem dMo_hear_29 : decode cMo_hear 29 = .ok (.putfield 84, 3) := by decide +kernel
theorem dMo_hear_32 : decode cMo_hear 32 = .ok (.aload_n 0, 1) := by decide +kernel
theorem dMo_hear_33 : decode cMo_hear 33 = .ok (.iconst 0, 1) := by decide +kernel
theorem dMo_hear_34 : decode cMo_hear 34 = .ok (.putfield 195, 3) := by decide +kernel
theorem dMo_hear_37 : decode cMo_hear 37 = .ok (.iload_n 2, 1) := by decide +kernel
theorem dMo_hear_38 : decode cMo_hear 38 = .ok (.istore_n 3, 1) := by decide +kernel
theorem dMo_hear_39 : decode cMo_hear 39 = .ok (.iload_n 2, 1) := by decide +kernel
theorem dMo_hear_40 : decode cMo_hear 40 = .ok (.istore 4, 2) := by decide +kernel
theorem dMo_hear_42 : decode cMo_hear 42 = .ok (.iload 4, 2) := by decide +kernel
theorem dMo_hear_44 : decode cMo_hear 44 = .ok (.aload_n 0, 1) := by decide +kernel
theorem dMo_hear_45 : decode cMo_hear 45 = .ok (.getfield 155, 3) := by decide +kernel
theorem dMo_hear_48 : decode cMo_hear 48 = .ok (.if_icmp .ge 56, 3) := by decide +kernel
theorem dMo_hear_51 : decode cMo_hear 51 = .ok (.iinc 4 1, 3) := by decide +kernel
theorem dMo_hear_54 : decode cMo_hear 54 = .ok (.aload_n 0, 1) := by decide +kernel
theorem dMo_hear_55 : decode cMo_hear 55 = .ok (.getfield 81, 3) := by decide +kernel
theorem dMo_hear_58 : decode cMo_hear 58 = .ok (.iconst 4, 1) := by decide +kernel
theorem dMo_hear_59 : decode cMo_hear 59 = .ok (.aload_n 0, 1) := by decide +kernel
theorem dMo_hear_60 : decode cMo_hear 60 = .ok (.getfield 178, 3) := by decide +kernel
theorem dMo_hear_63 : decode cMo_hear 63 = .ok (.imul, 1) := by decide +kernel
theorem dMo_hear_64 : decode cMo_hear 64 = .ok (.dup2, 1) := by decide +kernel
theorem dMo_hear_65 : decode cMo_hear 65 = .ok (.iaload, 1) := by decide +kernel
theorem dMo_hear_66 : decode cMo_hear 66 = .ok (.iconst 1, 1) := by decide +kernel
theorem dMo_hear_67 : decode cMo_hear 67 = .ok (.iadd, 1) := by decide +kernel
theorem dMo_hear_68 : decode cMo_hear 68 = .ok (.iastore, 1) := by decide +kernel
theorem dMo_hear_69 : decode cMo_hear 69 = .ok (.iload 4, 2) := by decide +kernel
theorem dMo_hear_71 : decode cMo_hear 71 = .ok (.iload_n 3, 1) := by decide +kernel
theorem dMo_hear_72 : decode cMo_hear 72 = .ok (.isub, 1) := by decide +kernel
theorem dMo_hear_73 : decode cMo_hear 73 = .ok (.bipush 32, 2) := by decide +kernel
theorem dMo_hear_75 : decode cMo_hear 75 = .ok (.if_icmp .lt (-33), 3) := by decide +kernel
theorem dMo_hear_78 : decode cMo_hear 78 = .ok (.aload_n 0, 1) := by decide +kernel
theorem dMo_hear_79 : decode cMo_hear 79 = .ok (.iload 4, 2) := by decide +kernel
theorem dMo_hear_81 : decode cMo_hear 81 = .ok (.bipush 32, 2) := by decide +kernel
theorem dMo_hear_83 : decode cMo_hear 83 = .ok (.isub, 1) := by decide +kernel
theorem dMo_hear_84 : decode cMo_hear 84 = .ok (.invokevirtual 218, 3) := by decide +kernel
theorem dMo_hear_87 : decode cMo_hear 87 = .ok (.ifCond .eq (-45), 3) := by decide +kernel
theorem dMo_hear_90 : decode cMo_hear 90 = .ok (.aload_n 0, 1) := by decide +kernel
theorem dMo_hear_91 : decode cMo_hear 91 = .ok (.iload 4, 2) := by decide +kernel
theorem dMo_hear_93 : decode cMo_hear 93 = .ok (.invokevirtual 221, 3) := by decide +kernel
theorem dMo_hear_96 : decode cMo_hear 96 = .ok (.istore 4, 2) := by decide +kernel
theorem dMo_hear_98 : decode cMo_hear 98 = .ok (.iload 4, 2) := by decide +kernel
theorem dMo_hear_100 : decode cMo_hear 100 = .ok (.istore_n 3, 1) := by decide +kernel
theorem dMo_hear_101 : decode cMo_hear 101 = .ok (.goto (-59), 3) := by decide +kernel
theorem dMo_hear_104 : decode cMo_hear 104 = .ok (.aload_n 0, 1) := by decide +kernel
theorem dMo_hear_105 : decode cMo_hear 105 = .ok (.iconst 0, 1) := by decide +kernel
theorem dMo_hear_106 : decode cMo_hear 106 = .ok (.invokevirtual 201, 3) := by decide +kernel
theorem dMo_hear_109 : decode cMo_hear 109 = .ok (.aload_n 0, 1) := by decide +kernel
theorem dMo_hear_110 : decode cMo_hear 110 = .ok (.getfield 195, 3) := by decide +kernel
theorem dMo_hear_113 : decode cMo_hear 113 = .ok (.ireturn, 1) := by decide +kernel
theorem dMo_identity_0 : decode cMo_identity 0 = .ok (.iload_n 1, 1) := by decide +kernel
theorem dMo_identity_1 : decode cMo_identity 1 = .ok (.ifCond .lt 36, 3) := by decide +kernel
theorem dMo_identity_4 : decode cMo_identity 4 = .ok (.iload_n 1, 1) := by decide +kernel
theorem dMo_identity_5 : decode cMo_identity 5 = .ok (.ldc 94, 2) := by decide +kernel
theorem dMo_identity_7 : decode cMo_identity 7 = .ok (.if_icmp .ge 30, 3) := by decide +kernel
theorem dMo_identity_10 : decode cMo_identity 10 = .ok (.iload_n 2, 1) := by decide +kernel
theorem dMo_identity_11 : decode cMo_identity 11 = .ok (.ifCond .lt 26, 3) := by decide +kernel
theorem dMo_identity_14 : decode cMo_identity 14 = .ok (.iload_n 2, 1) := by decide +kernel
theorem dMo_identity_15 : decode cMo_identity 15 = .ok (.iconst 1, 1) := by decide +kernel
theorem dMo_identity_16 : decode cMo_identity 16 = .ok (.if_icmp .gt 21, 3) := by decide +kernel
theorem dMo_identity_19 : decode cMo_identity 19 = .ok (.iload_n 1, 1) := by decide +kernel
theorem dMo_identity_20 : decode cMo_identity 20 = .ok (.bipush 8, 2) := by decide +kernel
theorem dMo_identity_22 : decode cMo_identity 22 = .ok (.idiv, 1) := by decide +kernel
theorem dMo_identity_23 : decode cMo_identity 23 = .ok (.ldc 103, 2) := by decide +kernel
theorem dMo_identity_25 : decode cMo_identity 25 = .ok (.if_icmp .eq 12, 3) := by decide +kernel
theorem dMo_identity_28 : decode cMo_identity 28 = .ok (.aload_n 0, 1) := by decide +kernel
theorem dMo_identity_29 : decode cMo_identity 29 = .ok (.getfield 104, 3) := by decide +kernel
theorem dMo_identity_32 : decode cMo_identity 32 = .ok (.bipush 12, 2) := by decide +kernel
theorem dMo_identity_34 : decode cMo_identity 34 = .ok (.if_icmp .ne 5, 3) := by decide +kernel
theorem dMo_identity_37 : decode cMo_identity 37 = .ok (.iconst (-1), 1) := by decide +kernel
theorem dMo_identity_38 : decode cMo_identity 38 = .ok (.ireturn, 1) := by decide +kernel
theorem dMo_identity_39 : decode cMo_identity 39 = .ok (.iconst 0, 1) := by decide +kernel
theorem dMo_identity_40 : decode cMo_identity 40 = .ok (.istore_n 3, 1) := by decide +kernel
theorem dMo_identity_41 : decode cMo_identity 41 = .ok (.iload_n 3, 1) := by decide +kernel
theorem dMo_identity_42 : decode cMo_identity 42 = .ok (.aload_n 0, 1) := by decide +kernel
theorem dMo_identity_43 : decode cMo_identity 43 = .ok (.getfield 104, 3) := by decide +kernel
theorem dMo_identity_46 : decode cMo_identity 46 = .ok (.if_icmp .ge 21, 3) := by decide +kernel
theorem dMo_identity_49 : decode cMo_identity 49 = .ok (.aload_n 0, 1) := by decide +kernel
theorem dMo_identity_50 : decode cMo_identity 50 = .ok (.getfield 7, 3) := by decide +kernel
theorem dMo_identity_53 : decode cMo_identity 53 = .ok (.iload_n 3, 1) := by decide +kernel
theorem dMo_identity_54 : decode cMo_identity 54 = .ok (.iaload, 1) := by decide +kernel
theorem dMo_identity_55 : decode cMo_identity 55 = .ok (.iload_n 1, 1) := by decide +kernel
theorem dMo_identity_56 : decode cMo_identity 56 = .ok (.if_icmp .ne 5, 3) := by decide +kernel
theorem dMo_identity_59 : decode cMo_identity 59 = .ok (.iconst (-1), 1) := by decide +kernel
theorem dMo_identity_60 : decode cMo_identity 60 = .ok (.ireturn, 1) := by decide +kernel
theorem dMo_identity_61 : decode cMo_identity 61 = .ok (.iinc 3 1, 3) := by decide +kernel
theorem dMo_identity_64 : decode cMo_identity 64 = .ok (.goto (-23), 3) := by decide +kernel
theorem dMo_identity_67 : decode cMo_identity 67 = .ok (.aload_n 0, 1) := by decide +kernel
theorem dMo_identity_68 : decode cMo_identity 68 = .ok (.getfield 7, 3) := by decide +kernel
theorem dMo_identity_71 : decode cMo_identity 71 = .ok (.aload_n 0, 1) := by decide +kernel
theorem dMo_identity_72 : decode cMo_identity 72 = .ok (.getfield 104, 3) := by decide +kernel
theorem dMo_identity_75 : decode cMo_identity 75 = .ok (.iload_n 1, 1) := by decide +kernel
theorem dMo_identity_76 : decode cMo_identity 76 = .ok (.iastore, 1) := by decide +kernel
theorem dMo_identity_77 : decode cMo_identity 77 = .ok (.aload_n 0, 1) := by decide +kernel
theorem dMo_identity_78 : decode cMo_identity 78 = .ok (.getfield 13, 3) := by decide +kernel
theorem dMo_identity_81 : decode cMo_identity 81 = .ok (.aload_n 0, 1) := by decide +kernel
theorem dMo_identity_82 : decode cMo_identity 82 = .ok (.getfield 104, 3) := by decide +kernel
theorem dMo_identity_85 : decode cMo_identity 85 = .ok (.iload_n 2, 1) := by decide +kernel
theorem dMo_identity_86 : decode cMo_identity 86 = .ok (.iastore, 1) := by decide +kernel
theorem dMo_identity_87 : decode cMo_identity 87 = .ok (.aload_n 0, 1) := by decide +kernel
theorem dMo_identity_88 : decode cMo_identity 88 = .ok (.dup, 1) := by decide +kernel
theorem dMo_identity_89 : decode cMo_identity 89 = .ok (.getfield 104, 3) := by decide +kernel
theorem dMo_identity_92 : decode cMo_identity 92 = .ok (.iconst 1, 1) := by decide +kernel
theorem dMo_identity_93 : decode cMo_identity 93 = .ok (.iadd, 1) := by decide +kernel
theorem dMo_identity_94 : decode cMo_identity 94 = .ok (.putfield 104, 3) := by decide +kernel
theorem dMo_identity_97 : decode cMo_identity 97 = .ok (.aload_n 0, 1) := by decide +kernel
theorem dMo_identity_98 : decode cMo_identity 98 = .ok (.getfield 104, 3) := by decide +kernel
theorem dMo_identity_101 : decode cMo_identity 101 = .ok (.iconst 1, 1) := by decide +kernel
theorem dMo_identity_102 : decode cMo_identity 102 = .ok (.isub, 1) := by decide +kernel
theorem dMo_identity_103 : decode cMo_identity 103 = .ok (.ireturn, 1) := by decide +kernel
theorem dMo_identityOf_0 : decode cMo_identityOf 0 = .ok (.iconst (-1), 1) := by decide +kernel
theorem dMo_identityOf_1 : decode cMo_identityOf 1 = .ok (.istore_n 3, 1) := by decide +kernel
theorem dMo_identityOf_2 : decode cMo_identityOf 2 = .ok (.iconst 4, 1) := by decide +kernel
theorem dMo_identityOf_3 : decode cMo_identityOf 3 = .ok (.aload_n 0, 1) := by decide +kernel
theorem dMo_identityOf_4 : decode cMo_identityOf 4 = .ok (.getfield 178, 3) := by decide +kernel
theorem dMo_identityOf_7 : decode cMo_identityOf 7 = .ok (.imul, 1) := by decide +kernel
theorem dMo_identityOf_8 : decode cMo_identityOf 8 = .ok (.istore 4, 2) := by decide +kernel
theorem dMo_identityOf_10 : decode cMo_identityOf 10 = .ok (.iload 4, 2) := by decide +kernel
theorem dMo_identityOf_12 : decode cMo_identityOf 12 = .ok (.iconst 4, 1) := by decide +kernel
theorem dMo_identityOf_13 : decode cMo_identityOf 13 = .ok (.aload_n 0, 1) := by decide +kernel
theorem dMo_identityOf_14 : decode cMo_identityOf 14 = .ok (.getfield 178, 3) := by decide +kernel
theorem dMo_identityOf_17 : decode cMo_identityOf 17 = .ok (.imul, 1) := by decide +kernel
theorem dMo_identityOf_18 : decode cMo_identityOf 18 = .ok (.aload_n 0, 1) := by decide +kernel
theorem dMo_identityOf_19 : decode cMo_identityOf 19 = .ok (.getfield 53, 3) := by decide +kernel
theorem dMo_identityOf_22 : decode cMo_identityOf 22 = .ok (.aload_n 0, 1) := by decide +kernel
theorem dMo_identityOf_23 : decode cMo_identityOf 23 = .ok (.getfield 178, 3) := by decide +kernel
theorem dMo_identityOf_26 : decode cMo_identityOf 26 = .ok (.iaload, 1) := by decide +kernel
theorem dMo_identityOf_27 : decode cMo_identityOf 27 = .ok (.iadd, 1) := by decide +kernel
theorem dMo_identityOf_28 : decode cMo_identityOf 28 = .ok (.if_icmp .ge 55, 3) := by decide +kernel
theorem dMo_identityOf_31 : decode cMo_identityOf 31 = .ok (.aload_n 0, 1) := by decide +kernel
theorem dMo_identityOf_32 : decode cMo_identityOf 32 = .ok (.aload_n 0, 1) := by decide +kernel
theorem dMo_identityOf_33 : decode cMo_identityOf 33 = .ok (.getfield 50, 3) := by decide +kernel
theorem dMo_identityOf_36 : decode cMo_identityOf 36 = .ok (.iload 4, 2) := by decide +kernel
theorem dMo_identityOf_38 : decode cMo_identityOf 38 = .ok (.iaload, 1) := by decide +kernel
theorem dMo_identityOf_39 : decode cMo_identityOf 39 = .ok (.invokevirtual 138, 3) := by decide +kernel
theorem dMo_identityOf_42 : decode cMo_identityOf 42 = .ok (.iload_n 1, 1) := by decide +kernel
theorem dMo_identityOf_43 : decode cMo_identityOf 43 = .ok (.if_icmp .ne 32, 3) := by decide +kernel
theorem dMo_identityOf_46 : decode cMo_identityOf 46 = .ok (.aload_n 0, 1) := by decide +kernel
theorem dMo_identityOf_47 : decode cMo_identityOf 47 = .ok (.getfield 7, 3) := by decide +kernel
theorem dMo_identityOf_50 : decode cMo_identityOf 50 = .ok (.aload_n 0, 1) := by decide +kernel
theorem dMo_identityOf_51 : decode cMo_identityOf 51 = .ok (.getfield 50, 3) := by decide +kernel
theorem dMo_identityOf_54 : decode cMo_identityOf 54 = .ok (.iload 4, 2) := by decide +kernel
theorem dMo_identityOf_56 : decode cMo_identityOf 56 = .ok (.iaload, 1) := by decide +kernel
theorem dMo_identityOf_57 : decode cMo_identityOf 57 = .ok (.iaload, 1) := by decide +kernel
theorem dMo_identityOf_58 : decode cMo_identityOf 58 = .ok (.bipush 8, 2) := by decide +kernel
theorem dMo_identityOf_60 : decode cMo_identityOf 60 = .ok (.irem, 1) := by decide +kernel
theorem dMo_identityOf_61 : decode cMo_identityOf 61 = .ok (.iload_n 2, 1) := by decide +kernel
theorem dMo_identityOf_62 : decode cMo_identityOf 62 = .ok (.if_icmp .ne 13, 3) := by decide +kernel
theorem dMo_identityOf_65 : decode cMo_identityOf 65 = .ok (.aload_n 0, 1) := by decide +kernel
theorem dMo_identityOf_66 : decode cMo_identityOf 66 = .ok (.getfield 50, 3) := by decide +kernel
theorem dMo_identityOf_69 : decode cMo_identityOf 69 = .ok (.iload 4, 2) := by decide +kernel
theorem dMo_identityOf_71 : decode cMo_identityOf 71 = .ok (.iaload, 1) := by decide +kernel
theorem dMo_identityOf_72 : decode cMo_identityOf 72 = .ok (.goto 4, 3) := by decide +kernel
theorem dMo_identityOf_75 : decode cMo_identityOf 75 = .ok (.iload_n 3, 1) := by decide +kernel
theorem dMo_identityOf_76 : decode cMo_identityOf 76 = .ok (.istore_n 3, 1) := by decide +kernel
theorem dMo_identityOf_77 : decode cMo_identityOf 77 = .ok (.iinc 4 1, 3) := by decide +kernel
theorem dMo_identityOf_80 : decode cMo_identityOf 80 = .ok (.goto (-70), 3) := by decide +kernel
theorem dMo_identityOf_83 : decode cMo_identityOf 83 = .ok (.iload_n 3, 1) := by decide +kernel
theorem dMo_identityOf_84 : decode cMo_identityOf 84 = .ok (.ireturn, 1) := by decide +kernel
theorem dMo_isAwake_0 : decode cMo_isAwake 0 = .ok (.aload_n 0, 1) := by decide +kernel
theorem dMo_isAwake_1 : decode cMo_isAwake 1 = .ok (.getfield 84, 3) := by decide +kernel
theorem dMo_isAwake_4 : decode cMo_isAwake 4 = .ok (.ifCond .lt 7, 3) := by decide +kernel
theorem dMo_isAwake_7 : decode cMo_isAwake 7 = .ok (.iconst 1, 1) := by decide +kernel
theorem dMo_isAwake_8 : decode cMo_isAwake 8 = .ok (.goto 4, 3) := by decide +kernel
theorem dMo_isAwake_11 : decode cMo_isAwake 11 = .ok (.iconst 0, 1) := by decide +kernel
theorem dMo_isAwake_12 : decode cMo_isAwake 12 = .ok (.istore_n 2, 1) := by decide +kernel
theorem dMo_isAwake_13 : decode cMo_isAwake 13 = .ok (.iconst 4, 1) := by decide +kernel
theorem dMo_isAwake_14 : decode cMo_isAwake 14 = .ok (.aload_n 0, 1) := by decide +kernel
theorem dMo_isAwake_15 : decode cMo_isAwake 15 = .ok (.getfield 178, 3) := by decide +kernel
theorem dMo_isAwake_18 : decode cMo_isAwake 18 = .ok (.imul, 1) := by decide +kernel
theorem dMo_isAwake_19 : decode cMo_isAwake 19 = .ok (.istore_n 3, 1) := by decide +kernel
theorem dMo_isAwake_20 : decode cMo_isAwake 20 = .ok (.iload_n 3, 1) := by decide +kernel
theorem dMo_isAwake_21 : decode cMo_isAwake 21 = .ok (.iconst 4, 1) := by decide +kernel
theorem dMo_isAwake_22 : decode cMo_isAwake 22 = .ok (.aload_n 0, 1) := by decide +kernel
theorem dMo_isAwake_23 : decode cMo_isAwake 23 = .ok (.getfield 178, 3) := by decide +kernel
theorem dMo_isAwake_26 : decode cMo_isAwake 26 = .ok (.imul, 1) := by decide +kernel
theorem dMo_isAwake_27 : decode cMo_isAwake 27 = .ok (.aload_n 0, 1) := by decide +kernel
theorem dMo_isAwake_28 : decode cMo_isAwake 28 = .ok (.getfield 53, 3) := by decide +kernel
theorem dMo_isAwake_31 : decode cMo_isAwake 31 = .ok (.aload_n 0, 1) := by decide +kernel
theorem dMo_isAwake_32 : decode cMo_isAwake 32 = .ok (.getfield 178, 3) := by decide +kernel
theorem dMo_isAwake_35 : decode cMo_isAwake 35 = .ok (.iaload, 1) := by decide +kernel
theorem dMo_isAwake_36 : decode cMo_isAwake 36 = .ok (.iadd, 1) := by decide +kernel
theorem dMo_isAwake_37 : decode cMo_isAwake 37 = .ok (.if_icmp .ge 37, 3) := by decide +kernel
theorem dMo_isAwake_40 : decode cMo_isAwake 40 = .ok (.iload_n 2, 1) := by decide +kernel
theorem dMo_isAwake_41 : decode cMo_isAwake 41 = .ok (.ifCond .ne 21, 3) := by decide +kernel
theorem dMo_isAwake_44 : decode cMo_isAwake 44 = .ok (.aload_n 0, 1) := by decide +kernel
theorem dMo_isAwake_45 : decode cMo_isAwake 45 = .ok (.getfield 7, 3) := by decide +kernel
theorem dMo_isAwake_48 : decode cMo_isAwake 48 = .ok (.aload_n 0, 1) := by decide +kernel
theorem dMo_isAwake_49 : decode cMo_isAwake 49 = .ok (.getfield 50, 3) := by decide +kernel
theorem dMo_isAwake_52 : decode cMo_isAwake 52 = .ok (.iload_n 3, 1) := by decide +kernel
theorem dMo_isAwake_53 : decode cMo_isAwake 53 = .ok (.iaload, 1) := by decide +kernel
theorem dMo_isAwake_54 : decode cMo_isAwake 54 = .ok (.iaload, 1) := by decide +kernel
theorem dMo_isAwake_55 : decode cMo_isAwake 55 = .ok (.bipush 8, 2) := by decide +kernel
theorem dMo_isAwake_57 : decode cMo_isAwake 57 = .ok (.irem, 1) := by decide +kernel
theorem dMo_isAwake_58 : decode cMo_isAwake 58 = .ok (.iload_n 1, 1) := by decide +kernel
theorem dMo_isAwake_59 : decode cMo_isAwake 59 = .ok (.if_icmp .ne 7, 3) := by decide +kernel
theorem dMo_isAwake_62 : decode cMo_isAwake 62 = .ok (.iconst 1, 1) := by decide +kernel
theorem dMo_isAwake_63 : decode cMo_isAwake 63 = .ok (.goto 4, 3) := by decide +kernel
theorem dMo_isAwake_66 : decode cMo_isAwake 66 = .ok (.iconst 0, 1) := by decide +kernel
theorem dMo_isAwake_67 : decode cMo_isAwake 67 = .ok (.istore_n 2, 1) := by decide +kernel
theorem dMo_isAwake_68 : decode cMo_isAwake 68 = .ok (.iinc 3 1, 3) := by decide +kernel
theorem dMo_isAwake_71 : decode cMo_isAwake 71 = .ok (.goto (-51), 3) := by decide +kernel
theorem dMo_isAwake_74 : decode cMo_isAwake 74 = .ok (.iload_n 2, 1) := by decide +kernel
theorem dMo_isAwake_75 : decode cMo_isAwake 75 = .ok (.ireturn, 1) := by decide +kernel
theorem dMo_isCodeword_0 : decode cMo_isCodeword 0 = .ok (.iload_n 0, 1) := by decide +kernel
theorem dMo_isCodeword_1 : decode cMo_isCodeword 1 = .ok (.bipush 11, 2) := by decide +kernel
theorem dMo_isCodeword_3 : decode cMo_isCodeword 3 = .ok (.iushr, 1) := by decide +kernel
theorem dMo_isCodeword_4 : decode cMo_isCodeword 4 = .ok (.invokestatic 95, 3) := by decide +kernel
theorem dMo_isCodeword_7 : decode cMo_isCodeword 7 = .ok (.iload_n 0, 1) := by decide +kernel
theorem dMo_isCodeword_8 : decode cMo_isCodeword 8 = .ok (.if_icmp .ne 7, 3) := by decide +kernel
theorem dMo_isCodeword_11 : decode cMo_isCodeword 11 = .ok (.iconst 1, 1) := by decide +kernel
theorem dMo_isCodeword_12 : decode cMo_isCodeword 12 = .ok (.goto 4, 3) := by decide +kernel
theorem dMo_isCodeword_15 : decode cMo_isCodeword 15 = .ok (.iconst 0, 1) := by decide +kernel
theorem dMo_isCodeword_16 : decode cMo_isCodeword 16 = .ok (.ireturn, 1) := by decide +kernel
theorem dMo_isIdentity_0 : decode cMo_isIdentity 0 = .ok (.iload_n 1, 1) := by decide +kernel
theorem dMo_isIdentity_1 : decode cMo_isIdentity 1 = .ok (.ifCond .lt 15, 3) := by decide +kernel
theorem dMo_isIdentity_4 : decode cMo_isIdentity 4 = .ok (.iload_n 1, 1) := by decide +kernel
theorem dMo_isIdentity_5 : decode cMo_isIdentity 5 = .ok (.aload_n 0, 1) := by decide +kernel
theorem dMo_isIdentity_6 : decode cMo_isIdentity 6 = .ok (.getfield 104, 3) := by decide +kernel
theorem dMo_isIdentity_9 : decode cMo_isIdentity 9 = .ok (.if_icmp .ge 7, 3) := by decide +kernel
theorem dMo_isIdentity_12 : decode cMo_isIdentity 12 = .ok (.iconst 1, 1) := by decide +kernel
theorem dMo_isIdentity_13 : decode cMo_isIdentity 13 = .ok (.goto 4, 3) := by decide +kernel
theorem dMo_isIdentity_16 : decode cMo_isIdentity 16 = .ok (.iconst 0, 1) := by decide +kernel
theorem dMo_isIdentity_17 : decode cMo_isIdentity 17 = .ok (.ireturn, 1) := by decide +kernel
theorem dMo_isKept_0 : decode cMo_isKept 0 = .ok (.aload_n 0, 1) := by decide +kernel
theorem dMo_isKept_1 : decode cMo_isKept 1 = .ok (.iload_n 1, 1) := by decide +kernel
theorem dMo_isKept_2 : decode cMo_isKept 2 = .ok (.invokevirtual 110, 3) := by decide +kernel
theorem dMo_isKept_5 : decode cMo_isKept 5 = .ok (.ifCond .eq 21, 3) := by decide +kernel
theorem dMo_isKept_8 : decode cMo_isKept 8 = .ok (.iload_n 2, 1) := by decide +kernel
theorem dMo_isKept_9 : decode cMo_isKept 9 = .ok (.ifCond .lt 17, 3) := by decide +kernel
theorem dMo_isKept_12 : decode cMo_isKept 12 = .ok (.iload_n 2, 1) := by decide +kernel
theorem dMo_isKept_13 : decode cMo_isKept 13 = .ok (.aload_n 0, 1) := by decide +kernel
theorem dMo_isKept_14 : decode cMo_isKept 14 = .ok (.getfield 56, 3) := by decide +kernel
theorem dMo_isKept_17 : decode cMo_isKept 17 = .ok (.iload_n 1, 1) := by decide +kernel
theorem dMo_isKept_18 : decode cMo_isKept 18 = .ok (.iaload, 1) := by decide +kernel
theorem dMo_isKept_19 : decode cMo_isKept 19 = .ok (.if_icmp .ge 7, 3) := by decide +kernel
theorem dMo_isKept_22 : decode cMo_isKept 22 = .ok (.iconst 1, 1) := by decide +kernel
theorem dMo_isKept_23 : decode cMo_isKept 23 = .ok (.goto 4, 3) := by decide +kernel
theorem dMo_isKept_26 : decode cMo_isKept 26 = .ok (.iconst 0, 1) := by decide +kernel
theorem dMo_isKept_27 : decode cMo_isKept 27 = .ok (.ireturn, 1) := by decide +kernel
theorem dMo_isPager_0 : decode cMo_isPager 0 = .ok (.iload_n 1, 1) := by decide +kernel
theorem dMo_isPager_1 : decode cMo_isPager 1 = .ok (.ifCond .lt 15, 3) := by decide +kernel
theorem dMo_isPager_4 : decode cMo_isPager 4 = .ok (.iload_n 1, 1) := by decide +kernel
theorem dMo_isPager_5 : decode cMo_isPager 5 = .ok (.aload_n 0, 1) := by decide +kernel
theorem dMo_isPager_6 : decode cMo_isPager 6 = .ok (.getfield 107, 3) := by decide +kernel
theorem dMo_isPager_9 : decode cMo_isPager 9 = .ok (.if_icmp .ge 7, 3) := by decide +kernel
theorem dMo_isPager_12 : decode cMo_isPager 12 = .ok (.iconst 1, 1) := by decide +kernel
theorem dMo_isPager_13 : decode cMo_isPager 13 = .ok (.goto 4, 3) := by decide +kernel
theorem dMo_isPager_16 : decode cMo_isPager 16 = .ok (.iconst 0, 1) := by decide +kernel
theorem dMo_isPager_17 : decode cMo_isPager 17 = .ok (.ireturn, 1) := by decide +kernel
theorem dMo_isSync_0 : decode cMo_isSync 0 = .ok (.aload_n 0, 1) := by decide +kernel
theorem dMo_isSync_1 : decode cMo_isSync 1 = .ok (.iload_n 1, 1) := by decide +kernel
theorem dMo_isSync_2 : decode cMo_isSync 2 = .ok (.invokevirtual 169, 3) := by decide +kernel
theorem dMo_isSync_5 : decode cMo_isSync 5 = .ok (.ldc 168, 2) := by decide +kernel
theorem dMo_isSync_7 : decode cMo_isSync 7 = .ok (.ixor, 1) := by decide +kernel
theorem dMo_isSync_8 : decode cMo_isSync 8 = .ok (.invokestatic 172, 3) := by decide +kernel
theorem dMo_isSync_11 : decode cMo_isSync 11 = .ok (.iconst 2, 1) := by decide +kernel
theorem dMo_isSync_12 : decode cMo_isSync 12 = .ok (.if_icmp .gt 7, 3) := by decide +kernel
theorem dMo_isSync_15 : decode cMo_isSync 15 = .ok (.iconst 1, 1) := by decide +kernel
theorem dMo_isSync_16 : decode cMo_isSync 16 = .ok (.goto 4, 3) := by decide +kernel
theorem dMo_isSync_19 : decode cMo_isSync 19 = .ok (.iconst 0, 1) := by decide +kernel
theorem dMo_isSync_20 : decode cMo_isSync 20 = .ok (.ireturn, 1) := by decide +kernel
theorem dMo_join_0 : decode cMo_join 0 = .ok (.aload_n 0, 1) := by decide +kernel
theorem dMo_join_1 : decode cMo_join 1 = .ok (.iload_n 1, 1) := by decide +kernel
theorem dMo_join_2 : decode cMo_join 2 = .ok (.invokevirtual 110, 3) := by decide +kernel
theorem dMo_join_5 : decode cMo_join 5 = .ok (.ifCond .eq 30, 3) := by decide +kernel
theorem dMo_join_8 : decode cMo_join 8 = .ok (.aload_n 0, 1) := by decide +kernel
theorem dMo_join_9 : decode cMo_join 9 = .ok (.iload_n 2, 1) := by decide +kernel
theorem dMo_join_10 : decode cMo_join 10 = .ok (.invokevirtual 113, 3) := by decide +kernel
theorem dMo_join_13 : decode cMo_join 13 = .ok (.ifCond .eq 22, 3) := by decide +kernel
theorem dMo_join_16 : decode cMo_join 16 = .ok (.aload_n 0, 1) := by decide +kernel
theorem dMo_join_17 : decode cMo_join 17 = .ok (.getfield 53, 3) := by decide +kernel
theorem dMo_join_20 : decode cMo_join 20 = .ok (.iload_n 1, 1) := by decide +kernel
theorem dMo_join_21 : decode cMo_join 21 = .ok (.iaload, 1) := by decide +kernel
theorem dMo_join_22 : decode cMo_join 22 = .ok (.iconst 4, 1) := by decide +kernel
theorem dMo_join_23 : decode cMo_join 23 = .ok (.if_icmp .eq 12, 3) := by decide +kernel
theorem dMo_join_26 : decode cMo_join 26 = .ok (.aload_n 0, 1) := by decide +kernel
theorem dMo_join_27 : decode cMo_join 27 = .ok (.iload_n 1, 1) := by decide +kernel
theorem dMo_join_28 : decode cMo_join 28 = .ok (.iload_n 2, 1) := by decide +kernel
theorem dMo_join_29 : decode cMo_join 29 = .ok (.invokevirtual 116, 3) := by decide +kernel
theorem dMo_join_32 : decode cMo_join 32 = .ok (.ifCond .eq 5, 3) := by decide +kernel
theorem dMo_join_35 : decode cMo_join 35 = .ok (.iconst (-1), 1) := by decide +kernel
theorem dMo_join_36 : decode cMo_join 36 = .ok (.ireturn, 1) := by decide +kernel
theorem dMo_join_37 : decode cMo_join 37 = .ok (.aload_n 0, 1) := by decide +kernel
theorem dMo_join_38 : decode cMo_join 38 = .ok (.getfield 50, 3) := by decide +kernel
theorem dMo_join_41 : decode cMo_join 41 = .ok (.iconst 4, 1) := by decide +kernel
theorem dMo_join_42 : decode cMo_join 42 = .ok (.iload_n 1, 1) := by decide +kernel
theorem dMo_join_43 : decode cMo_join 43 = .ok (.imul, 1) := by decide +kernel
theorem dMo_join_44 : decode cMo_join 44 = .ok (.aload_n 0, 1) := by decide +kernel
theorem dMo_join_45 : decode cMo_join 45 = .ok (.getfield 53, 3) := by decide +kernel
theorem dMo_join_48 : decode cMo_join 48 = .ok (.iload_n 1, 1) := by decide +kernel
theorem dMo_join_49 : decode cMo_join 49 = .ok (.iaload, 1) := by decide +kernel
theorem dMo_join_50 : decode cMo_join 50 = .ok (.iadd, 1) := by decide +kernel
theorem dMo_join_51 : decode cMo_join 51 = .ok (.iload_n 2, 1) := by decide +kernel
theorem dMo_join_52 : decode cMo_join 52 = .ok (.iastore, 1) := by decide +kernel
theorem dMo_join_53 : decode cMo_join 53 = .ok (.aload_n 0, 1) := by decide +kernel
theorem dMo_join_54 : decode cMo_join 54 = .ok (.getfield 78, 3) := by decide +kernel
theorem dMo_join_57 : decode cMo_join 57 = .ok (.bipush 12, 2) := by decide +kernel
theorem dMo_join_59 : decode cMo_join 59 = .ok (.iload_n 1, 1) := by decide +kernel
theorem dMo_join_60 : decode cMo_join 60 = .ok (.imul, 1) := by decide +kernel
theorem dMo_join_61 : decode cMo_join 61 = .ok (.iload_n 2, 1) := by decide +kernel
theorem dMo_join_62 : decode cMo_join 62 = .ok (.iadd, 1) := by decide +kernel
theorem dMo_join_63 : decode cMo_join 63 = .ok (.iconst (-1), 1) := by decide +kernel
theorem dMo_join_64 : decode cMo_join 64 = .ok (.iastore, 1) := by decide +kernel
theorem dMo_join_65 : decode cMo_join 65 = .ok (.aload_n 0, 1) := by decide +kernel
theorem dMo_join_66 : decode cMo_join 66 = .ok (.getfield 53, 3) := by decide +kernel
theorem dMo_join_69 : decode cMo_join 69 = .ok (.iload_n 1, 1) := by decide +kernel
theorem dMo_join_70 : decode cMo_join 70 = .ok (.dup2, 1) := by decide +kernel
theorem dMo_join_71 : decode cMo_join 71 = .ok (.iaload, 1) := by decide +kernel
theorem dMo_join_72 : decode cMo_join 72 = .ok (.iconst 1, 1) := by decide +kernel
theorem dMo_join_73 : decode cMo_join 73 = .ok (.iadd, 1) := by decide +kernel
theorem dMo_join_74 : decode cMo_join 74 = .ok (.iastore, 1) := by decide +kernel
theorem dMo_join_75 : decode cMo_join 75 = .ok (.aload_n 0, 1) := by decide +kernel
theorem dMo_join_76 : decode cMo_join 76 = .ok (.getfield 53, 3) := by decide +kernel
theorem dMo_join_79 : decode cMo_join 79 = .ok (.iload_n 1, 1) := by decide +kernel
theorem dMo_join_80 : decode cMo_join 80 = .ok (.iaload, 1) := by decide +kernel
theorem dMo_join_81 : decode cMo_join 81 = .ok (.ireturn, 1) := by decide +kernel
theorem dMo_kept_0 : decode cMo_kept 0 = .ok (.aload_n 0, 1) := by decide +kernel
theorem dMo_kept_1 : decode cMo_kept 1 = .ok (.iload_n 1, 1) := by decide +kernel
theorem dMo_kept_2 : decode cMo_kept 2 = .ok (.invokevirtual 110, 3) := by decide +kernel
theorem dMo_kept_5 : decode cMo_kept 5 = .ok (.ifCond .eq 12, 3) := by decide +kernel
theorem dMo_kept_8 : decode cMo_kept 8 = .ok (.aload_n 0, 1) := by decide +kernel
theorem dMo_kept_9 : decode cMo_kept 9 = .ok (.getfield 56, 3) := by decide +kernel
theorem dMo_kept_12 : decode cMo_kept 12 = .ok (.iload_n 1, 1) := by decide +kernel
theorem dMo_kept_13 : decode cMo_kept 13 = .ok (.iaload, 1) := by decide +kernel
theorem dMo_kept_14 : decode cMo_kept 14 = .ok (.goto 4, 3) := by decide +kernel
theorem dMo_kept_17 : decode cMo_kept 17 = .ok (.iconst (-1), 1) := by decide +kernel
theorem dMo_kept_18 : decode cMo_kept 18 = .ok (.ireturn, 1) := by decide +kernel
theorem dMo_lay_0 : decode cMo_lay 0 = .ok (.iload_n 2, 1) := by decide +kernel
theorem dMo_lay_1 : decode cMo_lay 1 = .ok (.istore 4, 2) := by decide +kernel
theorem dMo_lay_3 : decode cMo_lay 3 = .ok (.iload 4, 2) := by decide +kernel
theorem dMo_lay_5 : decode cMo_lay 5 = .ok (.iload_n 3, 1) := by decide +kernel
theorem dMo_lay_6 : decode cMo_lay 6 = .ok (.if_icmp .ge 43, 3) := by decide +kernel
theorem dMo_lay_9 : decode cMo_lay 9 = .ok (.aload_n 0, 1) := by decide +kernel
theorem dMo_lay_10 : decode cMo_lay 10 = .ok (.iload_n 1, 1) := by decide +kernel
theorem dMo_lay_11 : decode cMo_lay 11 = .ok (.iload 4, 2) := by decide +kernel
theorem dMo_lay_13 : decode cMo_lay 13 = .ok (.iload_n 3, 1) := by decide +kernel
theorem dMo_lay_14 : decode cMo_lay 14 = .ok (.invokevirtual 147, 3) := by decide +kernel
theorem dMo_lay_17 : decode cMo_lay 17 = .ok (.ifCond .eq 26, 3) := by decide +kernel
theorem dMo_lay_20 : decode cMo_lay 20 = .ok (.aload_n 0, 1) := by decide +kernel
theorem dMo_lay_21 : decode cMo_lay 21 = .ok (.iload_n 1, 1) := by decide +kernel
theorem dMo_lay_22 : decode cMo_lay 22 = .ok (.iload 4, 2) := by decide +kernel
theorem dMo_lay_24 : decode cMo_lay 24 = .ok (.invokevirtual 151, 3) := by decide +kernel
theorem dMo_lay_27 : decode cMo_lay 27 = .ok (.aload_n 0, 1) := by decide +kernel
theorem dMo_lay_28 : decode cMo_lay 28 = .ok (.getfield 34, 3) := by decide +kernel
theorem dMo_lay_31 : decode cMo_lay 31 = .ok (.iload_n 1, 1) := by decide +kernel
theorem dMo_lay_32 : decode cMo_lay 32 = .ok (.iconst 0, 1) := by decide +kernel
theorem dMo_lay_33 : decode cMo_lay 33 = .ok (.bastore, 1) := by decide +kernel
theorem dMo_lay_34 : decode cMo_lay 34 = .ok (.iload 4, 2) := by decide +kernel
theorem dMo_lay_36 : decode cMo_lay 36 = .ok (.aload_n 0, 1) := by decide +kernel
theorem dMo_lay_37 : decode cMo_lay 37 = .ok (.iload_n 1, 1) := by decide +kernel
theorem dMo_lay_38 : decode cMo_lay 38 = .ok (.invokevirtual 141, 3) := by decide +kernel
theorem dMo_lay_41 : decode cMo_lay 41 = .ok (.iadd, 1) := by decide +kernel
theorem dMo_lay_42 : decode cMo_lay 42 = .ok (.ireturn, 1) := by decide +kernel
theorem dMo_lay_43 : decode cMo_lay 43 = .ok (.iinc 4 1, 3) := by decide +kernel
theorem dMo_lay_46 : decode cMo_lay 46 = .ok (.goto (-43), 3) := by decide +kernel
theorem dMo_lay_49 : decode cMo_lay 49 = .ok (.iconst (-1), 1) := by decide +kernel
theorem dMo_lay_50 : decode cMo_lay 50 = .ok (.ireturn, 1) := by decide +kernel
theorem dMo_layAt_0 : decode cMo_layAt 0 = .ok (.aload_n 0, 1) := by decide +kernel
theorem dMo_layAt_1 : decode cMo_layAt 1 = .ok (.getfield 41, 3) := by decide +kernel
theorem dMo_layAt_4 : decode cMo_layAt 4 = .ok (.iload_n 2, 1) := by decide +kernel
theorem dMo_layAt_5 : decode cMo_layAt 5 = .ok (.aload_n 0, 1) := by decide +kernel
theorem dMo_layAt_6 : decode cMo_layAt 6 = .ok (.aload_n 0, 1) := by decide +kernel
theorem dMo_layAt_7 : decode cMo_layAt 7 = .ok (.getfield 19, 3) := by decide +kernel
theorem dMo_layAt_10 : decode cMo_layAt 10 = .ok (.iload_n 1, 1) := by decide +kernel
theorem dMo_layAt_11 : decode cMo_layAt 11 = .ok (.iaload, 1) := by decide +kernel
theorem dMo_layAt_12 : decode cMo_layAt 12 = .ok (.invokevirtual 138, 3) := by decide +kernel
theorem dMo_layAt_15 : decode cMo_layAt 15 = .ok (.invokestatic 95, 3) := by decide +kernel
theorem dMo_layAt_18 : decode cMo_layAt 18 = .ok (.iastore, 1) := by decide +kernel
theorem dMo_layAt_19 : decode cMo_layAt 19 = .ok (.aload_n 0, 1) := by decide +kernel
theorem dMo_layAt_20 : decode cMo_layAt 20 = .ok (.getfield 44, 3) := by decide +kernel
theorem dMo_layAt_23 : decode cMo_layAt 23 = .ok (.iload_n 2, 1) := by decide +kernel
theorem dMo_layAt_24 : decode cMo_layAt 24 = .ok (.iconst 1, 1) := by decide +kernel
theorem dMo_layAt_25 : decode cMo_layAt 25 = .ok (.bastore, 1) := by decide +kernel
theorem dMo_layAt_26 : decode cMo_layAt 26 = .ok (.iconst 1, 1) := by decide +kernel
theorem dMo_layAt_27 : decode cMo_layAt 27 = .ok (.istore_n 3, 1) := by decide +kernel
theorem dMo_layAt_28 : decode cMo_layAt 28 = .ok (.iload_n 3, 1) := by decide +kernel
theorem dMo_layAt_29 : decode cMo_layAt 29 = .ok (.aload_n 0, 1) := by decide +kernel
theorem dMo_layAt_30 : decode cMo_layAt 30 = .ok (.iload_n 1, 1) := by decide +kernel
theorem dMo_layAt_31 : decode cMo_layAt 31 = .ok (.invokevirtual 141, 3) := by decide +kernel
theorem dMo_layAt_34 : decode cMo_layAt 34 = .ok (.if_icmp .ge 71, 3) := by decide +kernel
theorem dMo_layAt_37 : decode cMo_layAt 37 = .ok (.iconst 1, 1) := by decide +kernel
theorem dMo_layAt_38 : decode cMo_layAt 38 = .ok (.istore 4, 2) := by decide +kernel
theorem dMo_layAt_40 : decode cMo_layAt 40 = .ok (.iconst 0, 1) := by decide +kernel
theorem dMo_layAt_41 : decode cMo_layAt 41 = .ok (.istore 5, 2) := by decide +kernel
theorem dMo_layAt_43 : decode cMo_layAt 43 = .ok (.iload 5, 2) := by decide +kernel
theorem dMo_layAt_45 : decode cMo_layAt 45 = .ok (.bipush 20, 2) := by decide +kernel
theorem dMo_layAt_47 : decode cMo_layAt 47 = .ok (.if_icmp .ge 30, 3) := by decide +kernel
theorem dMo_layAt_50 : decode cMo_layAt 50 = .ok (.iconst 2, 1) := by decide +kernel
theorem dMo_layAt_51 : decode cMo_layAt 51 = .ok (.iload 4, 2) := by decide +kernel
theorem dMo_layAt_53 : decode cMo_layAt 53 = .ok (.imul, 1) := by decide +kernel
theorem dMo_layAt_54 : decode cMo_layAt 54 = .ok (.aload_n 0, 1) := by decide +kernel
theorem dMo_layAt_55 : decode cMo_layAt 55 = .ok (.iload_n 1, 1) := by decide +kernel
theorem dMo_layAt_56 : decode cMo_layAt 56 = .ok (.bipush 20, 2) := by decide +kernel
theorem dMo_layAt_58 : decode cMo_layAt 58 = .ok (.iload_n 3, 1) := by decide +kernel
theorem dMo_layAt_59 : decode cMo_layAt 59 = .ok (.iconst 1, 1) := by decide +kernel
theorem dMo_layAt_60 : decode cMo_layAt 60 = .ok (.isub, 1) := by decide +kernel
theorem dMo_layAt_61 : decode cMo_layAt 61 = .ok (.imul, 1) := by decide +kernel
theorem dMo_layAt_62 : decode cMo_layAt 62 = .ok (.iload 5, 2) := by decide +kernel
theorem dMo_layAt_64 : decode cMo_layAt 64 = .ok (.iadd, 1) := by decide +kernel
theorem dMo_layAt_65 : decode cMo_layAt 65 = .ok (.invokevirtual 144, 3) := by decide +kernel
theorem dMo_layAt_68 : decode cMo_layAt 68 = .ok (.iadd, 1) := by decide +kernel
theorem dMo_layAt_69 : decode cMo_layAt 69 = .ok (.istore 4, 2) := by decide +kernel
theorem dMo_layAt_71 : decode cMo_layAt 71 = .ok (.iinc 5 1, 3) := by decide +kernel
theorem dMo_layAt_74 : decode cMo_layAt 74 = .ok (.goto (-31), 3) := by decide +kernel
theorem dMo_layAt_77 : decode cMo_layAt 77 = .ok (.aload_n 0, 1) := by decide +kernel
theorem dMo_layAt_78 : decode cMo_layAt 78 = .ok (.getfield 41, 3) := by decide +kernel
theorem dMo_layAt_81 : decode cMo_layAt 81 = .ok (.iload_n 2, 1) := by decide +kernel
theorem dMo_layAt_82 : decode cMo_layAt 82 = .ok (.iload_n 3, 1) := by decide +kernel
theorem dMo_layAt_83 : decode cMo_layAt 83 = .ok (.iadd, 1) := by decide +kernel
theorem dMo_layAt_84 : decode cMo_layAt 84 = .ok (.iload 4, 2) := by decide +kernel
theorem dMo_layAt_86 : decode cMo_layAt 86 = .ok (.invokestatic 95, 3) := by decide +kernel
theorem dMo_layAt_89 : decode cMo_layAt 89 = .ok (.iastore, 1) := by decide +kernel
theorem dMo_layAt_90 : decode cMo_layAt 90 = .ok (.aload_n 0, 1) := by decide +kernel
theorem dMo_layAt_91 : decode cMo_layAt 91 = .ok (.getfield 44, 3) := by decide +kernel
theorem dMo_layAt_94 : decode cMo_layAt 94 = .ok (.iload_n 2, 1) := by decide +kernel
theorem dMo_layAt_95 : decode cMo_layAt 95 = .ok (.iload_n 3, 1) := by decide +kernel
theorem dMo_layAt_96 : decode cMo_layAt 96 = .ok (.iadd, 1) := by decide +kernel
theorem dMo_layAt_97 : decode cMo_layAt 97 = .ok (.iconst 1, 1) := by decide +kernel
theorem dMo_layAt_98 : decode cMo_layAt 98 = .ok (.bastore, 1) := by decide +kernel
theorem dMo_layAt_99 : decode cMo_layAt 99 = .ok (.iinc 3 1, 3) := by decide +kernel
theorem dMo_layAt_102 : decode cMo_layAt 102 = .ok (.goto (-74), 3) := by decide +kernel
theorem dMo_layAt_105 : decode cMo_layAt 105 = .ok (.return_, 1) := by decide +kernel
theorem dMo_listensTo_0 : decode cMo_listensTo 0 = .ok (.iconst 0, 1) := by decide +kernel
theorem dMo_listensTo_1 : decode cMo_listensTo 1 = .ok (.istore_n 3, 1) := by decide +kernel
theorem dMo_listensTo_2 : decode cMo_listensTo 2 = .ok (.iconst 4, 1) := by decide +kernel
theorem dMo_listensTo_3 : decode cMo_listensTo 3 = .ok (.iload_n 1, 1) := by decide +kernel
theorem dMo_listensTo_4 : decode cMo_listensTo 4 = .ok (.imul, 1) := by decide +kernel
theorem dMo_listensTo_5 : decode cMo_listensTo 5 = .ok (.istore 4, 2) := by decide +kernel
theorem dMo_listensTo_7 : decode cMo_listensTo 7 = .ok (.iload 4, 2) := by decide +kernel
theorem dMo_listensTo_9 : decode cMo_listensTo 9 = .ok (.iconst 4, 1) := by decide +kernel
theorem dMo_listensTo_10 : decode cMo_listensTo 10 = .ok (.iload_n 1, 1) := by decide +kernel
theorem dMo_listensTo_11 : decode cMo_listensTo 11 = .ok (.imul, 1) := by decide +kernel
theorem dMo_listensTo_12 : decode cMo_listensTo 12 = .ok (.aload_n 0, 1) := by decide +kernel
theorem dMo_listensTo_13 : decode cMo_listensTo 13 = .ok (.getfield 53, 3) := by decide +kernel
theorem dMo_listensTo_16 : decode cMo_listensTo 16 = .ok (.iload_n 1, 1) := by decide +kernel
theorem dMo_listensTo_17 : decode cMo_listensTo 17 = .ok (.iaload, 1) := by decide +kernel
theorem dMo_listensTo_18 : decode cMo_listensTo 18 = .ok (.iadd, 1) := by decide +kernel
theorem dMo_listensTo_19 : decode cMo_listensTo 19 = .ok (.if_icmp .ge 30, 3) := by decide +kernel
theorem dMo_listensTo_22 : decode cMo_listensTo 22 = .ok (.iload_n 3, 1) := by decide +kernel
theorem dMo_listensTo_23 : decode cMo_listensTo 23 = .ok (.ifCond .ne 14, 3) := by decide +kernel
theorem dMo_listensTo_26 : decode cMo_listensTo 26 = .ok (.aload_n 0, 1) := by decide +kernel
theorem dMo_listensTo_27 : decode cMo_listensTo 27 = .ok (.getfield 50, 3) := by decide +kernel
theorem dMo_listensTo_30 : decode cMo_listensTo 30 = .ok (.iload 4, 2) := by decide +kernel
theorem dMo_listensTo_32 : decode cMo_listensTo 32 = .ok (.iaload, 1) := by decide +kernel
theorem dMo_listensTo_33 : decode cMo_listensTo 33 = .ok (.iload_n 2, 1) := by decide +kernel
theorem dMo_listensTo_34 : decode cMo_listensTo 34 = .ok (.if_icmp .ne 7, 3) := by decide +kernel
theorem dMo_listensTo_37 : decode cMo_listensTo 37 = .ok (.iconst 1, 1) := by decide +kernel
theorem dMo_listensTo_38 : decode cMo_listensTo 38 = .ok (.goto 4, 3) := by decide +kernel
theorem dMo_listensTo_41 : decode cMo_listensTo 41 = .ok (.iconst 0, 1) := by decide +kernel
theorem dMo_listensTo_42 : decode cMo_listensTo 42 = .ok (.istore_n 3, 1) := by decide +kernel
theorem dMo_listensTo_43 : decode cMo_listensTo 43 = .ok (.iinc 4 1, 3) := by decide +kernel
theorem dMo_listensTo_46 : decode cMo_listensTo 46 = .ok (.goto (-39), 3) := by decide +kernel
theorem dMo_listensTo_49 : decode cMo_listensTo 49 = .ok (.iload_n 3, 1) := by decide +kernel
theorem dMo_listensTo_50 : decode cMo_listensTo 50 = .ok (.ireturn, 1) := by decide +kernel
theorem dMo_load_0 : decode cMo_load 0 = .ok (.iload_n 3, 1) := by decide +kernel
theorem dMo_load_1 : decode cMo_load 1 = .ok (.iconst 1, 1) := by decide +kernel
theorem dMo_load_2 : decode cMo_load 2 = .ok (.if_icmp .lt 20, 3) := by decide +kernel
theorem dMo_load_5 : decode cMo_load 5 = .ok (.iload_n 3, 1) := by decide +kernel
theorem dMo_load_6 : decode cMo_load 6 = .ok (.bipush 8, 2) := by decide +kernel
theorem dMo_load_8 : decode cMo_load 8 = .ok (.if_icmp .gt 14, 3) := by decide +kernel
theorem dMo_load_11 : decode cMo_load 11 = .ok (.aload_n 0, 1) := by decide +kernel
theorem dMo_load_12 : decode cMo_load 12 = .ok (.getfield 120, 3) := by decide +kernel
theorem dMo_load_15 : decode cMo_load 15 = .ok (.iload_n 3, 1) := by decide +kernel
theorem dMo_load_16 : decode cMo_load 16 = .ok (.iadd, 1) := by decide +kernel
theorem dMo_load_17 : decode cMo_load 17 = .ok (.bipush 20, 2) := by decide +kernel
theorem dMo_load_19 : decode cMo_load 19 = .ok (.if_icmp .le 5, 3) := by decide +kernel
theorem dMo_load_22 : decode cMo_load 22 = .ok (.iconst (-1), 1) := by decide +kernel
theorem dMo_load_23 : decode cMo_load 23 = .ok (.ireturn, 1) := by decide +kernel
theorem dMo_load_24 : decode cMo_load 24 = .ok (.iconst 0, 1) := by decide +kernel
theorem dMo_load_25 : decode cMo_load 25 = .ok (.istore 4, 2) := by decide +kernel
theorem dMo_load_27 : decode cMo_load 27 = .ok (.iload 4, 2) := by decide +kernel
theorem dMo_load_29 : decode cMo_load 29 = .ok (.iload_n 3, 1) := by decide +kernel
theorem dMo_load_30 : decode cMo_load 30 = .ok (.if_icmp .ge 29, 3) := by decide +kernel
theorem dMo_load_33 : decode cMo_load 33 = .ok (.lload_n 1, 1) := by decide +kernel
theorem dMo_load_34 : decode cMo_load 34 = .ok (.bipush 8, 2) := by decide +kernel
theorem dMo_load_36 : decode cMo_load 36 = .ok (.iload 4, 2) := by decide +kernel
theorem dMo_load_38 : decode cMo_load 38 = .ok (.imul, 1) := by decide +kernel
theorem dMo_load_39 : decode cMo_load 39 = .ok (.lshr, 1) := by decide +kernel
theorem dMo_load_40 : decode cMo_load 40 = .ok (.ldc2_w 123, 3) := by decide +kernel
theorem dMo_load_43 : decode cMo_load 43 = .ok (.land, 1) := by decide +kernel
theorem dMo_load_44 : decode cMo_load 44 = .ok (.ldc2_w 125, 3) := by decide +kernel
theorem dMo_load_47 : decode cMo_load 47 = .ok (.lcmp, 1) := by decide +kernel
theorem dMo_load_48 : decode cMo_load 48 = .ok (.ifCond .le 5, 3) := by decide +kernel
theorem dMo_load_51 : decode cMo_load 51 = .ok (.iconst (-1), 1) := by decide +kernel
theorem dMo_load_52 : decode cMo_load 52 = .ok (.ireturn, 1) := by decide +kernel
theorem dMo_load_53 : decode cMo_load 53 = .ok (.iinc 4 1, 3) := by decide +kernel
theorem dMo_load_56 : decode cMo_load 56 = .ok (.goto (-29), 3) := by decide +kernel
theorem dMo_load_59 : decode cMo_load 59 = .ok (.iload_n 3, 1) := by decide +kernel
theorem dMo_load_60 : decode cMo_load 60 = .ok (.iconst 1, 1) := by decide +kernel
theorem dMo_load_61 : decode cMo_load 61 = .ok (.isub, 1) := by decide +kernel
theorem dMo_load_62 : decode cMo_load 62 = .ok (.istore 4, 2) := by decide +kernel
theorem dMo_load_64 : decode cMo_load 64 = .ok (.iload 4, 2) := by decide +kernel
theorem dMo_load_66 : decode cMo_load 66 = .ok (.ifCond .lt 40, 3) := by decide +kernel
theorem dMo_load_69 : decode cMo_load 69 = .ok (.aload_n 0, 1) := by decide +kernel
theorem dMo_load_70 : decode cMo_load 70 = .ok (.getfield 38, 3) := by decide +kernel
theorem dMo_load_73 : decode cMo_load 73 = .ok (.aload_n 0, 1) := by decide +kernel
theorem dMo_load_74 : decode cMo_load 74 = .ok (.getfield 120, 3) := by decide +kernel
theorem dMo_load_77 : decode cMo_load 77 = .ok (.lload_n 1, 1) := by decide +kernel
theorem dMo_load_78 : decode cMo_load 78 = .ok (.bipush 8, 2) := by decide +kernel
theorem dMo_load_80 : decode cMo_load 80 = .ok (.iload 4, 2) := by decide +kernel
theorem dMo_load_82 : decode cMo_load 82 = .ok (.imul, 1) := by decide +kernel
theorem dMo_load_83 : decode cMo_load 83 = .ok (.lshr, 1) := by decide +kernel
theorem dMo_load_84 : decode cMo_load 84 = .ok (.ldc2_w 123, 3) := by decide +kernel
theorem dMo_load_87 : decode cMo_load 87 = .ok (.land, 1) := by decide +kernel
theorem dMo_load_88 : decode cMo_load 88 = .ok (.l2i, 1) := by decide +kernel
theorem dMo_load_89 : decode cMo_load 89 = .ok (.iastore, 1) := by decide +kernel
theorem dMo_load_90 : decode cMo_load 90 = .ok (.aload_n 0, 1) := by decide +kernel
theorem dMo_load_91 : decode cMo_load 91 = .ok (.dup, 1) := by decide +kernel
theorem dMo_load_92 : decode cMo_load 92 = .ok (.getfield 120, 3) := by decide +kernel
theorem dMo_load_95 : decode cMo_load 95 = .ok (.iconst 1, 1) := by decide +kernel
theorem dMo_load_96 : decode cMo_load 96 = .ok (.iadd, 1) := by decide +kernel
theorem dMo_load_97 : decode cMo_load 97 = .ok (.putfield 120, 3) := by decide +kernel
theorem dMo_load_100 : decode cMo_load 100 = .ok (.iinc 4 (-1), 3) := by decide +kernel
theorem dMo_load_103 : decode cMo_load 103 = .ok (.goto (-39), 3) := by decide +kernel
theorem dMo_load_106 : decode cMo_load 106 = .ok (.aload_n 0, 1) := by decide +kernel
theorem dMo_load_107 : decode cMo_load 107 = .ok (.getfield 120, 3) := by decide +kernel
theorem dMo_load_110 : decode cMo_load 110 = .ok (.ireturn, 1) := by decide +kernel
theorem dMo_look_0 : decode cMo_look 0 = .ok (.aload_n 0, 1) := by decide +kernel
theorem dMo_look_1 : decode cMo_look 1 = .ok (.iload_n 1, 1) := by decide +kernel
theorem dMo_look_2 : decode cMo_look 2 = .ok (.invokevirtual 198, 3) := by decide +kernel
theorem dMo_look_5 : decode cMo_look 5 = .ok (.istore_n 3, 1) := by decide +kernel
theorem dMo_look_6 : decode cMo_look 6 = .ok (.iload_n 3, 1) := by decide +kernel
theorem dMo_look_7 : decode cMo_look 7 = .ok (.ifCond .ge 26, 3) := by decide +kernel
theorem dMo_look_10 : decode cMo_look 10 = .ok (.aload_n 0, 1) := by decide +kernel
theorem dMo_look_11 : decode cMo_look 11 = .ok (.getfield 81, 3) := by decide +kernel
theorem dMo_look_14 : decode cMo_look 14 = .ok (.iconst 4, 1) := by decide +kernel
theorem dMo_look_15 : decode cMo_look 15 = .ok (.aload_n 0, 1) := by decide +kernel
theorem dMo_look_16 : decode cMo_look 16 = .ok (.getfield 178, 3) := by decide +kernel
theorem dMo_look_19 : decode cMo_look 19 = .ok (.imul, 1) := by decide +kernel
theorem dMo_look_20 : decode cMo_look 20 = .ok (.iconst 2, 1) := by decide +kernel
theorem dMo_look_21 : decode cMo_look 21 = .ok (.iadd, 1) := by decide +kernel
theorem dMo_look_22 : decode cMo_look 22 = .ok (.dup2, 1) := by decide +kernel
theorem dMo_look_23 : decode cMo_look 23 = .ok (.iaload, 1) := by decide +kernel
theorem dMo_look_24 : decode cMo_look 24 = .ok (.iconst 1, 1) := by decide +kernel
theorem dMo_look_25 : decode cMo_look 25 = .ok (.iadd, 1) := by decide +kernel
theorem dMo_look_26 : decode cMo_look 26 = .ok (.iastore, 1) := by decide +kernel
theorem dMo_look_27 : decode cMo_look 27 = .ok (.aload_n 0, 1) := by decide +kernel
theorem dMo_look_28 : decode cMo_look 28 = .ok (.iconst 1, 1) := by decide +kernel
theorem dMo_look_29 : decode cMo_look 29 = .ok (.invokevirtual 201, 3) := by decide +kernel
theorem dMo_look_32 : decode cMo_look 32 = .ok (.return_, 1) := by decide +kernel
theorem dMo_look_33 : decode cMo_look 33 = .ok (.aload_n 0, 1) := by decide +kernel
theorem dMo_look_34 : decode cMo_look 34 = .ok (.getfield 81, 3) := by decide +kernel
theorem dMo_look_37 : decode cMo_look 37 = .ok (.iconst 4, 1) := by decide +kernel
theorem dMo_look_38 : decode cMo_look 38 = .ok (.aload_n 0, 1) := by decide +kernel
theorem dMo_look_39 : decode cMo_look 39 = .ok (.getfield 178, 3) := by decide +kernel
theorem dMo_look_42 : decode cMo_look 42 = .ok (.imul, 1) := by decide +kernel
theorem dMo_look_43 : decode cMo_look 43 = .ok (.iconst 1, 1) := by decide +kernel
theorem dMo_look_44 : decode cMo_look 44 = .ok (.iadd, 1) := by decide +kernel
theorem dMo_look_45 : decode cMo_look 45 = .ok (.aload_n 0, 1) := by decide +kernel
theorem dMo_look_46 : decode cMo_look 46 = .ok (.getfield 81, 3) := by decide +kernel
theorem dMo_look_49 : decode cMo_look 49 = .ok (.iconst 4, 1) := by decide +kernel
theorem dMo_look_50 : decode cMo_look 50 = .ok (.aload_n 0, 1) := by decide +kernel
theorem dMo_look_51 : decode cMo_look 51 = .ok (.getfield 178, 3) := by decide +kernel
theorem dMo_look_54 : decode cMo_look 54 = .ok (.imul, 1) := by decide +kernel
theorem dMo_look_55 : decode cMo_look 55 = .ok (.iconst 1, 1) := by decide +kernel
theorem dMo_look_56 : decode cMo_look 56 = .ok (.iadd, 1) := by decide +kernel
theorem dMo_look_57 : decode cMo_look 57 = .ok (.iaload, 1) := by decide +kernel
theorem dMo_look_58 : decode cMo_look 58 = .ok (.iload_n 3, 1) := by decide +kernel
theorem dMo_look_59 : decode cMo_look 59 = .ok (.invokestatic 95, 3) := by decide +kernel
theorem dMo_look_62 : decode cMo_look 62 = .ok (.iload_n 1, 1) := by decide +kernel
theorem dMo_look_63 : decode cMo_look 63 = .ok (.ixor, 1) := by decide +kernel
theorem dMo_look_64 : decode cMo_look 64 = .ok (.invokestatic 172, 3) := by decide +kernel
theorem dMo_look_67 : decode cMo_look 67 = .ok (.iadd, 1) := by decide +kernel
theorem dMo_look_68 : decode cMo_look 68 = .ok (.iastore, 1) := by decide +kernel
theorem dMo_look_69 : decode cMo_look 69 = .ok (.aload_n 0, 1) := by decide +kernel
theorem dMo_look_70 : decode cMo_look 70 = .ok (.getfield 84, 3) := by decide +kernel
theorem dMo_look_73 : decode cMo_look 73 = .ok (.ifCond .lt 15, 3) := by decide +kernel
theorem dMo_look_76 : decode cMo_look 76 = .ok (.iload_n 3, 1) := by decide +kernel
theorem dMo_look_77 : decode cMo_look 77 = .ok (.ldc 205, 2) := by decide +kernel
theorem dMo_look_79 : decode cMo_look 79 = .ok (.if_icmp .lt 9, 3) := by decide +kernel
theorem dMo_look_82 : decode cMo_look 82 = .ok (.aload_n 0, 1) := by decide +kernel
theorem dMo_look_83 : decode cMo_look 83 = .ok (.iload_n 3, 1) := by decide +kernel
theorem dMo_look_84 : decode cMo_look 84 = .ok (.invokevirtual 206, 3) := by decide +kernel
theorem dMo_look_87 : decode cMo_look 87 = .ok (.return_, 1) := by decide +kernel
theorem dMo_look_88 : decode cMo_look 88 = .ok (.aload_n 0, 1) := by decide +kernel
theorem dMo_look_89 : decode cMo_look 89 = .ok (.iconst 0, 1) := by decide +kernel
theorem dMo_look_90 : decode cMo_look 90 = .ok (.invokevirtual 201, 3) := by decide +kernel
theorem dMo_look_93 : decode cMo_look 93 = .ok (.aload_n 0, 1) := by decide +kernel
theorem dMo_look_94 : decode cMo_look 94 = .ok (.aload_n 0, 1) := by decide +kernel
theorem dMo_look_95 : decode cMo_look 95 = .ok (.iload_n 3, 1) := by decide +kernel
theorem dMo_look_96 : decode cMo_look 96 = .ok (.iload_n 2, 1) := by decide +kernel
theorem dMo_look_97 : decode cMo_look 97 = .ok (.invokevirtual 209, 3) := by decide +kernel
theorem dMo_look_100 : decode cMo_look 100 = .ok (.putfield 84, 3) := by decide +kernel
theorem dMo_look_103 : decode cMo_look 103 = .ok (.aload_n 0, 1) := by decide +kernel
theorem dMo_look_104 : decode cMo_look 104 = .ok (.iconst 0, 1) := by decide +kernel
theorem dMo_look_105 : decode cMo_look 105 = .ok (.putfield 183, 3) := by decide +kernel
theorem dMo_look_108 : decode cMo_look 108 = .ok (.return_, 1) := by decide +kernel
theorem dMo_message_0 : decode cMo_message 0 = .ok (.aload_n 0, 1) := by decide +kernel
theorem dMo_message_1 : decode cMo_message 1 = .ok (.iload_n 1, 1) := by decide +kernel
theorem dMo_message_2 : decode cMo_message 2 = .ok (.iload_n 2, 1) := by decide +kernel
theorem dMo_message_3 : decode cMo_message 3 = .ok (.invokevirtual 224, 3) := by decide +kernel
theorem dMo_message_6 : decode cMo_message 6 = .ok (.ifCond .eq 12, 3) := by decide +kernel
theorem dMo_message_9 : decode cMo_message 9 = .ok (.iload_n 3, 1) := by decide +kernel
theorem dMo_message_10 : decode cMo_message 10 = .ok (.ifCond .lt 8, 3) := by decide +kernel
theorem dMo_message_13 : decode cMo_message 13 = .ok (.iload_n 3, 1) := by decide +kernel
theorem dMo_message_14 : decode cMo_message 14 = .ok (.iconst 3, 1) := by decide +kernel
theorem dMo_message_15 : decode cMo_message 15 = .ok (.if_icmp .le 5, 3) := by decide +kernel
theorem dMo_message_18 : decode cMo_message 18 = .ok (.iconst (-1), 1) := by decide +kernel
theorem dMo_message_19 : decode cMo_message 19 = .ok (.ireturn, 1) := by decide +kernel
theorem dMo_message_20 : decode cMo_message 20 = .ok (.bipush 10, 2) := by decide +kernel
theorem dMo_message_22 : decode cMo_message 22 = .ok (.iload_n 1, 1) := by decide +kernel
theorem dMo_message_23 : decode cMo_message 23 = .ok (.imul, 1) := by decide +kernel
theorem dMo_message_24 : decode cMo_message 24 = .ok (.iload_n 2, 1) := by decide +kernel
theorem dMo_message_25 : decode cMo_message 25 = .ok (.iadd, 1) := by decide +kernel
theorem dMo_message_26 : decode cMo_message 26 = .ok (.istore 4, 2) := by decide +kernel
theorem dMo_message_28 : decode cMo_message 28 = .ok (.iload_n 3, 1) := by decide +kernel
theorem dMo_message_29 : decode cMo_message 29 = .ok (.ifCond .ne 13, 3) := by decide +kernel
theorem dMo_message_32 : decode cMo_message 32 = .ok (.aload_n 0, 1) := by decide +kernel
theorem dMo_message_33 : decode cMo_message 33 = .ok (.getfield 59, 3) := by decide +kernel
theorem dMo_message_36 : decode cMo_message 36 = .ok (.iload 4, 2) := by decide +kernel
theorem dMo_message_38 : decode cMo_message 38 = .ok (.iaload, 1) := by decide +kernel
theorem dMo_message_39 : decode cMo_message 39 = .ok (.goto 48, 3) := by decide +kernel
theorem dMo_message_42 : decode cMo_message 42 = .ok (.iload_n 3, 1) := by decide +kernel
theorem dMo_message_43 : decode cMo_message 43 = .ok (.iconst 1, 1) := by decide +kernel
theorem dMo_message_44 : decode cMo_message 44 = .ok (.if_icmp .ne 13, 3) := by decide +kernel
theorem dMo_message_47 : decode cMo_message 47 = .ok (.aload_n 0, 1) := by decide +kernel
theorem dMo_message_48 : decode cMo_message 48 = .ok (.getfield 62, 3) := by decide +kernel
theorem dMo_message_51 : decode cMo_message 51 = .ok (.iload 4, 2) := by decide +kernel
theorem dMo_message_53 : decode cMo_message 53 = .ok (.iaload, 1) := by decide +kernel
theorem dMo_message_54 : decode cMo_message 54 = .ok (.goto 33, 3) := by decide +kernel
theorem dMo_message_57 : decode cMo_message 57 = .ok (.iload_n 3, 1) := by decide +kernel
theorem dMo_message_58 : decode cMo_message 58 = .ok (.iconst 2, 1) := by decide +kernel
theorem dMo_message_59 : decode cMo_message 59 = .ok (.if_icmp .ne 13, 3) := by decide +kernel
theorem dMo_message_62 : decode cMo_message 62 = .ok (.aload_n 0, 1) := by decide +kernel
theorem dMo_message_63 : decode cMo_message 63 = .ok (.getfield 65, 3) := by decide +kernel
theorem dMo_message_66 : decode cMo_message 66 = .ok (.iload 4, 2) := by decide +kernel
theorem dMo_message_68 : decode cMo_message 68 = .ok (.iaload, 1) := by decide +kernel
theorem dMo_message_69 : decode cMo_message 69 = .ok (.goto 18, 3) := by decide +kernel
theorem dMo_message_72 : decode cMo_message 72 = .ok (.aload_n 0, 1) := by decide +kernel
theorem dMo_message_73 : decode cMo_message 73 = .ok (.getfield 68, 3) := by decide +kernel
theorem dMo_message_76 : decode cMo_message 76 = .ok (.iload 4, 2) := by decide +kernel
theorem dMo_message_78 : decode cMo_message 78 = .ok (.baload, 1) := by decide +kernel
theorem dMo_message_79 : decode cMo_message 79 = .ok (.ifCond .eq 7, 3) := by decide +kernel
theorem dMo_message_82 : decode cMo_message 82 = .ok (.iconst 1, 1) := by decide +kernel
theorem dMo_message_83 : decode cMo_message 83 = .ok (.goto 4, 3) := by decide +kernel
theorem dMo_message_86 : decode cMo_message 86 = .ok (.iconst 0, 1) := by decide +kernel
theorem dMo_message_87 : decode cMo_message 87 = .ok (.ireturn, 1) := by decide +kernel
theorem dMo_missed_0 : decode cMo_missed 0 = .ok (.aload_n 0, 1) := by decide +kernel
theorem dMo_missed_1 : decode cMo_missed 1 = .ok (.iload_n 1, 1) := by decide +kernel
theorem dMo_missed_2 : decode cMo_missed 2 = .ok (.invokevirtual 110, 3) := by decide +kernel
theorem dMo_missed_5 : decode cMo_missed 5 = .ok (.ifCond .eq 34, 3) := by decide +kernel
theorem dMo_missed_8 : decode cMo_missed 8 = .ok (.aload_n 0, 1) := by decide +kernel
theorem dMo_missed_9 : decode cMo_missed 9 = .ok (.iload_n 2, 1) := by decide +kernel
theorem dMo_missed_10 : decode cMo_missed 10 = .ok (.invokevirtual 113, 3) := by decide +kernel
theorem dMo_missed_13 : decode cMo_missed 13 = .ok (.ifCond .eq 26, 3) := by decide +kernel
theorem dMo_missed_16 : decode cMo_missed 16 = .ok (.aload_n 0, 1) := by decide +kernel
theorem dMo_missed_17 : decode cMo_missed 17 = .ok (.iload_n 1, 1) := by decide +kernel
theorem dMo_missed_18 : decode cMo_missed 18 = .ok (.iload_n 2, 1) := by decide +kernel
theorem dMo_missed_19 : decode cMo_missed 19 = .ok (.invokevirtual 116, 3) := by decide +kernel
theorem dMo_missed_22 : decode cMo_missed 22 = .ok (.ifCond .eq 17, 3) := by decide +kernel
theorem dMo_missed_25 : decode cMo_missed 25 = .ok (.aload_n 0, 1) := by decide +kernel
theorem dMo_missed_26 : decode cMo_missed 26 = .ok (.getfield 74, 3) := by decide +kernel
theorem dMo_missed_29 : decode cMo_missed 29 = .ok (.bipush 12, 2) := by decide +kernel
theorem dMo_missed_31 : decode cMo_missed 31 = .ok (.iload_n 1, 1) := by decide +kernel
theorem dMo_missed_32 : decode cMo_missed 32 = .ok (.imul, 1) := by decide +kernel
theorem dMo_missed_33 : decode cMo_missed 33 = .ok (.iload_n 2, 1) := by decide +kernel
theorem dMo_missed_34 : decode cMo_missed 34 = .ok (.iadd, 1) := by decide +kernel
theorem dMo_missed_35 : decode cMo_missed 35 = .ok (.laload, 1) := by decide +kernel
theorem dMo_missed_36 : decode cMo_missed 36 = .ok (.goto 4, 3) := by decide +kernel
theorem dMo_missed_39 : decode cMo_missed 39 = .ok (.lconst 0, 1) := by decide +kernel
theorem dMo_missed_40 : decode cMo_missed 40 = .ok (.lreturn, 1) := by decide +kernel
theorem dMo_note_0 : decode cMo_note 0 = .ok (.bipush 12, 2) := by decide +kernel
theorem dMo_note_2 : decode cMo_note 2 = .ok (.aload_n 0, 1) := by decide +kernel
theorem dMo_note_3 : decode cMo_note 3 = .ok (.getfield 178, 3) := by decide +kernel
theorem dMo_note_6 : decode cMo_note 6 = .ok (.imul, 1) := by decide +kernel
theorem dMo_note_7 : decode cMo_note 7 = .ok (.aload_n 0, 1) := by decide +kernel
theorem dMo_note_8 : decode cMo_note 8 = .ok (.getfield 84, 3) := by decide +kernel
theorem dMo_note_11 : decode cMo_note 11 = .ok (.iadd, 1) := by decide +kernel
theorem dMo_note_12 : decode cMo_note 12 = .ok (.istore_n 2, 1) := by decide +kernel
theorem dMo_note_13 : decode cMo_note 13 = .ok (.aload_n 0, 1) := by decide +kernel
theorem dMo_note_14 : decode cMo_note 14 = .ok (.getfield 78, 3) := by decide +kernel
theorem dMo_note_17 : decode cMo_note 17 = .ok (.iload_n 2, 1) := by decide +kernel
theorem dMo_note_18 : decode cMo_note 18 = .ok (.iaload, 1) := by decide +kernel
theorem dMo_note_19 : decode cMo_note 19 = .ok (.ifCond .ge 7, 3) := by decide +kernel
theorem dMo_note_22 : decode cMo_note 22 = .ok (.iconst 0, 1) := by decide +kernel
theorem dMo_note_23 : decode cMo_note 23 = .ok (.goto 17, 3) := by decide +kernel
theorem dMo_note_26 : decode cMo_note 26 = .ok (.iload_n 1, 1) := by decide +kernel
theorem dMo_note_27 : decode cMo_note 27 = .ok (.aload_n 0, 1) := by decide +kernel
theorem dMo_note_28 : decode cMo_note 28 = .ok (.getfield 78, 3) := by decide +kernel
theorem dMo_note_31 : decode cMo_note 31 = .ok (.iload_n 2, 1) := by decide +kernel
theorem dMo_note_32 : decode cMo_note 32 = .ok (.iaload, 1) := by decide +kernel
theorem dMo_note_33 : decode cMo_note 33 = .ok (.isub, 1) := by decide +kernel
theorem dMo_note_34 : decode cMo_note 34 = .ok (.bipush 64, 2) := by decide +kernel
theorem dMo_note_36 : decode cMo_note 36 = .ok (.iadd, 1) := by decide +kernel
theorem dMo_note_37 : decode cMo_note 37 = .ok (.bipush 64, 2) := by decide +kernel
theorem dMo_note_39 : decode cMo_note 39 = .ok (.irem, 1) := by decide +kernel
theorem dMo_note_40 : decode cMo_note 40 = .ok (.istore_n 3, 1) := by decide +kernel
theorem dMo_note_41 : decode cMo_note 41 = .ok (.iload_n 3, 1) := by decide +kernel
theorem dMo_note_42 : decode cMo_note 42 = .ok (.ifCond .le 51, 3) := by decide +kernel
theorem dMo_note_45 : decode cMo_note 45 = .ok (.iload_n 3, 1) := by decide +kernel
theorem dMo_note_46 : decode cMo_note 46 = .ok (.bipush 32, 2) := by decide +kernel
theorem dMo_note_48 : decode cMo_note 48 = .ok (.if_icmp .ge 45, 3) := by decide +kernel
theorem dMo_note_51 : decode cMo_note 51 = .ok (.iconst 1, 1) := by decide +kernel
theorem dMo_note_52 : decode cMo_note 52 = .ok (.istore 4, 2) := by decide +kernel
theorem dMo_note_54 : decode cMo_note 54 = .ok (.iload 4, 2) := by decide +kernel
theorem dMo_note_56 : decode cMo_note 56 = .ok (.iload_n 3, 1) := by decide +kernel
theorem dMo_note_57 : decode cMo_note 57 = .ok (.if_icmp .ge 36, 3) := by decide +kernel
theorem dMo_note_60 : decode cMo_note 60 = .ok (.aload_n 0, 1) := by decide +kernel
theorem dMo_note_61 : decode cMo_note 61 = .ok (.getfield 74, 3) := by decide +kernel
theorem dMo_note_64 : decode cMo_note 64 = .ok (.iload_n 2, 1) := by decide +kernel
theorem dMo_note_65 : decode cMo_note 65 = .ok (.aload_n 0, 1) := by decide +kernel
theorem dMo_note_66 : decode cMo_note 66 = .ok (.getfield 74, 3) := by decide +kernel
theorem dMo_note_69 : decode cMo_note 69 = .ok (.iload_n 2, 1) := by decide +kernel
theorem dMo_note_70 : decode cMo_note 70 = .ok (.laload, 1) := by decide +kernel
theorem dMo_note_71 : decode cMo_note 71 = .ok (.lconst 1, 1) := by decide +kernel
theorem dMo_note_72 : decode cMo_note 72 = .ok (.aload_n 0, 1) := by decide +kernel
theorem dMo_note_73 : decode cMo_note 73 = .ok (.getfield 78, 3) := by decide +kernel
theorem dMo_note_76 : decode cMo_note 76 = .ok (.iload_n 2, 1) := by decide +kernel
theorem dMo_note_77 : decode cMo_note 77 = .ok (.iaload, 1) := by decide +kernel
theorem dMo_note_78 : decode cMo_note 78 = .ok (.iload 4, 2) := by decide +kernel
theorem dMo_note_80 : decode cMo_note 80 = .ok (.iadd, 1) := by decide +kernel
theorem dMo_note_81 : decode cMo_note 81 = .ok (.bipush 64, 2) := by decide +kernel
theorem dMo_note_83 : decode cMo_note 83 = .ok (.irem, 1) := by decide +kernel
theorem dMo_note_84 : decode cMo_note 84 = .ok (.lshl, 1) := by decide +kernel
theorem dMo_note_85 : decode cMo_note 85 = .ok (.lor, 1) := by decide +kernel
theorem dMo_note_86 : decode cMo_note 86 = .ok (.lastore, 1) := by decide +kernel
theorem dMo_note_87 : decode cMo_note 87 = .ok (.iinc 4 1, 3) := by decide +kernel
theorem dMo_note_90 : decode cMo_note 90 = .ok (.goto (-36), 3) := by decide +kernel
theorem dMo_note_93 : decode cMo_note 93 = .ok (.aload_n 0, 1) := by decide +kernel
theorem dMo_note_94 : decode cMo_note 94 = .ok (.getfield 78, 3) := by decide +kernel
theorem dMo_note_97 : decode cMo_note 97 = .ok (.iload_n 2, 1) := by decide +kernel
theorem dMo_note_98 : decode cMo_note 98 = .ok (.aload_n 0, 1) := by decide +kernel
theorem dMo_note_99 : decode cMo_note 99 = .ok (.getfield 78, 3) := by decide +kernel
theorem dMo_note_102 : decode cMo_note 102 = .ok (.iload_n 2, 1) := by decide +kernel
theorem dMo_note_103 : decode cMo_note 103 = .ok (.iaload, 1) := by decide +kernel
theorem dMo_note_104 : decode cMo_note 104 = .ok (.ifCond .lt 13, 3) := by decide +kernel
theorem dMo_note_107 : decode cMo_note 107 = .ok (.iload_n 3, 1) := by decide +kernel
theorem dMo_note_108 : decode cMo_note 108 = .ok (.ifCond .le 13, 3) := by decide +kernel
theorem dMo_note_111 : decode cMo_note 111 = .ok (.iload_n 3, 1) := by decide +kernel
theorem dMo_note_112 : decode cMo_note 112 = .ok (.bipush 32, 2) := by decide +kernel
theorem dMo_note_114 : decode cMo_note 114 = .ok (.if_icmp .ge 7, 3) := by decide +kernel
theorem dMo_note_117 : decode cMo_note 117 = .ok (.iload_n 1, 1) := by decide +kernel
theorem dMo_note_118 : decode cMo_note 118 = .ok (.goto 9, 3) := by decide +kernel
theorem dMo_note_121 : decode cMo_note 121 = .ok (.aload_n 0, 1) := by decide +kernel
theorem dMo_note_122 : decode cMo_note 122 = .ok (.getfield 78, 3) := by decide +kernel
theorem dMo_note_125 : decode cMo_note 125 = .ok (.iload_n 2, 1) := by decide +kernel
theorem dMo_note_126 : decode cMo_note 126 = .ok (.iaload, 1) := by decide +kernel
theorem dMo_note_127 : decode cMo_note 127 = .ok (.iastore, 1) := by decide +kernel
theorem dMo_note_128 : decode cMo_note 128 = .ok (.aload_n 0, 1) := by decide +kernel
theorem dMo_note_129 : decode cMo_note 129 = .ok (.getfield 74, 3) := by decide +kernel
theorem dMo_note_132 : decode cMo_note 132 = .ok (.iload_n 2, 1) := by decide +kernel
theorem dMo_note_133 : decode cMo_note 133 = .ok (.aload_n 0, 1) := by decide +kernel
theorem dMo_note_134 : decode cMo_note 134 = .ok (.getfield 74, 3) := by decide +kernel
theorem dMo_note_137 : decode cMo_note 137 = .ok (.iload_n 2, 1) := by decide +kernel
theorem dMo_note_138 : decode cMo_note 138 = .ok (.laload, 1) := by decide +kernel
theorem dMo_note_139 : decode cMo_note 139 = .ok (.lconst 1, 1) := by decide +kernel
theorem dMo_note_140 : decode cMo_note 140 = .ok (.iload_n 1, 1) := by decide +kernel
theorem dMo_note_141 : decode cMo_note 141 = .ok (.lshl, 1) := by decide +kernel
theorem dMo_note_142 : decode cMo_note 142 = .ok (.ldc2_w 181, 3) := by decide +kernel
theorem dMo_note_145 : decode cMo_note 145 = .ok (.lxor, 1) := by decide +kernel
theorem dMo_note_146 : decode cMo_note 146 = .ok (.land, 1) := by decide +kernel
theorem dMo_note_147 : decode cMo_note 147 = .ok (.lastore, 1) := by decide +kernel
theorem dMo_note_148 : decode cMo_note 148 = .ok (.return_, 1) := by decide +kernel
theorem dMo_numberOf_0 : decode cMo_numberOf 0 = .ok (.aload_n 0, 1) := by decide +kernel
theorem dMo_numberOf_1 : decode cMo_numberOf 1 = .ok (.getfield 13, 3) := by decide +kernel
theorem dMo_numberOf_4 : decode cMo_numberOf 4 = .ok (.aload_n 0, 1) := by decide +kernel
theorem dMo_numberOf_5 : decode cMo_numberOf 5 = .ok (.getfield 84, 3) := by decide +kernel
theorem dMo_numberOf_8 : decode cMo_numberOf 8 = .ok (.iaload, 1) := by decide +kernel
theorem dMo_numberOf_9 : decode cMo_numberOf 9 = .ok (.iconst 1, 1) := by decide +kernel
theorem dMo_numberOf_10 : decode cMo_numberOf 10 = .ok (.if_icmp .ne 40, 3) := by decide +kernel
theorem dMo_numberOf_13 : decode cMo_numberOf 13 = .ok (.iload_n 1, 1) := by decide +kernel
theorem dMo_numberOf_14 : decode cMo_numberOf 14 = .ok (.ifCond .le 34, 3) := by decide +kernel
theorem dMo_numberOf_17 : decode cMo_numberOf 17 = .ok (.aload_n 0, 1) := by decide +kernel
theorem dMo_numberOf_18 : decode cMo_numberOf 18 = .ok (.iconst 0, 1) := by decide +kernel
theorem dMo_numberOf_19 : decode cMo_numberOf 19 = .ok (.invokevirtual 175, 3) := by decide +kernel
theorem dMo_numberOf_22 : decode cMo_numberOf 22 = .ok (.bipush 32, 2) := by decide +kernel
theorem dMo_numberOf_24 : decode cMo_numberOf 24 = .ok (.if_icmp .lt 24, 3) := by decide +kernel
theorem dMo_numberOf_27 : decode cMo_numberOf 27 = .ok (.aload_n 0, 1) := by decide +kernel
theorem dMo_numberOf_28 : decode cMo_numberOf 28 = .ok (.iconst 0, 1) := by decide +kernel
theorem dMo_numberOf_29 : decode cMo_numberOf 29 = .ok (.invokevirtual 175, 3) := by decide +kernel
