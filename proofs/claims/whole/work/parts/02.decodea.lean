theorem dWP_init_0 : decode cWP_init 0 = .ok (.aload_n 0, 1) := by decide +kernel
theorem dWP_init_1 : decode cWP_init 1 = .ok (.invokespecial 3, 3) := by decide +kernel
theorem dWP_init_4 : decode cWP_init 4 = .ok (.aload_n 0, 1) := by decide +kernel
theorem dWP_init_5 : decode cWP_init 5 = .ok (.bipush 12, 2) := by decide +kernel
theorem dWP_init_7 : decode cWP_init 7 = .ok (.anewarray 9, 3) := by decide +kernel
theorem dWP_init_10 : decode cWP_init 10 = .ok (.putfield 11, 3) := by decide +kernel
theorem dWP_init_13 : decode cWP_init 13 = .ok (.aload_n 0, 1) := by decide +kernel
theorem dWP_init_14 : decode cWP_init 14 = .ok (.iconst 0, 1) := by decide +kernel
theorem dWP_init_15 : decode cWP_init 15 = .ok (.putfield 15, 3) := by decide +kernel
theorem dWP_init_18 : decode cWP_init 18 = .ok (.aload_n 0, 1) := by decide +kernel
theorem dWP_init_19 : decode cWP_init 19 = .ok (.bipush 6, 2) := by decide +kernel
theorem dWP_init_21 : decode cWP_init 21 = .ok (.anewarray 19, 3) := by decide +kernel
theorem dWP_init_24 : decode cWP_init 24 = .ok (.putfield 21, 3) := by decide +kernel
theorem dWP_init_27 : decode cWP_init 27 = .ok (.aload_n 0, 1) := by decide +kernel
theorem dWP_init_28 : decode cWP_init 28 = .ok (.iconst 0, 1) := by decide +kernel
theorem dWP_init_29 : decode cWP_init 29 = .ok (.putfield 25, 3) := by decide +kernel
theorem dWP_init_32 : decode cWP_init 32 = .ok (.aload_n 0, 1) := by decide +kernel
theorem dWP_init_33 : decode cWP_init 33 = .ok (.sipush 200, 3) := by decide +kernel
theorem dWP_init_36 : decode cWP_init 36 = .ok (.anewarray 28, 3) := by decide +kernel
theorem dWP_init_39 : decode cWP_init 39 = .ok (.putfield 30, 3) := by decide +kernel
theorem dWP_init_42 : decode cWP_init 42 = .ok (.aload_n 0, 1) := by decide +kernel
theorem dWP_init_43 : decode cWP_init 43 = .ok (.iconst 0, 1) := by decide +kernel
theorem dWP_init_44 : decode cWP_init 44 = .ok (.putfield 34, 3) := by decide +kernel
theorem dWP_init_47 : decode cWP_init 47 = .ok (.aload_n 0, 1) := by decide +kernel
theorem dWP_init_48 : decode cWP_init 48 = .ok (.iconst 0, 1) := by decide +kernel
theorem dWP_init_49 : decode cWP_init 49 = .ok (.putfield 37, 3) := by decide +kernel
theorem dWP_init_52 : decode cWP_init 52 = .ok (.aload_n 0, 1) := by decide +kernel
theorem dWP_init_53 : decode cWP_init 53 = .ok (.bipush 20, 2) := by decide +kernel
theorem dWP_init_55 : decode cWP_init 55 = .ok (.newarray .int, 2) := by decide +kernel
theorem dWP_init_57 : decode cWP_init 57 = .ok (.putfield 40, 3) := by decide +kernel
theorem dWP_init_60 : decode cWP_init 60 = .ok (.aload_n 0, 1) := by decide +kernel
theorem dWP_init_61 : decode cWP_init 61 = .ok (.iconst 0, 1) := by decide +kernel
theorem dWP_init_62 : decode cWP_init 62 = .ok (.putfield 44, 3) := by decide +kernel
theorem dWP_init_65 : decode cWP_init 65 = .ok (.aload_n 0, 1) := by decide +kernel
theorem dWP_init_66 : decode cWP_init 66 = .ok (.new 47, 3) := by decide +kernel
theorem dWP_init_69 : decode cWP_init 69 = .ok (.dup, 1) := by decide +kernel
theorem dWP_init_70 : decode cWP_init 70 = .ok (.invokespecial 49, 3) := by decide +kernel
theorem dWP_init_73 : decode cWP_init 73 = .ok (.putfield 50, 3) := by decide +kernel
theorem dWP_init_76 : decode cWP_init 76 = .ok (.aload_n 0, 1) := by decide +kernel
theorem dWP_init_77 : decode cWP_init 77 = .ok (.new 54, 3) := by decide +kernel
theorem dWP_init_80 : decode cWP_init 80 = .ok (.dup, 1) := by decide +kernel
theorem dWP_init_81 : decode cWP_init 81 = .ok (.invokespecial 56, 3) := by decide +kernel
theorem dWP_init_84 : decode cWP_init 84 = .ok (.putfield 57, 3) := by decide +kernel
theorem dWP_init_87 : decode cWP_init 87 = .ok (.aload_n 0, 1) := by decide +kernel
theorem dWP_init_88 : decode cWP_init 88 = .ok (.new 61, 3) := by decide +kernel
theorem dWP_init_91 : decode cWP_init 91 = .ok (.dup, 1) := by decide +kernel
theorem dWP_init_92 : decode cWP_init 92 = .ok (.invokespecial 63, 3) := by decide +kernel
theorem dWP_init_95 : decode cWP_init 95 = .ok (.putfield 64, 3) := by decide +kernel
theorem dWP_init_98 : decode cWP_init 98 = .ok (.return_, 1) := by decide +kernel
theorem dWP_areLoadedSignsOf_0 : decode cWP_areLoadedSignsOf 0 = .ok (.iconst 0, 1) := by decide +kernel
theorem dWP_areLoadedSignsOf_1 : decode cWP_areLoadedSignsOf 1 = .ok (.istore_n 2, 1) := by decide +kernel
theorem dWP_areLoadedSignsOf_2 : decode cWP_areLoadedSignsOf 2 = .ok (.iload_n 2, 1) := by decide +kernel
theorem dWP_areLoadedSignsOf_3 : decode cWP_areLoadedSignsOf 3 = .ok (.aload_n 0, 1) := by decide +kernel
theorem dWP_areLoadedSignsOf_4 : decode cWP_areLoadedSignsOf 4 = .ok (.getfield 44, 3) := by decide +kernel
theorem dWP_areLoadedSignsOf_7 : decode cWP_areLoadedSignsOf 7 = .ok (.if_icmp .ge 37, 3) := by decide +kernel
theorem dWP_areLoadedSignsOf_10 : decode cWP_areLoadedSignsOf 10 = .ok (.aload_n 0, 1) := by decide +kernel
theorem dWP_areLoadedSignsOf_11 : decode cWP_areLoadedSignsOf 11 = .ok (.getfield 40, 3) := by decide +kernel
theorem dWP_areLoadedSignsOf_14 : decode cWP_areLoadedSignsOf 14 = .ok (.iload_n 2, 1) := by decide +kernel
theorem dWP_areLoadedSignsOf_15 : decode cWP_areLoadedSignsOf 15 = .ok (.iaload, 1) := by decide +kernel
theorem dWP_areLoadedSignsOf_16 : decode cWP_areLoadedSignsOf 16 = .ok (.aload_n 1, 1) := by decide +kernel
theorem dWP_areLoadedSignsOf_17 : decode cWP_areLoadedSignsOf 17 = .ok (.getfield 207, 3) := by decide +kernel
theorem dWP_areLoadedSignsOf_20 : decode cWP_areLoadedSignsOf 20 = .ok (.if_icmp .lt 16, 3) := by decide +kernel
theorem dWP_areLoadedSignsOf_23 : decode cWP_areLoadedSignsOf 23 = .ok (.aload_n 0, 1) := by decide +kernel
theorem dWP_areLoadedSignsOf_24 : decode cWP_areLoadedSignsOf 24 = .ok (.getfield 40, 3) := by decide +kernel
theorem dWP_areLoadedSignsOf_27 : decode cWP_areLoadedSignsOf 27 = .ok (.iload_n 2, 1) := by decide +kernel
theorem dWP_areLoadedSignsOf_28 : decode cWP_areLoadedSignsOf 28 = .ok (.iaload, 1) := by decide +kernel
theorem dWP_areLoadedSignsOf_29 : decode cWP_areLoadedSignsOf 29 = .ok (.aload_n 1, 1) := by decide +kernel
theorem dWP_areLoadedSignsOf_30 : decode cWP_areLoadedSignsOf 30 = .ok (.getfield 210, 3) := by decide +kernel
theorem dWP_areLoadedSignsOf_33 : decode cWP_areLoadedSignsOf 33 = .ok (.if_icmp .le 5, 3) := by decide +kernel
theorem dWP_areLoadedSignsOf_36 : decode cWP_areLoadedSignsOf 36 = .ok (.iconst 0, 1) := by decide +kernel
theorem dWP_areLoadedSignsOf_37 : decode cWP_areLoadedSignsOf 37 = .ok (.ireturn, 1) := by decide +kernel
theorem dWP_areLoadedSignsOf_38 : decode cWP_areLoadedSignsOf 38 = .ok (.iinc 2 1, 3) := by decide +kernel
theorem dWP_areLoadedSignsOf_41 : decode cWP_areLoadedSignsOf 41 = .ok (.goto (-39), 3) := by decide +kernel
theorem dWP_areLoadedSignsOf_44 : decode cWP_areLoadedSignsOf 44 = .ok (.aload_n 0, 1) := by decide +kernel
theorem dWP_areLoadedSignsOf_45 : decode cWP_areLoadedSignsOf 45 = .ok (.getfield 44, 3) := by decide +kernel
theorem dWP_areLoadedSignsOf_48 : decode cWP_areLoadedSignsOf 48 = .ok (.ifCond .le 7, 3) := by decide +kernel
theorem dWP_areLoadedSignsOf_51 : decode cWP_areLoadedSignsOf 51 = .ok (.iconst 1, 1) := by decide +kernel
theorem dWP_areLoadedSignsOf_52 : decode cWP_areLoadedSignsOf 52 = .ok (.goto 4, 3) := by decide +kernel
theorem dWP_areLoadedSignsOf_55 : decode cWP_areLoadedSignsOf 55 = .ok (.iconst 0, 1) := by decide +kernel
theorem dWP_areLoadedSignsOf_56 : decode cWP_areLoadedSignsOf 56 = .ok (.ireturn, 1) := by decide +kernel
theorem dWP_bit_0 : decode cWP_bit 0 = .ok (.aload_n 0, 1) := by decide +kernel
theorem dWP_bit_1 : decode cWP_bit 1 = .ok (.getfield 57, 3) := by decide +kernel
theorem dWP_bit_4 : decode cWP_bit 4 = .ok (.iload_n 1, 1) := by decide +kernel
theorem dWP_bit_5 : decode cWP_bit 5 = .ok (.invokevirtual 135, 3) := by decide +kernel
theorem dWP_bit_8 : decode cWP_bit 8 = .ok (.ifCond .eq 14, 3) := by decide +kernel
theorem dWP_bit_11 : decode cWP_bit 11 = .ok (.aload_n 0, 1) := by decide +kernel
theorem dWP_bit_12 : decode cWP_bit 12 = .ok (.getfield 57, 3) := by decide +kernel
theorem dWP_bit_15 : decode cWP_bit 15 = .ok (.iload_n 1, 1) := by decide +kernel
theorem dWP_bit_16 : decode cWP_bit 16 = .ok (.invokevirtual 138, 3) := by decide +kernel
theorem dWP_bit_19 : decode cWP_bit 19 = .ok (.goto 4, 3) := by decide +kernel
theorem dWP_bit_22 : decode cWP_bit 22 = .ok (.iconst (-1), 1) := by decide +kernel
theorem dWP_bit_23 : decode cWP_bit 23 = .ok (.ireturn, 1) := by decide +kernel
theorem dWP_byteOf_0 : decode cWP_byteOf 0 = .ok (.lload_n 0, 1) := by decide +kernel
theorem dWP_byteOf_1 : decode cWP_byteOf 1 = .ok (.bipush 8, 2) := by decide +kernel
theorem dWP_byteOf_3 : decode cWP_byteOf 3 = .ok (.iload_n 2, 1) := by decide +kernel
theorem dWP_byteOf_4 : decode cWP_byteOf 4 = .ok (.imul, 1) := by decide +kernel
theorem dWP_byteOf_5 : decode cWP_byteOf 5 = .ok (.lushr, 1) := by decide +kernel
theorem dWP_byteOf_6 : decode cWP_byteOf 6 = .ok (.l2i, 1) := by decide +kernel
theorem dWP_byteOf_7 : decode cWP_byteOf 7 = .ok (.sipush 255, 3) := by decide +kernel
theorem dWP_byteOf_10 : decode cWP_byteOf 10 = .ok (.iand, 1) := by decide +kernel
theorem dWP_byteOf_11 : decode cWP_byteOf 11 = .ok (.ireturn, 1) := by decide +kernel
theorem dWP_call_0 : decode cWP_call 0 = .ok (.aload_n 0, 1) := by decide +kernel
theorem dWP_call_1 : decode cWP_call 1 = .ok (.iload_n 1, 1) := by decide +kernel
theorem dWP_call_2 : decode cWP_call 2 = .ok (.invokevirtual 91, 3) := by decide +kernel
theorem dWP_call_5 : decode cWP_call 5 = .ok (.astore_n 3, 1) := by decide +kernel
theorem dWP_call_6 : decode cWP_call 6 = .ok (.aload_n 3, 1) := by decide +kernel
theorem dWP_call_7 : decode cWP_call 7 = .ok (.ifnull 20, 3) := by decide +kernel
theorem dWP_call_10 : decode cWP_call 10 = .ok (.iload_n 2, 1) := by decide +kernel
theorem dWP_call_11 : decode cWP_call 11 = .ok (.ifCond .lt 16, 3) := by decide +kernel
theorem dWP_call_14 : decode cWP_call 14 = .ok (.iload_n 2, 1) := by decide +kernel
theorem dWP_call_15 : decode cWP_call 15 = .ok (.iconst 3, 1) := by decide +kernel
theorem dWP_call_16 : decode cWP_call 16 = .ok (.if_icmp .gt 11, 3) := by decide +kernel
theorem dWP_call_19 : decode cWP_call 19 = .ok (.aload_n 0, 1) := by decide +kernel
theorem dWP_call_20 : decode cWP_call 20 = .ok (.aload_n 3, 1) := by decide +kernel
theorem dWP_call_21 : decode cWP_call 21 = .ok (.invokevirtual 106, 3) := by decide +kernel
theorem dWP_call_24 : decode cWP_call 24 = .ok (.ifCond .ne 5, 3) := by decide +kernel
theorem dWP_call_27 : decode cWP_call 27 = .ok (.iconst (-1), 1) := by decide +kernel
theorem dWP_call_28 : decode cWP_call 28 = .ok (.ireturn, 1) := by decide +kernel
theorem dWP_call_29 : decode cWP_call 29 = .ok (.aload_n 0, 1) := by decide +kernel
theorem dWP_call_30 : decode cWP_call 30 = .ok (.getfield 37, 3) := by decide +kernel
theorem dWP_call_33 : decode cWP_call 33 = .ok (.bipush 60, 2) := by decide +kernel
theorem dWP_call_35 : decode cWP_call 35 = .ok (.if_icmp .ge 13, 3) := by decide +kernel
theorem dWP_call_38 : decode cWP_call 38 = .ok (.aload_n 0, 1) := by decide +kernel
theorem dWP_call_39 : decode cWP_call 39 = .ok (.getfield 34, 3) := by decide +kernel
theorem dWP_call_42 : decode cWP_call 42 = .ok (.sipush 200, 3) := by decide +kernel
theorem dWP_call_45 : decode cWP_call 45 = .ok (.if_icmp .lt 5, 3) := by decide +kernel
theorem dWP_call_48 : decode cWP_call 48 = .ok (.iconst (-1), 1) := by decide +kernel
theorem dWP_call_49 : decode cWP_call 49 = .ok (.ireturn, 1) := by decide +kernel
theorem dWP_call_50 : decode cWP_call 50 = .ok (.aload_n 3, 1) := by decide +kernel
theorem dWP_call_51 : decode cWP_call 51 = .ok (.getfield 109, 3) := by decide +kernel
theorem dWP_call_54 : decode cWP_call 54 = .ok (.bipush 64, 2) := by decide +kernel
theorem dWP_call_56 : decode cWP_call 56 = .ok (.irem, 1) := by decide +kernel
theorem dWP_call_57 : decode cWP_call 57 = .ok (.istore 4, 2) := by decide +kernel
theorem dWP_call_59 : decode cWP_call 59 = .ok (.aload_n 0, 1) := by decide +kernel
theorem dWP_call_60 : decode cWP_call 60 = .ok (.getfield 30, 3) := by decide +kernel
theorem dWP_call_63 : decode cWP_call 63 = .ok (.aload_n 0, 1) := by decide +kernel
theorem dWP_call_64 : decode cWP_call 64 = .ok (.getfield 34, 3) := by decide +kernel
theorem dWP_call_67 : decode cWP_call 67 = .ok (.new 28, 3) := by decide +kernel
theorem dWP_call_70 : decode cWP_call 70 = .ok (.dup, 1) := by decide +kernel
theorem dWP_call_71 : decode cWP_call 71 = .ok (.aload_n 3, 1) := by decide +kernel
theorem dWP_call_72 : decode cWP_call 72 = .ok (.iload_n 2, 1) := by decide +kernel
theorem dWP_call_73 : decode cWP_call 73 = .ok (.iload 4, 2) := by decide +kernel
theorem dWP_call_75 : decode cWP_call 75 = .ok (.aload_n 0, 1) := by decide +kernel
theorem dWP_call_76 : decode cWP_call 76 = .ok (.getfield 40, 3) := by decide +kernel
theorem dWP_call_79 : decode cWP_call 79 = .ok (.aload_n 0, 1) := by decide +kernel
theorem dWP_call_80 : decode cWP_call 80 = .ok (.getfield 44, 3) := by decide +kernel
theorem dWP_call_83 : decode cWP_call 83 = .ok (.invokestatic 112, 3) := by decide +kernel
theorem dWP_call_86 : decode cWP_call 86 = .ok (.invokespecial 118, 3) := by decide +kernel
theorem dWP_call_89 : decode cWP_call 89 = .ok (.aastore, 1) := by decide +kernel
theorem dWP_call_90 : decode cWP_call 90 = .ok (.aload_n 0, 1) := by decide +kernel
theorem dWP_call_91 : decode cWP_call 91 = .ok (.dup, 1) := by decide +kernel
theorem dWP_call_92 : decode cWP_call 92 = .ok (.getfield 34, 3) := by decide +kernel
theorem dWP_call_95 : decode cWP_call 95 = .ok (.iconst 1, 1) := by decide +kernel
theorem dWP_call_96 : decode cWP_call 96 = .ok (.iadd, 1) := by decide +kernel
theorem dWP_call_97 : decode cWP_call 97 = .ok (.putfield 34, 3) := by decide +kernel
theorem dWP_call_100 : decode cWP_call 100 = .ok (.aload_n 0, 1) := by decide +kernel
theorem dWP_call_101 : decode cWP_call 101 = .ok (.dup, 1) := by decide +kernel
theorem dWP_call_102 : decode cWP_call 102 = .ok (.getfield 37, 3) := by decide +kernel
theorem dWP_call_105 : decode cWP_call 105 = .ok (.iconst 1, 1) := by decide +kernel
theorem dWP_call_106 : decode cWP_call 106 = .ok (.iadd, 1) := by decide +kernel
theorem dWP_call_107 : decode cWP_call 107 = .ok (.putfield 37, 3) := by decide +kernel
theorem dWP_call_110 : decode cWP_call 110 = .ok (.aload_n 3, 1) := by decide +kernel
theorem dWP_call_111 : decode cWP_call 111 = .ok (.dup, 1) := by decide +kernel
theorem dWP_call_112 : decode cWP_call 112 = .ok (.getfield 109, 3) := by decide +kernel
theorem dWP_call_115 : decode cWP_call 115 = .ok (.iconst 1, 1) := by decide +kernel
theorem dWP_call_116 : decode cWP_call 116 = .ok (.iadd, 1) := by decide +kernel
theorem dWP_call_117 : decode cWP_call 117 = .ok (.putfield 109, 3) := by decide +kernel
theorem dWP_call_120 : decode cWP_call 120 = .ok (.aload_n 0, 1) := by decide +kernel
theorem dWP_call_121 : decode cWP_call 121 = .ok (.iconst 0, 1) := by decide +kernel
theorem dWP_call_122 : decode cWP_call 122 = .ok (.putfield 44, 3) := by decide +kernel
theorem dWP_call_125 : decode cWP_call 125 = .ok (.iload 4, 2) := by decide +kernel
theorem dWP_call_127 : decode cWP_call 127 = .ok (.ireturn, 1) := by decide +kernel
theorem dWP_code_0 : decode cWP_code 0 = .ok (.iload_n 1, 1) := by decide +kernel
theorem dWP_code_1 : decode cWP_code 1 = .ok (.ifCond .lt 16, 3) := by decide +kernel
theorem dWP_code_4 : decode cWP_code 4 = .ok (.iload_n 1, 1) := by decide +kernel
theorem dWP_code_5 : decode cWP_code 5 = .ok (.ldc 68, 2) := by decide +kernel
theorem dWP_code_7 : decode cWP_code 7 = .ok (.if_icmp .ge 10, 3) := by decide +kernel
theorem dWP_code_10 : decode cWP_code 10 = .ok (.iload_n 1, 1) := by decide +kernel
theorem dWP_code_11 : decode cWP_code 11 = .ok (.invokestatic 69, 3) := by decide +kernel
theorem dWP_code_14 : decode cWP_code 14 = .ok (.goto 4, 3) := by decide +kernel
theorem dWP_code_17 : decode cWP_code 17 = .ok (.iconst 0, 1) := by decide +kernel
theorem dWP_code_18 : decode cWP_code 18 = .ok (.ireturn, 1) := by decide +kernel
theorem dWP_codewordOf_0 : decode cWP_codewordOf 0 = .ok (.iload_n 0, 1) := by decide +kernel
theorem dWP_codewordOf_1 : decode cWP_codewordOf 1 = .ok (.bipush 11, 2) := by decide +kernel
theorem dWP_codewordOf_3 : decode cWP_codewordOf 3 = .ok (.ishl, 1) := by decide +kernel
theorem dWP_codewordOf_4 : decode cWP_codewordOf 4 = .ok (.istore_n 1, 1) := by decide +kernel
theorem dWP_codewordOf_5 : decode cWP_codewordOf 5 = .ok (.iload_n 1, 1) := by decide +kernel
theorem dWP_codewordOf_6 : decode cWP_codewordOf 6 = .ok (.iload_n 1, 1) := by decide +kernel
theorem dWP_codewordOf_7 : decode cWP_codewordOf 7 = .ok (.iconst 1, 1) := by decide +kernel
theorem dWP_codewordOf_8 : decode cWP_codewordOf 8 = .ok (.iushr, 1) := by decide +kernel
theorem dWP_codewordOf_9 : decode cWP_codewordOf 9 = .ok (.invokestatic 229, 3) := by decide +kernel
theorem dWP_codewordOf_12 : decode cWP_codewordOf 12 = .ok (.iconst 1, 1) := by decide +kernel
theorem dWP_codewordOf_13 : decode cWP_codewordOf 13 = .ok (.ishl, 1) := by decide +kernel
theorem dWP_codewordOf_14 : decode cWP_codewordOf 14 = .ok (.ior, 1) := by decide +kernel
theorem dWP_codewordOf_15 : decode cWP_codewordOf 15 = .ok (.istore_n 2, 1) := by decide +kernel
theorem dWP_codewordOf_16 : decode cWP_codewordOf 16 = .ok (.iload_n 2, 1) := by decide +kernel
theorem dWP_codewordOf_17 : decode cWP_codewordOf 17 = .ok (.iload_n 2, 1) := by decide +kernel
theorem dWP_codewordOf_18 : decode cWP_codewordOf 18 = .ok (.invokestatic 232, 3) := by decide +kernel
theorem dWP_codewordOf_21 : decode cWP_codewordOf 21 = .ok (.iconst 1, 1) := by decide +kernel
theorem dWP_codewordOf_22 : decode cWP_codewordOf 22 = .ok (.iand, 1) := by decide +kernel
theorem dWP_codewordOf_23 : decode cWP_codewordOf 23 = .ok (.ior, 1) := by decide +kernel
theorem dWP_codewordOf_24 : decode cWP_codewordOf 24 = .ok (.ireturn, 1) := by decide +kernel
theorem dWP_count_0 : decode cWP_count 0 = .ok (.aload_n 0, 1) := by decide +kernel
theorem dWP_count_1 : decode cWP_count 1 = .ok (.iload_n 1, 1) := by decide +kernel
theorem dWP_count_2 : decode cWP_count 2 = .ok (.invokevirtual 87, 3) := by decide +kernel
theorem dWP_count_5 : decode cWP_count 5 = .ok (.astore_n 3, 1) := by decide +kernel
theorem dWP_count_6 : decode cWP_count 6 = .ok (.aload_n 3, 1) := by decide +kernel
theorem dWP_count_7 : decode cWP_count 7 = .ok (.ifnonnull 5, 3) := by decide +kernel
theorem dWP_count_10 : decode cWP_count 10 = .ok (.iconst (-1), 1) := by decide +kernel
theorem dWP_count_11 : decode cWP_count 11 = .ok (.ireturn, 1) := by decide +kernel
theorem dWP_count_12 : decode cWP_count 12 = .ok (.iload_n 2, 1) := by decide +kernel
theorem dWP_count_13 : decode cWP_count 13 = .ok (.tableswitch 51 0 3 #[31, 36, 41, 46], 31) := by decide +kernel
theorem dWP_count_44 : decode cWP_count 44 = .ok (.aload_n 3, 1) := by decide +kernel
theorem dWP_count_45 : decode cWP_count 45 = .ok (.getfield 183, 3) := by decide +kernel
theorem dWP_count_48 : decode cWP_count 48 = .ok (.ireturn, 1) := by decide +kernel
theorem dWP_count_49 : decode cWP_count 49 = .ok (.aload_n 3, 1) := by decide +kernel
theorem dWP_count_50 : decode cWP_count 50 = .ok (.getfield 186, 3) := by decide +kernel
theorem dWP_count_53 : decode cWP_count 53 = .ok (.ireturn, 1) := by decide +kernel
theorem dWP_count_54 : decode cWP_count 54 = .ok (.aload_n 3, 1) := by decide +kernel
theorem dWP_count_55 : decode cWP_count 55 = .ok (.getfield 189, 3) := by decide +kernel
theorem dWP_count_58 : decode cWP_count 58 = .ok (.ireturn, 1) := by decide +kernel
theorem dWP_count_59 : decode cWP_count 59 = .ok (.aload_n 3, 1) := by decide +kernel
theorem dWP_count_60 : decode cWP_count 60 = .ok (.getfield 192, 3) := by decide +kernel
theorem dWP_count_63 : decode cWP_count 63 = .ok (.ireturn, 1) := by decide +kernel
theorem dWP_count_64 : decode cWP_count 64 = .ok (.iconst (-1), 1) := by decide +kernel
theorem dWP_count_65 : decode cWP_count 65 = .ok (.ireturn, 1) := by decide +kernel
theorem dWP_desk_0 : decode cWP_desk 0 = .ok (.aload_n 0, 1) := by decide +kernel
theorem dWP_desk_1 : decode cWP_desk 1 = .ok (.iload_n 1, 1) := by decide +kernel
theorem dWP_desk_2 : decode cWP_desk 2 = .ok (.invokevirtual 91, 3) := by decide +kernel
theorem dWP_desk_5 : decode cWP_desk 5 = .ok (.astore 4, 2) := by decide +kernel
theorem dWP_desk_7 : decode cWP_desk 7 = .ok (.aload 4, 2) := by decide +kernel
theorem dWP_desk_9 : decode cWP_desk 9 = .ok (.ifnonnull 5, 3) := by decide +kernel
theorem dWP_desk_12 : decode cWP_desk 12 = .ok (.iconst (-1), 1) := by decide +kernel
theorem dWP_desk_13 : decode cWP_desk 13 = .ok (.ireturn, 1) := by decide +kernel
theorem dWP_desk_14 : decode cWP_desk 14 = .ok (.aload_n 0, 1) := by decide +kernel
theorem dWP_desk_15 : decode cWP_desk 15 = .ok (.getfield 34, 3) := by decide +kernel
theorem dWP_desk_18 : decode cWP_desk 18 = .ok (.iconst 1, 1) := by decide +kernel
theorem dWP_desk_19 : decode cWP_desk 19 = .ok (.isub, 1) := by decide +kernel
theorem dWP_desk_20 : decode cWP_desk 20 = .ok (.istore 5, 2) := by decide +kernel
theorem dWP_desk_22 : decode cWP_desk 22 = .ok (.iload 5, 2) := by decide +kernel
theorem dWP_desk_24 : decode cWP_desk 24 = .ok (.ifCond .lt 70, 3) := by decide +kernel
theorem dWP_desk_27 : decode cWP_desk 27 = .ok (.aload_n 0, 1) := by decide +kernel
theorem dWP_desk_28 : decode cWP_desk 28 = .ok (.getfield 30, 3) := by decide +kernel
theorem dWP_desk_31 : decode cWP_desk 31 = .ok (.iload 5, 2) := by decide +kernel
theorem dWP_desk_33 : decode cWP_desk 33 = .ok (.aaload, 1) := by decide +kernel
theorem dWP_desk_34 : decode cWP_desk 34 = .ok (.getfield 195, 3) := by decide +kernel
theorem dWP_desk_37 : decode cWP_desk 37 = .ok (.aload 4, 2) := by decide +kernel
theorem dWP_desk_39 : decode cWP_desk 39 = .ok (.if_acmp .ne 49, 3) := by decide +kernel
theorem dWP_desk_42 : decode cWP_desk 42 = .ok (.aload_n 0, 1) := by decide +kernel
theorem dWP_desk_43 : decode cWP_desk 43 = .ok (.getfield 30, 3) := by decide +kernel
theorem dWP_desk_46 : decode cWP_desk 46 = .ok (.iload 5, 2) := by decide +kernel
theorem dWP_desk_48 : decode cWP_desk 48 = .ok (.aaload, 1) := by decide +kernel
theorem dWP_desk_49 : decode cWP_desk 49 = .ok (.getfield 199, 3) := by decide +kernel
theorem dWP_desk_52 : decode cWP_desk 52 = .ok (.iload_n 2, 1) := by decide +kernel
theorem dWP_desk_53 : decode cWP_desk 53 = .ok (.if_icmp .ne 35, 3) := by decide +kernel
theorem dWP_desk_56 : decode cWP_desk 56 = .ok (.aload_n 0, 1) := by decide +kernel
theorem dWP_desk_57 : decode cWP_desk 57 = .ok (.getfield 30, 3) := by decide +kernel
theorem dWP_desk_60 : decode cWP_desk 60 = .ok (.iload 5, 2) := by decide +kernel
theorem dWP_desk_62 : decode cWP_desk 62 = .ok (.aaload, 1) := by decide +kernel
theorem dWP_desk_63 : decode cWP_desk 63 = .ok (.getfield 200, 3) := by decide +kernel
theorem dWP_desk_66 : decode cWP_desk 66 = .ok (.astore 6, 2) := by decide +kernel
theorem dWP_desk_68 : decode cWP_desk 68 = .ok (.iload_n 3, 1) := by decide +kernel
theorem dWP_desk_69 : decode cWP_desk 69 = .ok (.ifCond .lt 17, 3) := by decide +kernel
theorem dWP_desk_72 : decode cWP_desk 72 = .ok (.iload_n 3, 1) := by decide +kernel
theorem dWP_desk_73 : decode cWP_desk 73 = .ok (.aload 6, 2) := by decide +kernel
theorem dWP_desk_75 : decode cWP_desk 75 = .ok (.arraylength, 1) := by decide +kernel
theorem dWP_desk_76 : decode cWP_desk 76 = .ok (.if_icmp .ge 10, 3) := by decide +kernel
theorem dWP_desk_79 : decode cWP_desk 79 = .ok (.aload 6, 2) := by decide +kernel
theorem dWP_desk_81 : decode cWP_desk 81 = .ok (.iload_n 3, 1) := by decide +kernel
theorem dWP_desk_82 : decode cWP_desk 82 = .ok (.iaload, 1) := by decide +kernel
theorem dWP_desk_83 : decode cWP_desk 83 = .ok (.goto 4, 3) := by decide +kernel
theorem dWP_desk_86 : decode cWP_desk 86 = .ok (.iconst (-1), 1) := by decide +kernel
theorem dWP_desk_87 : decode cWP_desk 87 = .ok (.ireturn, 1) := by decide +kernel
theorem dWP_desk_88 : decode cWP_desk 88 = .ok (.iinc 5 (-1), 3) := by decide +kernel
theorem dWP_desk_91 : decode cWP_desk 91 = .ok (.goto (-69), 3) := by decide +kernel
theorem dWP_desk_94 : decode cWP_desk 94 = .ok (.iconst (-1), 1) := by decide +kernel
theorem dWP_desk_95 : decode cWP_desk 95 = .ok (.ireturn, 1) := by decide +kernel
theorem dWP_flip_0 : decode cWP_flip 0 = .ok (.aload_n 0, 1) := by decide +kernel
theorem dWP_flip_1 : decode cWP_flip 1 = .ok (.getfield 57, 3) := by decide +kernel
theorem dWP_flip_4 : decode cWP_flip 4 = .ok (.iload_n 1, 1) := by decide +kernel
theorem dWP_flip_5 : decode cWP_flip 5 = .ok (.invokevirtual 135, 3) := by decide +kernel
theorem dWP_flip_8 : decode cWP_flip 8 = .ok (.ifCond .ne 5, 3) := by decide +kernel
theorem dWP_flip_11 : decode cWP_flip 11 = .ok (.iconst (-1), 1) := by decide +kernel
theorem dWP_flip_12 : decode cWP_flip 12 = .ok (.ireturn, 1) := by decide +kernel
theorem dWP_flip_13 : decode cWP_flip 13 = .ok (.aload_n 0, 1) := by decide +kernel
theorem dWP_flip_14 : decode cWP_flip 14 = .ok (.getfield 57, 3) := by decide +kernel
theorem dWP_flip_17 : decode cWP_flip 17 = .ok (.iload_n 1, 1) := by decide +kernel
theorem dWP_flip_18 : decode cWP_flip 18 = .ok (.invokevirtual 141, 3) := by decide +kernel
theorem dWP_flip_21 : decode cWP_flip 21 = .ok (.aload_n 0, 1) := by decide +kernel
theorem dWP_flip_22 : decode cWP_flip 22 = .ok (.getfield 57, 3) := by decide +kernel
theorem dWP_flip_25 : decode cWP_flip 25 = .ok (.iload_n 1, 1) := by decide +kernel
theorem dWP_flip_26 : decode cWP_flip 26 = .ok (.invokevirtual 138, 3) := by decide +kernel
theorem dWP_flip_29 : decode cWP_flip 29 = .ok (.ireturn, 1) := by decide +kernel
theorem dWP_hear_0 : decode cWP_hear 0 = .ok (.aload_n 0, 1) := by decide +kernel
theorem dWP_hear_1 : decode cWP_hear 1 = .ok (.iload_n 1, 1) := by decide +kernel
theorem dWP_hear_2 : decode cWP_hear 2 = .ok (.invokevirtual 87, 3) := by decide +kernel
theorem dWP_hear_5 : decode cWP_hear 5 = .ok (.astore_n 3, 1) := by decide +kernel
theorem dWP_hear_6 : decode cWP_hear 6 = .ok (.aload_n 3, 1) := by decide +kernel
theorem dWP_hear_7 : decode cWP_hear 7 = .ok (.ifnull 14, 3) := by decide +kernel
theorem dWP_hear_10 : decode cWP_hear 10 = .ok (.aload_n 0, 1) := by decide +kernel
theorem dWP_hear_11 : decode cWP_hear 11 = .ok (.getfield 57, 3) := by decide +kernel
theorem dWP_hear_14 : decode cWP_hear 14 = .ok (.iload_n 2, 1) := by decide +kernel
theorem dWP_hear_15 : decode cWP_hear 15 = .ok (.invokevirtual 135, 3) := by decide +kernel
theorem dWP_hear_18 : decode cWP_hear 18 = .ok (.ifCond .ne 7, 3) := by decide +kernel
theorem dWP_hear_21 : decode cWP_hear 21 = .ok (.iconst (-1), 1) := by decide +kernel
theorem dWP_hear_22 : decode cWP_hear 22 = .ok (.goto 16, 3) := by decide +kernel
theorem dWP_hear_25 : decode cWP_hear 25 = .ok (.aload_n 0, 1) := by decide +kernel
theorem dWP_hear_26 : decode cWP_hear 26 = .ok (.getfield 64, 3) := by decide +kernel
theorem dWP_hear_29 : decode cWP_hear 29 = .ok (.aload_n 3, 1) := by decide +kernel
theorem dWP_hear_30 : decode cWP_hear 30 = .ok (.aload_n 0, 1) := by decide +kernel
theorem dWP_hear_31 : decode cWP_hear 31 = .ok (.getfield 57, 3) := by decide +kernel
theorem dWP_hear_34 : decode cWP_hear 34 = .ok (.iload_n 2, 1) := by decide +kernel
theorem dWP_hear_35 : decode cWP_hear 35 = .ok (.invokevirtual 144, 3) := by decide +kernel
theorem dWP_hear_38 : decode cWP_hear 38 = .ok (.ireturn, 1) := by decide +kernel
theorem dWP_identity_0 : decode cWP_identity 0 = .ok (.iload_n 1, 1) := by decide +kernel
theorem dWP_identity_1 : decode cWP_identity 1 = .ok (.ifCond .lt 18, 3) := by decide +kernel
theorem dWP_identity_4 : decode cWP_identity 4 = .ok (.iload_n 1, 1) := by decide +kernel
theorem dWP_identity_5 : decode cWP_identity 5 = .ok (.ldc 68, 2) := by decide +kernel
theorem dWP_identity_7 : decode cWP_identity 7 = .ok (.if_icmp .ge 12, 3) := by decide +kernel
theorem dWP_identity_10 : decode cWP_identity 10 = .ok (.iload_n 2, 1) := by decide +kernel
theorem dWP_identity_11 : decode cWP_identity 11 = .ok (.ifCond .eq 10, 3) := by decide +kernel
theorem dWP_identity_14 : decode cWP_identity 14 = .ok (.iload_n 2, 1) := by decide +kernel
theorem dWP_identity_15 : decode cWP_identity 15 = .ok (.iconst 1, 1) := by decide +kernel
theorem dWP_identity_16 : decode cWP_identity 16 = .ok (.if_icmp .eq 5, 3) := by decide +kernel
theorem dWP_identity_19 : decode cWP_identity 19 = .ok (.iconst (-1), 1) := by decide +kernel
theorem dWP_identity_20 : decode cWP_identity 20 = .ok (.ireturn, 1) := by decide +kernel
theorem dWP_identity_21 : decode cWP_identity 21 = .ok (.iload_n 1, 1) := by decide +kernel
theorem dWP_identity_22 : decode cWP_identity 22 = .ok (.bipush 8, 2) := by decide +kernel
theorem dWP_identity_24 : decode cWP_identity 24 = .ok (.idiv, 1) := by decide +kernel
theorem dWP_identity_25 : decode cWP_identity 25 = .ok (.ldc 78, 2) := by decide +kernel
theorem dWP_identity_27 : decode cWP_identity 27 = .ok (.if_icmp .eq 20, 3) := by decide +kernel
theorem dWP_identity_30 : decode cWP_identity 30 = .ok (.aload_n 0, 1) := by decide +kernel
theorem dWP_identity_31 : decode cWP_identity 31 = .ok (.getfield 15, 3) := by decide +kernel
theorem dWP_identity_34 : decode cWP_identity 34 = .ok (.bipush 12, 2) := by decide +kernel
theorem dWP_identity_36 : decode cWP_identity 36 = .ok (.if_icmp .ge 11, 3) := by decide +kernel
theorem dWP_identity_39 : decode cWP_identity 39 = .ok (.aload_n 0, 1) := by decide +kernel
theorem dWP_identity_40 : decode cWP_identity 40 = .ok (.iload_n 1, 1) := by decide +kernel
theorem dWP_identity_41 : decode cWP_identity 41 = .ok (.invokevirtual 79, 3) := by decide +kernel
theorem dWP_identity_44 : decode cWP_identity 44 = .ok (.ifCond .eq 5, 3) := by decide +kernel
theorem dWP_identity_47 : decode cWP_identity 47 = .ok (.iconst (-1), 1) := by decide +kernel
theorem dWP_identity_48 : decode cWP_identity 48 = .ok (.ireturn, 1) := by decide +kernel
theorem dWP_identity_49 : decode cWP_identity 49 = .ok (.aload_n 0, 1) := by decide +kernel
theorem dWP_identity_50 : decode cWP_identity 50 = .ok (.getfield 11, 3) := by decide +kernel
theorem dWP_identity_53 : decode cWP_identity 53 = .ok (.aload_n 0, 1) := by decide +kernel
theorem dWP_identity_54 : decode cWP_identity 54 = .ok (.getfield 15, 3) := by decide +kernel
theorem dWP_identity_57 : decode cWP_identity 57 = .ok (.new 9, 3) := by decide +kernel
theorem dWP_identity_60 : decode cWP_identity 60 = .ok (.dup, 1) := by decide +kernel
theorem dWP_identity_61 : decode cWP_identity 61 = .ok (.aload_n 0, 1) := by decide +kernel
theorem dWP_identity_62 : decode cWP_identity 62 = .ok (.getfield 15, 3) := by decide +kernel
theorem dWP_identity_65 : decode cWP_identity 65 = .ok (.iload_n 1, 1) := by decide +kernel
theorem dWP_identity_66 : decode cWP_identity 66 = .ok (.iload_n 2, 1) := by decide +kernel
theorem dWP_identity_67 : decode cWP_identity 67 = .ok (.invokespecial 83, 3) := by decide +kernel
theorem dWP_identity_70 : decode cWP_identity 70 = .ok (.aastore, 1) := by decide +kernel
theorem dWP_identity_71 : decode cWP_identity 71 = .ok (.aload_n 0, 1) := by decide +kernel
theorem dWP_identity_72 : decode cWP_identity 72 = .ok (.dup, 1) := by decide +kernel
theorem dWP_identity_73 : decode cWP_identity 73 = .ok (.getfield 15, 3) := by decide +kernel
theorem dWP_identity_76 : decode cWP_identity 76 = .ok (.iconst 1, 1) := by decide +kernel
theorem dWP_identity_77 : decode cWP_identity 77 = .ok (.iadd, 1) := by decide +kernel
theorem dWP_identity_78 : decode cWP_identity 78 = .ok (.putfield 15, 3) := by decide +kernel
theorem dWP_identity_81 : decode cWP_identity 81 = .ok (.aload_n 0, 1) := by decide +kernel
theorem dWP_identity_82 : decode cWP_identity 82 = .ok (.getfield 15, 3) := by decide +kernel
theorem dWP_identity_85 : decode cWP_identity 85 = .ok (.iconst 1, 1) := by decide +kernel
theorem dWP_identity_86 : decode cWP_identity 86 = .ok (.isub, 1) := by decide +kernel
theorem dWP_identity_87 : decode cWP_identity 87 = .ok (.ireturn, 1) := by decide +kernel
theorem dWP_identityAt_0 : decode cWP_identityAt 0 = .ok (.iload_n 1, 1) := by decide +kernel
theorem dWP_identityAt_1 : decode cWP_identityAt 1 = .ok (.ifCond .lt 20, 3) := by decide +kernel
theorem dWP_identityAt_4 : decode cWP_identityAt 4 = .ok (.iload_n 1, 1) := by decide +kernel
theorem dWP_identityAt_5 : decode cWP_identityAt 5 = .ok (.aload_n 0, 1) := by decide +kernel
theorem dWP_identityAt_6 : decode cWP_identityAt 6 = .ok (.getfield 15, 3) := by decide +kernel
theorem dWP_identityAt_9 : decode cWP_identityAt 9 = .ok (.if_icmp .ge 12, 3) := by decide +kernel
theorem dWP_identityAt_12 : decode cWP_identityAt 12 = .ok (.aload_n 0, 1) := by decide +kernel
theorem dWP_identityAt_13 : decode cWP_identityAt 13 = .ok (.getfield 11, 3) := by decide +kernel
theorem dWP_identityAt_16 : decode cWP_identityAt 16 = .ok (.iload_n 1, 1) := by decide +kernel
theorem dWP_identityAt_17 : decode cWP_identityAt 17 = .ok (.aaload, 1) := by decide +kernel
theorem dWP_identityAt_18 : decode cWP_identityAt 18 = .ok (.goto 4, 3) := by decide +kernel
theorem dWP_identityAt_21 : decode cWP_identityAt 21 = .ok (.aconst_null, 1) := by decide +kernel
theorem dWP_identityAt_22 : decode cWP_identityAt 22 = .ok (.areturn, 1) := by decide +kernel
theorem dWP_isAddressUsed_0 : decode cWP_isAddressUsed 0 = .ok (.iconst 0, 1) := by decide +kernel
theorem dWP_isAddressUsed_1 : decode cWP_isAddressUsed 1 = .ok (.istore_n 2, 1) := by decide +kernel
theorem dWP_isAddressUsed_2 : decode cWP_isAddressUsed 2 = .ok (.iload_n 2, 1) := by decide +kernel
theorem dWP_isAddressUsed_3 : decode cWP_isAddressUsed 3 = .ok (.aload_n 0, 1) := by decide +kernel
theorem dWP_isAddressUsed_4 : decode cWP_isAddressUsed 4 = .ok (.getfield 15, 3) := by decide +kernel
theorem dWP_isAddressUsed_7 : decode cWP_isAddressUsed 7 = .ok (.if_icmp .ge 24, 3) := by decide +kernel
theorem dWP_isAddressUsed_10 : decode cWP_isAddressUsed 10 = .ok (.aload_n 0, 1) := by decide +kernel
theorem dWP_isAddressUsed_11 : decode cWP_isAddressUsed 11 = .ok (.getfield 11, 3) := by decide +kernel
theorem dWP_isAddressUsed_14 : decode cWP_isAddressUsed 14 = .ok (.iload_n 2, 1) := by decide +kernel
theorem dWP_isAddressUsed_15 : decode cWP_isAddressUsed 15 = .ok (.aaload, 1) := by decide +kernel
theorem dWP_isAddressUsed_16 : decode cWP_isAddressUsed 16 = .ok (.getfield 204, 3) := by decide +kernel
theorem dWP_isAddressUsed_19 : decode cWP_isAddressUsed 19 = .ok (.iload_n 1, 1) := by decide +kernel
theorem dWP_isAddressUsed_20 : decode cWP_isAddressUsed 20 = .ok (.if_icmp .ne 5, 3) := by decide +kernel
theorem dWP_isAddressUsed_23 : decode cWP_isAddressUsed 23 = .ok (.iconst 1, 1) := by decide +kernel
theorem dWP_isAddressUsed_24 : decode cWP_isAddressUsed 24 = .ok (.ireturn, 1) := by decide +kernel
theorem dWP_isAddressUsed_25 : decode cWP_isAddressUsed 25 = .ok (.iinc 2 1, 3) := by decide +kernel
theorem dWP_isAddressUsed_28 : decode cWP_isAddressUsed 28 = .ok (.goto (-26), 3) := by decide +kernel
theorem dWP_isAddressUsed_31 : decode cWP_isAddressUsed 31 = .ok (.iconst 0, 1) := by decide +kernel
theorem dWP_isAddressUsed_32 : decode cWP_isAddressUsed 32 = .ok (.ireturn, 1) := by decide +kernel
theorem dWP_isSync_0 : decode cWP_isSync 0 = .ok (.iload_n 0, 1) := by decide +kernel
theorem dWP_isSync_1 : decode cWP_isSync 1 = .ok (.ldc 236, 2) := by decide +kernel
theorem dWP_isSync_3 : decode cWP_isSync 3 = .ok (.ixor, 1) := by decide +kernel
theorem dWP_isSync_4 : decode cWP_isSync 4 = .ok (.invokestatic 232, 3) := by decide +kernel
theorem dWP_isSync_7 : decode cWP_isSync 7 = .ok (.iconst 2, 1) := by decide +kernel
theorem dWP_isSync_8 : decode cWP_isSync 8 = .ok (.if_icmp .gt 7, 3) := by decide +kernel
theorem dWP_isSync_11 : decode cWP_isSync 11 = .ok (.iconst 1, 1) := by decide +kernel
theorem dWP_isSync_12 : decode cWP_isSync 12 = .ok (.goto 4, 3) := by decide +kernel
theorem dWP_isSync_15 : decode cWP_isSync 15 = .ok (.iconst 0, 1) := by decide +kernel
theorem dWP_isSync_16 : decode cWP_isSync 16 = .ok (.ireturn, 1) := by decide +kernel
theorem dWP_join_0 : decode cWP_join 0 = .ok (.aload_n 0, 1) := by decide +kernel
theorem dWP_join_1 : decode cWP_join 1 = .ok (.iload_n 1, 1) := by decide +kernel
theorem dWP_join_2 : decode cWP_join 2 = .ok (.invokevirtual 87, 3) := by decide +kernel
theorem dWP_join_5 : decode cWP_join 5 = .ok (.astore_n 3, 1) := by decide +kernel
theorem dWP_join_6 : decode cWP_join 6 = .ok (.aload_n 0, 1) := by decide +kernel
theorem dWP_join_7 : decode cWP_join 7 = .ok (.iload_n 2, 1) := by decide +kernel
theorem dWP_join_8 : decode cWP_join 8 = .ok (.invokevirtual 91, 3) := by decide +kernel
theorem dWP_join_11 : decode cWP_join 11 = .ok (.astore 4, 2) := by decide +kernel
theorem dWP_join_13 : decode cWP_join 13 = .ok (.aload_n 3, 1) := by decide +kernel
theorem dWP_join_14 : decode cWP_join 14 = .ok (.ifnull 8, 3) := by decide +kernel
theorem dWP_join_17 : decode cWP_join 17 = .ok (.aload 4, 2) := by decide +kernel
theorem dWP_join_19 : decode cWP_join 19 = .ok (.ifnonnull 5, 3) := by decide +kernel
theorem dWP_join_22 : decode cWP_join 22 = .ok (.iconst (-1), 1) := by decide +kernel
theorem dWP_join_23 : decode cWP_join 23 = .ok (.ireturn, 1) := by decide +kernel
theorem dWP_join_24 : decode cWP_join 24 = .ok (.aload_n 3, 1) := by decide +kernel
theorem dWP_join_25 : decode cWP_join 25 = .ok (.aload 4, 2) := by decide +kernel
theorem dWP_join_27 : decode cWP_join 27 = .ok (.invokevirtual 95, 3) := by decide +kernel
theorem dWP_join_30 : decode cWP_join 30 = .ok (.ifCond .eq 10, 3) := by decide +kernel
theorem dWP_join_33 : decode cWP_join 33 = .ok (.aload_n 3, 1) := by decide +kernel
theorem dWP_join_34 : decode cWP_join 34 = .ok (.getfield 99, 3) := by decide +kernel
theorem dWP_join_37 : decode cWP_join 37 = .ok (.goto 4, 3) := by decide +kernel
theorem dWP_join_40 : decode cWP_join 40 = .ok (.iconst (-1), 1) := by decide +kernel
theorem dWP_join_41 : decode cWP_join 41 = .ok (.ireturn, 1) := by decide +kernel
theorem dWP_kept_0 : decode cWP_kept 0 = .ok (.aload_n 0, 1) := by decide +kernel
theorem dWP_kept_1 : decode cWP_kept 1 = .ok (.iload_n 1, 1) := by decide +kernel
theorem dWP_kept_2 : decode cWP_kept 2 = .ok (.invokevirtual 87, 3) := by decide +kernel
theorem dWP_kept_5 : decode cWP_kept 5 = .ok (.astore_n 2, 1) := by decide +kernel
theorem dWP_kept_6 : decode cWP_kept 6 = .ok (.aload_n 2, 1) := by decide +kernel
theorem dWP_kept_7 : decode cWP_kept 7 = .ok (.ifnonnull 7, 3) := by decide +kernel
theorem dWP_kept_10 : decode cWP_kept 10 = .ok (.iconst (-1), 1) := by decide +kernel
theorem dWP_kept_11 : decode cWP_kept 11 = .ok (.goto 7, 3) := by decide +kernel
theorem dWP_kept_14 : decode cWP_kept 14 = .ok (.aload_n 2, 1) := by decide +kernel
theorem dWP_kept_15 : decode cWP_kept 15 = .ok (.getfield 148, 3) := by decide +kernel
theorem dWP_kept_18 : decode cWP_kept 18 = .ok (.ireturn, 1) := by decide +kernel
theorem dWP_layMessages_0 : decode cWP_layMessages 0 = .ok (.aload_n 0, 1) := by decide +kernel
theorem dWP_layMessages_1 : decode cWP_layMessages 1 = .ok (.getfield 50, 3) := by decide +kernel
theorem dWP_layMessages_4 : decode cWP_layMessages 4 = .ok (.iload_n 1, 1) := by decide +kernel
theorem dWP_layMessages_5 : decode cWP_layMessages 5 = .ok (.invokevirtual 213, 3) := by decide +kernel
theorem dWP_layMessages_8 : decode cWP_layMessages 8 = .ok (.iconst 0, 1) := by decide +kernel
theorem dWP_layMessages_9 : decode cWP_layMessages 9 = .ok (.istore_n 2, 1) := by decide +kernel
theorem dWP_layMessages_10 : decode cWP_layMessages 10 = .ok (.iload_n 2, 1) := by decide +kernel
theorem dWP_layMessages_11 : decode cWP_layMessages 11 = .ok (.aload_n 0, 1) := by decide +kernel
theorem dWP_layMessages_12 : decode cWP_layMessages 12 = .ok (.getfield 15, 3) := by decide +kernel
theorem dWP_layMessages_15 : decode cWP_layMessages 15 = .ok (.if_icmp .ge 19, 3) := by decide +kernel
theorem dWP_layMessages_18 : decode cWP_layMessages 18 = .ok (.aload_n 0, 1) := by decide +kernel
theorem dWP_layMessages_19 : decode cWP_layMessages 19 = .ok (.getfield 11, 3) := by decide +kernel
theorem dWP_layMessages_22 : decode cWP_layMessages 22 = .ok (.iload_n 2, 1) := by decide +kernel
theorem dWP_layMessages_23 : decode cWP_layMessages 23 = .ok (.aaload, 1) := by decide +kernel
theorem dWP_layMessages_24 : decode cWP_layMessages 24 = .ok (.iconst 0, 1) := by decide +kernel
theorem dWP_layMessages_25 : decode cWP_layMessages 25 = .ok (.putfield 216, 3) := by decide +kernel
theorem dWP_layMessages_28 : decode cWP_layMessages 28 = .ok (.iinc 2 1, 3) := by decide +kernel
theorem dWP_layMessages_31 : decode cWP_layMessages 31 = .ok (.goto (-21), 3) := by decide +kernel
theorem dWP_layMessages_34 : decode cWP_layMessages 34 = .ok (.iconst 3, 1) := by decide +kernel
theorem dWP_layMessages_35 : decode cWP_layMessages 35 = .ok (.istore_n 2, 1) := by decide +kernel
theorem dWP_layMessages_36 : decode cWP_layMessages 36 = .ok (.iload_n 2, 1) := by decide +kernel
theorem dWP_layMessages_37 : decode cWP_layMessages 37 = .ok (.ifCond .lt 78, 3) := by decide +kernel
theorem dWP_layMessages_40 : decode cWP_layMessages 40 = .ok (.iconst 0, 1) := by decide +kernel
theorem dWP_layMessages_41 : decode cWP_layMessages 41 = .ok (.istore_n 3, 1) := by decide +kernel
theorem dWP_layMessages_42 : decode cWP_layMessages 42 = .ok (.iload_n 3, 1) := by decide +kernel
theorem dWP_layMessages_43 : decode cWP_layMessages 43 = .ok (.aload_n 0, 1) := by decide +kernel
theorem dWP_layMessages_44 : decode cWP_layMessages 44 = .ok (.getfield 34, 3) := by decide +kernel
theorem dWP_layMessages_47 : decode cWP_layMessages 47 = .ok (.if_icmp .ge 62, 3) := by decide +kernel
theorem dWP_layMessages_50 : decode cWP_layMessages 50 = .ok (.aload_n 0, 1) := by decide +kernel
theorem dWP_layMessages_51 : decode cWP_layMessages 51 = .ok (.getfield 30, 3) := by decide +kernel
theorem dWP_layMessages_54 : decode cWP_layMessages 54 = .ok (.iload_n 3, 1) := by decide +kernel
theorem dWP_layMessages_55 : decode cWP_layMessages 55 = .ok (.aaload, 1) := by decide +kernel
theorem dWP_layMessages_56 : decode cWP_layMessages 56 = .ok (.astore 4, 2) := by decide +kernel
theorem dWP_layMessages_58 : decode cWP_layMessages 58 = .ok (.aload 4, 2) := by decide +kernel
theorem dWP_layMessages_60 : decode cWP_layMessages 60 = .ok (.getfield 219, 3) := by decide +kernel
theorem dWP_layMessages_63 : decode cWP_layMessages 63 = .ok (.ifCond .eq 40, 3) := by decide +kernel
theorem dWP_layMessages_66 : decode cWP_layMessages 66 = .ok (.aload 4, 2) := by decide +kernel
theorem dWP_layMessages_68 : decode cWP_layMessages 68 = .ok (.getfield 222, 3) := by decide +kernel
theorem dWP_layMessages_71 : decode cWP_layMessages 71 = .ok (.iload_n 2, 1) := by decide +kernel
theorem dWP_layMessages_72 : decode cWP_layMessages 72 = .ok (.if_icmp .ne 31, 3) := by decide +kernel
theorem dWP_layMessages_75 : decode cWP_layMessages 75 = .ok (.aload_n 0, 1) := by decide +kernel
theorem dWP_layMessages_76 : decode cWP_layMessages 76 = .ok (.getfield 50, 3) := by decide +kernel
theorem dWP_layMessages_79 : decode cWP_layMessages 79 = .ok (.aload 4, 2) := by decide +kernel
theorem dWP_layMessages_81 : decode cWP_layMessages 81 = .ok (.invokevirtual 225, 3) := by decide +kernel
theorem dWP_layMessages_84 : decode cWP_layMessages 84 = .ok (.ifCond .eq 19, 3) := by decide +kernel
theorem dWP_layMessages_87 : decode cWP_layMessages 87 = .ok (.aload 4, 2) := by decide +kernel
theorem dWP_layMessages_89 : decode cWP_layMessages 89 = .ok (.iconst 0, 1) := by decide +kernel
theorem dWP_layMessages_90 : decode cWP_layMessages 90 = .ok (.putfield 219, 3) := by decide +kernel
theorem dWP_layMessages_93 : decode cWP_layMessages 93 = .ok (.aload_n 0, 1) := by decide +kernel
theorem dWP_layMessages_94 : decode cWP_layMessages 94 = .ok (.dup, 1) := by decide +kernel
theorem dWP_layMessages_95 : decode cWP_layMessages 95 = .ok (.getfield 37, 3) := by decide +kernel
theorem dWP_layMessages_98 : decode cWP_layMessages 98 = .ok (.iconst 1, 1) := by decide +kernel
theorem dWP_layMessages_99 : decode cWP_layMessages 99 = .ok (.isub, 1) := by decide +kernel
theorem dWP_layMessages_100 : decode cWP_layMessages 100 = .ok (.putfield 37, 3) := by decide +kernel
theorem dWP_layMessages_103 : decode cWP_layMessages 103 = .ok (.iinc 3 1, 3) := by decide +kernel
theorem dWP_layMessages_106 : decode cWP_layMessages 106 = .ok (.goto (-64), 3) := by decide +kernel
theorem dWP_layMessages_109 : decode cWP_layMessages 109 = .ok (.iinc 2 (-1), 3) := by decide +kernel
theorem dWP_layMessages_112 : decode cWP_layMessages 112 = .ok (.goto (-76), 3) := by decide +kernel
theorem dWP_layMessages_115 : decode cWP_layMessages 115 = .ok (.return_, 1) := by decide +kernel
theorem dWP_load_0 : decode cWP_load 0 = .ok (.iload_n 3, 1) := by decide +kernel
theorem dWP_load_1 : decode cWP_load 1 = .ok (.iconst 1, 1) := by decide +kernel
theorem dWP_load_2 : decode cWP_load 2 = .ok (.if_icmp .lt 20, 3) := by decide +kernel
theorem dWP_load_5 : decode cWP_load 5 = .ok (.iload_n 3, 1) := by decide +kernel
theorem dWP_load_6 : decode cWP_load 6 = .ok (.bipush 8, 2) := by decide +kernel
theorem dWP_load_8 : decode cWP_load 8 = .ok (.if_icmp .gt 14, 3) := by decide +kernel
theorem dWP_load_11 : decode cWP_load 11 = .ok (.aload_n 0, 1) := by decide +kernel
theorem dWP_load_12 : decode cWP_load 12 = .ok (.getfield 44, 3) := by decide +kernel
theorem dWP_load_15 : decode cWP_load 15 = .ok (.iload_n 3, 1) := by decide +kernel
theorem dWP_load_16 : decode cWP_load 16 = .ok (.iadd, 1) := by decide +kernel
theorem dWP_load_17 : decode cWP_load 17 = .ok (.bipush 20, 2) := by decide +kernel
theorem dWP_load_19 : decode cWP_load 19 = .ok (.if_icmp .le 5, 3) := by decide +kernel
theorem dWP_load_22 : decode cWP_load 22 = .ok (.iconst (-1), 1) := by decide +kernel
theorem dWP_load_23 : decode cWP_load 23 = .ok (.ireturn, 1) := by decide +kernel
theorem dWP_load_24 : decode cWP_load 24 = .ok (.iconst 0, 1) := by decide +kernel
theorem dWP_load_25 : decode cWP_load 25 = .ok (.istore 4, 2) := by decide +kernel
theorem dWP_load_27 : decode cWP_load 27 = .ok (.iload 4, 2) := by decide +kernel
theorem dWP_load_29 : decode cWP_load 29 = .ok (.iload_n 3, 1) := by decide +kernel
theorem dWP_load_30 : decode cWP_load 30 = .ok (.if_icmp .ge 22, 3) := by decide +kernel
theorem dWP_load_33 : decode cWP_load 33 = .ok (.lload_n 1, 1) := by decide +kernel
theorem dWP_load_34 : decode cWP_load 34 = .ok (.iload 4, 2) := by decide +kernel
theorem dWP_load_36 : decode cWP_load 36 = .ok (.invokestatic 102, 3) := by decide +kernel
theorem dWP_load_39 : decode cWP_load 39 = .ok (.bipush 126, 2) := by decide +kernel
theorem dWP_load_41 : decode cWP_load 41 = .ok (.if_icmp .le 5, 3) := by decide +kernel
theorem dWP_load_44 : decode cWP_load 44 = .ok (.iconst (-1), 1) := by decide +kernel
theorem dWP_load_45 : decode cWP_load 45 = .ok (.ireturn, 1) := by decide +kernel
theorem dWP_load_46 : decode cWP_load 46 = .ok (.iinc 4 1, 3) := by decide +kernel
theorem dWP_load_49 : decode cWP_load 49 = .ok (.goto (-22), 3) := by decide +kernel
theorem dWP_load_52 : decode cWP_load 52 = .ok (.iload_n 3, 1) := by decide +kernel
theorem dWP_load_53 : decode cWP_load 53 = .ok (.iconst 1, 1) := by decide +kernel
theorem dWP_load_54 : decode cWP_load 54 = .ok (.isub, 1) := by decide +kernel
theorem dWP_load_55 : decode cWP_load 55 = .ok (.istore 4, 2) := by decide +kernel
theorem dWP_load_57 : decode cWP_load 57 = .ok (.iload 4, 2) := by decide +kernel
theorem dWP_load_59 : decode cWP_load 59 = .ok (.ifCond .lt 34, 3) := by decide +kernel
theorem dWP_load_62 : decode cWP_load 62 = .ok (.aload_n 0, 1) := by decide +kernel
theorem dWP_load_63 : decode cWP_load 63 = .ok (.getfield 40, 3) := by decide +kernel
theorem dWP_load_66 : decode cWP_load 66 = .ok (.aload_n 0, 1) := by decide +kernel
theorem dWP_load_67 : decode cWP_load 67 = .ok (.getfield 44, 3) := by decide +kernel
theorem dWP_load_70 : decode cWP_load 70 = .ok (.lload_n 1, 1) := by decide +kernel
theorem dWP_load_71 : decode cWP_load 71 = .ok (.iload 4, 2) := by decide +kernel
theorem dWP_load_73 : decode cWP_load 73 = .ok (.invokestatic 102, 3) := by decide +kernel
theorem dWP_load_76 : decode cWP_load 76 = .ok (.iastore, 1) := by decide +kernel
theorem dWP_load_77 : decode cWP_load 77 = .ok (.aload_n 0, 1) := by decide +kernel
theorem dWP_load_78 : decode cWP_load 78 = .ok (.dup, 1) := by decide +kernel
theorem dWP_load_79 : decode cWP_load 79 = .ok (.getfield 44, 3) := by decide +kernel
theorem dWP_load_82 : decode cWP_load 82 = .ok (.iconst 1, 1) := by decide +kernel
theorem dWP_load_83 : decode cWP_load 83 = .ok (.iadd, 1) := by decide +kernel
theorem dWP_load_84 : decode cWP_load 84 = .ok (.putfield 44, 3) := by decide +kernel
theorem dWP_load_87 : decode cWP_load 87 = .ok (.iinc 4 (-1), 3) := by decide +kernel
theorem dWP_load_90 : decode cWP_load 90 = .ok (.goto (-33), 3) := by decide +kernel
theorem dWP_load_93 : decode cWP_load 93 = .ok (.aload_n 0, 1) := by decide +kernel
theorem dWP_load_94 : decode cWP_load 94 = .ok (.getfield 44, 3) := by decide +kernel
theorem dWP_load_97 : decode cWP_load 97 = .ok (.ireturn, 1) := by decide +kernel
theorem dWP_message_0 : decode cWP_message 0 = .ok (.aload_n 0, 1) := by decide +kernel
theorem dWP_message_1 : decode cWP_message 1 = .ok (.iload_n 1, 1) := by decide +kernel
theorem dWP_message_2 : decode cWP_message 2 = .ok (.iload_n 2, 1) := by decide +kernel
theorem dWP_message_3 : decode cWP_message 3 = .ok (.invokevirtual 151, 3) := by decide +kernel
theorem dWP_message_6 : decode cWP_message 6 = .ok (.astore 4, 2) := by decide +kernel
theorem dWP_message_8 : decode cWP_message 8 = .ok (.aload 4, 2) := by decide +kernel
theorem dWP_message_10 : decode cWP_message 10 = .ok (.ifnonnull 5, 3) := by decide +kernel
theorem dWP_message_13 : decode cWP_message 13 = .ok (.iconst (-1), 1) := by decide +kernel
theorem dWP_message_14 : decode cWP_message 14 = .ok (.ireturn, 1) := by decide +kernel
theorem dWP_message_15 : decode cWP_message 15 = .ok (.iload_n 3, 1) := by decide +kernel
theorem dWP_message_16 : decode cWP_message 16 = .ok (.tableswitch 64 0 3 #[32, 38, 44, 50], 32) := by decide +kernel
theorem dWP_message_48 : decode cWP_message 48 = .ok (.aload 4, 2) := by decide +kernel
theorem dWP_message_50 : decode cWP_message 50 = .ok (.getfield 155, 3) := by decide +kernel
theorem dWP_message_53 : decode cWP_message 53 = .ok (.ireturn, 1) := by decide +kernel
theorem dWP_message_54 : decode cWP_message 54 = .ok (.aload 4, 2) := by decide +kernel
theorem dWP_message_56 : decode cWP_message 56 = .ok (.getfield 160, 3) := by decide +kernel
theorem dWP_message_59 : decode cWP_message 59 = .ok (.ireturn, 1) := by decide +kernel
theorem dWP_message_60 : decode cWP_message 60 = .ok (.aload 4, 2) := by decide +kernel
theorem dWP_message_62 : decode cWP_message 62 = .ok (.getfield 163, 3) := by decide +kernel
theorem dWP_message_65 : decode cWP_message 65 = .ok (.ireturn, 1) := by decide +kernel
theorem dWP_message_66 : decode cWP_message 66 = .ok (.aload 4, 2) := by decide +kernel
theorem dWP_message_68 : decode cWP_message 68 = .ok (.getfield 166, 3) := by decide +kernel
theorem dWP_message_71 : decode cWP_message 71 = .ok (.ifCond .eq 7, 3) := by decide +kernel
theorem dWP_message_74 : decode cWP_message 74 = .ok (.iconst 1, 1) := by decide +kernel
theorem dWP_message_75 : decode cWP_message 75 = .ok (.goto 4, 3) := by decide +kernel
theorem dWP_message_78 : decode cWP_message 78 = .ok (.iconst 0, 1) := by decide +kernel
theorem dWP_message_79 : decode cWP_message 79 = .ok (.ireturn, 1) := by decide +kernel
theorem dWP_message_80 : decode cWP_message 80 = .ok (.iconst (-1), 1) := by decide +kernel
theorem dWP_message_81 : decode cWP_message 81 = .ok (.ireturn, 1) := by decide +kernel
theorem dWP_missed_0 : decode cWP_missed 0 = .ok (.aload_n 0, 1) := by decide +kernel
theorem dWP_missed_1 : decode cWP_missed 1 = .ok (.iload_n 1, 1) := by decide +kernel
theorem dWP_missed_2 : decode cWP_missed 2 = .ok (.invokevirtual 87, 3) := by decide +kernel
theorem dWP_missed_5 : decode cWP_missed 5 = .ok (.astore_n 3, 1) := by decide +kernel
theorem dWP_missed_6 : decode cWP_missed 6 = .ok (.aload_n 3, 1) := by decide +kernel
theorem dWP_missed_7 : decode cWP_missed 7 = .ok (.ifnonnull 7, 3) := by decide +kernel
theorem dWP_missed_10 : decode cWP_missed 10 = .ok (.aconst_null, 1) := by decide +kernel
theorem dWP_missed_11 : decode cWP_missed 11 = .ok (.goto 8, 3) := by decide +kernel
theorem dWP_missed_14 : decode cWP_missed 14 = .ok (.aload_n 3, 1) := by decide +kernel
theorem dWP_missed_15 : decode cWP_missed 15 = .ok (.iload_n 2, 1) := by decide +kernel
theorem dWP_missed_16 : decode cWP_missed 16 = .ok (.invokevirtual 173, 3) := by decide +kernel
theorem dWP_missed_19 : decode cWP_missed 19 = .ok (.astore 4, 2) := by decide +kernel
theorem dWP_missed_21 : decode cWP_missed 21 = .ok (.aload 4, 2) := by decide +kernel
theorem dWP_missed_23 : decode cWP_missed 23 = .ok (.ifnonnull 7, 3) := by decide +kernel
theorem dWP_missed_26 : decode cWP_missed 26 = .ok (.lconst 0, 1) := by decide +kernel
theorem dWP_missed_27 : decode cWP_missed 27 = .ok (.goto 8, 3) := by decide +kernel
theorem dWP_missed_30 : decode cWP_missed 30 = .ok (.aload 4, 2) := by decide +kernel
theorem dWP_missed_32 : decode cWP_missed 32 = .ok (.getfield 177, 3) := by decide +kernel
theorem dWP_missed_35 : decode cWP_missed 35 = .ok (.lreturn, 1) := by decide +kernel
theorem dWP_pager_0 : decode cWP_pager 0 = .ok (.aload_n 0, 1) := by decide +kernel
theorem dWP_pager_1 : decode cWP_pager 1 = .ok (.getfield 25, 3) := by decide +kernel
theorem dWP_pager_4 : decode cWP_pager 4 = .ok (.bipush 6, 2) := by decide +kernel
theorem dWP_pager_6 : decode cWP_pager 6 = .ok (.if_icmp .lt 5, 3) := by decide +kernel
theorem dWP_pager_9 : decode cWP_pager 9 = .ok (.iconst (-1), 1) := by decide +kernel
theorem dWP_pager_10 : decode cWP_pager 10 = .ok (.ireturn, 1) := by decide +kernel
theorem dWP_pager_11 : decode cWP_pager 11 = .ok (.aload_n 0, 1) := by decide +kernel
theorem dWP_pager_12 : decode cWP_pager 12 = .ok (.getfield 21, 3) := by decide +kernel
theorem dWP_pager_15 : decode cWP_pager 15 = .ok (.aload_n 0, 1) := by decide +kernel
theorem dWP_pager_16 : decode cWP_pager 16 = .ok (.getfield 25, 3) := by decide +kernel
theorem dWP_pager_19 : decode cWP_pager 19 = .ok (.new 19, 3) := by decide +kernel
theorem dWP_pager_22 : decode cWP_pager 22 = .ok (.dup, 1) := by decide +kernel
theorem dWP_pager_23 : decode cWP_pager 23 = .ok (.invokespecial 86, 3) := by decide +kernel
theorem dWP_pager_26 : decode cWP_pager 26 = .ok (.aastore, 1) := by decide +kernel
theorem dWP_pager_27 : decode cWP_pager 27 = .ok (.aload_n 0, 1) := by decide +kernel
theorem dWP_pager_28 : decode cWP_pager 28 = .ok (.dup, 1) := by decide +kernel
theorem dWP_pager_29 : decode cWP_pager 29 = .ok (.getfield 25, 3) := by decide +kernel
theorem dWP_pager_32 : decode cWP_pager 32 = .ok (.iconst 1, 1) := by decide +kernel
theorem dWP_pager_33 : decode cWP_pager 33 = .ok (.iadd, 1) := by decide +kernel
theorem dWP_pager_34 : decode cWP_pager 34 = .ok (.putfield 25, 3) := by decide +kernel
theorem dWP_pager_37 : decode cWP_pager 37 = .ok (.aload_n 0, 1) := by decide +kernel
theorem dWP_pager_38 : decode cWP_pager 38 = .ok (.getfield 25, 3) := by decide +kernel
theorem dWP_pager_41 : decode cWP_pager 41 = .ok (.iconst 1, 1) := by decide +kernel
theorem dWP_pager_42 : decode cWP_pager 42 = .ok (.isub, 1) := by decide +kernel
theorem dWP_pager_43 : decode cWP_pager 43 = .ok (.ireturn, 1) := by decide +kernel
theorem dWP_pagerAt_0 : decode cWP_pagerAt 0 = .ok (.iload_n 1, 1) := by decide +kernel
theorem dWP_pagerAt_1 : decode cWP_pagerAt 1 = .ok (.ifCond .lt 20, 3) := by decide +kernel
theorem dWP_pagerAt_4 : decode cWP_pagerAt 4 = .ok (.iload_n 1, 1) := by decide +kernel
theorem dWP_pagerAt_5 : decode cWP_pagerAt 5 = .ok (.aload_n 0, 1) := by decide +kernel
theorem dWP_pagerAt_6 : decode cWP_pagerAt 6 = .ok (.getfield 25, 3) := by decide +kernel
theorem dWP_pagerAt_9 : decode cWP_pagerAt 9 = .ok (.if_icmp .ge 12, 3) := by decide +kernel
theorem dWP_pagerAt_12 : decode cWP_pagerAt 12 = .ok (.aload_n 0, 1) := by decide +kernel
theorem dWP_pagerAt_13 : decode cWP_pagerAt 13 = .ok (.getfield 21, 3) := by decide +kernel
theorem dWP_pagerAt_16 : decode cWP_pagerAt 16 = .ok (.iload_n 1, 1) := by decide +kernel
theorem dWP_pagerAt_17 : decode cWP_pagerAt 17 = .ok (.aaload, 1) := by decide +kernel
theorem dWP_pagerAt_18 : decode cWP_pagerAt 18 = .ok (.goto 4, 3) := by decide +kernel
theorem dWP_pagerAt_21 : decode cWP_pagerAt 21 = .ok (.aconst_null, 1) := by decide +kernel
theorem dWP_pagerAt_22 : decode cWP_pagerAt 22 = .ok (.areturn, 1) := by decide +kernel
theorem dWP_repair_0 : decode cWP_repair 0 = .ok (.iload_n 1, 1) := by decide +kernel
theorem dWP_repair_1 : decode cWP_repair 1 = .ok (.invokestatic 73, 3) := by decide +kernel
theorem dWP_repair_4 : decode cWP_repair 4 = .ok (.istore_n 2, 1) := by decide +kernel
theorem dWP_repair_5 : decode cWP_repair 5 = .ok (.iload_n 2, 1) := by decide +kernel
theorem dWP_repair_6 : decode cWP_repair 6 = .ok (.iconst (-1), 1) := by decide +kernel
theorem dWP_repair_7 : decode cWP_repair 7 = .ok (.if_icmp .ne 7, 3) := by decide +kernel
theorem dWP_repair_10 : decode cWP_repair 10 = .ok (.iconst (-1), 1) := by decide +kernel
theorem dWP_repair_11 : decode cWP_repair 11 = .ok (.goto 9, 3) := by decide +kernel
theorem dWP_repair_14 : decode cWP_repair 14 = .ok (.iload_n 1, 1) := by decide +kernel
theorem dWP_repair_15 : decode cWP_repair 15 = .ok (.iload_n 2, 1) := by decide +kernel
theorem dWP_repair_16 : decode cWP_repair 16 = .ok (.ixor, 1) := by decide +kernel
theorem dWP_repair_17 : decode cWP_repair 17 = .ok (.bipush 11, 2) := by decide +kernel
theorem dWP_repair_19 : decode cWP_repair 19 = .ok (.iushr, 1) := by decide +kernel
theorem dWP_repair_20 : decode cWP_repair 20 = .ok (.ireturn, 1) := by decide +kernel
theorem dWP_sign_0 : decode cWP_sign 0 = .ok (.aload_n 0, 1) := by decide +kernel
theorem dWP_sign_1 : decode cWP_sign 1 = .ok (.iload_n 1, 1) := by decide +kernel
theorem dWP_sign_2 : decode cWP_sign 2 = .ok (.iload_n 2, 1) := by decide +kernel
theorem dWP_sign_3 : decode cWP_sign 3 = .ok (.invokevirtual 151, 3) := by decide +kernel
theorem dWP_sign_6 : decode cWP_sign 6 = .ok (.astore 4, 2) := by decide +kernel
theorem dWP_sign_8 : decode cWP_sign 8 = .ok (.aload 4, 2) := by decide +kernel
theorem dWP_sign_10 : decode cWP_sign 10 = .ok (.ifnull 16, 3) := by decide +kernel
theorem dWP_sign_13 : decode cWP_sign 13 = .ok (.iload_n 3, 1) := by decide +kernel
theorem dWP_sign_14 : decode cWP_sign 14 = .ok (.ifCond .lt 12, 3) := by decide +kernel
theorem dWP_sign_17 : decode cWP_sign 17 = .ok (.iload_n 3, 1) := by decide +kernel
theorem dWP_sign_18 : decode cWP_sign 18 = .ok (.aload 4, 2) := by decide +kernel
theorem dWP_sign_20 : decode cWP_sign 20 = .ok (.getfield 163, 3) := by decide +kernel
theorem dWP_sign_23 : decode cWP_sign 23 = .ok (.if_icmp .lt 7, 3) := by decide +kernel
theorem dWP_sign_26 : decode cWP_sign 26 = .ok (.iconst (-1), 1) := by decide +kernel
theorem dWP_sign_27 : decode cWP_sign 27 = .ok (.goto 10, 3) := by decide +kernel
theorem dWP_sign_30 : decode cWP_sign 30 = .ok (.aload 4, 2) := by decide +kernel
theorem dWP_sign_32 : decode cWP_sign 32 = .ok (.getfield 170, 3) := by decide +kernel
theorem dWP_sign_35 : decode cWP_sign 35 = .ok (.iload_n 3, 1) := by decide +kernel
theorem dWP_sign_36 : decode cWP_sign 36 = .ok (.iaload, 1) := by decide +kernel
theorem dWP_sign_37 : decode cWP_sign 37 = .ok (.ireturn, 1) := by decide +kernel
theorem dWP_storedAt_0 : decode cWP_storedAt 0 = .ok (.aload_n 0, 1) := by decide +kernel
theorem dWP_storedAt_1 : decode cWP_storedAt 1 = .ok (.iload_n 1, 1) := by decide +kernel
theorem dWP_storedAt_2 : decode cWP_storedAt 2 = .ok (.invokevirtual 87, 3) := by decide +kernel
theorem dWP_storedAt_5 : decode cWP_storedAt 5 = .ok (.astore_n 3, 1) := by decide +kernel
theorem dWP_storedAt_6 : decode cWP_storedAt 6 = .ok (.aload_n 3, 1) := by decide +kernel
theorem dWP_storedAt_7 : decode cWP_storedAt 7 = .ok (.ifnonnull 7, 3) := by decide +kernel
theorem dWP_storedAt_10 : decode cWP_storedAt 10 = .ok (.aconst_null, 1) := by decide +kernel
theorem dWP_storedAt_11 : decode cWP_storedAt 11 = .ok (.goto 8, 3) := by decide +kernel
theorem dWP_storedAt_14 : decode cWP_storedAt 14 = .ok (.aload_n 3, 1) := by decide +kernel
theorem dWP_storedAt_15 : decode cWP_storedAt 15 = .ok (.iload_n 2, 1) := by decide +kernel
theorem dWP_storedAt_16 : decode cWP_storedAt 16 = .ok (.invokevirtual 201, 3) := by decide +kernel
theorem dWP_storedAt_19 : decode cWP_storedAt 19 = .ok (.areturn, 1) := by decide +kernel
theorem dWP_transmit_0 : decode cWP_transmit 0 = .ok (.iload_n 1, 1) := by decide +kernel
theorem dWP_transmit_1 : decode cWP_transmit 1 = .ok (.iconst 1, 1) := by decide +kernel
theorem dWP_transmit_2 : decode cWP_transmit 2 = .ok (.if_icmp .lt 8, 3) := by decide +kernel
theorem dWP_transmit_5 : decode cWP_transmit 5 = .ok (.iload_n 1, 1) := by decide +kernel
theorem dWP_transmit_6 : decode cWP_transmit 6 = .ok (.iconst 4, 1) := by decide +kernel
theorem dWP_transmit_7 : decode cWP_transmit 7 = .ok (.if_icmp .le 5, 3) := by decide +kernel
theorem dWP_transmit_10 : decode cWP_transmit 10 = .ok (.iconst (-1), 1) := by decide +kernel
theorem dWP_transmit_11 : decode cWP_transmit 11 = .ok (.ireturn, 1) := by decide +kernel
theorem dWP_transmit_12 : decode cWP_transmit 12 = .ok (.aload_n 0, 1) := by decide +kernel
theorem dWP_transmit_13 : decode cWP_transmit 13 = .ok (.iload_n 1, 1) := by decide +kernel
theorem dWP_transmit_14 : decode cWP_transmit 14 = .ok (.invokevirtual 121, 3) := by decide +kernel
theorem dWP_transmit_17 : decode cWP_transmit 17 = .ok (.aload_n 0, 1) := by decide +kernel
theorem dWP_transmit_18 : decode cWP_transmit 18 = .ok (.getfield 57, 3) := by decide +kernel
theorem dWP_transmit_21 : decode cWP_transmit 21 = .ok (.aload_n 0, 1) := by decide +kernel
theorem dWP_transmit_22 : decode cWP_transmit 22 = .ok (.getfield 50, 3) := by decide +kernel
theorem dWP_transmit_25 : decode cWP_transmit 25 = .ok (.getfield 125, 3) := by decide +kernel
theorem dWP_transmit_28 : decode cWP_transmit 28 = .ok (.iload_n 1, 1) := by decide +kernel
theorem dWP_transmit_29 : decode cWP_transmit 29 = .ok (.invokevirtual 128, 3) := by decide +kernel
theorem dWP_transmit_32 : decode cWP_transmit 32 = .ok (.aload_n 0, 1) := by decide +kernel
theorem dWP_transmit_33 : decode cWP_transmit 33 = .ok (.getfield 57, 3) := by decide +kernel
theorem dWP_transmit_36 : decode cWP_transmit 36 = .ok (.getfield 132, 3) := by decide +kernel
theorem dWP_transmit_39 : decode cWP_transmit 39 = .ok (.ireturn, 1) := by decide +kernel
theorem dWP_unload_0 : decode cWP_unload 0 = .ok (.aload_n 0, 1) := by decide +kernel
theorem dWP_unload_1 : decode cWP_unload 1 = .ok (.getfield 44, 3) := by decide +kernel
theorem dWP_unload_4 : decode cWP_unload 4 = .ok (.istore_n 1, 1) := by decide +kernel
theorem dWP_unload_5 : decode cWP_unload 5 = .ok (.aload_n 0, 1) := by decide +kernel
theorem dWP_unload_6 : decode cWP_unload 6 = .ok (.iconst 0, 1) := by decide +kernel
theorem dWP_unload_7 : decode cWP_unload 7 = .ok (.putfield 44, 3) := by decide +kernel
theorem dWP_unload_10 : decode cWP_unload 10 = .ok (.iload_n 1, 1) := by decide +kernel
theorem dWP_unload_11 : decode cWP_unload 11 = .ok (.ireturn, 1) := by decide +kernel
theorem dWP_waiting_0 : decode cWP_waiting 0 = .ok (.aload_n 0, 1) := by decide +kernel
theorem dWP_waiting_1 : decode cWP_waiting 1 = .ok (.getfield 37, 3) := by decide +kernel
theorem dWP_waiting_4 : decode cWP_waiting 4 = .ok (.ireturn, 1) := by decide +kernel
theorem dAi_init_0 : decode cAi_init 0 = .ok (.aload_n 0, 1) := by decide +kernel
theorem dAi_init_1 : decode cAi_init 1 = .ok (.invokespecial 5, 3) := by decide +kernel
theorem dAi_init_4 : decode cAi_init 4 = .ok (.aload_n 0, 1) := by decide +kernel
theorem dAi_init_5 : decode cAi_init 5 = .ok (.bipush 70, 2) := by decide +kernel
theorem dAi_init_7 : decode cAi_init 7 = .ok (.newarray .int, 2) := by decide +kernel
theorem dAi_init_9 : decode cAi_init 9 = .ok (.putfield 11, 3) := by decide +kernel
theorem dAi_init_12 : decode cAi_init 12 = .ok (.aload_n 0, 1) := by decide +kernel
theorem dAi_init_13 : decode cAi_init 13 = .ok (.iconst 0, 1) := by decide +kernel
theorem dAi_init_14 : decode cAi_init 14 = .ok (.putfield 15, 3) := by decide +kernel
theorem dAi_init_17 : decode cAi_init 17 = .ok (.return_, 1) := by decide +kernel
theorem dAi_bitAt_0 : decode cAi_bitAt 0 = .ok (.aload_n 0, 1) := by decide +kernel
theorem dAi_bitAt_1 : decode cAi_bitAt 1 = .ok (.getfield 11, 3) := by decide +kernel
theorem dAi_bitAt_4 : decode cAi_bitAt 4 = .ok (.iload_n 1, 1) := by decide +kernel
theorem dAi_bitAt_5 : decode cAi_bitAt 5 = .ok (.bipush 32, 2) := by decide +kernel
theorem dAi_bitAt_7 : decode cAi_bitAt 7 = .ok (.idiv, 1) := by decide +kernel
theorem dAi_bitAt_8 : decode cAi_bitAt 8 = .ok (.iaload, 1) := by decide +kernel
theorem dAi_bitAt_9 : decode cAi_bitAt 9 = .ok (.bipush 31, 2) := by decide +kernel
theorem dAi_bitAt_11 : decode cAi_bitAt 11 = .ok (.iload_n 1, 1) := by decide +kernel
theorem dAi_bitAt_12 : decode cAi_bitAt 12 = .ok (.bipush 32, 2) := by decide +kernel
theorem dAi_bitAt_14 : decode cAi_bitAt 14 = .ok (.irem, 1) := by decide +kernel
theorem dAi_bitAt_15 : decode cAi_bitAt 15 = .ok (.isub, 1) := by decide +kernel
theorem dAi_bitAt_16 : decode cAi_bitAt 16 = .ok (.iushr, 1) := by decide +kernel
theorem dAi_bitAt_17 : decode cAi_bitAt 17 = .ok (.iconst 1, 1) := by decide +kernel
theorem dAi_bitAt_18 : decode cAi_bitAt 18 = .ok (.iand, 1) := by decide +kernel
theorem dAi_bitAt_19 : decode cAi_bitAt 19 = .ok (.ireturn, 1) := by decide +kernel
theorem dAi_changeBit_0 : decode cAi_changeBit 0 = .ok (.aload_n 0, 1) := by decide +kernel
theorem dAi_changeBit_1 : decode cAi_changeBit 1 = .ok (.getfield 11, 3) := by decide +kernel
theorem dAi_changeBit_4 : decode cAi_changeBit 4 = .ok (.iload_n 1, 1) := by decide +kernel
theorem dAi_changeBit_5 : decode cAi_changeBit 5 = .ok (.bipush 32, 2) := by decide +kernel
theorem dAi_changeBit_7 : decode cAi_changeBit 7 = .ok (.idiv, 1) := by decide +kernel
theorem dAi_changeBit_8 : decode cAi_changeBit 8 = .ok (.dup2, 1) := by decide +kernel
theorem dAi_changeBit_9 : decode cAi_changeBit 9 = .ok (.iaload, 1) := by decide +kernel
theorem dAi_changeBit_10 : decode cAi_changeBit 10 = .ok (.iconst 1, 1) := by decide +kernel
theorem dAi_changeBit_11 : decode cAi_changeBit 11 = .ok (.bipush 31, 2) := by decide +kernel
theorem dAi_changeBit_13 : decode cAi_changeBit 13 = .ok (.iload_n 1, 1) := by decide +kernel
theorem dAi_changeBit_14 : decode cAi_changeBit 14 = .ok (.bipush 32, 2) := by decide +kernel
theorem dAi_changeBit_16 : decode cAi_changeBit 16 = .ok (.irem, 1) := by decide +kernel
theorem dAi_changeBit_17 : decode cAi_changeBit 17 = .ok (.isub, 1) := by decide +kernel
theorem dAi_changeBit_18 : decode cAi_changeBit 18 = .ok (.ishl, 1) := by decide +kernel
theorem dAi_changeBit_19 : decode cAi_changeBit 19 = .ok (.ixor, 1) := by decide +kernel
theorem dAi_changeBit_20 : decode cAi_changeBit 20 = .ok (.iastore, 1) := by decide +kernel
theorem dAi_changeBit_21 : decode cAi_changeBit 21 = .ok (.return_, 1) := by decide +kernel
theorem dAi_hasBit_0 : decode cAi_hasBit 0 = .ok (.iload_n 1, 1) := by decide +kernel
theorem dAi_hasBit_1 : decode cAi_hasBit 1 = .ok (.ifCond .lt 15, 3) := by decide +kernel
theorem dAi_hasBit_4 : decode cAi_hasBit 4 = .ok (.iload_n 1, 1) := by decide +kernel
theorem dAi_hasBit_5 : decode cAi_hasBit 5 = .ok (.aload_n 0, 1) := by decide +kernel
theorem dAi_hasBit_6 : decode cAi_hasBit 6 = .ok (.getfield 15, 3) := by decide +kernel
theorem dAi_hasBit_9 : decode cAi_hasBit 9 = .ok (.if_icmp .ge 7, 3) := by decide +kernel
theorem dAi_hasBit_12 : decode cAi_hasBit 12 = .ok (.iconst 1, 1) := by decide +kernel
theorem dAi_hasBit_13 : decode cAi_hasBit 13 = .ok (.goto 4, 3) := by decide +kernel
theorem dAi_hasBit_16 : decode cAi_hasBit 16 = .ok (.iconst 0, 1) := by decide +kernel
theorem dAi_hasBit_17 : decode cAi_hasBit 17 = .ok (.ireturn, 1) := by decide +kernel
theorem dAi_hasWord_0 : decode cAi_hasWord 0 = .ok (.iload_n 1, 1) := by decide +kernel
theorem dAi_hasWord_1 : decode cAi_hasWord 1 = .ok (.ifCond .lt 18, 3) := by decide +kernel
theorem dAi_hasWord_4 : decode cAi_hasWord 4 = .ok (.iload_n 1, 1) := by decide +kernel
theorem dAi_hasWord_5 : decode cAi_hasWord 5 = .ok (.aload_n 0, 1) := by decide +kernel
theorem dAi_hasWord_6 : decode cAi_hasWord 6 = .ok (.getfield 15, 3) := by decide +kernel
theorem dAi_hasWord_9 : decode cAi_hasWord 9 = .ok (.bipush 32, 2) := by decide +kernel
theorem dAi_hasWord_11 : decode cAi_hasWord 11 = .ok (.isub, 1) := by decide +kernel
theorem dAi_hasWord_12 : decode cAi_hasWord 12 = .ok (.if_icmp .gt 7, 3) := by decide +kernel
theorem dAi_hasWord_15 : decode cAi_hasWord 15 = .ok (.iconst 1, 1) := by decide +kernel
theorem dAi_hasWord_16 : decode cAi_hasWord 16 = .ok (.goto 4, 3) := by decide +kernel
theorem dAi_hasWord_19 : decode cAi_hasWord 19 = .ok (.iconst 0, 1) := by decide +kernel
theorem dAi_hasWord_20 : decode cAi_hasWord 20 = .ok (.ireturn, 1) := by decide +kernel
theorem dAi_send_0 : decode cAi_send 0 = .ok (.iconst 0, 1) := by decide +kernel
theorem dAi_send_1 : decode cAi_send 1 = .ok (.istore_n 3, 1) := by decide +kernel
theorem dAi_send_2 : decode cAi_send 2 = .ok (.iconst 0, 1) := by decide +kernel
theorem dAi_send_3 : decode cAi_send 3 = .ok (.istore 4, 2) := by decide +kernel
theorem dAi_send_5 : decode cAi_send 5 = .ok (.iload 4, 2) := by decide +kernel
theorem dAi_send_7 : decode cAi_send 7 = .ok (.iconst 2, 1) := by decide +kernel
theorem dAi_send_8 : decode cAi_send 8 = .ok (.if_icmp .ge 20, 3) := by decide +kernel
theorem dAi_send_11 : decode cAi_send 11 = .ok (.aload_n 0, 1) := by decide +kernel
theorem dAi_send_12 : decode cAi_send 12 = .ok (.getfield 11, 3) := by decide +kernel
theorem dAi_send_15 : decode cAi_send 15 = .ok (.iload_n 3, 1) := by decide +kernel
theorem dAi_send_16 : decode cAi_send 16 = .ok (.iinc 3 1, 3) := by decide +kernel
theorem dAi_send_19 : decode cAi_send 19 = .ok (.ldc 19, 2) := by decide +kernel
theorem dAi_send_21 : decode cAi_send 21 = .ok (.iastore, 1) := by decide +kernel
theorem dAi_send_22 : decode cAi_send 22 = .ok (.iinc 4 1, 3) := by decide +kernel
theorem dAi_send_25 : decode cAi_send 25 = .ok (.goto (-20), 3) := by decide +kernel
theorem dAi_send_28 : decode cAi_send 28 = .ok (.iconst 0, 1) := by decide +kernel
theorem dAi_send_29 : decode cAi_send 29 = .ok (.istore 4, 2) := by decide +kernel
theorem dAi_send_31 : decode cAi_send 31 = .ok (.iload 4, 2) := by decide +kernel
theorem dAi_send_33 : decode cAi_send 33 = .ok (.iload_n 2, 1) := by decide +kernel
theorem dAi_send_34 : decode cAi_send 34 = .ok (.if_icmp .ge 39, 3) := by decide +kernel
theorem dAi_send_37 : decode cAi_send 37 = .ok (.aload_n 0, 1) := by decide +kernel
theorem dAi_send_38 : decode cAi_send 38 = .ok (.getfield 11, 3) := by decide +kernel
theorem dAi_send_41 : decode cAi_send 41 = .ok (.iload_n 3, 1) := by decide +kernel
theorem dAi_send_42 : decode cAi_send 42 = .ok (.iinc 3 1, 3) := by decide +kernel
theorem dAi_send_45 : decode cAi_send 45 = .ok (.ldc 20, 2) := by decide +kernel
theorem dAi_send_47 : decode cAi_send 47 = .ok (.iastore, 1) := by decide +kernel
theorem dAi_send_48 : decode cAi_send 48 = .ok (.aload_n 1, 1) := by decide +kernel
theorem dAi_send_49 : decode cAi_send 49 = .ok (.iload 4, 2) := by decide +kernel
theorem dAi_send_51 : decode cAi_send 51 = .ok (.bipush 16, 2) := by decide +kernel
theorem dAi_send_53 : decode cAi_send 53 = .ok (.imul, 1) := by decide +kernel
theorem dAi_send_54 : decode cAi_send 54 = .ok (.aload_n 0, 1) := by decide +kernel
theorem dAi_send_55 : decode cAi_send 55 = .ok (.getfield 11, 3) := by decide +kernel
theorem dAi_send_58 : decode cAi_send 58 = .ok (.iload_n 3, 1) := by decide +kernel
theorem dAi_send_59 : decode cAi_send 59 = .ok (.bipush 16, 2) := by decide +kernel
theorem dAi_send_61 : decode cAi_send 61 = .ok (.invokestatic 21, 3) := by decide +kernel
theorem dAi_send_64 : decode cAi_send 64 = .ok (.iinc 3 16, 3) := by decide +kernel
theorem dAi_send_67 : decode cAi_send 67 = .ok (.iinc 4 1, 3) := by decide +kernel
theorem dAi_send_70 : decode cAi_send 70 = .ok (.goto (-39), 3) := by decide +kernel
theorem dAi_send_73 : decode cAi_send 73 = .ok (.aload_n 0, 1) := by decide +kernel
theorem dAi_send_74 : decode cAi_send 74 = .ok (.iload_n 3, 1) := by decide +kernel
theorem dAi_send_75 : decode cAi_send 75 = .ok (.bipush 32, 2) := by decide +kernel
theorem dAi_send_77 : decode cAi_send 77 = .ok (.imul, 1) := by decide +kernel
theorem dAi_send_78 : decode cAi_send 78 = .ok (.putfield 15, 3) := by decide +kernel
theorem dAi_send_81 : decode cAi_send 81 = .ok (.return_, 1) := by decide +kernel
theorem dAi_wordAt_0 : decode cAi_wordAt 0 = .ok (.iload_n 1, 1) := by decide +kernel
theorem dAi_wordAt_1 : decode cAi_wordAt 1 = .ok (.bipush 32, 2) := by decide +kernel
theorem dAi_wordAt_3 : decode cAi_wordAt 3 = .ok (.idiv, 1) := by decide +kernel
theorem dAi_wordAt_4 : decode cAi_wordAt 4 = .ok (.istore_n 2, 1) := by decide +kernel
theorem dAi_wordAt_5 : decode cAi_wordAt 5 = .ok (.iload_n 1, 1) := by decide +kernel
theorem dAi_wordAt_6 : decode cAi_wordAt 6 = .ok (.bipush 32, 2) := by decide +kernel
theorem dAi_wordAt_8 : decode cAi_wordAt 8 = .ok (.irem, 1) := by decide +kernel
theorem dAi_wordAt_9 : decode cAi_wordAt 9 = .ok (.istore_n 3, 1) := by decide +kernel
theorem dAi_wordAt_10 : decode cAi_wordAt 10 = .ok (.iload_n 3, 1) := by decide +kernel
theorem dAi_wordAt_11 : decode cAi_wordAt 11 = .ok (.ifCond .ne 12, 3) := by decide +kernel
theorem dAi_wordAt_14 : decode cAi_wordAt 14 = .ok (.aload_n 0, 1) := by decide +kernel
theorem dAi_wordAt_15 : decode cAi_wordAt 15 = .ok (.getfield 11, 3) := by decide +kernel
theorem dAi_wordAt_18 : decode cAi_wordAt 18 = .ok (.iload_n 2, 1) := by decide +kernel
theorem dAi_wordAt_19 : decode cAi_wordAt 19 = .ok (.iaload, 1) := by decide +kernel
theorem dAi_wordAt_20 : decode cAi_wordAt 20 = .ok (.goto 25, 3) := by decide +kernel
theorem dAi_wordAt_23 : decode cAi_wordAt 23 = .ok (.aload_n 0, 1) := by decide +kernel
theorem dAi_wordAt_24 : decode cAi_wordAt 24 = .ok (.getfield 11, 3) := by decide +kernel
theorem dAi_wordAt_27 : decode cAi_wordAt 27 = .ok (.iload_n 2, 1) := by decide +kernel
theorem dAi_wordAt_28 : decode cAi_wordAt 28 = .ok (.iaload, 1) := by decide +kernel
theorem dAi_wordAt_29 : decode cAi_wordAt 29 = .ok (.iload_n 3, 1) := by decide +kernel
theorem dAi_wordAt_30 : decode cAi_wordAt 30 = .ok (.ishl, 1) := by decide +kernel
theorem dAi_wordAt_31 : decode cAi_wordAt 31 = .ok (.aload_n 0, 1) := by decide +kernel
theorem dAi_wordAt_32 : decode cAi_wordAt 32 = .ok (.getfield 11, 3) := by decide +kernel
theorem dAi_wordAt_35 : decode cAi_wordAt 35 = .ok (.iload_n 2, 1) := by decide +kernel
theorem dAi_wordAt_36 : decode cAi_wordAt 36 = .ok (.iconst 1, 1) := by decide +kernel
theorem dAi_wordAt_37 : decode cAi_wordAt 37 = .ok (.iadd, 1) := by decide +kernel
theorem dAi_wordAt_38 : decode cAi_wordAt 38 = .ok (.iaload, 1) := by decide +kernel
theorem dAi_wordAt_39 : decode cAi_wordAt 39 = .ok (.bipush 32, 2) := by decide +kernel
theorem dAi_wordAt_41 : decode cAi_wordAt 41 = .ok (.iload_n 3, 1) := by decide +kernel
theorem dAi_wordAt_42 : decode cAi_wordAt 42 = .ok (.isub, 1) := by decide +kernel
theorem dAi_wordAt_43 : decode cAi_wordAt 43 = .ok (.iushr, 1) := by decide +kernel
theorem dAi_wordAt_44 : decode cAi_wordAt 44 = .ok (.ior, 1) := by decide +kernel
theorem dAi_wordAt_45 : decode cAi_wordAt 45 = .ok (.ireturn, 1) := by decide +kernel
theorem dHd_init_0 : decode cHd_init 0 = .ok (.aload_n 0, 1) := by decide +kernel
theorem dHd_init_1 : decode cHd_init 1 = .ok (.invokespecial 3, 3) := by decide +kernel
theorem dHd_init_4 : decode cHd_init 4 = .ok (.aload_n 0, 1) := by decide +kernel
theorem dHd_init_5 : decode cHd_init 5 = .ok (.lconst 0, 1) := by decide +kernel
theorem dHd_init_6 : decode cHd_init 6 = .ok (.putfield 9, 3) := by decide +kernel
theorem dHd_init_9 : decode cHd_init 9 = .ok (.aload_n 0, 1) := by decide +kernel
theorem dHd_init_10 : decode cHd_init 10 = .ok (.iconst (-1), 1) := by decide +kernel
theorem dHd_init_11 : decode cHd_init 11 = .ok (.putfield 15, 3) := by decide +kernel
theorem dHd_init_14 : decode cHd_init 14 = .ok (.aload_n 0, 1) := by decide +kernel
theorem dHd_init_15 : decode cHd_init 15 = .ok (.aload_n 1, 1) := by decide +kernel
theorem dHd_init_16 : decode cHd_init 16 = .ok (.putfield 19, 3) := by decide +kernel
theorem dHd_init_19 : decode cHd_init 19 = .ok (.return_, 1) := by decide +kernel
theorem dHd_noteNumber_0 : decode cHd_noteNumber 0 = .ok (.aload_n 0, 1) := by decide +kernel
theorem dHd_noteNumber_1 : decode cHd_noteNumber 1 = .ok (.getfield 15, 3) := by decide +kernel
theorem dHd_noteNumber_4 : decode cHd_noteNumber 4 = .ok (.iconst (-1), 1) := by decide +kernel
theorem dHd_noteNumber_5 : decode cHd_noteNumber 5 = .ok (.if_icmp .ne 7, 3) := by decide +kernel
theorem dHd_noteNumber_8 : decode cHd_noteNumber 8 = .ok (.iconst 0, 1) := by decide +kernel
theorem dHd_noteNumber_9 : decode cHd_noteNumber 9 = .ok (.goto 14, 3) := by decide +kernel
theorem dHd_noteNumber_12 : decode cHd_noteNumber 12 = .ok (.iload_n 1, 1) := by decide +kernel
theorem dHd_noteNumber_13 : decode cHd_noteNumber 13 = .ok (.aload_n 0, 1) := by decide +kernel
theorem dHd_noteNumber_14 : decode cHd_noteNumber 14 = .ok (.getfield 15, 3) := by decide +kernel
theorem dHd_noteNumber_17 : decode cHd_noteNumber 17 = .ok (.isub, 1) := by decide +kernel
theorem dHd_noteNumber_18 : decode cHd_noteNumber 18 = .ok (.bipush 64, 2) := by decide +kernel
theorem dHd_noteNumber_20 : decode cHd_noteNumber 20 = .ok (.invokestatic 23, 3) := by decide +kernel
theorem dHd_noteNumber_23 : decode cHd_noteNumber 23 = .ok (.istore_n 2, 1) := by decide +kernel
theorem dHd_noteNumber_24 : decode cHd_noteNumber 24 = .ok (.aload_n 0, 1) := by decide +kernel
theorem dHd_noteNumber_25 : decode cHd_noteNumber 25 = .ok (.getfield 15, 3) := by decide +kernel
theorem dHd_noteNumber_28 : decode cHd_noteNumber 28 = .ok (.iconst (-1), 1) := by decide +kernel
theorem dHd_noteNumber_29 : decode cHd_noteNumber 29 = .ok (.if_icmp .ne 11, 3) := by decide +kernel
theorem dHd_noteNumber_32 : decode cHd_noteNumber 32 = .ok (.aload_n 0, 1) := by decide +kernel
theorem dHd_noteNumber_33 : decode cHd_noteNumber 33 = .ok (.iload_n 1, 1) := by decide +kernel
theorem dHd_noteNumber_34 : decode cHd_noteNumber 34 = .ok (.putfield 15, 3) := by decide +kernel
theorem dHd_noteNumber_37 : decode cHd_noteNumber 37 = .ok (.goto 52, 3) := by decide +kernel
theorem dHd_noteNumber_40 : decode cHd_noteNumber 40 = .ok (.iload_n 2, 1) := by decide +kernel
theorem dHd_noteNumber_41 : decode cHd_noteNumber 41 = .ok (.iconst 1, 1) := by decide +kernel
theorem dHd_noteNumber_42 : decode cHd_noteNumber 42 = .ok (.if_icmp .lt 47, 3) := by decide +kernel
theorem dHd_noteNumber_45 : decode cHd_noteNumber 45 = .ok (.iload_n 2, 1) := by decide +kernel
theorem dHd_noteNumber_46 : decode cHd_noteNumber 46 = .ok (.bipush 32, 2) := by decide +kernel
theorem dHd_noteNumber_48 : decode cHd_noteNumber 48 = .ok (.if_icmp .ge 41, 3) := by decide +kernel
theorem dHd_noteNumber_51 : decode cHd_noteNumber 51 = .ok (.iconst 1, 1) := by decide +kernel
theorem dHd_noteNumber_52 : decode cHd_noteNumber 52 = .ok (.istore_n 3, 1) := by decide +kernel
theorem dHd_noteNumber_53 : decode cHd_noteNumber 53 = .ok (.iload_n 3, 1) := by decide +kernel
