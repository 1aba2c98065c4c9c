theorem dPg_calledBy_2 : decode cPg_calledBy 2 = .ok (.iload_n 3, 1) := by decide +kernel
theorem dPg_calledBy_3 : decode cPg_calledBy 3 = .ok (.aload_n 0, 1) := by decide +kernel
theorem dPg_calledBy_4 : decode cPg_calledBy 4 = .ok (.getfield 15, 3) := by decide +kernel
theorem dPg_calledBy_7 : decode cPg_calledBy 7 = .ok (.if_icmp .ge 45, 3) := by decide +kernel
theorem dPg_calledBy_10 : decode cPg_calledBy 10 = .ok (.aload_n 0, 1) := by decide +kernel
theorem dPg_calledBy_11 : decode cPg_calledBy 11 = .ok (.getfield 11, 3) := by decide +kernel
theorem dPg_calledBy_14 : decode cPg_calledBy 14 = .ok (.iload_n 3, 1) := by decide +kernel
theorem dPg_calledBy_15 : decode cPg_calledBy 15 = .ok (.aaload, 1) := by decide +kernel
theorem dPg_calledBy_16 : decode cPg_calledBy 16 = .ok (.getfield 56, 3) := by decide +kernel
theorem dPg_calledBy_19 : decode cPg_calledBy 19 = .ok (.astore 4, 2) := by decide +kernel
theorem dPg_calledBy_21 : decode cPg_calledBy 21 = .ok (.aload 4, 2) := by decide +kernel
theorem dPg_calledBy_23 : decode cPg_calledBy 23 = .ok (.getfield 60, 3) := by decide +kernel
theorem dPg_calledBy_26 : decode cPg_calledBy 26 = .ok (.iload_n 2, 1) := by decide +kernel
theorem dPg_calledBy_27 : decode cPg_calledBy 27 = .ok (.if_icmp .ne 19, 3) := by decide +kernel
theorem dPg_calledBy_30 : decode cPg_calledBy 30 = .ok (.aload 4, 2) := by decide +kernel
theorem dPg_calledBy_32 : decode cPg_calledBy 32 = .ok (.getfield 63, 3) := by decide +kernel
theorem dPg_calledBy_35 : decode cPg_calledBy 35 = .ok (.iload_n 1, 1) := by decide +kernel
theorem dPg_calledBy_36 : decode cPg_calledBy 36 = .ok (.if_icmp .ne 10, 3) := by decide +kernel
theorem dPg_calledBy_39 : decode cPg_calledBy 39 = .ok (.aload_n 0, 1) := by decide +kernel
theorem dPg_calledBy_40 : decode cPg_calledBy 40 = .ok (.getfield 11, 3) := by decide +kernel
theorem dPg_calledBy_43 : decode cPg_calledBy 43 = .ok (.iload_n 3, 1) := by decide +kernel
theorem dPg_calledBy_44 : decode cPg_calledBy 44 = .ok (.aaload, 1) := by decide +kernel
theorem dPg_calledBy_45 : decode cPg_calledBy 45 = .ok (.areturn, 1) := by decide +kernel
theorem dPg_calledBy_46 : decode cPg_calledBy 46 = .ok (.iinc 3 1, 3) := by decide +kernel
theorem dPg_calledBy_49 : decode cPg_calledBy 49 = .ok (.goto (-47), 3) := by decide +kernel
theorem dPg_calledBy_52 : decode cPg_calledBy 52 = .ok (.aconst_null, 1) := by decide +kernel
theorem dPg_calledBy_53 : decode cPg_calledBy 53 = .ok (.areturn, 1) := by decide +kernel
theorem dPg_hasFrame_0 : decode cPg_hasFrame 0 = .ok (.iconst 0, 1) := by decide +kernel
theorem dPg_hasFrame_1 : decode cPg_hasFrame 1 = .ok (.istore_n 2, 1) := by decide +kernel
theorem dPg_hasFrame_2 : decode cPg_hasFrame 2 = .ok (.iload_n 2, 1) := by decide +kernel
theorem dPg_hasFrame_3 : decode cPg_hasFrame 3 = .ok (.aload_n 0, 1) := by decide +kernel
theorem dPg_hasFrame_4 : decode cPg_hasFrame 4 = .ok (.getfield 15, 3) := by decide +kernel
theorem dPg_hasFrame_7 : decode cPg_hasFrame 7 = .ok (.if_icmp .ge 27, 3) := by decide +kernel
theorem dPg_hasFrame_10 : decode cPg_hasFrame 10 = .ok (.aload_n 0, 1) := by decide +kernel
theorem dPg_hasFrame_11 : decode cPg_hasFrame 11 = .ok (.getfield 11, 3) := by decide +kernel
theorem dPg_hasFrame_14 : decode cPg_hasFrame 14 = .ok (.iload_n 2, 1) := by decide +kernel
theorem dPg_hasFrame_15 : decode cPg_hasFrame 15 = .ok (.aaload, 1) := by decide +kernel
theorem dPg_hasFrame_16 : decode cPg_hasFrame 16 = .ok (.getfield 56, 3) := by decide +kernel
theorem dPg_hasFrame_19 : decode cPg_hasFrame 19 = .ok (.getfield 60, 3) := by decide +kernel
theorem dPg_hasFrame_22 : decode cPg_hasFrame 22 = .ok (.iload_n 1, 1) := by decide +kernel
theorem dPg_hasFrame_23 : decode cPg_hasFrame 23 = .ok (.if_icmp .ne 5, 3) := by decide +kernel
theorem dPg_hasFrame_26 : decode cPg_hasFrame 26 = .ok (.iconst 1, 1) := by decide +kernel
theorem dPg_hasFrame_27 : decode cPg_hasFrame 27 = .ok (.ireturn, 1) := by decide +kernel
theorem dPg_hasFrame_28 : decode cPg_hasFrame 28 = .ok (.iinc 2 1, 3) := by decide +kernel
theorem dPg_hasFrame_31 : decode cPg_hasFrame 31 = .ok (.goto (-29), 3) := by decide +kernel
theorem dPg_hasFrame_34 : decode cPg_hasFrame 34 = .ok (.iconst 0, 1) := by decide +kernel
theorem dPg_hasFrame_35 : decode cPg_hasFrame 35 = .ok (.ireturn, 1) := by decide +kernel
theorem dPg_heardOf_0 : decode cPg_heardOf 0 = .ok (.iconst 0, 1) := by decide +kernel
theorem dPg_heardOf_1 : decode cPg_heardOf 1 = .ok (.istore_n 2, 1) := by decide +kernel
theorem dPg_heardOf_2 : decode cPg_heardOf 2 = .ok (.iload_n 2, 1) := by decide +kernel
theorem dPg_heardOf_3 : decode cPg_heardOf 3 = .ok (.aload_n 0, 1) := by decide +kernel
theorem dPg_heardOf_4 : decode cPg_heardOf 4 = .ok (.getfield 15, 3) := by decide +kernel
theorem dPg_heardOf_7 : decode cPg_heardOf 7 = .ok (.if_icmp .ge 32, 3) := by decide +kernel
theorem dPg_heardOf_10 : decode cPg_heardOf 10 = .ok (.aload_n 0, 1) := by decide +kernel
theorem dPg_heardOf_11 : decode cPg_heardOf 11 = .ok (.getfield 11, 3) := by decide +kernel
theorem dPg_heardOf_14 : decode cPg_heardOf 14 = .ok (.iload_n 2, 1) := by decide +kernel
theorem dPg_heardOf_15 : decode cPg_heardOf 15 = .ok (.aaload, 1) := by decide +kernel
theorem dPg_heardOf_16 : decode cPg_heardOf 16 = .ok (.getfield 56, 3) := by decide +kernel
theorem dPg_heardOf_19 : decode cPg_heardOf 19 = .ok (.getfield 44, 3) := by decide +kernel
theorem dPg_heardOf_22 : decode cPg_heardOf 22 = .ok (.iload_n 1, 1) := by decide +kernel
theorem dPg_heardOf_23 : decode cPg_heardOf 23 = .ok (.if_icmp .ne 10, 3) := by decide +kernel
theorem dPg_heardOf_26 : decode cPg_heardOf 26 = .ok (.aload_n 0, 1) := by decide +kernel
theorem dPg_heardOf_27 : decode cPg_heardOf 27 = .ok (.getfield 11, 3) := by decide +kernel
theorem dPg_heardOf_30 : decode cPg_heardOf 30 = .ok (.iload_n 2, 1) := by decide +kernel
theorem dPg_heardOf_31 : decode cPg_heardOf 31 = .ok (.aaload, 1) := by decide +kernel
theorem dPg_heardOf_32 : decode cPg_heardOf 32 = .ok (.areturn, 1) := by decide +kernel
theorem dPg_heardOf_33 : decode cPg_heardOf 33 = .ok (.iinc 2 1, 3) := by decide +kernel
theorem dPg_heardOf_36 : decode cPg_heardOf 36 = .ok (.goto (-34), 3) := by decide +kernel
theorem dPg_heardOf_39 : decode cPg_heardOf 39 = .ok (.aconst_null, 1) := by decide +kernel
theorem dPg_heardOf_40 : decode cPg_heardOf 40 = .ok (.areturn, 1) := by decide +kernel
theorem dPg_nextStored_0 : decode cPg_nextStored 0 = .ok (.aload_n 0, 1) := by decide +kernel
theorem dPg_nextStored_1 : decode cPg_nextStored 1 = .ok (.getfield 21, 3) := by decide +kernel
theorem dPg_nextStored_4 : decode cPg_nextStored 4 = .ok (.aload_n 0, 1) := by decide +kernel
theorem dPg_nextStored_5 : decode cPg_nextStored 5 = .ok (.getfield 25, 3) := by decide +kernel
theorem dPg_nextStored_8 : decode cPg_nextStored 8 = .ok (.aload_n 0, 1) := by decide +kernel
theorem dPg_nextStored_9 : decode cPg_nextStored 9 = .ok (.getfield 28, 3) := by decide +kernel
theorem dPg_nextStored_12 : decode cPg_nextStored 12 = .ok (.iadd, 1) := by decide +kernel
theorem dPg_nextStored_13 : decode cPg_nextStored 13 = .ok (.bipush 10, 2) := by decide +kernel
theorem dPg_nextStored_15 : decode cPg_nextStored 15 = .ok (.irem, 1) := by decide +kernel
theorem dPg_nextStored_16 : decode cPg_nextStored 16 = .ok (.aaload, 1) := by decide +kernel
theorem dPg_nextStored_17 : decode cPg_nextStored 17 = .ok (.astore_n 1, 1) := by decide +kernel
theorem dPg_nextStored_18 : decode cPg_nextStored 18 = .ok (.aload_n 0, 1) := by decide +kernel
theorem dPg_nextStored_19 : decode cPg_nextStored 19 = .ok (.getfield 28, 3) := by decide +kernel
theorem dPg_nextStored_22 : decode cPg_nextStored 22 = .ok (.bipush 10, 2) := by decide +kernel
theorem dPg_nextStored_24 : decode cPg_nextStored 24 = .ok (.if_icmp .ge 16, 3) := by decide +kernel
theorem dPg_nextStored_27 : decode cPg_nextStored 27 = .ok (.aload_n 0, 1) := by decide +kernel
theorem dPg_nextStored_28 : decode cPg_nextStored 28 = .ok (.dup, 1) := by decide +kernel
theorem dPg_nextStored_29 : decode cPg_nextStored 29 = .ok (.getfield 28, 3) := by decide +kernel
theorem dPg_nextStored_32 : decode cPg_nextStored 32 = .ok (.iconst 1, 1) := by decide +kernel
theorem dPg_nextStored_33 : decode cPg_nextStored 33 = .ok (.iadd, 1) := by decide +kernel
theorem dPg_nextStored_34 : decode cPg_nextStored 34 = .ok (.putfield 28, 3) := by decide +kernel
theorem dPg_nextStored_37 : decode cPg_nextStored 37 = .ok (.goto 16, 3) := by decide +kernel
theorem dPg_nextStored_40 : decode cPg_nextStored 40 = .ok (.aload_n 0, 1) := by decide +kernel
theorem dPg_nextStored_41 : decode cPg_nextStored 41 = .ok (.aload_n 0, 1) := by decide +kernel
theorem dPg_nextStored_42 : decode cPg_nextStored 42 = .ok (.getfield 25, 3) := by decide +kernel
theorem dPg_nextStored_45 : decode cPg_nextStored 45 = .ok (.iconst 1, 1) := by decide +kernel
theorem dPg_nextStored_46 : decode cPg_nextStored 46 = .ok (.iadd, 1) := by decide +kernel
theorem dPg_nextStored_47 : decode cPg_nextStored 47 = .ok (.bipush 10, 2) := by decide +kernel
theorem dPg_nextStored_49 : decode cPg_nextStored 49 = .ok (.irem, 1) := by decide +kernel
theorem dPg_nextStored_50 : decode cPg_nextStored 50 = .ok (.putfield 25, 3) := by decide +kernel
theorem dPg_nextStored_53 : decode cPg_nextStored 53 = .ok (.aload_n 1, 1) := by decide +kernel
theorem dPg_nextStored_54 : decode cPg_nextStored 54 = .ok (.areturn, 1) := by decide +kernel
theorem dPg_storedAt_0 : decode cPg_storedAt 0 = .ok (.iload_n 1, 1) := by decide +kernel
theorem dPg_storedAt_1 : decode cPg_storedAt 1 = .ok (.ifCond .lt 28, 3) := by decide +kernel
theorem dPg_storedAt_4 : decode cPg_storedAt 4 = .ok (.iload_n 1, 1) := by decide +kernel
theorem dPg_storedAt_5 : decode cPg_storedAt 5 = .ok (.aload_n 0, 1) := by decide +kernel
theorem dPg_storedAt_6 : decode cPg_storedAt 6 = .ok (.getfield 28, 3) := by decide +kernel
theorem dPg_storedAt_9 : decode cPg_storedAt 9 = .ok (.if_icmp .ge 20, 3) := by decide +kernel
theorem dPg_storedAt_12 : decode cPg_storedAt 12 = .ok (.aload_n 0, 1) := by decide +kernel
theorem dPg_storedAt_13 : decode cPg_storedAt 13 = .ok (.getfield 21, 3) := by decide +kernel
theorem dPg_storedAt_16 : decode cPg_storedAt 16 = .ok (.aload_n 0, 1) := by decide +kernel
theorem dPg_storedAt_17 : decode cPg_storedAt 17 = .ok (.getfield 25, 3) := by decide +kernel
theorem dPg_storedAt_20 : decode cPg_storedAt 20 = .ok (.iload_n 1, 1) := by decide +kernel
theorem dPg_storedAt_21 : decode cPg_storedAt 21 = .ok (.iadd, 1) := by decide +kernel
theorem dPg_storedAt_22 : decode cPg_storedAt 22 = .ok (.bipush 10, 2) := by decide +kernel
theorem dPg_storedAt_24 : decode cPg_storedAt 24 = .ok (.irem, 1) := by decide +kernel
theorem dPg_storedAt_25 : decode cPg_storedAt 25 = .ok (.aaload, 1) := by decide +kernel
theorem dPg_storedAt_26 : decode cPg_storedAt 26 = .ok (.goto 4, 3) := by decide +kernel
theorem dPg_storedAt_29 : decode cPg_storedAt 29 = .ok (.aconst_null, 1) := by decide +kernel
theorem dPg_storedAt_30 : decode cPg_storedAt 30 = .ok (.areturn, 1) := by decide +kernel
theorem dRp_oneWrongBit_0 : decode cRp_oneWrongBit 0 = .ok (.iconst 0, 1) := by decide +kernel
theorem dRp_oneWrongBit_1 : decode cRp_oneWrongBit 1 = .ok (.istore_n 1, 1) := by decide +kernel
theorem dRp_oneWrongBit_2 : decode cRp_oneWrongBit 2 = .ok (.iload_n 1, 1) := by decide +kernel
theorem dRp_oneWrongBit_3 : decode cRp_oneWrongBit 3 = .ok (.bipush 32, 2) := by decide +kernel
theorem dRp_oneWrongBit_5 : decode cRp_oneWrongBit 5 = .ok (.if_icmp .ge 22, 3) := by decide +kernel
theorem dRp_oneWrongBit_8 : decode cRp_oneWrongBit 8 = .ok (.getstatic 29, 3) := by decide +kernel
theorem dRp_oneWrongBit_11 : decode cRp_oneWrongBit 11 = .ok (.iload_n 1, 1) := by decide +kernel
theorem dRp_oneWrongBit_12 : decode cRp_oneWrongBit 12 = .ok (.iaload, 1) := by decide +kernel
theorem dRp_oneWrongBit_13 : decode cRp_oneWrongBit 13 = .ok (.iload_n 0, 1) := by decide +kernel
theorem dRp_oneWrongBit_14 : decode cRp_oneWrongBit 14 = .ok (.if_icmp .ne 7, 3) := by decide +kernel
theorem dRp_oneWrongBit_17 : decode cRp_oneWrongBit 17 = .ok (.iconst 1, 1) := by decide +kernel
theorem dRp_oneWrongBit_18 : decode cRp_oneWrongBit 18 = .ok (.iload_n 1, 1) := by decide +kernel
theorem dRp_oneWrongBit_19 : decode cRp_oneWrongBit 19 = .ok (.ishl, 1) := by decide +kernel
theorem dRp_oneWrongBit_20 : decode cRp_oneWrongBit 20 = .ok (.ireturn, 1) := by decide +kernel
theorem dRp_oneWrongBit_21 : decode cRp_oneWrongBit 21 = .ok (.iinc 1 1, 3) := by decide +kernel
theorem dRp_oneWrongBit_24 : decode cRp_oneWrongBit 24 = .ok (.goto (-22), 3) := by decide +kernel
theorem dRp_oneWrongBit_27 : decode cRp_oneWrongBit 27 = .ok (.iconst (-1), 1) := by decide +kernel
theorem dRp_oneWrongBit_28 : decode cRp_oneWrongBit 28 = .ok (.ireturn, 1) := by decide +kernel
theorem dRp_remainder_0 : decode cRp_remainder 0 = .ok (.iload_n 0, 1) := by decide +kernel
theorem dRp_remainder_1 : decode cRp_remainder 1 = .ok (.istore_n 1, 1) := by decide +kernel
theorem dRp_remainder_2 : decode cRp_remainder 2 = .ok (.bipush 30, 2) := by decide +kernel
theorem dRp_remainder_4 : decode cRp_remainder 4 = .ok (.istore_n 2, 1) := by decide +kernel
theorem dRp_remainder_5 : decode cRp_remainder 5 = .ok (.iload_n 2, 1) := by decide +kernel
theorem dRp_remainder_6 : decode cRp_remainder 6 = .ok (.bipush 10, 2) := by decide +kernel
theorem dRp_remainder_8 : decode cRp_remainder 8 = .ok (.if_icmp .lt 29, 3) := by decide +kernel
theorem dRp_remainder_11 : decode cRp_remainder 11 = .ok (.iload_n 1, 1) := by decide +kernel
theorem dRp_remainder_12 : decode cRp_remainder 12 = .ok (.iload_n 2, 1) := by decide +kernel
theorem dRp_remainder_13 : decode cRp_remainder 13 = .ok (.iushr, 1) := by decide +kernel
theorem dRp_remainder_14 : decode cRp_remainder 14 = .ok (.iconst 1, 1) := by decide +kernel
theorem dRp_remainder_15 : decode cRp_remainder 15 = .ok (.iand, 1) := by decide +kernel
theorem dRp_remainder_16 : decode cRp_remainder 16 = .ok (.iconst 1, 1) := by decide +kernel
theorem dRp_remainder_17 : decode cRp_remainder 17 = .ok (.if_icmp .ne 14, 3) := by decide +kernel
theorem dRp_remainder_20 : decode cRp_remainder 20 = .ok (.iload_n 1, 1) := by decide +kernel
theorem dRp_remainder_21 : decode cRp_remainder 21 = .ok (.sipush 1897, 3) := by decide +kernel
theorem dRp_remainder_24 : decode cRp_remainder 24 = .ok (.iload_n 2, 1) := by decide +kernel
theorem dRp_remainder_25 : decode cRp_remainder 25 = .ok (.bipush 10, 2) := by decide +kernel
theorem dRp_remainder_27 : decode cRp_remainder 27 = .ok (.isub, 1) := by decide +kernel
theorem dRp_remainder_28 : decode cRp_remainder 28 = .ok (.ishl, 1) := by decide +kernel
theorem dRp_remainder_29 : decode cRp_remainder 29 = .ok (.ixor, 1) := by decide +kernel
theorem dRp_remainder_30 : decode cRp_remainder 30 = .ok (.istore_n 1, 1) := by decide +kernel
theorem dRp_remainder_31 : decode cRp_remainder 31 = .ok (.iinc 2 (-1), 3) := by decide +kernel
theorem dRp_remainder_34 : decode cRp_remainder 34 = .ok (.goto (-29), 3) := by decide +kernel
theorem dRp_remainder_37 : decode cRp_remainder 37 = .ok (.iload_n 1, 1) := by decide +kernel
theorem dRp_remainder_38 : decode cRp_remainder 38 = .ok (.ireturn, 1) := by decide +kernel
theorem dRp_traceOf_0 : decode cRp_traceOf 0 = .ok (.iload_n 0, 1) := by decide +kernel
theorem dRp_traceOf_1 : decode cRp_traceOf 1 = .ok (.iconst 1, 1) := by decide +kernel
theorem dRp_traceOf_2 : decode cRp_traceOf 2 = .ok (.iushr, 1) := by decide +kernel
theorem dRp_traceOf_3 : decode cRp_traceOf 3 = .ok (.invokestatic 11, 3) := by decide +kernel
theorem dRp_traceOf_6 : decode cRp_traceOf 6 = .ok (.iconst 1, 1) := by decide +kernel
theorem dRp_traceOf_7 : decode cRp_traceOf 7 = .ok (.ishl, 1) := by decide +kernel
theorem dRp_traceOf_8 : decode cRp_traceOf 8 = .ok (.iload_n 0, 1) := by decide +kernel
theorem dRp_traceOf_9 : decode cRp_traceOf 9 = .ok (.invokestatic 15, 3) := by decide +kernel
theorem dRp_traceOf_12 : decode cRp_traceOf 12 = .ok (.iconst 1, 1) := by decide +kernel
theorem dRp_traceOf_13 : decode cRp_traceOf 13 = .ok (.iand, 1) := by decide +kernel
theorem dRp_traceOf_14 : decode cRp_traceOf 14 = .ok (.ior, 1) := by decide +kernel
theorem dRp_traceOf_15 : decode cRp_traceOf 15 = .ok (.ireturn, 1) := by decide +kernel
theorem dRp_twoWrongBits_0 : decode cRp_twoWrongBits 0 = .ok (.iconst 0, 1) := by decide +kernel
theorem dRp_twoWrongBits_1 : decode cRp_twoWrongBits 1 = .ok (.istore_n 1, 1) := by decide +kernel
theorem dRp_twoWrongBits_2 : decode cRp_twoWrongBits 2 = .ok (.iload_n 1, 1) := by decide +kernel
theorem dRp_twoWrongBits_3 : decode cRp_twoWrongBits 3 = .ok (.bipush 32, 2) := by decide +kernel
theorem dRp_twoWrongBits_5 : decode cRp_twoWrongBits 5 = .ok (.if_icmp .ge 48, 3) := by decide +kernel
theorem dRp_twoWrongBits_8 : decode cRp_twoWrongBits 8 = .ok (.iload_n 1, 1) := by decide +kernel
theorem dRp_twoWrongBits_9 : decode cRp_twoWrongBits 9 = .ok (.iconst 1, 1) := by decide +kernel
theorem dRp_twoWrongBits_10 : decode cRp_twoWrongBits 10 = .ok (.iadd, 1) := by decide +kernel
theorem dRp_twoWrongBits_11 : decode cRp_twoWrongBits 11 = .ok (.istore_n 2, 1) := by decide +kernel
theorem dRp_twoWrongBits_12 : decode cRp_twoWrongBits 12 = .ok (.iload_n 2, 1) := by decide +kernel
theorem dRp_twoWrongBits_13 : decode cRp_twoWrongBits 13 = .ok (.bipush 32, 2) := by decide +kernel
theorem dRp_twoWrongBits_15 : decode cRp_twoWrongBits 15 = .ok (.if_icmp .ge 32, 3) := by decide +kernel
theorem dRp_twoWrongBits_18 : decode cRp_twoWrongBits 18 = .ok (.getstatic 29, 3) := by decide +kernel
theorem dRp_twoWrongBits_21 : decode cRp_twoWrongBits 21 = .ok (.iload_n 1, 1) := by decide +kernel
theorem dRp_twoWrongBits_22 : decode cRp_twoWrongBits 22 = .ok (.iaload, 1) := by decide +kernel
theorem dRp_twoWrongBits_23 : decode cRp_twoWrongBits 23 = .ok (.getstatic 29, 3) := by decide +kernel
theorem dRp_twoWrongBits_26 : decode cRp_twoWrongBits 26 = .ok (.iload_n 2, 1) := by decide +kernel
theorem dRp_twoWrongBits_27 : decode cRp_twoWrongBits 27 = .ok (.iaload, 1) := by decide +kernel
theorem dRp_twoWrongBits_28 : decode cRp_twoWrongBits 28 = .ok (.ixor, 1) := by decide +kernel
theorem dRp_twoWrongBits_29 : decode cRp_twoWrongBits 29 = .ok (.iload_n 0, 1) := by decide +kernel
theorem dRp_twoWrongBits_30 : decode cRp_twoWrongBits 30 = .ok (.if_icmp .ne 11, 3) := by decide +kernel
theorem dRp_twoWrongBits_33 : decode cRp_twoWrongBits 33 = .ok (.iconst 1, 1) := by decide +kernel
theorem dRp_twoWrongBits_34 : decode cRp_twoWrongBits 34 = .ok (.iload_n 1, 1) := by decide +kernel
theorem dRp_twoWrongBits_35 : decode cRp_twoWrongBits 35 = .ok (.ishl, 1) := by decide +kernel
theorem dRp_twoWrongBits_36 : decode cRp_twoWrongBits 36 = .ok (.iconst 1, 1) := by decide +kernel
theorem dRp_twoWrongBits_37 : decode cRp_twoWrongBits 37 = .ok (.iload_n 2, 1) := by decide +kernel
theorem dRp_twoWrongBits_38 : decode cRp_twoWrongBits 38 = .ok (.ishl, 1) := by decide +kernel
theorem dRp_twoWrongBits_39 : decode cRp_twoWrongBits 39 = .ok (.ior, 1) := by decide +kernel
theorem dRp_twoWrongBits_40 : decode cRp_twoWrongBits 40 = .ok (.ireturn, 1) := by decide +kernel
theorem dRp_twoWrongBits_41 : decode cRp_twoWrongBits 41 = .ok (.iinc 2 1, 3) := by decide +kernel
theorem dRp_twoWrongBits_44 : decode cRp_twoWrongBits 44 = .ok (.goto (-32), 3) := by decide +kernel
theorem dRp_twoWrongBits_47 : decode cRp_twoWrongBits 47 = .ok (.iinc 1 1, 3) := by decide +kernel
theorem dRp_twoWrongBits_50 : decode cRp_twoWrongBits 50 = .ok (.goto (-48), 3) := by decide +kernel
theorem dRp_twoWrongBits_53 : decode cRp_twoWrongBits 53 = .ok (.iconst (-1), 1) := by decide +kernel
theorem dRp_twoWrongBits_54 : decode cRp_twoWrongBits 54 = .ok (.ireturn, 1) := by decide +kernel
theorem dRp_wrongBits_0 : decode cRp_wrongBits 0 = .ok (.iload_n 0, 1) := by decide +kernel
theorem dRp_wrongBits_1 : decode cRp_wrongBits 1 = .ok (.invokestatic 20, 3) := by decide +kernel
theorem dRp_wrongBits_4 : decode cRp_wrongBits 4 = .ok (.istore_n 1, 1) := by decide +kernel
theorem dRp_wrongBits_5 : decode cRp_wrongBits 5 = .ok (.iload_n 1, 1) := by decide +kernel
theorem dRp_wrongBits_6 : decode cRp_wrongBits 6 = .ok (.ifCond .ne 5, 3) := by decide +kernel
theorem dRp_wrongBits_9 : decode cRp_wrongBits 9 = .ok (.iconst 0, 1) := by decide +kernel
theorem dRp_wrongBits_10 : decode cRp_wrongBits 10 = .ok (.ireturn, 1) := by decide +kernel
theorem dRp_wrongBits_11 : decode cRp_wrongBits 11 = .ok (.iload_n 1, 1) := by decide +kernel
theorem dRp_wrongBits_12 : decode cRp_wrongBits 12 = .ok (.iconst 1, 1) := by decide +kernel
theorem dRp_wrongBits_13 : decode cRp_wrongBits 13 = .ok (.iand, 1) := by decide +kernel
theorem dRp_wrongBits_14 : decode cRp_wrongBits 14 = .ok (.iconst 1, 1) := by decide +kernel
theorem dRp_wrongBits_15 : decode cRp_wrongBits 15 = .ok (.if_icmp .ne 10, 3) := by decide +kernel
theorem dRp_wrongBits_18 : decode cRp_wrongBits 18 = .ok (.iload_n 1, 1) := by decide +kernel
theorem dRp_wrongBits_19 : decode cRp_wrongBits 19 = .ok (.invokestatic 23, 3) := by decide +kernel
theorem dRp_wrongBits_22 : decode cRp_wrongBits 22 = .ok (.goto 7, 3) := by decide +kernel
theorem dRp_wrongBits_25 : decode cRp_wrongBits 25 = .ok (.iload_n 1, 1) := by decide +kernel
theorem dRp_wrongBits_26 : decode cRp_wrongBits 26 = .ok (.invokestatic 26, 3) := by decide +kernel
theorem dRp_wrongBits_29 : decode cRp_wrongBits 29 = .ok (.ireturn, 1) := by decide +kernel
theorem dSd_init_0 : decode cSd_init 0 = .ok (.aload_n 0, 1) := by decide +kernel
theorem dSd_init_1 : decode cSd_init 1 = .ok (.invokespecial 3, 3) := by decide +kernel
theorem dSd_init_4 : decode cSd_init 4 = .ok (.aload_n 0, 1) := by decide +kernel
theorem dSd_init_5 : decode cSd_init 5 = .ok (.iconst (-1), 1) := by decide +kernel
theorem dSd_init_6 : decode cSd_init 6 = .ok (.putfield 9, 3) := by decide +kernel
theorem dSd_init_9 : decode cSd_init 9 = .ok (.aload_n 0, 1) := by decide +kernel
theorem dSd_init_10 : decode cSd_init 10 = .ok (.iconst (-1), 1) := by decide +kernel
theorem dSd_init_11 : decode cSd_init 11 = .ok (.putfield 15, 3) := by decide +kernel
theorem dSd_init_14 : decode cSd_init 14 = .ok (.aload_n 0, 1) := by decide +kernel
theorem dSd_init_15 : decode cSd_init 15 = .ok (.iconst 0, 1) := by decide +kernel
theorem dSd_init_16 : decode cSd_init 16 = .ok (.putfield 18, 3) := by decide +kernel
theorem dSd_init_19 : decode cSd_init 19 = .ok (.aload_n 0, 1) := by decide +kernel
theorem dSd_init_20 : decode cSd_init 20 = .ok (.bipush 21, 2) := by decide +kernel
theorem dSd_init_22 : decode cSd_init 22 = .ok (.newarray .int, 2) := by decide +kernel
theorem dSd_init_24 : decode cSd_init 24 = .ok (.putfield 22, 3) := by decide +kernel
theorem dSd_init_27 : decode cSd_init 27 = .ok (.aload_n 0, 1) := by decide +kernel
theorem dSd_init_28 : decode cSd_init 28 = .ok (.iconst 0, 1) := by decide +kernel
theorem dSd_init_29 : decode cSd_init 29 = .ok (.putfield 26, 3) := by decide +kernel
theorem dSd_init_32 : decode cSd_init 32 = .ok (.return_, 1) := by decide +kernel
theorem dMo_init_0 : decode cMo_init 0 = .ok (.aload_n 0, 1) := by decide +kernel
theorem dMo_init_1 : decode cMo_init 1 = .ok (.invokespecial 1, 3) := by decide +kernel
theorem dMo_init_4 : decode cMo_init 4 = .ok (.aload_n 0, 1) := by decide +kernel
theorem dMo_init_5 : decode cMo_init 5 = .ok (.bipush 12, 2) := by decide +kernel
theorem dMo_init_7 : decode cMo_init 7 = .ok (.newarray .int, 2) := by decide +kernel
theorem dMo_init_9 : decode cMo_init 9 = .ok (.putfield 7, 3) := by decide +kernel
theorem dMo_init_12 : decode cMo_init 12 = .ok (.aload_n 0, 1) := by decide +kernel
theorem dMo_init_13 : decode cMo_init 13 = .ok (.bipush 12, 2) := by decide +kernel
theorem dMo_init_15 : decode cMo_init 15 = .ok (.newarray .int, 2) := by decide +kernel
theorem dMo_init_17 : decode cMo_init 17 = .ok (.putfield 13, 3) := by decide +kernel
theorem dMo_init_20 : decode cMo_init 20 = .ok (.aload_n 0, 1) := by decide +kernel
theorem dMo_init_21 : decode cMo_init 21 = .ok (.bipush 12, 2) := by decide +kernel
theorem dMo_init_23 : decode cMo_init 23 = .ok (.newarray .int, 2) := by decide +kernel
theorem dMo_init_25 : decode cMo_init 25 = .ok (.putfield 16, 3) := by decide +kernel
theorem dMo_init_28 : decode cMo_init 28 = .ok (.aload_n 0, 1) := by decide +kernel
theorem dMo_init_29 : decode cMo_init 29 = .ok (.sipush 200, 3) := by decide +kernel
theorem dMo_init_32 : decode cMo_init 32 = .ok (.newarray .int, 2) := by decide +kernel
theorem dMo_init_34 : decode cMo_init 34 = .ok (.putfield 19, 3) := by decide +kernel
theorem dMo_init_37 : decode cMo_init 37 = .ok (.aload_n 0, 1) := by decide +kernel
theorem dMo_init_38 : decode cMo_init 38 = .ok (.sipush 200, 3) := by decide +kernel
theorem dMo_init_41 : decode cMo_init 41 = .ok (.newarray .int, 2) := by decide +kernel
theorem dMo_init_43 : decode cMo_init 43 = .ok (.putfield 22, 3) := by decide +kernel
theorem dMo_init_46 : decode cMo_init 46 = .ok (.aload_n 0, 1) := by decide +kernel
theorem dMo_init_47 : decode cMo_init 47 = .ok (.sipush 200, 3) := by decide +kernel
theorem dMo_init_50 : decode cMo_init 50 = .ok (.newarray .int, 2) := by decide +kernel
theorem dMo_init_52 : decode cMo_init 52 = .ok (.putfield 25, 3) := by decide +kernel
theorem dMo_init_55 : decode cMo_init 55 = .ok (.aload_n 0, 1) := by decide +kernel
theorem dMo_init_56 : decode cMo_init 56 = .ok (.sipush 200, 3) := by decide +kernel
theorem dMo_init_59 : decode cMo_init 59 = .ok (.newarray .int, 2) := by decide +kernel
theorem dMo_init_61 : decode cMo_init 61 = .ok (.putfield 28, 3) := by decide +kernel
theorem dMo_init_64 : decode cMo_init 64 = .ok (.aload_n 0, 1) := by decide +kernel
theorem dMo_init_65 : decode cMo_init 65 = .ok (.sipush 4000, 3) := by decide +kernel
theorem dMo_init_68 : decode cMo_init 68 = .ok (.newarray .int, 2) := by decide +kernel
theorem dMo_init_70 : decode cMo_init 70 = .ok (.putfield 31, 3) := by decide +kernel
theorem dMo_init_73 : decode cMo_init 73 = .ok (.aload_n 0, 1) := by decide +kernel
theorem dMo_init_74 : decode cMo_init 74 = .ok (.sipush 200, 3) := by decide +kernel
theorem dMo_init_77 : decode cMo_init 77 = .ok (.newarray .boolean, 2) := by decide +kernel
theorem dMo_init_79 : decode cMo_init 79 = .ok (.putfield 34, 3) := by decide +kernel
theorem dMo_init_82 : decode cMo_init 82 = .ok (.aload_n 0, 1) := by decide +kernel
theorem dMo_init_83 : decode cMo_init 83 = .ok (.bipush 20, 2) := by decide +kernel
theorem dMo_init_85 : decode cMo_init 85 = .ok (.newarray .int, 2) := by decide +kernel
theorem dMo_init_87 : decode cMo_init 87 = .ok (.putfield 38, 3) := by decide +kernel
theorem dMo_init_90 : decode cMo_init 90 = .ok (.aload_n 0, 1) := by decide +kernel
theorem dMo_init_91 : decode cMo_init 91 = .ok (.bipush 64, 2) := by decide +kernel
theorem dMo_init_93 : decode cMo_init 93 = .ok (.newarray .int, 2) := by decide +kernel
theorem dMo_init_95 : decode cMo_init 95 = .ok (.putfield 41, 3) := by decide +kernel
theorem dMo_init_98 : decode cMo_init 98 = .ok (.aload_n 0, 1) := by decide +kernel
theorem dMo_init_99 : decode cMo_init 99 = .ok (.bipush 64, 2) := by decide +kernel
theorem dMo_init_101 : decode cMo_init 101 = .ok (.newarray .boolean, 2) := by decide +kernel
theorem dMo_init_103 : decode cMo_init 103 = .ok (.putfield 44, 3) := by decide +kernel
theorem dMo_init_106 : decode cMo_init 106 = .ok (.aload_n 0, 1) := by decide +kernel
theorem dMo_init_107 : decode cMo_init 107 = .ok (.sipush 2240, 3) := by decide +kernel
theorem dMo_init_110 : decode cMo_init 110 = .ok (.newarray .int, 2) := by decide +kernel
theorem dMo_init_112 : decode cMo_init 112 = .ok (.putfield 47, 3) := by decide +kernel
theorem dMo_init_115 : decode cMo_init 115 = .ok (.aload_n 0, 1) := by decide +kernel
theorem dMo_init_116 : decode cMo_init 116 = .ok (.bipush 24, 2) := by decide +kernel
theorem dMo_init_118 : decode cMo_init 118 = .ok (.newarray .int, 2) := by decide +kernel
theorem dMo_init_120 : decode cMo_init 120 = .ok (.putfield 50, 3) := by decide +kernel
theorem dMo_init_123 : decode cMo_init 123 = .ok (.aload_n 0, 1) := by decide +kernel
theorem dMo_init_124 : decode cMo_init 124 = .ok (.bipush 6, 2) := by decide +kernel
theorem dMo_init_126 : decode cMo_init 126 = .ok (.newarray .int, 2) := by decide +kernel
theorem dMo_init_128 : decode cMo_init 128 = .ok (.putfield 53, 3) := by decide +kernel
theorem dMo_init_131 : decode cMo_init 131 = .ok (.aload_n 0, 1) := by decide +kernel
theorem dMo_init_132 : decode cMo_init 132 = .ok (.bipush 6, 2) := by decide +kernel
theorem dMo_init_134 : decode cMo_init 134 = .ok (.newarray .int, 2) := by decide +kernel
theorem dMo_init_136 : decode cMo_init 136 = .ok (.putfield 56, 3) := by decide +kernel
theorem dMo_init_139 : decode cMo_init 139 = .ok (.aload_n 0, 1) := by decide +kernel
theorem dMo_init_140 : decode cMo_init 140 = .ok (.bipush 60, 2) := by decide +kernel
theorem dMo_init_142 : decode cMo_init 142 = .ok (.newarray .int, 2) := by decide +kernel
theorem dMo_init_144 : decode cMo_init 144 = .ok (.putfield 59, 3) := by decide +kernel
theorem dMo_init_147 : decode cMo_init 147 = .ok (.aload_n 0, 1) := by decide +kernel
theorem dMo_init_148 : decode cMo_init 148 = .ok (.bipush 60, 2) := by decide +kernel
theorem dMo_init_150 : decode cMo_init 150 = .ok (.newarray .int, 2) := by decide +kernel
theorem dMo_init_152 : decode cMo_init 152 = .ok (.putfield 62, 3) := by decide +kernel
theorem dMo_init_155 : decode cMo_init 155 = .ok (.aload_n 0, 1) := by decide +kernel
theorem dMo_init_156 : decode cMo_init 156 = .ok (.bipush 60, 2) := by decide +kernel
theorem dMo_init_158 : decode cMo_init 158 = .ok (.newarray .int, 2) := by decide +kernel
theorem dMo_init_160 : decode cMo_init 160 = .ok (.putfield 65, 3) := by decide +kernel
theorem dMo_init_163 : decode cMo_init 163 = .ok (.aload_n 0, 1) := by decide +kernel
theorem dMo_init_164 : decode cMo_init 164 = .ok (.bipush 60, 2) := by decide +kernel
theorem dMo_init_166 : decode cMo_init 166 = .ok (.newarray .boolean, 2) := by decide +kernel
theorem dMo_init_168 : decode cMo_init 168 = .ok (.putfield 68, 3) := by decide +kernel
theorem dMo_init_171 : decode cMo_init 171 = .ok (.aload_n 0, 1) := by decide +kernel
theorem dMo_init_172 : decode cMo_init 172 = .ok (.sipush 1320, 3) := by decide +kernel
theorem dMo_init_175 : decode cMo_init 175 = .ok (.newarray .int, 2) := by decide +kernel
theorem dMo_init_177 : decode cMo_init 177 = .ok (.putfield 71, 3) := by decide +kernel
theorem dMo_init_180 : decode cMo_init 180 = .ok (.aload_n 0, 1) := by decide +kernel
theorem dMo_init_181 : decode cMo_init 181 = .ok (.bipush 72, 2) := by decide +kernel
theorem dMo_init_183 : decode cMo_init 183 = .ok (.newarray .long, 2) := by decide +kernel
theorem dMo_init_185 : decode cMo_init 185 = .ok (.putfield 74, 3) := by decide +kernel
theorem dMo_init_188 : decode cMo_init 188 = .ok (.aload_n 0, 1) := by decide +kernel
theorem dMo_init_189 : decode cMo_init 189 = .ok (.bipush 72, 2) := by decide +kernel
theorem dMo_init_191 : decode cMo_init 191 = .ok (.newarray .int, 2) := by decide +kernel
theorem dMo_init_193 : decode cMo_init 193 = .ok (.putfield 78, 3) := by decide +kernel
theorem dMo_init_196 : decode cMo_init 196 = .ok (.aload_n 0, 1) := by decide +kernel
theorem dMo_init_197 : decode cMo_init 197 = .ok (.bipush 24, 2) := by decide +kernel
theorem dMo_init_199 : decode cMo_init 199 = .ok (.newarray .int, 2) := by decide +kernel
theorem dMo_init_201 : decode cMo_init 201 = .ok (.putfield 81, 3) := by decide +kernel
theorem dMo_init_204 : decode cMo_init 204 = .ok (.aload_n 0, 1) := by decide +kernel
theorem dMo_init_205 : decode cMo_init 205 = .ok (.iconst (-1), 1) := by decide +kernel
theorem dMo_init_206 : decode cMo_init 206 = .ok (.putfield 84, 3) := by decide +kernel
theorem dMo_init_209 : decode cMo_init 209 = .ok (.aload_n 0, 1) := by decide +kernel
theorem dMo_init_210 : decode cMo_init 210 = .ok (.sipush 160, 3) := by decide +kernel
theorem dMo_init_213 : decode cMo_init 213 = .ok (.newarray .int, 2) := by decide +kernel
theorem dMo_init_215 : decode cMo_init 215 = .ok (.putfield 88, 3) := by decide +kernel
theorem dMo_init_218 : decode cMo_init 218 = .ok (.aload_n 0, 1) := by decide +kernel
theorem dMo_init_219 : decode cMo_init 219 = .ok (.bipush 24, 2) := by decide +kernel
theorem dMo_init_221 : decode cMo_init 221 = .ok (.newarray .int, 2) := by decide +kernel
theorem dMo_init_223 : decode cMo_init 223 = .ok (.putfield 91, 3) := by decide +kernel
theorem dMo_init_226 : decode cMo_init 226 = .ok (.return_, 1) := by decide +kernel
theorem dMo_add_0 : decode cMo_add 0 = .ok (.bipush 19, 2) := by decide +kernel
theorem dMo_add_2 : decode cMo_add 2 = .ok (.istore_n 2, 1) := by decide +kernel
theorem dMo_add_3 : decode cMo_add 3 = .ok (.iload_n 2, 1) := by decide +kernel
theorem dMo_add_4 : decode cMo_add 4 = .ok (.ifCond .lt 43, 3) := by decide +kernel
theorem dMo_add_7 : decode cMo_add 7 = .ok (.aload_n 0, 1) := by decide +kernel
theorem dMo_add_8 : decode cMo_add 8 = .ok (.getfield 183, 3) := by decide +kernel
theorem dMo_add_11 : decode cMo_add 11 = .ok (.sipush 160, 3) := by decide +kernel
theorem dMo_add_14 : decode cMo_add 14 = .ok (.if_icmp .ge 17, 3) := by decide +kernel
theorem dMo_add_17 : decode cMo_add 17 = .ok (.aload_n 0, 1) := by decide +kernel
theorem dMo_add_18 : decode cMo_add 18 = .ok (.getfield 88, 3) := by decide +kernel
theorem dMo_add_21 : decode cMo_add 21 = .ok (.aload_n 0, 1) := by decide +kernel
theorem dMo_add_22 : decode cMo_add 22 = .ok (.getfield 183, 3) := by decide +kernel
theorem dMo_add_25 : decode cMo_add 25 = .ok (.iload_n 1, 1) := by decide +kernel
theorem dMo_add_26 : decode cMo_add 26 = .ok (.iload_n 2, 1) := by decide +kernel
theorem dMo_add_27 : decode cMo_add 27 = .ok (.ishr, 1) := by decide +kernel
theorem dMo_add_28 : decode cMo_add 28 = .ok (.iconst 1, 1) := by decide +kernel
theorem dMo_add_29 : decode cMo_add 29 = .ok (.iand, 1) := by decide +kernel
theorem dMo_add_30 : decode cMo_add 30 = .ok (.iastore, 1) := by decide +kernel
theorem dMo_add_31 : decode cMo_add 31 = .ok (.aload_n 0, 1) := by decide +kernel
theorem dMo_add_32 : decode cMo_add 32 = .ok (.dup, 1) := by decide +kernel
theorem dMo_add_33 : decode cMo_add 33 = .ok (.getfield 183, 3) := by decide +kernel
theorem dMo_add_36 : decode cMo_add 36 = .ok (.iconst 1, 1) := by decide +kernel
theorem dMo_add_37 : decode cMo_add 37 = .ok (.iadd, 1) := by decide +kernel
theorem dMo_add_38 : decode cMo_add 38 = .ok (.putfield 183, 3) := by decide +kernel
theorem dMo_add_41 : decode cMo_add 41 = .ok (.iinc 2 (-1), 3) := by decide +kernel
theorem dMo_add_44 : decode cMo_add 44 = .ok (.goto (-41), 3) := by decide +kernel
theorem dMo_add_47 : decode cMo_add 47 = .ok (.return_, 1) := by decide +kernel
theorem dMo_addressData_0 : decode cMo_addressData 0 = .ok (.iconst 4, 1) := by decide +kernel
theorem dMo_addressData_1 : decode cMo_addressData 1 = .ok (.aload_n 0, 1) := by decide +kernel
theorem dMo_addressData_2 : decode cMo_addressData 2 = .ok (.getfield 7, 3) := by decide +kernel
theorem dMo_addressData_5 : decode cMo_addressData 5 = .ok (.iload_n 1, 1) := by decide +kernel
theorem dMo_addressData_6 : decode cMo_addressData 6 = .ok (.iaload, 1) := by decide +kernel
theorem dMo_addressData_7 : decode cMo_addressData 7 = .ok (.bipush 8, 2) := by decide +kernel
theorem dMo_addressData_9 : decode cMo_addressData 9 = .ok (.idiv, 1) := by decide +kernel
theorem dMo_addressData_10 : decode cMo_addressData 10 = .ok (.imul, 1) := by decide +kernel
theorem dMo_addressData_11 : decode cMo_addressData 11 = .ok (.aload_n 0, 1) := by decide +kernel
theorem dMo_addressData_12 : decode cMo_addressData 12 = .ok (.getfield 13, 3) := by decide +kernel
theorem dMo_addressData_15 : decode cMo_addressData 15 = .ok (.iload_n 1, 1) := by decide +kernel
theorem dMo_addressData_16 : decode cMo_addressData 16 = .ok (.iaload, 1) := by decide +kernel
theorem dMo_addressData_17 : decode cMo_addressData 17 = .ok (.ifCond .ne 7, 3) := by decide +kernel
theorem dMo_addressData_20 : decode cMo_addressData 20 = .ok (.iconst 0, 1) := by decide +kernel
theorem dMo_addressData_21 : decode cMo_addressData 21 = .ok (.goto 4, 3) := by decide +kernel
theorem dMo_addressData_24 : decode cMo_addressData 24 = .ok (.iconst 3, 1) := by decide +kernel
theorem dMo_addressData_25 : decode cMo_addressData 25 = .ok (.iadd, 1) := by decide +kernel
theorem dMo_addressData_26 : decode cMo_addressData 26 = .ok (.ireturn, 1) := by decide +kernel
theorem dMo_batches_0 : decode cMo_batches 0 = .ok (.iload_n 1, 1) := by decide +kernel
theorem dMo_batches_1 : decode cMo_batches 1 = .ok (.istore_n 2, 1) := by decide +kernel
theorem dMo_batches_2 : decode cMo_batches 2 = .ok (.iconst 1, 1) := by decide +kernel
theorem dMo_batches_3 : decode cMo_batches 3 = .ok (.istore_n 3, 1) := by decide +kernel
theorem dMo_batches_4 : decode cMo_batches 4 = .ok (.iload_n 3, 1) := by decide +kernel
theorem dMo_batches_5 : decode cMo_batches 5 = .ok (.ifCond .eq 144, 3) := by decide +kernel
theorem dMo_batches_8 : decode cMo_batches 8 = .ok (.iconst 0, 1) := by decide +kernel
theorem dMo_batches_9 : decode cMo_batches 9 = .ok (.istore 4, 2) := by decide +kernel
theorem dMo_batches_11 : decode cMo_batches 11 = .ok (.iload 4, 2) := by decide +kernel
theorem dMo_batches_13 : decode cMo_batches 13 = .ok (.bipush 16, 2) := by decide +kernel
theorem dMo_batches_15 : decode cMo_batches 15 = .ok (.if_icmp .ge 79, 3) := by decide +kernel
theorem dMo_batches_18 : decode cMo_batches 18 = .ok (.iload_n 2, 1) := by decide +kernel
theorem dMo_batches_19 : decode cMo_batches 19 = .ok (.bipush 32, 2) := by decide +kernel
theorem dMo_batches_21 : decode cMo_batches 21 = .ok (.iadd, 1) := by decide +kernel
theorem dMo_batches_22 : decode cMo_batches 22 = .ok (.aload_n 0, 1) := by decide +kernel
theorem dMo_batches_23 : decode cMo_batches 23 = .ok (.getfield 155, 3) := by decide +kernel
theorem dMo_batches_26 : decode cMo_batches 26 = .ok (.if_icmp .le 8, 3) := by decide +kernel
theorem dMo_batches_29 : decode cMo_batches 29 = .ok (.aload_n 0, 1) := by decide +kernel
theorem dMo_batches_30 : decode cMo_batches 30 = .ok (.getfield 155, 3) := by decide +kernel
theorem dMo_batches_33 : decode cMo_batches 33 = .ok (.ireturn, 1) := by decide +kernel
theorem dMo_batches_34 : decode cMo_batches 34 = .ok (.aload_n 0, 1) := by decide +kernel
theorem dMo_batches_35 : decode cMo_batches 35 = .ok (.iload 4, 2) := by decide +kernel
theorem dMo_batches_37 : decode cMo_batches 37 = .ok (.iconst 2, 1) := by decide +kernel
theorem dMo_batches_38 : decode cMo_batches 38 = .ok (.idiv, 1) := by decide +kernel
theorem dMo_batches_39 : decode cMo_batches 39 = .ok (.invokevirtual 212, 3) := by decide +kernel
theorem dMo_batches_42 : decode cMo_batches 42 = .ok (.ifCond .eq 41, 3) := by decide +kernel
theorem dMo_batches_45 : decode cMo_batches 45 = .ok (.aload_n 0, 1) := by decide +kernel
theorem dMo_batches_46 : decode cMo_batches 46 = .ok (.getfield 81, 3) := by decide +kernel
theorem dMo_batches_49 : decode cMo_batches 49 = .ok (.iconst 4, 1) := by decide +kernel
theorem dMo_batches_50 : decode cMo_batches 50 = .ok (.aload_n 0, 1) := by decide +kernel
theorem dMo_batches_51 : decode cMo_batches 51 = .ok (.getfield 178, 3) := by decide +kernel
theorem dMo_batches_54 : decode cMo_batches 54 = .ok (.imul, 1) := by decide +kernel
theorem dMo_batches_55 : decode cMo_batches 55 = .ok (.aload_n 0, 1) := by decide +kernel
theorem dMo_batches_56 : decode cMo_batches 56 = .ok (.getfield 81, 3) := by decide +kernel
theorem dMo_batches_59 : decode cMo_batches 59 = .ok (.iconst 4, 1) := by decide +kernel
theorem dMo_batches_60 : decode cMo_batches 60 = .ok (.aload_n 0, 1) := by decide +kernel
theorem dMo_batches_61 : decode cMo_batches 61 = .ok (.getfield 178, 3) := by decide +kernel
theorem dMo_batches_64 : decode cMo_batches 64 = .ok (.imul, 1) := by decide +kernel
theorem dMo_batches_65 : decode cMo_batches 65 = .ok (.iaload, 1) := by decide +kernel
theorem dMo_batches_66 : decode cMo_batches 66 = .ok (.bipush 32, 2) := by decide +kernel
theorem dMo_batches_68 : decode cMo_batches 68 = .ok (.iadd, 1) := by decide +kernel
theorem dMo_batches_69 : decode cMo_batches 69 = .ok (.iastore, 1) := by decide +kernel
theorem dMo_batches_70 : decode cMo_batches 70 = .ok (.aload_n 0, 1) := by decide +kernel
theorem dMo_batches_71 : decode cMo_batches 71 = .ok (.aload_n 0, 1) := by decide +kernel
theorem dMo_batches_72 : decode cMo_batches 72 = .ok (.iload_n 2, 1) := by decide +kernel
theorem dMo_batches_73 : decode cMo_batches 73 = .ok (.invokevirtual 169, 3) := by decide +kernel
theorem dMo_batches_76 : decode cMo_batches 76 = .ok (.iload 4, 2) := by decide +kernel
theorem dMo_batches_78 : decode cMo_batches 78 = .ok (.iconst 2, 1) := by decide +kernel
theorem dMo_batches_79 : decode cMo_batches 79 = .ok (.idiv, 1) := by decide +kernel
theorem dMo_batches_80 : decode cMo_batches 80 = .ok (.invokevirtual 215, 3) := by decide +kernel
theorem dMo_batches_83 : decode cMo_batches 83 = .ok (.iload_n 2, 1) := by decide +kernel
theorem dMo_batches_84 : decode cMo_batches 84 = .ok (.bipush 32, 2) := by decide +kernel
theorem dMo_batches_86 : decode cMo_batches 86 = .ok (.iadd, 1) := by decide +kernel
theorem dMo_batches_87 : decode cMo_batches 87 = .ok (.istore_n 2, 1) := by decide +kernel
theorem dMo_batches_88 : decode cMo_batches 88 = .ok (.iinc 4 1, 3) := by decide +kernel
theorem dMo_batches_91 : decode cMo_batches 91 = .ok (.goto (-80), 3) := by decide +kernel
theorem dMo_batches_94 : decode cMo_batches 94 = .ok (.iload_n 2, 1) := by decide +kernel
theorem dMo_batches_95 : decode cMo_batches 95 = .ok (.bipush 32, 2) := by decide +kernel
theorem dMo_batches_97 : decode cMo_batches 97 = .ok (.iadd, 1) := by decide +kernel
theorem dMo_batches_98 : decode cMo_batches 98 = .ok (.aload_n 0, 1) := by decide +kernel
theorem dMo_batches_99 : decode cMo_batches 99 = .ok (.getfield 155, 3) := by decide +kernel
theorem dMo_batches_102 : decode cMo_batches 102 = .ok (.if_icmp .le 8, 3) := by decide +kernel
theorem dMo_batches_105 : decode cMo_batches 105 = .ok (.aload_n 0, 1) := by decide +kernel
theorem dMo_batches_106 : decode cMo_batches 106 = .ok (.getfield 155, 3) := by decide +kernel
theorem dMo_batches_109 : decode cMo_batches 109 = .ok (.ireturn, 1) := by decide +kernel
theorem dMo_batches_110 : decode cMo_batches 110 = .ok (.aload_n 0, 1) := by decide +kernel
theorem dMo_batches_111 : decode cMo_batches 111 = .ok (.getfield 81, 3) := by decide +kernel
theorem dMo_batches_114 : decode cMo_batches 114 = .ok (.iconst 4, 1) := by decide +kernel
theorem dMo_batches_115 : decode cMo_batches 115 = .ok (.aload_n 0, 1) := by decide +kernel
theorem dMo_batches_116 : decode cMo_batches 116 = .ok (.getfield 178, 3) := by decide +kernel
theorem dMo_batches_119 : decode cMo_batches 119 = .ok (.imul, 1) := by decide +kernel
theorem dMo_batches_120 : decode cMo_batches 120 = .ok (.aload_n 0, 1) := by decide +kernel
theorem dMo_batches_121 : decode cMo_batches 121 = .ok (.getfield 81, 3) := by decide +kernel
theorem dMo_batches_124 : decode cMo_batches 124 = .ok (.iconst 4, 1) := by decide +kernel
theorem dMo_batches_125 : decode cMo_batches 125 = .ok (.aload_n 0, 1) := by decide +kernel
theorem dMo_batches_126 : decode cMo_batches 126 = .ok (.getfield 178, 3) := by decide +kernel
theorem dMo_batches_129 : decode cMo_batches 129 = .ok (.imul, 1) := by decide +kernel
theorem dMo_batches_130 : decode cMo_batches 130 = .ok (.iaload, 1) := by decide +kernel
theorem dMo_batches_131 : decode cMo_batches 131 = .ok (.bipush 32, 2) := by decide +kernel
theorem dMo_batches_133 : decode cMo_batches 133 = .ok (.iadd, 1) := by decide +kernel
theorem dMo_batches_134 : decode cMo_batches 134 = .ok (.iastore, 1) := by decide +kernel
theorem dMo_batches_135 : decode cMo_batches 135 = .ok (.aload_n 0, 1) := by decide +kernel
theorem dMo_batches_136 : decode cMo_batches 136 = .ok (.iload_n 2, 1) := by decide +kernel
theorem dMo_batches_137 : decode cMo_batches 137 = .ok (.invokevirtual 218, 3) := by decide +kernel
theorem dMo_batches_140 : decode cMo_batches 140 = .ok (.istore_n 3, 1) := by decide +kernel
theorem dMo_batches_141 : decode cMo_batches 141 = .ok (.iload_n 2, 1) := by decide +kernel
theorem dMo_batches_142 : decode cMo_batches 142 = .ok (.bipush 32, 2) := by decide +kernel
theorem dMo_batches_144 : decode cMo_batches 144 = .ok (.iadd, 1) := by decide +kernel
theorem dMo_batches_145 : decode cMo_batches 145 = .ok (.istore_n 2, 1) := by decide +kernel
theorem dMo_batches_146 : decode cMo_batches 146 = .ok (.goto (-142), 3) := by decide +kernel
theorem dMo_batches_149 : decode cMo_batches 149 = .ok (.aload_n 0, 1) := by decide +kernel
theorem dMo_batches_150 : decode cMo_batches 150 = .ok (.iconst 0, 1) := by decide +kernel
theorem dMo_batches_151 : decode cMo_batches 151 = .ok (.invokevirtual 201, 3) := by decide +kernel
theorem dMo_batches_154 : decode cMo_batches 154 = .ok (.iload_n 2, 1) := by decide +kernel
theorem dMo_batches_155 : decode cMo_batches 155 = .ok (.ireturn, 1) := by decide +kernel
theorem dMo_bit_0 : decode cMo_bit 0 = .ok (.iload_n 1, 1) := by decide +kernel
theorem dMo_bit_1 : decode cMo_bit 1 = .ok (.ifCond .lt 11, 3) := by decide +kernel
theorem dMo_bit_4 : decode cMo_bit 4 = .ok (.iload_n 1, 1) := by decide +kernel
theorem dMo_bit_5 : decode cMo_bit 5 = .ok (.aload_n 0, 1) := by decide +kernel
theorem dMo_bit_6 : decode cMo_bit 6 = .ok (.getfield 155, 3) := by decide +kernel
theorem dMo_bit_9 : decode cMo_bit 9 = .ok (.if_icmp .lt 7, 3) := by decide +kernel
theorem dMo_bit_12 : decode cMo_bit 12 = .ok (.iconst (-1), 1) := by decide +kernel
theorem dMo_bit_13 : decode cMo_bit 13 = .ok (.goto 9, 3) := by decide +kernel
theorem dMo_bit_16 : decode cMo_bit 16 = .ok (.aload_n 0, 1) := by decide +kernel
theorem dMo_bit_17 : decode cMo_bit 17 = .ok (.getfield 47, 3) := by decide +kernel
theorem dMo_bit_20 : decode cMo_bit 20 = .ok (.iload_n 1, 1) := by decide +kernel
theorem dMo_bit_21 : decode cMo_bit 21 = .ok (.iaload, 1) := by decide +kernel
theorem dMo_bit_22 : decode cMo_bit 22 = .ok (.ireturn, 1) := by decide +kernel
theorem dMo_call_0 : decode cMo_call 0 = .ok (.aload_n 0, 1) := by decide +kernel
theorem dMo_call_1 : decode cMo_call 1 = .ok (.iload_n 1, 1) := by decide +kernel
theorem dMo_call_2 : decode cMo_call 2 = .ok (.invokevirtual 113, 3) := by decide +kernel
theorem dMo_call_5 : decode cMo_call 5 = .ok (.ifCond .eq 38, 3) := by decide +kernel
theorem dMo_call_8 : decode cMo_call 8 = .ok (.iload_n 2, 1) := by decide +kernel
theorem dMo_call_9 : decode cMo_call 9 = .ok (.ifCond .lt 34, 3) := by decide +kernel
theorem dMo_call_12 : decode cMo_call 12 = .ok (.iload_n 2, 1) := by decide +kernel
theorem dMo_call_13 : decode cMo_call 13 = .ok (.iconst 3, 1) := by decide +kernel
theorem dMo_call_14 : decode cMo_call 14 = .ok (.if_icmp .gt 29, 3) := by decide +kernel
theorem dMo_call_17 : decode cMo_call 17 = .ok (.aload_n 0, 1) := by decide +kernel
theorem dMo_call_18 : decode cMo_call 18 = .ok (.getfield 120, 3) := by decide +kernel
theorem dMo_call_21 : decode cMo_call 21 = .ok (.ifCond .eq 22, 3) := by decide +kernel
theorem dMo_call_24 : decode cMo_call 24 = .ok (.aload_n 0, 1) := by decide +kernel
theorem dMo_call_25 : decode cMo_call 25 = .ok (.invokevirtual 130, 3) := by decide +kernel
theorem dMo_call_28 : decode cMo_call 28 = .ok (.bipush 60, 2) := by decide +kernel
theorem dMo_call_30 : decode cMo_call 30 = .ok (.if_icmp .eq 13, 3) := by decide +kernel
theorem dMo_call_33 : decode cMo_call 33 = .ok (.aload_n 0, 1) := by decide +kernel
theorem dMo_call_34 : decode cMo_call 34 = .ok (.getfield 127, 3) := by decide +kernel
theorem dMo_call_37 : decode cMo_call 37 = .ok (.sipush 200, 3) := by decide +kernel
theorem dMo_call_40 : decode cMo_call 40 = .ok (.if_icmp .ne 5, 3) := by decide +kernel
theorem dMo_call_43 : decode cMo_call 43 = .ok (.iconst (-1), 1) := by decide +kernel
theorem dMo_call_44 : decode cMo_call 44 = .ok (.ireturn, 1) := by decide +kernel
theorem dMo_call_45 : decode cMo_call 45 = .ok (.iconst 0, 1) := by decide +kernel
theorem dMo_call_46 : decode cMo_call 46 = .ok (.istore_n 3, 1) := by decide +kernel
theorem dMo_call_47 : decode cMo_call 47 = .ok (.iload_n 3, 1) := by decide +kernel
theorem dMo_call_48 : decode cMo_call 48 = .ok (.aload_n 0, 1) := by decide +kernel
theorem dMo_call_49 : decode cMo_call 49 = .ok (.getfield 120, 3) := by decide +kernel
theorem dMo_call_52 : decode cMo_call 52 = .ok (.if_icmp .ge 45, 3) := by decide +kernel
theorem dMo_call_55 : decode cMo_call 55 = .ok (.aload_n 0, 1) := by decide +kernel
theorem dMo_call_56 : decode cMo_call 56 = .ok (.getfield 13, 3) := by decide +kernel
theorem dMo_call_59 : decode cMo_call 59 = .ok (.iload_n 1, 1) := by decide +kernel
theorem dMo_call_60 : decode cMo_call 60 = .ok (.iaload, 1) := by decide +kernel
theorem dMo_call_61 : decode cMo_call 61 = .ok (.ifCond .ne 17, 3) := by decide +kernel
theorem dMo_call_64 : decode cMo_call 64 = .ok (.aload_n 0, 1) := by decide +kernel
theorem dMo_call_65 : decode cMo_call 65 = .ok (.getfield 38, 3) := by decide +kernel
theorem dMo_call_68 : decode cMo_call 68 = .ok (.iload_n 3, 1) := by decide +kernel
theorem dMo_call_69 : decode cMo_call 69 = .ok (.iaload, 1) := by decide +kernel
theorem dMo_call_70 : decode cMo_call 70 = .ok (.bipush 11, 2) := by decide +kernel
theorem dMo_call_72 : decode cMo_call 72 = .ok (.if_icmp .le 19, 3) := by decide +kernel
theorem dMo_call_75 : decode cMo_call 75 = .ok (.goto 14, 3) := by decide +kernel
theorem dMo_call_78 : decode cMo_call 78 = .ok (.aload_n 0, 1) := by decide +kernel
theorem dMo_call_79 : decode cMo_call 79 = .ok (.getfield 38, 3) := by decide +kernel
theorem dMo_call_82 : decode cMo_call 82 = .ok (.iload_n 3, 1) := by decide +kernel
theorem dMo_call_83 : decode cMo_call 83 = .ok (.iaload, 1) := by decide +kernel
theorem dMo_call_84 : decode cMo_call 84 = .ok (.bipush 32, 2) := by decide +kernel
theorem dMo_call_86 : decode cMo_call 86 = .ok (.if_icmp .ge 5, 3) := by decide +kernel
theorem dMo_call_89 : decode cMo_call 89 = .ok (.iconst (-1), 1) := by decide +kernel
theorem dMo_call_90 : decode cMo_call 90 = .ok (.ireturn, 1) := by decide +kernel
theorem dMo_call_91 : decode cMo_call 91 = .ok (.iinc 3 1, 3) := by decide +kernel
theorem dMo_call_94 : decode cMo_call 94 = .ok (.goto (-47), 3) := by decide +kernel
theorem dMo_call_97 : decode cMo_call 97 = .ok (.aload_n 0, 1) := by decide +kernel
theorem dMo_call_98 : decode cMo_call 98 = .ok (.getfield 127, 3) := by decide +kernel
theorem dMo_call_101 : decode cMo_call 101 = .ok (.istore_n 3, 1) := by decide +kernel
theorem dMo_call_102 : decode cMo_call 102 = .ok (.aload_n 0, 1) := by decide +kernel
theorem dMo_call_103 : decode cMo_call 103 = .ok (.dup, 1) := by decide +kernel
theorem dMo_call_104 : decode cMo_call 104 = .ok (.getfield 127, 3) := by decide +kernel
theorem dMo_call_107 : decode cMo_call 107 = .ok (.iconst 1, 1) := by decide +kernel
theorem dMo_call_108 : decode cMo_call 108 = .ok (.iadd, 1) := by decide +kernel
theorem dMo_call_109 : decode cMo_call 109 = .ok (.putfield 127, 3) := by decide +kernel
theorem dMo_call_112 : decode cMo_call 112 = .ok (.aload_n 0, 1) := by decide +kernel
theorem dMo_call_113 : decode cMo_call 113 = .ok (.getfield 19, 3) := by decide +kernel
theorem dMo_call_116 : decode cMo_call 116 = .ok (.iload_n 3, 1) := by decide +kernel
theorem dMo_call_117 : decode cMo_call 117 = .ok (.iload_n 1, 1) := by decide +kernel
theorem dMo_call_118 : decode cMo_call 118 = .ok (.iastore, 1) := by decide +kernel
theorem dMo_call_119 : decode cMo_call 119 = .ok (.aload_n 0, 1) := by decide +kernel
theorem dMo_call_120 : decode cMo_call 120 = .ok (.getfield 22, 3) := by decide +kernel
theorem dMo_call_123 : decode cMo_call 123 = .ok (.iload_n 3, 1) := by decide +kernel
theorem dMo_call_124 : decode cMo_call 124 = .ok (.iload_n 2, 1) := by decide +kernel
theorem dMo_call_125 : decode cMo_call 125 = .ok (.iastore, 1) := by decide +kernel
theorem dMo_call_126 : decode cMo_call 126 = .ok (.aload_n 0, 1) := by decide +kernel
theorem dMo_call_127 : decode cMo_call 127 = .ok (.getfield 25, 3) := by decide +kernel
theorem dMo_call_130 : decode cMo_call 130 = .ok (.iload_n 3, 1) := by decide +kernel
theorem dMo_call_131 : decode cMo_call 131 = .ok (.aload_n 0, 1) := by decide +kernel
theorem dMo_call_132 : decode cMo_call 132 = .ok (.getfield 16, 3) := by decide +kernel
theorem dMo_call_135 : decode cMo_call 135 = .ok (.iload_n 1, 1) := by decide +kernel
theorem dMo_call_136 : decode cMo_call 136 = .ok (.iaload, 1) := by decide +kernel
theorem dMo_call_137 : decode cMo_call 137 = .ok (.bipush 64, 2) := by decide +kernel
theorem dMo_call_139 : decode cMo_call 139 = .ok (.irem, 1) := by decide +kernel
theorem dMo_call_140 : decode cMo_call 140 = .ok (.iastore, 1) := by decide +kernel
theorem dMo_call_141 : decode cMo_call 141 = .ok (.aload_n 0, 1) := by decide +kernel
theorem dMo_call_142 : decode cMo_call 142 = .ok (.getfield 16, 3) := by decide +kernel
theorem dMo_call_145 : decode cMo_call 145 = .ok (.iload_n 1, 1) := by decide +kernel
theorem dMo_call_146 : decode cMo_call 146 = .ok (.dup2, 1) := by decide +kernel
theorem dMo_call_147 : decode cMo_call 147 = .ok (.iaload, 1) := by decide +kernel
theorem dMo_call_148 : decode cMo_call 148 = .ok (.iconst 1, 1) := by decide +kernel
theorem dMo_call_149 : decode cMo_call 149 = .ok (.iadd, 1) := by decide +kernel
theorem dMo_call_150 : decode cMo_call 150 = .ok (.iastore, 1) := by decide +kernel
theorem dMo_call_151 : decode cMo_call 151 = .ok (.aload_n 0, 1) := by decide +kernel
theorem dMo_call_152 : decode cMo_call 152 = .ok (.getfield 28, 3) := by decide +kernel
theorem dMo_call_155 : decode cMo_call 155 = .ok (.iload_n 3, 1) := by decide +kernel
theorem dMo_call_156 : decode cMo_call 156 = .ok (.aload_n 0, 1) := by decide +kernel
theorem dMo_call_157 : decode cMo_call 157 = .ok (.getfield 120, 3) := by decide +kernel
theorem dMo_call_160 : decode cMo_call 160 = .ok (.iastore, 1) := by decide +kernel
theorem dMo_call_161 : decode cMo_call 161 = .ok (.iconst 0, 1) := by decide +kernel
theorem dMo_call_162 : decode cMo_call 162 = .ok (.istore 4, 2) := by decide +kernel
theorem dMo_call_164 : decode cMo_call 164 = .ok (.iload 4, 2) := by decide +kernel
theorem dMo_call_166 : decode cMo_call 166 = .ok (.aload_n 0, 1) := by decide +kernel
theorem dMo_call_167 : decode cMo_call 167 = .ok (.getfield 120, 3) := by decide +kernel
theorem dMo_call_170 : decode cMo_call 170 = .ok (.if_icmp .ge 28, 3) := by decide +kernel
theorem dMo_call_173 : decode cMo_call 173 = .ok (.aload_n 0, 1) := by decide +kernel
theorem dMo_call_174 : decode cMo_call 174 = .ok (.getfield 31, 3) := by decide +kernel
theorem dMo_call_177 : decode cMo_call 177 = .ok (.bipush 20, 2) := by decide +kernel
theorem dMo_call_179 : decode cMo_call 179 = .ok (.iload_n 3, 1) := by decide +kernel
theorem dMo_call_180 : decode cMo_call 180 = .ok (.imul, 1) := by decide +kernel
theorem dMo_call_181 : decode cMo_call 181 = .ok (.iload 4, 2) := by decide +kernel
theorem dMo_call_183 : decode cMo_call 183 = .ok (.iadd, 1) := by decide +kernel
theorem dMo_call_184 : decode cMo_call 184 = .ok (.aload_n 0, 1) := by decide +kernel
theorem dMo_call_185 : decode cMo_call 185 = .ok (.getfield 38, 3) := by decide +kernel
theorem dMo_call_188 : decode cMo_call 188 = .ok (.iload 4, 2) := by decide +kernel
theorem dMo_call_190 : decode cMo_call 190 = .ok (.iaload, 1) := by decide +kernel
theorem dMo_call_191 : decode cMo_call 191 = .ok (.iastore, 1) := by decide +kernel
theorem dMo_call_192 : decode cMo_call 192 = .ok (.iinc 4 1, 3) := by decide +kernel
theorem dMo_call_195 : decode cMo_call 195 = .ok (.goto (-31), 3) := by decide +kernel
theorem dMo_call_198 : decode cMo_call 198 = .ok (.aload_n 0, 1) := by decide +kernel
theorem dMo_call_199 : decode cMo_call 199 = .ok (.getfield 34, 3) := by decide +kernel
theorem dMo_call_202 : decode cMo_call 202 = .ok (.iload_n 3, 1) := by decide +kernel
theorem dMo_call_203 : decode cMo_call 203 = .ok (.iconst 1, 1) := by decide +kernel
theorem dMo_call_204 : decode cMo_call 204 = .ok (.bastore, 1) := by decide +kernel
theorem dMo_call_205 : decode cMo_call 205 = .ok (.aload_n 0, 1) := by decide +kernel
theorem dMo_call_206 : decode cMo_call 206 = .ok (.iconst 0, 1) := by decide +kernel
theorem dMo_call_207 : decode cMo_call 207 = .ok (.putfield 120, 3) := by decide +kernel
theorem dMo_call_210 : decode cMo_call 210 = .ok (.aload_n 0, 1) := by decide +kernel
theorem dMo_call_211 : decode cMo_call 211 = .ok (.getfield 25, 3) := by decide +kernel
theorem dMo_call_214 : decode cMo_call 214 = .ok (.iload_n 3, 1) := by decide +kernel
theorem dMo_call_215 : decode cMo_call 215 = .ok (.iaload, 1) := by decide +kernel
theorem dMo_call_216 : decode cMo_call 216 = .ok (.ireturn, 1) := by decide +kernel
theorem dMo_code_0 : decode cMo_code 0 = .ok (.iload_n 1, 1) := by decide +kernel
theorem dMo_code_1 : decode cMo_code 1 = .ok (.ifCond .lt 9, 3) := by decide +kernel
theorem dMo_code_4 : decode cMo_code 4 = .ok (.iload_n 1, 1) := by decide +kernel
theorem dMo_code_5 : decode cMo_code 5 = .ok (.ldc 94, 2) := by decide +kernel
theorem dMo_code_7 : decode cMo_code 7 = .ok (.if_icmp .lt 7, 3) := by decide +kernel
theorem dMo_code_10 : decode cMo_code 10 = .ok (.iconst 0, 1) := by decide +kernel
theorem dMo_code_11 : decode cMo_code 11 = .ok (.goto 7, 3) := by decide +kernel
theorem dMo_code_14 : decode cMo_code 14 = .ok (.iload_n 1, 1) := by decide +kernel
theorem dMo_code_15 : decode cMo_code 15 = .ok (.invokestatic 95, 3) := by decide +kernel
theorem dMo_code_18 : decode cMo_code 18 = .ok (.ireturn, 1) := by decide +kernel
theorem dMo_codeword_0 : decode cMo_codeword 0 = .ok (.iload_n 0, 1) := by decide +kernel
theorem dMo_codeword_1 : decode cMo_codeword 1 = .ok (.bipush 10, 2) := by decide +kernel
theorem dMo_codeword_3 : decode cMo_codeword 3 = .ok (.ishl, 1) := by decide +kernel
theorem dMo_codeword_4 : decode cMo_codeword 4 = .ok (.istore_n 1, 1) := by decide +kernel
theorem dMo_codeword_5 : decode cMo_codeword 5 = .ok (.bipush 30, 2) := by decide +kernel
theorem dMo_codeword_7 : decode cMo_codeword 7 = .ok (.istore_n 2, 1) := by decide +kernel
theorem dMo_codeword_8 : decode cMo_codeword 8 = .ok (.iload_n 2, 1) := by decide +kernel
theorem dMo_codeword_9 : decode cMo_codeword 9 = .ok (.bipush 10, 2) := by decide +kernel
theorem dMo_codeword_11 : decode cMo_codeword 11 = .ok (.if_icmp .lt 33, 3) := by decide +kernel
theorem dMo_codeword_14 : decode cMo_codeword 14 = .ok (.iload_n 1, 1) := by decide +kernel
theorem dMo_codeword_15 : decode cMo_codeword 15 = .ok (.iload_n 2, 1) := by decide +kernel
theorem dMo_codeword_16 : decode cMo_codeword 16 = .ok (.ishr, 1) := by decide +kernel
theorem dMo_codeword_17 : decode cMo_codeword 17 = .ok (.iconst 1, 1) := by decide +kernel
theorem dMo_codeword_18 : decode cMo_codeword 18 = .ok (.iand, 1) := by decide +kernel
theorem dMo_codeword_19 : decode cMo_codeword 19 = .ok (.iconst 1, 1) := by decide +kernel
theorem dMo_codeword_20 : decode cMo_codeword 20 = .ok (.if_icmp .ne 16, 3) := by decide +kernel
theorem dMo_codeword_23 : decode cMo_codeword 23 = .ok (.iload_n 1, 1) := by decide +kernel
theorem dMo_codeword_24 : decode cMo_codeword 24 = .ok (.sipush 1897, 3) := by decide +kernel
theorem dMo_codeword_27 : decode cMo_codeword 27 = .ok (.iload_n 2, 1) := by decide +kernel
theorem dMo_codeword_28 : decode cMo_codeword 28 = .ok (.bipush 10, 2) := by decide +kernel
theorem dMo_codeword_30 : decode cMo_codeword 30 = .ok (.isub, 1) := by decide +kernel
theorem dMo_codeword_31 : decode cMo_codeword 31 = .ok (.ishl, 1) := by decide +kernel
theorem dMo_codeword_32 : decode cMo_codeword 32 = .ok (.ixor, 1) := by decide +kernel
theorem dMo_codeword_33 : decode cMo_codeword 33 = .ok (.goto 4, 3) := by decide +kernel
theorem dMo_codeword_36 : decode cMo_codeword 36 = .ok (.iload_n 1, 1) := by decide +kernel
theorem dMo_codeword_37 : decode cMo_codeword 37 = .ok (.istore_n 1, 1) := by decide +kernel
theorem dMo_codeword_38 : decode cMo_codeword 38 = .ok (.iinc 2 (-1), 3) := by decide +kernel
theorem dMo_codeword_41 : decode cMo_codeword 41 = .ok (.goto (-33), 3) := by decide +kernel
theorem dMo_codeword_44 : decode cMo_codeword 44 = .ok (.iload_n 0, 1) := by decide +kernel
theorem dMo_codeword_45 : decode cMo_codeword 45 = .ok (.bipush 11, 2) := by decide +kernel
theorem dMo_codeword_47 : decode cMo_codeword 47 = .ok (.ishl, 1) := by decide +kernel
theorem dMo_codeword_48 : decode cMo_codeword 48 = .ok (.iload_n 1, 1) := by decide +kernel
theorem dMo_codeword_49 : decode cMo_codeword 49 = .ok (.iconst 1, 1) := by decide +kernel
theorem dMo_codeword_50 : decode cMo_codeword 50 = .ok (.ishl, 1) := by decide +kernel
theorem dMo_codeword_51 : decode cMo_codeword 51 = .ok (.ior, 1) := by decide +kernel
theorem dMo_codeword_52 : decode cMo_codeword 52 = .ok (.istore_n 2, 1) := by decide +kernel
theorem dMo_codeword_53 : decode cMo_codeword 53 = .ok (.iconst 0, 1) := by decide +kernel
theorem dMo_codeword_54 : decode cMo_codeword 54 = .ok (.istore_n 3, 1) := by decide +kernel
theorem dMo_codeword_55 : decode cMo_codeword 55 = .ok (.iconst 1, 1) := by decide +kernel
theorem dMo_codeword_56 : decode cMo_codeword 56 = .ok (.istore 4, 2) := by decide +kernel
theorem dMo_codeword_58 : decode cMo_codeword 58 = .ok (.iload 4, 2) := by decide +kernel
theorem dMo_codeword_60 : decode cMo_codeword 60 = .ok (.bipush 32, 2) := by decide +kernel
theorem dMo_codeword_62 : decode cMo_codeword 62 = .ok (.if_icmp .ge 18, 3) := by decide +kernel
theorem dMo_codeword_65 : decode cMo_codeword 65 = .ok (.iload_n 3, 1) := by decide +kernel
theorem dMo_codeword_66 : decode cMo_codeword 66 = .ok (.iload_n 2, 1) := by decide +kernel
theorem dMo_codeword_67 : decode cMo_codeword 67 = .ok (.iload 4, 2) := by decide +kernel
theorem dMo_codeword_69 : decode cMo_codeword 69 = .ok (.ishr, 1) := by decide +kernel
theorem dMo_codeword_70 : decode cMo_codeword 70 = .ok (.iconst 1, 1) := by decide +kernel
theorem dMo_codeword_71 : decode cMo_codeword 71 = .ok (.iand, 1) := by decide +kernel
theorem dMo_codeword_72 : decode cMo_codeword 72 = .ok (.ixor, 1) := by decide +kernel
theorem dMo_codeword_73 : decode cMo_codeword 73 = .ok (.istore_n 3, 1) := by decide +kernel
theorem dMo_codeword_74 : decode cMo_codeword 74 = .ok (.iinc 4 1, 3) := by decide +kernel
theorem dMo_codeword_77 : decode cMo_codeword 77 = .ok (.goto (-19), 3) := by decide +kernel
theorem dMo_codeword_80 : decode cMo_codeword 80 = .ok (.iload_n 2, 1) := by decide +kernel
theorem dMo_codeword_81 : decode cMo_codeword 81 = .ok (.iload_n 3, 1) := by decide +kernel
theorem dMo_codeword_82 : decode cMo_codeword 82 = .ok (.ior, 1) := by decide +kernel
theorem dMo_codeword_83 : decode cMo_codeword 83 = .ok (.ireturn, 1) := by decide +kernel
theorem dMo_count_0 : decode cMo_count 0 = .ok (.aload_n 0, 1) := by decide +kernel
theorem dMo_count_1 : decode cMo_count 1 = .ok (.iload_n 1, 1) := by decide +kernel
theorem dMo_count_2 : decode cMo_count 2 = .ok (.invokevirtual 110, 3) := by decide +kernel
theorem dMo_count_5 : decode cMo_count 5 = .ok (.ifCond .eq 25, 3) := by decide +kernel
theorem dMo_count_8 : decode cMo_count 8 = .ok (.iload_n 2, 1) := by decide +kernel
theorem dMo_count_9 : decode cMo_count 9 = .ok (.ifCond .lt 21, 3) := by decide +kernel
theorem dMo_count_12 : decode cMo_count 12 = .ok (.iload_n 2, 1) := by decide +kernel
theorem dMo_count_13 : decode cMo_count 13 = .ok (.iconst 3, 1) := by decide +kernel
theorem dMo_count_14 : decode cMo_count 14 = .ok (.if_icmp .gt 16, 3) := by decide +kernel
theorem dMo_count_17 : decode cMo_count 17 = .ok (.aload_n 0, 1) := by decide +kernel
theorem dMo_count_18 : decode cMo_count 18 = .ok (.getfield 81, 3) := by decide +kernel
theorem dMo_count_21 : decode cMo_count 21 = .ok (.iconst 4, 1) := by decide +kernel
theorem dMo_count_22 : decode cMo_count 22 = .ok (.iload_n 1, 1) := by decide +kernel
theorem dMo_count_23 : decode cMo_count 23 = .ok (.imul, 1) := by decide +kernel
theorem dMo_count_24 : decode cMo_count 24 = .ok (.iload_n 2, 1) := by decide +kernel
theorem dMo_count_25 : decode cMo_count 25 = .ok (.iadd, 1) := by decide +kernel
theorem dMo_count_26 : decode cMo_count 26 = .ok (.iaload, 1) := by decide +kernel
theorem dMo_count_27 : decode cMo_count 27 = .ok (.goto 4, 3) := by decide +kernel
theorem dMo_count_30 : decode cMo_count 30 = .ok (.iconst (-1), 1) := by decide +kernel
theorem dMo_count_31 : decode cMo_count 31 = .ok (.ireturn, 1) := by decide +kernel
theorem dMo_desk_0 : decode cMo_desk 0 = .ok (.iconst (-1), 1) := by decide +kernel
theorem dMo_desk_1 : decode cMo_desk 1 = .ok (.istore 4, 2) := by decide +kernel
theorem dMo_desk_3 : decode cMo_desk 3 = .ok (.iconst 0, 1) := by decide +kernel
theorem dMo_desk_4 : decode cMo_desk 4 = .ok (.istore 5, 2) := by decide +kernel
theorem dMo_desk_6 : decode cMo_desk 6 = .ok (.iload 5, 2) := by decide +kernel
theorem dMo_desk_8 : decode cMo_desk 8 = .ok (.aload_n 0, 1) := by decide +kernel
theorem dMo_desk_9 : decode cMo_desk 9 = .ok (.getfield 127, 3) := by decide +kernel
theorem dMo_desk_12 : decode cMo_desk 12 = .ok (.if_icmp .ge 40, 3) := by decide +kernel
theorem dMo_desk_15 : decode cMo_desk 15 = .ok (.aload_n 0, 1) := by decide +kernel
theorem dMo_desk_16 : decode cMo_desk 16 = .ok (.getfield 19, 3) := by decide +kernel
theorem dMo_desk_19 : decode cMo_desk 19 = .ok (.iload 5, 2) := by decide +kernel
theorem dMo_desk_21 : decode cMo_desk 21 = .ok (.iaload, 1) := by decide +kernel
theorem dMo_desk_22 : decode cMo_desk 22 = .ok (.iload_n 1, 1) := by decide +kernel
theorem dMo_desk_23 : decode cMo_desk 23 = .ok (.if_icmp .ne 19, 3) := by decide +kernel
theorem dMo_desk_26 : decode cMo_desk 26 = .ok (.aload_n 0, 1) := by decide +kernel
theorem dMo_desk_27 : decode cMo_desk 27 = .ok (.getfield 25, 3) := by decide +kernel
theorem dMo_desk_30 : decode cMo_desk 30 = .ok (.iload 5, 2) := by decide +kernel
theorem dMo_desk_32 : decode cMo_desk 32 = .ok (.iaload, 1) := by decide +kernel
theorem dMo_desk_33 : decode cMo_desk 33 = .ok (.iload_n 2, 1) := by decide +kernel
theorem dMo_desk_34 : decode cMo_desk 34 = .ok (.if_icmp .ne 8, 3) := by decide +kernel
theorem dMo_desk_37 : decode cMo_desk 37 = .ok (.iload 5, 2) := by decide +kernel
theorem dMo_desk_39 : decode cMo_desk 39 = .ok (.goto 5, 3) := by decide +kernel
theorem dMo_desk_42 : decode cMo_desk 42 = .ok (.iload 4, 2) := by decide +kernel
theorem dMo_desk_44 : decode cMo_desk 44 = .ok (.istore 4, 2) := by decide +kernel
theorem dMo_desk_46 : decode cMo_desk 46 = .ok (.iinc 5 1, 3) := by decide +kernel
theorem dMo_desk_49 : decode cMo_desk 49 = .ok (.goto (-43), 3) := by decide +kernel
theorem dMo_desk_52 : decode cMo_desk 52 = .ok (.iload 4, 2) := by decide +kernel
theorem dMo_desk_54 : decode cMo_desk 54 = .ok (.ifCond .lt 18, 3) := by decide +kernel
theorem dMo_desk_57 : decode cMo_desk 57 = .ok (.iload_n 3, 1) := by decide +kernel
theorem dMo_desk_58 : decode cMo_desk 58 = .ok (.ifCond .lt 14, 3) := by decide +kernel
theorem dMo_desk_61 : decode cMo_desk 61 = .ok (.iload_n 3, 1) := by decide +kernel
theorem dMo_desk_62 : decode cMo_desk 62 = .ok (.aload_n 0, 1) := by decide +kernel
theorem dMo_desk_63 : decode cMo_desk 63 = .ok (.getfield 28, 3) := by decide +kernel
theorem dMo_desk_66 : decode cMo_desk 66 = .ok (.iload 4, 2) := by decide +kernel
theorem dMo_desk_68 : decode cMo_desk 68 = .ok (.iaload, 1) := by decide +kernel
theorem dMo_desk_69 : decode cMo_desk 69 = .ok (.if_icmp .lt 7, 3) := by decide +kernel
theorem dMo_desk_72 : decode cMo_desk 72 = .ok (.iconst (-1), 1) := by decide +kernel
theorem dMo_desk_73 : decode cMo_desk 73 = .ok (.goto 15, 3) := by decide +kernel
theorem dMo_desk_76 : decode cMo_desk 76 = .ok (.aload_n 0, 1) := by decide +kernel
theorem dMo_desk_77 : decode cMo_desk 77 = .ok (.getfield 31, 3) := by decide +kernel
theorem dMo_desk_80 : decode cMo_desk 80 = .ok (.bipush 20, 2) := by decide +kernel
theorem dMo_desk_82 : decode cMo_desk 82 = .ok (.iload 4, 2) := by decide +kernel
theorem dMo_desk_84 : decode cMo_desk 84 = .ok (.imul, 1) := by decide +kernel
theorem dMo_desk_85 : decode cMo_desk 85 = .ok (.iload_n 3, 1) := by decide +kernel
theorem dMo_desk_86 : decode cMo_desk 86 = .ok (.iadd, 1) := by decide +kernel
theorem dMo_desk_87 : decode cMo_desk 87 = .ok (.iaload, 1) := by decide +kernel
theorem dMo_desk_88 : decode cMo_desk 88 = .ok (.ireturn, 1) := by decide +kernel
theorem dMo_finish_0 : decode cMo_finish 0 = .ok (.aload_n 0, 1) := by decide +kernel
theorem dMo_finish_1 : decode cMo_finish 1 = .ok (.getfield 84, 3) := by decide +kernel
theorem dMo_finish_4 : decode cMo_finish 4 = .ok (.ifCond .ge 4, 3) := by decide +kernel
theorem dMo_finish_7 : decode cMo_finish 7 = .ok (.return_, 1) := by decide +kernel
theorem dMo_finish_8 : decode cMo_finish 8 = .ok (.aload_n 0, 1) := by decide +kernel
theorem dMo_finish_9 : decode cMo_finish 9 = .ok (.getfield 13, 3) := by decide +kernel
theorem dMo_finish_12 : decode cMo_finish 12 = .ok (.aload_n 0, 1) := by decide +kernel
theorem dMo_finish_13 : decode cMo_finish 13 = .ok (.getfield 84, 3) := by decide +kernel
theorem dMo_finish_16 : decode cMo_finish 16 = .ok (.iaload, 1) := by decide +kernel
theorem dMo_finish_17 : decode cMo_finish 17 = .ok (.ifCond .ne 7, 3) := by decide +kernel
theorem dMo_finish_20 : decode cMo_finish 20 = .ok (.iconst 4, 1) := by decide +kernel
theorem dMo_finish_21 : decode cMo_finish 21 = .ok (.goto 5, 3) := by decide +kernel
theorem dMo_finish_24 : decode cMo_finish 24 = .ok (.bipush 7, 2) := by decide +kernel
theorem dMo_finish_26 : decode cMo_finish 26 = .ok (.istore_n 2, 1) := by decide +kernel
theorem dMo_finish_27 : decode cMo_finish 27 = .ok (.aload_n 0, 1) := by decide +kernel
theorem dMo_finish_28 : decode cMo_finish 28 = .ok (.getfield 183, 3) := by decide +kernel
theorem dMo_finish_31 : decode cMo_finish 31 = .ok (.iload_n 2, 1) := by decide +kernel
theorem dMo_finish_32 : decode cMo_finish 32 = .ok (.idiv, 1) := by decide +kernel
theorem dMo_finish_33 : decode cMo_finish 33 = .ok (.istore_n 3, 1) := by decide +kernel
theorem dMo_finish_34 : decode cMo_finish 34 = .ok (.iload_n 3, 1) := by decide +kernel
theorem dMo_finish_35 : decode cMo_finish 35 = .ok (.bipush 22, 2) := by decide +kernel
theorem dMo_finish_37 : decode cMo_finish 37 = .ok (.if_icmp .le 8, 3) := by decide +kernel
theorem dMo_finish_40 : decode cMo_finish 40 = .ok (.bipush 22, 2) := by decide +kernel
theorem dMo_finish_42 : decode cMo_finish 42 = .ok (.goto 4, 3) := by decide +kernel
theorem dMo_finish_45 : decode cMo_finish 45 = .ok (.iload_n 3, 1) := by decide +kernel
theorem dMo_finish_46 : decode cMo_finish 46 = .ok (.istore_n 3, 1) := by decide +kernel
theorem dMo_finish_47 : decode cMo_finish 47 = .ok (.aload_n 0, 1) := by decide +kernel
theorem dMo_finish_48 : decode cMo_finish 48 = .ok (.iload_n 3, 1) := by decide +kernel
theorem dMo_finish_49 : decode cMo_finish 49 = .ok (.invokevirtual 186, 3) := by decide +kernel
theorem dMo_finish_52 : decode cMo_finish 52 = .ok (.istore 4, 2) := by decide +kernel
theorem dMo_finish_54 : decode cMo_finish 54 = .ok (.iconst 2, 1) := by decide +kernel
theorem dMo_finish_55 : decode cMo_finish 55 = .ok (.aload_n 0, 1) := by decide +kernel
theorem dMo_finish_56 : decode cMo_finish 56 = .ok (.getfield 13, 3) := by decide +kernel
theorem dMo_finish_59 : decode cMo_finish 59 = .ok (.aload_n 0, 1) := by decide +kernel
theorem dMo_finish_60 : decode cMo_finish 60 = .ok (.getfield 84, 3) := by decide +kernel
theorem dMo_finish_63 : decode cMo_finish 63 = .ok (.iaload, 1) := by decide +kernel
theorem dMo_finish_64 : decode cMo_finish 64 = .ok (.isub, 1) := by decide +kernel
theorem dMo_finish_65 : decode cMo_finish 65 = .ok (.istore 5, 2) := by decide +kernel
theorem dMo_finish_67 : decode cMo_finish 67 = .ok (.aload_n 0, 1) := by decide +kernel
theorem dMo_finish_68 : decode cMo_finish 68 = .ok (.getfield 13, 3) := by decide +kernel
theorem dMo_finish_71 : decode cMo_finish 71 = .ok (.aload_n 0, 1) := by decide +kernel
theorem dMo_finish_72 : decode cMo_finish 72 = .ok (.getfield 84, 3) := by decide +kernel
theorem dMo_finish_75 : decode cMo_finish 75 = .ok (.iaload, 1) := by decide +kernel
theorem dMo_finish_76 : decode cMo_finish 76 = .ok (.ifCond .ne 8, 3) := by decide +kernel
theorem dMo_finish_79 : decode cMo_finish 79 = .ok (.bipush 12, 2) := by decide +kernel
theorem dMo_finish_81 : decode cMo_finish 81 = .ok (.goto 4, 3) := by decide +kernel
theorem dMo_finish_84 : decode cMo_finish 84 = .ok (.iconst 0, 1) := by decide +kernel
theorem dMo_finish_85 : decode cMo_finish 85 = .ok (.istore 6, 2) := by decide +kernel
theorem dMo_finish_87 : decode cMo_finish 87 = .ok (.iload_n 3, 1) := by decide +kernel
theorem dMo_finish_88 : decode cMo_finish 88 = .ok (.iload 5, 2) := by decide +kernel
theorem dMo_finish_90 : decode cMo_finish 90 = .ok (.if_icmp .le 21, 3) := by decide +kernel
theorem dMo_finish_93 : decode cMo_finish 93 = .ok (.aload_n 0, 1) := by decide +kernel
theorem dMo_finish_94 : decode cMo_finish 94 = .ok (.iload_n 3, 1) := by decide +kernel
theorem dMo_finish_95 : decode cMo_finish 95 = .ok (.iconst 1, 1) := by decide +kernel
theorem dMo_finish_96 : decode cMo_finish 96 = .ok (.isub, 1) := by decide +kernel
theorem dMo_finish_97 : decode cMo_finish 97 = .ok (.invokevirtual 175, 3) := by decide +kernel
theorem dMo_finish_100 : decode cMo_finish 100 = .ok (.iload 6, 2) := by decide +kernel
theorem dMo_finish_102 : decode cMo_finish 102 = .ok (.if_icmp .ne 9, 3) := by decide +kernel
theorem dMo_finish_105 : decode cMo_finish 105 = .ok (.iinc 3 (-1), 3) := by decide +kernel
theorem dMo_finish_108 : decode cMo_finish 108 = .ok (.goto (-21), 3) := by decide +kernel
theorem dMo_finish_111 : decode cMo_finish 111 = .ok (.iload 4, 2) := by decide +kernel
theorem dMo_finish_113 : decode cMo_finish 113 = .ok (.ifCond .ge 23, 3) := by decide +kernel
theorem dMo_finish_116 : decode cMo_finish 116 = .ok (.aload_n 0, 1) := by decide +kernel
theorem dMo_finish_117 : decode cMo_finish 117 = .ok (.getfield 81, 3) := by decide +kernel
theorem dMo_finish_120 : decode cMo_finish 120 = .ok (.iconst 4, 1) := by decide +kernel
theorem dMo_finish_121 : decode cMo_finish 121 = .ok (.aload_n 0, 1) := by decide +kernel
theorem dMo_finish_122 : decode cMo_finish 122 = .ok (.getfield 178, 3) := by decide +kernel
theorem dMo_finish_125 : decode cMo_finish 125 = .ok (.imul, 1) := by decide +kernel
theorem dMo_finish_126 : decode cMo_finish 126 = .ok (.iconst 3, 1) := by decide +kernel
theorem dMo_finish_127 : decode cMo_finish 127 = .ok (.iadd, 1) := by decide +kernel
theorem dMo_finish_128 : decode cMo_finish 128 = .ok (.dup2, 1) := by decide +kernel
theorem dMo_finish_129 : decode cMo_finish 129 = .ok (.iaload, 1) := by decide +kernel
theorem dMo_finish_130 : decode cMo_finish 130 = .ok (.iconst 1, 1) := by decide +kernel
theorem dMo_finish_131 : decode cMo_finish 131 = .ok (.iadd, 1) := by decide +kernel
theorem dMo_finish_132 : decode cMo_finish 132 = .ok (.iastore, 1) := by decide +kernel
theorem dMo_finish_133 : decode cMo_finish 133 = .ok (.goto 102, 3) := by decide +kernel
theorem dMo_finish_136 : decode cMo_finish 136 = .ok (.aload_n 0, 1) := by decide +kernel
theorem dMo_finish_137 : decode cMo_finish 137 = .ok (.invokevirtual 189, 3) := by decide +kernel
theorem dMo_finish_140 : decode cMo_finish 140 = .ok (.istore 7, 2) := by decide +kernel
theorem dMo_finish_142 : decode cMo_finish 142 = .ok (.aload_n 0, 1) := by decide +kernel
theorem dMo_finish_143 : decode cMo_finish 143 = .ok (.getfield 59, 3) := by decide +kernel
theorem dMo_finish_146 : decode cMo_finish 146 = .ok (.iload 7, 2) := by decide +kernel
theorem dMo_finish_148 : decode cMo_finish 148 = .ok (.aload_n 0, 1) := by decide +kernel
theorem dMo_finish_149 : decode cMo_finish 149 = .ok (.getfield 84, 3) := by decide +kernel
theorem dMo_finish_152 : decode cMo_finish 152 = .ok (.iastore, 1) := by decide +kernel
theorem dMo_finish_153 : decode cMo_finish 153 = .ok (.aload_n 0, 1) := by decide +kernel
theorem dMo_finish_154 : decode cMo_finish 154 = .ok (.getfield 62, 3) := by decide +kernel
theorem dMo_finish_157 : decode cMo_finish 157 = .ok (.iload 7, 2) := by decide +kernel
theorem dMo_finish_159 : decode cMo_finish 159 = .ok (.iload 4, 2) := by decide +kernel
theorem dMo_finish_161 : decode cMo_finish 161 = .ok (.iastore, 1) := by decide +kernel
theorem dMo_finish_162 : decode cMo_finish 162 = .ok (.aload_n 0, 1) := by decide +kernel
theorem dMo_finish_163 : decode cMo_finish 163 = .ok (.getfield 65, 3) := by decide +kernel
theorem dMo_finish_166 : decode cMo_finish 166 = .ok (.iload 7, 2) := by decide +kernel
theorem dMo_finish_168 : decode cMo_finish 168 = .ok (.iload_n 3, 1) := by decide +kernel
theorem dMo_finish_169 : decode cMo_finish 169 = .ok (.iload 5, 2) := by decide +kernel
theorem dMo_finish_171 : decode cMo_finish 171 = .ok (.isub, 1) := by decide +kernel
theorem dMo_finish_172 : decode cMo_finish 172 = .ok (.iastore, 1) := by decide +kernel
theorem dMo_finish_173 : decode cMo_finish 173 = .ok (.aload_n 0, 1) := by decide +kernel
theorem dMo_finish_174 : decode cMo_finish 174 = .ok (.getfield 68, 3) := by decide +kernel
theorem dMo_finish_177 : decode cMo_finish 177 = .ok (.iload 7, 2) := by decide +kernel
theorem dMo_finish_179 : decode cMo_finish 179 = .ok (.iload_n 1, 1) := by decide +kernel
theorem dMo_finish_180 : decode cMo_finish 180 = .ok (.bastore, 1) := by decide +kernel
theorem dMo_finish_181 : decode cMo_finish 181 = .ok (.iload 5, 2) := by decide +kernel
theorem dMo_finish_183 : decode cMo_finish 183 = .ok (.istore 8, 2) := by decide +kernel
theorem dMo_finish_185 : decode cMo_finish 185 = .ok (.iload 8, 2) := by decide +kernel
theorem dMo_finish_187 : decode cMo_finish 187 = .ok (.iload_n 3, 1) := by decide +kernel
theorem dMo_finish_188 : decode cMo_finish 188 = .ok (.if_icmp .ge 31, 3) := by decide +kernel
theorem dMo_finish_191 : decode cMo_finish 191 = .ok (.aload_n 0, 1) := by decide +kernel
theorem dMo_finish_192 : decode cMo_finish 192 = .ok (.getfield 71, 3) := by decide +kernel
theorem dMo_finish_195 : decode cMo_finish 195 = .ok (.bipush 22, 2) := by decide +kernel
theorem dMo_finish_197 : decode cMo_finish 197 = .ok (.iload 7, 2) := by decide +kernel
theorem dMo_finish_199 : decode cMo_finish 199 = .ok (.imul, 1) := by decide +kernel
theorem dMo_finish_200 : decode cMo_finish 200 = .ok (.iload 8, 2) := by decide +kernel
theorem dMo_finish_202 : decode cMo_finish 202 = .ok (.iadd, 1) := by decide +kernel
theorem dMo_finish_203 : decode cMo_finish 203 = .ok (.iload 5, 2) := by decide +kernel
theorem dMo_finish_205 : decode cMo_finish 205 = .ok (.isub, 1) := by decide +kernel
theorem dMo_finish_206 : decode cMo_finish 206 = .ok (.aload_n 0, 1) := by decide +kernel
theorem dMo_finish_207 : decode cMo_finish 207 = .ok (.iload 8, 2) := by decide +kernel
theorem dMo_finish_209 : decode cMo_finish 209 = .ok (.invokevirtual 175, 3) := by decide +kernel
theorem dMo_finish_212 : decode cMo_finish 212 = .ok (.iastore, 1) := by decide +kernel
theorem dMo_finish_213 : decode cMo_finish 213 = .ok (.iinc 8 1, 3) := by decide +kernel
theorem dMo_finish_216 : decode cMo_finish 216 = .ok (.goto (-31), 3) := by decide +kernel
theorem dMo_finish_219 : decode cMo_finish 219 = .ok (.aload_n 0, 1) := by decide +kernel
theorem dMo_finish_220 : decode cMo_finish 220 = .ok (.iload 4, 2) := by decide +kernel
theorem dMo_finish_222 : decode cMo_finish 222 = .ok (.invokevirtual 192, 3) := by decide +kernel
theorem dMo_finish_225 : decode cMo_finish 225 = .ok (.aload_n 0, 1) := by decide +kernel
theorem dMo_finish_226 : decode cMo_finish 226 = .ok (.dup, 1) := by decide +kernel
theorem dMo_finish_227 : decode cMo_finish 227 = .ok (.getfield 195, 3) := by decide +kernel
theorem dMo_finish_230 : decode cMo_finish 230 = .ok (.iconst 1, 1) := by decide +kernel
