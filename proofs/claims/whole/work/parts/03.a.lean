theorem d_K_admits_0 : decode b_K_admits 0 = .ok (.iload_n 1, 1) := by decide +kernel
theorem d_K_admits_1 : decode b_K_admits 1 = .ok (.aload_n 0, 1) := by decide +kernel
theorem d_K_admits_2 : decode b_K_admits 2 = .ok (.getfield 301, 3) := by decide +kernel
theorem d_K_admits_5 : decode b_K_admits 5 = .ok (.iand, 1) := by decide +kernel
theorem d_K_admits_6 : decode b_K_admits 6 = .ok (.aload_n 0, 1) := by decide +kernel
theorem d_K_admits_7 : decode b_K_admits 7 = .ok (.getfield 304, 3) := by decide +kernel
theorem d_K_admits_10 : decode b_K_admits 10 = .ok (.if_icmp .ne 37, 3) := by decide +kernel
theorem d_K_admits_13 : decode b_K_admits 13 = .ok (.aload_n 0, 1) := by decide +kernel
theorem d_K_admits_14 : decode b_K_admits 14 = .ok (.aload_n 0, 1) := by decide +kernel
theorem d_K_admits_15 : decode b_K_admits 15 = .ok (.iload_n 1, 1) := by decide +kernel
theorem d_K_admits_16 : decode b_K_admits 16 = .ok (.iconst 1, 1) := by decide +kernel
theorem d_K_admits_17 : decode b_K_admits 17 = .ok (.invokevirtual 330, 3) := by decide +kernel
theorem d_K_admits_20 : decode b_K_admits 20 = .ok (.aload_n 0, 1) := by decide +kernel
theorem d_K_admits_21 : decode b_K_admits 21 = .ok (.iload_n 1, 1) := by decide +kernel
theorem d_K_admits_22 : decode b_K_admits 22 = .ok (.iconst 2, 1) := by decide +kernel
theorem d_K_admits_23 : decode b_K_admits 23 = .ok (.invokevirtual 330, 3) := by decide +kernel
theorem d_K_admits_26 : decode b_K_admits 26 = .ok (.aload_n 0, 1) := by decide +kernel
theorem d_K_admits_27 : decode b_K_admits 27 = .ok (.iload_n 1, 1) := by decide +kernel
theorem d_K_admits_28 : decode b_K_admits 28 = .ok (.iconst 4, 1) := by decide +kernel
theorem d_K_admits_29 : decode b_K_admits 29 = .ok (.invokevirtual 330, 3) := by decide +kernel
theorem d_K_admits_32 : decode b_K_admits 32 = .ok (.aload_n 0, 1) := by decide +kernel
theorem d_K_admits_33 : decode b_K_admits 33 = .ok (.iload_n 1, 1) := by decide +kernel
theorem d_K_admits_34 : decode b_K_admits 34 = .ok (.invokevirtual 333, 3) := by decide +kernel
theorem d_K_admits_37 : decode b_K_admits 37 = .ok (.invokevirtual 336, 3) := by decide +kernel
theorem d_K_admits_40 : decode b_K_admits 40 = .ok (.ifCond .eq 7, 3) := by decide +kernel
theorem d_K_admits_43 : decode b_K_admits 43 = .ok (.iconst 1, 1) := by decide +kernel
theorem d_K_admits_44 : decode b_K_admits 44 = .ok (.goto 4, 3) := by decide +kernel
theorem d_K_admits_47 : decode b_K_admits 47 = .ok (.iconst 0, 1) := by decide +kernel
theorem d_K_admits_48 : decode b_K_admits 48 = .ok (.ireturn, 1) := by decide +kernel
theorem d_K_register_0 : decode b_K_register 0 = .ok (.aload_n 0, 1) := by decide +kernel
theorem d_K_register_1 : decode b_K_register 1 = .ok (.iload_n 2, 1) := by decide +kernel
theorem d_K_register_2 : decode b_K_register 2 = .ok (.invokevirtual 344, 3) := by decide +kernel
theorem d_K_register_5 : decode b_K_register 5 = .ok (.ifCond .ne 5, 3) := by decide +kernel
theorem d_K_register_8 : decode b_K_register 8 = .ok (.iconst 0, 1) := by decide +kernel
theorem d_K_register_9 : decode b_K_register 9 = .ok (.ireturn, 1) := by decide +kernel
theorem d_K_register_10 : decode b_K_register 10 = .ok (.iload_n 1, 1) := by decide +kernel
theorem d_K_register_11 : decode b_K_register 11 = .ok (.aload_n 0, 1) := by decide +kernel
theorem d_K_register_12 : decode b_K_register 12 = .ok (.iload_n 2, 1) := by decide +kernel
theorem d_K_register_13 : decode b_K_register 13 = .ok (.invokevirtual 326, 3) := by decide +kernel
theorem d_K_register_16 : decode b_K_register 16 = .ok (.iushr, 1) := by decide +kernel
theorem d_K_register_17 : decode b_K_register 17 = .ok (.istore_n 3, 1) := by decide +kernel
theorem d_K_register_18 : decode b_K_register 18 = .ok (.aload_n 0, 1) := by decide +kernel
theorem d_K_register_19 : decode b_K_register 19 = .ok (.iload_n 2, 1) := by decide +kernel
theorem d_K_register_20 : decode b_K_register 20 = .ok (.invokevirtual 352, 3) := by decide +kernel
theorem d_K_register_23 : decode b_K_register 23 = .ok (.ifCond .eq 13, 3) := by decide +kernel
theorem d_K_register_26 : decode b_K_register 26 = .ok (.bipush 8, 2) := by decide +kernel
theorem d_K_register_28 : decode b_K_register 28 = .ok (.iload_n 3, 1) := by decide +kernel
theorem d_K_register_29 : decode b_K_register 29 = .ok (.bipush 7, 2) := by decide +kernel
theorem d_K_register_31 : decode b_K_register 31 = .ok (.iand, 1) := by decide +kernel
theorem d_K_register_32 : decode b_K_register 32 = .ok (.iadd, 1) := by decide +kernel
theorem d_K_register_33 : decode b_K_register 33 = .ok (.goto 7, 3) := by decide +kernel
theorem d_K_register_36 : decode b_K_register 36 = .ok (.iload_n 3, 1) := by decide +kernel
theorem d_K_register_37 : decode b_K_register 37 = .ok (.bipush 31, 2) := by decide +kernel
theorem d_K_register_39 : decode b_K_register 39 = .ok (.iand, 1) := by decide +kernel
theorem d_K_register_40 : decode b_K_register 40 = .ok (.ireturn, 1) := by decide +kernel
theorem d_K_has_0 : decode b_K_has 0 = .ok (.aload_n 0, 1) := by decide +kernel
theorem d_K_has_1 : decode b_K_has 1 = .ok (.getfield 298, 3) := by decide +kernel
theorem d_K_has_4 : decode b_K_has 4 = .ok (.iload_n 1, 1) := by decide +kernel
theorem d_K_has_5 : decode b_K_has 5 = .ok (.iand, 1) := by decide +kernel
theorem d_K_has_6 : decode b_K_has 6 = .ok (.ifCond .eq 7, 3) := by decide +kernel
theorem d_K_has_9 : decode b_K_has 9 = .ok (.iconst 1, 1) := by decide +kernel
theorem d_K_has_10 : decode b_K_has 10 = .ok (.goto 4, 3) := by decide +kernel
theorem d_K_has_13 : decode b_K_has 13 = .ok (.iconst 0, 1) := by decide +kernel
theorem d_K_has_14 : decode b_K_has 14 = .ok (.ireturn, 1) := by decide +kernel
theorem d_K_placeOf_0 : decode b_K_placeOf 0 = .ok (.iload_n 1, 1) := by decide +kernel
theorem d_K_placeOf_1 : decode b_K_placeOf 1 = .ok (.iconst 1, 1) := by decide +kernel
theorem d_K_placeOf_2 : decode b_K_placeOf 2 = .ok (.if_icmp .ne 8, 3) := by decide +kernel
theorem d_K_placeOf_5 : decode b_K_placeOf 5 = .ok (.aload_n 0, 1) := by decide +kernel
theorem d_K_placeOf_6 : decode b_K_placeOf 6 = .ok (.getfield 311, 3) := by decide +kernel
theorem d_K_placeOf_9 : decode b_K_placeOf 9 = .ok (.ireturn, 1) := by decide +kernel
theorem d_K_placeOf_10 : decode b_K_placeOf 10 = .ok (.iload_n 1, 1) := by decide +kernel
theorem d_K_placeOf_11 : decode b_K_placeOf 11 = .ok (.iconst 2, 1) := by decide +kernel
theorem d_K_placeOf_12 : decode b_K_placeOf 12 = .ok (.if_icmp .ne 10, 3) := by decide +kernel
theorem d_K_placeOf_15 : decode b_K_placeOf 15 = .ok (.aload_n 0, 1) := by decide +kernel
theorem d_K_placeOf_16 : decode b_K_placeOf 16 = .ok (.getfield 314, 3) := by decide +kernel
theorem d_K_placeOf_19 : decode b_K_placeOf 19 = .ok (.goto 7, 3) := by decide +kernel
theorem d_K_placeOf_22 : decode b_K_placeOf 22 = .ok (.aload_n 0, 1) := by decide +kernel
theorem d_K_placeOf_23 : decode b_K_placeOf 23 = .ok (.getfield 317, 3) := by decide +kernel
theorem d_K_placeOf_26 : decode b_K_placeOf 26 = .ok (.ireturn, 1) := by decide +kernel
theorem d_K_isNarrow_0 : decode b_K_isNarrow 0 = .ok (.aload_n 0, 1) := by decide +kernel
theorem d_K_isNarrow_1 : decode b_K_isNarrow 1 = .ok (.getfield 259, 3) := by decide +kernel
theorem d_K_isNarrow_4 : decode b_K_isNarrow 4 = .ok (.invokevirtual 275, 3) := by decide +kernel
theorem d_K_isNarrow_7 : decode b_K_isNarrow 7 = .ok (.iconst 1, 1) := by decide +kernel
theorem d_K_isNarrow_8 : decode b_K_isNarrow 8 = .ok (.isub, 1) := by decide +kernel
theorem d_K_isNarrow_9 : decode b_K_isNarrow 9 = .ok (.aload_n 0, 1) := by decide +kernel
theorem d_K_isNarrow_10 : decode b_K_isNarrow 10 = .ok (.iload_n 1, 1) := by decide +kernel
theorem d_K_isNarrow_11 : decode b_K_isNarrow 11 = .ok (.invokevirtual 326, 3) := by decide +kernel
theorem d_K_isNarrow_14 : decode b_K_isNarrow 14 = .ok (.isub, 1) := by decide +kernel
theorem d_K_isNarrow_15 : decode b_K_isNarrow 15 = .ok (.iconst 4, 1) := by decide +kernel
theorem d_K_isNarrow_16 : decode b_K_isNarrow 16 = .ok (.isub, 1) := by decide +kernel
theorem d_K_isNarrow_17 : decode b_K_isNarrow 17 = .ok (.istore_n 2, 1) := by decide +kernel
theorem d_K_isNarrow_18 : decode b_K_isNarrow 18 = .ok (.iload_n 2, 1) := by decide +kernel
theorem d_K_isNarrow_19 : decode b_K_isNarrow 19 = .ok (.ifCond .lt 29, 3) := by decide +kernel
theorem d_K_isNarrow_22 : decode b_K_isNarrow 22 = .ok (.iload_n 2, 1) := by decide +kernel
theorem d_K_isNarrow_23 : decode b_K_isNarrow 23 = .ok (.aload_n 0, 1) := by decide +kernel
theorem d_K_isNarrow_24 : decode b_K_isNarrow 24 = .ok (.getfield 259, 3) := by decide +kernel
theorem d_K_isNarrow_27 : decode b_K_isNarrow 27 = .ok (.invokevirtual 275, 3) := by decide +kernel
theorem d_K_isNarrow_30 : decode b_K_isNarrow 30 = .ok (.if_icmp .ge 18, 3) := by decide +kernel
theorem d_K_isNarrow_33 : decode b_K_isNarrow 33 = .ok (.aload_n 0, 1) := by decide +kernel
theorem d_K_isNarrow_34 : decode b_K_isNarrow 34 = .ok (.getfield 259, 3) := by decide +kernel
theorem d_K_isNarrow_37 : decode b_K_isNarrow 37 = .ok (.iload_n 2, 1) := by decide +kernel
theorem d_K_isNarrow_38 : decode b_K_isNarrow 38 = .ok (.invokevirtual 281, 3) := by decide +kernel
theorem d_K_isNarrow_41 : decode b_K_isNarrow 41 = .ok (.invokestatic 285, 3) := by decide +kernel
theorem d_K_isNarrow_44 : decode b_K_isNarrow 44 = .ok (.iload_n 1, 1) := by decide +kernel
theorem d_K_isNarrow_45 : decode b_K_isNarrow 45 = .ok (.if_icmp .eq 7, 3) := by decide +kernel
theorem d_K_isNarrow_48 : decode b_K_isNarrow 48 = .ok (.iconst 1, 1) := by decide +kernel
theorem d_K_isNarrow_49 : decode b_K_isNarrow 49 = .ok (.goto 4, 3) := by decide +kernel
theorem d_K_isNarrow_52 : decode b_K_isNarrow 52 = .ok (.iconst 0, 1) := by decide +kernel
theorem d_K_isNarrow_53 : decode b_K_isNarrow 53 = .ok (.ireturn, 1) := by decide +kernel
theorem d_S_length_0 : decode b_S_length 0 = .ok (.aload_n 0, 1) := by decide +kernel
theorem d_S_length_1 : decode b_S_length 1 = .ok (.getfield 9, 3) := by decide +kernel
theorem d_S_length_4 : decode b_S_length 4 = .ok (.arraylength, 1) := by decide +kernel
theorem d_S_length_5 : decode b_S_length 5 = .ok (.aload_n 0, 1) := by decide +kernel
theorem d_S_length_6 : decode b_S_length 6 = .ok (.invokevirtual 335, 3) := by decide +kernel
theorem d_S_length_9 : decode b_S_length 9 = .ok (.ishr, 1) := by decide +kernel
theorem d_S_length_10 : decode b_S_length 10 = .ok (.ireturn, 1) := by decide +kernel
theorem d_S_coder_0 : decode b_S_coder 0 = .ok (.getstatic 38, 3) := by decide +kernel
theorem d_S_coder_3 : decode b_S_coder 3 = .ok (.ifCond .eq 10, 3) := by decide +kernel
theorem d_S_coder_6 : decode b_S_coder 6 = .ok (.aload_n 0, 1) := by decide +kernel
theorem d_S_coder_7 : decode b_S_coder 7 = .ok (.getfield 15, 3) := by decide +kernel
theorem d_S_coder_10 : decode b_S_coder 10 = .ok (.goto 4, 3) := by decide +kernel
theorem d_S_coder_13 : decode b_S_coder 13 = .ok (.iconst 1, 1) := by decide +kernel
theorem d_S_coder_14 : decode b_S_coder 14 = .ok (.ireturn, 1) := by decide +kernel
theorem d_S_charAt_0 : decode b_S_charAt 0 = .ok (.aload_n 0, 1) := by decide +kernel
theorem d_S_charAt_1 : decode b_S_charAt 1 = .ok (.invokevirtual 492, 3) := by decide +kernel
theorem d_S_charAt_4 : decode b_S_charAt 4 = .ok (.ifCond .eq 12, 3) := by decide +kernel
theorem d_S_charAt_7 : decode b_S_charAt 7 = .ok (.aload_n 0, 1) := by decide +kernel
theorem d_S_charAt_8 : decode b_S_charAt 8 = .ok (.getfield 9, 3) := by decide +kernel
theorem d_S_charAt_11 : decode b_S_charAt 11 = .ok (.iload_n 1, 1) := by decide +kernel
theorem d_S_charAt_12 : decode b_S_charAt 12 = .ok (.invokestatic 495, 3) := by decide +kernel
theorem d_S_charAt_15 : decode b_S_charAt 15 = .ok (.ireturn, 1) := by decide +kernel
theorem d_S_charAt_16 : decode b_S_charAt 16 = .ok (.aload_n 0, 1) := by decide +kernel
theorem d_S_charAt_17 : decode b_S_charAt 17 = .ok (.getfield 9, 3) := by decide +kernel
theorem d_S_charAt_20 : decode b_S_charAt 20 = .ok (.iload_n 1, 1) := by decide +kernel
theorem d_S_charAt_21 : decode b_S_charAt 21 = .ok (.invokestatic 498, 3) := by decide +kernel
theorem d_S_charAt_24 : decode b_S_charAt 24 = .ok (.ireturn, 1) := by decide +kernel
theorem d_S_isLatin1_0 : decode b_S_isLatin1 0 = .ok (.getstatic 38, 3) := by decide +kernel
theorem d_S_isLatin1_3 : decode b_S_isLatin1 3 = .ok (.ifCond .eq 14, 3) := by decide +kernel
theorem d_S_isLatin1_6 : decode b_S_isLatin1 6 = .ok (.aload_n 0, 1) := by decide +kernel
theorem d_S_isLatin1_7 : decode b_S_isLatin1 7 = .ok (.getfield 15, 3) := by decide +kernel
theorem d_S_isLatin1_10 : decode b_S_isLatin1 10 = .ok (.ifCond .ne 7, 3) := by decide +kernel
theorem d_S_isLatin1_13 : decode b_S_isLatin1 13 = .ok (.iconst 1, 1) := by decide +kernel
theorem d_S_isLatin1_14 : decode b_S_isLatin1 14 = .ok (.goto 4, 3) := by decide +kernel
theorem d_S_isLatin1_17 : decode b_S_isLatin1 17 = .ok (.iconst 0, 1) := by decide +kernel
theorem d_S_isLatin1_18 : decode b_S_isLatin1 18 = .ok (.ireturn, 1) := by decide +kernel
theorem d_S1_charAt_0 : decode b_S1_charAt 0 = .ok (.iload_n 1, 1) := by decide +kernel
theorem d_S1_charAt_1 : decode b_S1_charAt 1 = .ok (.aload_n 0, 1) := by decide +kernel
theorem d_S1_charAt_2 : decode b_S1_charAt 2 = .ok (.arraylength, 1) := by decide +kernel
theorem d_S1_charAt_3 : decode b_S1_charAt 3 = .ok (.invokestatic 9, 3) := by decide +kernel
theorem d_S1_charAt_6 : decode b_S1_charAt 6 = .ok (.aload_n 0, 1) := by decide +kernel
theorem d_S1_charAt_7 : decode b_S1_charAt 7 = .ok (.iload_n 1, 1) := by decide +kernel
theorem d_S1_charAt_8 : decode b_S1_charAt 8 = .ok (.baload, 1) := by decide +kernel
theorem d_S1_charAt_9 : decode b_S1_charAt 9 = .ok (.sipush 255, 3) := by decide +kernel
theorem d_S1_charAt_12 : decode b_S1_charAt 12 = .ok (.iand, 1) := by decide +kernel
theorem d_S1_charAt_13 : decode b_S1_charAt 13 = .ok (.i2c, 1) := by decide +kernel
theorem d_S1_charAt_14 : decode b_S1_charAt 14 = .ok (.ireturn, 1) := by decide +kernel
theorem d_S_checkIndex_0 : decode b_S_checkIndex 0 = .ok (.iload_n 0, 1) := by decide +kernel
theorem d_S_checkIndex_1 : decode b_S_checkIndex 1 = .ok (.iload_n 1, 1) := by decide +kernel
theorem d_S_checkIndex_2 : decode b_S_checkIndex 2 = .ok (.getstatic 1053, 3) := by decide +kernel
theorem d_S_checkIndex_5 : decode b_S_checkIndex 5 = .ok (.invokestatic 1059, 3) := by decide +kernel
theorem d_S_checkIndex_8 : decode b_S_checkIndex 8 = .ok (.pop, 1) := by decide +kernel
theorem d_S_checkIndex_9 : decode b_S_checkIndex 9 = .ok (.return_, 1) := by decide +kernel
theorem d_Pq_checkIndex_0 : decode b_Pq_checkIndex 0 = .ok (.iload_n 0, 1) := by decide +kernel
theorem d_Pq_checkIndex_1 : decode b_Pq_checkIndex 1 = .ok (.ifCond .lt 8, 3) := by decide +kernel
theorem d_Pq_checkIndex_4 : decode b_Pq_checkIndex 4 = .ok (.iload_n 0, 1) := by decide +kernel
theorem d_Pq_checkIndex_5 : decode b_Pq_checkIndex 5 = .ok (.iload_n 1, 1) := by decide +kernel
theorem d_Pq_checkIndex_6 : decode b_Pq_checkIndex 6 = .ok (.if_icmp .lt 10, 3) := by decide +kernel
theorem d_Pq_checkIndex_9 : decode b_Pq_checkIndex 9 = .ok (.aload_n 2, 1) := by decide +kernel
theorem d_Pq_checkIndex_10 : decode b_Pq_checkIndex 10 = .ok (.iload_n 0, 1) := by decide +kernel
theorem d_Pq_checkIndex_11 : decode b_Pq_checkIndex 11 = .ok (.iload_n 1, 1) := by decide +kernel
theorem d_Pq_checkIndex_12 : decode b_Pq_checkIndex 12 = .ok (.invokestatic 95, 3) := by decide +kernel
theorem d_Pq_checkIndex_15 : decode b_Pq_checkIndex 15 = .ok (.athrow, 1) := by decide +kernel
theorem d_Pq_checkIndex_16 : decode b_Pq_checkIndex 16 = .ok (.iload_n 0, 1) := by decide +kernel
theorem d_Pq_checkIndex_17 : decode b_Pq_checkIndex 17 = .ok (.ireturn, 1) := by decide +kernel
theorem d_K_partOf_0 : decode b_K_partOf 0 = .ok (.iload_n 0, 1) := by decide +kernel
theorem d_K_partOf_1 : decode b_K_partOf 1 = .ok (.bipush 65, 2) := by decide +kernel
theorem d_K_partOf_3 : decode b_K_partOf 3 = .ok (.if_icmp .lt 12, 3) := by decide +kernel
theorem d_K_partOf_6 : decode b_K_partOf 6 = .ok (.iload_n 0, 1) := by decide +kernel
theorem d_K_partOf_7 : decode b_K_partOf 7 = .ok (.bipush 85, 2) := by decide +kernel
theorem d_K_partOf_9 : decode b_K_partOf 9 = .ok (.if_icmp .gt 6, 3) := by decide +kernel
theorem d_K_partOf_12 : decode b_K_partOf 12 = .ok (.bipush 8, 2) := by decide +kernel
theorem d_K_partOf_14 : decode b_K_partOf 14 = .ok (.ireturn, 1) := by decide +kernel
theorem d_K_partOf_15 : decode b_K_partOf 15 = .ok (.iload_n 0, 1) := by decide +kernel
theorem d_K_partOf_16 : decode b_K_partOf 16 = .ok (.bipush 100, 2) := by decide +kernel
theorem d_K_partOf_18 : decode b_K_partOf 18 = .ok (.if_icmp .ne 5, 3) := by decide +kernel
theorem d_K_partOf_21 : decode b_K_partOf 21 = .ok (.iconst 1, 1) := by decide +kernel
theorem d_K_partOf_22 : decode b_K_partOf 22 = .ok (.ireturn, 1) := by decide +kernel
theorem d_K_partOf_23 : decode b_K_partOf 23 = .ok (.iload_n 0, 1) := by decide +kernel
theorem d_K_partOf_24 : decode b_K_partOf 24 = .ok (.bipush 97, 2) := by decide +kernel
theorem d_K_partOf_26 : decode b_K_partOf 26 = .ok (.if_icmp .ne 5, 3) := by decide +kernel
theorem d_K_partOf_29 : decode b_K_partOf 29 = .ok (.iconst 2, 1) := by decide +kernel
theorem d_K_partOf_30 : decode b_K_partOf 30 = .ok (.ireturn, 1) := by decide +kernel
theorem d_K_partOf_31 : decode b_K_partOf 31 = .ok (.iload_n 0, 1) := by decide +kernel
theorem d_K_partOf_32 : decode b_K_partOf 32 = .ok (.bipush 98, 2) := by decide +kernel
theorem d_K_partOf_34 : decode b_K_partOf 34 = .ok (.if_icmp .ne 7, 3) := by decide +kernel
theorem d_K_partOf_37 : decode b_K_partOf 37 = .ok (.iconst 4, 1) := by decide +kernel
theorem d_K_partOf_38 : decode b_K_partOf 38 = .ok (.goto 4, 3) := by decide +kernel
theorem d_K_partOf_41 : decode b_K_partOf 41 = .ok (.iconst 0, 1) := by decide +kernel
theorem d_K_partOf_42 : decode b_K_partOf 42 = .ok (.ireturn, 1) := by decide +kernel
theorem d_K_immediate_0 : decode b_K_immediate 0 = .ok (.aload_n 0, 1) := by decide +kernel
theorem d_K_immediate_1 : decode b_K_immediate 1 = .ok (.bipush 8, 2) := by decide +kernel
theorem d_K_immediate_3 : decode b_K_immediate 3 = .ok (.invokevirtual 344, 3) := by decide +kernel
theorem d_K_immediate_6 : decode b_K_immediate 6 = .ok (.ifCond .ne 5, 3) := by decide +kernel
theorem d_K_immediate_9 : decode b_K_immediate 9 = .ok (.iconst 0, 1) := by decide +kernel
theorem d_K_immediate_10 : decode b_K_immediate 10 = .ok (.ireturn, 1) := by decide +kernel
theorem d_K_immediate_11 : decode b_K_immediate 11 = .ok (.iconst 0, 1) := by decide +kernel
theorem d_K_immediate_12 : decode b_K_immediate 12 = .ok (.istore_n 2, 1) := by decide +kernel
theorem d_K_immediate_13 : decode b_K_immediate 13 = .ok (.iconst 0, 1) := by decide +kernel
theorem d_K_immediate_14 : decode b_K_immediate 14 = .ok (.istore_n 3, 1) := by decide +kernel
theorem d_K_immediate_15 : decode b_K_immediate 15 = .ok (.iload_n 3, 1) := by decide +kernel
theorem d_K_immediate_16 : decode b_K_immediate 16 = .ok (.aload_n 0, 1) := by decide +kernel
theorem d_K_immediate_17 : decode b_K_immediate 17 = .ok (.getfield 259, 3) := by decide +kernel
theorem d_K_immediate_20 : decode b_K_immediate 20 = .ok (.invokevirtual 275, 3) := by decide +kernel
theorem d_K_immediate_23 : decode b_K_immediate 23 = .ok (.if_icmp .ge 53, 3) := by decide +kernel
theorem d_K_immediate_26 : decode b_K_immediate 26 = .ok (.aload_n 0, 1) := by decide +kernel
theorem d_K_immediate_27 : decode b_K_immediate 27 = .ok (.getfield 259, 3) := by decide +kernel
theorem d_K_immediate_30 : decode b_K_immediate 30 = .ok (.iload_n 3, 1) := by decide +kernel
theorem d_K_immediate_31 : decode b_K_immediate 31 = .ok (.invokevirtual 281, 3) := by decide +kernel
theorem d_K_immediate_34 : decode b_K_immediate 34 = .ok (.istore 4, 2) := by decide +kernel
theorem d_K_immediate_36 : decode b_K_immediate 36 = .ok (.iload 4, 2) := by decide +kernel
theorem d_K_immediate_38 : decode b_K_immediate 38 = .ok (.invokestatic 285, 3) := by decide +kernel
theorem d_K_immediate_41 : decode b_K_immediate 41 = .ok (.bipush 8, 2) := by decide +kernel
theorem d_K_immediate_43 : decode b_K_immediate 43 = .ok (.if_icmp .ne 27, 3) := by decide +kernel
theorem d_K_immediate_46 : decode b_K_immediate 46 = .ok (.iload_n 2, 1) := by decide +kernel
theorem d_K_immediate_47 : decode b_K_immediate 47 = .ok (.iload_n 1, 1) := by decide +kernel
theorem d_K_immediate_48 : decode b_K_immediate 48 = .ok (.aload_n 0, 1) := by decide +kernel
theorem d_K_immediate_49 : decode b_K_immediate 49 = .ok (.getfield 259, 3) := by decide +kernel
theorem d_K_immediate_52 : decode b_K_immediate 52 = .ok (.invokevirtual 275, 3) := by decide +kernel
theorem d_K_immediate_55 : decode b_K_immediate 55 = .ok (.iconst 1, 1) := by decide +kernel
theorem d_K_immediate_56 : decode b_K_immediate 56 = .ok (.isub, 1) := by decide +kernel
theorem d_K_immediate_57 : decode b_K_immediate 57 = .ok (.iload_n 3, 1) := by decide +kernel
theorem d_K_immediate_58 : decode b_K_immediate 58 = .ok (.isub, 1) := by decide +kernel
theorem d_K_immediate_59 : decode b_K_immediate 59 = .ok (.iushr, 1) := by decide +kernel
theorem d_K_immediate_60 : decode b_K_immediate 60 = .ok (.iconst 1, 1) := by decide +kernel
theorem d_K_immediate_61 : decode b_K_immediate 61 = .ok (.iand, 1) := by decide +kernel
theorem d_K_immediate_62 : decode b_K_immediate 62 = .ok (.iload 4, 2) := by decide +kernel
theorem d_K_immediate_64 : decode b_K_immediate 64 = .ok (.bipush 65, 2) := by decide +kernel
theorem d_K_immediate_66 : decode b_K_immediate 66 = .ok (.isub, 1) := by decide +kernel
theorem d_K_immediate_67 : decode b_K_immediate 67 = .ok (.ishl, 1) := by decide +kernel
theorem d_K_immediate_68 : decode b_K_immediate 68 = .ok (.ior, 1) := by decide +kernel
theorem d_K_immediate_69 : decode b_K_immediate 69 = .ok (.istore_n 2, 1) := by decide +kernel
theorem d_K_immediate_70 : decode b_K_immediate 70 = .ok (.iinc 3 1, 3) := by decide +kernel
theorem d_K_immediate_73 : decode b_K_immediate 73 = .ok (.goto (-58), 3) := by decide +kernel
theorem d_K_immediate_76 : decode b_K_immediate 76 = .ok (.aload_n 0, 1) := by decide +kernel
theorem d_K_immediate_77 : decode b_K_immediate 77 = .ok (.bipush 32, 2) := by decide +kernel
theorem d_K_immediate_79 : decode b_K_immediate 79 = .ok (.invokevirtual 355, 3) := by decide +kernel
theorem d_K_immediate_82 : decode b_K_immediate 82 = .ok (.ifCond .eq 23, 3) := by decide +kernel
theorem d_K_immediate_85 : decode b_K_immediate 85 = .ok (.iload_n 2, 1) := by decide +kernel
theorem d_K_immediate_86 : decode b_K_immediate 86 = .ok (.aload_n 0, 1) := by decide +kernel
theorem d_K_immediate_87 : decode b_K_immediate 87 = .ok (.getfield 323, 3) := by decide +kernel
theorem d_K_immediate_90 : decode b_K_immediate 90 = .ok (.ishr, 1) := by decide +kernel
theorem d_K_immediate_91 : decode b_K_immediate 91 = .ok (.iconst 1, 1) := by decide +kernel
theorem d_K_immediate_92 : decode b_K_immediate 92 = .ok (.iand, 1) := by decide +kernel
theorem d_K_immediate_93 : decode b_K_immediate 93 = .ok (.ifCond .eq 12, 3) := by decide +kernel
theorem d_K_immediate_96 : decode b_K_immediate 96 = .ok (.iload_n 2, 1) := by decide +kernel
theorem d_K_immediate_97 : decode b_K_immediate 97 = .ok (.iconst 2, 1) := by decide +kernel
theorem d_K_immediate_98 : decode b_K_immediate 98 = .ok (.aload_n 0, 1) := by decide +kernel
theorem d_K_immediate_99 : decode b_K_immediate 99 = .ok (.getfield 323, 3) := by decide +kernel
theorem d_K_immediate_102 : decode b_K_immediate 102 = .ok (.ishl, 1) := by decide +kernel
theorem d_K_immediate_103 : decode b_K_immediate 103 = .ok (.isub, 1) := by decide +kernel
theorem d_K_immediate_104 : decode b_K_immediate 104 = .ok (.istore_n 2, 1) := by decide +kernel
theorem d_K_immediate_105 : decode b_K_immediate 105 = .ok (.aload_n 0, 1) := by decide +kernel
theorem d_K_immediate_106 : decode b_K_immediate 106 = .ok (.sipush 256, 3) := by decide +kernel
theorem d_K_immediate_109 : decode b_K_immediate 109 = .ok (.invokevirtual 355, 3) := by decide +kernel
theorem d_K_immediate_112 : decode b_K_immediate 112 = .ok (.ifCond .eq 11, 3) := by decide +kernel
theorem d_K_immediate_115 : decode b_K_immediate 115 = .ok (.iload_n 2, 1) := by decide +kernel
theorem d_K_immediate_116 : decode b_K_immediate 116 = .ok (.ldc_w 364, 3) := by decide +kernel
theorem d_K_immediate_119 : decode b_K_immediate 119 = .ok (.iand, 1) := by decide +kernel
theorem d_K_immediate_120 : decode b_K_immediate 120 = .ok (.goto 4, 3) := by decide +kernel
theorem d_K_immediate_123 : decode b_K_immediate 123 = .ok (.iload_n 2, 1) := by decide +kernel
theorem d_K_immediate_124 : decode b_K_immediate 124 = .ok (.ireturn, 1) := by decide +kernel
theorem d_K_is_0 : decode b_K_is 0 = .ok (.aload_n 0, 1) := by decide +kernel
theorem d_K_is_1 : decode b_K_is 1 = .ok (.getfield 272, 3) := by decide +kernel
theorem d_K_is_4 : decode b_K_is 4 = .ok (.iload_n 1, 1) := by decide +kernel
theorem d_K_is_5 : decode b_K_is 5 = .ok (.iand, 1) := by decide +kernel
theorem d_K_is_6 : decode b_K_is 6 = .ok (.ifCond .eq 7, 3) := by decide +kernel
theorem d_K_is_9 : decode b_K_is 9 = .ok (.iconst 1, 1) := by decide +kernel
theorem d_K_is_10 : decode b_K_is 10 = .ok (.goto 4, 3) := by decide +kernel
theorem d_K_is_13 : decode b_K_is 13 = .ok (.iconst 0, 1) := by decide +kernel
theorem d_K_is_14 : decode b_K_is 14 = .ok (.ireturn, 1) := by decide +kernel
theorem d_K_allows_0 : decode b_K_allows 0 = .ok (.aload_n 0, 1) := by decide +kernel
theorem d_K_allows_1 : decode b_K_allows 1 = .ok (.iconst 1, 1) := by decide +kernel
theorem d_K_allows_2 : decode b_K_allows 2 = .ok (.iload_n 1, 1) := by decide +kernel
theorem d_K_allows_3 : decode b_K_allows 3 = .ok (.invokevirtual 340, 3) := by decide +kernel
theorem d_K_allows_6 : decode b_K_allows 6 = .ok (.ifCond .eq 44, 3) := by decide +kernel
theorem d_K_allows_9 : decode b_K_allows 9 = .ok (.aload_n 0, 1) := by decide +kernel
theorem d_K_allows_10 : decode b_K_allows 10 = .ok (.iconst 2, 1) := by decide +kernel
theorem d_K_allows_11 : decode b_K_allows 11 = .ok (.iload_n 2, 1) := by decide +kernel
theorem d_K_allows_12 : decode b_K_allows 12 = .ok (.invokevirtual 340, 3) := by decide +kernel
theorem d_K_allows_15 : decode b_K_allows 15 = .ok (.ifCond .eq 35, 3) := by decide +kernel
theorem d_K_allows_18 : decode b_K_allows 18 = .ok (.aload_n 0, 1) := by decide +kernel
theorem d_K_allows_19 : decode b_K_allows 19 = .ok (.iconst 4, 1) := by decide +kernel
theorem d_K_allows_20 : decode b_K_allows 20 = .ok (.iload_n 3, 1) := by decide +kernel
theorem d_K_allows_21 : decode b_K_allows 21 = .ok (.invokevirtual 340, 3) := by decide +kernel
theorem d_K_allows_24 : decode b_K_allows 24 = .ok (.ifCond .eq 26, 3) := by decide +kernel
theorem d_K_allows_27 : decode b_K_allows 27 = .ok (.aload_n 0, 1) := by decide +kernel
theorem d_K_allows_28 : decode b_K_allows 28 = .ok (.bipush 8, 2) := by decide +kernel
theorem d_K_allows_30 : decode b_K_allows 30 = .ok (.invokevirtual 344, 3) := by decide +kernel
theorem d_K_allows_33 : decode b_K_allows 33 = .ok (.ifCond .eq 13, 3) := by decide +kernel
theorem d_K_allows_36 : decode b_K_allows 36 = .ok (.aload_n 0, 1) := by decide +kernel
theorem d_K_allows_37 : decode b_K_allows 37 = .ok (.iload 4, 2) := by decide +kernel
theorem d_K_allows_39 : decode b_K_allows 39 = .ok (.i2l, 1) := by decide +kernel
theorem d_K_allows_40 : decode b_K_allows 40 = .ok (.invokevirtual 348, 3) := by decide +kernel
theorem d_K_allows_43 : decode b_K_allows 43 = .ok (.ifCond .eq 7, 3) := by decide +kernel
theorem d_K_allows_46 : decode b_K_allows 46 = .ok (.iconst 1, 1) := by decide +kernel
theorem d_K_allows_47 : decode b_K_allows 47 = .ok (.goto 4, 3) := by decide +kernel
theorem d_K_allows_50 : decode b_K_allows 50 = .ok (.iconst 0, 1) := by decide +kernel
theorem d_K_allows_51 : decode b_K_allows 51 = .ok (.ireturn, 1) := by decide +kernel
theorem d_K_allowsRegister_0 : decode b_K_allowsRegister 0 = .ok (.aload_n 0, 1) := by decide +kernel
theorem d_K_allowsRegister_1 : decode b_K_allowsRegister 1 = .ok (.iload_n 1, 1) := by decide +kernel
theorem d_K_allowsRegister_2 : decode b_K_allowsRegister 2 = .ok (.invokevirtual 344, 3) := by decide +kernel
theorem d_K_allowsRegister_5 : decode b_K_allowsRegister 5 = .ok (.ifCond .ne 5, 3) := by decide +kernel
theorem d_K_allowsRegister_8 : decode b_K_allowsRegister 8 = .ok (.iconst 1, 1) := by decide +kernel
theorem d_K_allowsRegister_9 : decode b_K_allowsRegister 9 = .ok (.ireturn, 1) := by decide +kernel
theorem d_K_allowsRegister_10 : decode b_K_allowsRegister 10 = .ok (.aload_n 0, 1) := by decide +kernel
theorem d_K_allowsRegister_11 : decode b_K_allowsRegister 11 = .ok (.iload_n 1, 1) := by decide +kernel
theorem d_K_allowsRegister_12 : decode b_K_allowsRegister 12 = .ok (.invokevirtual 352, 3) := by decide +kernel
theorem d_K_allowsRegister_15 : decode b_K_allowsRegister 15 = .ok (.ifCond .eq 21, 3) := by decide +kernel
theorem d_K_allowsRegister_18 : decode b_K_allowsRegister 18 = .ok (.iload_n 2, 1) := by decide +kernel
theorem d_K_allowsRegister_19 : decode b_K_allowsRegister 19 = .ok (.bipush 8, 2) := by decide +kernel
theorem d_K_allowsRegister_21 : decode b_K_allowsRegister 21 = .ok (.if_icmp .lt 13, 3) := by decide +kernel
theorem d_K_allowsRegister_24 : decode b_K_allowsRegister 24 = .ok (.iload_n 2, 1) := by decide +kernel
theorem d_K_allowsRegister_25 : decode b_K_allowsRegister 25 = .ok (.bipush 15, 2) := by decide +kernel
theorem d_K_allowsRegister_27 : decode b_K_allowsRegister 27 = .ok (.if_icmp .gt 7, 3) := by decide +kernel
theorem d_K_allowsRegister_30 : decode b_K_allowsRegister 30 = .ok (.iconst 1, 1) := by decide +kernel
theorem d_K_allowsRegister_31 : decode b_K_allowsRegister 31 = .ok (.goto 4, 3) := by decide +kernel
theorem d_K_allowsRegister_34 : decode b_K_allowsRegister 34 = .ok (.iconst 0, 1) := by decide +kernel
theorem d_K_allowsRegister_35 : decode b_K_allowsRegister 35 = .ok (.ireturn, 1) := by decide +kernel
theorem d_K_allowsRegister_36 : decode b_K_allowsRegister 36 = .ok (.iload_n 2, 1) := by decide +kernel
theorem d_K_allowsRegister_37 : decode b_K_allowsRegister 37 = .ok (.ifCond .ne 31, 3) := by decide +kernel
theorem d_K_allowsRegister_40 : decode b_K_allowsRegister 40 = .ok (.aload_n 0, 1) := by decide +kernel
theorem d_K_allowsRegister_41 : decode b_K_allowsRegister 41 = .ok (.getfield 259, 3) := by decide +kernel
theorem d_K_allowsRegister_44 : decode b_K_allowsRegister 44 = .ok (.invokevirtual 275, 3) := by decide +kernel
theorem d_K_allowsRegister_47 : decode b_K_allowsRegister 47 = .ok (.bipush 32, 2) := by decide +kernel
theorem d_K_allowsRegister_49 : decode b_K_allowsRegister 49 = .ok (.if_icmp .eq 13, 3) := by decide +kernel
theorem d_K_allowsRegister_52 : decode b_K_allowsRegister 52 = .ok (.aload_n 0, 1) := by decide +kernel
theorem d_K_allowsRegister_53 : decode b_K_allowsRegister 53 = .ok (.sipush 128, 3) := by decide +kernel
theorem d_K_allowsRegister_56 : decode b_K_allowsRegister 56 = .ok (.invokevirtual 355, 3) := by decide +kernel
theorem d_K_allowsRegister_59 : decode b_K_allowsRegister 59 = .ok (.ifCond .eq 7, 3) := by decide +kernel
theorem d_K_allowsRegister_62 : decode b_K_allowsRegister 62 = .ok (.iconst 1, 1) := by decide +kernel
theorem d_K_allowsRegister_63 : decode b_K_allowsRegister 63 = .ok (.goto 4, 3) := by decide +kernel
theorem d_K_allowsRegister_66 : decode b_K_allowsRegister 66 = .ok (.iconst 0, 1) := by decide +kernel
theorem d_K_allowsRegister_67 : decode b_K_allowsRegister 67 = .ok (.ireturn, 1) := by decide +kernel
theorem d_K_allowsRegister_68 : decode b_K_allowsRegister 68 = .ok (.iload_n 2, 1) := by decide +kernel
theorem d_K_allowsRegister_69 : decode b_K_allowsRegister 69 = .ok (.iconst 2, 1) := by decide +kernel
theorem d_K_allowsRegister_70 : decode b_K_allowsRegister 70 = .ok (.if_icmp .ne 19, 3) := by decide +kernel
theorem d_K_allowsRegister_73 : decode b_K_allowsRegister 73 = .ok (.aload_n 0, 1) := by decide +kernel
theorem d_K_allowsRegister_74 : decode b_K_allowsRegister 74 = .ok (.sipush 256, 3) := by decide +kernel
theorem d_K_allowsRegister_77 : decode b_K_allowsRegister 77 = .ok (.invokevirtual 355, 3) := by decide +kernel
theorem d_K_allowsRegister_80 : decode b_K_allowsRegister 80 = .ok (.ifCond .ne 7, 3) := by decide +kernel
theorem d_K_allowsRegister_83 : decode b_K_allowsRegister 83 = .ok (.iconst 1, 1) := by decide +kernel
theorem d_K_allowsRegister_84 : decode b_K_allowsRegister 84 = .ok (.goto 4, 3) := by decide +kernel
theorem d_K_allowsRegister_87 : decode b_K_allowsRegister 87 = .ok (.iconst 0, 1) := by decide +kernel
theorem d_K_allowsRegister_88 : decode b_K_allowsRegister 88 = .ok (.ireturn, 1) := by decide +kernel
theorem d_K_allowsRegister_89 : decode b_K_allowsRegister 89 = .ok (.iload_n 2, 1) := by decide +kernel
theorem d_K_allowsRegister_90 : decode b_K_allowsRegister 90 = .ok (.ifCond .le 13, 3) := by decide +kernel
theorem d_K_allowsRegister_93 : decode b_K_allowsRegister 93 = .ok (.iload_n 2, 1) := by decide +kernel
theorem d_K_allowsRegister_94 : decode b_K_allowsRegister 94 = .ok (.bipush 31, 2) := by decide +kernel
theorem d_K_allowsRegister_96 : decode b_K_allowsRegister 96 = .ok (.if_icmp .gt 7, 3) := by decide +kernel
theorem d_K_allowsRegister_99 : decode b_K_allowsRegister 99 = .ok (.iconst 1, 1) := by decide +kernel
theorem d_K_allowsRegister_100 : decode b_K_allowsRegister 100 = .ok (.goto 4, 3) := by decide +kernel
theorem d_K_allowsRegister_103 : decode b_K_allowsRegister 103 = .ok (.iconst 0, 1) := by decide +kernel
theorem d_K_allowsRegister_104 : decode b_K_allowsRegister 104 = .ok (.ireturn, 1) := by decide +kernel
theorem d_K_allowsImmediate_0 : decode b_K_allowsImmediate 0 = .ok (.aload_n 0, 1) := by decide +kernel
theorem d_K_allowsImmediate_1 : decode b_K_allowsImmediate 1 = .ok (.bipush 8, 2) := by decide +kernel
theorem d_K_allowsImmediate_3 : decode b_K_allowsImmediate 3 = .ok (.invokevirtual 344, 3) := by decide +kernel
theorem d_K_allowsImmediate_6 : decode b_K_allowsImmediate 6 = .ok (.ifCond .eq 18, 3) := by decide +kernel
theorem d_K_allowsImmediate_9 : decode b_K_allowsImmediate 9 = .ok (.aload_n 0, 1) := by decide +kernel
theorem d_K_allowsImmediate_10 : decode b_K_allowsImmediate 10 = .ok (.bipush 64, 2) := by decide +kernel
theorem d_K_allowsImmediate_12 : decode b_K_allowsImmediate 12 = .ok (.invokevirtual 355, 3) := by decide +kernel
theorem d_K_allowsImmediate_15 : decode b_K_allowsImmediate 15 = .ok (.ifCond .eq 11, 3) := by decide +kernel
theorem d_K_allowsImmediate_18 : decode b_K_allowsImmediate 18 = .ok (.lload_n 1, 1) := by decide +kernel
theorem d_K_allowsImmediate_19 : decode b_K_allowsImmediate 19 = .ok (.lconst 0, 1) := by decide +kernel
theorem d_K_allowsImmediate_20 : decode b_K_allowsImmediate 20 = .ok (.lcmp, 1) := by decide +kernel
theorem d_K_allowsImmediate_21 : decode b_K_allowsImmediate 21 = .ok (.ifCond .ne 5, 3) := by decide +kernel
theorem d_K_allowsImmediate_24 : decode b_K_allowsImmediate 24 = .ok (.iconst 0, 1) := by decide +kernel
theorem d_K_allowsImmediate_25 : decode b_K_allowsImmediate 25 = .ok (.ireturn, 1) := by decide +kernel
theorem d_K_allowsImmediate_26 : decode b_K_allowsImmediate 26 = .ok (.aload_n 0, 1) := by decide +kernel
theorem d_K_allowsImmediate_27 : decode b_K_allowsImmediate 27 = .ok (.sipush 256, 3) := by decide +kernel
theorem d_K_allowsImmediate_30 : decode b_K_allowsImmediate 30 = .ok (.invokevirtual 355, 3) := by decide +kernel
theorem d_K_allowsImmediate_33 : decode b_K_allowsImmediate 33 = .ok (.ifCond .eq 19, 3) := by decide +kernel
theorem d_K_allowsImmediate_36 : decode b_K_allowsImmediate 36 = .ok (.lload_n 1, 1) := by decide +kernel
theorem d_K_allowsImmediate_37 : decode b_K_allowsImmediate 37 = .ok (.lconst 0, 1) := by decide +kernel
theorem d_K_allowsImmediate_38 : decode b_K_allowsImmediate 38 = .ok (.lcmp, 1) := by decide +kernel
theorem d_K_allowsImmediate_39 : decode b_K_allowsImmediate 39 = .ok (.ifCond .lt 11, 3) := by decide +kernel
theorem d_K_allowsImmediate_42 : decode b_K_allowsImmediate 42 = .ok (.lload_n 1, 1) := by decide +kernel
theorem d_K_allowsImmediate_43 : decode b_K_allowsImmediate 43 = .ok (.ldc2_w 358, 3) := by decide +kernel
theorem d_K_allowsImmediate_46 : decode b_K_allowsImmediate 46 = .ok (.lcmp, 1) := by decide +kernel
theorem d_K_allowsImmediate_47 : decode b_K_allowsImmediate 47 = .ok (.ifCond .lt 5, 3) := by decide +kernel
theorem d_K_allowsImmediate_50 : decode b_K_allowsImmediate 50 = .ok (.iconst 0, 1) := by decide +kernel
theorem d_K_allowsImmediate_51 : decode b_K_allowsImmediate 51 = .ok (.ireturn, 1) := by decide +kernel
theorem d_K_allowsImmediate_52 : decode b_K_allowsImmediate 52 = .ok (.aload_n 0, 1) := by decide +kernel
theorem d_K_allowsImmediate_53 : decode b_K_allowsImmediate 53 = .ok (.sipush 256, 3) := by decide +kernel
theorem d_K_allowsImmediate_56 : decode b_K_allowsImmediate 56 = .ok (.invokevirtual 355, 3) := by decide +kernel
theorem d_K_allowsImmediate_59 : decode b_K_allowsImmediate 59 = .ok (.ifCond .eq 19, 3) := by decide +kernel
theorem d_K_allowsImmediate_62 : decode b_K_allowsImmediate 62 = .ok (.lload_n 1, 1) := by decide +kernel
theorem d_K_allowsImmediate_63 : decode b_K_allowsImmediate 63 = .ok (.ldc2_w 360, 3) := by decide +kernel
theorem d_K_allowsImmediate_66 : decode b_K_allowsImmediate 66 = .ok (.lcmp, 1) := by decide +kernel
theorem d_K_allowsImmediate_67 : decode b_K_allowsImmediate 67 = .ok (.ifCond .lt 11, 3) := by decide +kernel
theorem d_K_allowsImmediate_70 : decode b_K_allowsImmediate 70 = .ok (.lload_n 1, 1) := by decide +kernel
theorem d_K_allowsImmediate_71 : decode b_K_allowsImmediate 71 = .ok (.ldc2_w 358, 3) := by decide +kernel
theorem d_K_allowsImmediate_74 : decode b_K_allowsImmediate 74 = .ok (.lsub, 1) := by decide +kernel
theorem d_K_allowsImmediate_75 : decode b_K_allowsImmediate 75 = .ok (.goto 4, 3) := by decide +kernel
theorem d_K_allowsImmediate_78 : decode b_K_allowsImmediate 78 = .ok (.lload_n 1, 1) := by decide +kernel
theorem d_K_allowsImmediate_79 : decode b_K_allowsImmediate 79 = .ok (.lstore_n 3, 1) := by decide +kernel
theorem d_K_allowsImmediate_80 : decode b_K_allowsImmediate 80 = .ok (.aload_n 0, 1) := by decide +kernel
theorem d_K_allowsImmediate_81 : decode b_K_allowsImmediate 81 = .ok (.bipush 32, 2) := by decide +kernel
theorem d_K_allowsImmediate_83 : decode b_K_allowsImmediate 83 = .ok (.invokevirtual 355, 3) := by decide +kernel
theorem d_K_allowsImmediate_86 : decode b_K_allowsImmediate 86 = .ok (.ifCond .eq 12, 3) := by decide +kernel
theorem d_K_allowsImmediate_89 : decode b_K_allowsImmediate 89 = .ok (.lconst 1, 1) := by decide +kernel
theorem d_K_allowsImmediate_90 : decode b_K_allowsImmediate 90 = .ok (.aload_n 0, 1) := by decide +kernel
theorem d_K_allowsImmediate_91 : decode b_K_allowsImmediate 91 = .ok (.getfield 323, 3) := by decide +kernel
theorem d_K_allowsImmediate_94 : decode b_K_allowsImmediate 94 = .ok (.lshl, 1) := by decide +kernel
theorem d_K_allowsImmediate_95 : decode b_K_allowsImmediate 95 = .ok (.goto 11, 3) := by decide +kernel
theorem d_K_allowsImmediate_98 : decode b_K_allowsImmediate 98 = .ok (.ldc2_w 362, 3) := by decide +kernel
theorem d_K_allowsImmediate_101 : decode b_K_allowsImmediate 101 = .ok (.aload_n 0, 1) := by decide +kernel
theorem d_K_allowsImmediate_102 : decode b_K_allowsImmediate 102 = .ok (.getfield 323, 3) := by decide +kernel
theorem d_K_allowsImmediate_105 : decode b_K_allowsImmediate 105 = .ok (.lshl, 1) := by decide +kernel
theorem d_K_allowsImmediate_106 : decode b_K_allowsImmediate 106 = .ok (.lstore 5, 2) := by decide +kernel
theorem d_K_allowsImmediate_108 : decode b_K_allowsImmediate 108 = .ok (.aload_n 0, 1) := by decide +kernel
theorem d_K_allowsImmediate_109 : decode b_K_allowsImmediate 109 = .ok (.bipush 32, 2) := by decide +kernel
theorem d_K_allowsImmediate_111 : decode b_K_allowsImmediate 111 = .ok (.invokevirtual 355, 3) := by decide +kernel
theorem d_K_allowsImmediate_114 : decode b_K_allowsImmediate 114 = .ok (.ifCond .eq 9, 3) := by decide +kernel
theorem d_K_allowsImmediate_117 : decode b_K_allowsImmediate 117 = .ok (.lload 5, 2) := by decide +kernel
theorem d_K_allowsImmediate_119 : decode b_K_allowsImmediate 119 = .ok (.lneg, 1) := by decide +kernel
theorem d_K_allowsImmediate_120 : decode b_K_allowsImmediate 120 = .ok (.goto 4, 3) := by decide +kernel
theorem d_K_allowsImmediate_123 : decode b_K_allowsImmediate 123 = .ok (.lconst 0, 1) := by decide +kernel
theorem d_K_allowsImmediate_124 : decode b_K_allowsImmediate 124 = .ok (.lstore 7, 2) := by decide +kernel
theorem d_K_allowsImmediate_126 : decode b_K_allowsImmediate 126 = .ok (.lload_n 3, 1) := by decide +kernel
theorem d_K_allowsImmediate_127 : decode b_K_allowsImmediate 127 = .ok (.lload 7, 2) := by decide +kernel
theorem d_K_allowsImmediate_129 : decode b_K_allowsImmediate 129 = .ok (.lcmp, 1) := by decide +kernel
theorem d_K_allowsImmediate_130 : decode b_K_allowsImmediate 130 = .ok (.ifCond .lt 29, 3) := by decide +kernel
theorem d_K_allowsImmediate_133 : decode b_K_allowsImmediate 133 = .ok (.lload_n 3, 1) := by decide +kernel
theorem d_K_allowsImmediate_134 : decode b_K_allowsImmediate 134 = .ok (.lload 5, 2) := by decide +kernel
theorem d_K_allowsImmediate_136 : decode b_K_allowsImmediate 136 = .ok (.lcmp, 1) := by decide +kernel
theorem d_K_allowsImmediate_137 : decode b_K_allowsImmediate 137 = .ok (.ifCond .ge 22, 3) := by decide +kernel
theorem d_K_allowsImmediate_140 : decode b_K_allowsImmediate 140 = .ok (.lload_n 3, 1) := by decide +kernel
theorem d_K_allowsImmediate_141 : decode b_K_allowsImmediate 141 = .ok (.lconst 1, 1) := by decide +kernel
theorem d_K_allowsImmediate_142 : decode b_K_allowsImmediate 142 = .ok (.aload_n 0, 1) := by decide +kernel
theorem d_K_allowsImmediate_143 : decode b_K_allowsImmediate 143 = .ok (.getfield 320, 3) := by decide +kernel
theorem d_K_allowsImmediate_146 : decode b_K_allowsImmediate 146 = .ok (.lshl, 1) := by decide +kernel
theorem d_K_allowsImmediate_147 : decode b_K_allowsImmediate 147 = .ok (.lconst 1, 1) := by decide +kernel
theorem d_K_allowsImmediate_148 : decode b_K_allowsImmediate 148 = .ok (.lsub, 1) := by decide +kernel
theorem d_K_allowsImmediate_149 : decode b_K_allowsImmediate 149 = .ok (.land, 1) := by decide +kernel
theorem d_K_allowsImmediate_150 : decode b_K_allowsImmediate 150 = .ok (.lconst 0, 1) := by decide +kernel
theorem d_K_allowsImmediate_151 : decode b_K_allowsImmediate 151 = .ok (.lcmp, 1) := by decide +kernel
theorem d_K_allowsImmediate_152 : decode b_K_allowsImmediate 152 = .ok (.ifCond .ne 7, 3) := by decide +kernel
theorem d_K_allowsImmediate_155 : decode b_K_allowsImmediate 155 = .ok (.iconst 1, 1) := by decide +kernel
theorem d_K_allowsImmediate_156 : decode b_K_allowsImmediate 156 = .ok (.goto 4, 3) := by decide +kernel
theorem d_K_allowsImmediate_159 : decode b_K_allowsImmediate 159 = .ok (.iconst 0, 1) := by decide +kernel
theorem d_K_allowsImmediate_160 : decode b_K_allowsImmediate 160 = .ok (.ireturn, 1) := by decide +kernel
theorem d_K_compose_0 : decode b_K_compose 0 = .ok (.aload_n 0, 1) := by decide +kernel
theorem d_K_compose_1 : decode b_K_compose 1 = .ok (.getfield 304, 3) := by decide +kernel
theorem d_K_compose_4 : decode b_K_compose 4 = .ok (.aload_n 0, 1) := by decide +kernel
theorem d_K_compose_5 : decode b_K_compose 5 = .ok (.iconst 1, 1) := by decide +kernel
theorem d_K_compose_6 : decode b_K_compose 6 = .ok (.iload_n 1, 1) := by decide +kernel
theorem d_K_compose_7 : decode b_K_compose 7 = .ok (.invokevirtual 365, 3) := by decide +kernel
theorem d_K_compose_10 : decode b_K_compose 10 = .ok (.ior, 1) := by decide +kernel
theorem d_K_compose_11 : decode b_K_compose 11 = .ok (.aload_n 0, 1) := by decide +kernel
theorem d_K_compose_12 : decode b_K_compose 12 = .ok (.iconst 2, 1) := by decide +kernel
theorem d_K_compose_13 : decode b_K_compose 13 = .ok (.iload_n 2, 1) := by decide +kernel
theorem d_K_compose_14 : decode b_K_compose 14 = .ok (.invokevirtual 365, 3) := by decide +kernel
theorem d_K_compose_17 : decode b_K_compose 17 = .ok (.ior, 1) := by decide +kernel
theorem d_K_compose_18 : decode b_K_compose 18 = .ok (.aload_n 0, 1) := by decide +kernel
theorem d_K_compose_19 : decode b_K_compose 19 = .ok (.iconst 4, 1) := by decide +kernel
theorem d_K_compose_20 : decode b_K_compose 20 = .ok (.iload_n 3, 1) := by decide +kernel
theorem d_K_compose_21 : decode b_K_compose 21 = .ok (.invokevirtual 365, 3) := by decide +kernel
theorem d_K_compose_24 : decode b_K_compose 24 = .ok (.ior, 1) := by decide +kernel
theorem d_K_compose_25 : decode b_K_compose 25 = .ok (.aload_n 0, 1) := by decide +kernel
theorem d_K_compose_26 : decode b_K_compose 26 = .ok (.iload 4, 2) := by decide +kernel
theorem d_K_compose_28 : decode b_K_compose 28 = .ok (.invokevirtual 368, 3) := by decide +kernel
theorem d_K_compose_31 : decode b_K_compose 31 = .ok (.ior, 1) := by decide +kernel
theorem d_K_compose_32 : decode b_K_compose 32 = .ok (.ireturn, 1) := by decide +kernel
theorem d_K_registerBits_0 : decode b_K_registerBits 0 = .ok (.aload_n 0, 1) := by decide +kernel
theorem d_K_registerBits_1 : decode b_K_registerBits 1 = .ok (.iload_n 1, 1) := by decide +kernel
theorem d_K_registerBits_2 : decode b_K_registerBits 2 = .ok (.invokevirtual 344, 3) := by decide +kernel
theorem d_K_registerBits_5 : decode b_K_registerBits 5 = .ok (.ifCond .ne 5, 3) := by decide +kernel
theorem d_K_registerBits_8 : decode b_K_registerBits 8 = .ok (.iconst 0, 1) := by decide +kernel
theorem d_K_registerBits_9 : decode b_K_registerBits 9 = .ok (.ireturn, 1) := by decide +kernel
theorem d_K_registerBits_10 : decode b_K_registerBits 10 = .ok (.aload_n 0, 1) := by decide +kernel
theorem d_K_registerBits_11 : decode b_K_registerBits 11 = .ok (.iload_n 1, 1) := by decide +kernel
theorem d_K_registerBits_12 : decode b_K_registerBits 12 = .ok (.invokevirtual 352, 3) := by decide +kernel
theorem d_K_registerBits_15 : decode b_K_registerBits 15 = .ok (.ifCond .eq 10, 3) := by decide +kernel
theorem d_K_registerBits_18 : decode b_K_registerBits 18 = .ok (.iload_n 2, 1) := by decide +kernel
theorem d_K_registerBits_19 : decode b_K_registerBits 19 = .ok (.bipush 7, 2) := by decide +kernel
theorem d_K_registerBits_21 : decode b_K_registerBits 21 = .ok (.iand, 1) := by decide +kernel
theorem d_K_registerBits_22 : decode b_K_registerBits 22 = .ok (.goto 7, 3) := by decide +kernel
theorem d_K_registerBits_25 : decode b_K_registerBits 25 = .ok (.iload_n 2, 1) := by decide +kernel
theorem d_K_registerBits_26 : decode b_K_registerBits 26 = .ok (.bipush 31, 2) := by decide +kernel
theorem d_K_registerBits_28 : decode b_K_registerBits 28 = .ok (.iand, 1) := by decide +kernel
theorem d_K_registerBits_29 : decode b_K_registerBits 29 = .ok (.aload_n 0, 1) := by decide +kernel
theorem d_K_registerBits_30 : decode b_K_registerBits 30 = .ok (.iload_n 1, 1) := by decide +kernel
theorem d_K_registerBits_31 : decode b_K_registerBits 31 = .ok (.invokevirtual 326, 3) := by decide +kernel
theorem d_K_registerBits_34 : decode b_K_registerBits 34 = .ok (.ishl, 1) := by decide +kernel
theorem d_K_registerBits_35 : decode b_K_registerBits 35 = .ok (.ireturn, 1) := by decide +kernel
theorem d_K_immediateBits_0 : decode b_K_immediateBits 0 = .ok (.iconst 0, 1) := by decide +kernel
theorem d_K_immediateBits_1 : decode b_K_immediateBits 1 = .ok (.istore_n 2, 1) := by decide +kernel
theorem d_K_immediateBits_2 : decode b_K_immediateBits 2 = .ok (.iconst 0, 1) := by decide +kernel
theorem d_K_immediateBits_3 : decode b_K_immediateBits 3 = .ok (.istore_n 3, 1) := by decide +kernel
theorem d_K_immediateBits_4 : decode b_K_immediateBits 4 = .ok (.aload_n 0, 1) := by decide +kernel
theorem d_K_immediateBits_5 : decode b_K_immediateBits 5 = .ok (.bipush 8, 2) := by decide +kernel
theorem d_K_immediateBits_7 : decode b_K_immediateBits 7 = .ok (.invokevirtual 344, 3) := by decide +kernel
theorem d_K_immediateBits_10 : decode b_K_immediateBits 10 = .ok (.ifCond .eq 64, 3) := by decide +kernel
theorem d_K_immediateBits_13 : decode b_K_immediateBits 13 = .ok (.iload_n 3, 1) := by decide +kernel
theorem d_K_immediateBits_14 : decode b_K_immediateBits 14 = .ok (.aload_n 0, 1) := by decide +kernel
theorem d_K_immediateBits_15 : decode b_K_immediateBits 15 = .ok (.getfield 259, 3) := by decide +kernel
theorem d_K_immediateBits_18 : decode b_K_immediateBits 18 = .ok (.invokevirtual 275, 3) := by decide +kernel
theorem d_K_immediateBits_21 : decode b_K_immediateBits 21 = .ok (.if_icmp .ge 53, 3) := by decide +kernel
theorem d_K_immediateBits_24 : decode b_K_immediateBits 24 = .ok (.aload_n 0, 1) := by decide +kernel
theorem d_K_immediateBits_25 : decode b_K_immediateBits 25 = .ok (.getfield 259, 3) := by decide +kernel
theorem d_K_immediateBits_28 : decode b_K_immediateBits 28 = .ok (.iload_n 3, 1) := by decide +kernel
theorem d_K_immediateBits_29 : decode b_K_immediateBits 29 = .ok (.invokevirtual 281, 3) := by decide +kernel
theorem d_K_immediateBits_32 : decode b_K_immediateBits 32 = .ok (.istore 4, 2) := by decide +kernel
theorem d_K_immediateBits_34 : decode b_K_immediateBits 34 = .ok (.iload 4, 2) := by decide +kernel
theorem d_K_immediateBits_36 : decode b_K_immediateBits 36 = .ok (.invokestatic 285, 3) := by decide +kernel
theorem d_K_immediateBits_39 : decode b_K_immediateBits 39 = .ok (.bipush 8, 2) := by decide +kernel
theorem d_K_immediateBits_41 : decode b_K_immediateBits 41 = .ok (.if_icmp .ne 27, 3) := by decide +kernel
theorem d_K_immediateBits_44 : decode b_K_immediateBits 44 = .ok (.iload_n 2, 1) := by decide +kernel
theorem d_K_immediateBits_45 : decode b_K_immediateBits 45 = .ok (.iload_n 1, 1) := by decide +kernel
theorem d_K_immediateBits_46 : decode b_K_immediateBits 46 = .ok (.iload 4, 2) := by decide +kernel
theorem d_K_immediateBits_48 : decode b_K_immediateBits 48 = .ok (.bipush 65, 2) := by decide +kernel
theorem d_K_immediateBits_50 : decode b_K_immediateBits 50 = .ok (.isub, 1) := by decide +kernel
theorem d_K_immediateBits_51 : decode b_K_immediateBits 51 = .ok (.ishr, 1) := by decide +kernel
theorem d_K_immediateBits_52 : decode b_K_immediateBits 52 = .ok (.iconst 1, 1) := by decide +kernel
theorem d_K_immediateBits_53 : decode b_K_immediateBits 53 = .ok (.iand, 1) := by decide +kernel
theorem d_K_immediateBits_54 : decode b_K_immediateBits 54 = .ok (.aload_n 0, 1) := by decide +kernel
theorem d_K_immediateBits_55 : decode b_K_immediateBits 55 = .ok (.getfield 259, 3) := by decide +kernel
theorem d_K_immediateBits_58 : decode b_K_immediateBits 58 = .ok (.invokevirtual 275, 3) := by decide +kernel
theorem d_K_immediateBits_61 : decode b_K_immediateBits 61 = .ok (.iconst 1, 1) := by decide +kernel
theorem d_K_immediateBits_62 : decode b_K_immediateBits 62 = .ok (.isub, 1) := by decide +kernel
theorem d_K_immediateBits_63 : decode b_K_immediateBits 63 = .ok (.iload_n 3, 1) := by decide +kernel
theorem d_K_immediateBits_64 : decode b_K_immediateBits 64 = .ok (.isub, 1) := by decide +kernel
theorem d_K_immediateBits_65 : decode b_K_immediateBits 65 = .ok (.ishl, 1) := by decide +kernel
theorem d_K_immediateBits_66 : decode b_K_immediateBits 66 = .ok (.ior, 1) := by decide +kernel
theorem d_K_immediateBits_67 : decode b_K_immediateBits 67 = .ok (.istore_n 2, 1) := by decide +kernel
theorem d_K_immediateBits_68 : decode b_K_immediateBits 68 = .ok (.iinc 3 1, 3) := by decide +kernel
theorem d_K_immediateBits_71 : decode b_K_immediateBits 71 = .ok (.goto (-67), 3) := by decide +kernel
theorem d_K_immediateBits_74 : decode b_K_immediateBits 74 = .ok (.iload_n 2, 1) := by decide +kernel
theorem d_K_immediateBits_75 : decode b_K_immediateBits 75 = .ok (.ireturn, 1) := by decide +kernel
