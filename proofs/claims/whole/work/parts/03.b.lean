theorem d_C_init_0 : decode b_C_init 0 = .ok (.aload_n 0, 1) := by decide +kernel
theorem d_C_init_1 : decode b_C_init 1 = .ok (.invokespecial 1, 3) := by decide +kernel
theorem d_C_init_4 : decode b_C_init 4 = .ok (.aload_n 0, 1) := by decide +kernel
theorem d_C_init_5 : decode b_C_init 5 = .ok (.bipush 48, 2) := by decide +kernel
theorem d_C_init_7 : decode b_C_init 7 = .ok (.newarray .char, 2) := by decide +kernel
theorem d_C_init_9 : decode b_C_init 9 = .ok (.putfield 9, 3) := by decide +kernel
theorem d_C_init_12 : decode b_C_init 12 = .ok (.aload_n 0, 1) := by decide +kernel
theorem d_C_init_13 : decode b_C_init 13 = .ok (.iconst 0, 1) := by decide +kernel
theorem d_C_init_14 : decode b_C_init 14 = .ok (.putfield 13, 3) := by decide +kernel
theorem d_C_init_17 : decode b_C_init 17 = .ok (.return_, 1) := by decide +kernel
theorem d_C_kind_0 : decode b_C_kind 0 = .ok (.iload_n 1, 1) := by decide +kernel
theorem d_C_kind_1 : decode b_C_kind 1 = .ok (.invokestatic 47, 3) := by decide +kernel
theorem d_C_kind_4 : decode b_C_kind 4 = .ok (.ireturn, 1) := by decide +kernel
theorem d_C_numberOf_0 : decode b_C_numberOf 0 = .ok (.iconst 0, 1) := by decide +kernel
theorem d_C_numberOf_1 : decode b_C_numberOf 1 = .ok (.istore_n 1, 1) := by decide +kernel
theorem d_C_numberOf_2 : decode b_C_numberOf 2 = .ok (.iload_n 1, 1) := by decide +kernel
theorem d_C_numberOf_3 : decode b_C_numberOf 3 = .ok (.getstatic 28, 3) := by decide +kernel
theorem d_C_numberOf_6 : decode b_C_numberOf 6 = .ok (.arraylength, 1) := by decide +kernel
theorem d_C_numberOf_7 : decode b_C_numberOf 7 = .ok (.if_icmp .ge 23, 3) := by decide +kernel
theorem d_C_numberOf_10 : decode b_C_numberOf 10 = .ok (.getstatic 28, 3) := by decide +kernel
theorem d_C_numberOf_13 : decode b_C_numberOf 13 = .ok (.iload_n 1, 1) := by decide +kernel
theorem d_C_numberOf_14 : decode b_C_numberOf 14 = .ok (.aaload, 1) := by decide +kernel
theorem d_C_numberOf_15 : decode b_C_numberOf 15 = .ok (.iload_n 0, 1) := by decide +kernel
theorem d_C_numberOf_16 : decode b_C_numberOf 16 = .ok (.invokevirtual 124, 3) := by decide +kernel
theorem d_C_numberOf_19 : decode b_C_numberOf 19 = .ok (.ifCond .eq 5, 3) := by decide +kernel
theorem d_C_numberOf_22 : decode b_C_numberOf 22 = .ok (.iload_n 1, 1) := by decide +kernel
theorem d_C_numberOf_23 : decode b_C_numberOf 23 = .ok (.ireturn, 1) := by decide +kernel
theorem d_C_numberOf_24 : decode b_C_numberOf 24 = .ok (.iinc 1 1, 3) := by decide +kernel
theorem d_C_numberOf_27 : decode b_C_numberOf 27 = .ok (.goto (-25), 3) := by decide +kernel
theorem d_C_numberOf_30 : decode b_C_numberOf 30 = .ok (.iconst (-1), 1) := by decide +kernel
theorem d_C_numberOf_31 : decode b_C_numberOf 31 = .ok (.ireturn, 1) := by decide +kernel
theorem d_C_size_0 : decode b_C_size 0 = .ok (.iload_n 1, 1) := by decide +kernel
theorem d_C_size_1 : decode b_C_size 1 = .ok (.invokestatic 51, 3) := by decide +kernel
theorem d_C_size_4 : decode b_C_size 4 = .ok (.ifCond .eq 7, 3) := by decide +kernel
theorem d_C_size_7 : decode b_C_size 7 = .ok (.iconst 4, 1) := by decide +kernel
theorem d_C_size_8 : decode b_C_size 8 = .ok (.goto 4, 3) := by decide +kernel
theorem d_C_size_11 : decode b_C_size 11 = .ok (.iconst 2, 1) := by decide +kernel
theorem d_C_size_12 : decode b_C_size 12 = .ok (.ireturn, 1) := by decide +kernel
theorem d_C_isLong_0 : decode b_C_isLong 0 = .ok (.iload_n 0, 1) := by decide +kernel
theorem d_C_isLong_1 : decode b_C_isLong 1 = .ok (.iconst 3, 1) := by decide +kernel
theorem d_C_isLong_2 : decode b_C_isLong 2 = .ok (.iand, 1) := by decide +kernel
theorem d_C_isLong_3 : decode b_C_isLong 3 = .ok (.iconst 3, 1) := by decide +kernel
theorem d_C_isLong_4 : decode b_C_isLong 4 = .ok (.if_icmp .ne 7, 3) := by decide +kernel
theorem d_C_isLong_7 : decode b_C_isLong 7 = .ok (.iconst 1, 1) := by decide +kernel
theorem d_C_isLong_8 : decode b_C_isLong 8 = .ok (.goto 4, 3) := by decide +kernel
theorem d_C_isLong_11 : decode b_C_isLong 11 = .ok (.iconst 0, 1) := by decide +kernel
theorem d_C_isLong_12 : decode b_C_isLong 12 = .ok (.ireturn, 1) := by decide +kernel
theorem d_C_shorter_0 : decode b_C_shorter 0 = .ok (.iload_n 1, 1) := by decide +kernel
theorem d_C_shorter_1 : decode b_C_shorter 1 = .ok (.invokestatic 47, 3) := by decide +kernel
theorem d_C_shorter_4 : decode b_C_shorter 4 = .ok (.istore_n 2, 1) := by decide +kernel
theorem d_C_shorter_5 : decode b_C_shorter 5 = .ok (.iload_n 2, 1) := by decide +kernel
theorem d_C_shorter_6 : decode b_C_shorter 6 = .ok (.iconst (-1), 1) := by decide +kernel
theorem d_C_shorter_7 : decode b_C_shorter 7 = .ok (.if_icmp .eq 10, 3) := by decide +kernel
theorem d_C_shorter_10 : decode b_C_shorter 10 = .ok (.iload_n 1, 1) := by decide +kernel
theorem d_C_shorter_11 : decode b_C_shorter 11 = .ok (.invokestatic 51, 3) := by decide +kernel
theorem d_C_shorter_14 : decode b_C_shorter 14 = .ok (.ifCond .ne 5, 3) := by decide +kernel
theorem d_C_shorter_17 : decode b_C_shorter 17 = .ok (.iconst (-1), 1) := by decide +kernel
theorem d_C_shorter_18 : decode b_C_shorter 18 = .ok (.ireturn, 1) := by decide +kernel
theorem d_C_shorter_19 : decode b_C_shorter 19 = .ok (.getstatic 28, 3) := by decide +kernel
theorem d_C_shorter_22 : decode b_C_shorter 22 = .ok (.iload_n 2, 1) := by decide +kernel
theorem d_C_shorter_23 : decode b_C_shorter 23 = .ok (.aaload, 1) := by decide +kernel
theorem d_C_shorter_24 : decode b_C_shorter 24 = .ok (.astore_n 3, 1) := by decide +kernel
theorem d_C_shorter_25 : decode b_C_shorter 25 = .ok (.aload_n 3, 1) := by decide +kernel
theorem d_C_shorter_26 : decode b_C_shorter 26 = .ok (.iload_n 1, 1) := by decide +kernel
theorem d_C_shorter_27 : decode b_C_shorter 27 = .ok (.iconst 1, 1) := by decide +kernel
theorem d_C_shorter_28 : decode b_C_shorter 28 = .ok (.invokevirtual 67, 3) := by decide +kernel
theorem d_C_shorter_31 : decode b_C_shorter 31 = .ok (.istore 4, 2) := by decide +kernel
theorem d_C_shorter_33 : decode b_C_shorter 33 = .ok (.aload_n 3, 1) := by decide +kernel
theorem d_C_shorter_34 : decode b_C_shorter 34 = .ok (.iload_n 1, 1) := by decide +kernel
theorem d_C_shorter_35 : decode b_C_shorter 35 = .ok (.iconst 2, 1) := by decide +kernel
theorem d_C_shorter_36 : decode b_C_shorter 36 = .ok (.invokevirtual 67, 3) := by decide +kernel
theorem d_C_shorter_39 : decode b_C_shorter 39 = .ok (.istore 5, 2) := by decide +kernel
theorem d_C_shorter_41 : decode b_C_shorter 41 = .ok (.aload_n 3, 1) := by decide +kernel
theorem d_C_shorter_42 : decode b_C_shorter 42 = .ok (.iload_n 1, 1) := by decide +kernel
theorem d_C_shorter_43 : decode b_C_shorter 43 = .ok (.iconst 4, 1) := by decide +kernel
theorem d_C_shorter_44 : decode b_C_shorter 44 = .ok (.invokevirtual 67, 3) := by decide +kernel
theorem d_C_shorter_47 : decode b_C_shorter 47 = .ok (.istore 6, 2) := by decide +kernel
theorem d_C_shorter_49 : decode b_C_shorter 49 = .ok (.aload_n 3, 1) := by decide +kernel
theorem d_C_shorter_50 : decode b_C_shorter 50 = .ok (.iload_n 1, 1) := by decide +kernel
theorem d_C_shorter_51 : decode b_C_shorter 51 = .ok (.invokevirtual 64, 3) := by decide +kernel
theorem d_C_shorter_54 : decode b_C_shorter 54 = .ok (.istore 7, 2) := by decide +kernel
theorem d_C_shorter_56 : decode b_C_shorter 56 = .ok (.iload_n 2, 1) := by decide +kernel
theorem d_C_shorter_57 : decode b_C_shorter 57 = .ok (.iload 4, 2) := by decide +kernel
theorem d_C_shorter_59 : decode b_C_shorter 59 = .ok (.iload 5, 2) := by decide +kernel
theorem d_C_shorter_61 : decode b_C_shorter 61 = .ok (.iload 6, 2) := by decide +kernel
theorem d_C_shorter_63 : decode b_C_shorter 63 = .ok (.iload 7, 2) := by decide +kernel
theorem d_C_shorter_65 : decode b_C_shorter 65 = .ok (.invokestatic 80, 3) := by decide +kernel
theorem d_C_shorter_68 : decode b_C_shorter 68 = .ok (.istore 8, 2) := by decide +kernel
theorem d_C_shorter_70 : decode b_C_shorter 70 = .ok (.iload 8, 2) := by decide +kernel
theorem d_C_shorter_72 : decode b_C_shorter 72 = .ok (.iconst (-1), 1) := by decide +kernel
theorem d_C_shorter_73 : decode b_C_shorter 73 = .ok (.if_icmp .ne 31, 3) := by decide +kernel
theorem d_C_shorter_76 : decode b_C_shorter 76 = .ok (.iload_n 2, 1) := by decide +kernel
theorem d_C_shorter_77 : decode b_C_shorter 77 = .ok (.invokestatic 84, 3) := by decide +kernel
theorem d_C_shorter_80 : decode b_C_shorter 80 = .ok (.ifCond .eq 24, 3) := by decide +kernel
theorem d_C_shorter_83 : decode b_C_shorter 83 = .ok (.iload 4, 2) := by decide +kernel
theorem d_C_shorter_85 : decode b_C_shorter 85 = .ok (.iload 6, 2) := by decide +kernel
theorem d_C_shorter_87 : decode b_C_shorter 87 = .ok (.if_icmp .ne 17, 3) := by decide +kernel
theorem d_C_shorter_90 : decode b_C_shorter 90 = .ok (.iload_n 2, 1) := by decide +kernel
theorem d_C_shorter_91 : decode b_C_shorter 91 = .ok (.iload 4, 2) := by decide +kernel
theorem d_C_shorter_93 : decode b_C_shorter 93 = .ok (.iload 6, 2) := by decide +kernel
theorem d_C_shorter_95 : decode b_C_shorter 95 = .ok (.iload 5, 2) := by decide +kernel
theorem d_C_shorter_97 : decode b_C_shorter 97 = .ok (.iload 7, 2) := by decide +kernel
theorem d_C_shorter_99 : decode b_C_shorter 99 = .ok (.invokestatic 80, 3) := by decide +kernel
theorem d_C_shorter_102 : decode b_C_shorter 102 = .ok (.istore 8, 2) := by decide +kernel
theorem d_C_shorter_104 : decode b_C_shorter 104 = .ok (.iload 8, 2) := by decide +kernel
theorem d_C_shorter_106 : decode b_C_shorter 106 = .ok (.iconst (-1), 1) := by decide +kernel
theorem d_C_shorter_107 : decode b_C_shorter 107 = .ok (.if_icmp .ne 37, 3) := by decide +kernel
theorem d_C_shorter_110 : decode b_C_shorter 110 = .ok (.iload_n 2, 1) := by decide +kernel
theorem d_C_shorter_111 : decode b_C_shorter 111 = .ok (.bipush 18, 2) := by decide +kernel
theorem d_C_shorter_113 : decode b_C_shorter 113 = .ok (.if_icmp .ne 31, 3) := by decide +kernel
theorem d_C_shorter_116 : decode b_C_shorter 116 = .ok (.iload 7, 2) := by decide +kernel
theorem d_C_shorter_118 : decode b_C_shorter 118 = .ok (.ifCond .ne 26, 3) := by decide +kernel
theorem d_C_shorter_121 : decode b_C_shorter 121 = .ok (.iload 4, 2) := by decide +kernel
theorem d_C_shorter_123 : decode b_C_shorter 123 = .ok (.ifCond .eq 21, 3) := by decide +kernel
theorem d_C_shorter_126 : decode b_C_shorter 126 = .ok (.iload 5, 2) := by decide +kernel
theorem d_C_shorter_128 : decode b_C_shorter 128 = .ok (.ifCond .eq 16, 3) := by decide +kernel
theorem d_C_shorter_131 : decode b_C_shorter 131 = .ok (.bipush 27, 2) := by decide +kernel
theorem d_C_shorter_133 : decode b_C_shorter 133 = .ok (.iload 4, 2) := by decide +kernel
theorem d_C_shorter_135 : decode b_C_shorter 135 = .ok (.iconst 0, 1) := by decide +kernel
theorem d_C_shorter_136 : decode b_C_shorter 136 = .ok (.iload 5, 2) := by decide +kernel
theorem d_C_shorter_138 : decode b_C_shorter 138 = .ok (.iconst 0, 1) := by decide +kernel
theorem d_C_shorter_139 : decode b_C_shorter 139 = .ok (.invokestatic 80, 3) := by decide +kernel
theorem d_C_shorter_142 : decode b_C_shorter 142 = .ok (.istore 8, 2) := by decide +kernel
theorem d_C_shorter_144 : decode b_C_shorter 144 = .ok (.iload 8, 2) := by decide +kernel
theorem d_C_shorter_146 : decode b_C_shorter 146 = .ok (.ireturn, 1) := by decide +kernel
theorem d_C_shortOf_0 : decode b_C_shortOf 0 = .ok (.iload_n 0, 1) := by decide +kernel
theorem d_C_shortOf_1 : decode b_C_shortOf 1 = .ok (.invokestatic 17, 3) := by decide +kernel
theorem d_C_shortOf_4 : decode b_C_shortOf 4 = .ok (.ifCond .ne 5, 3) := by decide +kernel
theorem d_C_shortOf_7 : decode b_C_shortOf 7 = .ok (.iconst (-1), 1) := by decide +kernel
theorem d_C_shortOf_8 : decode b_C_shortOf 8 = .ok (.ireturn, 1) := by decide +kernel
theorem d_C_shortOf_9 : decode b_C_shortOf 9 = .ok (.getstatic 28, 3) := by decide +kernel
theorem d_C_shortOf_12 : decode b_C_shortOf 12 = .ok (.iload_n 0, 1) := by decide +kernel
theorem d_C_shortOf_13 : decode b_C_shortOf 13 = .ok (.aaload, 1) := by decide +kernel
theorem d_C_shortOf_14 : decode b_C_shortOf 14 = .ok (.iload_n 1, 1) := by decide +kernel
theorem d_C_shortOf_15 : decode b_C_shortOf 15 = .ok (.iload_n 2, 1) := by decide +kernel
theorem d_C_shortOf_16 : decode b_C_shortOf 16 = .ok (.iload_n 3, 1) := by decide +kernel
theorem d_C_shortOf_17 : decode b_C_shortOf 17 = .ok (.iload 4, 2) := by decide +kernel
theorem d_C_shortOf_19 : decode b_C_shortOf 19 = .ok (.invokevirtual 43, 3) := by decide +kernel
theorem d_C_shortOf_22 : decode b_C_shortOf 22 = .ok (.istore 5, 2) := by decide +kernel
theorem d_C_shortOf_24 : decode b_C_shortOf 24 = .ok (.iconst 0, 1) := by decide +kernel
theorem d_C_shortOf_25 : decode b_C_shortOf 25 = .ok (.istore 6, 2) := by decide +kernel
theorem d_C_shortOf_27 : decode b_C_shortOf 27 = .ok (.iload 6, 2) := by decide +kernel
theorem d_C_shortOf_29 : decode b_C_shortOf 29 = .ok (.getstatic 28, 3) := by decide +kernel
theorem d_C_shortOf_32 : decode b_C_shortOf 32 = .ok (.arraylength, 1) := by decide +kernel
theorem d_C_shortOf_33 : decode b_C_shortOf 33 = .ok (.if_icmp .ge 65, 3) := by decide +kernel
theorem d_C_shortOf_36 : decode b_C_shortOf 36 = .ok (.getstatic 28, 3) := by decide +kernel
theorem d_C_shortOf_39 : decode b_C_shortOf 39 = .ok (.iload 6, 2) := by decide +kernel
theorem d_C_shortOf_41 : decode b_C_shortOf 41 = .ok (.aaload, 1) := by decide +kernel
theorem d_C_shortOf_42 : decode b_C_shortOf 42 = .ok (.astore 7, 2) := by decide +kernel
theorem d_C_shortOf_44 : decode b_C_shortOf 44 = .ok (.aload 7, 2) := by decide +kernel
theorem d_C_shortOf_46 : decode b_C_shortOf 46 = .ok (.getfield 71, 3) := by decide +kernel
theorem d_C_shortOf_49 : decode b_C_shortOf 49 = .ok (.iload_n 0, 1) := by decide +kernel
theorem d_C_shortOf_50 : decode b_C_shortOf 50 = .ok (.if_icmp .ne 42, 3) := by decide +kernel
theorem d_C_shortOf_53 : decode b_C_shortOf 53 = .ok (.aload 7, 2) := by decide +kernel
theorem d_C_shortOf_55 : decode b_C_shortOf 55 = .ok (.iload_n 1, 1) := by decide +kernel
theorem d_C_shortOf_56 : decode b_C_shortOf 56 = .ok (.iload_n 2, 1) := by decide +kernel
theorem d_C_shortOf_57 : decode b_C_shortOf 57 = .ok (.iload_n 3, 1) := by decide +kernel
theorem d_C_shortOf_58 : decode b_C_shortOf 58 = .ok (.iload 4, 2) := by decide +kernel
theorem d_C_shortOf_60 : decode b_C_shortOf 60 = .ok (.invokevirtual 32, 3) := by decide +kernel
theorem d_C_shortOf_63 : decode b_C_shortOf 63 = .ok (.ifCond .eq 29, 3) := by decide +kernel
theorem d_C_shortOf_66 : decode b_C_shortOf 66 = .ok (.aload 7, 2) := by decide +kernel
theorem d_C_shortOf_68 : decode b_C_shortOf 68 = .ok (.iload_n 1, 1) := by decide +kernel
theorem d_C_shortOf_69 : decode b_C_shortOf 69 = .ok (.iload_n 2, 1) := by decide +kernel
theorem d_C_shortOf_70 : decode b_C_shortOf 70 = .ok (.iload_n 3, 1) := by decide +kernel
theorem d_C_shortOf_71 : decode b_C_shortOf 71 = .ok (.iload 4, 2) := by decide +kernel
theorem d_C_shortOf_73 : decode b_C_shortOf 73 = .ok (.invokestatic 76, 3) := by decide +kernel
theorem d_C_shortOf_76 : decode b_C_shortOf 76 = .ok (.iload 5, 2) := by decide +kernel
theorem d_C_shortOf_78 : decode b_C_shortOf 78 = .ok (.if_icmp .ne 14, 3) := by decide +kernel
theorem d_C_shortOf_81 : decode b_C_shortOf 81 = .ok (.aload 7, 2) := by decide +kernel
theorem d_C_shortOf_83 : decode b_C_shortOf 83 = .ok (.iload_n 1, 1) := by decide +kernel
theorem d_C_shortOf_84 : decode b_C_shortOf 84 = .ok (.iload_n 2, 1) := by decide +kernel
theorem d_C_shortOf_85 : decode b_C_shortOf 85 = .ok (.iload_n 3, 1) := by decide +kernel
theorem d_C_shortOf_86 : decode b_C_shortOf 86 = .ok (.iload 4, 2) := by decide +kernel
theorem d_C_shortOf_88 : decode b_C_shortOf 88 = .ok (.invokevirtual 43, 3) := by decide +kernel
theorem d_C_shortOf_91 : decode b_C_shortOf 91 = .ok (.ireturn, 1) := by decide +kernel
theorem d_C_shortOf_92 : decode b_C_shortOf 92 = .ok (.iinc 6 1, 3) := by decide +kernel
theorem d_C_shortOf_95 : decode b_C_shortOf 95 = .ok (.goto (-68), 3) := by decide +kernel
theorem d_C_shortOf_98 : decode b_C_shortOf 98 = .ok (.iconst (-1), 1) := by decide +kernel
theorem d_C_shortOf_99 : decode b_C_shortOf 99 = .ok (.ireturn, 1) := by decide +kernel
theorem d_C_isKind_0 : decode b_C_isKind 0 = .ok (.iload_n 0, 1) := by decide +kernel
theorem d_C_isKind_1 : decode b_C_isKind 1 = .ok (.ifCond .lt 15, 3) := by decide +kernel
theorem d_C_isKind_4 : decode b_C_isKind 4 = .ok (.iload_n 0, 1) := by decide +kernel
theorem d_C_isKind_5 : decode b_C_isKind 5 = .ok (.getstatic 28, 3) := by decide +kernel
theorem d_C_isKind_8 : decode b_C_isKind 8 = .ok (.arraylength, 1) := by decide +kernel
theorem d_C_isKind_9 : decode b_C_isKind 9 = .ok (.if_icmp .ge 7, 3) := by decide +kernel
theorem d_C_isKind_12 : decode b_C_isKind 12 = .ok (.iconst 1, 1) := by decide +kernel
theorem d_C_isKind_13 : decode b_C_isKind 13 = .ok (.goto 4, 3) := by decide +kernel
theorem d_C_isKind_16 : decode b_C_isKind 16 = .ok (.iconst 0, 1) := by decide +kernel
theorem d_C_isKind_17 : decode b_C_isKind 17 = .ok (.ireturn, 1) := by decide +kernel
theorem d_C_longOf_0 : decode b_C_longOf 0 = .ok (.aload_n 0, 1) := by decide +kernel
theorem d_C_longOf_1 : decode b_C_longOf 1 = .ok (.getfield 71, 3) := by decide +kernel
theorem d_C_longOf_4 : decode b_C_longOf 4 = .ok (.invokestatic 17, 3) := by decide +kernel
theorem d_C_longOf_7 : decode b_C_longOf 7 = .ok (.ifCond .ne 5, 3) := by decide +kernel
theorem d_C_longOf_10 : decode b_C_longOf 10 = .ok (.iconst (-1), 1) := by decide +kernel
theorem d_C_longOf_11 : decode b_C_longOf 11 = .ok (.ireturn, 1) := by decide +kernel
theorem d_C_longOf_12 : decode b_C_longOf 12 = .ok (.aload_n 0, 1) := by decide +kernel
theorem d_C_longOf_13 : decode b_C_longOf 13 = .ok (.getfield 127, 3) := by decide +kernel
theorem d_C_longOf_16 : decode b_C_longOf 16 = .ok (.iconst 0, 1) := by decide +kernel
theorem d_C_longOf_17 : decode b_C_longOf 17 = .ok (.iload_n 1, 1) := by decide +kernel
theorem d_C_longOf_18 : decode b_C_longOf 18 = .ok (.iload_n 2, 1) := by decide +kernel
theorem d_C_longOf_19 : decode b_C_longOf 19 = .ok (.iload_n 3, 1) := by decide +kernel
theorem d_C_longOf_20 : decode b_C_longOf 20 = .ok (.invokestatic 130, 3) := by decide +kernel
theorem d_C_longOf_23 : decode b_C_longOf 23 = .ok (.istore 5, 2) := by decide +kernel
theorem d_C_longOf_25 : decode b_C_longOf 25 = .ok (.aload_n 0, 1) := by decide +kernel
theorem d_C_longOf_26 : decode b_C_longOf 26 = .ok (.getfield 127, 3) := by decide +kernel
theorem d_C_longOf_29 : decode b_C_longOf 29 = .ok (.iconst 1, 1) := by decide +kernel
theorem d_C_longOf_30 : decode b_C_longOf 30 = .ok (.iload_n 1, 1) := by decide +kernel
theorem d_C_longOf_31 : decode b_C_longOf 31 = .ok (.iload_n 2, 1) := by decide +kernel
theorem d_C_longOf_32 : decode b_C_longOf 32 = .ok (.iload_n 3, 1) := by decide +kernel
theorem d_C_longOf_33 : decode b_C_longOf 33 = .ok (.invokestatic 130, 3) := by decide +kernel
theorem d_C_longOf_36 : decode b_C_longOf 36 = .ok (.istore 6, 2) := by decide +kernel
theorem d_C_longOf_38 : decode b_C_longOf 38 = .ok (.aload_n 0, 1) := by decide +kernel
theorem d_C_longOf_39 : decode b_C_longOf 39 = .ok (.getfield 127, 3) := by decide +kernel
theorem d_C_longOf_42 : decode b_C_longOf 42 = .ok (.iconst 2, 1) := by decide +kernel
theorem d_C_longOf_43 : decode b_C_longOf 43 = .ok (.iload_n 1, 1) := by decide +kernel
theorem d_C_longOf_44 : decode b_C_longOf 44 = .ok (.iload_n 2, 1) := by decide +kernel
theorem d_C_longOf_45 : decode b_C_longOf 45 = .ok (.iload_n 3, 1) := by decide +kernel
theorem d_C_longOf_46 : decode b_C_longOf 46 = .ok (.invokestatic 130, 3) := by decide +kernel
theorem d_C_longOf_49 : decode b_C_longOf 49 = .ok (.istore 7, 2) := by decide +kernel
theorem d_C_longOf_51 : decode b_C_longOf 51 = .ok (.getstatic 28, 3) := by decide +kernel
theorem d_C_longOf_54 : decode b_C_longOf 54 = .ok (.aload_n 0, 1) := by decide +kernel
theorem d_C_longOf_55 : decode b_C_longOf 55 = .ok (.getfield 71, 3) := by decide +kernel
theorem d_C_longOf_58 : decode b_C_longOf 58 = .ok (.aaload, 1) := by decide +kernel
theorem d_C_longOf_59 : decode b_C_longOf 59 = .ok (.iload 5, 2) := by decide +kernel
theorem d_C_longOf_61 : decode b_C_longOf 61 = .ok (.iload 6, 2) := by decide +kernel
theorem d_C_longOf_63 : decode b_C_longOf 63 = .ok (.iload 7, 2) := by decide +kernel
theorem d_C_longOf_65 : decode b_C_longOf 65 = .ok (.aload_n 0, 1) := by decide +kernel
theorem d_C_longOf_66 : decode b_C_longOf 66 = .ok (.bipush 8, 2) := by decide +kernel
theorem d_C_longOf_68 : decode b_C_longOf 68 = .ok (.invokevirtual 59, 3) := by decide +kernel
theorem d_C_longOf_71 : decode b_C_longOf 71 = .ok (.ifCond .eq 8, 3) := by decide +kernel
theorem d_C_longOf_74 : decode b_C_longOf 74 = .ok (.iload 4, 2) := by decide +kernel
theorem d_C_longOf_76 : decode b_C_longOf 76 = .ok (.goto 4, 3) := by decide +kernel
theorem d_C_longOf_79 : decode b_C_longOf 79 = .ok (.iconst 0, 1) := by decide +kernel
theorem d_C_longOf_80 : decode b_C_longOf 80 = .ok (.invokevirtual 43, 3) := by decide +kernel
theorem d_C_longOf_83 : decode b_C_longOf 83 = .ok (.ireturn, 1) := by decide +kernel
theorem d_C_slotRegister_0 : decode b_C_slotRegister 0 = .ok (.iload_n 1, 1) := by decide +kernel
theorem d_C_slotRegister_1 : decode b_C_slotRegister 1 = .ok (.ifCond .lt 11, 3) := by decide +kernel
theorem d_C_slotRegister_4 : decode b_C_slotRegister 4 = .ok (.iload_n 1, 1) := by decide +kernel
theorem d_C_slotRegister_5 : decode b_C_slotRegister 5 = .ok (.aload_n 0, 1) := by decide +kernel
theorem d_C_slotRegister_6 : decode b_C_slotRegister 6 = .ok (.invokevirtual 118, 3) := by decide +kernel
theorem d_C_slotRegister_9 : decode b_C_slotRegister 9 = .ok (.if_icmp .lt 5, 3) := by decide +kernel
theorem d_C_slotRegister_12 : decode b_C_slotRegister 12 = .ok (.iconst 0, 1) := by decide +kernel
theorem d_C_slotRegister_13 : decode b_C_slotRegister 13 = .ok (.ireturn, 1) := by decide +kernel
theorem d_C_slotRegister_14 : decode b_C_slotRegister 14 = .ok (.aload_n 0, 1) := by decide +kernel
theorem d_C_slotRegister_15 : decode b_C_slotRegister 15 = .ok (.iload_n 1, 1) := by decide +kernel
theorem d_C_slotRegister_16 : decode b_C_slotRegister 16 = .ok (.invokevirtual 134, 3) := by decide +kernel
theorem d_C_slotRegister_19 : decode b_C_slotRegister 19 = .ok (.istore 5, 2) := by decide +kernel
theorem d_C_slotRegister_21 : decode b_C_slotRegister 21 = .ok (.iload 5, 2) := by decide +kernel
theorem d_C_slotRegister_23 : decode b_C_slotRegister 23 = .ok (.bipush 100, 2) := by decide +kernel
theorem d_C_slotRegister_25 : decode b_C_slotRegister 25 = .ok (.if_icmp .ne 5, 3) := by decide +kernel
theorem d_C_slotRegister_28 : decode b_C_slotRegister 28 = .ok (.iload_n 2, 1) := by decide +kernel
theorem d_C_slotRegister_29 : decode b_C_slotRegister 29 = .ok (.ireturn, 1) := by decide +kernel
theorem d_C_slotRegister_30 : decode b_C_slotRegister 30 = .ok (.iload 5, 2) := by decide +kernel
theorem d_C_slotRegister_32 : decode b_C_slotRegister 32 = .ok (.bipush 97, 2) := by decide +kernel
theorem d_C_slotRegister_34 : decode b_C_slotRegister 34 = .ok (.if_icmp .ne 5, 3) := by decide +kernel
theorem d_C_slotRegister_37 : decode b_C_slotRegister 37 = .ok (.iload_n 3, 1) := by decide +kernel
theorem d_C_slotRegister_38 : decode b_C_slotRegister 38 = .ok (.ireturn, 1) := by decide +kernel
theorem d_C_slotRegister_39 : decode b_C_slotRegister 39 = .ok (.iload 5, 2) := by decide +kernel
theorem d_C_slotRegister_41 : decode b_C_slotRegister 41 = .ok (.bipush 98, 2) := by decide +kernel
theorem d_C_slotRegister_43 : decode b_C_slotRegister 43 = .ok (.if_icmp .ne 6, 3) := by decide +kernel
theorem d_C_slotRegister_46 : decode b_C_slotRegister 46 = .ok (.iload 4, 2) := by decide +kernel
theorem d_C_slotRegister_48 : decode b_C_slotRegister 48 = .ok (.ireturn, 1) := by decide +kernel
theorem d_C_slotRegister_49 : decode b_C_slotRegister 49 = .ok (.iload 5, 2) := by decide +kernel
theorem d_C_slotRegister_51 : decode b_C_slotRegister 51 = .ok (.bipush 48, 2) := by decide +kernel
theorem d_C_slotRegister_53 : decode b_C_slotRegister 53 = .ok (.if_icmp .lt 18, 3) := by decide +kernel
theorem d_C_slotRegister_56 : decode b_C_slotRegister 56 = .ok (.iload 5, 2) := by decide +kernel
theorem d_C_slotRegister_58 : decode b_C_slotRegister 58 = .ok (.bipush 57, 2) := by decide +kernel
theorem d_C_slotRegister_60 : decode b_C_slotRegister 60 = .ok (.if_icmp .gt 11, 3) := by decide +kernel
theorem d_C_slotRegister_63 : decode b_C_slotRegister 63 = .ok (.iload 5, 2) := by decide +kernel
theorem d_C_slotRegister_65 : decode b_C_slotRegister 65 = .ok (.bipush 48, 2) := by decide +kernel
theorem d_C_slotRegister_67 : decode b_C_slotRegister 67 = .ok (.isub, 1) := by decide +kernel
theorem d_C_slotRegister_68 : decode b_C_slotRegister 68 = .ok (.goto 4, 3) := by decide +kernel
theorem d_C_slotRegister_71 : decode b_C_slotRegister 71 = .ok (.iconst 0, 1) := by decide +kernel
theorem d_C_slotRegister_72 : decode b_C_slotRegister 72 = .ok (.ireturn, 1) := by decide +kernel
theorem d_C_exchanges_0 : decode b_C_exchanges 0 = .ok (.iload_n 0, 1) := by decide +kernel
theorem d_C_exchanges_1 : decode b_C_exchanges 1 = .ok (.bipush 27, 2) := by decide +kernel
theorem d_C_exchanges_3 : decode b_C_exchanges 3 = .ok (.if_icmp .eq 21, 3) := by decide +kernel
theorem d_C_exchanges_6 : decode b_C_exchanges 6 = .ok (.iload_n 0, 1) := by decide +kernel
theorem d_C_exchanges_7 : decode b_C_exchanges 7 = .ok (.bipush 32, 2) := by decide +kernel
theorem d_C_exchanges_9 : decode b_C_exchanges 9 = .ok (.if_icmp .eq 15, 3) := by decide +kernel
theorem d_C_exchanges_12 : decode b_C_exchanges 12 = .ok (.iload_n 0, 1) := by decide +kernel
theorem d_C_exchanges_13 : decode b_C_exchanges 13 = .ok (.bipush 35, 2) := by decide +kernel
theorem d_C_exchanges_15 : decode b_C_exchanges 15 = .ok (.if_icmp .eq 9, 3) := by decide +kernel
theorem d_C_exchanges_18 : decode b_C_exchanges 18 = .ok (.iload_n 0, 1) := by decide +kernel
theorem d_C_exchanges_19 : decode b_C_exchanges 19 = .ok (.bipush 36, 2) := by decide +kernel
theorem d_C_exchanges_21 : decode b_C_exchanges 21 = .ok (.if_icmp .ne 7, 3) := by decide +kernel
theorem d_C_exchanges_24 : decode b_C_exchanges 24 = .ok (.iconst 1, 1) := by decide +kernel
theorem d_C_exchanges_25 : decode b_C_exchanges 25 = .ok (.goto 4, 3) := by decide +kernel
theorem d_C_exchanges_28 : decode b_C_exchanges 28 = .ok (.iconst 0, 1) := by decide +kernel
theorem d_C_exchanges_29 : decode b_C_exchanges 29 = .ok (.ireturn, 1) := by decide +kernel
theorem d_C_may_0 : decode b_C_may 0 = .ok (.iload_n 1, 1) := by decide +kernel
theorem d_C_may_1 : decode b_C_may 1 = .ok (.invokestatic 17, 3) := by decide +kernel
theorem d_C_may_4 : decode b_C_may 4 = .ok (.ifCond .eq 19, 3) := by decide +kernel
theorem d_C_may_7 : decode b_C_may 7 = .ok (.getstatic 28, 3) := by decide +kernel
theorem d_C_may_10 : decode b_C_may 10 = .ok (.iload_n 1, 1) := by decide +kernel
theorem d_C_may_11 : decode b_C_may 11 = .ok (.aaload, 1) := by decide +kernel
theorem d_C_may_12 : decode b_C_may 12 = .ok (.lload_n 2, 1) := by decide +kernel
theorem d_C_may_13 : decode b_C_may 13 = .ok (.invokevirtual 87, 3) := by decide +kernel
theorem d_C_may_16 : decode b_C_may 16 = .ok (.ifCond .eq 7, 3) := by decide +kernel
theorem d_C_may_19 : decode b_C_may 19 = .ok (.iconst 1, 1) := by decide +kernel
theorem d_C_may_20 : decode b_C_may 20 = .ok (.goto 4, 3) := by decide +kernel
theorem d_C_may_23 : decode b_C_may 23 = .ok (.iconst 0, 1) := by decide +kernel
theorem d_C_may_24 : decode b_C_may 24 = .ok (.ireturn, 1) := by decide +kernel
theorem d_C_tell_0 : decode b_C_tell 0 = .ok (.aload_n 0, 1) := by decide +kernel
theorem d_C_tell_1 : decode b_C_tell 1 = .ok (.iconst 0, 1) := by decide +kernel
theorem d_C_tell_2 : decode b_C_tell 2 = .ok (.putfield 13, 3) := by decide +kernel
theorem d_C_tell_5 : decode b_C_tell 5 = .ok (.iload_n 1, 1) := by decide +kernel
theorem d_C_tell_6 : decode b_C_tell 6 = .ok (.invokestatic 47, 3) := by decide +kernel
theorem d_C_tell_9 : decode b_C_tell 9 = .ok (.istore_n 3, 1) := by decide +kernel
theorem d_C_tell_10 : decode b_C_tell 10 = .ok (.iload_n 3, 1) := by decide +kernel
theorem d_C_tell_11 : decode b_C_tell 11 = .ok (.iconst (-1), 1) := by decide +kernel
theorem d_C_tell_12 : decode b_C_tell 12 = .ok (.if_icmp .ne 11, 3) := by decide +kernel
theorem d_C_tell_15 : decode b_C_tell 15 = .ok (.aload_n 0, 1) := by decide +kernel
theorem d_C_tell_16 : decode b_C_tell 16 = .ok (.iload_n 1, 1) := by decide +kernel
theorem d_C_tell_17 : decode b_C_tell 17 = .ok (.invokevirtual 93, 3) := by decide +kernel
theorem d_C_tell_20 : decode b_C_tell 20 = .ok (.goto 14, 3) := by decide +kernel
theorem d_C_tell_23 : decode b_C_tell 23 = .ok (.aload_n 0, 1) := by decide +kernel
theorem d_C_tell_24 : decode b_C_tell 24 = .ok (.getstatic 28, 3) := by decide +kernel
theorem d_C_tell_27 : decode b_C_tell 27 = .ok (.iload_n 3, 1) := by decide +kernel
theorem d_C_tell_28 : decode b_C_tell 28 = .ok (.aaload, 1) := by decide +kernel
theorem d_C_tell_29 : decode b_C_tell 29 = .ok (.iload_n 1, 1) := by decide +kernel
theorem d_C_tell_30 : decode b_C_tell 30 = .ok (.iload_n 2, 1) := by decide +kernel
theorem d_C_tell_31 : decode b_C_tell 31 = .ok (.invokevirtual 97, 3) := by decide +kernel
theorem d_C_tell_34 : decode b_C_tell 34 = .ok (.aload_n 0, 1) := by decide +kernel
theorem d_C_tell_35 : decode b_C_tell 35 = .ok (.getfield 13, 3) := by decide +kernel
theorem d_C_tell_38 : decode b_C_tell 38 = .ok (.ireturn, 1) := by decide +kernel
theorem d_C_writeIllegal_0 : decode b_C_writeIllegal 0 = .ok (.iload_n 1, 1) := by decide +kernel
theorem d_C_writeIllegal_1 : decode b_C_writeIllegal 1 = .ok (.invokestatic 51, 3) := by decide +kernel
theorem d_C_writeIllegal_4 : decode b_C_writeIllegal 4 = .ok (.ifCond .eq 17, 3) := by decide +kernel
theorem d_C_writeIllegal_7 : decode b_C_writeIllegal 7 = .ok (.aload_n 0, 1) := by decide +kernel
theorem d_C_writeIllegal_8 : decode b_C_writeIllegal 8 = .ok (.ldc 138, 2) := by decide +kernel
theorem d_C_writeIllegal_10 : decode b_C_writeIllegal 10 = .ok (.invokevirtual 140, 3) := by decide +kernel
theorem d_C_writeIllegal_13 : decode b_C_writeIllegal 13 = .ok (.aload_n 0, 1) := by decide +kernel
theorem d_C_writeIllegal_14 : decode b_C_writeIllegal 14 = .ok (.iload_n 1, 1) := by decide +kernel
theorem d_C_writeIllegal_15 : decode b_C_writeIllegal 15 = .ok (.invokevirtual 143, 3) := by decide +kernel
theorem d_C_writeIllegal_18 : decode b_C_writeIllegal 18 = .ok (.goto 17, 3) := by decide +kernel
theorem d_C_writeIllegal_21 : decode b_C_writeIllegal 21 = .ok (.aload_n 0, 1) := by decide +kernel
theorem d_C_writeIllegal_22 : decode b_C_writeIllegal 22 = .ok (.ldc 146, 2) := by decide +kernel
theorem d_C_writeIllegal_24 : decode b_C_writeIllegal 24 = .ok (.invokevirtual 140, 3) := by decide +kernel
theorem d_C_writeIllegal_27 : decode b_C_writeIllegal 27 = .ok (.aload_n 0, 1) := by decide +kernel
theorem d_C_writeIllegal_28 : decode b_C_writeIllegal 28 = .ok (.iload_n 1, 1) := by decide +kernel
theorem d_C_writeIllegal_29 : decode b_C_writeIllegal 29 = .ok (.ldc 148, 2) := by decide +kernel
theorem d_C_writeIllegal_31 : decode b_C_writeIllegal 31 = .ok (.iand, 1) := by decide +kernel
theorem d_C_writeIllegal_32 : decode b_C_writeIllegal 32 = .ok (.invokevirtual 143, 3) := by decide +kernel
theorem d_C_writeIllegal_35 : decode b_C_writeIllegal 35 = .ok (.return_, 1) := by decide +kernel
theorem d_C_writeString_0 : decode b_C_writeString 0 = .ok (.iconst 0, 1) := by decide +kernel
theorem d_C_writeString_1 : decode b_C_writeString 1 = .ok (.istore_n 2, 1) := by decide +kernel
theorem d_C_writeString_2 : decode b_C_writeString 2 = .ok (.iload_n 2, 1) := by decide +kernel
theorem d_C_writeString_3 : decode b_C_writeString 3 = .ok (.aload_n 1, 1) := by decide +kernel
theorem d_C_writeString_4 : decode b_C_writeString 4 = .ok (.invokevirtual 118, 3) := by decide +kernel
theorem d_C_writeString_7 : decode b_C_writeString 7 = .ok (.if_icmp .ge 18, 3) := by decide +kernel
theorem d_C_writeString_10 : decode b_C_writeString 10 = .ok (.aload_n 0, 1) := by decide +kernel
theorem d_C_writeString_11 : decode b_C_writeString 11 = .ok (.aload_n 1, 1) := by decide +kernel
theorem d_C_writeString_12 : decode b_C_writeString 12 = .ok (.iload_n 2, 1) := by decide +kernel
theorem d_C_writeString_13 : decode b_C_writeString 13 = .ok (.invokevirtual 134, 3) := by decide +kernel
theorem d_C_writeString_16 : decode b_C_writeString 16 = .ok (.invokevirtual 172, 3) := by decide +kernel
theorem d_C_writeString_19 : decode b_C_writeString 19 = .ok (.iinc 2 1, 3) := by decide +kernel
theorem d_C_writeString_22 : decode b_C_writeString 22 = .ok (.goto (-20), 3) := by decide +kernel
theorem d_C_writeString_25 : decode b_C_writeString 25 = .ok (.return_, 1) := by decide +kernel
theorem d_C_write_0 : decode b_C_write 0 = .ok (.aload_n 0, 1) := by decide +kernel
theorem d_C_write_1 : decode b_C_write 1 = .ok (.getfield 13, 3) := by decide +kernel
theorem d_C_write_4 : decode b_C_write 4 = .ok (.ifCond .lt 35, 3) := by decide +kernel
theorem d_C_write_7 : decode b_C_write 7 = .ok (.aload_n 0, 1) := by decide +kernel
theorem d_C_write_8 : decode b_C_write 8 = .ok (.getfield 13, 3) := by decide +kernel
theorem d_C_write_11 : decode b_C_write 11 = .ok (.aload_n 0, 1) := by decide +kernel
theorem d_C_write_12 : decode b_C_write 12 = .ok (.getfield 9, 3) := by decide +kernel
theorem d_C_write_15 : decode b_C_write 15 = .ok (.arraylength, 1) := by decide +kernel
theorem d_C_write_16 : decode b_C_write 16 = .ok (.if_icmp .ge 23, 3) := by decide +kernel
theorem d_C_write_19 : decode b_C_write 19 = .ok (.aload_n 0, 1) := by decide +kernel
theorem d_C_write_20 : decode b_C_write 20 = .ok (.getfield 9, 3) := by decide +kernel
theorem d_C_write_23 : decode b_C_write 23 = .ok (.aload_n 0, 1) := by decide +kernel
theorem d_C_write_24 : decode b_C_write 24 = .ok (.getfield 13, 3) := by decide +kernel
theorem d_C_write_27 : decode b_C_write 27 = .ok (.iload_n 1, 1) := by decide +kernel
theorem d_C_write_28 : decode b_C_write 28 = .ok (.castore, 1) := by decide +kernel
theorem d_C_write_29 : decode b_C_write 29 = .ok (.aload_n 0, 1) := by decide +kernel
theorem d_C_write_30 : decode b_C_write 30 = .ok (.dup, 1) := by decide +kernel
theorem d_C_write_31 : decode b_C_write 31 = .ok (.getfield 13, 3) := by decide +kernel
theorem d_C_write_34 : decode b_C_write 34 = .ok (.iconst 1, 1) := by decide +kernel
theorem d_C_write_35 : decode b_C_write 35 = .ok (.iadd, 1) := by decide +kernel
theorem d_C_write_36 : decode b_C_write 36 = .ok (.putfield 13, 3) := by decide +kernel
theorem d_C_write_39 : decode b_C_write 39 = .ok (.return_, 1) := by decide +kernel
theorem d_C_writeHex_0 : decode b_C_writeHex 0 = .ok (.aload_n 0, 1) := by decide +kernel
theorem d_C_writeHex_1 : decode b_C_writeHex 1 = .ok (.ldc 178, 2) := by decide +kernel
theorem d_C_writeHex_3 : decode b_C_writeHex 3 = .ok (.invokevirtual 140, 3) := by decide +kernel
theorem d_C_writeHex_6 : decode b_C_writeHex 6 = .ok (.bipush 28, 2) := by decide +kernel
theorem d_C_writeHex_8 : decode b_C_writeHex 8 = .ok (.istore_n 2, 1) := by decide +kernel
theorem d_C_writeHex_9 : decode b_C_writeHex 9 = .ok (.iload_n 2, 1) := by decide +kernel
theorem d_C_writeHex_10 : decode b_C_writeHex 10 = .ok (.ifCond .lt 51, 3) := by decide +kernel
theorem d_C_writeHex_13 : decode b_C_writeHex 13 = .ok (.iload_n 1, 1) := by decide +kernel
theorem d_C_writeHex_14 : decode b_C_writeHex 14 = .ok (.iload_n 2, 1) := by decide +kernel
theorem d_C_writeHex_15 : decode b_C_writeHex 15 = .ok (.iushr, 1) := by decide +kernel
theorem d_C_writeHex_16 : decode b_C_writeHex 16 = .ok (.ifCond .ne 7, 3) := by decide +kernel
theorem d_C_writeHex_19 : decode b_C_writeHex 19 = .ok (.iload_n 2, 1) := by decide +kernel
theorem d_C_writeHex_20 : decode b_C_writeHex 20 = .ok (.ifCond .ne 35, 3) := by decide +kernel
theorem d_C_writeHex_23 : decode b_C_writeHex 23 = .ok (.iload_n 1, 1) := by decide +kernel
theorem d_C_writeHex_24 : decode b_C_writeHex 24 = .ok (.iload_n 2, 1) := by decide +kernel
theorem d_C_writeHex_25 : decode b_C_writeHex 25 = .ok (.iushr, 1) := by decide +kernel
theorem d_C_writeHex_26 : decode b_C_writeHex 26 = .ok (.bipush 15, 2) := by decide +kernel
theorem d_C_writeHex_28 : decode b_C_writeHex 28 = .ok (.iand, 1) := by decide +kernel
theorem d_C_writeHex_29 : decode b_C_writeHex 29 = .ok (.istore_n 3, 1) := by decide +kernel
theorem d_C_writeHex_30 : decode b_C_writeHex 30 = .ok (.aload_n 0, 1) := by decide +kernel
theorem d_C_writeHex_31 : decode b_C_writeHex 31 = .ok (.iload_n 3, 1) := by decide +kernel
theorem d_C_writeHex_32 : decode b_C_writeHex 32 = .ok (.bipush 10, 2) := by decide +kernel
theorem d_C_writeHex_34 : decode b_C_writeHex 34 = .ok (.if_icmp .ge 10, 3) := by decide +kernel
theorem d_C_writeHex_37 : decode b_C_writeHex 37 = .ok (.bipush 48, 2) := by decide +kernel
theorem d_C_writeHex_39 : decode b_C_writeHex 39 = .ok (.iload_n 3, 1) := by decide +kernel
theorem d_C_writeHex_40 : decode b_C_writeHex 40 = .ok (.iadd, 1) := by decide +kernel
theorem d_C_writeHex_41 : decode b_C_writeHex 41 = .ok (.goto 10, 3) := by decide +kernel
theorem d_C_writeHex_44 : decode b_C_writeHex 44 = .ok (.bipush 97, 2) := by decide +kernel
theorem d_C_writeHex_46 : decode b_C_writeHex 46 = .ok (.iload_n 3, 1) := by decide +kernel
theorem d_C_writeHex_47 : decode b_C_writeHex 47 = .ok (.iadd, 1) := by decide +kernel
theorem d_C_writeHex_48 : decode b_C_writeHex 48 = .ok (.bipush 10, 2) := by decide +kernel
theorem d_C_writeHex_50 : decode b_C_writeHex 50 = .ok (.isub, 1) := by decide +kernel
theorem d_C_writeHex_51 : decode b_C_writeHex 51 = .ok (.i2c, 1) := by decide +kernel
theorem d_C_writeHex_52 : decode b_C_writeHex 52 = .ok (.invokevirtual 172, 3) := by decide +kernel
theorem d_C_writeHex_55 : decode b_C_writeHex 55 = .ok (.iinc 2 (-4), 3) := by decide +kernel
theorem d_C_writeHex_58 : decode b_C_writeHex 58 = .ok (.goto (-49), 3) := by decide +kernel
theorem d_C_writeHex_61 : decode b_C_writeHex 61 = .ok (.return_, 1) := by decide +kernel
theorem d_C_writeLegal_0 : decode b_C_writeLegal 0 = .ok (.aload_n 0, 1) := by decide +kernel
theorem d_C_writeLegal_1 : decode b_C_writeLegal 1 = .ok (.aload_n 1, 1) := by decide +kernel
theorem d_C_writeLegal_2 : decode b_C_writeLegal 2 = .ok (.getfield 101, 3) := by decide +kernel
theorem d_C_writeLegal_5 : decode b_C_writeLegal 5 = .ok (.invokevirtual 140, 3) := by decide +kernel
theorem d_C_writeLegal_8 : decode b_C_writeLegal 8 = .ok (.iconst 0, 1) := by decide +kernel
theorem d_C_writeLegal_9 : decode b_C_writeLegal 9 = .ok (.istore 4, 2) := by decide +kernel
theorem d_C_writeLegal_11 : decode b_C_writeLegal 11 = .ok (.iload 4, 2) := by decide +kernel
theorem d_C_writeLegal_13 : decode b_C_writeLegal 13 = .ok (.iconst 3, 1) := by decide +kernel
theorem d_C_writeLegal_14 : decode b_C_writeLegal 14 = .ok (.if_icmp .ge 55, 3) := by decide +kernel
theorem d_C_writeLegal_17 : decode b_C_writeLegal 17 = .ok (.aload_n 1, 1) := by decide +kernel
theorem d_C_writeLegal_18 : decode b_C_writeLegal 18 = .ok (.getfield 109, 3) := by decide +kernel
theorem d_C_writeLegal_21 : decode b_C_writeLegal 21 = .ok (.iconst 3, 1) := by decide +kernel
theorem d_C_writeLegal_22 : decode b_C_writeLegal 22 = .ok (.imul, 1) := by decide +kernel
theorem d_C_writeLegal_23 : decode b_C_writeLegal 23 = .ok (.iload 4, 2) := by decide +kernel
theorem d_C_writeLegal_25 : decode b_C_writeLegal 25 = .ok (.iadd, 1) := by decide +kernel
theorem d_C_writeLegal_26 : decode b_C_writeLegal 26 = .ok (.invokestatic 149, 3) := by decide +kernel
theorem d_C_writeLegal_29 : decode b_C_writeLegal 29 = .ok (.istore 5, 2) := by decide +kernel
theorem d_C_writeLegal_31 : decode b_C_writeLegal 31 = .ok (.iload 5, 2) := by decide +kernel
theorem d_C_writeLegal_33 : decode b_C_writeLegal 33 = .ok (.bipush 32, 2) := by decide +kernel
theorem d_C_writeLegal_35 : decode b_C_writeLegal 35 = .ok (.if_icmp .eq 28, 3) := by decide +kernel
theorem d_C_writeLegal_38 : decode b_C_writeLegal 38 = .ok (.aload_n 0, 1) := by decide +kernel
theorem d_C_writeLegal_39 : decode b_C_writeLegal 39 = .ok (.iload 4, 2) := by decide +kernel
theorem d_C_writeLegal_41 : decode b_C_writeLegal 41 = .ok (.ifCond .ne 8, 3) := by decide +kernel
theorem d_C_writeLegal_44 : decode b_C_writeLegal 44 = .ok (.ldc 152, 2) := by decide +kernel
theorem d_C_writeLegal_46 : decode b_C_writeLegal 46 = .ok (.goto 5, 3) := by decide +kernel
theorem d_C_writeLegal_49 : decode b_C_writeLegal 49 = .ok (.ldc 154, 2) := by decide +kernel
theorem d_C_writeLegal_51 : decode b_C_writeLegal 51 = .ok (.invokevirtual 140, 3) := by decide +kernel
theorem d_C_writeLegal_54 : decode b_C_writeLegal 54 = .ok (.aload_n 0, 1) := by decide +kernel
theorem d_C_writeLegal_55 : decode b_C_writeLegal 55 = .ok (.iload 5, 2) := by decide +kernel
theorem d_C_writeLegal_57 : decode b_C_writeLegal 57 = .ok (.aload_n 1, 1) := by decide +kernel
theorem d_C_writeLegal_58 : decode b_C_writeLegal 58 = .ok (.iload_n 2, 1) := by decide +kernel
theorem d_C_writeLegal_59 : decode b_C_writeLegal 59 = .ok (.iload_n 3, 1) := by decide +kernel
theorem d_C_writeLegal_60 : decode b_C_writeLegal 60 = .ok (.invokevirtual 156, 3) := by decide +kernel
theorem d_C_writeLegal_63 : decode b_C_writeLegal 63 = .ok (.iinc 4 1, 3) := by decide +kernel
theorem d_C_writeLegal_66 : decode b_C_writeLegal 66 = .ok (.goto (-55), 3) := by decide +kernel
theorem d_C_writeLegal_69 : decode b_C_writeLegal 69 = .ok (.return_, 1) := by decide +kernel
theorem d_C_operandAt_0 : decode b_C_operandAt 0 = .ok (.iload_n 0, 1) := by decide +kernel
theorem d_C_operandAt_1 : decode b_C_operandAt 1 = .ok (.ifCond .lt 21, 3) := by decide +kernel
theorem d_C_operandAt_4 : decode b_C_operandAt 4 = .ok (.iload_n 0, 1) := by decide +kernel
theorem d_C_operandAt_5 : decode b_C_operandAt 5 = .ok (.ldc 160, 2) := by decide +kernel
theorem d_C_operandAt_7 : decode b_C_operandAt 7 = .ok (.invokevirtual 118, 3) := by decide +kernel
theorem d_C_operandAt_10 : decode b_C_operandAt 10 = .ok (.if_icmp .ge 12, 3) := by decide +kernel
theorem d_C_operandAt_13 : decode b_C_operandAt 13 = .ok (.ldc 160, 2) := by decide +kernel
theorem d_C_operandAt_15 : decode b_C_operandAt 15 = .ok (.iload_n 0, 1) := by decide +kernel
theorem d_C_operandAt_16 : decode b_C_operandAt 16 = .ok (.invokevirtual 134, 3) := by decide +kernel
theorem d_C_operandAt_19 : decode b_C_operandAt 19 = .ok (.goto 5, 3) := by decide +kernel
theorem d_C_operandAt_22 : decode b_C_operandAt 22 = .ok (.bipush 32, 2) := by decide +kernel
theorem d_C_operandAt_24 : decode b_C_operandAt 24 = .ok (.ireturn, 1) := by decide +kernel
theorem d_C_writeOperand_0 : decode b_C_writeOperand 0 = .ok (.iload_n 1, 1) := by decide +kernel
theorem d_C_writeOperand_1 : decode b_C_writeOperand 1 = .ok (.lookupswitch 180 #[(73, 122), (79, 134), (80, 165), (83, 152), (97, 88), (98, 101), (100, 75), (115, 114)], 75) := by decide +kernel
theorem d_C_writeOperand_76 : decode b_C_writeOperand 76 = .ok (.aload_n 0, 1) := by decide +kernel
theorem d_C_writeOperand_77 : decode b_C_writeOperand 77 = .ok (.aload_n 2, 1) := by decide +kernel
theorem d_C_writeOperand_78 : decode b_C_writeOperand 78 = .ok (.iload_n 3, 1) := by decide +kernel
theorem d_C_writeOperand_79 : decode b_C_writeOperand 79 = .ok (.iconst 1, 1) := by decide +kernel
theorem d_C_writeOperand_80 : decode b_C_writeOperand 80 = .ok (.invokevirtual 67, 3) := by decide +kernel
theorem d_C_writeOperand_83 : decode b_C_writeOperand 83 = .ok (.invokevirtual 162, 3) := by decide +kernel
theorem d_C_writeOperand_86 : decode b_C_writeOperand 86 = .ok (.goto 104, 3) := by decide +kernel
theorem d_C_writeOperand_89 : decode b_C_writeOperand 89 = .ok (.aload_n 0, 1) := by decide +kernel
theorem d_C_writeOperand_90 : decode b_C_writeOperand 90 = .ok (.aload_n 2, 1) := by decide +kernel
theorem d_C_writeOperand_91 : decode b_C_writeOperand 91 = .ok (.iload_n 3, 1) := by decide +kernel
theorem d_C_writeOperand_92 : decode b_C_writeOperand 92 = .ok (.iconst 2, 1) := by decide +kernel
theorem d_C_writeOperand_93 : decode b_C_writeOperand 93 = .ok (.invokevirtual 67, 3) := by decide +kernel
theorem d_C_writeOperand_96 : decode b_C_writeOperand 96 = .ok (.invokevirtual 162, 3) := by decide +kernel
theorem d_C_writeOperand_99 : decode b_C_writeOperand 99 = .ok (.goto 91, 3) := by decide +kernel
theorem d_C_writeOperand_102 : decode b_C_writeOperand 102 = .ok (.aload_n 0, 1) := by decide +kernel
theorem d_C_writeOperand_103 : decode b_C_writeOperand 103 = .ok (.aload_n 2, 1) := by decide +kernel
theorem d_C_writeOperand_104 : decode b_C_writeOperand 104 = .ok (.iload_n 3, 1) := by decide +kernel
theorem d_C_writeOperand_105 : decode b_C_writeOperand 105 = .ok (.iconst 4, 1) := by decide +kernel
theorem d_C_writeOperand_106 : decode b_C_writeOperand 106 = .ok (.invokevirtual 67, 3) := by decide +kernel
theorem d_C_writeOperand_109 : decode b_C_writeOperand 109 = .ok (.invokevirtual 162, 3) := by decide +kernel
theorem d_C_writeOperand_112 : decode b_C_writeOperand 112 = .ok (.goto 78, 3) := by decide +kernel
theorem d_C_writeOperand_115 : decode b_C_writeOperand 115 = .ok (.aload_n 0, 1) := by decide +kernel
theorem d_C_writeOperand_116 : decode b_C_writeOperand 116 = .ok (.iconst 2, 1) := by decide +kernel
theorem d_C_writeOperand_117 : decode b_C_writeOperand 117 = .ok (.invokevirtual 162, 3) := by decide +kernel
theorem d_C_writeOperand_120 : decode b_C_writeOperand 120 = .ok (.goto 70, 3) := by decide +kernel
theorem d_C_writeOperand_123 : decode b_C_writeOperand 123 = .ok (.aload_n 0, 1) := by decide +kernel
theorem d_C_writeOperand_124 : decode b_C_writeOperand 124 = .ok (.aload_n 2, 1) := by decide +kernel
theorem d_C_writeOperand_125 : decode b_C_writeOperand 125 = .ok (.iload_n 3, 1) := by decide +kernel
theorem d_C_writeOperand_126 : decode b_C_writeOperand 126 = .ok (.invokevirtual 64, 3) := by decide +kernel
theorem d_C_writeOperand_129 : decode b_C_writeOperand 129 = .ok (.invokevirtual 165, 3) := by decide +kernel
theorem d_C_writeOperand_132 : decode b_C_writeOperand 132 = .ok (.goto 58, 3) := by decide +kernel
theorem d_C_writeOperand_135 : decode b_C_writeOperand 135 = .ok (.aload_n 0, 1) := by decide +kernel
theorem d_C_writeOperand_136 : decode b_C_writeOperand 136 = .ok (.aload_n 2, 1) := by decide +kernel
theorem d_C_writeOperand_137 : decode b_C_writeOperand 137 = .ok (.iload_n 3, 1) := by decide +kernel
theorem d_C_writeOperand_138 : decode b_C_writeOperand 138 = .ok (.invokevirtual 64, 3) := by decide +kernel
theorem d_C_writeOperand_141 : decode b_C_writeOperand 141 = .ok (.aload_n 2, 1) := by decide +kernel
theorem d_C_writeOperand_142 : decode b_C_writeOperand 142 = .ok (.iload_n 3, 1) := by decide +kernel
theorem d_C_writeOperand_143 : decode b_C_writeOperand 143 = .ok (.iconst 2, 1) := by decide +kernel
theorem d_C_writeOperand_144 : decode b_C_writeOperand 144 = .ok (.invokevirtual 67, 3) := by decide +kernel
theorem d_C_writeOperand_147 : decode b_C_writeOperand 147 = .ok (.invokevirtual 168, 3) := by decide +kernel
theorem d_C_writeOperand_150 : decode b_C_writeOperand 150 = .ok (.goto 40, 3) := by decide +kernel
theorem d_C_writeOperand_153 : decode b_C_writeOperand 153 = .ok (.aload_n 0, 1) := by decide +kernel
theorem d_C_writeOperand_154 : decode b_C_writeOperand 154 = .ok (.aload_n 2, 1) := by decide +kernel
theorem d_C_writeOperand_155 : decode b_C_writeOperand 155 = .ok (.iload_n 3, 1) := by decide +kernel
theorem d_C_writeOperand_156 : decode b_C_writeOperand 156 = .ok (.invokevirtual 64, 3) := by decide +kernel
theorem d_C_writeOperand_159 : decode b_C_writeOperand 159 = .ok (.iconst 2, 1) := by decide +kernel
theorem d_C_writeOperand_160 : decode b_C_writeOperand 160 = .ok (.invokevirtual 168, 3) := by decide +kernel
theorem d_C_writeOperand_163 : decode b_C_writeOperand 163 = .ok (.goto 27, 3) := by decide +kernel
theorem d_C_writeOperand_166 : decode b_C_writeOperand 166 = .ok (.aload_n 0, 1) := by decide +kernel
theorem d_C_writeOperand_167 : decode b_C_writeOperand 167 = .ok (.iload 4, 2) := by decide +kernel
theorem d_C_writeOperand_169 : decode b_C_writeOperand 169 = .ok (.aload_n 2, 1) := by decide +kernel
theorem d_C_writeOperand_170 : decode b_C_writeOperand 170 = .ok (.iload_n 3, 1) := by decide +kernel
theorem d_C_writeOperand_171 : decode b_C_writeOperand 171 = .ok (.invokevirtual 64, 3) := by decide +kernel
theorem d_C_writeOperand_174 : decode b_C_writeOperand 174 = .ok (.iadd, 1) := by decide +kernel
theorem d_C_writeOperand_175 : decode b_C_writeOperand 175 = .ok (.invokevirtual 143, 3) := by decide +kernel
theorem d_C_writeOperand_178 : decode b_C_writeOperand 178 = .ok (.goto 12, 3) := by decide +kernel
theorem d_C_writeOperand_181 : decode b_C_writeOperand 181 = .ok (.aload_n 0, 1) := by decide +kernel
theorem d_C_writeOperand_182 : decode b_C_writeOperand 182 = .ok (.aload_n 2, 1) := by decide +kernel
theorem d_C_writeOperand_183 : decode b_C_writeOperand 183 = .ok (.iload_n 3, 1) := by decide +kernel
theorem d_C_writeOperand_184 : decode b_C_writeOperand 184 = .ok (.invokevirtual 64, 3) := by decide +kernel
theorem d_C_writeOperand_187 : decode b_C_writeOperand 187 = .ok (.invokevirtual 143, 3) := by decide +kernel
theorem d_C_writeOperand_190 : decode b_C_writeOperand 190 = .ok (.return_, 1) := by decide +kernel
theorem d_C_writeRegister_0 : decode b_C_writeRegister 0 = .ok (.iload_n 1, 1) := by decide +kernel
theorem d_C_writeRegister_1 : decode b_C_writeRegister 1 = .ok (.iconst 4, 1) := by decide +kernel
theorem d_C_writeRegister_2 : decode b_C_writeRegister 2 = .ok (.imul, 1) := by decide +kernel
theorem d_C_writeRegister_3 : decode b_C_writeRegister 3 = .ok (.istore_n 2, 1) := by decide +kernel
theorem d_C_writeRegister_4 : decode b_C_writeRegister 4 = .ok (.iload_n 2, 1) := by decide +kernel
theorem d_C_writeRegister_5 : decode b_C_writeRegister 5 = .ok (.istore_n 3, 1) := by decide +kernel
theorem d_C_writeRegister_6 : decode b_C_writeRegister 6 = .ok (.iload_n 3, 1) := by decide +kernel
theorem d_C_writeRegister_7 : decode b_C_writeRegister 7 = .ok (.iload_n 2, 1) := by decide +kernel
theorem d_C_writeRegister_8 : decode b_C_writeRegister 8 = .ok (.iconst 4, 1) := by decide +kernel
theorem d_C_writeRegister_9 : decode b_C_writeRegister 9 = .ok (.iadd, 1) := by decide +kernel
theorem d_C_writeRegister_10 : decode b_C_writeRegister 10 = .ok (.if_icmp .ge 43, 3) := by decide +kernel
theorem d_C_writeRegister_13 : decode b_C_writeRegister 13 = .ok (.iload_n 3, 1) := by decide +kernel
theorem d_C_writeRegister_14 : decode b_C_writeRegister 14 = .ok (.ifCond .lt 33, 3) := by decide +kernel
theorem d_C_writeRegister_17 : decode b_C_writeRegister 17 = .ok (.iload_n 3, 1) := by decide +kernel
theorem d_C_writeRegister_18 : decode b_C_writeRegister 18 = .ok (.ldc 176, 2) := by decide +kernel
theorem d_C_writeRegister_20 : decode b_C_writeRegister 20 = .ok (.invokevirtual 118, 3) := by decide +kernel
theorem d_C_writeRegister_23 : decode b_C_writeRegister 23 = .ok (.if_icmp .ge 24, 3) := by decide +kernel
theorem d_C_writeRegister_26 : decode b_C_writeRegister 26 = .ok (.ldc 176, 2) := by decide +kernel
theorem d_C_writeRegister_28 : decode b_C_writeRegister 28 = .ok (.iload_n 3, 1) := by decide +kernel
theorem d_C_writeRegister_29 : decode b_C_writeRegister 29 = .ok (.invokevirtual 134, 3) := by decide +kernel
theorem d_C_writeRegister_32 : decode b_C_writeRegister 32 = .ok (.bipush 32, 2) := by decide +kernel
theorem d_C_writeRegister_34 : decode b_C_writeRegister 34 = .ok (.if_icmp .eq 13, 3) := by decide +kernel
theorem d_C_writeRegister_37 : decode b_C_writeRegister 37 = .ok (.aload_n 0, 1) := by decide +kernel
theorem d_C_writeRegister_38 : decode b_C_writeRegister 38 = .ok (.ldc 176, 2) := by decide +kernel
theorem d_C_writeRegister_40 : decode b_C_writeRegister 40 = .ok (.iload_n 3, 1) := by decide +kernel
theorem d_C_writeRegister_41 : decode b_C_writeRegister 41 = .ok (.invokevirtual 134, 3) := by decide +kernel
theorem d_C_writeRegister_44 : decode b_C_writeRegister 44 = .ok (.invokevirtual 172, 3) := by decide +kernel
theorem d_C_writeRegister_47 : decode b_C_writeRegister 47 = .ok (.iinc 3 1, 3) := by decide +kernel
theorem d_C_writeRegister_50 : decode b_C_writeRegister 50 = .ok (.goto (-44), 3) := by decide +kernel
theorem d_C_writeRegister_53 : decode b_C_writeRegister 53 = .ok (.return_, 1) := by decide +kernel
theorem d_C_writeDecimal_0 : decode b_C_writeDecimal 0 = .ok (.iload_n 1, 1) := by decide +kernel
theorem d_C_writeDecimal_1 : decode b_C_writeDecimal 1 = .ok (.ifCond .ge 9, 3) := by decide +kernel
theorem d_C_writeDecimal_4 : decode b_C_writeDecimal 4 = .ok (.aload_n 0, 1) := by decide +kernel
theorem d_C_writeDecimal_5 : decode b_C_writeDecimal 5 = .ok (.bipush 45, 2) := by decide +kernel
theorem d_C_writeDecimal_7 : decode b_C_writeDecimal 7 = .ok (.invokevirtual 172, 3) := by decide +kernel
theorem d_C_writeDecimal_10 : decode b_C_writeDecimal 10 = .ok (.iload_n 1, 1) := by decide +kernel
theorem d_C_writeDecimal_11 : decode b_C_writeDecimal 11 = .ok (.ifCond .ge 8, 3) := by decide +kernel
theorem d_C_writeDecimal_14 : decode b_C_writeDecimal 14 = .ok (.iload_n 1, 1) := by decide +kernel
theorem d_C_writeDecimal_15 : decode b_C_writeDecimal 15 = .ok (.ineg, 1) := by decide +kernel
theorem d_C_writeDecimal_16 : decode b_C_writeDecimal 16 = .ok (.goto 4, 3) := by decide +kernel
theorem d_C_writeDecimal_19 : decode b_C_writeDecimal 19 = .ok (.iload_n 1, 1) := by decide +kernel
theorem d_C_writeDecimal_20 : decode b_C_writeDecimal 20 = .ok (.istore_n 2, 1) := by decide +kernel
theorem d_C_writeDecimal_21 : decode b_C_writeDecimal 21 = .ok (.sipush 1000, 3) := by decide +kernel
theorem d_C_writeDecimal_24 : decode b_C_writeDecimal 24 = .ok (.istore_n 3, 1) := by decide +kernel
theorem d_C_writeDecimal_25 : decode b_C_writeDecimal 25 = .ok (.iload_n 3, 1) := by decide +kernel
theorem d_C_writeDecimal_26 : decode b_C_writeDecimal 26 = .ok (.ifCond .le 35, 3) := by decide +kernel
theorem d_C_writeDecimal_29 : decode b_C_writeDecimal 29 = .ok (.iload_n 2, 1) := by decide +kernel
theorem d_C_writeDecimal_30 : decode b_C_writeDecimal 30 = .ok (.iload_n 3, 1) := by decide +kernel
theorem d_C_writeDecimal_31 : decode b_C_writeDecimal 31 = .ok (.if_icmp .ge 8, 3) := by decide +kernel
theorem d_C_writeDecimal_34 : decode b_C_writeDecimal 34 = .ok (.iload_n 3, 1) := by decide +kernel
theorem d_C_writeDecimal_35 : decode b_C_writeDecimal 35 = .ok (.iconst 1, 1) := by decide +kernel
theorem d_C_writeDecimal_36 : decode b_C_writeDecimal 36 = .ok (.if_icmp .ne 17, 3) := by decide +kernel
theorem d_C_writeDecimal_39 : decode b_C_writeDecimal 39 = .ok (.aload_n 0, 1) := by decide +kernel
theorem d_C_writeDecimal_40 : decode b_C_writeDecimal 40 = .ok (.bipush 48, 2) := by decide +kernel
theorem d_C_writeDecimal_42 : decode b_C_writeDecimal 42 = .ok (.iload_n 2, 1) := by decide +kernel
theorem d_C_writeDecimal_43 : decode b_C_writeDecimal 43 = .ok (.iload_n 3, 1) := by decide +kernel
theorem d_C_writeDecimal_44 : decode b_C_writeDecimal 44 = .ok (.idiv, 1) := by decide +kernel
theorem d_C_writeDecimal_45 : decode b_C_writeDecimal 45 = .ok (.bipush 10, 2) := by decide +kernel
theorem d_C_writeDecimal_47 : decode b_C_writeDecimal 47 = .ok (.irem, 1) := by decide +kernel
theorem d_C_writeDecimal_48 : decode b_C_writeDecimal 48 = .ok (.iadd, 1) := by decide +kernel
theorem d_C_writeDecimal_49 : decode b_C_writeDecimal 49 = .ok (.i2c, 1) := by decide +kernel
theorem d_C_writeDecimal_50 : decode b_C_writeDecimal 50 = .ok (.invokevirtual 172, 3) := by decide +kernel
theorem d_C_writeDecimal_53 : decode b_C_writeDecimal 53 = .ok (.iload_n 3, 1) := by decide +kernel
theorem d_C_writeDecimal_54 : decode b_C_writeDecimal 54 = .ok (.bipush 10, 2) := by decide +kernel
theorem d_C_writeDecimal_56 : decode b_C_writeDecimal 56 = .ok (.idiv, 1) := by decide +kernel
theorem d_C_writeDecimal_57 : decode b_C_writeDecimal 57 = .ok (.istore_n 3, 1) := by decide +kernel
theorem d_C_writeDecimal_58 : decode b_C_writeDecimal 58 = .ok (.goto (-33), 3) := by decide +kernel
theorem d_C_writeDecimal_61 : decode b_C_writeDecimal 61 = .ok (.return_, 1) := by decide +kernel
theorem d_C_writeOffset_0 : decode b_C_writeOffset 0 = .ok (.aload_n 0, 1) := by decide +kernel
theorem d_C_writeOffset_1 : decode b_C_writeOffset 1 = .ok (.iload_n 1, 1) := by decide +kernel
theorem d_C_writeOffset_2 : decode b_C_writeOffset 2 = .ok (.invokevirtual 165, 3) := by decide +kernel
theorem d_C_writeOffset_5 : decode b_C_writeOffset 5 = .ok (.aload_n 0, 1) := by decide +kernel
theorem d_C_writeOffset_6 : decode b_C_writeOffset 6 = .ok (.bipush 40, 2) := by decide +kernel
theorem d_C_writeOffset_8 : decode b_C_writeOffset 8 = .ok (.invokevirtual 172, 3) := by decide +kernel
theorem d_C_writeOffset_11 : decode b_C_writeOffset 11 = .ok (.aload_n 0, 1) := by decide +kernel
theorem d_C_writeOffset_12 : decode b_C_writeOffset 12 = .ok (.iload_n 2, 1) := by decide +kernel
theorem d_C_writeOffset_13 : decode b_C_writeOffset 13 = .ok (.invokevirtual 162, 3) := by decide +kernel
theorem d_C_writeOffset_16 : decode b_C_writeOffset 16 = .ok (.aload_n 0, 1) := by decide +kernel
theorem d_C_writeOffset_17 : decode b_C_writeOffset 17 = .ok (.bipush 41, 2) := by decide +kernel
theorem d_C_writeOffset_19 : decode b_C_writeOffset 19 = .ok (.invokevirtual 172, 3) := by decide +kernel
theorem d_C_writeOffset_22 : decode b_C_writeOffset 22 = .ok (.return_, 1) := by decide +kernel
theorem d_C_letter_0 : decode b_C_letter 0 = .ok (.iload_n 1, 1) := by decide +kernel
theorem d_C_letter_1 : decode b_C_letter 1 = .ok (.ifCond .lt 29, 3) := by decide +kernel
theorem d_C_letter_4 : decode b_C_letter 4 = .ok (.iload_n 1, 1) := by decide +kernel
theorem d_C_letter_5 : decode b_C_letter 5 = .ok (.aload_n 0, 1) := by decide +kernel
theorem d_C_letter_6 : decode b_C_letter 6 = .ok (.getfield 13, 3) := by decide +kernel
theorem d_C_letter_9 : decode b_C_letter 9 = .ok (.if_icmp .ge 21, 3) := by decide +kernel
theorem d_C_letter_12 : decode b_C_letter 12 = .ok (.iload_n 1, 1) := by decide +kernel
theorem d_C_letter_13 : decode b_C_letter 13 = .ok (.aload_n 0, 1) := by decide +kernel
theorem d_C_letter_14 : decode b_C_letter 14 = .ok (.getfield 9, 3) := by decide +kernel
theorem d_C_letter_17 : decode b_C_letter 17 = .ok (.arraylength, 1) := by decide +kernel
theorem d_C_letter_18 : decode b_C_letter 18 = .ok (.if_icmp .ge 12, 3) := by decide +kernel
theorem d_C_letter_21 : decode b_C_letter 21 = .ok (.aload_n 0, 1) := by decide +kernel
theorem d_C_letter_22 : decode b_C_letter 22 = .ok (.getfield 9, 3) := by decide +kernel
theorem d_C_letter_25 : decode b_C_letter 25 = .ok (.iload_n 1, 1) := by decide +kernel
theorem d_C_letter_26 : decode b_C_letter 26 = .ok (.caload, 1) := by decide +kernel
theorem d_C_letter_27 : decode b_C_letter 27 = .ok (.goto 4, 3) := by decide +kernel
theorem d_C_letter_30 : decode b_C_letter 30 = .ok (.iconst (-1), 1) := by decide +kernel
theorem d_C_letter_31 : decode b_C_letter 31 = .ok (.ireturn, 1) := by decide +kernel
theorem d_C_named_0 : decode b_C_named 0 = .ok (.iconst 0, 1) := by decide +kernel
theorem d_C_named_1 : decode b_C_named 1 = .ok (.istore 5, 2) := by decide +kernel
theorem d_C_named_3 : decode b_C_named 3 = .ok (.iload 5, 2) := by decide +kernel
theorem d_C_named_5 : decode b_C_named 5 = .ok (.getstatic 28, 3) := by decide +kernel
theorem d_C_named_8 : decode b_C_named 8 = .ok (.arraylength, 1) := by decide +kernel
theorem d_C_named_9 : decode b_C_named 9 = .ok (.if_icmp .ge 29, 3) := by decide +kernel
theorem d_C_named_12 : decode b_C_named 12 = .ok (.getstatic 28, 3) := by decide +kernel
theorem d_C_named_15 : decode b_C_named 15 = .ok (.iload 5, 2) := by decide +kernel
theorem d_C_named_17 : decode b_C_named 17 = .ok (.aaload, 1) := by decide +kernel
theorem d_C_named_18 : decode b_C_named 18 = .ok (.getfield 101, 3) := by decide +kernel
theorem d_C_named_21 : decode b_C_named 21 = .ok (.lload_n 1, 1) := by decide +kernel
theorem d_C_named_22 : decode b_C_named 22 = .ok (.lload_n 3, 1) := by decide +kernel
theorem d_C_named_23 : decode b_C_named 23 = .ok (.invokestatic 105, 3) := by decide +kernel
theorem d_C_named_26 : decode b_C_named 26 = .ok (.ifCond .eq 6, 3) := by decide +kernel
theorem d_C_named_29 : decode b_C_named 29 = .ok (.iload 5, 2) := by decide +kernel
theorem d_C_named_31 : decode b_C_named 31 = .ok (.ireturn, 1) := by decide +kernel
theorem d_C_named_32 : decode b_C_named 32 = .ok (.iinc 5 1, 3) := by decide +kernel
theorem d_C_named_35 : decode b_C_named 35 = .ok (.goto (-32), 3) := by decide +kernel
theorem d_C_named_38 : decode b_C_named 38 = .ok (.iconst (-1), 1) := by decide +kernel
theorem d_C_named_39 : decode b_C_named 39 = .ok (.ireturn, 1) := by decide +kernel
theorem d_C_spells_0 : decode b_C_spells 0 = .ok (.iconst 0, 1) := by decide +kernel
theorem d_C_spells_1 : decode b_C_spells 1 = .ok (.istore 5, 2) := by decide +kernel
theorem d_C_spells_3 : decode b_C_spells 3 = .ok (.iconst 0, 1) := by decide +kernel
theorem d_C_spells_4 : decode b_C_spells 4 = .ok (.istore 6, 2) := by decide +kernel
theorem d_C_spells_6 : decode b_C_spells 6 = .ok (.iload 6, 2) := by decide +kernel
theorem d_C_spells_8 : decode b_C_spells 8 = .ok (.bipush 16, 2) := by decide +kernel
theorem d_C_spells_10 : decode b_C_spells 10 = .ok (.if_icmp .ge 74, 3) := by decide +kernel
theorem d_C_spells_13 : decode b_C_spells 13 = .ok (.iload 6, 2) := by decide +kernel
theorem d_C_spells_15 : decode b_C_spells 15 = .ok (.bipush 8, 2) := by decide +kernel
theorem d_C_spells_17 : decode b_C_spells 17 = .ok (.if_icmp .ge 7, 3) := by decide +kernel
theorem d_C_spells_20 : decode b_C_spells 20 = .ok (.lload_n 1, 1) := by decide +kernel
theorem d_C_spells_21 : decode b_C_spells 21 = .ok (.goto 4, 3) := by decide +kernel
theorem d_C_spells_24 : decode b_C_spells 24 = .ok (.lload_n 3, 1) := by decide +kernel
theorem d_C_spells_25 : decode b_C_spells 25 = .ok (.lstore 7, 2) := by decide +kernel
theorem d_C_spells_27 : decode b_C_spells 27 = .ok (.lload 7, 2) := by decide +kernel
theorem d_C_spells_29 : decode b_C_spells 29 = .ok (.bipush 8, 2) := by decide +kernel
theorem d_C_spells_31 : decode b_C_spells 31 = .ok (.bipush 7, 2) := by decide +kernel
theorem d_C_spells_33 : decode b_C_spells 33 = .ok (.iload 6, 2) := by decide +kernel
theorem d_C_spells_35 : decode b_C_spells 35 = .ok (.bipush 8, 2) := by decide +kernel
theorem d_C_spells_37 : decode b_C_spells 37 = .ok (.irem, 1) := by decide +kernel
theorem d_C_spells_38 : decode b_C_spells 38 = .ok (.isub, 1) := by decide +kernel
theorem d_C_spells_39 : decode b_C_spells 39 = .ok (.imul, 1) := by decide +kernel
theorem d_C_spells_40 : decode b_C_spells 40 = .ok (.lushr, 1) := by decide +kernel
theorem d_C_spells_41 : decode b_C_spells 41 = .ok (.l2i, 1) := by decide +kernel
theorem d_C_spells_42 : decode b_C_spells 42 = .ok (.sipush 255, 3) := by decide +kernel
theorem d_C_spells_45 : decode b_C_spells 45 = .ok (.iand, 1) := by decide +kernel
theorem d_C_spells_46 : decode b_C_spells 46 = .ok (.istore 9, 2) := by decide +kernel
theorem d_C_spells_48 : decode b_C_spells 48 = .ok (.iload 9, 2) := by decide +kernel
theorem d_C_spells_50 : decode b_C_spells 50 = .ok (.ifCond .eq 28, 3) := by decide +kernel
theorem d_C_spells_53 : decode b_C_spells 53 = .ok (.iload 5, 2) := by decide +kernel
theorem d_C_spells_55 : decode b_C_spells 55 = .ok (.aload_n 0, 1) := by decide +kernel
theorem d_C_spells_56 : decode b_C_spells 56 = .ok (.invokevirtual 118, 3) := by decide +kernel
theorem d_C_spells_59 : decode b_C_spells 59 = .ok (.if_icmp .ge 14, 3) := by decide +kernel
theorem d_C_spells_62 : decode b_C_spells 62 = .ok (.aload_n 0, 1) := by decide +kernel
theorem d_C_spells_63 : decode b_C_spells 63 = .ok (.iload 5, 2) := by decide +kernel
theorem d_C_spells_65 : decode b_C_spells 65 = .ok (.invokevirtual 134, 3) := by decide +kernel
theorem d_C_spells_68 : decode b_C_spells 68 = .ok (.iload 9, 2) := by decide +kernel
theorem d_C_spells_70 : decode b_C_spells 70 = .ok (.if_icmp .eq 5, 3) := by decide +kernel
theorem d_C_spells_73 : decode b_C_spells 73 = .ok (.iconst 0, 1) := by decide +kernel
theorem d_C_spells_74 : decode b_C_spells 74 = .ok (.ireturn, 1) := by decide +kernel
theorem d_C_spells_75 : decode b_C_spells 75 = .ok (.iinc 5 1, 3) := by decide +kernel
theorem d_C_spells_78 : decode b_C_spells 78 = .ok (.iinc 6 1, 3) := by decide +kernel
theorem d_C_spells_81 : decode b_C_spells 81 = .ok (.goto (-75), 3) := by decide +kernel
theorem d_C_spells_84 : decode b_C_spells 84 = .ok (.iload 5, 2) := by decide +kernel
theorem d_C_spells_86 : decode b_C_spells 86 = .ok (.aload_n 0, 1) := by decide +kernel
theorem d_C_spells_87 : decode b_C_spells 87 = .ok (.invokevirtual 118, 3) := by decide +kernel
theorem d_C_spells_90 : decode b_C_spells 90 = .ok (.if_icmp .ne 7, 3) := by decide +kernel
theorem d_C_spells_93 : decode b_C_spells 93 = .ok (.iconst 1, 1) := by decide +kernel
theorem d_C_spells_94 : decode b_C_spells 94 = .ok (.goto 4, 3) := by decide +kernel
theorem d_C_spells_97 : decode b_C_spells 97 = .ok (.iconst 0, 1) := by decide +kernel
theorem d_C_spells_98 : decode b_C_spells 98 = .ok (.ireturn, 1) := by decide +kernel
theorem d_C_about_0 : decode b_C_about 0 = .ok (.iload_n 1, 1) := by decide +kernel
theorem d_C_about_1 : decode b_C_about 1 = .ok (.invokestatic 17, 3) := by decide +kernel
theorem d_C_about_4 : decode b_C_about 4 = .ok (.ifCond .ne 5, 3) := by decide +kernel
theorem d_C_about_7 : decode b_C_about 7 = .ok (.iconst (-1), 1) := by decide +kernel
theorem d_C_about_8 : decode b_C_about 8 = .ok (.ireturn, 1) := by decide +kernel
theorem d_C_about_9 : decode b_C_about 9 = .ok (.iload_n 2, 1) := by decide +kernel
theorem d_C_about_10 : decode b_C_about 10 = .ok (.tableswitch 75 0 3 #[30, 39, 48, 63], 30) := by decide +kernel
theorem d_C_about_40 : decode b_C_about 40 = .ok (.getstatic 28, 3) := by decide +kernel
theorem d_C_about_43 : decode b_C_about 43 = .ok (.iload_n 1, 1) := by decide +kernel
theorem d_C_about_44 : decode b_C_about 44 = .ok (.aaload, 1) := by decide +kernel
theorem d_C_about_45 : decode b_C_about 45 = .ok (.getfield 109, 3) := by decide +kernel
theorem d_C_about_48 : decode b_C_about 48 = .ok (.ireturn, 1) := by decide +kernel
theorem d_C_about_49 : decode b_C_about 49 = .ok (.getstatic 28, 3) := by decide +kernel
theorem d_C_about_52 : decode b_C_about 52 = .ok (.iload_n 1, 1) := by decide +kernel
theorem d_C_about_53 : decode b_C_about 53 = .ok (.aaload, 1) := by decide +kernel
theorem d_C_about_54 : decode b_C_about 54 = .ok (.getfield 112, 3) := by decide +kernel
theorem d_C_about_57 : decode b_C_about 57 = .ok (.ireturn, 1) := by decide +kernel
theorem d_C_about_58 : decode b_C_about 58 = .ok (.getstatic 28, 3) := by decide +kernel
theorem d_C_about_61 : decode b_C_about 61 = .ok (.iload_n 1, 1) := by decide +kernel
theorem d_C_about_62 : decode b_C_about 62 = .ok (.aaload, 1) := by decide +kernel
theorem d_C_about_63 : decode b_C_about 63 = .ok (.getfield 115, 3) := by decide +kernel
theorem d_C_about_66 : decode b_C_about 66 = .ok (.invokevirtual 118, 3) := by decide +kernel
theorem d_C_about_69 : decode b_C_about 69 = .ok (.bipush 8, 2) := by decide +kernel
theorem d_C_about_71 : decode b_C_about 71 = .ok (.idiv, 1) := by decide +kernel
theorem d_C_about_72 : decode b_C_about 72 = .ok (.ireturn, 1) := by decide +kernel
theorem d_C_about_73 : decode b_C_about 73 = .ok (.getstatic 28, 3) := by decide +kernel
theorem d_C_about_76 : decode b_C_about 76 = .ok (.iload_n 1, 1) := by decide +kernel
theorem d_C_about_77 : decode b_C_about 77 = .ok (.aaload, 1) := by decide +kernel
theorem d_C_about_78 : decode b_C_about 78 = .ok (.getfield 101, 3) := by decide +kernel
theorem d_C_about_81 : decode b_C_about 81 = .ok (.invokevirtual 118, 3) := by decide +kernel
theorem d_C_about_84 : decode b_C_about 84 = .ok (.ireturn, 1) := by decide +kernel
theorem d_C_about_85 : decode b_C_about 85 = .ok (.iconst (-1), 1) := by decide +kernel
theorem d_C_about_86 : decode b_C_about 86 = .ok (.ireturn, 1) := by decide +kernel
theorem d_C_word_0 : decode b_C_word 0 = .ok (.iload_n 1, 1) := by decide +kernel
theorem d_C_word_1 : decode b_C_word 1 = .ok (.invokestatic 17, 3) := by decide +kernel
theorem d_C_word_4 : decode b_C_word 4 = .ok (.ifCond .ne 13, 3) := by decide +kernel
theorem d_C_word_7 : decode b_C_word 7 = .ok (.new 21, 3) := by decide +kernel
theorem d_C_word_10 : decode b_C_word 10 = .ok (.dup, 1) := by decide +kernel
theorem d_C_word_11 : decode b_C_word 11 = .ok (.ldc 23, 2) := by decide +kernel
theorem d_C_word_13 : decode b_C_word 13 = .ok (.invokespecial 25, 3) := by decide +kernel
theorem d_C_word_16 : decode b_C_word 16 = .ok (.athrow, 1) := by decide +kernel
theorem d_C_word_17 : decode b_C_word 17 = .ok (.getstatic 28, 3) := by decide +kernel
theorem d_C_word_20 : decode b_C_word 20 = .ok (.iload_n 1, 1) := by decide +kernel
theorem d_C_word_21 : decode b_C_word 21 = .ok (.aaload, 1) := by decide +kernel
theorem d_C_word_22 : decode b_C_word 22 = .ok (.iload_n 2, 1) := by decide +kernel
theorem d_C_word_23 : decode b_C_word 23 = .ok (.iload_n 3, 1) := by decide +kernel
theorem d_C_word_24 : decode b_C_word 24 = .ok (.iload 4, 2) := by decide +kernel
theorem d_C_word_26 : decode b_C_word 26 = .ok (.iload 5, 2) := by decide +kernel
theorem d_C_word_28 : decode b_C_word 28 = .ok (.invokevirtual 32, 3) := by decide +kernel
theorem d_C_word_31 : decode b_C_word 31 = .ok (.ifCond .ne 13, 3) := by decide +kernel
theorem d_C_word_34 : decode b_C_word 34 = .ok (.new 38, 3) := by decide +kernel
theorem d_C_word_37 : decode b_C_word 37 = .ok (.dup, 1) := by decide +kernel
theorem d_C_word_38 : decode b_C_word 38 = .ok (.ldc 40, 2) := by decide +kernel
theorem d_C_word_40 : decode b_C_word 40 = .ok (.invokespecial 42, 3) := by decide +kernel
theorem d_C_word_43 : decode b_C_word 43 = .ok (.athrow, 1) := by decide +kernel
theorem d_C_word_44 : decode b_C_word 44 = .ok (.getstatic 28, 3) := by decide +kernel
theorem d_C_word_47 : decode b_C_word 47 = .ok (.iload_n 1, 1) := by decide +kernel
theorem d_C_word_48 : decode b_C_word 48 = .ok (.aaload, 1) := by decide +kernel
theorem d_C_word_49 : decode b_C_word 49 = .ok (.iload_n 2, 1) := by decide +kernel
theorem d_C_word_50 : decode b_C_word 50 = .ok (.iload_n 3, 1) := by decide +kernel
theorem d_C_word_51 : decode b_C_word 51 = .ok (.iload 4, 2) := by decide +kernel
theorem d_C_word_53 : decode b_C_word 53 = .ok (.iload 5, 2) := by decide +kernel
theorem d_C_word_55 : decode b_C_word 55 = .ok (.invokevirtual 43, 3) := by decide +kernel
theorem d_C_word_58 : decode b_C_word 58 = .ok (.ireturn, 1) := by decide +kernel
theorem d_C_part_0 : decode b_C_part 0 = .ok (.iload_n 1, 1) := by decide +kernel
theorem d_C_part_1 : decode b_C_part 1 = .ok (.invokestatic 47, 3) := by decide +kernel
theorem d_C_part_4 : decode b_C_part 4 = .ok (.istore_n 3, 1) := by decide +kernel
theorem d_C_part_5 : decode b_C_part 5 = .ok (.iload_n 3, 1) := by decide +kernel
theorem d_C_part_6 : decode b_C_part 6 = .ok (.iconst (-1), 1) := by decide +kernel
theorem d_C_part_7 : decode b_C_part 7 = .ok (.if_icmp .ne 13, 3) := by decide +kernel
theorem d_C_part_10 : decode b_C_part 10 = .ok (.new 54, 3) := by decide +kernel
theorem d_C_part_13 : decode b_C_part 13 = .ok (.dup, 1) := by decide +kernel
theorem d_C_part_14 : decode b_C_part 14 = .ok (.ldc 56, 2) := by decide +kernel
theorem d_C_part_16 : decode b_C_part 16 = .ok (.invokespecial 58, 3) := by decide +kernel
theorem d_C_part_19 : decode b_C_part 19 = .ok (.athrow, 1) := by decide +kernel
theorem d_C_part_20 : decode b_C_part 20 = .ok (.iload_n 2, 1) := by decide +kernel
theorem d_C_part_21 : decode b_C_part 21 = .ok (.ifCond .lt 22, 3) := by decide +kernel
theorem d_C_part_24 : decode b_C_part 24 = .ok (.iload_n 2, 1) := by decide +kernel
theorem d_C_part_25 : decode b_C_part 25 = .ok (.iconst 3, 1) := by decide +kernel
theorem d_C_part_26 : decode b_C_part 26 = .ok (.if_icmp .gt 17, 3) := by decide +kernel
theorem d_C_part_29 : decode b_C_part 29 = .ok (.getstatic 28, 3) := by decide +kernel
theorem d_C_part_32 : decode b_C_part 32 = .ok (.iload_n 3, 1) := by decide +kernel
theorem d_C_part_33 : decode b_C_part 33 = .ok (.aaload, 1) := by decide +kernel
theorem d_C_part_34 : decode b_C_part 34 = .ok (.iconst 1, 1) := by decide +kernel
theorem d_C_part_35 : decode b_C_part 35 = .ok (.iload_n 2, 1) := by decide +kernel
theorem d_C_part_36 : decode b_C_part 36 = .ok (.ishl, 1) := by decide +kernel
theorem d_C_part_37 : decode b_C_part 37 = .ok (.invokevirtual 59, 3) := by decide +kernel
theorem d_C_part_40 : decode b_C_part 40 = .ok (.ifCond .ne 13, 3) := by decide +kernel
theorem d_C_part_43 : decode b_C_part 43 = .ok (.new 54, 3) := by decide +kernel
theorem d_C_part_46 : decode b_C_part 46 = .ok (.dup, 1) := by decide +kernel
theorem d_C_part_47 : decode b_C_part 47 = .ok (.ldc 62, 2) := by decide +kernel
theorem d_C_part_49 : decode b_C_part 49 = .ok (.invokespecial 58, 3) := by decide +kernel
theorem d_C_part_52 : decode b_C_part 52 = .ok (.athrow, 1) := by decide +kernel
theorem d_C_part_53 : decode b_C_part 53 = .ok (.iload_n 2, 1) := by decide +kernel
theorem d_C_part_54 : decode b_C_part 54 = .ok (.iconst 3, 1) := by decide +kernel
theorem d_C_part_55 : decode b_C_part 55 = .ok (.if_icmp .ne 15, 3) := by decide +kernel
theorem d_C_part_58 : decode b_C_part 58 = .ok (.getstatic 28, 3) := by decide +kernel
theorem d_C_part_61 : decode b_C_part 61 = .ok (.iload_n 3, 1) := by decide +kernel
theorem d_C_part_62 : decode b_C_part 62 = .ok (.aaload, 1) := by decide +kernel
theorem d_C_part_63 : decode b_C_part 63 = .ok (.iload_n 1, 1) := by decide +kernel
theorem d_C_part_64 : decode b_C_part 64 = .ok (.invokevirtual 64, 3) := by decide +kernel
theorem d_C_part_67 : decode b_C_part 67 = .ok (.goto 15, 3) := by decide +kernel
theorem d_C_part_70 : decode b_C_part 70 = .ok (.getstatic 28, 3) := by decide +kernel
theorem d_C_part_73 : decode b_C_part 73 = .ok (.iload_n 3, 1) := by decide +kernel
theorem d_C_part_74 : decode b_C_part 74 = .ok (.aaload, 1) := by decide +kernel
theorem d_C_part_75 : decode b_C_part 75 = .ok (.iload_n 1, 1) := by decide +kernel
theorem d_C_part_76 : decode b_C_part 76 = .ok (.iconst 1, 1) := by decide +kernel
theorem d_C_part_77 : decode b_C_part 77 = .ok (.iload_n 2, 1) := by decide +kernel
theorem d_C_part_78 : decode b_C_part 78 = .ok (.ishl, 1) := by decide +kernel
theorem d_C_part_79 : decode b_C_part 79 = .ok (.invokevirtual 67, 3) := by decide +kernel
theorem d_C_part_82 : decode b_C_part 82 = .ok (.ireturn, 1) := by decide +kernel
theorem d_C_longer_0 : decode b_C_longer 0 = .ok (.iload_n 1, 1) := by decide +kernel
theorem d_C_longer_1 : decode b_C_longer 1 = .ok (.invokestatic 47, 3) := by decide +kernel
theorem d_C_longer_4 : decode b_C_longer 4 = .ok (.istore_n 2, 1) := by decide +kernel
theorem d_C_longer_5 : decode b_C_longer 5 = .ok (.iload_n 2, 1) := by decide +kernel
theorem d_C_longer_6 : decode b_C_longer 6 = .ok (.iconst (-1), 1) := by decide +kernel
theorem d_C_longer_7 : decode b_C_longer 7 = .ok (.if_icmp .eq 17, 3) := by decide +kernel
theorem d_C_longer_10 : decode b_C_longer 10 = .ok (.getstatic 28, 3) := by decide +kernel
theorem d_C_longer_13 : decode b_C_longer 13 = .ok (.iload_n 2, 1) := by decide +kernel
theorem d_C_longer_14 : decode b_C_longer 14 = .ok (.aaload, 1) := by decide +kernel
theorem d_C_longer_15 : decode b_C_longer 15 = .ok (.getfield 71, 3) := by decide +kernel
theorem d_C_longer_18 : decode b_C_longer 18 = .ok (.invokestatic 17, 3) := by decide +kernel
theorem d_C_longer_21 : decode b_C_longer 21 = .ok (.ifCond .ne 13, 3) := by decide +kernel
theorem d_C_longer_24 : decode b_C_longer 24 = .ok (.new 54, 3) := by decide +kernel
theorem d_C_longer_27 : decode b_C_longer 27 = .ok (.dup, 1) := by decide +kernel
theorem d_C_longer_28 : decode b_C_longer 28 = .ok (.ldc 74, 2) := by decide +kernel
theorem d_C_longer_30 : decode b_C_longer 30 = .ok (.invokespecial 58, 3) := by decide +kernel
theorem d_C_longer_33 : decode b_C_longer 33 = .ok (.athrow, 1) := by decide +kernel
theorem d_C_longer_34 : decode b_C_longer 34 = .ok (.getstatic 28, 3) := by decide +kernel
theorem d_C_longer_37 : decode b_C_longer 37 = .ok (.iload_n 2, 1) := by decide +kernel
theorem d_C_longer_38 : decode b_C_longer 38 = .ok (.aaload, 1) := by decide +kernel
theorem d_C_longer_39 : decode b_C_longer 39 = .ok (.astore_n 3, 1) := by decide +kernel
theorem d_C_longer_40 : decode b_C_longer 40 = .ok (.aload_n 3, 1) := by decide +kernel
theorem d_C_longer_41 : decode b_C_longer 41 = .ok (.aload_n 3, 1) := by decide +kernel
theorem d_C_longer_42 : decode b_C_longer 42 = .ok (.iload_n 1, 1) := by decide +kernel
theorem d_C_longer_43 : decode b_C_longer 43 = .ok (.iconst 1, 1) := by decide +kernel
theorem d_C_longer_44 : decode b_C_longer 44 = .ok (.invokevirtual 67, 3) := by decide +kernel
theorem d_C_longer_47 : decode b_C_longer 47 = .ok (.aload_n 3, 1) := by decide +kernel
theorem d_C_longer_48 : decode b_C_longer 48 = .ok (.iload_n 1, 1) := by decide +kernel
theorem d_C_longer_49 : decode b_C_longer 49 = .ok (.iconst 2, 1) := by decide +kernel
theorem d_C_longer_50 : decode b_C_longer 50 = .ok (.invokevirtual 67, 3) := by decide +kernel
theorem d_C_longer_53 : decode b_C_longer 53 = .ok (.aload_n 3, 1) := by decide +kernel
theorem d_C_longer_54 : decode b_C_longer 54 = .ok (.iload_n 1, 1) := by decide +kernel
theorem d_C_longer_55 : decode b_C_longer 55 = .ok (.iconst 4, 1) := by decide +kernel
theorem d_C_longer_56 : decode b_C_longer 56 = .ok (.invokevirtual 67, 3) := by decide +kernel
theorem d_C_longer_59 : decode b_C_longer 59 = .ok (.aload_n 3, 1) := by decide +kernel
theorem d_C_longer_60 : decode b_C_longer 60 = .ok (.iload_n 1, 1) := by decide +kernel
theorem d_C_longer_61 : decode b_C_longer 61 = .ok (.invokevirtual 64, 3) := by decide +kernel
theorem d_C_longer_64 : decode b_C_longer 64 = .ok (.invokestatic 76, 3) := by decide +kernel
theorem d_C_longer_67 : decode b_C_longer 67 = .ok (.ireturn, 1) := by decide +kernel
theorem d_C_fit_0 : decode b_C_fit 0 = .ok (.iload_n 1, 1) := by decide +kernel
theorem d_C_fit_1 : decode b_C_fit 1 = .ok (.invokestatic 47, 3) := by decide +kernel
theorem d_C_fit_4 : decode b_C_fit 4 = .ok (.istore 4, 2) := by decide +kernel
theorem d_C_fit_6 : decode b_C_fit 6 = .ok (.iload 4, 2) := by decide +kernel
theorem d_C_fit_8 : decode b_C_fit 8 = .ok (.iconst (-1), 1) := by decide +kernel
theorem d_C_fit_9 : decode b_C_fit 9 = .ok (.if_icmp .ne 13, 3) := by decide +kernel
theorem d_C_fit_12 : decode b_C_fit 12 = .ok (.new 38, 3) := by decide +kernel
theorem d_C_fit_15 : decode b_C_fit 15 = .ok (.dup, 1) := by decide +kernel
theorem d_C_fit_16 : decode b_C_fit 16 = .ok (.ldc 56, 2) := by decide +kernel
theorem d_C_fit_18 : decode b_C_fit 18 = .ok (.invokespecial 42, 3) := by decide +kernel
theorem d_C_fit_21 : decode b_C_fit 21 = .ok (.athrow, 1) := by decide +kernel
theorem d_C_fit_22 : decode b_C_fit 22 = .ok (.getstatic 28, 3) := by decide +kernel
theorem d_C_fit_25 : decode b_C_fit 25 = .ok (.iload 4, 2) := by decide +kernel
theorem d_C_fit_27 : decode b_C_fit 27 = .ok (.aaload, 1) := by decide +kernel
theorem d_C_fit_28 : decode b_C_fit 28 = .ok (.astore 5, 2) := by decide +kernel
theorem d_C_fit_30 : decode b_C_fit 30 = .ok (.aload 5, 2) := by decide +kernel
theorem d_C_fit_32 : decode b_C_fit 32 = .ok (.lload_n 2, 1) := by decide +kernel
theorem d_C_fit_33 : decode b_C_fit 33 = .ok (.invokevirtual 87, 3) := by decide +kernel
theorem d_C_fit_36 : decode b_C_fit 36 = .ok (.ifCond .ne 13, 3) := by decide +kernel
theorem d_C_fit_39 : decode b_C_fit 39 = .ok (.new 38, 3) := by decide +kernel
theorem d_C_fit_42 : decode b_C_fit 42 = .ok (.dup, 1) := by decide +kernel
theorem d_C_fit_43 : decode b_C_fit 43 = .ok (.ldc 91, 2) := by decide +kernel
theorem d_C_fit_45 : decode b_C_fit 45 = .ok (.invokespecial 42, 3) := by decide +kernel
theorem d_C_fit_48 : decode b_C_fit 48 = .ok (.athrow, 1) := by decide +kernel
theorem d_C_fit_49 : decode b_C_fit 49 = .ok (.aload 5, 2) := by decide +kernel
theorem d_C_fit_51 : decode b_C_fit 51 = .ok (.aload 5, 2) := by decide +kernel
theorem d_C_fit_53 : decode b_C_fit 53 = .ok (.iload_n 1, 1) := by decide +kernel
theorem d_C_fit_54 : decode b_C_fit 54 = .ok (.iconst 1, 1) := by decide +kernel
theorem d_C_fit_55 : decode b_C_fit 55 = .ok (.invokevirtual 67, 3) := by decide +kernel
theorem d_C_fit_58 : decode b_C_fit 58 = .ok (.aload 5, 2) := by decide +kernel
theorem d_C_fit_60 : decode b_C_fit 60 = .ok (.iload_n 1, 1) := by decide +kernel
theorem d_C_fit_61 : decode b_C_fit 61 = .ok (.iconst 2, 1) := by decide +kernel
theorem d_C_fit_62 : decode b_C_fit 62 = .ok (.invokevirtual 67, 3) := by decide +kernel
theorem d_C_fit_65 : decode b_C_fit 65 = .ok (.aload 5, 2) := by decide +kernel
theorem d_C_fit_67 : decode b_C_fit 67 = .ok (.iload_n 1, 1) := by decide +kernel
theorem d_C_fit_68 : decode b_C_fit 68 = .ok (.iconst 4, 1) := by decide +kernel
theorem d_C_fit_69 : decode b_C_fit 69 = .ok (.invokevirtual 67, 3) := by decide +kernel
theorem d_C_fit_72 : decode b_C_fit 72 = .ok (.lload_n 2, 1) := by decide +kernel
theorem d_C_fit_73 : decode b_C_fit 73 = .ok (.l2i, 1) := by decide +kernel
theorem d_C_fit_74 : decode b_C_fit 74 = .ok (.invokevirtual 43, 3) := by decide +kernel
theorem d_C_fit_77 : decode b_C_fit 77 = .ok (.ireturn, 1) := by decide +kernel
