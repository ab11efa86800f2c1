theorem d_M_init_0 : decode b_M_init 0 = .ok (.aload_n 0, 1) := by decide +kernel
theorem d_M_init_1 : decode b_M_init 1 = .ok (.invokespecial 1, 3) := by decide +kernel
theorem d_M_init_4 : decode b_M_init 4 = .ok (.aload_n 0, 1) := by decide +kernel
theorem d_M_init_5 : decode b_M_init 5 = .ok (.sipush 160, 3) := by decide +kernel
theorem d_M_init_8 : decode b_M_init 8 = .ok (.newarray .int, 2) := by decide +kernel
theorem d_M_init_10 : decode b_M_init 10 = .ok (.putfield 7, 3) := by decide +kernel
theorem d_M_init_13 : decode b_M_init 13 = .ok (.aload_n 0, 1) := by decide +kernel
theorem d_M_init_14 : decode b_M_init 14 = .ok (.bipush 10, 2) := by decide +kernel
theorem d_M_init_16 : decode b_M_init 16 = .ok (.newarray .int, 2) := by decide +kernel
theorem d_M_init_18 : decode b_M_init 18 = .ok (.putfield 13, 3) := by decide +kernel
theorem d_M_init_21 : decode b_M_init 21 = .ok (.aload_n 0, 1) := by decide +kernel
theorem d_M_init_22 : decode b_M_init 22 = .ok (.bipush 10, 2) := by decide +kernel
theorem d_M_init_24 : decode b_M_init 24 = .ok (.newarray .int, 2) := by decide +kernel
theorem d_M_init_26 : decode b_M_init 26 = .ok (.putfield 16, 3) := by decide +kernel
theorem d_M_init_29 : decode b_M_init 29 = .ok (.aload_n 0, 1) := by decide +kernel
theorem d_M_init_30 : decode b_M_init 30 = .ok (.bipush 10, 2) := by decide +kernel
theorem d_M_init_32 : decode b_M_init 32 = .ok (.newarray .int, 2) := by decide +kernel
theorem d_M_init_34 : decode b_M_init 34 = .ok (.putfield 19, 3) := by decide +kernel
theorem d_M_init_37 : decode b_M_init 37 = .ok (.aload_n 0, 1) := by decide +kernel
theorem d_M_init_38 : decode b_M_init 38 = .ok (.iconst (-1), 1) := by decide +kernel
theorem d_M_init_39 : decode b_M_init 39 = .ok (.putfield 22, 3) := by decide +kernel
theorem d_M_init_42 : decode b_M_init 42 = .ok (.aload_n 0, 1) := by decide +kernel
theorem d_M_init_43 : decode b_M_init 43 = .ok (.iload_n 1, 1) := by decide +kernel
theorem d_M_init_44 : decode b_M_init 44 = .ok (.iconst 4, 1) := by decide +kernel
theorem d_M_init_45 : decode b_M_init 45 = .ok (.if_icmp .ge 7, 3) := by decide +kernel
theorem d_M_init_48 : decode b_M_init 48 = .ok (.iconst 4, 1) := by decide +kernel
theorem d_M_init_49 : decode b_M_init 49 = .ok (.goto 15, 3) := by decide +kernel
theorem d_M_init_52 : decode b_M_init 52 = .ok (.iload_n 1, 1) := by decide +kernel
theorem d_M_init_53 : decode b_M_init 53 = .ok (.bipush 10, 2) := by decide +kernel
theorem d_M_init_55 : decode b_M_init 55 = .ok (.if_icmp .le 8, 3) := by decide +kernel
theorem d_M_init_58 : decode b_M_init 58 = .ok (.bipush 10, 2) := by decide +kernel
theorem d_M_init_60 : decode b_M_init 60 = .ok (.goto 4, 3) := by decide +kernel
theorem d_M_init_63 : decode b_M_init 63 = .ok (.iload_n 1, 1) := by decide +kernel
theorem d_M_init_64 : decode b_M_init 64 = .ok (.putfield 26, 3) := by decide +kernel
theorem d_M_init_67 : decode b_M_init 67 = .ok (.aload_n 0, 1) := by decide +kernel
theorem d_M_init_68 : decode b_M_init 68 = .ok (.iload_n 2, 1) := by decide +kernel
theorem d_M_init_69 : decode b_M_init 69 = .ok (.iconst 1, 1) := by decide +kernel
theorem d_M_init_70 : decode b_M_init 70 = .ok (.if_icmp .ge 7, 3) := by decide +kernel
theorem d_M_init_73 : decode b_M_init 73 = .ok (.iconst 1, 1) := by decide +kernel
theorem d_M_init_74 : decode b_M_init 74 = .ok (.goto 15, 3) := by decide +kernel
theorem d_M_init_77 : decode b_M_init 77 = .ok (.iload_n 2, 1) := by decide +kernel
theorem d_M_init_78 : decode b_M_init 78 = .ok (.bipush 16, 2) := by decide +kernel
theorem d_M_init_80 : decode b_M_init 80 = .ok (.if_icmp .le 8, 3) := by decide +kernel
theorem d_M_init_83 : decode b_M_init 83 = .ok (.bipush 16, 2) := by decide +kernel
theorem d_M_init_85 : decode b_M_init 85 = .ok (.goto 4, 3) := by decide +kernel
theorem d_M_init_88 : decode b_M_init 88 = .ok (.iload_n 2, 1) := by decide +kernel
theorem d_M_init_89 : decode b_M_init 89 = .ok (.putfield 29, 3) := by decide +kernel
theorem d_M_init_92 : decode b_M_init 92 = .ok (.aload_n 0, 1) := by decide +kernel
theorem d_M_init_93 : decode b_M_init 93 = .ok (.iload_n 3, 1) := by decide +kernel
theorem d_M_init_94 : decode b_M_init 94 = .ok (.ifCond .ge 7, 3) := by decide +kernel
theorem d_M_init_97 : decode b_M_init 97 = .ok (.iconst 0, 1) := by decide +kernel
theorem d_M_init_98 : decode b_M_init 98 = .ok (.goto 13, 3) := by decide +kernel
theorem d_M_init_101 : decode b_M_init 101 = .ok (.iload_n 3, 1) := by decide +kernel
theorem d_M_init_102 : decode b_M_init 102 = .ok (.iconst 4, 1) := by decide +kernel
theorem d_M_init_103 : decode b_M_init 103 = .ok (.if_icmp .le 7, 3) := by decide +kernel
theorem d_M_init_106 : decode b_M_init 106 = .ok (.iconst 4, 1) := by decide +kernel
theorem d_M_init_107 : decode b_M_init 107 = .ok (.goto 4, 3) := by decide +kernel
theorem d_M_init_110 : decode b_M_init 110 = .ok (.iload_n 3, 1) := by decide +kernel
theorem d_M_init_111 : decode b_M_init 111 = .ok (.putfield 32, 3) := by decide +kernel
theorem d_M_init_114 : decode b_M_init 114 = .ok (.iconst 0, 1) := by decide +kernel
theorem d_M_init_115 : decode b_M_init 115 = .ok (.istore 4, 2) := by decide +kernel
theorem d_M_init_117 : decode b_M_init 117 = .ok (.iload 4, 2) := by decide +kernel
theorem d_M_init_119 : decode b_M_init 119 = .ok (.aload_n 0, 1) := by decide +kernel
theorem d_M_init_120 : decode b_M_init 120 = .ok (.getfield 26, 3) := by decide +kernel
theorem d_M_init_123 : decode b_M_init 123 = .ok (.if_icmp .ge 20, 3) := by decide +kernel
theorem d_M_init_126 : decode b_M_init 126 = .ok (.aload_n 0, 1) := by decide +kernel
theorem d_M_init_127 : decode b_M_init 127 = .ok (.getfield 13, 3) := by decide +kernel
theorem d_M_init_130 : decode b_M_init 130 = .ok (.iload 4, 2) := by decide +kernel
theorem d_M_init_132 : decode b_M_init 132 = .ok (.aload_n 0, 1) := by decide +kernel
theorem d_M_init_133 : decode b_M_init 133 = .ok (.getfield 29, 3) := by decide +kernel
theorem d_M_init_136 : decode b_M_init 136 = .ok (.iastore, 1) := by decide +kernel
theorem d_M_init_137 : decode b_M_init 137 = .ok (.iinc 4 1, 3) := by decide +kernel
theorem d_M_init_140 : decode b_M_init 140 = .ok (.goto (-23), 3) := by decide +kernel
theorem d_M_init_143 : decode b_M_init 143 = .ok (.return_, 1) := by decide +kernel
theorem d_M_byteTimes_0 : decode b_M_byteTimes 0 = .ok (.iload_n 0, 1) := by decide +kernel
theorem d_M_byteTimes_1 : decode b_M_byteTimes 1 = .ok (.istore_n 2, 1) := by decide +kernel
theorem d_M_byteTimes_2 : decode b_M_byteTimes 2 = .ok (.iconst 0, 1) := by decide +kernel
theorem d_M_byteTimes_3 : decode b_M_byteTimes 3 = .ok (.istore_n 3, 1) := by decide +kernel
theorem d_M_byteTimes_4 : decode b_M_byteTimes 4 = .ok (.iload_n 3, 1) := by decide +kernel
theorem d_M_byteTimes_5 : decode b_M_byteTimes 5 = .ok (.iload_n 1, 1) := by decide +kernel
theorem d_M_byteTimes_6 : decode b_M_byteTimes 6 = .ok (.if_icmp .ge 33, 3) := by decide +kernel
theorem d_M_byteTimes_9 : decode b_M_byteTimes 9 = .ok (.iload_n 2, 1) := by decide +kernel
theorem d_M_byteTimes_10 : decode b_M_byteTimes 10 = .ok (.sipush 128, 3) := by decide +kernel
theorem d_M_byteTimes_13 : decode b_M_byteTimes 13 = .ok (.if_icmp .ge 9, 3) := by decide +kernel
theorem d_M_byteTimes_16 : decode b_M_byteTimes 16 = .ok (.iconst 2, 1) := by decide +kernel
theorem d_M_byteTimes_17 : decode b_M_byteTimes 17 = .ok (.iload_n 2, 1) := by decide +kernel
theorem d_M_byteTimes_18 : decode b_M_byteTimes 18 = .ok (.imul, 1) := by decide +kernel
theorem d_M_byteTimes_19 : decode b_M_byteTimes 19 = .ok (.goto 13, 3) := by decide +kernel
theorem d_M_byteTimes_22 : decode b_M_byteTimes 22 = .ok (.iconst 2, 1) := by decide +kernel
theorem d_M_byteTimes_23 : decode b_M_byteTimes 23 = .ok (.iload_n 2, 1) := by decide +kernel
theorem d_M_byteTimes_24 : decode b_M_byteTimes 24 = .ok (.imul, 1) := by decide +kernel
theorem d_M_byteTimes_25 : decode b_M_byteTimes 25 = .ok (.sipush 256, 3) := by decide +kernel
theorem d_M_byteTimes_28 : decode b_M_byteTimes 28 = .ok (.isub, 1) := by decide +kernel
theorem d_M_byteTimes_29 : decode b_M_byteTimes 29 = .ok (.bipush 29, 2) := by decide +kernel
theorem d_M_byteTimes_31 : decode b_M_byteTimes 31 = .ok (.ixor, 1) := by decide +kernel
theorem d_M_byteTimes_32 : decode b_M_byteTimes 32 = .ok (.istore_n 2, 1) := by decide +kernel
theorem d_M_byteTimes_33 : decode b_M_byteTimes 33 = .ok (.iinc 3 1, 3) := by decide +kernel
theorem d_M_byteTimes_36 : decode b_M_byteTimes 36 = .ok (.goto (-32), 3) := by decide +kernel
theorem d_M_byteTimes_39 : decode b_M_byteTimes 39 = .ok (.iload_n 2, 1) := by decide +kernel
theorem d_M_byteTimes_40 : decode b_M_byteTimes 40 = .ok (.ireturn, 1) := by decide +kernel
theorem d_M_times_0 : decode b_M_times 0 = .ok (.iconst 0, 1) := by decide +kernel
theorem d_M_times_1 : decode b_M_times 1 = .ok (.istore_n 2, 1) := by decide +kernel
theorem d_M_times_2 : decode b_M_times 2 = .ok (.iconst 0, 1) := by decide +kernel
theorem d_M_times_3 : decode b_M_times 3 = .ok (.istore_n 3, 1) := by decide +kernel
theorem d_M_times_4 : decode b_M_times 4 = .ok (.iload_n 3, 1) := by decide +kernel
theorem d_M_times_5 : decode b_M_times 5 = .ok (.bipush 32, 2) := by decide +kernel
theorem d_M_times_7 : decode b_M_times 7 = .ok (.if_icmp .ge 29, 3) := by decide +kernel
theorem d_M_times_10 : decode b_M_times 10 = .ok (.iload_n 0, 1) := by decide +kernel
theorem d_M_times_11 : decode b_M_times 11 = .ok (.iload_n 3, 1) := by decide +kernel
theorem d_M_times_12 : decode b_M_times 12 = .ok (.iushr, 1) := by decide +kernel
theorem d_M_times_13 : decode b_M_times 13 = .ok (.sipush 255, 3) := by decide +kernel
theorem d_M_times_16 : decode b_M_times 16 = .ok (.iand, 1) := by decide +kernel
theorem d_M_times_17 : decode b_M_times 17 = .ok (.istore 4, 2) := by decide +kernel
theorem d_M_times_19 : decode b_M_times 19 = .ok (.iload_n 2, 1) := by decide +kernel
theorem d_M_times_20 : decode b_M_times 20 = .ok (.iload 4, 2) := by decide +kernel
theorem d_M_times_22 : decode b_M_times 22 = .ok (.iload_n 1, 1) := by decide +kernel
theorem d_M_times_23 : decode b_M_times 23 = .ok (.invokestatic 35, 3) := by decide +kernel
theorem d_M_times_26 : decode b_M_times 26 = .ok (.iload_n 3, 1) := by decide +kernel
theorem d_M_times_27 : decode b_M_times 27 = .ok (.ishl, 1) := by decide +kernel
theorem d_M_times_28 : decode b_M_times 28 = .ok (.ior, 1) := by decide +kernel
theorem d_M_times_29 : decode b_M_times 29 = .ok (.istore_n 2, 1) := by decide +kernel
theorem d_M_times_30 : decode b_M_times 30 = .ok (.iinc 3 8, 3) := by decide +kernel
theorem d_M_times_33 : decode b_M_times 33 = .ok (.goto (-29), 3) := by decide +kernel
theorem d_M_times_36 : decode b_M_times 36 = .ok (.iload_n 2, 1) := by decide +kernel
theorem d_M_times_37 : decode b_M_times 37 = .ok (.ireturn, 1) := by decide +kernel
theorem d_M_diskOf_0 : decode b_M_diskOf 0 = .ok (.aload_n 0, 1) := by decide +kernel
theorem d_M_diskOf_1 : decode b_M_diskOf 1 = .ok (.getfield 26, 3) := by decide +kernel
theorem d_M_diskOf_4 : decode b_M_diskOf 4 = .ok (.iconst 1, 1) := by decide +kernel
theorem d_M_diskOf_5 : decode b_M_diskOf 5 = .ok (.isub, 1) := by decide +kernel
theorem d_M_diskOf_6 : decode b_M_diskOf 6 = .ok (.iload_n 2, 1) := by decide +kernel
theorem d_M_diskOf_7 : decode b_M_diskOf 7 = .ok (.aload_n 0, 1) := by decide +kernel
theorem d_M_diskOf_8 : decode b_M_diskOf 8 = .ok (.getfield 26, 3) := by decide +kernel
theorem d_M_diskOf_11 : decode b_M_diskOf 11 = .ok (.irem, 1) := by decide +kernel
theorem d_M_diskOf_12 : decode b_M_diskOf 12 = .ok (.isub, 1) := by decide +kernel
theorem d_M_diskOf_13 : decode b_M_diskOf 13 = .ok (.istore_n 3, 1) := by decide +kernel
theorem d_M_diskOf_14 : decode b_M_diskOf 14 = .ok (.iload_n 1, 1) := by decide +kernel
theorem d_M_diskOf_15 : decode b_M_diskOf 15 = .ok (.bipush 8, 2) := by decide +kernel
theorem d_M_diskOf_17 : decode b_M_diskOf 17 = .ok (.if_icmp .ne 7, 3) := by decide +kernel
theorem d_M_diskOf_20 : decode b_M_diskOf 20 = .ok (.iload_n 3, 1) := by decide +kernel
theorem d_M_diskOf_21 : decode b_M_diskOf 21 = .ok (.goto 30, 3) := by decide +kernel
theorem d_M_diskOf_24 : decode b_M_diskOf 24 = .ok (.iload_n 1, 1) := by decide +kernel
theorem d_M_diskOf_25 : decode b_M_diskOf 25 = .ok (.bipush 9, 2) := by decide +kernel
theorem d_M_diskOf_27 : decode b_M_diskOf 27 = .ok (.if_icmp .ne 14, 3) := by decide +kernel
theorem d_M_diskOf_30 : decode b_M_diskOf 30 = .ok (.iload_n 3, 1) := by decide +kernel
theorem d_M_diskOf_31 : decode b_M_diskOf 31 = .ok (.iconst 1, 1) := by decide +kernel
theorem d_M_diskOf_32 : decode b_M_diskOf 32 = .ok (.iadd, 1) := by decide +kernel
theorem d_M_diskOf_33 : decode b_M_diskOf 33 = .ok (.aload_n 0, 1) := by decide +kernel
theorem d_M_diskOf_34 : decode b_M_diskOf 34 = .ok (.getfield 26, 3) := by decide +kernel
theorem d_M_diskOf_37 : decode b_M_diskOf 37 = .ok (.irem, 1) := by decide +kernel
theorem d_M_diskOf_38 : decode b_M_diskOf 38 = .ok (.goto 13, 3) := by decide +kernel
theorem d_M_diskOf_41 : decode b_M_diskOf 41 = .ok (.iload_n 3, 1) := by decide +kernel
theorem d_M_diskOf_42 : decode b_M_diskOf 42 = .ok (.iconst 2, 1) := by decide +kernel
theorem d_M_diskOf_43 : decode b_M_diskOf 43 = .ok (.iadd, 1) := by decide +kernel
theorem d_M_diskOf_44 : decode b_M_diskOf 44 = .ok (.iload_n 1, 1) := by decide +kernel
theorem d_M_diskOf_45 : decode b_M_diskOf 45 = .ok (.iadd, 1) := by decide +kernel
theorem d_M_diskOf_46 : decode b_M_diskOf 46 = .ok (.aload_n 0, 1) := by decide +kernel
theorem d_M_diskOf_47 : decode b_M_diskOf 47 = .ok (.getfield 26, 3) := by decide +kernel
theorem d_M_diskOf_50 : decode b_M_diskOf 50 = .ok (.irem, 1) := by decide +kernel
theorem d_M_diskOf_51 : decode b_M_diskOf 51 = .ok (.ireturn, 1) := by decide +kernel
theorem d_M_has_0 : decode b_M_has 0 = .ok (.aload_n 0, 1) := by decide +kernel
theorem d_M_has_1 : decode b_M_has 1 = .ok (.getfield 13, 3) := by decide +kernel
theorem d_M_has_4 : decode b_M_has 4 = .ok (.aload_n 0, 1) := by decide +kernel
theorem d_M_has_5 : decode b_M_has 5 = .ok (.iload_n 1, 1) := by decide +kernel
theorem d_M_has_6 : decode b_M_has 6 = .ok (.iload_n 2, 1) := by decide +kernel
theorem d_M_has_7 : decode b_M_has 7 = .ok (.invokevirtual 39, 3) := by decide +kernel
theorem d_M_has_10 : decode b_M_has 10 = .ok (.iaload, 1) := by decide +kernel
theorem d_M_has_11 : decode b_M_has 11 = .ok (.iload_n 2, 1) := by decide +kernel
theorem d_M_has_12 : decode b_M_has 12 = .ok (.if_icmp .le 7, 3) := by decide +kernel
theorem d_M_has_15 : decode b_M_has 15 = .ok (.iconst 1, 1) := by decide +kernel
theorem d_M_has_16 : decode b_M_has 16 = .ok (.goto 4, 3) := by decide +kernel
theorem d_M_has_19 : decode b_M_has 19 = .ok (.iconst 0, 1) := by decide +kernel
theorem d_M_has_20 : decode b_M_has 20 = .ok (.ireturn, 1) := by decide +kernel
theorem d_M_cellOf_0 : decode b_M_cellOf 0 = .ok (.aload_n 0, 1) := by decide +kernel
theorem d_M_cellOf_1 : decode b_M_cellOf 1 = .ok (.getfield 7, 3) := by decide +kernel
theorem d_M_cellOf_4 : decode b_M_cellOf 4 = .ok (.bipush 16, 2) := by decide +kernel
theorem d_M_cellOf_6 : decode b_M_cellOf 6 = .ok (.aload_n 0, 1) := by decide +kernel
theorem d_M_cellOf_7 : decode b_M_cellOf 7 = .ok (.iload_n 1, 1) := by decide +kernel
theorem d_M_cellOf_8 : decode b_M_cellOf 8 = .ok (.iload_n 2, 1) := by decide +kernel
theorem d_M_cellOf_9 : decode b_M_cellOf 9 = .ok (.invokevirtual 39, 3) := by decide +kernel
theorem d_M_cellOf_12 : decode b_M_cellOf 12 = .ok (.imul, 1) := by decide +kernel
theorem d_M_cellOf_13 : decode b_M_cellOf 13 = .ok (.iload_n 2, 1) := by decide +kernel
theorem d_M_cellOf_14 : decode b_M_cellOf 14 = .ok (.iadd, 1) := by decide +kernel
theorem d_M_cellOf_15 : decode b_M_cellOf 15 = .ok (.iaload, 1) := by decide +kernel
theorem d_M_cellOf_16 : decode b_M_cellOf 16 = .ok (.ireturn, 1) := by decide +kernel
theorem d_M_isBlock_0 : decode b_M_isBlock 0 = .ok (.iload_n 1, 1) := by decide +kernel
theorem d_M_isBlock_1 : decode b_M_isBlock 1 = .ok (.ifCond .lt 22, 3) := by decide +kernel
theorem d_M_isBlock_4 : decode b_M_isBlock 4 = .ok (.iload_n 1, 1) := by decide +kernel
theorem d_M_isBlock_5 : decode b_M_isBlock 5 = .ok (.aload_n 0, 1) := by decide +kernel
theorem d_M_isBlock_6 : decode b_M_isBlock 6 = .ok (.getfield 29, 3) := by decide +kernel
theorem d_M_isBlock_9 : decode b_M_isBlock 9 = .ok (.aload_n 0, 1) := by decide +kernel
theorem d_M_isBlock_10 : decode b_M_isBlock 10 = .ok (.getfield 26, 3) := by decide +kernel
theorem d_M_isBlock_13 : decode b_M_isBlock 13 = .ok (.iconst 2, 1) := by decide +kernel
theorem d_M_isBlock_14 : decode b_M_isBlock 14 = .ok (.isub, 1) := by decide +kernel
theorem d_M_isBlock_15 : decode b_M_isBlock 15 = .ok (.imul, 1) := by decide +kernel
theorem d_M_isBlock_16 : decode b_M_isBlock 16 = .ok (.if_icmp .ge 7, 3) := by decide +kernel
theorem d_M_isBlock_19 : decode b_M_isBlock 19 = .ok (.iconst 1, 1) := by decide +kernel
theorem d_M_isBlock_20 : decode b_M_isBlock 20 = .ok (.goto 4, 3) := by decide +kernel
theorem d_M_isBlock_23 : decode b_M_isBlock 23 = .ok (.iconst 0, 1) := by decide +kernel
theorem d_M_isBlock_24 : decode b_M_isBlock 24 = .ok (.ireturn, 1) := by decide +kernel
theorem d_M_broken_0 : decode b_M_broken 0 = .ok (.iconst 0, 1) := by decide +kernel
theorem d_M_broken_1 : decode b_M_broken 1 = .ok (.istore_n 1, 1) := by decide +kernel
theorem d_M_broken_2 : decode b_M_broken 2 = .ok (.iconst 0, 1) := by decide +kernel
theorem d_M_broken_3 : decode b_M_broken 3 = .ok (.istore_n 2, 1) := by decide +kernel
theorem d_M_broken_4 : decode b_M_broken 4 = .ok (.iload_n 2, 1) := by decide +kernel
theorem d_M_broken_5 : decode b_M_broken 5 = .ok (.aload_n 0, 1) := by decide +kernel
theorem d_M_broken_6 : decode b_M_broken 6 = .ok (.getfield 26, 3) := by decide +kernel
theorem d_M_broken_9 : decode b_M_broken 9 = .ok (.if_icmp .ge 30, 3) := by decide +kernel
theorem d_M_broken_12 : decode b_M_broken 12 = .ok (.iload_n 1, 1) := by decide +kernel
theorem d_M_broken_13 : decode b_M_broken 13 = .ok (.aload_n 0, 1) := by decide +kernel
theorem d_M_broken_14 : decode b_M_broken 14 = .ok (.getfield 13, 3) := by decide +kernel
theorem d_M_broken_17 : decode b_M_broken 17 = .ok (.iload_n 2, 1) := by decide +kernel
theorem d_M_broken_18 : decode b_M_broken 18 = .ok (.iaload, 1) := by decide +kernel
theorem d_M_broken_19 : decode b_M_broken 19 = .ok (.aload_n 0, 1) := by decide +kernel
theorem d_M_broken_20 : decode b_M_broken 20 = .ok (.getfield 29, 3) := by decide +kernel
theorem d_M_broken_23 : decode b_M_broken 23 = .ok (.if_icmp .ge 7, 3) := by decide +kernel
theorem d_M_broken_26 : decode b_M_broken 26 = .ok (.iconst 1, 1) := by decide +kernel
theorem d_M_broken_27 : decode b_M_broken 27 = .ok (.goto 4, 3) := by decide +kernel
theorem d_M_broken_30 : decode b_M_broken 30 = .ok (.iconst 0, 1) := by decide +kernel
theorem d_M_broken_31 : decode b_M_broken 31 = .ok (.iadd, 1) := by decide +kernel
theorem d_M_broken_32 : decode b_M_broken 32 = .ok (.istore_n 1, 1) := by decide +kernel
theorem d_M_broken_33 : decode b_M_broken 33 = .ok (.iinc 2 1, 3) := by decide +kernel
theorem d_M_broken_36 : decode b_M_broken 36 = .ok (.goto (-32), 3) := by decide +kernel
theorem d_M_broken_39 : decode b_M_broken 39 = .ok (.iload_n 1, 1) := by decide +kernel
theorem d_M_broken_40 : decode b_M_broken 40 = .ok (.iconst 3, 1) := by decide +kernel
theorem d_M_broken_41 : decode b_M_broken 41 = .ok (.if_icmp .lt 7, 3) := by decide +kernel
theorem d_M_broken_44 : decode b_M_broken 44 = .ok (.iconst 1, 1) := by decide +kernel
theorem d_M_broken_45 : decode b_M_broken 45 = .ok (.goto 4, 3) := by decide +kernel
theorem d_M_broken_48 : decode b_M_broken 48 = .ok (.iconst 0, 1) := by decide +kernel
theorem d_M_broken_49 : decode b_M_broken 49 = .ok (.ireturn, 1) := by decide +kernel
theorem d_M_availableIn_0 : decode b_M_availableIn 0 = .ok (.iconst 0, 1) := by decide +kernel
theorem d_M_availableIn_1 : decode b_M_availableIn 1 = .ok (.istore_n 2, 1) := by decide +kernel
theorem d_M_availableIn_2 : decode b_M_availableIn 2 = .ok (.iconst 0, 1) := by decide +kernel
theorem d_M_availableIn_3 : decode b_M_availableIn 3 = .ok (.istore_n 3, 1) := by decide +kernel
theorem d_M_availableIn_4 : decode b_M_availableIn 4 = .ok (.iload_n 3, 1) := by decide +kernel
theorem d_M_availableIn_5 : decode b_M_availableIn 5 = .ok (.aload_n 0, 1) := by decide +kernel
theorem d_M_availableIn_6 : decode b_M_availableIn 6 = .ok (.getfield 26, 3) := by decide +kernel
theorem d_M_availableIn_9 : decode b_M_availableIn 9 = .ok (.if_icmp .ge 27, 3) := by decide +kernel
theorem d_M_availableIn_12 : decode b_M_availableIn 12 = .ok (.iload_n 2, 1) := by decide +kernel
theorem d_M_availableIn_13 : decode b_M_availableIn 13 = .ok (.aload_n 0, 1) := by decide +kernel
theorem d_M_availableIn_14 : decode b_M_availableIn 14 = .ok (.getfield 13, 3) := by decide +kernel
theorem d_M_availableIn_17 : decode b_M_availableIn 17 = .ok (.iload_n 3, 1) := by decide +kernel
theorem d_M_availableIn_18 : decode b_M_availableIn 18 = .ok (.iaload, 1) := by decide +kernel
theorem d_M_availableIn_19 : decode b_M_availableIn 19 = .ok (.iload_n 1, 1) := by decide +kernel
theorem d_M_availableIn_20 : decode b_M_availableIn 20 = .ok (.if_icmp .le 7, 3) := by decide +kernel
theorem d_M_availableIn_23 : decode b_M_availableIn 23 = .ok (.iconst 1, 1) := by decide +kernel
theorem d_M_availableIn_24 : decode b_M_availableIn 24 = .ok (.goto 4, 3) := by decide +kernel
theorem d_M_availableIn_27 : decode b_M_availableIn 27 = .ok (.iconst 0, 1) := by decide +kernel
theorem d_M_availableIn_28 : decode b_M_availableIn 28 = .ok (.iadd, 1) := by decide +kernel
theorem d_M_availableIn_29 : decode b_M_availableIn 29 = .ok (.istore_n 2, 1) := by decide +kernel
theorem d_M_availableIn_30 : decode b_M_availableIn 30 = .ok (.iinc 3 1, 3) := by decide +kernel
theorem d_M_availableIn_33 : decode b_M_availableIn 33 = .ok (.goto (-29), 3) := by decide +kernel
theorem d_M_availableIn_36 : decode b_M_availableIn 36 = .ok (.iload_n 2, 1) := by decide +kernel
theorem d_M_availableIn_37 : decode b_M_availableIn 37 = .ok (.ireturn, 1) := by decide +kernel
theorem d_M_sum_0 : decode b_M_sum 0 = .ok (.iconst 0, 1) := by decide +kernel
theorem d_M_sum_1 : decode b_M_sum 1 = .ok (.istore_n 1, 1) := by decide +kernel
theorem d_M_sum_2 : decode b_M_sum 2 = .ok (.iconst 0, 1) := by decide +kernel
theorem d_M_sum_3 : decode b_M_sum 3 = .ok (.istore_n 2, 1) := by decide +kernel
theorem d_M_sum_4 : decode b_M_sum 4 = .ok (.iload_n 2, 1) := by decide +kernel
theorem d_M_sum_5 : decode b_M_sum 5 = .ok (.aload_n 0, 1) := by decide +kernel
theorem d_M_sum_6 : decode b_M_sum 6 = .ok (.getfield 26, 3) := by decide +kernel
theorem d_M_sum_9 : decode b_M_sum 9 = .ok (.iconst 2, 1) := by decide +kernel
theorem d_M_sum_10 : decode b_M_sum 10 = .ok (.isub, 1) := by decide +kernel
theorem d_M_sum_11 : decode b_M_sum 11 = .ok (.if_icmp .ge 18, 3) := by decide +kernel
theorem d_M_sum_14 : decode b_M_sum 14 = .ok (.iload_n 1, 1) := by decide +kernel
theorem d_M_sum_15 : decode b_M_sum 15 = .ok (.aload_n 0, 1) := by decide +kernel
theorem d_M_sum_16 : decode b_M_sum 16 = .ok (.getfield 16, 3) := by decide +kernel
theorem d_M_sum_19 : decode b_M_sum 19 = .ok (.iload_n 2, 1) := by decide +kernel
theorem d_M_sum_20 : decode b_M_sum 20 = .ok (.iaload, 1) := by decide +kernel
theorem d_M_sum_21 : decode b_M_sum 21 = .ok (.ixor, 1) := by decide +kernel
theorem d_M_sum_22 : decode b_M_sum 22 = .ok (.istore_n 1, 1) := by decide +kernel
theorem d_M_sum_23 : decode b_M_sum 23 = .ok (.iinc 2 1, 3) := by decide +kernel
theorem d_M_sum_26 : decode b_M_sum 26 = .ok (.goto (-22), 3) := by decide +kernel
theorem d_M_sum_29 : decode b_M_sum 29 = .ok (.iload_n 1, 1) := by decide +kernel
theorem d_M_sum_30 : decode b_M_sum 30 = .ok (.ireturn, 1) := by decide +kernel
theorem d_M_weighted_0 : decode b_M_weighted 0 = .ok (.iconst 0, 1) := by decide +kernel
theorem d_M_weighted_1 : decode b_M_weighted 1 = .ok (.istore_n 1, 1) := by decide +kernel
theorem d_M_weighted_2 : decode b_M_weighted 2 = .ok (.iconst 0, 1) := by decide +kernel
theorem d_M_weighted_3 : decode b_M_weighted 3 = .ok (.istore_n 2, 1) := by decide +kernel
theorem d_M_weighted_4 : decode b_M_weighted 4 = .ok (.iload_n 2, 1) := by decide +kernel
theorem d_M_weighted_5 : decode b_M_weighted 5 = .ok (.aload_n 0, 1) := by decide +kernel
theorem d_M_weighted_6 : decode b_M_weighted 6 = .ok (.getfield 26, 3) := by decide +kernel
theorem d_M_weighted_9 : decode b_M_weighted 9 = .ok (.iconst 2, 1) := by decide +kernel
theorem d_M_weighted_10 : decode b_M_weighted 10 = .ok (.isub, 1) := by decide +kernel
theorem d_M_weighted_11 : decode b_M_weighted 11 = .ok (.if_icmp .ge 22, 3) := by decide +kernel
theorem d_M_weighted_14 : decode b_M_weighted 14 = .ok (.iload_n 1, 1) := by decide +kernel
theorem d_M_weighted_15 : decode b_M_weighted 15 = .ok (.aload_n 0, 1) := by decide +kernel
theorem d_M_weighted_16 : decode b_M_weighted 16 = .ok (.getfield 16, 3) := by decide +kernel
theorem d_M_weighted_19 : decode b_M_weighted 19 = .ok (.iload_n 2, 1) := by decide +kernel
theorem d_M_weighted_20 : decode b_M_weighted 20 = .ok (.iaload, 1) := by decide +kernel
theorem d_M_weighted_21 : decode b_M_weighted 21 = .ok (.iload_n 2, 1) := by decide +kernel
theorem d_M_weighted_22 : decode b_M_weighted 22 = .ok (.invokestatic 42, 3) := by decide +kernel
theorem d_M_weighted_25 : decode b_M_weighted 25 = .ok (.ixor, 1) := by decide +kernel
theorem d_M_weighted_26 : decode b_M_weighted 26 = .ok (.istore_n 1, 1) := by decide +kernel
theorem d_M_weighted_27 : decode b_M_weighted 27 = .ok (.iinc 2 1, 3) := by decide +kernel
theorem d_M_weighted_30 : decode b_M_weighted 30 = .ok (.goto (-26), 3) := by decide +kernel
theorem d_M_weighted_33 : decode b_M_weighted 33 = .ok (.iload_n 1, 1) := by decide +kernel
theorem d_M_weighted_34 : decode b_M_weighted 34 = .ok (.ireturn, 1) := by decide +kernel
theorem d_M_unTimes_0 : decode b_M_unTimes 0 = .ok (.iconst 0, 1) := by decide +kernel
theorem d_M_unTimes_1 : decode b_M_unTimes 1 = .ok (.istore_n 2, 1) := by decide +kernel
theorem d_M_unTimes_2 : decode b_M_unTimes 2 = .ok (.iconst 0, 1) := by decide +kernel
theorem d_M_unTimes_3 : decode b_M_unTimes 3 = .ok (.istore_n 3, 1) := by decide +kernel
theorem d_M_unTimes_4 : decode b_M_unTimes 4 = .ok (.iload_n 3, 1) := by decide +kernel
theorem d_M_unTimes_5 : decode b_M_unTimes 5 = .ok (.bipush 32, 2) := by decide +kernel
theorem d_M_unTimes_7 : decode b_M_unTimes 7 = .ok (.if_icmp .ge 53, 3) := by decide +kernel
theorem d_M_unTimes_10 : decode b_M_unTimes 10 = .ok (.iconst 0, 1) := by decide +kernel
theorem d_M_unTimes_11 : decode b_M_unTimes 11 = .ok (.istore 4, 2) := by decide +kernel
theorem d_M_unTimes_13 : decode b_M_unTimes 13 = .ok (.iload 4, 2) := by decide +kernel
theorem d_M_unTimes_15 : decode b_M_unTimes 15 = .ok (.sipush 256, 3) := by decide +kernel
theorem d_M_unTimes_18 : decode b_M_unTimes 18 = .ok (.if_icmp .ge 36, 3) := by decide +kernel
theorem d_M_unTimes_21 : decode b_M_unTimes 21 = .ok (.iload_n 2, 1) := by decide +kernel
theorem d_M_unTimes_22 : decode b_M_unTimes 22 = .ok (.iload 4, 2) := by decide +kernel
theorem d_M_unTimes_24 : decode b_M_unTimes 24 = .ok (.iload_n 1, 1) := by decide +kernel
theorem d_M_unTimes_25 : decode b_M_unTimes 25 = .ok (.invokestatic 35, 3) := by decide +kernel
theorem d_M_unTimes_28 : decode b_M_unTimes 28 = .ok (.iload_n 0, 1) := by decide +kernel
theorem d_M_unTimes_29 : decode b_M_unTimes 29 = .ok (.iload_n 3, 1) := by decide +kernel
theorem d_M_unTimes_30 : decode b_M_unTimes 30 = .ok (.iushr, 1) := by decide +kernel
theorem d_M_unTimes_31 : decode b_M_unTimes 31 = .ok (.sipush 255, 3) := by decide +kernel
theorem d_M_unTimes_34 : decode b_M_unTimes 34 = .ok (.iand, 1) := by decide +kernel
theorem d_M_unTimes_35 : decode b_M_unTimes 35 = .ok (.if_icmp .ne 10, 3) := by decide +kernel
theorem d_M_unTimes_38 : decode b_M_unTimes 38 = .ok (.iload 4, 2) := by decide +kernel
theorem d_M_unTimes_40 : decode b_M_unTimes 40 = .ok (.iload_n 3, 1) := by decide +kernel
theorem d_M_unTimes_41 : decode b_M_unTimes 41 = .ok (.ishl, 1) := by decide +kernel
theorem d_M_unTimes_42 : decode b_M_unTimes 42 = .ok (.goto 4, 3) := by decide +kernel
theorem d_M_unTimes_45 : decode b_M_unTimes 45 = .ok (.iconst 0, 1) := by decide +kernel
theorem d_M_unTimes_46 : decode b_M_unTimes 46 = .ok (.ior, 1) := by decide +kernel
theorem d_M_unTimes_47 : decode b_M_unTimes 47 = .ok (.istore_n 2, 1) := by decide +kernel
theorem d_M_unTimes_48 : decode b_M_unTimes 48 = .ok (.iinc 4 1, 3) := by decide +kernel
theorem d_M_unTimes_51 : decode b_M_unTimes 51 = .ok (.goto (-38), 3) := by decide +kernel
theorem d_M_unTimes_54 : decode b_M_unTimes 54 = .ok (.iinc 3 8, 3) := by decide +kernel
theorem d_M_unTimes_57 : decode b_M_unTimes 57 = .ok (.goto (-53), 3) := by decide +kernel
theorem d_M_unTimes_60 : decode b_M_unTimes 60 = .ok (.iload_n 2, 1) := by decide +kernel
theorem d_M_unTimes_61 : decode b_M_unTimes 61 = .ok (.ireturn, 1) := by decide +kernel
theorem d_M_solve_0 : decode b_M_solve 0 = .ok (.iconst 0, 1) := by decide +kernel
theorem d_M_solve_1 : decode b_M_solve 1 = .ok (.istore 4, 2) := by decide +kernel
theorem d_M_solve_3 : decode b_M_solve 3 = .ok (.iconst 0, 1) := by decide +kernel
theorem d_M_solve_4 : decode b_M_solve 4 = .ok (.istore 5, 2) := by decide +kernel
theorem d_M_solve_6 : decode b_M_solve 6 = .ok (.iload 5, 2) := by decide +kernel
theorem d_M_solve_8 : decode b_M_solve 8 = .ok (.bipush 32, 2) := by decide +kernel
theorem d_M_solve_10 : decode b_M_solve 10 = .ok (.if_icmp .ge 85, 3) := by decide +kernel
theorem d_M_solve_13 : decode b_M_solve 13 = .ok (.iload_n 2, 1) := by decide +kernel
theorem d_M_solve_14 : decode b_M_solve 14 = .ok (.iload 5, 2) := by decide +kernel
theorem d_M_solve_16 : decode b_M_solve 16 = .ok (.iushr, 1) := by decide +kernel
theorem d_M_solve_17 : decode b_M_solve 17 = .ok (.sipush 255, 3) := by decide +kernel
theorem d_M_solve_20 : decode b_M_solve 20 = .ok (.iand, 1) := by decide +kernel
theorem d_M_solve_21 : decode b_M_solve 21 = .ok (.istore 6, 2) := by decide +kernel
theorem d_M_solve_23 : decode b_M_solve 23 = .ok (.iload_n 3, 1) := by decide +kernel
theorem d_M_solve_24 : decode b_M_solve 24 = .ok (.iload 5, 2) := by decide +kernel
theorem d_M_solve_26 : decode b_M_solve 26 = .ok (.iushr, 1) := by decide +kernel
theorem d_M_solve_27 : decode b_M_solve 27 = .ok (.sipush 255, 3) := by decide +kernel
theorem d_M_solve_30 : decode b_M_solve 30 = .ok (.iand, 1) := by decide +kernel
theorem d_M_solve_31 : decode b_M_solve 31 = .ok (.istore 7, 2) := by decide +kernel
theorem d_M_solve_33 : decode b_M_solve 33 = .ok (.iconst 0, 1) := by decide +kernel
theorem d_M_solve_34 : decode b_M_solve 34 = .ok (.istore 8, 2) := by decide +kernel
theorem d_M_solve_36 : decode b_M_solve 36 = .ok (.iload 8, 2) := by decide +kernel
theorem d_M_solve_38 : decode b_M_solve 38 = .ok (.sipush 256, 3) := by decide +kernel
theorem d_M_solve_41 : decode b_M_solve 41 = .ok (.if_icmp .ge 48, 3) := by decide +kernel
theorem d_M_solve_44 : decode b_M_solve 44 = .ok (.iload 8, 2) := by decide +kernel
theorem d_M_solve_46 : decode b_M_solve 46 = .ok (.iload_n 0, 1) := by decide +kernel
theorem d_M_solve_47 : decode b_M_solve 47 = .ok (.invokestatic 35, 3) := by decide +kernel
theorem d_M_solve_50 : decode b_M_solve 50 = .ok (.iload 8, 2) := by decide +kernel
theorem d_M_solve_52 : decode b_M_solve 52 = .ok (.iload 6, 2) := by decide +kernel
theorem d_M_solve_54 : decode b_M_solve 54 = .ok (.ixor, 1) := by decide +kernel
theorem d_M_solve_55 : decode b_M_solve 55 = .ok (.iload_n 1, 1) := by decide +kernel
theorem d_M_solve_56 : decode b_M_solve 56 = .ok (.invokestatic 35, 3) := by decide +kernel
theorem d_M_solve_59 : decode b_M_solve 59 = .ok (.ixor, 1) := by decide +kernel
theorem d_M_solve_60 : decode b_M_solve 60 = .ok (.istore 9, 2) := by decide +kernel
theorem d_M_solve_62 : decode b_M_solve 62 = .ok (.iload 4, 2) := by decide +kernel
theorem d_M_solve_64 : decode b_M_solve 64 = .ok (.iload 9, 2) := by decide +kernel
theorem d_M_solve_66 : decode b_M_solve 66 = .ok (.iload 7, 2) := by decide +kernel
theorem d_M_solve_68 : decode b_M_solve 68 = .ok (.if_icmp .ne 11, 3) := by decide +kernel
theorem d_M_solve_71 : decode b_M_solve 71 = .ok (.iload 8, 2) := by decide +kernel
theorem d_M_solve_73 : decode b_M_solve 73 = .ok (.iload 5, 2) := by decide +kernel
theorem d_M_solve_75 : decode b_M_solve 75 = .ok (.ishl, 1) := by decide +kernel
theorem d_M_solve_76 : decode b_M_solve 76 = .ok (.goto 4, 3) := by decide +kernel
theorem d_M_solve_79 : decode b_M_solve 79 = .ok (.iconst 0, 1) := by decide +kernel
theorem d_M_solve_80 : decode b_M_solve 80 = .ok (.ior, 1) := by decide +kernel
theorem d_M_solve_81 : decode b_M_solve 81 = .ok (.istore 4, 2) := by decide +kernel
theorem d_M_solve_83 : decode b_M_solve 83 = .ok (.iinc 8 1, 3) := by decide +kernel
theorem d_M_solve_86 : decode b_M_solve 86 = .ok (.goto (-50), 3) := by decide +kernel
theorem d_M_solve_89 : decode b_M_solve 89 = .ok (.iinc 5 8, 3) := by decide +kernel
theorem d_M_solve_92 : decode b_M_solve 92 = .ok (.goto (-86), 3) := by decide +kernel
theorem d_M_solve_95 : decode b_M_solve 95 = .ok (.iload 4, 2) := by decide +kernel
theorem d_M_solve_97 : decode b_M_solve 97 = .ok (.ireturn, 1) := by decide +kernel
theorem d_M_values_0 : decode b_M_values 0 = .ok (.iconst (-1), 1) := by decide +kernel
theorem d_M_values_1 : decode b_M_values 1 = .ok (.istore_n 2, 1) := by decide +kernel
theorem d_M_values_2 : decode b_M_values 2 = .ok (.iconst (-1), 1) := by decide +kernel
theorem d_M_values_3 : decode b_M_values 3 = .ok (.istore_n 3, 1) := by decide +kernel
theorem d_M_values_4 : decode b_M_values 4 = .ok (.iconst 0, 1) := by decide +kernel
theorem d_M_values_5 : decode b_M_values 5 = .ok (.istore 4, 2) := by decide +kernel
theorem d_M_values_7 : decode b_M_values 7 = .ok (.iload 4, 2) := by decide +kernel
theorem d_M_values_9 : decode b_M_values 9 = .ok (.aload_n 0, 1) := by decide +kernel
theorem d_M_values_10 : decode b_M_values 10 = .ok (.getfield 26, 3) := by decide +kernel
theorem d_M_values_13 : decode b_M_values 13 = .ok (.iconst 2, 1) := by decide +kernel
theorem d_M_values_14 : decode b_M_values 14 = .ok (.isub, 1) := by decide +kernel
theorem d_M_values_15 : decode b_M_values 15 = .ok (.if_icmp .ge 73, 3) := by decide +kernel
theorem d_M_values_18 : decode b_M_values 18 = .ok (.aload_n 0, 1) := by decide +kernel
theorem d_M_values_19 : decode b_M_values 19 = .ok (.iload 4, 2) := by decide +kernel
theorem d_M_values_21 : decode b_M_values 21 = .ok (.iload_n 1, 1) := by decide +kernel
theorem d_M_values_22 : decode b_M_values 22 = .ok (.invokevirtual 45, 3) := by decide +kernel
theorem d_M_values_25 : decode b_M_values 25 = .ok (.istore 5, 2) := by decide +kernel
theorem d_M_values_27 : decode b_M_values 27 = .ok (.aload_n 0, 1) := by decide +kernel
theorem d_M_values_28 : decode b_M_values 28 = .ok (.getfield 16, 3) := by decide +kernel
theorem d_M_values_31 : decode b_M_values 31 = .ok (.iload 4, 2) := by decide +kernel
theorem d_M_values_33 : decode b_M_values 33 = .ok (.iload 5, 2) := by decide +kernel
theorem d_M_values_35 : decode b_M_values 35 = .ok (.ifCond .eq 13, 3) := by decide +kernel
theorem d_M_values_38 : decode b_M_values 38 = .ok (.aload_n 0, 1) := by decide +kernel
theorem d_M_values_39 : decode b_M_values 39 = .ok (.iload 4, 2) := by decide +kernel
theorem d_M_values_41 : decode b_M_values 41 = .ok (.iload_n 1, 1) := by decide +kernel
theorem d_M_values_42 : decode b_M_values 42 = .ok (.invokevirtual 49, 3) := by decide +kernel
theorem d_M_values_45 : decode b_M_values 45 = .ok (.goto 4, 3) := by decide +kernel
theorem d_M_values_48 : decode b_M_values 48 = .ok (.iconst 0, 1) := by decide +kernel
theorem d_M_values_49 : decode b_M_values 49 = .ok (.iastore, 1) := by decide +kernel
theorem d_M_values_50 : decode b_M_values 50 = .ok (.iload 5, 2) := by decide +kernel
theorem d_M_values_52 : decode b_M_values 52 = .ok (.ifCond .ne 7, 3) := by decide +kernel
theorem d_M_values_55 : decode b_M_values 55 = .ok (.iload_n 2, 1) := by decide +kernel
theorem d_M_values_56 : decode b_M_values 56 = .ok (.ifCond .ge 7, 3) := by decide +kernel
theorem d_M_values_59 : decode b_M_values 59 = .ok (.iload_n 3, 1) := by decide +kernel
theorem d_M_values_60 : decode b_M_values 60 = .ok (.goto 5, 3) := by decide +kernel
theorem d_M_values_63 : decode b_M_values 63 = .ok (.iload 4, 2) := by decide +kernel
theorem d_M_values_65 : decode b_M_values 65 = .ok (.istore_n 3, 1) := by decide +kernel
theorem d_M_values_66 : decode b_M_values 66 = .ok (.iload 5, 2) := by decide +kernel
theorem d_M_values_68 : decode b_M_values 68 = .ok (.ifCond .ne 7, 3) := by decide +kernel
theorem d_M_values_71 : decode b_M_values 71 = .ok (.iload_n 2, 1) := by decide +kernel
theorem d_M_values_72 : decode b_M_values 72 = .ok (.ifCond .lt 7, 3) := by decide +kernel
theorem d_M_values_75 : decode b_M_values 75 = .ok (.iload_n 2, 1) := by decide +kernel
theorem d_M_values_76 : decode b_M_values 76 = .ok (.goto 5, 3) := by decide +kernel
theorem d_M_values_79 : decode b_M_values 79 = .ok (.iload 4, 2) := by decide +kernel
theorem d_M_values_81 : decode b_M_values 81 = .ok (.istore_n 2, 1) := by decide +kernel
theorem d_M_values_82 : decode b_M_values 82 = .ok (.iinc 4 1, 3) := by decide +kernel
theorem d_M_values_85 : decode b_M_values 85 = .ok (.goto (-78), 3) := by decide +kernel
theorem d_M_values_88 : decode b_M_values 88 = .ok (.aload_n 0, 1) := by decide +kernel
theorem d_M_values_89 : decode b_M_values 89 = .ok (.bipush 8, 2) := by decide +kernel
theorem d_M_values_91 : decode b_M_values 91 = .ok (.iload_n 1, 1) := by decide +kernel
theorem d_M_values_92 : decode b_M_values 92 = .ok (.invokevirtual 49, 3) := by decide +kernel
theorem d_M_values_95 : decode b_M_values 95 = .ok (.istore 4, 2) := by decide +kernel
theorem d_M_values_97 : decode b_M_values 97 = .ok (.aload_n 0, 1) := by decide +kernel
theorem d_M_values_98 : decode b_M_values 98 = .ok (.bipush 9, 2) := by decide +kernel
theorem d_M_values_100 : decode b_M_values 100 = .ok (.iload_n 1, 1) := by decide +kernel
theorem d_M_values_101 : decode b_M_values 101 = .ok (.invokevirtual 49, 3) := by decide +kernel
theorem d_M_values_104 : decode b_M_values 104 = .ok (.istore 5, 2) := by decide +kernel
theorem d_M_values_106 : decode b_M_values 106 = .ok (.aload_n 0, 1) := by decide +kernel
theorem d_M_values_107 : decode b_M_values 107 = .ok (.invokevirtual 52, 3) := by decide +kernel
theorem d_M_values_110 : decode b_M_values 110 = .ok (.iload 4, 2) := by decide +kernel
theorem d_M_values_112 : decode b_M_values 112 = .ok (.ixor, 1) := by decide +kernel
theorem d_M_values_113 : decode b_M_values 113 = .ok (.istore 6, 2) := by decide +kernel
theorem d_M_values_115 : decode b_M_values 115 = .ok (.aload_n 0, 1) := by decide +kernel
theorem d_M_values_116 : decode b_M_values 116 = .ok (.invokevirtual 56, 3) := by decide +kernel
theorem d_M_values_119 : decode b_M_values 119 = .ok (.iload 5, 2) := by decide +kernel
theorem d_M_values_121 : decode b_M_values 121 = .ok (.ixor, 1) := by decide +kernel
theorem d_M_values_122 : decode b_M_values 122 = .ok (.istore 7, 2) := by decide +kernel
theorem d_M_values_124 : decode b_M_values 124 = .ok (.iload_n 3, 1) := by decide +kernel
theorem d_M_values_125 : decode b_M_values 125 = .ok (.ifCond .lt 36, 3) := by decide +kernel
theorem d_M_values_128 : decode b_M_values 128 = .ok (.aload_n 0, 1) := by decide +kernel
theorem d_M_values_129 : decode b_M_values 129 = .ok (.getfield 16, 3) := by decide +kernel
theorem d_M_values_132 : decode b_M_values 132 = .ok (.iload_n 2, 1) := by decide +kernel
theorem d_M_values_133 : decode b_M_values 133 = .ok (.iload_n 2, 1) := by decide +kernel
theorem d_M_values_134 : decode b_M_values 134 = .ok (.iload_n 3, 1) := by decide +kernel
theorem d_M_values_135 : decode b_M_values 135 = .ok (.iload 6, 2) := by decide +kernel
theorem d_M_values_137 : decode b_M_values 137 = .ok (.iload 7, 2) := by decide +kernel
theorem d_M_values_139 : decode b_M_values 139 = .ok (.invokestatic 59, 3) := by decide +kernel
theorem d_M_values_142 : decode b_M_values 142 = .ok (.iastore, 1) := by decide +kernel
theorem d_M_values_143 : decode b_M_values 143 = .ok (.aload_n 0, 1) := by decide +kernel
theorem d_M_values_144 : decode b_M_values 144 = .ok (.getfield 16, 3) := by decide +kernel
theorem d_M_values_147 : decode b_M_values 147 = .ok (.iload_n 3, 1) := by decide +kernel
theorem d_M_values_148 : decode b_M_values 148 = .ok (.aload_n 0, 1) := by decide +kernel
theorem d_M_values_149 : decode b_M_values 149 = .ok (.getfield 16, 3) := by decide +kernel
theorem d_M_values_152 : decode b_M_values 152 = .ok (.iload_n 2, 1) := by decide +kernel
theorem d_M_values_153 : decode b_M_values 153 = .ok (.iaload, 1) := by decide +kernel
theorem d_M_values_154 : decode b_M_values 154 = .ok (.iload 6, 2) := by decide +kernel
theorem d_M_values_156 : decode b_M_values 156 = .ok (.ixor, 1) := by decide +kernel
theorem d_M_values_157 : decode b_M_values 157 = .ok (.iastore, 1) := by decide +kernel
theorem d_M_values_158 : decode b_M_values 158 = .ok (.goto 34, 3) := by decide +kernel
theorem d_M_values_161 : decode b_M_values 161 = .ok (.iload_n 2, 1) := by decide +kernel
theorem d_M_values_162 : decode b_M_values 162 = .ok (.ifCond .lt 30, 3) := by decide +kernel
theorem d_M_values_165 : decode b_M_values 165 = .ok (.aload_n 0, 1) := by decide +kernel
theorem d_M_values_166 : decode b_M_values 166 = .ok (.getfield 16, 3) := by decide +kernel
theorem d_M_values_169 : decode b_M_values 169 = .ok (.iload_n 2, 1) := by decide +kernel
theorem d_M_values_170 : decode b_M_values 170 = .ok (.aload_n 0, 1) := by decide +kernel
theorem d_M_values_171 : decode b_M_values 171 = .ok (.bipush 8, 2) := by decide +kernel
theorem d_M_values_173 : decode b_M_values 173 = .ok (.iload_n 1, 1) := by decide +kernel
theorem d_M_values_174 : decode b_M_values 174 = .ok (.invokevirtual 45, 3) := by decide +kernel
theorem d_M_values_177 : decode b_M_values 177 = .ok (.ifCond .eq 8, 3) := by decide +kernel
theorem d_M_values_180 : decode b_M_values 180 = .ok (.iload 6, 2) := by decide +kernel
theorem d_M_values_182 : decode b_M_values 182 = .ok (.goto 9, 3) := by decide +kernel
theorem d_M_values_185 : decode b_M_values 185 = .ok (.iload 7, 2) := by decide +kernel
theorem d_M_values_187 : decode b_M_values 187 = .ok (.iload_n 2, 1) := by decide +kernel
theorem d_M_values_188 : decode b_M_values 188 = .ok (.invokestatic 63, 3) := by decide +kernel
theorem d_M_values_191 : decode b_M_values 191 = .ok (.iastore, 1) := by decide +kernel
theorem d_M_values_192 : decode b_M_values 192 = .ok (.aload_n 0, 1) := by decide +kernel
theorem d_M_values_193 : decode b_M_values 193 = .ok (.getfield 16, 3) := by decide +kernel
theorem d_M_values_196 : decode b_M_values 196 = .ok (.bipush 8, 2) := by decide +kernel
theorem d_M_values_198 : decode b_M_values 198 = .ok (.aload_n 0, 1) := by decide +kernel
theorem d_M_values_199 : decode b_M_values 199 = .ok (.bipush 8, 2) := by decide +kernel
theorem d_M_values_201 : decode b_M_values 201 = .ok (.iload_n 1, 1) := by decide +kernel
theorem d_M_values_202 : decode b_M_values 202 = .ok (.invokevirtual 45, 3) := by decide +kernel
theorem d_M_values_205 : decode b_M_values 205 = .ok (.ifCond .eq 8, 3) := by decide +kernel
theorem d_M_values_208 : decode b_M_values 208 = .ok (.iload 4, 2) := by decide +kernel
theorem d_M_values_210 : decode b_M_values 210 = .ok (.goto 7, 3) := by decide +kernel
theorem d_M_values_213 : decode b_M_values 213 = .ok (.aload_n 0, 1) := by decide +kernel
theorem d_M_values_214 : decode b_M_values 214 = .ok (.invokevirtual 52, 3) := by decide +kernel
theorem d_M_values_217 : decode b_M_values 217 = .ok (.iastore, 1) := by decide +kernel
theorem d_M_values_218 : decode b_M_values 218 = .ok (.aload_n 0, 1) := by decide +kernel
theorem d_M_values_219 : decode b_M_values 219 = .ok (.getfield 16, 3) := by decide +kernel
theorem d_M_values_222 : decode b_M_values 222 = .ok (.bipush 9, 2) := by decide +kernel
theorem d_M_values_224 : decode b_M_values 224 = .ok (.aload_n 0, 1) := by decide +kernel
theorem d_M_values_225 : decode b_M_values 225 = .ok (.bipush 9, 2) := by decide +kernel
theorem d_M_values_227 : decode b_M_values 227 = .ok (.iload_n 1, 1) := by decide +kernel
theorem d_M_values_228 : decode b_M_values 228 = .ok (.invokevirtual 45, 3) := by decide +kernel
theorem d_M_values_231 : decode b_M_values 231 = .ok (.ifCond .eq 8, 3) := by decide +kernel
theorem d_M_values_234 : decode b_M_values 234 = .ok (.iload 5, 2) := by decide +kernel
theorem d_M_values_236 : decode b_M_values 236 = .ok (.goto 7, 3) := by decide +kernel
theorem d_M_values_239 : decode b_M_values 239 = .ok (.aload_n 0, 1) := by decide +kernel
theorem d_M_values_240 : decode b_M_values 240 = .ok (.invokevirtual 56, 3) := by decide +kernel
theorem d_M_values_243 : decode b_M_values 243 = .ok (.iastore, 1) := by decide +kernel
theorem d_M_values_244 : decode b_M_values 244 = .ok (.return_, 1) := by decide +kernel
theorem d_M_valueOn_0 : decode b_M_valueOn 0 = .ok (.iconst 0, 1) := by decide +kernel
theorem d_M_valueOn_1 : decode b_M_valueOn 1 = .ok (.istore_n 3, 1) := by decide +kernel
theorem d_M_valueOn_2 : decode b_M_valueOn 2 = .ok (.iconst 0, 1) := by decide +kernel
theorem d_M_valueOn_3 : decode b_M_valueOn 3 = .ok (.istore 4, 2) := by decide +kernel
theorem d_M_valueOn_5 : decode b_M_valueOn 5 = .ok (.iload 4, 2) := by decide +kernel
theorem d_M_valueOn_7 : decode b_M_valueOn 7 = .ok (.bipush 10, 2) := by decide +kernel
theorem d_M_valueOn_9 : decode b_M_valueOn 9 = .ok (.if_icmp .ge 58, 3) := by decide +kernel
theorem d_M_valueOn_12 : decode b_M_valueOn 12 = .ok (.iload 4, 2) := by decide +kernel
theorem d_M_valueOn_14 : decode b_M_valueOn 14 = .ok (.bipush 8, 2) := by decide +kernel
theorem d_M_valueOn_16 : decode b_M_valueOn 16 = .ok (.if_icmp .ge 14, 3) := by decide +kernel
theorem d_M_valueOn_19 : decode b_M_valueOn 19 = .ok (.iload 4, 2) := by decide +kernel
theorem d_M_valueOn_21 : decode b_M_valueOn 21 = .ok (.aload_n 0, 1) := by decide +kernel
theorem d_M_valueOn_22 : decode b_M_valueOn 22 = .ok (.getfield 26, 3) := by decide +kernel
theorem d_M_valueOn_25 : decode b_M_valueOn 25 = .ok (.iconst 2, 1) := by decide +kernel
theorem d_M_valueOn_26 : decode b_M_valueOn 26 = .ok (.isub, 1) := by decide +kernel
theorem d_M_valueOn_27 : decode b_M_valueOn 27 = .ok (.if_icmp .ge 7, 3) := by decide +kernel
theorem d_M_valueOn_30 : decode b_M_valueOn 30 = .ok (.iconst 1, 1) := by decide +kernel
theorem d_M_valueOn_31 : decode b_M_valueOn 31 = .ok (.goto 4, 3) := by decide +kernel
theorem d_M_valueOn_34 : decode b_M_valueOn 34 = .ok (.iconst 0, 1) := by decide +kernel
theorem d_M_valueOn_35 : decode b_M_valueOn 35 = .ok (.istore 5, 2) := by decide +kernel
theorem d_M_valueOn_37 : decode b_M_valueOn 37 = .ok (.iload 5, 2) := by decide +kernel
theorem d_M_valueOn_39 : decode b_M_valueOn 39 = .ok (.ifCond .eq 22, 3) := by decide +kernel
theorem d_M_valueOn_42 : decode b_M_valueOn 42 = .ok (.aload_n 0, 1) := by decide +kernel
theorem d_M_valueOn_43 : decode b_M_valueOn 43 = .ok (.iload 4, 2) := by decide +kernel
theorem d_M_valueOn_45 : decode b_M_valueOn 45 = .ok (.iload_n 2, 1) := by decide +kernel
theorem d_M_valueOn_46 : decode b_M_valueOn 46 = .ok (.invokevirtual 39, 3) := by decide +kernel
theorem d_M_valueOn_49 : decode b_M_valueOn 49 = .ok (.iload_n 1, 1) := by decide +kernel
theorem d_M_valueOn_50 : decode b_M_valueOn 50 = .ok (.if_icmp .ne 11, 3) := by decide +kernel
theorem d_M_valueOn_53 : decode b_M_valueOn 53 = .ok (.aload_n 0, 1) := by decide +kernel
theorem d_M_valueOn_54 : decode b_M_valueOn 54 = .ok (.getfield 16, 3) := by decide +kernel
theorem d_M_valueOn_57 : decode b_M_valueOn 57 = .ok (.iload 4, 2) := by decide +kernel
theorem d_M_valueOn_59 : decode b_M_valueOn 59 = .ok (.iaload, 1) := by decide +kernel
theorem d_M_valueOn_60 : decode b_M_valueOn 60 = .ok (.istore_n 3, 1) := by decide +kernel
theorem d_M_valueOn_61 : decode b_M_valueOn 61 = .ok (.iinc 4 1, 3) := by decide +kernel
theorem d_M_valueOn_64 : decode b_M_valueOn 64 = .ok (.goto (-59), 3) := by decide +kernel
theorem d_M_valueOn_67 : decode b_M_valueOn 67 = .ok (.iload_n 3, 1) := by decide +kernel
theorem d_M_valueOn_68 : decode b_M_valueOn 68 = .ok (.ireturn, 1) := by decide +kernel
theorem d_M_act_0 : decode b_M_act 0 = .ok (.aload_n 0, 1) := by decide +kernel
theorem d_M_act_1 : decode b_M_act 1 = .ok (.getfield 66, 3) := by decide +kernel
theorem d_M_act_4 : decode b_M_act 4 = .ok (.ifCond .eq 22, 3) := by decide +kernel
theorem d_M_act_7 : decode b_M_act 7 = .ok (.aload_n 0, 1) := by decide +kernel
theorem d_M_act_8 : decode b_M_act 8 = .ok (.getfield 70, 3) := by decide +kernel
theorem d_M_act_11 : decode b_M_act 11 = .ok (.ifCond .ne 15, 3) := by decide +kernel
theorem d_M_act_14 : decode b_M_act 14 = .ok (.aload_n 0, 1) := by decide +kernel
theorem d_M_act_15 : decode b_M_act 15 = .ok (.iconst 0, 1) := by decide +kernel
theorem d_M_act_16 : decode b_M_act 16 = .ok (.putfield 66, 3) := by decide +kernel
theorem d_M_act_19 : decode b_M_act 19 = .ok (.aload_n 0, 1) := by decide +kernel
theorem d_M_act_20 : decode b_M_act 20 = .ok (.iconst 1, 1) := by decide +kernel
theorem d_M_act_21 : decode b_M_act 21 = .ok (.putfield 73, 3) := by decide +kernel
theorem d_M_act_24 : decode b_M_act 24 = .ok (.iconst 0, 1) := by decide +kernel
theorem d_M_act_25 : decode b_M_act 25 = .ok (.ireturn, 1) := by decide +kernel
theorem d_M_act_26 : decode b_M_act 26 = .ok (.aload_n 0, 1) := by decide +kernel
theorem d_M_act_27 : decode b_M_act 27 = .ok (.dup, 1) := by decide +kernel
theorem d_M_act_28 : decode b_M_act 28 = .ok (.getfield 70, 3) := by decide +kernel
theorem d_M_act_31 : decode b_M_act 31 = .ok (.iconst 1, 1) := by decide +kernel
theorem d_M_act_32 : decode b_M_act 32 = .ok (.isub, 1) := by decide +kernel
theorem d_M_act_33 : decode b_M_act 33 = .ok (.putfield 70, 3) := by decide +kernel
theorem d_M_act_36 : decode b_M_act 36 = .ok (.aload_n 0, 1) := by decide +kernel
theorem d_M_act_37 : decode b_M_act 37 = .ok (.dup, 1) := by decide +kernel
theorem d_M_act_38 : decode b_M_act 38 = .ok (.getfield 76, 3) := by decide +kernel
theorem d_M_act_41 : decode b_M_act 41 = .ok (.iconst 1, 1) := by decide +kernel
theorem d_M_act_42 : decode b_M_act 42 = .ok (.iadd, 1) := by decide +kernel
theorem d_M_act_43 : decode b_M_act 43 = .ok (.putfield 76, 3) := by decide +kernel
theorem d_M_act_46 : decode b_M_act 46 = .ok (.iconst 1, 1) := by decide +kernel
theorem d_M_act_47 : decode b_M_act 47 = .ok (.ireturn, 1) := by decide +kernel
theorem d_M_store_0 : decode b_M_store 0 = .ok (.aload_n 0, 1) := by decide +kernel
theorem d_M_store_1 : decode b_M_store 1 = .ok (.iload_n 1, 1) := by decide +kernel
theorem d_M_store_2 : decode b_M_store 2 = .ok (.iload_n 2, 1) := by decide +kernel
theorem d_M_store_3 : decode b_M_store 3 = .ok (.invokevirtual 45, 3) := by decide +kernel
theorem d_M_store_6 : decode b_M_store 6 = .ok (.ifCond .ne 5, 3) := by decide +kernel
theorem d_M_store_9 : decode b_M_store 9 = .ok (.iconst 1, 1) := by decide +kernel
theorem d_M_store_10 : decode b_M_store 10 = .ok (.ireturn, 1) := by decide +kernel
theorem d_M_store_11 : decode b_M_store 11 = .ok (.aload_n 0, 1) := by decide +kernel
theorem d_M_store_12 : decode b_M_store 12 = .ok (.invokevirtual 79, 3) := by decide +kernel
theorem d_M_store_15 : decode b_M_store 15 = .ok (.ifCond .ne 5, 3) := by decide +kernel
theorem d_M_store_18 : decode b_M_store 18 = .ok (.iconst 0, 1) := by decide +kernel
theorem d_M_store_19 : decode b_M_store 19 = .ok (.ireturn, 1) := by decide +kernel
theorem d_M_store_20 : decode b_M_store 20 = .ok (.aload_n 0, 1) := by decide +kernel
theorem d_M_store_21 : decode b_M_store 21 = .ok (.getfield 7, 3) := by decide +kernel
theorem d_M_store_24 : decode b_M_store 24 = .ok (.bipush 16, 2) := by decide +kernel
theorem d_M_store_26 : decode b_M_store 26 = .ok (.aload_n 0, 1) := by decide +kernel
theorem d_M_store_27 : decode b_M_store 27 = .ok (.iload_n 1, 1) := by decide +kernel
theorem d_M_store_28 : decode b_M_store 28 = .ok (.iload_n 2, 1) := by decide +kernel
theorem d_M_store_29 : decode b_M_store 29 = .ok (.invokevirtual 39, 3) := by decide +kernel
theorem d_M_store_32 : decode b_M_store 32 = .ok (.imul, 1) := by decide +kernel
theorem d_M_store_33 : decode b_M_store 33 = .ok (.iload_n 2, 1) := by decide +kernel
theorem d_M_store_34 : decode b_M_store 34 = .ok (.iadd, 1) := by decide +kernel
theorem d_M_store_35 : decode b_M_store 35 = .ok (.iload_n 3, 1) := by decide +kernel
theorem d_M_store_36 : decode b_M_store 36 = .ok (.iastore, 1) := by decide +kernel
theorem d_M_store_37 : decode b_M_store 37 = .ok (.aload_n 0, 1) := by decide +kernel
theorem d_M_store_38 : decode b_M_store 38 = .ok (.dup, 1) := by decide +kernel
theorem d_M_store_39 : decode b_M_store 39 = .ok (.getfield 83, 3) := by decide +kernel
theorem d_M_store_42 : decode b_M_store 42 = .ok (.iconst 1, 1) := by decide +kernel
theorem d_M_store_43 : decode b_M_store 43 = .ok (.iadd, 1) := by decide +kernel
theorem d_M_store_44 : decode b_M_store 44 = .ok (.putfield 83, 3) := by decide +kernel
theorem d_M_store_47 : decode b_M_store 47 = .ok (.iconst 1, 1) := by decide +kernel
theorem d_M_store_48 : decode b_M_store 48 = .ok (.ireturn, 1) := by decide +kernel
theorem d_M_apply_0 : decode b_M_apply 0 = .ok (.aload_n 0, 1) := by decide +kernel
theorem d_M_apply_1 : decode b_M_apply 1 = .ok (.getfield 86, 3) := by decide +kernel
theorem d_M_apply_4 : decode b_M_apply 4 = .ok (.istore_n 1, 1) := by decide +kernel
theorem d_M_apply_5 : decode b_M_apply 5 = .ok (.iload_n 1, 1) := by decide +kernel
theorem d_M_apply_6 : decode b_M_apply 6 = .ok (.aload_n 0, 1) := by decide +kernel
theorem d_M_apply_7 : decode b_M_apply 7 = .ok (.getfield 89, 3) := by decide +kernel
theorem d_M_apply_10 : decode b_M_apply 10 = .ok (.if_icmp .ge 29, 3) := by decide +kernel
theorem d_M_apply_13 : decode b_M_apply 13 = .ok (.aload_n 0, 1) := by decide +kernel
theorem d_M_apply_14 : decode b_M_apply 14 = .ok (.iload_n 1, 1) := by decide +kernel
theorem d_M_apply_15 : decode b_M_apply 15 = .ok (.aload_n 0, 1) := by decide +kernel
theorem d_M_apply_16 : decode b_M_apply 16 = .ok (.getfield 22, 3) := by decide +kernel
theorem d_M_apply_19 : decode b_M_apply 19 = .ok (.aload_n 0, 1) := by decide +kernel
theorem d_M_apply_20 : decode b_M_apply 20 = .ok (.getfield 19, 3) := by decide +kernel
theorem d_M_apply_23 : decode b_M_apply 23 = .ok (.iload_n 1, 1) := by decide +kernel
theorem d_M_apply_24 : decode b_M_apply 24 = .ok (.iaload, 1) := by decide +kernel
theorem d_M_apply_25 : decode b_M_apply 25 = .ok (.invokevirtual 92, 3) := by decide +kernel
theorem d_M_apply_28 : decode b_M_apply 28 = .ok (.ifCond .ne 5, 3) := by decide +kernel
theorem d_M_apply_31 : decode b_M_apply 31 = .ok (.iconst 0, 1) := by decide +kernel
theorem d_M_apply_32 : decode b_M_apply 32 = .ok (.ireturn, 1) := by decide +kernel
theorem d_M_apply_33 : decode b_M_apply 33 = .ok (.iinc 1 1, 3) := by decide +kernel
theorem d_M_apply_36 : decode b_M_apply 36 = .ok (.goto (-31), 3) := by decide +kernel
theorem d_M_apply_39 : decode b_M_apply 39 = .ok (.aload_n 0, 1) := by decide +kernel
theorem d_M_apply_40 : decode b_M_apply 40 = .ok (.bipush 8, 2) := by decide +kernel
theorem d_M_apply_42 : decode b_M_apply 42 = .ok (.aload_n 0, 1) := by decide +kernel
theorem d_M_apply_43 : decode b_M_apply 43 = .ok (.getfield 22, 3) := by decide +kernel
theorem d_M_apply_46 : decode b_M_apply 46 = .ok (.aload_n 0, 1) := by decide +kernel
theorem d_M_apply_47 : decode b_M_apply 47 = .ok (.getfield 19, 3) := by decide +kernel
theorem d_M_apply_50 : decode b_M_apply 50 = .ok (.bipush 8, 2) := by decide +kernel
theorem d_M_apply_52 : decode b_M_apply 52 = .ok (.iaload, 1) := by decide +kernel
theorem d_M_apply_53 : decode b_M_apply 53 = .ok (.invokevirtual 92, 3) := by decide +kernel
theorem d_M_apply_56 : decode b_M_apply 56 = .ok (.ifCond .eq 30, 3) := by decide +kernel
theorem d_M_apply_59 : decode b_M_apply 59 = .ok (.aload_n 0, 1) := by decide +kernel
theorem d_M_apply_60 : decode b_M_apply 60 = .ok (.bipush 9, 2) := by decide +kernel
theorem d_M_apply_62 : decode b_M_apply 62 = .ok (.aload_n 0, 1) := by decide +kernel
theorem d_M_apply_63 : decode b_M_apply 63 = .ok (.getfield 22, 3) := by decide +kernel
theorem d_M_apply_66 : decode b_M_apply 66 = .ok (.aload_n 0, 1) := by decide +kernel
theorem d_M_apply_67 : decode b_M_apply 67 = .ok (.getfield 19, 3) := by decide +kernel
theorem d_M_apply_70 : decode b_M_apply 70 = .ok (.bipush 9, 2) := by decide +kernel
theorem d_M_apply_72 : decode b_M_apply 72 = .ok (.iaload, 1) := by decide +kernel
theorem d_M_apply_73 : decode b_M_apply 73 = .ok (.invokevirtual 92, 3) := by decide +kernel
theorem d_M_apply_76 : decode b_M_apply 76 = .ok (.ifCond .eq 10, 3) := by decide +kernel
theorem d_M_apply_79 : decode b_M_apply 79 = .ok (.aload_n 0, 1) := by decide +kernel
theorem d_M_apply_80 : decode b_M_apply 80 = .ok (.invokevirtual 79, 3) := by decide +kernel
theorem d_M_apply_83 : decode b_M_apply 83 = .ok (.ifCond .ne 5, 3) := by decide +kernel
theorem d_M_apply_86 : decode b_M_apply 86 = .ok (.iconst 0, 1) := by decide +kernel
theorem d_M_apply_87 : decode b_M_apply 87 = .ok (.ireturn, 1) := by decide +kernel
theorem d_M_apply_88 : decode b_M_apply 88 = .ok (.aload_n 0, 1) := by decide +kernel
theorem d_M_apply_89 : decode b_M_apply 89 = .ok (.iconst (-1), 1) := by decide +kernel
theorem d_M_apply_90 : decode b_M_apply 90 = .ok (.putfield 22, 3) := by decide +kernel
theorem d_M_apply_93 : decode b_M_apply 93 = .ok (.iconst 1, 1) := by decide +kernel
theorem d_M_apply_94 : decode b_M_apply 94 = .ok (.ireturn, 1) := by decide +kernel
theorem d_M_read_0 : decode b_M_read 0 = .ok (.aload_n 0, 1) := by decide +kernel
theorem d_M_read_1 : decode b_M_read 1 = .ok (.iload_n 1, 1) := by decide +kernel
theorem d_M_read_2 : decode b_M_read 2 = .ok (.invokevirtual 96, 3) := by decide +kernel
theorem d_M_read_5 : decode b_M_read 5 = .ok (.ifCond .ne 7, 3) := by decide +kernel
theorem d_M_read_8 : decode b_M_read 8 = .ok (.ldc2_w 100, 3) := by decide +kernel
theorem d_M_read_11 : decode b_M_read 11 = .ok (.lreturn, 1) := by decide +kernel
theorem d_M_read_12 : decode b_M_read 12 = .ok (.aload_n 0, 1) := by decide +kernel
theorem d_M_read_13 : decode b_M_read 13 = .ok (.getfield 73, 3) := by decide +kernel
theorem d_M_read_16 : decode b_M_read 16 = .ok (.ifCond .ne 10, 3) := by decide +kernel
theorem d_M_read_19 : decode b_M_read 19 = .ok (.aload_n 0, 1) := by decide +kernel
theorem d_M_read_20 : decode b_M_read 20 = .ok (.invokevirtual 102, 3) := by decide +kernel
theorem d_M_read_23 : decode b_M_read 23 = .ok (.ifCond .eq 20, 3) := by decide +kernel
theorem d_M_read_26 : decode b_M_read 26 = .ok (.aload_n 0, 1) := by decide +kernel
theorem d_M_read_27 : decode b_M_read 27 = .ok (.getfield 73, 3) := by decide +kernel
theorem d_M_read_30 : decode b_M_read 30 = .ok (.ifCond .eq 9, 3) := by decide +kernel
theorem d_M_read_33 : decode b_M_read 33 = .ok (.ldc2_w 105, 3) := by decide +kernel
theorem d_M_read_36 : decode b_M_read 36 = .ok (.goto 6, 3) := by decide +kernel
theorem d_M_read_39 : decode b_M_read 39 = .ok (.ldc2_w 107, 3) := by decide +kernel
theorem d_M_read_42 : decode b_M_read 42 = .ok (.lreturn, 1) := by decide +kernel
theorem d_M_read_43 : decode b_M_read 43 = .ok (.iload_n 1, 1) := by decide +kernel
theorem d_M_read_44 : decode b_M_read 44 = .ok (.aload_n 0, 1) := by decide +kernel
theorem d_M_read_45 : decode b_M_read 45 = .ok (.getfield 26, 3) := by decide +kernel
theorem d_M_read_48 : decode b_M_read 48 = .ok (.iconst 2, 1) := by decide +kernel
theorem d_M_read_49 : decode b_M_read 49 = .ok (.isub, 1) := by decide +kernel
theorem d_M_read_50 : decode b_M_read 50 = .ok (.idiv, 1) := by decide +kernel
theorem d_M_read_51 : decode b_M_read 51 = .ok (.istore_n 2, 1) := by decide +kernel
theorem d_M_read_52 : decode b_M_read 52 = .ok (.iload_n 1, 1) := by decide +kernel
theorem d_M_read_53 : decode b_M_read 53 = .ok (.aload_n 0, 1) := by decide +kernel
theorem d_M_read_54 : decode b_M_read 54 = .ok (.getfield 26, 3) := by decide +kernel
theorem d_M_read_57 : decode b_M_read 57 = .ok (.iconst 2, 1) := by decide +kernel
theorem d_M_read_58 : decode b_M_read 58 = .ok (.isub, 1) := by decide +kernel
theorem d_M_read_59 : decode b_M_read 59 = .ok (.irem, 1) := by decide +kernel
theorem d_M_read_60 : decode b_M_read 60 = .ok (.istore_n 3, 1) := by decide +kernel
theorem d_M_read_61 : decode b_M_read 61 = .ok (.aload_n 0, 1) := by decide +kernel
theorem d_M_read_62 : decode b_M_read 62 = .ok (.dup, 1) := by decide +kernel
theorem d_M_read_63 : decode b_M_read 63 = .ok (.getfield 109, 3) := by decide +kernel
theorem d_M_read_66 : decode b_M_read 66 = .ok (.aload_n 0, 1) := by decide +kernel
theorem d_M_read_67 : decode b_M_read 67 = .ok (.iload_n 3, 1) := by decide +kernel
theorem d_M_read_68 : decode b_M_read 68 = .ok (.iload_n 2, 1) := by decide +kernel
theorem d_M_read_69 : decode b_M_read 69 = .ok (.invokevirtual 45, 3) := by decide +kernel
theorem d_M_read_72 : decode b_M_read 72 = .ok (.ifCond .eq 7, 3) := by decide +kernel
theorem d_M_read_75 : decode b_M_read 75 = .ok (.iconst 1, 1) := by decide +kernel
theorem d_M_read_76 : decode b_M_read 76 = .ok (.goto 8, 3) := by decide +kernel
theorem d_M_read_79 : decode b_M_read 79 = .ok (.aload_n 0, 1) := by decide +kernel
theorem d_M_read_80 : decode b_M_read 80 = .ok (.iload_n 2, 1) := by decide +kernel
theorem d_M_read_81 : decode b_M_read 81 = .ok (.invokevirtual 112, 3) := by decide +kernel
theorem d_M_read_84 : decode b_M_read 84 = .ok (.iadd, 1) := by decide +kernel
theorem d_M_read_85 : decode b_M_read 85 = .ok (.putfield 109, 3) := by decide +kernel
theorem d_M_read_88 : decode b_M_read 88 = .ok (.aload_n 0, 1) := by decide +kernel
theorem d_M_read_89 : decode b_M_read 89 = .ok (.iload_n 2, 1) := by decide +kernel
theorem d_M_read_90 : decode b_M_read 90 = .ok (.invokevirtual 116, 3) := by decide +kernel
theorem d_M_read_93 : decode b_M_read 93 = .ok (.aload_n 0, 1) := by decide +kernel
theorem d_M_read_94 : decode b_M_read 94 = .ok (.getfield 16, 3) := by decide +kernel
theorem d_M_read_97 : decode b_M_read 97 = .ok (.iload_n 3, 1) := by decide +kernel
theorem d_M_read_98 : decode b_M_read 98 = .ok (.iaload, 1) := by decide +kernel
theorem d_M_read_99 : decode b_M_read 99 = .ok (.i2l, 1) := by decide +kernel
theorem d_M_read_100 : decode b_M_read 100 = .ok (.ldc2_w 120, 3) := by decide +kernel
theorem d_M_read_103 : decode b_M_read 103 = .ok (.land, 1) := by decide +kernel
theorem d_M_read_104 : decode b_M_read 104 = .ok (.lreturn, 1) := by decide +kernel
theorem d_M_write_0 : decode b_M_write 0 = .ok (.aload_n 0, 1) := by decide +kernel
theorem d_M_write_1 : decode b_M_write 1 = .ok (.iload_n 1, 1) := by decide +kernel
theorem d_M_write_2 : decode b_M_write 2 = .ok (.iconst 1, 1) := by decide +kernel
theorem d_M_write_3 : decode b_M_write 3 = .ok (.iload_n 2, 1) := by decide +kernel
theorem d_M_write_4 : decode b_M_write 4 = .ok (.invokevirtual 122, 3) := by decide +kernel
theorem d_M_write_7 : decode b_M_write 7 = .ok (.ireturn, 1) := by decide +kernel
