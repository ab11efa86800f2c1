/-! decode rows, by program -/
theorem d_A_init_0 : decode b_A_init 0 = .ok (.aload_n 0, 1) := by decide +kernel
theorem d_A_init_1 : decode b_A_init 1 = .ok (.invokespecial 1, 3) := by decide +kernel
theorem d_A_init_4 : decode b_A_init 4 = .ok (.iload_n 1, 1) := by decide +kernel
theorem d_A_init_5 : decode b_A_init 5 = .ok (.iconst 4, 1) := by decide +kernel
theorem d_A_init_6 : decode b_A_init 6 = .ok (.bipush 10, 2) := by decide +kernel
theorem d_A_init_8 : decode b_A_init 8 = .ok (.invokestatic 9, 3) := by decide +kernel
theorem d_A_init_11 : decode b_A_init 11 = .ok (.istore 4, 2) := by decide +kernel
theorem d_A_init_13 : decode b_A_init 13 = .ok (.aload_n 0, 1) := by decide +kernel
theorem d_A_init_14 : decode b_A_init 14 = .ok (.iload_n 2, 1) := by decide +kernel
theorem d_A_init_15 : decode b_A_init 15 = .ok (.iconst 1, 1) := by decide +kernel
theorem d_A_init_16 : decode b_A_init 16 = .ok (.bipush 16, 2) := by decide +kernel
theorem d_A_init_18 : decode b_A_init 18 = .ok (.invokestatic 9, 3) := by decide +kernel
theorem d_A_init_21 : decode b_A_init 21 = .ok (.putfield 13, 3) := by decide +kernel
theorem d_A_init_24 : decode b_A_init 24 = .ok (.aload_n 0, 1) := by decide +kernel
theorem d_A_init_25 : decode b_A_init 25 = .ok (.iload 4, 2) := by decide +kernel
theorem d_A_init_27 : decode b_A_init 27 = .ok (.iconst 2, 1) := by decide +kernel
theorem d_A_init_28 : decode b_A_init 28 = .ok (.isub, 1) := by decide +kernel
theorem d_A_init_29 : decode b_A_init 29 = .ok (.putfield 17, 3) := by decide +kernel
theorem d_A_init_32 : decode b_A_init 32 = .ok (.aload_n 0, 1) := by decide +kernel
theorem d_A_init_33 : decode b_A_init 33 = .ok (.new 20, 3) := by decide +kernel
theorem d_A_init_36 : decode b_A_init 36 = .ok (.dup, 1) := by decide +kernel
theorem d_A_init_37 : decode b_A_init 37 = .ok (.iload 4, 2) := by decide +kernel
theorem d_A_init_39 : decode b_A_init 39 = .ok (.aload_n 0, 1) := by decide +kernel
theorem d_A_init_40 : decode b_A_init 40 = .ok (.getfield 13, 3) := by decide +kernel
theorem d_A_init_43 : decode b_A_init 43 = .ok (.invokespecial 22, 3) := by decide +kernel
theorem d_A_init_46 : decode b_A_init 46 = .ok (.putfield 25, 3) := by decide +kernel
theorem d_A_init_49 : decode b_A_init 49 = .ok (.aload_n 0, 1) := by decide +kernel
theorem d_A_init_50 : decode b_A_init 50 = .ok (.new 29, 3) := by decide +kernel
theorem d_A_init_53 : decode b_A_init 53 = .ok (.dup, 1) := by decide +kernel
theorem d_A_init_54 : decode b_A_init 54 = .ok (.iload 4, 2) := by decide +kernel
theorem d_A_init_56 : decode b_A_init 56 = .ok (.invokespecial 31, 3) := by decide +kernel
theorem d_A_init_59 : decode b_A_init 59 = .ok (.putfield 34, 3) := by decide +kernel
theorem d_A_init_62 : decode b_A_init 62 = .ok (.aload_n 0, 1) := by decide +kernel
theorem d_A_init_63 : decode b_A_init 63 = .ok (.new 38, 3) := by decide +kernel
theorem d_A_init_66 : decode b_A_init 66 = .ok (.dup, 1) := by decide +kernel
theorem d_A_init_67 : decode b_A_init 67 = .ok (.iload 4, 2) := by decide +kernel
theorem d_A_init_69 : decode b_A_init 69 = .ok (.invokespecial 40, 3) := by decide +kernel
theorem d_A_init_72 : decode b_A_init 72 = .ok (.putfield 41, 3) := by decide +kernel
theorem d_A_init_75 : decode b_A_init 75 = .ok (.aload_n 0, 1) := by decide +kernel
theorem d_A_init_76 : decode b_A_init 76 = .ok (.iload_n 3, 1) := by decide +kernel
theorem d_A_init_77 : decode b_A_init 77 = .ok (.iconst 0, 1) := by decide +kernel
theorem d_A_init_78 : decode b_A_init 78 = .ok (.iconst 4, 1) := by decide +kernel
theorem d_A_init_79 : decode b_A_init 79 = .ok (.invokestatic 9, 3) := by decide +kernel
theorem d_A_init_82 : decode b_A_init 82 = .ok (.putfield 45, 3) := by decide +kernel
theorem d_A_init_85 : decode b_A_init 85 = .ok (.aload_n 0, 1) := by decide +kernel
theorem d_A_init_86 : decode b_A_init 86 = .ok (.iconst (-1), 1) := by decide +kernel
theorem d_A_init_87 : decode b_A_init 87 = .ok (.putfield 48, 3) := by decide +kernel
theorem d_A_init_90 : decode b_A_init 90 = .ok (.return_, 1) := by decide +kernel
theorem d_A_read_0 : decode b_A_read 0 = .ok (.aload_n 0, 1) := by decide +kernel
theorem d_A_read_1 : decode b_A_read 1 = .ok (.iload_n 1, 1) := by decide +kernel
theorem d_A_read_2 : decode b_A_read 2 = .ok (.invokevirtual 51, 3) := by decide +kernel
theorem d_A_read_5 : decode b_A_read 5 = .ok (.ifCond .ne 7, 3) := by decide +kernel
theorem d_A_read_8 : decode b_A_read 8 = .ok (.ldc2_w 55, 3) := by decide +kernel
theorem d_A_read_11 : decode b_A_read 11 = .ok (.lreturn, 1) := by decide +kernel
theorem d_A_read_12 : decode b_A_read 12 = .ok (.aload_n 0, 1) := by decide +kernel
theorem d_A_read_13 : decode b_A_read 13 = .ok (.invokevirtual 57, 3) := by decide +kernel
theorem d_A_read_16 : decode b_A_read 16 = .ok (.istore_n 2, 1) := by decide +kernel
theorem d_A_read_17 : decode b_A_read 17 = .ok (.iload_n 2, 1) := by decide +kernel
theorem d_A_read_18 : decode b_A_read 18 = .ok (.ifCond .eq 6, 3) := by decide +kernel
theorem d_A_read_21 : decode b_A_read 21 = .ok (.iload_n 2, 1) := by decide +kernel
theorem d_A_read_22 : decode b_A_read 22 = .ok (.i2l, 1) := by decide +kernel
theorem d_A_read_23 : decode b_A_read 23 = .ok (.lreturn, 1) := by decide +kernel
theorem d_A_read_24 : decode b_A_read 24 = .ok (.iload_n 1, 1) := by decide +kernel
theorem d_A_read_25 : decode b_A_read 25 = .ok (.aload_n 0, 1) := by decide +kernel
theorem d_A_read_26 : decode b_A_read 26 = .ok (.getfield 17, 3) := by decide +kernel
theorem d_A_read_29 : decode b_A_read 29 = .ok (.idiv, 1) := by decide +kernel
theorem d_A_read_30 : decode b_A_read 30 = .ok (.istore_n 3, 1) := by decide +kernel
theorem d_A_read_31 : decode b_A_read 31 = .ok (.iload_n 1, 1) := by decide +kernel
theorem d_A_read_32 : decode b_A_read 32 = .ok (.aload_n 0, 1) := by decide +kernel
theorem d_A_read_33 : decode b_A_read 33 = .ok (.getfield 17, 3) := by decide +kernel
theorem d_A_read_36 : decode b_A_read 36 = .ok (.irem, 1) := by decide +kernel
theorem d_A_read_37 : decode b_A_read 37 = .ok (.istore 4, 2) := by decide +kernel
theorem d_A_read_39 : decode b_A_read 39 = .ok (.aload_n 0, 1) := by decide +kernel
theorem d_A_read_40 : decode b_A_read 40 = .ok (.getfield 25, 3) := by decide +kernel
theorem d_A_read_43 : decode b_A_read 43 = .ok (.iload 4, 2) := by decide +kernel
theorem d_A_read_45 : decode b_A_read 45 = .ok (.iload_n 3, 1) := by decide +kernel
theorem d_A_read_46 : decode b_A_read 46 = .ok (.invokevirtual 61, 3) := by decide +kernel
theorem d_A_read_49 : decode b_A_read 49 = .ok (.istore 5, 2) := by decide +kernel
theorem d_A_read_51 : decode b_A_read 51 = .ok (.aload_n 0, 1) := by decide +kernel
theorem d_A_read_52 : decode b_A_read 52 = .ok (.getfield 25, 3) := by decide +kernel
theorem d_A_read_55 : decode b_A_read 55 = .ok (.iload 5, 2) := by decide +kernel
theorem d_A_read_57 : decode b_A_read 57 = .ok (.iload_n 3, 1) := by decide +kernel
theorem d_A_read_58 : decode b_A_read 58 = .ok (.invokevirtual 65, 3) := by decide +kernel
theorem d_A_read_61 : decode b_A_read 61 = .ok (.ifCond .eq 27, 3) := by decide +kernel
theorem d_A_read_64 : decode b_A_read 64 = .ok (.aload_n 0, 1) := by decide +kernel
theorem d_A_read_65 : decode b_A_read 65 = .ok (.dup, 1) := by decide +kernel
theorem d_A_read_66 : decode b_A_read 66 = .ok (.getfield 69, 3) := by decide +kernel
theorem d_A_read_69 : decode b_A_read 69 = .ok (.iconst 1, 1) := by decide +kernel
theorem d_A_read_70 : decode b_A_read 70 = .ok (.iadd, 1) := by decide +kernel
theorem d_A_read_71 : decode b_A_read 71 = .ok (.putfield 69, 3) := by decide +kernel
theorem d_A_read_74 : decode b_A_read 74 = .ok (.aload_n 0, 1) := by decide +kernel
theorem d_A_read_75 : decode b_A_read 75 = .ok (.getfield 25, 3) := by decide +kernel
theorem d_A_read_78 : decode b_A_read 78 = .ok (.iload 5, 2) := by decide +kernel
theorem d_A_read_80 : decode b_A_read 80 = .ok (.iload_n 3, 1) := by decide +kernel
theorem d_A_read_81 : decode b_A_read 81 = .ok (.invokevirtual 72, 3) := by decide +kernel
theorem d_A_read_84 : decode b_A_read 84 = .ok (.invokestatic 75, 3) := by decide +kernel
theorem d_A_read_87 : decode b_A_read 87 = .ok (.lreturn, 1) := by decide +kernel
theorem d_A_read_88 : decode b_A_read 88 = .ok (.aload_n 0, 1) := by decide +kernel
theorem d_A_read_89 : decode b_A_read 89 = .ok (.iload_n 3, 1) := by decide +kernel
theorem d_A_read_90 : decode b_A_read 90 = .ok (.invokevirtual 79, 3) := by decide +kernel
theorem d_A_read_93 : decode b_A_read 93 = .ok (.aload_n 0, 1) := by decide +kernel
theorem d_A_read_94 : decode b_A_read 94 = .ok (.getfield 41, 3) := by decide +kernel
theorem d_A_read_97 : decode b_A_read 97 = .ok (.iload 4, 2) := by decide +kernel
theorem d_A_read_99 : decode b_A_read 99 = .ok (.invokevirtual 82, 3) := by decide +kernel
theorem d_A_read_102 : decode b_A_read 102 = .ok (.invokestatic 75, 3) := by decide +kernel
theorem d_A_read_105 : decode b_A_read 105 = .ok (.lreturn, 1) := by decide +kernel
theorem d_A_write_0 : decode b_A_write 0 = .ok (.aload_n 0, 1) := by decide +kernel
theorem d_A_write_1 : decode b_A_write 1 = .ok (.iload_n 1, 1) := by decide +kernel
theorem d_A_write_2 : decode b_A_write 2 = .ok (.iconst 1, 1) := by decide +kernel
theorem d_A_write_3 : decode b_A_write 3 = .ok (.iload_n 2, 1) := by decide +kernel
theorem d_A_write_4 : decode b_A_write 4 = .ok (.invokevirtual 86, 3) := by decide +kernel
theorem d_A_write_7 : decode b_A_write 7 = .ok (.ireturn, 1) := by decide +kernel
theorem d_A_writeRun_0 : decode b_A_writeRun 0 = .ok (.aload_n 0, 1) := by decide +kernel
theorem d_A_writeRun_1 : decode b_A_writeRun 1 = .ok (.iload_n 1, 1) := by decide +kernel
theorem d_A_writeRun_2 : decode b_A_writeRun 2 = .ok (.invokevirtual 51, 3) := by decide +kernel
theorem d_A_writeRun_5 : decode b_A_writeRun 5 = .ok (.ifCond .eq 18, 3) := by decide +kernel
theorem d_A_writeRun_8 : decode b_A_writeRun 8 = .ok (.iload_n 2, 1) := by decide +kernel
theorem d_A_writeRun_9 : decode b_A_writeRun 9 = .ok (.iconst 1, 1) := by decide +kernel
theorem d_A_writeRun_10 : decode b_A_writeRun 10 = .ok (.if_icmp .lt 13, 3) := by decide +kernel
theorem d_A_writeRun_13 : decode b_A_writeRun 13 = .ok (.iload_n 2, 1) := by decide +kernel
theorem d_A_writeRun_14 : decode b_A_writeRun 14 = .ok (.aload_n 0, 1) := by decide +kernel
theorem d_A_writeRun_15 : decode b_A_writeRun 15 = .ok (.invokevirtual 89, 3) := by decide +kernel
theorem d_A_writeRun_18 : decode b_A_writeRun 18 = .ok (.iload_n 1, 1) := by decide +kernel
theorem d_A_writeRun_19 : decode b_A_writeRun 19 = .ok (.isub, 1) := by decide +kernel
theorem d_A_writeRun_20 : decode b_A_writeRun 20 = .ok (.if_icmp .le 5, 3) := by decide +kernel
theorem d_A_writeRun_23 : decode b_A_writeRun 23 = .ok (.iconst (-1), 1) := by decide +kernel
theorem d_A_writeRun_24 : decode b_A_writeRun 24 = .ok (.ireturn, 1) := by decide +kernel
theorem d_A_writeRun_25 : decode b_A_writeRun 25 = .ok (.aload_n 0, 1) := by decide +kernel
theorem d_A_writeRun_26 : decode b_A_writeRun 26 = .ok (.invokevirtual 57, 3) := by decide +kernel
theorem d_A_writeRun_29 : decode b_A_writeRun 29 = .ok (.istore 4, 2) := by decide +kernel
theorem d_A_writeRun_31 : decode b_A_writeRun 31 = .ok (.iload 4, 2) := by decide +kernel
theorem d_A_writeRun_33 : decode b_A_writeRun 33 = .ok (.ifCond .eq 6, 3) := by decide +kernel
theorem d_A_writeRun_36 : decode b_A_writeRun 36 = .ok (.iload 4, 2) := by decide +kernel
theorem d_A_writeRun_38 : decode b_A_writeRun 38 = .ok (.ireturn, 1) := by decide +kernel
theorem d_A_writeRun_39 : decode b_A_writeRun 39 = .ok (.aload_n 0, 1) := by decide +kernel
theorem d_A_writeRun_40 : decode b_A_writeRun 40 = .ok (.iconst 0, 1) := by decide +kernel
theorem d_A_writeRun_41 : decode b_A_writeRun 41 = .ok (.putfield 92, 3) := by decide +kernel
theorem d_A_writeRun_44 : decode b_A_writeRun 44 = .ok (.iload_n 1, 1) := by decide +kernel
theorem d_A_writeRun_45 : decode b_A_writeRun 45 = .ok (.iload_n 2, 1) := by decide +kernel
theorem d_A_writeRun_46 : decode b_A_writeRun 46 = .ok (.iadd, 1) := by decide +kernel
theorem d_A_writeRun_47 : decode b_A_writeRun 47 = .ok (.istore 5, 2) := by decide +kernel
theorem d_A_writeRun_49 : decode b_A_writeRun 49 = .ok (.iload 5, 2) := by decide +kernel
theorem d_A_writeRun_51 : decode b_A_writeRun 51 = .ok (.iconst 1, 1) := by decide +kernel
theorem d_A_writeRun_52 : decode b_A_writeRun 52 = .ok (.isub, 1) := by decide +kernel
theorem d_A_writeRun_53 : decode b_A_writeRun 53 = .ok (.aload_n 0, 1) := by decide +kernel
theorem d_A_writeRun_54 : decode b_A_writeRun 54 = .ok (.getfield 17, 3) := by decide +kernel
theorem d_A_writeRun_57 : decode b_A_writeRun 57 = .ok (.idiv, 1) := by decide +kernel
theorem d_A_writeRun_58 : decode b_A_writeRun 58 = .ok (.istore 6, 2) := by decide +kernel
theorem d_A_writeRun_60 : decode b_A_writeRun 60 = .ok (.iload_n 1, 1) := by decide +kernel
theorem d_A_writeRun_61 : decode b_A_writeRun 61 = .ok (.aload_n 0, 1) := by decide +kernel
theorem d_A_writeRun_62 : decode b_A_writeRun 62 = .ok (.getfield 17, 3) := by decide +kernel
theorem d_A_writeRun_65 : decode b_A_writeRun 65 = .ok (.idiv, 1) := by decide +kernel
theorem d_A_writeRun_66 : decode b_A_writeRun 66 = .ok (.istore 7, 2) := by decide +kernel
theorem d_A_writeRun_68 : decode b_A_writeRun 68 = .ok (.iload 7, 2) := by decide +kernel
theorem d_A_writeRun_70 : decode b_A_writeRun 70 = .ok (.iload 6, 2) := by decide +kernel
theorem d_A_writeRun_72 : decode b_A_writeRun 72 = .ok (.if_icmp .gt 68, 3) := by decide +kernel
theorem d_A_writeRun_75 : decode b_A_writeRun 75 = .ok (.iload 7, 2) := by decide +kernel
theorem d_A_writeRun_77 : decode b_A_writeRun 77 = .ok (.aload_n 0, 1) := by decide +kernel
theorem d_A_writeRun_78 : decode b_A_writeRun 78 = .ok (.getfield 17, 3) := by decide +kernel
theorem d_A_writeRun_81 : decode b_A_writeRun 81 = .ok (.imul, 1) := by decide +kernel
theorem d_A_writeRun_82 : decode b_A_writeRun 82 = .ok (.istore 8, 2) := by decide +kernel
theorem d_A_writeRun_84 : decode b_A_writeRun 84 = .ok (.iload_n 1, 1) := by decide +kernel
theorem d_A_writeRun_85 : decode b_A_writeRun 85 = .ok (.iload 8, 2) := by decide +kernel
theorem d_A_writeRun_87 : decode b_A_writeRun 87 = .ok (.invokestatic 95, 3) := by decide +kernel
theorem d_A_writeRun_90 : decode b_A_writeRun 90 = .ok (.istore 9, 2) := by decide +kernel
theorem d_A_writeRun_92 : decode b_A_writeRun 92 = .ok (.iload 5, 2) := by decide +kernel
theorem d_A_writeRun_94 : decode b_A_writeRun 94 = .ok (.iload 8, 2) := by decide +kernel
theorem d_A_writeRun_96 : decode b_A_writeRun 96 = .ok (.aload_n 0, 1) := by decide +kernel
theorem d_A_writeRun_97 : decode b_A_writeRun 97 = .ok (.getfield 17, 3) := by decide +kernel
theorem d_A_writeRun_100 : decode b_A_writeRun 100 = .ok (.iadd, 1) := by decide +kernel
theorem d_A_writeRun_101 : decode b_A_writeRun 101 = .ok (.invokestatic 100, 3) := by decide +kernel
theorem d_A_writeRun_104 : decode b_A_writeRun 104 = .ok (.istore 10, 2) := by decide +kernel
theorem d_A_writeRun_106 : decode b_A_writeRun 106 = .ok (.aload_n 0, 1) := by decide +kernel
theorem d_A_writeRun_107 : decode b_A_writeRun 107 = .ok (.iload 7, 2) := by decide +kernel
theorem d_A_writeRun_109 : decode b_A_writeRun 109 = .ok (.iload 9, 2) := by decide +kernel
theorem d_A_writeRun_111 : decode b_A_writeRun 111 = .ok (.iload 8, 2) := by decide +kernel
theorem d_A_writeRun_113 : decode b_A_writeRun 113 = .ok (.isub, 1) := by decide +kernel
theorem d_A_writeRun_114 : decode b_A_writeRun 114 = .ok (.iload 10, 2) := by decide +kernel
theorem d_A_writeRun_116 : decode b_A_writeRun 116 = .ok (.iload 9, 2) := by decide +kernel
theorem d_A_writeRun_118 : decode b_A_writeRun 118 = .ok (.isub, 1) := by decide +kernel
theorem d_A_writeRun_119 : decode b_A_writeRun 119 = .ok (.iload_n 3, 1) := by decide +kernel
theorem d_A_writeRun_120 : decode b_A_writeRun 120 = .ok (.iload 9, 2) := by decide +kernel
theorem d_A_writeRun_122 : decode b_A_writeRun 122 = .ok (.iload_n 1, 1) := by decide +kernel
theorem d_A_writeRun_123 : decode b_A_writeRun 123 = .ok (.isub, 1) := by decide +kernel
theorem d_A_writeRun_124 : decode b_A_writeRun 124 = .ok (.iadd, 1) := by decide +kernel
theorem d_A_writeRun_125 : decode b_A_writeRun 125 = .ok (.invokevirtual 103, 3) := by decide +kernel
theorem d_A_writeRun_128 : decode b_A_writeRun 128 = .ok (.ifCond .ne 6, 3) := by decide +kernel
theorem d_A_writeRun_131 : decode b_A_writeRun 131 = .ok (.bipush (-4), 2) := by decide +kernel
theorem d_A_writeRun_133 : decode b_A_writeRun 133 = .ok (.ireturn, 1) := by decide +kernel
theorem d_A_writeRun_134 : decode b_A_writeRun 134 = .ok (.iinc 7 1, 3) := by decide +kernel
theorem d_A_writeRun_137 : decode b_A_writeRun 137 = .ok (.goto (-69), 3) := by decide +kernel
theorem d_A_writeRun_140 : decode b_A_writeRun 140 = .ok (.aload_n 0, 1) := by decide +kernel
theorem d_A_writeRun_141 : decode b_A_writeRun 141 = .ok (.getfield 92, 3) := by decide +kernel
theorem d_A_writeRun_144 : decode b_A_writeRun 144 = .ok (.ireturn, 1) := by decide +kernel
theorem d_A_fail_0 : decode b_A_fail 0 = .ok (.aload_n 0, 1) := by decide +kernel
theorem d_A_fail_1 : decode b_A_fail 1 = .ok (.getfield 25, 3) := by decide +kernel
theorem d_A_fail_4 : decode b_A_fail 4 = .ok (.iload_n 1, 1) := by decide +kernel
theorem d_A_fail_5 : decode b_A_fail 5 = .ok (.invokevirtual 107, 3) := by decide +kernel
theorem d_A_fail_8 : decode b_A_fail 8 = .ok (.ifCond .eq 14, 3) := by decide +kernel
theorem d_A_fail_11 : decode b_A_fail 11 = .ok (.aload_n 0, 1) := by decide +kernel
theorem d_A_fail_12 : decode b_A_fail 12 = .ok (.getfield 25, 3) := by decide +kernel
theorem d_A_fail_15 : decode b_A_fail 15 = .ok (.iload_n 1, 1) := by decide +kernel
theorem d_A_fail_16 : decode b_A_fail 16 = .ok (.invokevirtual 110, 3) := by decide +kernel
theorem d_A_fail_19 : decode b_A_fail 19 = .ok (.ifCond .eq 5, 3) := by decide +kernel
theorem d_A_fail_22 : decode b_A_fail 22 = .ok (.iconst 0, 1) := by decide +kernel
theorem d_A_fail_23 : decode b_A_fail 23 = .ok (.ireturn, 1) := by decide +kernel
theorem d_A_fail_24 : decode b_A_fail 24 = .ok (.aload_n 0, 1) := by decide +kernel
theorem d_A_fail_25 : decode b_A_fail 25 = .ok (.getfield 25, 3) := by decide +kernel
theorem d_A_fail_28 : decode b_A_fail 28 = .ok (.iload_n 1, 1) := by decide +kernel
theorem d_A_fail_29 : decode b_A_fail 29 = .ok (.invokevirtual 113, 3) := by decide +kernel
theorem d_A_fail_32 : decode b_A_fail 32 = .ok (.iconst 1, 1) := by decide +kernel
theorem d_A_fail_33 : decode b_A_fail 33 = .ok (.ireturn, 1) := by decide +kernel
theorem d_A_replace_0 : decode b_A_replace 0 = .ok (.aload_n 0, 1) := by decide +kernel
theorem d_A_replace_1 : decode b_A_replace 1 = .ok (.getfield 25, 3) := by decide +kernel
theorem d_A_replace_4 : decode b_A_replace 4 = .ok (.iload_n 1, 1) := by decide +kernel
theorem d_A_replace_5 : decode b_A_replace 5 = .ok (.invokevirtual 107, 3) := by decide +kernel
theorem d_A_replace_8 : decode b_A_replace 8 = .ok (.ifCond .eq 21, 3) := by decide +kernel
theorem d_A_replace_11 : decode b_A_replace 11 = .ok (.aload_n 0, 1) := by decide +kernel
theorem d_A_replace_12 : decode b_A_replace 12 = .ok (.getfield 25, 3) := by decide +kernel
theorem d_A_replace_15 : decode b_A_replace 15 = .ok (.iload_n 1, 1) := by decide +kernel
theorem d_A_replace_16 : decode b_A_replace 16 = .ok (.invokevirtual 110, 3) := by decide +kernel
theorem d_A_replace_19 : decode b_A_replace 19 = .ok (.ifCond .eq 10, 3) := by decide +kernel
theorem d_A_replace_22 : decode b_A_replace 22 = .ok (.aload_n 0, 1) := by decide +kernel
theorem d_A_replace_23 : decode b_A_replace 23 = .ok (.getfield 45, 3) := by decide +kernel
theorem d_A_replace_26 : decode b_A_replace 26 = .ok (.ifCond .ne 5, 3) := by decide +kernel
theorem d_A_replace_29 : decode b_A_replace 29 = .ok (.iconst 0, 1) := by decide +kernel
theorem d_A_replace_30 : decode b_A_replace 30 = .ok (.ireturn, 1) := by decide +kernel
theorem d_A_replace_31 : decode b_A_replace 31 = .ok (.aload_n 0, 1) := by decide +kernel
theorem d_A_replace_32 : decode b_A_replace 32 = .ok (.dup, 1) := by decide +kernel
theorem d_A_replace_33 : decode b_A_replace 33 = .ok (.getfield 45, 3) := by decide +kernel
theorem d_A_replace_36 : decode b_A_replace 36 = .ok (.iconst 1, 1) := by decide +kernel
theorem d_A_replace_37 : decode b_A_replace 37 = .ok (.isub, 1) := by decide +kernel
theorem d_A_replace_38 : decode b_A_replace 38 = .ok (.putfield 45, 3) := by decide +kernel
theorem d_A_replace_41 : decode b_A_replace 41 = .ok (.aload_n 0, 1) := by decide +kernel
theorem d_A_replace_42 : decode b_A_replace 42 = .ok (.getfield 25, 3) := by decide +kernel
theorem d_A_replace_45 : decode b_A_replace 45 = .ok (.iload_n 1, 1) := by decide +kernel
theorem d_A_replace_46 : decode b_A_replace 46 = .ok (.invokevirtual 116, 3) := by decide +kernel
theorem d_A_replace_49 : decode b_A_replace 49 = .ok (.iconst 1, 1) := by decide +kernel
theorem d_A_replace_50 : decode b_A_replace 50 = .ok (.ireturn, 1) := by decide +kernel
theorem d_A_rebuild_0 : decode b_A_rebuild 0 = .ok (.aload_n 0, 1) := by decide +kernel
theorem d_A_rebuild_1 : decode b_A_rebuild 1 = .ok (.invokevirtual 57, 3) := by decide +kernel
theorem d_A_rebuild_4 : decode b_A_rebuild 4 = .ok (.istore_n 1, 1) := by decide +kernel
theorem d_A_rebuild_5 : decode b_A_rebuild 5 = .ok (.iload_n 1, 1) := by decide +kernel
theorem d_A_rebuild_6 : decode b_A_rebuild 6 = .ok (.ifCond .eq 5, 3) := by decide +kernel
theorem d_A_rebuild_9 : decode b_A_rebuild 9 = .ok (.iload_n 1, 1) := by decide +kernel
theorem d_A_rebuild_10 : decode b_A_rebuild 10 = .ok (.ireturn, 1) := by decide +kernel
theorem d_A_rebuild_11 : decode b_A_rebuild 11 = .ok (.aload_n 0, 1) := by decide +kernel
theorem d_A_rebuild_12 : decode b_A_rebuild 12 = .ok (.getfield 25, 3) := by decide +kernel
theorem d_A_rebuild_15 : decode b_A_rebuild 15 = .ok (.invokevirtual 119, 3) := by decide +kernel
theorem d_A_rebuild_18 : decode b_A_rebuild 18 = .ok (.istore_n 2, 1) := by decide +kernel
theorem d_A_rebuild_19 : decode b_A_rebuild 19 = .ok (.iload_n 2, 1) := by decide +kernel
theorem d_A_rebuild_20 : decode b_A_rebuild 20 = .ok (.iconst (-1), 1) := by decide +kernel
theorem d_A_rebuild_21 : decode b_A_rebuild 21 = .ok (.if_icmp .ne 6, 3) := by decide +kernel
theorem d_A_rebuild_24 : decode b_A_rebuild 24 = .ok (.bipush (-5), 2) := by decide +kernel
theorem d_A_rebuild_26 : decode b_A_rebuild 26 = .ok (.ireturn, 1) := by decide +kernel
theorem d_A_rebuild_27 : decode b_A_rebuild 27 = .ok (.aload_n 0, 1) := by decide +kernel
theorem d_A_rebuild_28 : decode b_A_rebuild 28 = .ok (.getfield 25, 3) := by decide +kernel
theorem d_A_rebuild_31 : decode b_A_rebuild 31 = .ok (.iload_n 2, 1) := by decide +kernel
theorem d_A_rebuild_32 : decode b_A_rebuild 32 = .ok (.invokevirtual 122, 3) := by decide +kernel
theorem d_A_rebuild_35 : decode b_A_rebuild 35 = .ok (.istore_n 3, 1) := by decide +kernel
theorem d_A_rebuild_36 : decode b_A_rebuild 36 = .ok (.aload_n 0, 1) := by decide +kernel
theorem d_A_rebuild_37 : decode b_A_rebuild 37 = .ok (.iload_n 3, 1) := by decide +kernel
theorem d_A_rebuild_38 : decode b_A_rebuild 38 = .ok (.invokevirtual 79, 3) := by decide +kernel
theorem d_A_rebuild_41 : decode b_A_rebuild 41 = .ok (.aload_n 0, 1) := by decide +kernel
theorem d_A_rebuild_42 : decode b_A_rebuild 42 = .ok (.iload_n 2, 1) := by decide +kernel
theorem d_A_rebuild_43 : decode b_A_rebuild 43 = .ok (.iload_n 3, 1) := by decide +kernel
theorem d_A_rebuild_44 : decode b_A_rebuild 44 = .ok (.aload_n 0, 1) := by decide +kernel
theorem d_A_rebuild_45 : decode b_A_rebuild 45 = .ok (.getfield 41, 3) := by decide +kernel
theorem d_A_rebuild_48 : decode b_A_rebuild 48 = .ok (.aload_n 0, 1) := by decide +kernel
theorem d_A_rebuild_49 : decode b_A_rebuild 49 = .ok (.getfield 25, 3) := by decide +kernel
theorem d_A_rebuild_52 : decode b_A_rebuild 52 = .ok (.iload_n 2, 1) := by decide +kernel
theorem d_A_rebuild_53 : decode b_A_rebuild 53 = .ok (.iload_n 3, 1) := by decide +kernel
theorem d_A_rebuild_54 : decode b_A_rebuild 54 = .ok (.invokevirtual 125, 3) := by decide +kernel
theorem d_A_rebuild_57 : decode b_A_rebuild 57 = .ok (.invokevirtual 82, 3) := by decide +kernel
theorem d_A_rebuild_60 : decode b_A_rebuild 60 = .ok (.invokevirtual 128, 3) := by decide +kernel
theorem d_A_rebuild_63 : decode b_A_rebuild 63 = .ok (.ifCond .ne 6, 3) := by decide +kernel
theorem d_A_rebuild_66 : decode b_A_rebuild 66 = .ok (.bipush (-4), 2) := by decide +kernel
theorem d_A_rebuild_68 : decode b_A_rebuild 68 = .ok (.ireturn, 1) := by decide +kernel
theorem d_A_rebuild_69 : decode b_A_rebuild 69 = .ok (.aload_n 0, 1) := by decide +kernel
theorem d_A_rebuild_70 : decode b_A_rebuild 70 = .ok (.invokevirtual 132, 3) := by decide +kernel
theorem d_A_rebuild_73 : decode b_A_rebuild 73 = .ok (.ifCond .ne 6, 3) := by decide +kernel
theorem d_A_rebuild_76 : decode b_A_rebuild 76 = .ok (.bipush (-4), 2) := by decide +kernel
theorem d_A_rebuild_78 : decode b_A_rebuild 78 = .ok (.ireturn, 1) := by decide +kernel
theorem d_A_rebuild_79 : decode b_A_rebuild 79 = .ok (.aload_n 0, 1) := by decide +kernel
theorem d_A_rebuild_80 : decode b_A_rebuild 80 = .ok (.getfield 25, 3) := by decide +kernel
theorem d_A_rebuild_83 : decode b_A_rebuild 83 = .ok (.iload_n 2, 1) := by decide +kernel
theorem d_A_rebuild_84 : decode b_A_rebuild 84 = .ok (.invokevirtual 136, 3) := by decide +kernel
theorem d_A_rebuild_87 : decode b_A_rebuild 87 = .ok (.aload_n 0, 1) := by decide +kernel
theorem d_A_rebuild_88 : decode b_A_rebuild 88 = .ok (.getfield 13, 3) := by decide +kernel
theorem d_A_rebuild_91 : decode b_A_rebuild 91 = .ok (.aload_n 0, 1) := by decide +kernel
theorem d_A_rebuild_92 : decode b_A_rebuild 92 = .ok (.getfield 25, 3) := by decide +kernel
theorem d_A_rebuild_95 : decode b_A_rebuild 95 = .ok (.iload_n 2, 1) := by decide +kernel
theorem d_A_rebuild_96 : decode b_A_rebuild 96 = .ok (.invokevirtual 122, 3) := by decide +kernel
theorem d_A_rebuild_99 : decode b_A_rebuild 99 = .ok (.isub, 1) := by decide +kernel
theorem d_A_rebuild_100 : decode b_A_rebuild 100 = .ok (.ireturn, 1) := by decide +kernel
theorem d_A_scrub_0 : decode b_A_scrub 0 = .ok (.aload_n 0, 1) := by decide +kernel
theorem d_A_scrub_1 : decode b_A_scrub 1 = .ok (.getfield 25, 3) := by decide +kernel
theorem d_A_scrub_4 : decode b_A_scrub 4 = .ok (.iload_n 1, 1) := by decide +kernel
theorem d_A_scrub_5 : decode b_A_scrub 5 = .ok (.invokevirtual 139, 3) := by decide +kernel
theorem d_A_scrub_8 : decode b_A_scrub 8 = .ok (.ifCond .ne 5, 3) := by decide +kernel
theorem d_A_scrub_11 : decode b_A_scrub 11 = .ok (.iconst (-1), 1) := by decide +kernel
theorem d_A_scrub_12 : decode b_A_scrub 12 = .ok (.ireturn, 1) := by decide +kernel
theorem d_A_scrub_13 : decode b_A_scrub 13 = .ok (.aload_n 0, 1) := by decide +kernel
theorem d_A_scrub_14 : decode b_A_scrub 14 = .ok (.invokevirtual 57, 3) := by decide +kernel
theorem d_A_scrub_17 : decode b_A_scrub 17 = .ok (.istore_n 2, 1) := by decide +kernel
theorem d_A_scrub_18 : decode b_A_scrub 18 = .ok (.iload_n 2, 1) := by decide +kernel
theorem d_A_scrub_19 : decode b_A_scrub 19 = .ok (.ifCond .eq 5, 3) := by decide +kernel
theorem d_A_scrub_22 : decode b_A_scrub 22 = .ok (.iload_n 2, 1) := by decide +kernel
theorem d_A_scrub_23 : decode b_A_scrub 23 = .ok (.ireturn, 1) := by decide +kernel
theorem d_A_scrub_24 : decode b_A_scrub 24 = .ok (.aload_n 0, 1) := by decide +kernel
theorem d_A_scrub_25 : decode b_A_scrub 25 = .ok (.getfield 25, 3) := by decide +kernel
theorem d_A_scrub_28 : decode b_A_scrub 28 = .ok (.iload_n 1, 1) := by decide +kernel
theorem d_A_scrub_29 : decode b_A_scrub 29 = .ok (.invokevirtual 142, 3) := by decide +kernel
theorem d_A_scrub_32 : decode b_A_scrub 32 = .ok (.ifCond .ne 6, 3) := by decide +kernel
theorem d_A_scrub_35 : decode b_A_scrub 35 = .ok (.bipush (-6), 2) := by decide +kernel
theorem d_A_scrub_37 : decode b_A_scrub 37 = .ok (.ireturn, 1) := by decide +kernel
theorem d_A_scrub_38 : decode b_A_scrub 38 = .ok (.aload_n 0, 1) := by decide +kernel
theorem d_A_scrub_39 : decode b_A_scrub 39 = .ok (.iload_n 1, 1) := by decide +kernel
theorem d_A_scrub_40 : decode b_A_scrub 40 = .ok (.invokevirtual 79, 3) := by decide +kernel
theorem d_A_scrub_43 : decode b_A_scrub 43 = .ok (.aload_n 0, 1) := by decide +kernel
theorem d_A_scrub_44 : decode b_A_scrub 44 = .ok (.getfield 41, 3) := by decide +kernel
theorem d_A_scrub_47 : decode b_A_scrub 47 = .ok (.invokevirtual 145, 3) := by decide +kernel
theorem d_A_scrub_50 : decode b_A_scrub 50 = .ok (.ifCond .eq 5, 3) := by decide +kernel
theorem d_A_scrub_53 : decode b_A_scrub 53 = .ok (.iconst 0, 1) := by decide +kernel
theorem d_A_scrub_54 : decode b_A_scrub 54 = .ok (.ireturn, 1) := by decide +kernel
theorem d_A_scrub_55 : decode b_A_scrub 55 = .ok (.aload_n 0, 1) := by decide +kernel
theorem d_A_scrub_56 : decode b_A_scrub 56 = .ok (.getfield 41, 3) := by decide +kernel
theorem d_A_scrub_59 : decode b_A_scrub 59 = .ok (.invokevirtual 148, 3) := by decide +kernel
theorem d_A_scrub_62 : decode b_A_scrub 62 = .ok (.istore_n 3, 1) := by decide +kernel
theorem d_A_scrub_63 : decode b_A_scrub 63 = .ok (.iload_n 3, 1) := by decide +kernel
theorem d_A_scrub_64 : decode b_A_scrub 64 = .ok (.iconst (-1), 1) := by decide +kernel
theorem d_A_scrub_65 : decode b_A_scrub 65 = .ok (.if_icmp .ne 6, 3) := by decide +kernel
theorem d_A_scrub_68 : decode b_A_scrub 68 = .ok (.bipush (-7), 2) := by decide +kernel
theorem d_A_scrub_70 : decode b_A_scrub 70 = .ok (.ireturn, 1) := by decide +kernel
theorem d_A_scrub_71 : decode b_A_scrub 71 = .ok (.aload_n 0, 1) := by decide +kernel
theorem d_A_scrub_72 : decode b_A_scrub 72 = .ok (.getfield 25, 3) := by decide +kernel
theorem d_A_scrub_75 : decode b_A_scrub 75 = .ok (.iload_n 3, 1) := by decide +kernel
theorem d_A_scrub_76 : decode b_A_scrub 76 = .ok (.iload_n 1, 1) := by decide +kernel
theorem d_A_scrub_77 : decode b_A_scrub 77 = .ok (.invokevirtual 61, 3) := by decide +kernel
theorem d_A_scrub_80 : decode b_A_scrub 80 = .ok (.istore 4, 2) := by decide +kernel
theorem d_A_scrub_82 : decode b_A_scrub 82 = .ok (.aload_n 0, 1) := by decide +kernel
theorem d_A_scrub_83 : decode b_A_scrub 83 = .ok (.iload 4, 2) := by decide +kernel
theorem d_A_scrub_85 : decode b_A_scrub 85 = .ok (.iload_n 1, 1) := by decide +kernel
theorem d_A_scrub_86 : decode b_A_scrub 86 = .ok (.aload_n 0, 1) := by decide +kernel
theorem d_A_scrub_87 : decode b_A_scrub 87 = .ok (.getfield 41, 3) := by decide +kernel
theorem d_A_scrub_90 : decode b_A_scrub 90 = .ok (.iload_n 3, 1) := by decide +kernel
theorem d_A_scrub_91 : decode b_A_scrub 91 = .ok (.invokevirtual 151, 3) := by decide +kernel
theorem d_A_scrub_94 : decode b_A_scrub 94 = .ok (.invokevirtual 128, 3) := by decide +kernel
theorem d_A_scrub_97 : decode b_A_scrub 97 = .ok (.ifCond .ne 6, 3) := by decide +kernel
theorem d_A_scrub_100 : decode b_A_scrub 100 = .ok (.bipush (-4), 2) := by decide +kernel
theorem d_A_scrub_102 : decode b_A_scrub 102 = .ok (.ireturn, 1) := by decide +kernel
theorem d_A_scrub_103 : decode b_A_scrub 103 = .ok (.iconst 1, 1) := by decide +kernel
theorem d_A_scrub_104 : decode b_A_scrub 104 = .ok (.iload 4, 2) := by decide +kernel
theorem d_A_scrub_106 : decode b_A_scrub 106 = .ok (.iadd, 1) := by decide +kernel
theorem d_A_scrub_107 : decode b_A_scrub 107 = .ok (.ireturn, 1) := by decide +kernel
theorem d_A_corrupt_0 : decode b_A_corrupt 0 = .ok (.aload_n 0, 1) := by decide +kernel
theorem d_A_corrupt_1 : decode b_A_corrupt 1 = .ok (.getfield 25, 3) := by decide +kernel
theorem d_A_corrupt_4 : decode b_A_corrupt 4 = .ok (.iload_n 1, 1) := by decide +kernel
theorem d_A_corrupt_5 : decode b_A_corrupt 5 = .ok (.iload_n 2, 1) := by decide +kernel
theorem d_A_corrupt_6 : decode b_A_corrupt 6 = .ok (.invokevirtual 154, 3) := by decide +kernel
theorem d_A_corrupt_9 : decode b_A_corrupt 9 = .ok (.ifCond .eq 15, 3) := by decide +kernel
theorem d_A_corrupt_12 : decode b_A_corrupt 12 = .ok (.aload_n 0, 1) := by decide +kernel
theorem d_A_corrupt_13 : decode b_A_corrupt 13 = .ok (.getfield 25, 3) := by decide +kernel
theorem d_A_corrupt_16 : decode b_A_corrupt 16 = .ok (.iload_n 1, 1) := by decide +kernel
theorem d_A_corrupt_17 : decode b_A_corrupt 17 = .ok (.iload_n 2, 1) := by decide +kernel
theorem d_A_corrupt_18 : decode b_A_corrupt 18 = .ok (.invokevirtual 65, 3) := by decide +kernel
theorem d_A_corrupt_21 : decode b_A_corrupt 21 = .ok (.ifCond .ne 5, 3) := by decide +kernel
theorem d_A_corrupt_24 : decode b_A_corrupt 24 = .ok (.iconst 0, 1) := by decide +kernel
theorem d_A_corrupt_25 : decode b_A_corrupt 25 = .ok (.ireturn, 1) := by decide +kernel
theorem d_A_corrupt_26 : decode b_A_corrupt 26 = .ok (.aload_n 0, 1) := by decide +kernel
theorem d_A_corrupt_27 : decode b_A_corrupt 27 = .ok (.getfield 25, 3) := by decide +kernel
theorem d_A_corrupt_30 : decode b_A_corrupt 30 = .ok (.iload_n 1, 1) := by decide +kernel
theorem d_A_corrupt_31 : decode b_A_corrupt 31 = .ok (.iload_n 2, 1) := by decide +kernel
theorem d_A_corrupt_32 : decode b_A_corrupt 32 = .ok (.aload_n 0, 1) := by decide +kernel
theorem d_A_corrupt_33 : decode b_A_corrupt 33 = .ok (.getfield 25, 3) := by decide +kernel
theorem d_A_corrupt_36 : decode b_A_corrupt 36 = .ok (.iload_n 1, 1) := by decide +kernel
theorem d_A_corrupt_37 : decode b_A_corrupt 37 = .ok (.iload_n 2, 1) := by decide +kernel
theorem d_A_corrupt_38 : decode b_A_corrupt 38 = .ok (.invokevirtual 72, 3) := by decide +kernel
theorem d_A_corrupt_41 : decode b_A_corrupt 41 = .ok (.iload_n 3, 1) := by decide +kernel
theorem d_A_corrupt_42 : decode b_A_corrupt 42 = .ok (.ixor, 1) := by decide +kernel
theorem d_A_corrupt_43 : decode b_A_corrupt 43 = .ok (.invokevirtual 157, 3) := by decide +kernel
theorem d_A_corrupt_46 : decode b_A_corrupt 46 = .ok (.iconst 1, 1) := by decide +kernel
theorem d_A_corrupt_47 : decode b_A_corrupt 47 = .ok (.ireturn, 1) := by decide +kernel
theorem d_A_arm_0 : decode b_A_arm 0 = .ok (.iload_n 1, 1) := by decide +kernel
theorem d_A_arm_1 : decode b_A_arm 1 = .ok (.ifCond .lt 10, 3) := by decide +kernel
theorem d_A_arm_4 : decode b_A_arm 4 = .ok (.iload_n 1, 1) := by decide +kernel
theorem d_A_arm_5 : decode b_A_arm 5 = .ok (.sipush 1000, 3) := by decide +kernel
theorem d_A_arm_8 : decode b_A_arm 8 = .ok (.if_icmp .le 5, 3) := by decide +kernel
theorem d_A_arm_11 : decode b_A_arm 11 = .ok (.iconst 0, 1) := by decide +kernel
theorem d_A_arm_12 : decode b_A_arm 12 = .ok (.ireturn, 1) := by decide +kernel
theorem d_A_arm_13 : decode b_A_arm 13 = .ok (.aload_n 0, 1) := by decide +kernel
theorem d_A_arm_14 : decode b_A_arm 14 = .ok (.iload_n 1, 1) := by decide +kernel
theorem d_A_arm_15 : decode b_A_arm 15 = .ok (.putfield 48, 3) := by decide +kernel
theorem d_A_arm_18 : decode b_A_arm 18 = .ok (.iconst 1, 1) := by decide +kernel
theorem d_A_arm_19 : decode b_A_arm 19 = .ok (.ireturn, 1) := by decide +kernel
theorem d_A_crash_0 : decode b_A_crash 0 = .ok (.aload_n 0, 1) := by decide +kernel
theorem d_A_crash_1 : decode b_A_crash 1 = .ok (.getfield 161, 3) := by decide +kernel
theorem d_A_crash_4 : decode b_A_crash 4 = .ok (.ifCond .eq 5, 3) := by decide +kernel
theorem d_A_crash_7 : decode b_A_crash 7 = .ok (.iconst 0, 1) := by decide +kernel
theorem d_A_crash_8 : decode b_A_crash 8 = .ok (.ireturn, 1) := by decide +kernel
theorem d_A_crash_9 : decode b_A_crash 9 = .ok (.aload_n 0, 1) := by decide +kernel
theorem d_A_crash_10 : decode b_A_crash 10 = .ok (.invokevirtual 165, 3) := by decide +kernel
theorem d_A_crash_13 : decode b_A_crash 13 = .ok (.iconst 1, 1) := by decide +kernel
theorem d_A_crash_14 : decode b_A_crash 14 = .ok (.ireturn, 1) := by decide +kernel
theorem d_A_restart_0 : decode b_A_restart 0 = .ok (.aload_n 0, 1) := by decide +kernel
theorem d_A_restart_1 : decode b_A_restart 1 = .ok (.getfield 161, 3) := by decide +kernel
theorem d_A_restart_4 : decode b_A_restart 4 = .ok (.ifCond .ne 6, 3) := by decide +kernel
theorem d_A_restart_7 : decode b_A_restart 7 = .ok (.bipush (-8), 2) := by decide +kernel
theorem d_A_restart_9 : decode b_A_restart 9 = .ok (.ireturn, 1) := by decide +kernel
theorem d_A_restart_10 : decode b_A_restart 10 = .ok (.aload_n 0, 1) := by decide +kernel
theorem d_A_restart_11 : decode b_A_restart 11 = .ok (.getfield 25, 3) := by decide +kernel
theorem d_A_restart_14 : decode b_A_restart 14 = .ok (.invokevirtual 168, 3) := by decide +kernel
theorem d_A_restart_17 : decode b_A_restart 17 = .ok (.ifCond .eq 6, 3) := by decide +kernel
theorem d_A_restart_20 : decode b_A_restart 20 = .ok (.bipush (-3), 2) := by decide +kernel
theorem d_A_restart_22 : decode b_A_restart 22 = .ok (.ireturn, 1) := by decide +kernel
theorem d_A_restart_23 : decode b_A_restart 23 = .ok (.aload_n 0, 1) := by decide +kernel
theorem d_A_restart_24 : decode b_A_restart 24 = .ok (.iconst 0, 1) := by decide +kernel
theorem d_A_restart_25 : decode b_A_restart 25 = .ok (.putfield 92, 3) := by decide +kernel
theorem d_A_restart_28 : decode b_A_restart 28 = .ok (.aload_n 0, 1) := by decide +kernel
theorem d_A_restart_29 : decode b_A_restart 29 = .ok (.getfield 34, 3) := by decide +kernel
theorem d_A_restart_32 : decode b_A_restart 32 = .ok (.invokevirtual 171, 3) := by decide +kernel
theorem d_A_restart_35 : decode b_A_restart 35 = .ok (.ifCond .eq 13, 3) := by decide +kernel
theorem d_A_restart_38 : decode b_A_restart 38 = .ok (.aload_n 0, 1) := by decide +kernel
theorem d_A_restart_39 : decode b_A_restart 39 = .ok (.invokevirtual 174, 3) := by decide +kernel
theorem d_A_restart_42 : decode b_A_restart 42 = .ok (.ifCond .ne 6, 3) := by decide +kernel
theorem d_A_restart_45 : decode b_A_restart 45 = .ok (.bipush (-4), 2) := by decide +kernel
theorem d_A_restart_47 : decode b_A_restart 47 = .ok (.ireturn, 1) := by decide +kernel
theorem d_A_restart_48 : decode b_A_restart 48 = .ok (.aload_n 0, 1) := by decide +kernel
theorem d_A_restart_49 : decode b_A_restart 49 = .ok (.iconst 0, 1) := by decide +kernel
theorem d_A_restart_50 : decode b_A_restart 50 = .ok (.putfield 161, 3) := by decide +kernel
theorem d_A_restart_53 : decode b_A_restart 53 = .ok (.aload_n 0, 1) := by decide +kernel
theorem d_A_restart_54 : decode b_A_restart 54 = .ok (.getfield 92, 3) := by decide +kernel
theorem d_A_restart_57 : decode b_A_restart 57 = .ok (.ireturn, 1) := by decide +kernel
theorem d_A_faults_0 : decode b_A_faults 0 = .ok (.aload_n 0, 1) := by decide +kernel
theorem d_A_faults_1 : decode b_A_faults 1 = .ok (.getfield 25, 3) := by decide +kernel
theorem d_A_faults_4 : decode b_A_faults 4 = .ok (.invokevirtual 168, 3) := by decide +kernel
theorem d_A_faults_7 : decode b_A_faults 7 = .ok (.ifCond .eq 6, 3) := by decide +kernel
theorem d_A_faults_10 : decode b_A_faults 10 = .ok (.bipush (-3), 2) := by decide +kernel
theorem d_A_faults_12 : decode b_A_faults 12 = .ok (.ireturn, 1) := by decide +kernel
theorem d_A_faults_13 : decode b_A_faults 13 = .ok (.iconst 0, 1) := by decide +kernel
theorem d_A_faults_14 : decode b_A_faults 14 = .ok (.istore_n 1, 1) := by decide +kernel
theorem d_A_faults_15 : decode b_A_faults 15 = .ok (.iconst 0, 1) := by decide +kernel
theorem d_A_faults_16 : decode b_A_faults 16 = .ok (.istore_n 2, 1) := by decide +kernel
theorem d_A_faults_17 : decode b_A_faults 17 = .ok (.iload_n 2, 1) := by decide +kernel
theorem d_A_faults_18 : decode b_A_faults 18 = .ok (.aload_n 0, 1) := by decide +kernel
theorem d_A_faults_19 : decode b_A_faults 19 = .ok (.getfield 13, 3) := by decide +kernel
theorem d_A_faults_22 : decode b_A_faults 22 = .ok (.if_icmp .ge 34, 3) := by decide +kernel
theorem d_A_faults_25 : decode b_A_faults 25 = .ok (.aload_n 0, 1) := by decide +kernel
theorem d_A_faults_26 : decode b_A_faults 26 = .ok (.getfield 41, 3) := by decide +kernel
theorem d_A_faults_29 : decode b_A_faults 29 = .ok (.aload_n 0, 1) := by decide +kernel
theorem d_A_faults_30 : decode b_A_faults 30 = .ok (.getfield 25, 3) := by decide +kernel
theorem d_A_faults_33 : decode b_A_faults 33 = .ok (.iload_n 2, 1) := by decide +kernel
theorem d_A_faults_34 : decode b_A_faults 34 = .ok (.invokevirtual 177, 3) := by decide +kernel
theorem d_A_faults_37 : decode b_A_faults 37 = .ok (.aload_n 0, 1) := by decide +kernel
theorem d_A_faults_38 : decode b_A_faults 38 = .ok (.getfield 41, 3) := by decide +kernel
theorem d_A_faults_41 : decode b_A_faults 41 = .ok (.invokevirtual 145, 3) := by decide +kernel
theorem d_A_faults_44 : decode b_A_faults 44 = .ok (.ifCond .ne 6, 3) := by decide +kernel
theorem d_A_faults_47 : decode b_A_faults 47 = .ok (.iinc 1 1, 3) := by decide +kernel
theorem d_A_faults_50 : decode b_A_faults 50 = .ok (.iinc 2 1, 3) := by decide +kernel
theorem d_A_faults_53 : decode b_A_faults 53 = .ok (.goto (-36), 3) := by decide +kernel
theorem d_A_faults_56 : decode b_A_faults 56 = .ok (.iload_n 1, 1) := by decide +kernel
theorem d_A_faults_57 : decode b_A_faults 57 = .ok (.ireturn, 1) := by decide +kernel
theorem d_A_peek_0 : decode b_A_peek 0 = .ok (.aload_n 0, 1) := by decide +kernel
theorem d_A_peek_1 : decode b_A_peek 1 = .ok (.getfield 25, 3) := by decide +kernel
theorem d_A_peek_4 : decode b_A_peek 4 = .ok (.iload_n 1, 1) := by decide +kernel
theorem d_A_peek_5 : decode b_A_peek 5 = .ok (.iload_n 2, 1) := by decide +kernel
theorem d_A_peek_6 : decode b_A_peek 6 = .ok (.invokevirtual 154, 3) := by decide +kernel
theorem d_A_peek_9 : decode b_A_peek 9 = .ok (.ifCond .eq 15, 3) := by decide +kernel
theorem d_A_peek_12 : decode b_A_peek 12 = .ok (.aload_n 0, 1) := by decide +kernel
theorem d_A_peek_13 : decode b_A_peek 13 = .ok (.getfield 25, 3) := by decide +kernel
theorem d_A_peek_16 : decode b_A_peek 16 = .ok (.iload_n 1, 1) := by decide +kernel
theorem d_A_peek_17 : decode b_A_peek 17 = .ok (.iload_n 2, 1) := by decide +kernel
theorem d_A_peek_18 : decode b_A_peek 18 = .ok (.invokevirtual 65, 3) := by decide +kernel
theorem d_A_peek_21 : decode b_A_peek 21 = .ok (.ifCond .ne 7, 3) := by decide +kernel
theorem d_A_peek_24 : decode b_A_peek 24 = .ok (.ldc2_w 55, 3) := by decide +kernel
theorem d_A_peek_27 : decode b_A_peek 27 = .ok (.lreturn, 1) := by decide +kernel
theorem d_A_peek_28 : decode b_A_peek 28 = .ok (.aload_n 0, 1) := by decide +kernel
theorem d_A_peek_29 : decode b_A_peek 29 = .ok (.getfield 25, 3) := by decide +kernel
theorem d_A_peek_32 : decode b_A_peek 32 = .ok (.iload_n 1, 1) := by decide +kernel
theorem d_A_peek_33 : decode b_A_peek 33 = .ok (.iload_n 2, 1) := by decide +kernel
theorem d_A_peek_34 : decode b_A_peek 34 = .ok (.invokevirtual 72, 3) := by decide +kernel
theorem d_A_peek_37 : decode b_A_peek 37 = .ok (.invokestatic 75, 3) := by decide +kernel
theorem d_A_peek_40 : decode b_A_peek 40 = .ok (.lreturn, 1) := by decide +kernel
theorem d_A_locate_0 : decode b_A_locate 0 = .ok (.aload_n 0, 1) := by decide +kernel
theorem d_A_locate_1 : decode b_A_locate 1 = .ok (.iload_n 1, 1) := by decide +kernel
theorem d_A_locate_2 : decode b_A_locate 2 = .ok (.invokevirtual 51, 3) := by decide +kernel
theorem d_A_locate_5 : decode b_A_locate 5 = .ok (.ifCond .ne 5, 3) := by decide +kernel
theorem d_A_locate_8 : decode b_A_locate 8 = .ok (.iconst (-1), 1) := by decide +kernel
theorem d_A_locate_9 : decode b_A_locate 9 = .ok (.ireturn, 1) := by decide +kernel
theorem d_A_locate_10 : decode b_A_locate 10 = .ok (.aload_n 0, 1) := by decide +kernel
theorem d_A_locate_11 : decode b_A_locate 11 = .ok (.getfield 25, 3) := by decide +kernel
theorem d_A_locate_14 : decode b_A_locate 14 = .ok (.iload_n 1, 1) := by decide +kernel
theorem d_A_locate_15 : decode b_A_locate 15 = .ok (.aload_n 0, 1) := by decide +kernel
theorem d_A_locate_16 : decode b_A_locate 16 = .ok (.getfield 17, 3) := by decide +kernel
theorem d_A_locate_19 : decode b_A_locate 19 = .ok (.irem, 1) := by decide +kernel
theorem d_A_locate_20 : decode b_A_locate 20 = .ok (.iload_n 1, 1) := by decide +kernel
theorem d_A_locate_21 : decode b_A_locate 21 = .ok (.aload_n 0, 1) := by decide +kernel
theorem d_A_locate_22 : decode b_A_locate 22 = .ok (.getfield 17, 3) := by decide +kernel
theorem d_A_locate_25 : decode b_A_locate 25 = .ok (.idiv, 1) := by decide +kernel
theorem d_A_locate_26 : decode b_A_locate 26 = .ok (.invokevirtual 61, 3) := by decide +kernel
theorem d_A_locate_29 : decode b_A_locate 29 = .ok (.ireturn, 1) := by decide +kernel
theorem d_A_position_0 : decode b_A_position 0 = .ok (.aload_n 0, 1) := by decide +kernel
theorem d_A_position_1 : decode b_A_position 1 = .ok (.getfield 25, 3) := by decide +kernel
theorem d_A_position_4 : decode b_A_position 4 = .ok (.iload_n 1, 1) := by decide +kernel
theorem d_A_position_5 : decode b_A_position 5 = .ok (.invokevirtual 107, 3) := by decide +kernel
theorem d_A_position_8 : decode b_A_position 8 = .ok (.ifCond .ne 5, 3) := by decide +kernel
theorem d_A_position_11 : decode b_A_position 11 = .ok (.iconst (-1), 1) := by decide +kernel
theorem d_A_position_12 : decode b_A_position 12 = .ok (.ireturn, 1) := by decide +kernel
theorem d_A_position_13 : decode b_A_position 13 = .ok (.aload_n 0, 1) := by decide +kernel
theorem d_A_position_14 : decode b_A_position 14 = .ok (.getfield 25, 3) := by decide +kernel
theorem d_A_position_17 : decode b_A_position 17 = .ok (.iload_n 1, 1) := by decide +kernel
theorem d_A_position_18 : decode b_A_position 18 = .ok (.invokevirtual 110, 3) := by decide +kernel
theorem d_A_position_21 : decode b_A_position 21 = .ok (.ifCond .eq 8, 3) := by decide +kernel
theorem d_A_position_24 : decode b_A_position 24 = .ok (.bipush (-9), 2) := by decide +kernel
theorem d_A_position_26 : decode b_A_position 26 = .ok (.goto 11, 3) := by decide +kernel
theorem d_A_position_29 : decode b_A_position 29 = .ok (.aload_n 0, 1) := by decide +kernel
theorem d_A_position_30 : decode b_A_position 30 = .ok (.getfield 25, 3) := by decide +kernel
theorem d_A_position_33 : decode b_A_position 33 = .ok (.iload_n 1, 1) := by decide +kernel
theorem d_A_position_34 : decode b_A_position 34 = .ok (.invokevirtual 122, 3) := by decide +kernel
theorem d_A_position_37 : decode b_A_position 37 = .ok (.ireturn, 1) := by decide +kernel
theorem d_A_mode_0 : decode b_A_mode 0 = .ok (.aload_n 0, 1) := by decide +kernel
theorem d_A_mode_1 : decode b_A_mode 1 = .ok (.getfield 161, 3) := by decide +kernel
theorem d_A_mode_4 : decode b_A_mode 4 = .ok (.ifCond .eq 7, 3) := by decide +kernel
theorem d_A_mode_7 : decode b_A_mode 7 = .ok (.iconst 1, 1) := by decide +kernel
theorem d_A_mode_8 : decode b_A_mode 8 = .ok (.goto 4, 3) := by decide +kernel
theorem d_A_mode_11 : decode b_A_mode 11 = .ok (.iconst 0, 1) := by decide +kernel
theorem d_A_mode_12 : decode b_A_mode 12 = .ok (.istore_n 1, 1) := by decide +kernel
theorem d_A_mode_13 : decode b_A_mode 13 = .ok (.aload_n 0, 1) := by decide +kernel
theorem d_A_mode_14 : decode b_A_mode 14 = .ok (.getfield 25, 3) := by decide +kernel
theorem d_A_mode_17 : decode b_A_mode 17 = .ok (.invokevirtual 168, 3) := by decide +kernel
theorem d_A_mode_20 : decode b_A_mode 20 = .ok (.ifCond .eq 6, 3) := by decide +kernel
theorem d_A_mode_23 : decode b_A_mode 23 = .ok (.iinc 1 2, 3) := by decide +kernel
theorem d_A_mode_26 : decode b_A_mode 26 = .ok (.aload_n 0, 1) := by decide +kernel
theorem d_A_mode_27 : decode b_A_mode 27 = .ok (.getfield 48, 3) := by decide +kernel
theorem d_A_mode_30 : decode b_A_mode 30 = .ok (.iconst (-1), 1) := by decide +kernel
theorem d_A_mode_31 : decode b_A_mode 31 = .ok (.if_icmp .eq 6, 3) := by decide +kernel
theorem d_A_mode_34 : decode b_A_mode 34 = .ok (.iinc 1 4, 3) := by decide +kernel
theorem d_A_mode_37 : decode b_A_mode 37 = .ok (.iload_n 1, 1) := by decide +kernel
theorem d_A_mode_38 : decode b_A_mode 38 = .ok (.ireturn, 1) := by decide +kernel
theorem d_A_logged_0 : decode b_A_logged 0 = .ok (.aload_n 0, 1) := by decide +kernel
theorem d_A_logged_1 : decode b_A_logged 1 = .ok (.getfield 34, 3) := by decide +kernel
theorem d_A_logged_4 : decode b_A_logged 4 = .ok (.invokevirtual 181, 3) := by decide +kernel
theorem d_A_logged_7 : decode b_A_logged 7 = .ok (.ireturn, 1) := by decide +kernel
theorem d_A_spares_0 : decode b_A_spares 0 = .ok (.aload_n 0, 1) := by decide +kernel
theorem d_A_spares_1 : decode b_A_spares 1 = .ok (.getfield 45, 3) := by decide +kernel
theorem d_A_spares_4 : decode b_A_spares 4 = .ok (.ireturn, 1) := by decide +kernel
theorem d_A_reads_0 : decode b_A_reads 0 = .ok (.aload_n 0, 1) := by decide +kernel
theorem d_A_reads_1 : decode b_A_reads 1 = .ok (.getfield 69, 3) := by decide +kernel
theorem d_A_reads_4 : decode b_A_reads 4 = .ok (.ireturn, 1) := by decide +kernel
theorem d_A_writes_0 : decode b_A_writes 0 = .ok (.aload_n 0, 1) := by decide +kernel
theorem d_A_writes_1 : decode b_A_writes 1 = .ok (.getfield 184, 3) := by decide +kernel
theorem d_A_writes_4 : decode b_A_writes 4 = .ok (.ireturn, 1) := by decide +kernel
theorem d_A_within_0 : decode b_A_within 0 = .ok (.iload_n 1, 1) := by decide +kernel
theorem d_A_within_1 : decode b_A_within 1 = .ok (.iload_n 2, 1) := by decide +kernel
theorem d_A_within_2 : decode b_A_within 2 = .ok (.iload_n 0, 1) := by decide +kernel
theorem d_A_within_3 : decode b_A_within 3 = .ok (.invokestatic 100, 3) := by decide +kernel
theorem d_A_within_6 : decode b_A_within 6 = .ok (.invokestatic 95, 3) := by decide +kernel
theorem d_A_within_9 : decode b_A_within 9 = .ok (.ireturn, 1) := by decide +kernel
theorem d_A_unsigned_0 : decode b_A_unsigned 0 = .ok (.iload_n 0, 1) := by decide +kernel
theorem d_A_unsigned_1 : decode b_A_unsigned 1 = .ok (.i2l, 1) := by decide +kernel
theorem d_A_unsigned_2 : decode b_A_unsigned 2 = .ok (.ldc2_w 187, 3) := by decide +kernel
theorem d_A_unsigned_5 : decode b_A_unsigned 5 = .ok (.land, 1) := by decide +kernel
theorem d_A_unsigned_6 : decode b_A_unsigned 6 = .ok (.lreturn, 1) := by decide +kernel
theorem d_A_blockCount_0 : decode b_A_blockCount 0 = .ok (.aload_n 0, 1) := by decide +kernel
theorem d_A_blockCount_1 : decode b_A_blockCount 1 = .ok (.getfield 13, 3) := by decide +kernel
theorem d_A_blockCount_4 : decode b_A_blockCount 4 = .ok (.aload_n 0, 1) := by decide +kernel
theorem d_A_blockCount_5 : decode b_A_blockCount 5 = .ok (.getfield 17, 3) := by decide +kernel
theorem d_A_blockCount_8 : decode b_A_blockCount 8 = .ok (.imul, 1) := by decide +kernel
theorem d_A_blockCount_9 : decode b_A_blockCount 9 = .ok (.ireturn, 1) := by decide +kernel
theorem d_A_hasBlock_0 : decode b_A_hasBlock 0 = .ok (.iload_n 1, 1) := by decide +kernel
theorem d_A_hasBlock_1 : decode b_A_hasBlock 1 = .ok (.ifCond .lt 15, 3) := by decide +kernel
theorem d_A_hasBlock_4 : decode b_A_hasBlock 4 = .ok (.iload_n 1, 1) := by decide +kernel
theorem d_A_hasBlock_5 : decode b_A_hasBlock 5 = .ok (.aload_n 0, 1) := by decide +kernel
theorem d_A_hasBlock_6 : decode b_A_hasBlock 6 = .ok (.invokevirtual 89, 3) := by decide +kernel
theorem d_A_hasBlock_9 : decode b_A_hasBlock 9 = .ok (.if_icmp .ge 7, 3) := by decide +kernel
theorem d_A_hasBlock_12 : decode b_A_hasBlock 12 = .ok (.iconst 1, 1) := by decide +kernel
theorem d_A_hasBlock_13 : decode b_A_hasBlock 13 = .ok (.goto 4, 3) := by decide +kernel
theorem d_A_hasBlock_16 : decode b_A_hasBlock 16 = .ok (.iconst 0, 1) := by decide +kernel
theorem d_A_hasBlock_17 : decode b_A_hasBlock 17 = .ok (.ireturn, 1) := by decide +kernel
theorem d_A_refusal_0 : decode b_A_refusal 0 = .ok (.aload_n 0, 1) := by decide +kernel
theorem d_A_refusal_1 : decode b_A_refusal 1 = .ok (.getfield 161, 3) := by decide +kernel
theorem d_A_refusal_4 : decode b_A_refusal 4 = .ok (.ifCond .eq 6, 3) := by decide +kernel
theorem d_A_refusal_7 : decode b_A_refusal 7 = .ok (.bipush (-2), 2) := by decide +kernel
theorem d_A_refusal_9 : decode b_A_refusal 9 = .ok (.ireturn, 1) := by decide +kernel
theorem d_A_refusal_10 : decode b_A_refusal 10 = .ok (.aload_n 0, 1) := by decide +kernel
theorem d_A_refusal_11 : decode b_A_refusal 11 = .ok (.getfield 25, 3) := by decide +kernel
theorem d_A_refusal_14 : decode b_A_refusal 14 = .ok (.invokevirtual 168, 3) := by decide +kernel
theorem d_A_refusal_17 : decode b_A_refusal 17 = .ok (.ifCond .eq 8, 3) := by decide +kernel
theorem d_A_refusal_20 : decode b_A_refusal 20 = .ok (.bipush (-3), 2) := by decide +kernel
theorem d_A_refusal_22 : decode b_A_refusal 22 = .ok (.goto 4, 3) := by decide +kernel
theorem d_A_refusal_25 : decode b_A_refusal 25 = .ok (.iconst 0, 1) := by decide +kernel
theorem d_A_refusal_26 : decode b_A_refusal 26 = .ok (.ireturn, 1) := by decide +kernel
theorem d_A_readAvailableCells_0 : decode b_A_readAvailableCells 0 = .ok (.aload_n 0, 1) := by decide +kernel
theorem d_A_readAvailableCells_1 : decode b_A_readAvailableCells 1 = .ok (.getfield 41, 3) := by decide +kernel
theorem d_A_readAvailableCells_4 : decode b_A_readAvailableCells 4 = .ok (.aload_n 0, 1) := by decide +kernel
theorem d_A_readAvailableCells_5 : decode b_A_readAvailableCells 5 = .ok (.getfield 25, 3) := by decide +kernel
theorem d_A_readAvailableCells_8 : decode b_A_readAvailableCells 8 = .ok (.iload_n 1, 1) := by decide +kernel
theorem d_A_readAvailableCells_9 : decode b_A_readAvailableCells 9 = .ok (.invokevirtual 177, 3) := by decide +kernel
theorem d_A_readAvailableCells_12 : decode b_A_readAvailableCells 12 = .ok (.aload_n 0, 1) := by decide +kernel
theorem d_A_readAvailableCells_13 : decode b_A_readAvailableCells 13 = .ok (.dup, 1) := by decide +kernel
theorem d_A_readAvailableCells_14 : decode b_A_readAvailableCells 14 = .ok (.getfield 69, 3) := by decide +kernel
theorem d_A_readAvailableCells_17 : decode b_A_readAvailableCells 17 = .ok (.aload_n 0, 1) := by decide +kernel
theorem d_A_readAvailableCells_18 : decode b_A_readAvailableCells 18 = .ok (.getfield 25, 3) := by decide +kernel
theorem d_A_readAvailableCells_21 : decode b_A_readAvailableCells 21 = .ok (.iload_n 1, 1) := by decide +kernel
theorem d_A_readAvailableCells_22 : decode b_A_readAvailableCells 22 = .ok (.invokevirtual 189, 3) := by decide +kernel
theorem d_A_readAvailableCells_25 : decode b_A_readAvailableCells 25 = .ok (.iadd, 1) := by decide +kernel
theorem d_A_readAvailableCells_26 : decode b_A_readAvailableCells 26 = .ok (.putfield 69, 3) := by decide +kernel
theorem d_A_readAvailableCells_29 : decode b_A_readAvailableCells 29 = .ok (.return_, 1) := by decide +kernel
theorem d_A_beginAct_0 : decode b_A_beginAct 0 = .ok (.aload_n 0, 1) := by decide +kernel
theorem d_A_beginAct_1 : decode b_A_beginAct 1 = .ok (.getfield 48, 3) := by decide +kernel
theorem d_A_beginAct_4 : decode b_A_beginAct 4 = .ok (.ifCond .ne 9, 3) := by decide +kernel
theorem d_A_beginAct_7 : decode b_A_beginAct 7 = .ok (.aload_n 0, 1) := by decide +kernel
theorem d_A_beginAct_8 : decode b_A_beginAct 8 = .ok (.invokevirtual 165, 3) := by decide +kernel
theorem d_A_beginAct_11 : decode b_A_beginAct 11 = .ok (.iconst 0, 1) := by decide +kernel
theorem d_A_beginAct_12 : decode b_A_beginAct 12 = .ok (.ireturn, 1) := by decide +kernel
theorem d_A_beginAct_13 : decode b_A_beginAct 13 = .ok (.aload_n 0, 1) := by decide +kernel
theorem d_A_beginAct_14 : decode b_A_beginAct 14 = .ok (.getfield 48, 3) := by decide +kernel
theorem d_A_beginAct_17 : decode b_A_beginAct 17 = .ok (.iconst (-1), 1) := by decide +kernel
theorem d_A_beginAct_18 : decode b_A_beginAct 18 = .ok (.if_icmp .eq 13, 3) := by decide +kernel
theorem d_A_beginAct_21 : decode b_A_beginAct 21 = .ok (.aload_n 0, 1) := by decide +kernel
theorem d_A_beginAct_22 : decode b_A_beginAct 22 = .ok (.dup, 1) := by decide +kernel
theorem d_A_beginAct_23 : decode b_A_beginAct 23 = .ok (.getfield 48, 3) := by decide +kernel
theorem d_A_beginAct_26 : decode b_A_beginAct 26 = .ok (.iconst 1, 1) := by decide +kernel
theorem d_A_beginAct_27 : decode b_A_beginAct 27 = .ok (.isub, 1) := by decide +kernel
theorem d_A_beginAct_28 : decode b_A_beginAct 28 = .ok (.putfield 48, 3) := by decide +kernel
theorem d_A_beginAct_31 : decode b_A_beginAct 31 = .ok (.aload_n 0, 1) := by decide +kernel
theorem d_A_beginAct_32 : decode b_A_beginAct 32 = .ok (.dup, 1) := by decide +kernel
theorem d_A_beginAct_33 : decode b_A_beginAct 33 = .ok (.getfield 92, 3) := by decide +kernel
theorem d_A_beginAct_36 : decode b_A_beginAct 36 = .ok (.iconst 1, 1) := by decide +kernel
theorem d_A_beginAct_37 : decode b_A_beginAct 37 = .ok (.iadd, 1) := by decide +kernel
theorem d_A_beginAct_38 : decode b_A_beginAct 38 = .ok (.putfield 92, 3) := by decide +kernel
theorem d_A_beginAct_41 : decode b_A_beginAct 41 = .ok (.iconst 1, 1) := by decide +kernel
theorem d_A_beginAct_42 : decode b_A_beginAct 42 = .ok (.ireturn, 1) := by decide +kernel
theorem d_A_stop_0 : decode b_A_stop 0 = .ok (.aload_n 0, 1) := by decide +kernel
theorem d_A_stop_1 : decode b_A_stop 1 = .ok (.iconst 1, 1) := by decide +kernel
theorem d_A_stop_2 : decode b_A_stop 2 = .ok (.putfield 161, 3) := by decide +kernel
theorem d_A_stop_5 : decode b_A_stop 5 = .ok (.aload_n 0, 1) := by decide +kernel
theorem d_A_stop_6 : decode b_A_stop 6 = .ok (.iconst (-1), 1) := by decide +kernel
theorem d_A_stop_7 : decode b_A_stop 7 = .ok (.putfield 48, 3) := by decide +kernel
theorem d_A_stop_10 : decode b_A_stop 10 = .ok (.return_, 1) := by decide +kernel
theorem d_A_writeCell_0 : decode b_A_writeCell 0 = .ok (.aload_n 0, 1) := by decide +kernel
theorem d_A_writeCell_1 : decode b_A_writeCell 1 = .ok (.invokevirtual 132, 3) := by decide +kernel
theorem d_A_writeCell_4 : decode b_A_writeCell 4 = .ok (.ifCond .ne 5, 3) := by decide +kernel
theorem d_A_writeCell_7 : decode b_A_writeCell 7 = .ok (.iconst 0, 1) := by decide +kernel
theorem d_A_writeCell_8 : decode b_A_writeCell 8 = .ok (.ireturn, 1) := by decide +kernel
theorem d_A_writeCell_9 : decode b_A_writeCell 9 = .ok (.aload_n 0, 1) := by decide +kernel
theorem d_A_writeCell_10 : decode b_A_writeCell 10 = .ok (.getfield 25, 3) := by decide +kernel
theorem d_A_writeCell_13 : decode b_A_writeCell 13 = .ok (.iload_n 1, 1) := by decide +kernel
theorem d_A_writeCell_14 : decode b_A_writeCell 14 = .ok (.iload_n 2, 1) := by decide +kernel
theorem d_A_writeCell_15 : decode b_A_writeCell 15 = .ok (.iload_n 3, 1) := by decide +kernel
theorem d_A_writeCell_16 : decode b_A_writeCell 16 = .ok (.invokevirtual 157, 3) := by decide +kernel
theorem d_A_writeCell_19 : decode b_A_writeCell 19 = .ok (.aload_n 0, 1) := by decide +kernel
theorem d_A_writeCell_20 : decode b_A_writeCell 20 = .ok (.dup, 1) := by decide +kernel
theorem d_A_writeCell_21 : decode b_A_writeCell 21 = .ok (.getfield 184, 3) := by decide +kernel
theorem d_A_writeCell_24 : decode b_A_writeCell 24 = .ok (.iconst 1, 1) := by decide +kernel
theorem d_A_writeCell_25 : decode b_A_writeCell 25 = .ok (.iadd, 1) := by decide +kernel
theorem d_A_writeCell_26 : decode b_A_writeCell 26 = .ok (.putfield 184, 3) := by decide +kernel
theorem d_A_writeCell_29 : decode b_A_writeCell 29 = .ok (.iconst 1, 1) := by decide +kernel
theorem d_A_writeCell_30 : decode b_A_writeCell 30 = .ok (.ireturn, 1) := by decide +kernel
theorem d_A_writeColumns_0 : decode b_A_writeColumns 0 = .ok (.aload_n 0, 1) := by decide +kernel
theorem d_A_writeColumns_1 : decode b_A_writeColumns 1 = .ok (.getfield 17, 3) := by decide +kernel
theorem d_A_writeColumns_4 : decode b_A_writeColumns 4 = .ok (.iload_n 3, 1) := by decide +kernel
theorem d_A_writeColumns_5 : decode b_A_writeColumns 5 = .ok (.isub, 1) := by decide +kernel
theorem d_A_writeColumns_6 : decode b_A_writeColumns 6 = .ok (.istore 5, 2) := by decide +kernel
theorem d_A_writeColumns_8 : decode b_A_writeColumns 8 = .ok (.aload_n 0, 1) := by decide +kernel
theorem d_A_writeColumns_9 : decode b_A_writeColumns 9 = .ok (.getfield 41, 3) := by decide +kernel
theorem d_A_writeColumns_12 : decode b_A_writeColumns 12 = .ok (.aload_n 0, 1) := by decide +kernel
theorem d_A_writeColumns_13 : decode b_A_writeColumns 13 = .ok (.getfield 25, 3) := by decide +kernel
theorem d_A_writeColumns_16 : decode b_A_writeColumns 16 = .ok (.iload_n 1, 1) := by decide +kernel
theorem d_A_writeColumns_17 : decode b_A_writeColumns 17 = .ok (.invokevirtual 177, 3) := by decide +kernel
theorem d_A_writeColumns_20 : decode b_A_writeColumns 20 = .ok (.aload_n 0, 1) := by decide +kernel
theorem d_A_writeColumns_21 : decode b_A_writeColumns 21 = .ok (.getfield 25, 3) := by decide +kernel
theorem d_A_writeColumns_24 : decode b_A_writeColumns 24 = .ok (.iload_n 1, 1) := by decide +kernel
theorem d_A_writeColumns_25 : decode b_A_writeColumns 25 = .ok (.invokevirtual 142, 3) := by decide +kernel
theorem d_A_writeColumns_28 : decode b_A_writeColumns 28 = .ok (.ifCond .ne 34, 3) := by decide +kernel
theorem d_A_writeColumns_31 : decode b_A_writeColumns 31 = .ok (.aload_n 0, 1) := by decide +kernel
theorem d_A_writeColumns_32 : decode b_A_writeColumns 32 = .ok (.dup, 1) := by decide +kernel
theorem d_A_writeColumns_33 : decode b_A_writeColumns 33 = .ok (.getfield 69, 3) := by decide +kernel
theorem d_A_writeColumns_36 : decode b_A_writeColumns 36 = .ok (.aload_n 0, 1) := by decide +kernel
theorem d_A_writeColumns_37 : decode b_A_writeColumns 37 = .ok (.getfield 25, 3) := by decide +kernel
theorem d_A_writeColumns_40 : decode b_A_writeColumns 40 = .ok (.iload_n 1, 1) := by decide +kernel
theorem d_A_writeColumns_41 : decode b_A_writeColumns 41 = .ok (.invokevirtual 189, 3) := by decide +kernel
theorem d_A_writeColumns_44 : decode b_A_writeColumns 44 = .ok (.iadd, 1) := by decide +kernel
theorem d_A_writeColumns_45 : decode b_A_writeColumns 45 = .ok (.putfield 69, 3) := by decide +kernel
theorem d_A_writeColumns_48 : decode b_A_writeColumns 48 = .ok (.aload_n 0, 1) := by decide +kernel
theorem d_A_writeColumns_49 : decode b_A_writeColumns 49 = .ok (.getfield 41, 3) := by decide +kernel
theorem d_A_writeColumns_52 : decode b_A_writeColumns 52 = .ok (.iload_n 2, 1) := by decide +kernel
theorem d_A_writeColumns_53 : decode b_A_writeColumns 53 = .ok (.iload_n 3, 1) := by decide +kernel
theorem d_A_writeColumns_54 : decode b_A_writeColumns 54 = .ok (.iload 4, 2) := by decide +kernel
theorem d_A_writeColumns_56 : decode b_A_writeColumns 56 = .ok (.invokevirtual 192, 3) := by decide +kernel
theorem d_A_writeColumns_59 : decode b_A_writeColumns 59 = .ok (.goto 59, 3) := by decide +kernel
theorem d_A_writeColumns_62 : decode b_A_writeColumns 62 = .ok (.iload_n 3, 1) := by decide +kernel
theorem d_A_writeColumns_63 : decode b_A_writeColumns 63 = .ok (.iconst 2, 1) := by decide +kernel
theorem d_A_writeColumns_64 : decode b_A_writeColumns 64 = .ok (.iadd, 1) := by decide +kernel
theorem d_A_writeColumns_65 : decode b_A_writeColumns 65 = .ok (.iload 5, 2) := by decide +kernel
theorem d_A_writeColumns_67 : decode b_A_writeColumns 67 = .ok (.if_icmp .ge 29, 3) := by decide +kernel
theorem d_A_writeColumns_70 : decode b_A_writeColumns 70 = .ok (.aload_n 0, 1) := by decide +kernel
theorem d_A_writeColumns_71 : decode b_A_writeColumns 71 = .ok (.dup, 1) := by decide +kernel
theorem d_A_writeColumns_72 : decode b_A_writeColumns 72 = .ok (.getfield 69, 3) := by decide +kernel
theorem d_A_writeColumns_75 : decode b_A_writeColumns 75 = .ok (.iload_n 3, 1) := by decide +kernel
theorem d_A_writeColumns_76 : decode b_A_writeColumns 76 = .ok (.iconst 2, 1) := by decide +kernel
theorem d_A_writeColumns_77 : decode b_A_writeColumns 77 = .ok (.iadd, 1) := by decide +kernel
theorem d_A_writeColumns_78 : decode b_A_writeColumns 78 = .ok (.iadd, 1) := by decide +kernel
theorem d_A_writeColumns_79 : decode b_A_writeColumns 79 = .ok (.putfield 69, 3) := by decide +kernel
theorem d_A_writeColumns_82 : decode b_A_writeColumns 82 = .ok (.aload_n 0, 1) := by decide +kernel
theorem d_A_writeColumns_83 : decode b_A_writeColumns 83 = .ok (.getfield 41, 3) := by decide +kernel
theorem d_A_writeColumns_86 : decode b_A_writeColumns 86 = .ok (.iload_n 2, 1) := by decide +kernel
theorem d_A_writeColumns_87 : decode b_A_writeColumns 87 = .ok (.iload_n 3, 1) := by decide +kernel
theorem d_A_writeColumns_88 : decode b_A_writeColumns 88 = .ok (.iload 4, 2) := by decide +kernel
theorem d_A_writeColumns_90 : decode b_A_writeColumns 90 = .ok (.invokevirtual 195, 3) := by decide +kernel
theorem d_A_writeColumns_93 : decode b_A_writeColumns 93 = .ok (.goto 25, 3) := by decide +kernel
theorem d_A_writeColumns_96 : decode b_A_writeColumns 96 = .ok (.aload_n 0, 1) := by decide +kernel
theorem d_A_writeColumns_97 : decode b_A_writeColumns 97 = .ok (.dup, 1) := by decide +kernel
theorem d_A_writeColumns_98 : decode b_A_writeColumns 98 = .ok (.getfield 69, 3) := by decide +kernel
theorem d_A_writeColumns_101 : decode b_A_writeColumns 101 = .ok (.iload 5, 2) := by decide +kernel
theorem d_A_writeColumns_103 : decode b_A_writeColumns 103 = .ok (.iadd, 1) := by decide +kernel
theorem d_A_writeColumns_104 : decode b_A_writeColumns 104 = .ok (.putfield 69, 3) := by decide +kernel
theorem d_A_writeColumns_107 : decode b_A_writeColumns 107 = .ok (.aload_n 0, 1) := by decide +kernel
theorem d_A_writeColumns_108 : decode b_A_writeColumns 108 = .ok (.getfield 41, 3) := by decide +kernel
theorem d_A_writeColumns_111 : decode b_A_writeColumns 111 = .ok (.iload_n 2, 1) := by decide +kernel
theorem d_A_writeColumns_112 : decode b_A_writeColumns 112 = .ok (.iload_n 3, 1) := by decide +kernel
theorem d_A_writeColumns_113 : decode b_A_writeColumns 113 = .ok (.iload 4, 2) := by decide +kernel
theorem d_A_writeColumns_115 : decode b_A_writeColumns 115 = .ok (.invokevirtual 192, 3) := by decide +kernel
theorem d_A_writeColumns_118 : decode b_A_writeColumns 118 = .ok (.aload_n 0, 1) := by decide +kernel
theorem d_A_writeColumns_119 : decode b_A_writeColumns 119 = .ok (.iload_n 1, 1) := by decide +kernel
theorem d_A_writeColumns_120 : decode b_A_writeColumns 120 = .ok (.iload_n 2, 1) := by decide +kernel
theorem d_A_writeColumns_121 : decode b_A_writeColumns 121 = .ok (.iload_n 3, 1) := by decide +kernel
theorem d_A_writeColumns_122 : decode b_A_writeColumns 122 = .ok (.invokevirtual 198, 3) := by decide +kernel
theorem d_A_writeColumns_125 : decode b_A_writeColumns 125 = .ok (.ifCond .eq 14, 3) := by decide +kernel
theorem d_A_writeColumns_128 : decode b_A_writeColumns 128 = .ok (.aload_n 0, 1) := by decide +kernel
theorem d_A_writeColumns_129 : decode b_A_writeColumns 129 = .ok (.invokevirtual 174, 3) := by decide +kernel
theorem d_A_writeColumns_132 : decode b_A_writeColumns 132 = .ok (.ifCond .eq 7, 3) := by decide +kernel
theorem d_A_writeColumns_135 : decode b_A_writeColumns 135 = .ok (.iconst 1, 1) := by decide +kernel
theorem d_A_writeColumns_136 : decode b_A_writeColumns 136 = .ok (.goto 4, 3) := by decide +kernel
theorem d_A_writeColumns_139 : decode b_A_writeColumns 139 = .ok (.iconst 0, 1) := by decide +kernel
theorem d_A_writeColumns_140 : decode b_A_writeColumns 140 = .ok (.ireturn, 1) := by decide +kernel
theorem d_A_logColumns_0 : decode b_A_logColumns 0 = .ok (.iconst 0, 1) := by decide +kernel
theorem d_A_logColumns_1 : decode b_A_logColumns 1 = .ok (.istore 4, 2) := by decide +kernel
theorem d_A_logColumns_3 : decode b_A_logColumns 3 = .ok (.iload 4, 2) := by decide +kernel
theorem d_A_logColumns_5 : decode b_A_logColumns 5 = .ok (.iload_n 3, 1) := by decide +kernel
theorem d_A_logColumns_6 : decode b_A_logColumns 6 = .ok (.iconst 2, 1) := by decide +kernel
theorem d_A_logColumns_7 : decode b_A_logColumns 7 = .ok (.iadd, 1) := by decide +kernel
theorem d_A_logColumns_8 : decode b_A_logColumns 8 = .ok (.if_icmp .ge 18, 3) := by decide +kernel
theorem d_A_logColumns_11 : decode b_A_logColumns 11 = .ok (.aload_n 0, 1) := by decide +kernel
theorem d_A_logColumns_12 : decode b_A_logColumns 12 = .ok (.invokevirtual 132, 3) := by decide +kernel
theorem d_A_logColumns_15 : decode b_A_logColumns 15 = .ok (.ifCond .ne 5, 3) := by decide +kernel
theorem d_A_logColumns_18 : decode b_A_logColumns 18 = .ok (.iconst 0, 1) := by decide +kernel
theorem d_A_logColumns_19 : decode b_A_logColumns 19 = .ok (.ireturn, 1) := by decide +kernel
theorem d_A_logColumns_20 : decode b_A_logColumns 20 = .ok (.iinc 4 1, 3) := by decide +kernel
theorem d_A_logColumns_23 : decode b_A_logColumns 23 = .ok (.goto (-20), 3) := by decide +kernel
theorem d_A_logColumns_26 : decode b_A_logColumns 26 = .ok (.aload_n 0, 1) := by decide +kernel
theorem d_A_logColumns_27 : decode b_A_logColumns 27 = .ok (.invokevirtual 132, 3) := by decide +kernel
theorem d_A_logColumns_30 : decode b_A_logColumns 30 = .ok (.ifCond .ne 5, 3) := by decide +kernel
theorem d_A_logColumns_33 : decode b_A_logColumns 33 = .ok (.iconst 0, 1) := by decide +kernel
theorem d_A_logColumns_34 : decode b_A_logColumns 34 = .ok (.ireturn, 1) := by decide +kernel
theorem d_A_logColumns_35 : decode b_A_logColumns 35 = .ok (.aload_n 0, 1) := by decide +kernel
theorem d_A_logColumns_36 : decode b_A_logColumns 36 = .ok (.getfield 34, 3) := by decide +kernel
theorem d_A_logColumns_39 : decode b_A_logColumns 39 = .ok (.iload_n 1, 1) := by decide +kernel
theorem d_A_logColumns_40 : decode b_A_logColumns 40 = .ok (.iload_n 2, 1) := by decide +kernel
theorem d_A_logColumns_41 : decode b_A_logColumns 41 = .ok (.iload_n 3, 1) := by decide +kernel
theorem d_A_logColumns_42 : decode b_A_logColumns 42 = .ok (.aload_n 0, 1) := by decide +kernel
theorem d_A_logColumns_43 : decode b_A_logColumns 43 = .ok (.getfield 41, 3) := by decide +kernel
theorem d_A_logColumns_46 : decode b_A_logColumns 46 = .ok (.invokevirtual 201, 3) := by decide +kernel
theorem d_A_logColumns_49 : decode b_A_logColumns 49 = .ok (.iconst 1, 1) := by decide +kernel
theorem d_A_logColumns_50 : decode b_A_logColumns 50 = .ok (.ireturn, 1) := by decide +kernel
theorem d_A_carryOutEntry_0 : decode b_A_carryOutEntry 0 = .ok (.aload_n 0, 1) := by decide +kernel
theorem d_A_carryOutEntry_1 : decode b_A_carryOutEntry 1 = .ok (.getfield 34, 3) := by decide +kernel
theorem d_A_carryOutEntry_4 : decode b_A_carryOutEntry 4 = .ok (.invokevirtual 181, 3) := by decide +kernel
theorem d_A_carryOutEntry_7 : decode b_A_carryOutEntry 7 = .ok (.istore_n 1, 1) := by decide +kernel
theorem d_A_carryOutEntry_8 : decode b_A_carryOutEntry 8 = .ok (.iconst 0, 1) := by decide +kernel
theorem d_A_carryOutEntry_9 : decode b_A_carryOutEntry 9 = .ok (.istore_n 2, 1) := by decide +kernel
theorem d_A_carryOutEntry_10 : decode b_A_carryOutEntry 10 = .ok (.iload_n 2, 1) := by decide +kernel
theorem d_A_carryOutEntry_11 : decode b_A_carryOutEntry 11 = .ok (.aload_n 0, 1) := by decide +kernel
theorem d_A_carryOutEntry_12 : decode b_A_carryOutEntry 12 = .ok (.getfield 17, 3) := by decide +kernel
theorem d_A_carryOutEntry_15 : decode b_A_carryOutEntry 15 = .ok (.iconst 2, 1) := by decide +kernel
theorem d_A_carryOutEntry_16 : decode b_A_carryOutEntry 16 = .ok (.iadd, 1) := by decide +kernel
theorem d_A_carryOutEntry_17 : decode b_A_carryOutEntry 17 = .ok (.if_icmp .ge 61, 3) := by decide +kernel
theorem d_A_carryOutEntry_20 : decode b_A_carryOutEntry 20 = .ok (.aload_n 0, 1) := by decide +kernel
theorem d_A_carryOutEntry_21 : decode b_A_carryOutEntry 21 = .ok (.getfield 25, 3) := by decide +kernel
theorem d_A_carryOutEntry_24 : decode b_A_carryOutEntry 24 = .ok (.iload_n 2, 1) := by decide +kernel
theorem d_A_carryOutEntry_25 : decode b_A_carryOutEntry 25 = .ok (.iload_n 1, 1) := by decide +kernel
theorem d_A_carryOutEntry_26 : decode b_A_carryOutEntry 26 = .ok (.invokevirtual 61, 3) := by decide +kernel
theorem d_A_carryOutEntry_29 : decode b_A_carryOutEntry 29 = .ok (.istore_n 3, 1) := by decide +kernel
theorem d_A_carryOutEntry_30 : decode b_A_carryOutEntry 30 = .ok (.aload_n 0, 1) := by decide +kernel
theorem d_A_carryOutEntry_31 : decode b_A_carryOutEntry 31 = .ok (.getfield 34, 3) := by decide +kernel
theorem d_A_carryOutEntry_34 : decode b_A_carryOutEntry 34 = .ok (.iload_n 2, 1) := by decide +kernel
theorem d_A_carryOutEntry_35 : decode b_A_carryOutEntry 35 = .ok (.invokevirtual 205, 3) := by decide +kernel
theorem d_A_carryOutEntry_38 : decode b_A_carryOutEntry 38 = .ok (.ifCond .eq 34, 3) := by decide +kernel
theorem d_A_carryOutEntry_41 : decode b_A_carryOutEntry 41 = .ok (.aload_n 0, 1) := by decide +kernel
theorem d_A_carryOutEntry_42 : decode b_A_carryOutEntry 42 = .ok (.getfield 25, 3) := by decide +kernel
theorem d_A_carryOutEntry_45 : decode b_A_carryOutEntry 45 = .ok (.iload_n 3, 1) := by decide +kernel
theorem d_A_carryOutEntry_46 : decode b_A_carryOutEntry 46 = .ok (.iload_n 1, 1) := by decide +kernel
theorem d_A_carryOutEntry_47 : decode b_A_carryOutEntry 47 = .ok (.invokevirtual 65, 3) := by decide +kernel
theorem d_A_carryOutEntry_50 : decode b_A_carryOutEntry 50 = .ok (.ifCond .eq 22, 3) := by decide +kernel
theorem d_A_carryOutEntry_53 : decode b_A_carryOutEntry 53 = .ok (.aload_n 0, 1) := by decide +kernel
theorem d_A_carryOutEntry_54 : decode b_A_carryOutEntry 54 = .ok (.iload_n 3, 1) := by decide +kernel
theorem d_A_carryOutEntry_55 : decode b_A_carryOutEntry 55 = .ok (.iload_n 1, 1) := by decide +kernel
theorem d_A_carryOutEntry_56 : decode b_A_carryOutEntry 56 = .ok (.aload_n 0, 1) := by decide +kernel
theorem d_A_carryOutEntry_57 : decode b_A_carryOutEntry 57 = .ok (.getfield 34, 3) := by decide +kernel
theorem d_A_carryOutEntry_60 : decode b_A_carryOutEntry 60 = .ok (.iload_n 2, 1) := by decide +kernel
theorem d_A_carryOutEntry_61 : decode b_A_carryOutEntry 61 = .ok (.invokevirtual 208, 3) := by decide +kernel
theorem d_A_carryOutEntry_64 : decode b_A_carryOutEntry 64 = .ok (.invokevirtual 128, 3) := by decide +kernel
theorem d_A_carryOutEntry_67 : decode b_A_carryOutEntry 67 = .ok (.ifCond .ne 5, 3) := by decide +kernel
theorem d_A_carryOutEntry_70 : decode b_A_carryOutEntry 70 = .ok (.iconst 0, 1) := by decide +kernel
theorem d_A_carryOutEntry_71 : decode b_A_carryOutEntry 71 = .ok (.ireturn, 1) := by decide +kernel
theorem d_A_carryOutEntry_72 : decode b_A_carryOutEntry 72 = .ok (.iinc 2 1, 3) := by decide +kernel
theorem d_A_carryOutEntry_75 : decode b_A_carryOutEntry 75 = .ok (.goto (-65), 3) := by decide +kernel
theorem d_A_carryOutEntry_78 : decode b_A_carryOutEntry 78 = .ok (.aload_n 0, 1) := by decide +kernel
theorem d_A_carryOutEntry_79 : decode b_A_carryOutEntry 79 = .ok (.invokevirtual 132, 3) := by decide +kernel
theorem d_A_carryOutEntry_82 : decode b_A_carryOutEntry 82 = .ok (.ifCond .ne 5, 3) := by decide +kernel
theorem d_A_carryOutEntry_85 : decode b_A_carryOutEntry 85 = .ok (.iconst 0, 1) := by decide +kernel
theorem d_A_carryOutEntry_86 : decode b_A_carryOutEntry 86 = .ok (.ireturn, 1) := by decide +kernel
theorem d_A_carryOutEntry_87 : decode b_A_carryOutEntry 87 = .ok (.aload_n 0, 1) := by decide +kernel
theorem d_A_carryOutEntry_88 : decode b_A_carryOutEntry 88 = .ok (.getfield 34, 3) := by decide +kernel
theorem d_A_carryOutEntry_91 : decode b_A_carryOutEntry 91 = .ok (.invokevirtual 211, 3) := by decide +kernel
theorem d_A_carryOutEntry_94 : decode b_A_carryOutEntry 94 = .ok (.iconst 1, 1) := by decide +kernel
theorem d_A_carryOutEntry_95 : decode b_A_carryOutEntry 95 = .ok (.ireturn, 1) := by decide +kernel
