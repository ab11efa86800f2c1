/-! decode rows, by program -/
theorem d_L_init_0 : decode b_L_init 0 = .ok (.aload_n 0, 1) := by decide +kernel
theorem d_L_init_1 : decode b_L_init 1 = .ok (.invokespecial 3, 3) := by decide +kernel
theorem d_L_init_4 : decode b_L_init 4 = .ok (.aload_n 0, 1) := by decide +kernel
theorem d_L_init_5 : decode b_L_init 5 = .ok (.iload_n 1, 1) := by decide +kernel
theorem d_L_init_6 : decode b_L_init 6 = .ok (.newarray .int, 2) := by decide +kernel
theorem d_L_init_8 : decode b_L_init 8 = .ok (.putfield 9, 3) := by decide +kernel
theorem d_L_init_11 : decode b_L_init 11 = .ok (.aload_n 0, 1) := by decide +kernel
theorem d_L_init_12 : decode b_L_init 12 = .ok (.iconst (-1), 1) := by decide +kernel
theorem d_L_init_13 : decode b_L_init 13 = .ok (.putfield 15, 3) := by decide +kernel
theorem d_L_init_16 : decode b_L_init 16 = .ok (.return_, 1) := by decide +kernel
theorem d_L_holdsEntry_0 : decode b_L_holdsEntry 0 = .ok (.aload_n 0, 1) := by decide +kernel
theorem d_L_holdsEntry_1 : decode b_L_holdsEntry 1 = .ok (.getfield 15, 3) := by decide +kernel
theorem d_L_holdsEntry_4 : decode b_L_holdsEntry 4 = .ok (.iconst (-1), 1) := by decide +kernel
theorem d_L_holdsEntry_5 : decode b_L_holdsEntry 5 = .ok (.if_icmp .eq 7, 3) := by decide +kernel
theorem d_L_holdsEntry_8 : decode b_L_holdsEntry 8 = .ok (.iconst 1, 1) := by decide +kernel
theorem d_L_holdsEntry_9 : decode b_L_holdsEntry 9 = .ok (.goto 4, 3) := by decide +kernel
theorem d_L_holdsEntry_12 : decode b_L_holdsEntry 12 = .ok (.iconst 0, 1) := by decide +kernel
theorem d_L_holdsEntry_13 : decode b_L_holdsEntry 13 = .ok (.ireturn, 1) := by decide +kernel
theorem d_L_sealedStripe_0 : decode b_L_sealedStripe 0 = .ok (.aload_n 0, 1) := by decide +kernel
theorem d_L_sealedStripe_1 : decode b_L_sealedStripe 1 = .ok (.getfield 15, 3) := by decide +kernel
theorem d_L_sealedStripe_4 : decode b_L_sealedStripe 4 = .ok (.ireturn, 1) := by decide +kernel
theorem d_L_seal_0 : decode b_L_seal 0 = .ok (.aload_n 0, 1) := by decide +kernel
theorem d_L_seal_1 : decode b_L_seal 1 = .ok (.iload_n 1, 1) := by decide +kernel
theorem d_L_seal_2 : decode b_L_seal 2 = .ok (.putfield 15, 3) := by decide +kernel
theorem d_L_seal_5 : decode b_L_seal 5 = .ok (.aload_n 0, 1) := by decide +kernel
theorem d_L_seal_6 : decode b_L_seal 6 = .ok (.iload_n 2, 1) := by decide +kernel
theorem d_L_seal_7 : decode b_L_seal 7 = .ok (.putfield 19, 3) := by decide +kernel
theorem d_L_seal_10 : decode b_L_seal 10 = .ok (.aload_n 0, 1) := by decide +kernel
theorem d_L_seal_11 : decode b_L_seal 11 = .ok (.iload_n 3, 1) := by decide +kernel
theorem d_L_seal_12 : decode b_L_seal 12 = .ok (.putfield 22, 3) := by decide +kernel
theorem d_L_seal_15 : decode b_L_seal 15 = .ok (.iconst 0, 1) := by decide +kernel
theorem d_L_seal_16 : decode b_L_seal 16 = .ok (.istore 5, 2) := by decide +kernel
theorem d_L_seal_18 : decode b_L_seal 18 = .ok (.iload 5, 2) := by decide +kernel
theorem d_L_seal_20 : decode b_L_seal 20 = .ok (.aload_n 0, 1) := by decide +kernel
theorem d_L_seal_21 : decode b_L_seal 21 = .ok (.getfield 9, 3) := by decide +kernel
theorem d_L_seal_24 : decode b_L_seal 24 = .ok (.arraylength, 1) := by decide +kernel
theorem d_L_seal_25 : decode b_L_seal 25 = .ok (.if_icmp .ge 23, 3) := by decide +kernel
theorem d_L_seal_28 : decode b_L_seal 28 = .ok (.aload_n 0, 1) := by decide +kernel
theorem d_L_seal_29 : decode b_L_seal 29 = .ok (.getfield 9, 3) := by decide +kernel
theorem d_L_seal_32 : decode b_L_seal 32 = .ok (.iload 5, 2) := by decide +kernel
theorem d_L_seal_34 : decode b_L_seal 34 = .ok (.aload 4, 2) := by decide +kernel
theorem d_L_seal_36 : decode b_L_seal 36 = .ok (.iload 5, 2) := by decide +kernel
theorem d_L_seal_38 : decode b_L_seal 38 = .ok (.invokevirtual 25, 3) := by decide +kernel
theorem d_L_seal_41 : decode b_L_seal 41 = .ok (.iastore, 1) := by decide +kernel
theorem d_L_seal_42 : decode b_L_seal 42 = .ok (.iinc 5 1, 3) := by decide +kernel
theorem d_L_seal_45 : decode b_L_seal 45 = .ok (.goto (-27), 3) := by decide +kernel
theorem d_L_seal_48 : decode b_L_seal 48 = .ok (.return_, 1) := by decide +kernel
theorem d_L_bears_0 : decode b_L_bears 0 = .ok (.iload_n 1, 1) := by decide +kernel
theorem d_L_bears_1 : decode b_L_bears 1 = .ok (.aload_n 0, 1) := by decide +kernel
theorem d_L_bears_2 : decode b_L_bears 2 = .ok (.getfield 9, 3) := by decide +kernel
theorem d_L_bears_5 : decode b_L_bears 5 = .ok (.arraylength, 1) := by decide +kernel
theorem d_L_bears_6 : decode b_L_bears 6 = .ok (.iconst 2, 1) := by decide +kernel
theorem d_L_bears_7 : decode b_L_bears 7 = .ok (.isub, 1) := by decide +kernel
theorem d_L_bears_8 : decode b_L_bears 8 = .ok (.if_icmp .lt 7, 3) := by decide +kernel
theorem d_L_bears_11 : decode b_L_bears 11 = .ok (.iconst 1, 1) := by decide +kernel
theorem d_L_bears_12 : decode b_L_bears 12 = .ok (.goto 4, 3) := by decide +kernel
theorem d_L_bears_15 : decode b_L_bears 15 = .ok (.iconst 0, 1) := by decide +kernel
theorem d_L_bears_16 : decode b_L_bears 16 = .ok (.istore_n 2, 1) := by decide +kernel
theorem d_L_bears_17 : decode b_L_bears 17 = .ok (.iload_n 2, 1) := by decide +kernel
theorem d_L_bears_18 : decode b_L_bears 18 = .ok (.ifCond .ne 24, 3) := by decide +kernel
theorem d_L_bears_21 : decode b_L_bears 21 = .ok (.iload_n 1, 1) := by decide +kernel
theorem d_L_bears_22 : decode b_L_bears 22 = .ok (.aload_n 0, 1) := by decide +kernel
theorem d_L_bears_23 : decode b_L_bears 23 = .ok (.getfield 19, 3) := by decide +kernel
theorem d_L_bears_26 : decode b_L_bears 26 = .ok (.if_icmp .lt 20, 3) := by decide +kernel
theorem d_L_bears_29 : decode b_L_bears 29 = .ok (.iload_n 1, 1) := by decide +kernel
theorem d_L_bears_30 : decode b_L_bears 30 = .ok (.aload_n 0, 1) := by decide +kernel
theorem d_L_bears_31 : decode b_L_bears 31 = .ok (.getfield 19, 3) := by decide +kernel
theorem d_L_bears_34 : decode b_L_bears 34 = .ok (.aload_n 0, 1) := by decide +kernel
theorem d_L_bears_35 : decode b_L_bears 35 = .ok (.getfield 22, 3) := by decide +kernel
theorem d_L_bears_38 : decode b_L_bears 38 = .ok (.iadd, 1) := by decide +kernel
theorem d_L_bears_39 : decode b_L_bears 39 = .ok (.if_icmp .ge 7, 3) := by decide +kernel
theorem d_L_bears_42 : decode b_L_bears 42 = .ok (.iconst 1, 1) := by decide +kernel
theorem d_L_bears_43 : decode b_L_bears 43 = .ok (.goto 4, 3) := by decide +kernel
theorem d_L_bears_46 : decode b_L_bears 46 = .ok (.iconst 0, 1) := by decide +kernel
theorem d_L_bears_47 : decode b_L_bears 47 = .ok (.ireturn, 1) := by decide +kernel
theorem d_L_wordOf_0 : decode b_L_wordOf 0 = .ok (.aload_n 0, 1) := by decide +kernel
theorem d_L_wordOf_1 : decode b_L_wordOf 1 = .ok (.getfield 9, 3) := by decide +kernel
theorem d_L_wordOf_4 : decode b_L_wordOf 4 = .ok (.iload_n 1, 1) := by decide +kernel
theorem d_L_wordOf_5 : decode b_L_wordOf 5 = .ok (.iaload, 1) := by decide +kernel
theorem d_L_wordOf_6 : decode b_L_wordOf 6 = .ok (.ireturn, 1) := by decide +kernel
theorem d_L_clear_0 : decode b_L_clear 0 = .ok (.aload_n 0, 1) := by decide +kernel
theorem d_L_clear_1 : decode b_L_clear 1 = .ok (.iconst (-1), 1) := by decide +kernel
theorem d_L_clear_2 : decode b_L_clear 2 = .ok (.putfield 15, 3) := by decide +kernel
theorem d_L_clear_5 : decode b_L_clear 5 = .ok (.return_, 1) := by decide +kernel
theorem d_S_init_0 : decode b_S_init 0 = .ok (.aload_n 0, 1) := by decide +kernel
theorem d_S_init_1 : decode b_S_init 1 = .ok (.invokespecial 3, 3) := by decide +kernel
theorem d_S_init_4 : decode b_S_init 4 = .ok (.aload_n 0, 1) := by decide +kernel
theorem d_S_init_5 : decode b_S_init 5 = .ok (.iload_n 1, 1) := by decide +kernel
theorem d_S_init_6 : decode b_S_init 6 = .ok (.iconst 2, 1) := by decide +kernel
theorem d_S_init_7 : decode b_S_init 7 = .ok (.isub, 1) := by decide +kernel
theorem d_S_init_8 : decode b_S_init 8 = .ok (.putfield 9, 3) := by decide +kernel
theorem d_S_init_11 : decode b_S_init 11 = .ok (.aload_n 0, 1) := by decide +kernel
theorem d_S_init_12 : decode b_S_init 12 = .ok (.iload_n 1, 1) := by decide +kernel
theorem d_S_init_13 : decode b_S_init 13 = .ok (.iconst 2, 1) := by decide +kernel
theorem d_S_init_14 : decode b_S_init 14 = .ok (.isub, 1) := by decide +kernel
theorem d_S_init_15 : decode b_S_init 15 = .ok (.putfield 15, 3) := by decide +kernel
theorem d_S_init_18 : decode b_S_init 18 = .ok (.aload_n 0, 1) := by decide +kernel
theorem d_S_init_19 : decode b_S_init 19 = .ok (.iload_n 1, 1) := by decide +kernel
theorem d_S_init_20 : decode b_S_init 20 = .ok (.iconst 1, 1) := by decide +kernel
theorem d_S_init_21 : decode b_S_init 21 = .ok (.isub, 1) := by decide +kernel
theorem d_S_init_22 : decode b_S_init 22 = .ok (.putfield 18, 3) := by decide +kernel
theorem d_S_init_25 : decode b_S_init 25 = .ok (.aload_n 0, 1) := by decide +kernel
theorem d_S_init_26 : decode b_S_init 26 = .ok (.iload_n 1, 1) := by decide +kernel
theorem d_S_init_27 : decode b_S_init 27 = .ok (.newarray .int, 2) := by decide +kernel
theorem d_S_init_29 : decode b_S_init 29 = .ok (.putfield 21, 3) := by decide +kernel
theorem d_S_init_32 : decode b_S_init 32 = .ok (.return_, 1) := by decide +kernel
theorem d_S_valueOf_0 : decode b_S_valueOf 0 = .ok (.aload_n 0, 1) := by decide +kernel
theorem d_S_valueOf_1 : decode b_S_valueOf 1 = .ok (.getfield 21, 3) := by decide +kernel
theorem d_S_valueOf_4 : decode b_S_valueOf 4 = .ok (.iload_n 1, 1) := by decide +kernel
theorem d_S_valueOf_5 : decode b_S_valueOf 5 = .ok (.iaload, 1) := by decide +kernel
theorem d_S_valueOf_6 : decode b_S_valueOf 6 = .ok (.ireturn, 1) := by decide +kernel
theorem d_S_load_0 : decode b_S_load 0 = .ok (.iconst (-1), 1) := by decide +kernel
theorem d_S_load_1 : decode b_S_load 1 = .ok (.istore_n 3, 1) := by decide +kernel
theorem d_S_load_2 : decode b_S_load 2 = .ok (.iconst (-1), 1) := by decide +kernel
theorem d_S_load_3 : decode b_S_load 3 = .ok (.istore 4, 2) := by decide +kernel
theorem d_S_load_5 : decode b_S_load 5 = .ok (.iconst 0, 1) := by decide +kernel
theorem d_S_load_6 : decode b_S_load 6 = .ok (.istore 5, 2) := by decide +kernel
theorem d_S_load_8 : decode b_S_load 8 = .ok (.iload 5, 2) := by decide +kernel
theorem d_S_load_10 : decode b_S_load 10 = .ok (.aload_n 0, 1) := by decide +kernel
theorem d_S_load_11 : decode b_S_load 11 = .ok (.getfield 21, 3) := by decide +kernel
theorem d_S_load_14 : decode b_S_load 14 = .ok (.arraylength, 1) := by decide +kernel
theorem d_S_load_15 : decode b_S_load 15 = .ok (.if_icmp .ge 75, 3) := by decide +kernel
theorem d_S_load_18 : decode b_S_load 18 = .ok (.aload_n 1, 1) := by decide +kernel
theorem d_S_load_19 : decode b_S_load 19 = .ok (.iload 5, 2) := by decide +kernel
theorem d_S_load_21 : decode b_S_load 21 = .ok (.iload_n 2, 1) := by decide +kernel
theorem d_S_load_22 : decode b_S_load 22 = .ok (.invokevirtual 25, 3) := by decide +kernel
theorem d_S_load_25 : decode b_S_load 25 = .ok (.istore 6, 2) := by decide +kernel
theorem d_S_load_27 : decode b_S_load 27 = .ok (.aload_n 1, 1) := by decide +kernel
theorem d_S_load_28 : decode b_S_load 28 = .ok (.iload 6, 2) := by decide +kernel
theorem d_S_load_30 : decode b_S_load 30 = .ok (.iload_n 2, 1) := by decide +kernel
theorem d_S_load_31 : decode b_S_load 31 = .ok (.invokevirtual 31, 3) := by decide +kernel
theorem d_S_load_34 : decode b_S_load 34 = .ok (.istore 7, 2) := by decide +kernel
theorem d_S_load_36 : decode b_S_load 36 = .ok (.aload_n 0, 1) := by decide +kernel
theorem d_S_load_37 : decode b_S_load 37 = .ok (.getfield 21, 3) := by decide +kernel
theorem d_S_load_40 : decode b_S_load 40 = .ok (.iload 5, 2) := by decide +kernel
theorem d_S_load_42 : decode b_S_load 42 = .ok (.iload 7, 2) := by decide +kernel
theorem d_S_load_44 : decode b_S_load 44 = .ok (.ifCond .eq 13, 3) := by decide +kernel
theorem d_S_load_47 : decode b_S_load 47 = .ok (.aload_n 1, 1) := by decide +kernel
theorem d_S_load_48 : decode b_S_load 48 = .ok (.iload 6, 2) := by decide +kernel
theorem d_S_load_50 : decode b_S_load 50 = .ok (.iload_n 2, 1) := by decide +kernel
theorem d_S_load_51 : decode b_S_load 51 = .ok (.invokevirtual 35, 3) := by decide +kernel
theorem d_S_load_54 : decode b_S_load 54 = .ok (.goto 4, 3) := by decide +kernel
theorem d_S_load_57 : decode b_S_load 57 = .ok (.iconst 0, 1) := by decide +kernel
theorem d_S_load_58 : decode b_S_load 58 = .ok (.iastore, 1) := by decide +kernel
theorem d_S_load_59 : decode b_S_load 59 = .ok (.iload 7, 2) := by decide +kernel
theorem d_S_load_61 : decode b_S_load 61 = .ok (.ifCond .ne 14, 3) := by decide +kernel
theorem d_S_load_64 : decode b_S_load 64 = .ok (.iload_n 3, 1) := by decide +kernel
theorem d_S_load_65 : decode b_S_load 65 = .ok (.iconst (-1), 1) := by decide +kernel
theorem d_S_load_66 : decode b_S_load 66 = .ok (.if_icmp .ne 9, 3) := by decide +kernel
theorem d_S_load_69 : decode b_S_load 69 = .ok (.iload 5, 2) := by decide +kernel
theorem d_S_load_71 : decode b_S_load 71 = .ok (.istore_n 3, 1) := by decide +kernel
theorem d_S_load_72 : decode b_S_load 72 = .ok (.goto 12, 3) := by decide +kernel
theorem d_S_load_75 : decode b_S_load 75 = .ok (.iload 7, 2) := by decide +kernel
theorem d_S_load_77 : decode b_S_load 77 = .ok (.ifCond .ne 7, 3) := by decide +kernel
theorem d_S_load_80 : decode b_S_load 80 = .ok (.iload 5, 2) := by decide +kernel
theorem d_S_load_82 : decode b_S_load 82 = .ok (.istore 4, 2) := by decide +kernel
theorem d_S_load_84 : decode b_S_load 84 = .ok (.iinc 5 1, 3) := by decide +kernel
theorem d_S_load_87 : decode b_S_load 87 = .ok (.goto (-79), 3) := by decide +kernel
theorem d_S_load_90 : decode b_S_load 90 = .ok (.aload_n 0, 1) := by decide +kernel
theorem d_S_load_91 : decode b_S_load 91 = .ok (.iload_n 3, 1) := by decide +kernel
theorem d_S_load_92 : decode b_S_load 92 = .ok (.iload 4, 2) := by decide +kernel
theorem d_S_load_94 : decode b_S_load 94 = .ok (.invokevirtual 38, 3) := by decide +kernel
theorem d_S_load_97 : decode b_S_load 97 = .ok (.iload_n 3, 1) := by decide +kernel
theorem d_S_load_98 : decode b_S_load 98 = .ok (.aload_n 0, 1) := by decide +kernel
theorem d_S_load_99 : decode b_S_load 99 = .ok (.getfield 15, 3) := by decide +kernel
theorem d_S_load_102 : decode b_S_load 102 = .ok (.if_icmp .eq 12, 3) := by decide +kernel
theorem d_S_load_105 : decode b_S_load 105 = .ok (.iload 4, 2) := by decide +kernel
theorem d_S_load_107 : decode b_S_load 107 = .ok (.aload_n 0, 1) := by decide +kernel
theorem d_S_load_108 : decode b_S_load 108 = .ok (.getfield 15, 3) := by decide +kernel
theorem d_S_load_111 : decode b_S_load 111 = .ok (.if_icmp .ne 7, 3) := by decide +kernel
theorem d_S_load_114 : decode b_S_load 114 = .ok (.aload_n 0, 1) := by decide +kernel
theorem d_S_load_115 : decode b_S_load 115 = .ok (.invokevirtual 42, 3) := by decide +kernel
theorem d_S_load_118 : decode b_S_load 118 = .ok (.iload_n 3, 1) := by decide +kernel
theorem d_S_load_119 : decode b_S_load 119 = .ok (.aload_n 0, 1) := by decide +kernel
theorem d_S_load_120 : decode b_S_load 120 = .ok (.getfield 18, 3) := by decide +kernel
theorem d_S_load_123 : decode b_S_load 123 = .ok (.if_icmp .eq 12, 3) := by decide +kernel
theorem d_S_load_126 : decode b_S_load 126 = .ok (.iload 4, 2) := by decide +kernel
theorem d_S_load_128 : decode b_S_load 128 = .ok (.aload_n 0, 1) := by decide +kernel
theorem d_S_load_129 : decode b_S_load 129 = .ok (.getfield 18, 3) := by decide +kernel
theorem d_S_load_132 : decode b_S_load 132 = .ok (.if_icmp .ne 7, 3) := by decide +kernel
theorem d_S_load_135 : decode b_S_load 135 = .ok (.aload_n 0, 1) := by decide +kernel
theorem d_S_load_136 : decode b_S_load 136 = .ok (.invokevirtual 45, 3) := by decide +kernel
theorem d_S_load_139 : decode b_S_load 139 = .ok (.return_, 1) := by decide +kernel
theorem d_S_restoreColumns_0 : decode b_S_restoreColumns 0 = .ok (.iload_n 1, 1) := by decide +kernel
theorem d_S_restoreColumns_1 : decode b_S_restoreColumns 1 = .ok (.iconst (-1), 1) := by decide +kernel
theorem d_S_restoreColumns_2 : decode b_S_restoreColumns 2 = .ok (.if_icmp .eq 11, 3) := by decide +kernel
theorem d_S_restoreColumns_5 : decode b_S_restoreColumns 5 = .ok (.iload_n 1, 1) := by decide +kernel
theorem d_S_restoreColumns_6 : decode b_S_restoreColumns 6 = .ok (.aload_n 0, 1) := by decide +kernel
theorem d_S_restoreColumns_7 : decode b_S_restoreColumns 7 = .ok (.getfield 9, 3) := by decide +kernel
theorem d_S_restoreColumns_10 : decode b_S_restoreColumns 10 = .ok (.if_icmp .lt 4, 3) := by decide +kernel
theorem d_S_restoreColumns_13 : decode b_S_restoreColumns 13 = .ok (.return_, 1) := by decide +kernel
theorem d_S_restoreColumns_14 : decode b_S_restoreColumns 14 = .ok (.iload_n 2, 1) := by decide +kernel
theorem d_S_restoreColumns_15 : decode b_S_restoreColumns 15 = .ok (.iconst (-1), 1) := by decide +kernel
theorem d_S_restoreColumns_16 : decode b_S_restoreColumns 16 = .ok (.if_icmp .eq 11, 3) := by decide +kernel
theorem d_S_restoreColumns_19 : decode b_S_restoreColumns 19 = .ok (.iload_n 2, 1) := by decide +kernel
theorem d_S_restoreColumns_20 : decode b_S_restoreColumns 20 = .ok (.aload_n 0, 1) := by decide +kernel
theorem d_S_restoreColumns_21 : decode b_S_restoreColumns 21 = .ok (.getfield 18, 3) := by decide +kernel
theorem d_S_restoreColumns_24 : decode b_S_restoreColumns 24 = .ok (.if_icmp .ne 14, 3) := by decide +kernel
theorem d_S_restoreColumns_27 : decode b_S_restoreColumns 27 = .ok (.aload_n 0, 1) := by decide +kernel
theorem d_S_restoreColumns_28 : decode b_S_restoreColumns 28 = .ok (.getfield 21, 3) := by decide +kernel
theorem d_S_restoreColumns_31 : decode b_S_restoreColumns 31 = .ok (.iload_n 1, 1) := by decide +kernel
theorem d_S_restoreColumns_32 : decode b_S_restoreColumns 32 = .ok (.aload_n 0, 1) := by decide +kernel
theorem d_S_restoreColumns_33 : decode b_S_restoreColumns 33 = .ok (.invokevirtual 48, 3) := by decide +kernel
theorem d_S_restoreColumns_36 : decode b_S_restoreColumns 36 = .ok (.iastore, 1) := by decide +kernel
theorem d_S_restoreColumns_37 : decode b_S_restoreColumns 37 = .ok (.return_, 1) := by decide +kernel
theorem d_S_restoreColumns_38 : decode b_S_restoreColumns 38 = .ok (.iload_n 1, 1) := by decide +kernel
theorem d_S_restoreColumns_39 : decode b_S_restoreColumns 39 = .ok (.aload_n 0, 1) := by decide +kernel
theorem d_S_restoreColumns_40 : decode b_S_restoreColumns 40 = .ok (.invokevirtual 52, 3) := by decide +kernel
theorem d_S_restoreColumns_43 : decode b_S_restoreColumns 43 = .ok (.invokestatic 55, 3) := by decide +kernel
theorem d_S_restoreColumns_46 : decode b_S_restoreColumns 46 = .ok (.istore_n 3, 1) := by decide +kernel
theorem d_S_restoreColumns_47 : decode b_S_restoreColumns 47 = .ok (.iload_n 2, 1) := by decide +kernel
theorem d_S_restoreColumns_48 : decode b_S_restoreColumns 48 = .ok (.aload_n 0, 1) := by decide +kernel
theorem d_S_restoreColumns_49 : decode b_S_restoreColumns 49 = .ok (.getfield 15, 3) := by decide +kernel
theorem d_S_restoreColumns_52 : decode b_S_restoreColumns 52 = .ok (.if_icmp .ne 11, 3) := by decide +kernel
theorem d_S_restoreColumns_55 : decode b_S_restoreColumns 55 = .ok (.aload_n 0, 1) := by decide +kernel
theorem d_S_restoreColumns_56 : decode b_S_restoreColumns 56 = .ok (.getfield 21, 3) := by decide +kernel
theorem d_S_restoreColumns_59 : decode b_S_restoreColumns 59 = .ok (.iload_n 1, 1) := by decide +kernel
theorem d_S_restoreColumns_60 : decode b_S_restoreColumns 60 = .ok (.iload_n 3, 1) := by decide +kernel
theorem d_S_restoreColumns_61 : decode b_S_restoreColumns 61 = .ok (.iastore, 1) := by decide +kernel
theorem d_S_restoreColumns_62 : decode b_S_restoreColumns 62 = .ok (.return_, 1) := by decide +kernel
theorem d_S_restoreColumns_63 : decode b_S_restoreColumns 63 = .ok (.aload_n 0, 1) := by decide +kernel
theorem d_S_restoreColumns_64 : decode b_S_restoreColumns 64 = .ok (.invokevirtual 48, 3) := by decide +kernel
theorem d_S_restoreColumns_67 : decode b_S_restoreColumns 67 = .ok (.istore 4, 2) := by decide +kernel
theorem d_S_restoreColumns_69 : decode b_S_restoreColumns 69 = .ok (.iload_n 2, 1) := by decide +kernel
theorem d_S_restoreColumns_70 : decode b_S_restoreColumns 70 = .ok (.iload_n 1, 1) := by decide +kernel
theorem d_S_restoreColumns_71 : decode b_S_restoreColumns 71 = .ok (.isub, 1) := by decide +kernel
theorem d_S_restoreColumns_72 : decode b_S_restoreColumns 72 = .ok (.iload 4, 2) := by decide +kernel
theorem d_S_restoreColumns_74 : decode b_S_restoreColumns 74 = .ok (.iload_n 3, 1) := by decide +kernel
theorem d_S_restoreColumns_75 : decode b_S_restoreColumns 75 = .ok (.ixor, 1) := by decide +kernel
theorem d_S_restoreColumns_76 : decode b_S_restoreColumns 76 = .ok (.invokestatic 60, 3) := by decide +kernel
theorem d_S_restoreColumns_79 : decode b_S_restoreColumns 79 = .ok (.istore 5, 2) := by decide +kernel
theorem d_S_restoreColumns_81 : decode b_S_restoreColumns 81 = .ok (.aload_n 0, 1) := by decide +kernel
theorem d_S_restoreColumns_82 : decode b_S_restoreColumns 82 = .ok (.getfield 21, 3) := by decide +kernel
theorem d_S_restoreColumns_85 : decode b_S_restoreColumns 85 = .ok (.iload_n 1, 1) := by decide +kernel
theorem d_S_restoreColumns_86 : decode b_S_restoreColumns 86 = .ok (.iload 4, 2) := by decide +kernel
theorem d_S_restoreColumns_88 : decode b_S_restoreColumns 88 = .ok (.iload 5, 2) := by decide +kernel
theorem d_S_restoreColumns_90 : decode b_S_restoreColumns 90 = .ok (.ixor, 1) := by decide +kernel
theorem d_S_restoreColumns_91 : decode b_S_restoreColumns 91 = .ok (.iastore, 1) := by decide +kernel
theorem d_S_restoreColumns_92 : decode b_S_restoreColumns 92 = .ok (.aload_n 0, 1) := by decide +kernel
theorem d_S_restoreColumns_93 : decode b_S_restoreColumns 93 = .ok (.getfield 21, 3) := by decide +kernel
theorem d_S_restoreColumns_96 : decode b_S_restoreColumns 96 = .ok (.iload_n 2, 1) := by decide +kernel
theorem d_S_restoreColumns_97 : decode b_S_restoreColumns 97 = .ok (.iload 5, 2) := by decide +kernel
theorem d_S_restoreColumns_99 : decode b_S_restoreColumns 99 = .ok (.iastore, 1) := by decide +kernel
theorem d_S_restoreColumns_100 : decode b_S_restoreColumns 100 = .ok (.return_, 1) := by decide +kernel
theorem d_S_firstGap_0 : decode b_S_firstGap 0 = .ok (.aload_n 0, 1) := by decide +kernel
theorem d_S_firstGap_1 : decode b_S_firstGap 1 = .ok (.getfield 21, 3) := by decide +kernel
theorem d_S_firstGap_4 : decode b_S_firstGap 4 = .ok (.aload_n 0, 1) := by decide +kernel
theorem d_S_firstGap_5 : decode b_S_firstGap 5 = .ok (.getfield 15, 3) := by decide +kernel
theorem d_S_firstGap_8 : decode b_S_firstGap 8 = .ok (.iaload, 1) := by decide +kernel
theorem d_S_firstGap_9 : decode b_S_firstGap 9 = .ok (.istore_n 1, 1) := by decide +kernel
theorem d_S_firstGap_10 : decode b_S_firstGap 10 = .ok (.iconst 0, 1) := by decide +kernel
theorem d_S_firstGap_11 : decode b_S_firstGap 11 = .ok (.istore_n 2, 1) := by decide +kernel
theorem d_S_firstGap_12 : decode b_S_firstGap 12 = .ok (.iload_n 2, 1) := by decide +kernel
theorem d_S_firstGap_13 : decode b_S_firstGap 13 = .ok (.aload_n 0, 1) := by decide +kernel
theorem d_S_firstGap_14 : decode b_S_firstGap 14 = .ok (.getfield 9, 3) := by decide +kernel
theorem d_S_firstGap_17 : decode b_S_firstGap 17 = .ok (.if_icmp .ge 18, 3) := by decide +kernel
theorem d_S_firstGap_20 : decode b_S_firstGap 20 = .ok (.iload_n 1, 1) := by decide +kernel
theorem d_S_firstGap_21 : decode b_S_firstGap 21 = .ok (.aload_n 0, 1) := by decide +kernel
theorem d_S_firstGap_22 : decode b_S_firstGap 22 = .ok (.getfield 21, 3) := by decide +kernel
theorem d_S_firstGap_25 : decode b_S_firstGap 25 = .ok (.iload_n 2, 1) := by decide +kernel
theorem d_S_firstGap_26 : decode b_S_firstGap 26 = .ok (.iaload, 1) := by decide +kernel
theorem d_S_firstGap_27 : decode b_S_firstGap 27 = .ok (.ixor, 1) := by decide +kernel
theorem d_S_firstGap_28 : decode b_S_firstGap 28 = .ok (.istore_n 1, 1) := by decide +kernel
theorem d_S_firstGap_29 : decode b_S_firstGap 29 = .ok (.iinc 2 1, 3) := by decide +kernel
theorem d_S_firstGap_32 : decode b_S_firstGap 32 = .ok (.goto (-20), 3) := by decide +kernel
theorem d_S_firstGap_35 : decode b_S_firstGap 35 = .ok (.iload_n 1, 1) := by decide +kernel
theorem d_S_firstGap_36 : decode b_S_firstGap 36 = .ok (.ireturn, 1) := by decide +kernel
theorem d_S_secondGap_0 : decode b_S_secondGap 0 = .ok (.iconst 0, 1) := by decide +kernel
theorem d_S_secondGap_1 : decode b_S_secondGap 1 = .ok (.istore_n 1, 1) := by decide +kernel
theorem d_S_secondGap_2 : decode b_S_secondGap 2 = .ok (.aload_n 0, 1) := by decide +kernel
theorem d_S_secondGap_3 : decode b_S_secondGap 3 = .ok (.getfield 9, 3) := by decide +kernel
theorem d_S_secondGap_6 : decode b_S_secondGap 6 = .ok (.iconst 1, 1) := by decide +kernel
theorem d_S_secondGap_7 : decode b_S_secondGap 7 = .ok (.isub, 1) := by decide +kernel
theorem d_S_secondGap_8 : decode b_S_secondGap 8 = .ok (.istore_n 2, 1) := by decide +kernel
theorem d_S_secondGap_9 : decode b_S_secondGap 9 = .ok (.iload_n 2, 1) := by decide +kernel
theorem d_S_secondGap_10 : decode b_S_secondGap 10 = .ok (.ifCond .lt 21, 3) := by decide +kernel
theorem d_S_secondGap_13 : decode b_S_secondGap 13 = .ok (.iload_n 1, 1) := by decide +kernel
theorem d_S_secondGap_14 : decode b_S_secondGap 14 = .ok (.invokestatic 63, 3) := by decide +kernel
theorem d_S_secondGap_17 : decode b_S_secondGap 17 = .ok (.aload_n 0, 1) := by decide +kernel
theorem d_S_secondGap_18 : decode b_S_secondGap 18 = .ok (.getfield 21, 3) := by decide +kernel
theorem d_S_secondGap_21 : decode b_S_secondGap 21 = .ok (.iload_n 2, 1) := by decide +kernel
theorem d_S_secondGap_22 : decode b_S_secondGap 22 = .ok (.iaload, 1) := by decide +kernel
theorem d_S_secondGap_23 : decode b_S_secondGap 23 = .ok (.ixor, 1) := by decide +kernel
theorem d_S_secondGap_24 : decode b_S_secondGap 24 = .ok (.istore_n 1, 1) := by decide +kernel
theorem d_S_secondGap_25 : decode b_S_secondGap 25 = .ok (.iinc 2 (-1), 3) := by decide +kernel
theorem d_S_secondGap_28 : decode b_S_secondGap 28 = .ok (.goto (-19), 3) := by decide +kernel
theorem d_S_secondGap_31 : decode b_S_secondGap 31 = .ok (.aload_n 0, 1) := by decide +kernel
theorem d_S_secondGap_32 : decode b_S_secondGap 32 = .ok (.getfield 21, 3) := by decide +kernel
theorem d_S_secondGap_35 : decode b_S_secondGap 35 = .ok (.aload_n 0, 1) := by decide +kernel
theorem d_S_secondGap_36 : decode b_S_secondGap 36 = .ok (.getfield 18, 3) := by decide +kernel
theorem d_S_secondGap_39 : decode b_S_secondGap 39 = .ok (.iaload, 1) := by decide +kernel
theorem d_S_secondGap_40 : decode b_S_secondGap 40 = .ok (.iload_n 1, 1) := by decide +kernel
theorem d_S_secondGap_41 : decode b_S_secondGap 41 = .ok (.ixor, 1) := by decide +kernel
theorem d_S_secondGap_42 : decode b_S_secondGap 42 = .ok (.ireturn, 1) := by decide +kernel
theorem d_S_meetFirstEquation_0 : decode b_S_meetFirstEquation 0 = .ok (.aload_n 0, 1) := by decide +kernel
theorem d_S_meetFirstEquation_1 : decode b_S_meetFirstEquation 1 = .ok (.getfield 21, 3) := by decide +kernel
theorem d_S_meetFirstEquation_4 : decode b_S_meetFirstEquation 4 = .ok (.aload_n 0, 1) := by decide +kernel
theorem d_S_meetFirstEquation_5 : decode b_S_meetFirstEquation 5 = .ok (.getfield 15, 3) := by decide +kernel
theorem d_S_meetFirstEquation_8 : decode b_S_meetFirstEquation 8 = .ok (.dup2, 1) := by decide +kernel
theorem d_S_meetFirstEquation_9 : decode b_S_meetFirstEquation 9 = .ok (.iaload, 1) := by decide +kernel
theorem d_S_meetFirstEquation_10 : decode b_S_meetFirstEquation 10 = .ok (.aload_n 0, 1) := by decide +kernel
theorem d_S_meetFirstEquation_11 : decode b_S_meetFirstEquation 11 = .ok (.invokevirtual 48, 3) := by decide +kernel
theorem d_S_meetFirstEquation_14 : decode b_S_meetFirstEquation 14 = .ok (.ixor, 1) := by decide +kernel
theorem d_S_meetFirstEquation_15 : decode b_S_meetFirstEquation 15 = .ok (.iastore, 1) := by decide +kernel
theorem d_S_meetFirstEquation_16 : decode b_S_meetFirstEquation 16 = .ok (.return_, 1) := by decide +kernel
theorem d_S_meetSecondEquation_0 : decode b_S_meetSecondEquation 0 = .ok (.aload_n 0, 1) := by decide +kernel
theorem d_S_meetSecondEquation_1 : decode b_S_meetSecondEquation 1 = .ok (.getfield 21, 3) := by decide +kernel
theorem d_S_meetSecondEquation_4 : decode b_S_meetSecondEquation 4 = .ok (.aload_n 0, 1) := by decide +kernel
theorem d_S_meetSecondEquation_5 : decode b_S_meetSecondEquation 5 = .ok (.getfield 18, 3) := by decide +kernel
theorem d_S_meetSecondEquation_8 : decode b_S_meetSecondEquation 8 = .ok (.dup2, 1) := by decide +kernel
theorem d_S_meetSecondEquation_9 : decode b_S_meetSecondEquation 9 = .ok (.iaload, 1) := by decide +kernel
theorem d_S_meetSecondEquation_10 : decode b_S_meetSecondEquation 10 = .ok (.aload_n 0, 1) := by decide +kernel
theorem d_S_meetSecondEquation_11 : decode b_S_meetSecondEquation 11 = .ok (.invokevirtual 52, 3) := by decide +kernel
theorem d_S_meetSecondEquation_14 : decode b_S_meetSecondEquation 14 = .ok (.ixor, 1) := by decide +kernel
theorem d_S_meetSecondEquation_15 : decode b_S_meetSecondEquation 15 = .ok (.iastore, 1) := by decide +kernel
theorem d_S_meetSecondEquation_16 : decode b_S_meetSecondEquation 16 = .ok (.return_, 1) := by decide +kernel
theorem d_S_meetsBothEquations_0 : decode b_S_meetsBothEquations 0 = .ok (.aload_n 0, 1) := by decide +kernel
theorem d_S_meetsBothEquations_1 : decode b_S_meetsBothEquations 1 = .ok (.invokevirtual 48, 3) := by decide +kernel
theorem d_S_meetsBothEquations_4 : decode b_S_meetsBothEquations 4 = .ok (.ifCond .ne 14, 3) := by decide +kernel
theorem d_S_meetsBothEquations_7 : decode b_S_meetsBothEquations 7 = .ok (.aload_n 0, 1) := by decide +kernel
theorem d_S_meetsBothEquations_8 : decode b_S_meetsBothEquations 8 = .ok (.invokevirtual 52, 3) := by decide +kernel
theorem d_S_meetsBothEquations_11 : decode b_S_meetsBothEquations 11 = .ok (.ifCond .ne 7, 3) := by decide +kernel
theorem d_S_meetsBothEquations_14 : decode b_S_meetsBothEquations 14 = .ok (.iconst 1, 1) := by decide +kernel
theorem d_S_meetsBothEquations_15 : decode b_S_meetsBothEquations 15 = .ok (.goto 4, 3) := by decide +kernel
theorem d_S_meetsBothEquations_18 : decode b_S_meetsBothEquations 18 = .ok (.iconst 0, 1) := by decide +kernel
theorem d_S_meetsBothEquations_19 : decode b_S_meetsBothEquations 19 = .ok (.ireturn, 1) := by decide +kernel
theorem d_S_slotAtFault_0 : decode b_S_slotAtFault 0 = .ok (.aload_n 0, 1) := by decide +kernel
theorem d_S_slotAtFault_1 : decode b_S_slotAtFault 1 = .ok (.invokevirtual 48, 3) := by decide +kernel
theorem d_S_slotAtFault_4 : decode b_S_slotAtFault 4 = .ok (.istore_n 1, 1) := by decide +kernel
theorem d_S_slotAtFault_5 : decode b_S_slotAtFault 5 = .ok (.aload_n 0, 1) := by decide +kernel
theorem d_S_slotAtFault_6 : decode b_S_slotAtFault 6 = .ok (.invokevirtual 52, 3) := by decide +kernel
theorem d_S_slotAtFault_9 : decode b_S_slotAtFault 9 = .ok (.istore_n 2, 1) := by decide +kernel
theorem d_S_slotAtFault_10 : decode b_S_slotAtFault 10 = .ok (.iload_n 2, 1) := by decide +kernel
theorem d_S_slotAtFault_11 : decode b_S_slotAtFault 11 = .ok (.ifCond .ne 8, 3) := by decide +kernel
theorem d_S_slotAtFault_14 : decode b_S_slotAtFault 14 = .ok (.aload_n 0, 1) := by decide +kernel
theorem d_S_slotAtFault_15 : decode b_S_slotAtFault 15 = .ok (.getfield 15, 3) := by decide +kernel
theorem d_S_slotAtFault_18 : decode b_S_slotAtFault 18 = .ok (.ireturn, 1) := by decide +kernel
theorem d_S_slotAtFault_19 : decode b_S_slotAtFault 19 = .ok (.iload_n 1, 1) := by decide +kernel
theorem d_S_slotAtFault_20 : decode b_S_slotAtFault 20 = .ok (.ifCond .ne 8, 3) := by decide +kernel
theorem d_S_slotAtFault_23 : decode b_S_slotAtFault 23 = .ok (.aload_n 0, 1) := by decide +kernel
theorem d_S_slotAtFault_24 : decode b_S_slotAtFault 24 = .ok (.getfield 18, 3) := by decide +kernel
theorem d_S_slotAtFault_27 : decode b_S_slotAtFault 27 = .ok (.ireturn, 1) := by decide +kernel
theorem d_S_slotAtFault_28 : decode b_S_slotAtFault 28 = .ok (.iconst 0, 1) := by decide +kernel
theorem d_S_slotAtFault_29 : decode b_S_slotAtFault 29 = .ok (.istore_n 3, 1) := by decide +kernel
theorem d_S_slotAtFault_30 : decode b_S_slotAtFault 30 = .ok (.iload_n 3, 1) := by decide +kernel
theorem d_S_slotAtFault_31 : decode b_S_slotAtFault 31 = .ok (.aload_n 0, 1) := by decide +kernel
theorem d_S_slotAtFault_32 : decode b_S_slotAtFault 32 = .ok (.getfield 9, 3) := by decide +kernel
theorem d_S_slotAtFault_35 : decode b_S_slotAtFault 35 = .ok (.if_icmp .ge 20, 3) := by decide +kernel
theorem d_S_slotAtFault_38 : decode b_S_slotAtFault 38 = .ok (.iload_n 3, 1) := by decide +kernel
theorem d_S_slotAtFault_39 : decode b_S_slotAtFault 39 = .ok (.iload_n 1, 1) := by decide +kernel
theorem d_S_slotAtFault_40 : decode b_S_slotAtFault 40 = .ok (.invokestatic 67, 3) := by decide +kernel
theorem d_S_slotAtFault_43 : decode b_S_slotAtFault 43 = .ok (.iload_n 2, 1) := by decide +kernel
theorem d_S_slotAtFault_44 : decode b_S_slotAtFault 44 = .ok (.if_icmp .ne 5, 3) := by decide +kernel
theorem d_S_slotAtFault_47 : decode b_S_slotAtFault 47 = .ok (.iload_n 3, 1) := by decide +kernel
theorem d_S_slotAtFault_48 : decode b_S_slotAtFault 48 = .ok (.ireturn, 1) := by decide +kernel
theorem d_S_slotAtFault_49 : decode b_S_slotAtFault 49 = .ok (.iinc 3 1, 3) := by decide +kernel
theorem d_S_slotAtFault_52 : decode b_S_slotAtFault 52 = .ok (.goto (-22), 3) := by decide +kernel
theorem d_S_slotAtFault_55 : decode b_S_slotAtFault 55 = .ok (.iconst (-1), 1) := by decide +kernel
theorem d_S_slotAtFault_56 : decode b_S_slotAtFault 56 = .ok (.ireturn, 1) := by decide +kernel
theorem d_S_mendedWord_0 : decode b_S_mendedWord 0 = .ok (.aload_n 0, 1) := by decide +kernel
theorem d_S_mendedWord_1 : decode b_S_mendedWord 1 = .ok (.getfield 21, 3) := by decide +kernel
theorem d_S_mendedWord_4 : decode b_S_mendedWord 4 = .ok (.iload_n 1, 1) := by decide +kernel
theorem d_S_mendedWord_5 : decode b_S_mendedWord 5 = .ok (.iaload, 1) := by decide +kernel
theorem d_S_mendedWord_6 : decode b_S_mendedWord 6 = .ok (.iload_n 1, 1) := by decide +kernel
theorem d_S_mendedWord_7 : decode b_S_mendedWord 7 = .ok (.aload_n 0, 1) := by decide +kernel
theorem d_S_mendedWord_8 : decode b_S_mendedWord 8 = .ok (.getfield 18, 3) := by decide +kernel
theorem d_S_mendedWord_11 : decode b_S_mendedWord 11 = .ok (.if_icmp .ne 10, 3) := by decide +kernel
theorem d_S_mendedWord_14 : decode b_S_mendedWord 14 = .ok (.aload_n 0, 1) := by decide +kernel
theorem d_S_mendedWord_15 : decode b_S_mendedWord 15 = .ok (.invokevirtual 52, 3) := by decide +kernel
theorem d_S_mendedWord_18 : decode b_S_mendedWord 18 = .ok (.goto 7, 3) := by decide +kernel
theorem d_S_mendedWord_21 : decode b_S_mendedWord 21 = .ok (.aload_n 0, 1) := by decide +kernel
theorem d_S_mendedWord_22 : decode b_S_mendedWord 22 = .ok (.invokevirtual 48, 3) := by decide +kernel
theorem d_S_mendedWord_25 : decode b_S_mendedWord 25 = .ok (.ixor, 1) := by decide +kernel
theorem d_S_mendedWord_26 : decode b_S_mendedWord 26 = .ok (.ireturn, 1) := by decide +kernel
theorem d_S_setColumns_0 : decode b_S_setColumns 0 = .ok (.iconst 0, 1) := by decide +kernel
theorem d_S_setColumns_1 : decode b_S_setColumns 1 = .ok (.istore 4, 2) := by decide +kernel
theorem d_S_setColumns_3 : decode b_S_setColumns 3 = .ok (.iload 4, 2) := by decide +kernel
theorem d_S_setColumns_5 : decode b_S_setColumns 5 = .ok (.iload_n 2, 1) := by decide +kernel
theorem d_S_setColumns_6 : decode b_S_setColumns 6 = .ok (.if_icmp .ge 22, 3) := by decide +kernel
theorem d_S_setColumns_9 : decode b_S_setColumns 9 = .ok (.aload_n 0, 1) := by decide +kernel
theorem d_S_setColumns_10 : decode b_S_setColumns 10 = .ok (.getfield 21, 3) := by decide +kernel
theorem d_S_setColumns_13 : decode b_S_setColumns 13 = .ok (.iload_n 1, 1) := by decide +kernel
theorem d_S_setColumns_14 : decode b_S_setColumns 14 = .ok (.iload 4, 2) := by decide +kernel
theorem d_S_setColumns_16 : decode b_S_setColumns 16 = .ok (.iadd, 1) := by decide +kernel
theorem d_S_setColumns_17 : decode b_S_setColumns 17 = .ok (.iload_n 3, 1) := by decide +kernel
theorem d_S_setColumns_18 : decode b_S_setColumns 18 = .ok (.iload 4, 2) := by decide +kernel
theorem d_S_setColumns_20 : decode b_S_setColumns 20 = .ok (.iadd, 1) := by decide +kernel
theorem d_S_setColumns_21 : decode b_S_setColumns 21 = .ok (.iastore, 1) := by decide +kernel
theorem d_S_setColumns_22 : decode b_S_setColumns 22 = .ok (.iinc 4 1, 3) := by decide +kernel
theorem d_S_setColumns_25 : decode b_S_setColumns 25 = .ok (.goto (-22), 3) := by decide +kernel
theorem d_S_setColumns_28 : decode b_S_setColumns 28 = .ok (.aload_n 0, 1) := by decide +kernel
theorem d_S_setColumns_29 : decode b_S_setColumns 29 = .ok (.invokevirtual 42, 3) := by decide +kernel
theorem d_S_setColumns_32 : decode b_S_setColumns 32 = .ok (.aload_n 0, 1) := by decide +kernel
theorem d_S_setColumns_33 : decode b_S_setColumns 33 = .ok (.invokevirtual 45, 3) := by decide +kernel
theorem d_S_setColumns_36 : decode b_S_setColumns 36 = .ok (.return_, 1) := by decide +kernel
theorem d_S_changeColumns_0 : decode b_S_changeColumns 0 = .ok (.iconst 0, 1) := by decide +kernel
theorem d_S_changeColumns_1 : decode b_S_changeColumns 1 = .ok (.istore 4, 2) := by decide +kernel
theorem d_S_changeColumns_3 : decode b_S_changeColumns 3 = .ok (.iload 4, 2) := by decide +kernel
theorem d_S_changeColumns_5 : decode b_S_changeColumns 5 = .ok (.iload_n 2, 1) := by decide +kernel
theorem d_S_changeColumns_6 : decode b_S_changeColumns 6 = .ok (.if_icmp .ge 73, 3) := by decide +kernel
theorem d_S_changeColumns_9 : decode b_S_changeColumns 9 = .ok (.iload_n 1, 1) := by decide +kernel
theorem d_S_changeColumns_10 : decode b_S_changeColumns 10 = .ok (.iload 4, 2) := by decide +kernel
theorem d_S_changeColumns_12 : decode b_S_changeColumns 12 = .ok (.iadd, 1) := by decide +kernel
theorem d_S_changeColumns_13 : decode b_S_changeColumns 13 = .ok (.istore 5, 2) := by decide +kernel
theorem d_S_changeColumns_15 : decode b_S_changeColumns 15 = .ok (.aload_n 0, 1) := by decide +kernel
theorem d_S_changeColumns_16 : decode b_S_changeColumns 16 = .ok (.getfield 21, 3) := by decide +kernel
theorem d_S_changeColumns_19 : decode b_S_changeColumns 19 = .ok (.iload 5, 2) := by decide +kernel
theorem d_S_changeColumns_21 : decode b_S_changeColumns 21 = .ok (.iaload, 1) := by decide +kernel
theorem d_S_changeColumns_22 : decode b_S_changeColumns 22 = .ok (.iload_n 3, 1) := by decide +kernel
theorem d_S_changeColumns_23 : decode b_S_changeColumns 23 = .ok (.iload 4, 2) := by decide +kernel
theorem d_S_changeColumns_25 : decode b_S_changeColumns 25 = .ok (.iadd, 1) := by decide +kernel
theorem d_S_changeColumns_26 : decode b_S_changeColumns 26 = .ok (.ixor, 1) := by decide +kernel
theorem d_S_changeColumns_27 : decode b_S_changeColumns 27 = .ok (.istore 6, 2) := by decide +kernel
theorem d_S_changeColumns_29 : decode b_S_changeColumns 29 = .ok (.aload_n 0, 1) := by decide +kernel
theorem d_S_changeColumns_30 : decode b_S_changeColumns 30 = .ok (.getfield 21, 3) := by decide +kernel
theorem d_S_changeColumns_33 : decode b_S_changeColumns 33 = .ok (.iload 5, 2) := by decide +kernel
theorem d_S_changeColumns_35 : decode b_S_changeColumns 35 = .ok (.iload_n 3, 1) := by decide +kernel
theorem d_S_changeColumns_36 : decode b_S_changeColumns 36 = .ok (.iload 4, 2) := by decide +kernel
theorem d_S_changeColumns_38 : decode b_S_changeColumns 38 = .ok (.iadd, 1) := by decide +kernel
theorem d_S_changeColumns_39 : decode b_S_changeColumns 39 = .ok (.iastore, 1) := by decide +kernel
theorem d_S_changeColumns_40 : decode b_S_changeColumns 40 = .ok (.aload_n 0, 1) := by decide +kernel
theorem d_S_changeColumns_41 : decode b_S_changeColumns 41 = .ok (.getfield 21, 3) := by decide +kernel
theorem d_S_changeColumns_44 : decode b_S_changeColumns 44 = .ok (.aload_n 0, 1) := by decide +kernel
theorem d_S_changeColumns_45 : decode b_S_changeColumns 45 = .ok (.getfield 15, 3) := by decide +kernel
theorem d_S_changeColumns_48 : decode b_S_changeColumns 48 = .ok (.dup2, 1) := by decide +kernel
theorem d_S_changeColumns_49 : decode b_S_changeColumns 49 = .ok (.iaload, 1) := by decide +kernel
theorem d_S_changeColumns_50 : decode b_S_changeColumns 50 = .ok (.iload 6, 2) := by decide +kernel
theorem d_S_changeColumns_52 : decode b_S_changeColumns 52 = .ok (.ixor, 1) := by decide +kernel
theorem d_S_changeColumns_53 : decode b_S_changeColumns 53 = .ok (.iastore, 1) := by decide +kernel
theorem d_S_changeColumns_54 : decode b_S_changeColumns 54 = .ok (.aload_n 0, 1) := by decide +kernel
theorem d_S_changeColumns_55 : decode b_S_changeColumns 55 = .ok (.getfield 21, 3) := by decide +kernel
theorem d_S_changeColumns_58 : decode b_S_changeColumns 58 = .ok (.aload_n 0, 1) := by decide +kernel
theorem d_S_changeColumns_59 : decode b_S_changeColumns 59 = .ok (.getfield 18, 3) := by decide +kernel
theorem d_S_changeColumns_62 : decode b_S_changeColumns 62 = .ok (.dup2, 1) := by decide +kernel
theorem d_S_changeColumns_63 : decode b_S_changeColumns 63 = .ok (.iaload, 1) := by decide +kernel
theorem d_S_changeColumns_64 : decode b_S_changeColumns 64 = .ok (.iload 5, 2) := by decide +kernel
theorem d_S_changeColumns_66 : decode b_S_changeColumns 66 = .ok (.iload 6, 2) := by decide +kernel
theorem d_S_changeColumns_68 : decode b_S_changeColumns 68 = .ok (.invokestatic 67, 3) := by decide +kernel
theorem d_S_changeColumns_71 : decode b_S_changeColumns 71 = .ok (.ixor, 1) := by decide +kernel
theorem d_S_changeColumns_72 : decode b_S_changeColumns 72 = .ok (.iastore, 1) := by decide +kernel
theorem d_S_changeColumns_73 : decode b_S_changeColumns 73 = .ok (.iinc 4 1, 3) := by decide +kernel
theorem d_S_changeColumns_76 : decode b_S_changeColumns 76 = .ok (.goto (-73), 3) := by decide +kernel
theorem d_S_changeColumns_79 : decode b_S_changeColumns 79 = .ok (.return_, 1) := by decide +kernel
