theorem d_M_writeRun_0 : decode b_M_writeRun 0 = .ok (.aload_n 0, 1) := by decide +kernel
theorem d_M_writeRun_1 : decode b_M_writeRun 1 = .ok (.iload_n 1, 1) := by decide +kernel
theorem d_M_writeRun_2 : decode b_M_writeRun 2 = .ok (.invokevirtual 96, 3) := by decide +kernel
theorem d_M_writeRun_5 : decode b_M_writeRun 5 = .ok (.ifCond .eq 25, 3) := by decide +kernel
theorem d_M_writeRun_8 : decode b_M_writeRun 8 = .ok (.iload_n 2, 1) := by decide +kernel
theorem d_M_writeRun_9 : decode b_M_writeRun 9 = .ok (.iconst 1, 1) := by decide +kernel
theorem d_M_writeRun_10 : decode b_M_writeRun 10 = .ok (.if_icmp .lt 20, 3) := by decide +kernel
theorem d_M_writeRun_13 : decode b_M_writeRun 13 = .ok (.iload_n 2, 1) := by decide +kernel
theorem d_M_writeRun_14 : decode b_M_writeRun 14 = .ok (.aload_n 0, 1) := by decide +kernel
theorem d_M_writeRun_15 : decode b_M_writeRun 15 = .ok (.getfield 29, 3) := by decide +kernel
theorem d_M_writeRun_18 : decode b_M_writeRun 18 = .ok (.aload_n 0, 1) := by decide +kernel
theorem d_M_writeRun_19 : decode b_M_writeRun 19 = .ok (.getfield 26, 3) := by decide +kernel
theorem d_M_writeRun_22 : decode b_M_writeRun 22 = .ok (.iconst 2, 1) := by decide +kernel
theorem d_M_writeRun_23 : decode b_M_writeRun 23 = .ok (.isub, 1) := by decide +kernel
theorem d_M_writeRun_24 : decode b_M_writeRun 24 = .ok (.imul, 1) := by decide +kernel
theorem d_M_writeRun_25 : decode b_M_writeRun 25 = .ok (.iload_n 1, 1) := by decide +kernel
theorem d_M_writeRun_26 : decode b_M_writeRun 26 = .ok (.isub, 1) := by decide +kernel
theorem d_M_writeRun_27 : decode b_M_writeRun 27 = .ok (.if_icmp .le 5, 3) := by decide +kernel
theorem d_M_writeRun_30 : decode b_M_writeRun 30 = .ok (.iconst (-1), 1) := by decide +kernel
theorem d_M_writeRun_31 : decode b_M_writeRun 31 = .ok (.ireturn, 1) := by decide +kernel
theorem d_M_writeRun_32 : decode b_M_writeRun 32 = .ok (.aload_n 0, 1) := by decide +kernel
theorem d_M_writeRun_33 : decode b_M_writeRun 33 = .ok (.getfield 73, 3) := by decide +kernel
theorem d_M_writeRun_36 : decode b_M_writeRun 36 = .ok (.ifCond .ne 10, 3) := by decide +kernel
theorem d_M_writeRun_39 : decode b_M_writeRun 39 = .ok (.aload_n 0, 1) := by decide +kernel
theorem d_M_writeRun_40 : decode b_M_writeRun 40 = .ok (.invokevirtual 102, 3) := by decide +kernel
theorem d_M_writeRun_43 : decode b_M_writeRun 43 = .ok (.ifCond .eq 18, 3) := by decide +kernel
theorem d_M_writeRun_46 : decode b_M_writeRun 46 = .ok (.aload_n 0, 1) := by decide +kernel
theorem d_M_writeRun_47 : decode b_M_writeRun 47 = .ok (.getfield 73, 3) := by decide +kernel
theorem d_M_writeRun_50 : decode b_M_writeRun 50 = .ok (.ifCond .eq 8, 3) := by decide +kernel
theorem d_M_writeRun_53 : decode b_M_writeRun 53 = .ok (.bipush (-2), 2) := by decide +kernel
theorem d_M_writeRun_55 : decode b_M_writeRun 55 = .ok (.goto 5, 3) := by decide +kernel
theorem d_M_writeRun_58 : decode b_M_writeRun 58 = .ok (.bipush (-3), 2) := by decide +kernel
theorem d_M_writeRun_60 : decode b_M_writeRun 60 = .ok (.ireturn, 1) := by decide +kernel
theorem d_M_writeRun_61 : decode b_M_writeRun 61 = .ok (.aload_n 0, 1) := by decide +kernel
theorem d_M_writeRun_62 : decode b_M_writeRun 62 = .ok (.iconst 0, 1) := by decide +kernel
theorem d_M_writeRun_63 : decode b_M_writeRun 63 = .ok (.putfield 76, 3) := by decide +kernel
theorem d_M_writeRun_66 : decode b_M_writeRun 66 = .ok (.iload_n 1, 1) := by decide +kernel
theorem d_M_writeRun_67 : decode b_M_writeRun 67 = .ok (.iload_n 2, 1) := by decide +kernel
theorem d_M_writeRun_68 : decode b_M_writeRun 68 = .ok (.iadd, 1) := by decide +kernel
theorem d_M_writeRun_69 : decode b_M_writeRun 69 = .ok (.istore 4, 2) := by decide +kernel
theorem d_M_writeRun_71 : decode b_M_writeRun 71 = .ok (.iconst 0, 1) := by decide +kernel
theorem d_M_writeRun_72 : decode b_M_writeRun 72 = .ok (.istore 5, 2) := by decide +kernel
theorem d_M_writeRun_74 : decode b_M_writeRun 74 = .ok (.iload 5, 2) := by decide +kernel
theorem d_M_writeRun_76 : decode b_M_writeRun 76 = .ok (.aload_n 0, 1) := by decide +kernel
theorem d_M_writeRun_77 : decode b_M_writeRun 77 = .ok (.getfield 29, 3) := by decide +kernel
theorem d_M_writeRun_80 : decode b_M_writeRun 80 = .ok (.if_icmp .ge 98, 3) := by decide +kernel
theorem d_M_writeRun_83 : decode b_M_writeRun 83 = .ok (.iload 5, 2) := by decide +kernel
theorem d_M_writeRun_85 : decode b_M_writeRun 85 = .ok (.aload_n 0, 1) := by decide +kernel
theorem d_M_writeRun_86 : decode b_M_writeRun 86 = .ok (.getfield 26, 3) := by decide +kernel
theorem d_M_writeRun_89 : decode b_M_writeRun 89 = .ok (.iconst 2, 1) := by decide +kernel
theorem d_M_writeRun_90 : decode b_M_writeRun 90 = .ok (.isub, 1) := by decide +kernel
theorem d_M_writeRun_91 : decode b_M_writeRun 91 = .ok (.imul, 1) := by decide +kernel
theorem d_M_writeRun_92 : decode b_M_writeRun 92 = .ok (.istore 6, 2) := by decide +kernel
theorem d_M_writeRun_94 : decode b_M_writeRun 94 = .ok (.iload_n 1, 1) := by decide +kernel
theorem d_M_writeRun_95 : decode b_M_writeRun 95 = .ok (.iload 6, 2) := by decide +kernel
theorem d_M_writeRun_97 : decode b_M_writeRun 97 = .ok (.if_icmp .le 10, 3) := by decide +kernel
theorem d_M_writeRun_100 : decode b_M_writeRun 100 = .ok (.iload_n 1, 1) := by decide +kernel
theorem d_M_writeRun_101 : decode b_M_writeRun 101 = .ok (.iload 6, 2) := by decide +kernel
theorem d_M_writeRun_103 : decode b_M_writeRun 103 = .ok (.isub, 1) := by decide +kernel
theorem d_M_writeRun_104 : decode b_M_writeRun 104 = .ok (.goto 4, 3) := by decide +kernel
theorem d_M_writeRun_107 : decode b_M_writeRun 107 = .ok (.iconst 0, 1) := by decide +kernel
theorem d_M_writeRun_108 : decode b_M_writeRun 108 = .ok (.istore 7, 2) := by decide +kernel
theorem d_M_writeRun_110 : decode b_M_writeRun 110 = .ok (.iload 4, 2) := by decide +kernel
theorem d_M_writeRun_112 : decode b_M_writeRun 112 = .ok (.iload 6, 2) := by decide +kernel
theorem d_M_writeRun_114 : decode b_M_writeRun 114 = .ok (.aload_n 0, 1) := by decide +kernel
theorem d_M_writeRun_115 : decode b_M_writeRun 115 = .ok (.getfield 26, 3) := by decide +kernel
theorem d_M_writeRun_118 : decode b_M_writeRun 118 = .ok (.iadd, 1) := by decide +kernel
theorem d_M_writeRun_119 : decode b_M_writeRun 119 = .ok (.iconst 2, 1) := by decide +kernel
theorem d_M_writeRun_120 : decode b_M_writeRun 120 = .ok (.isub, 1) := by decide +kernel
theorem d_M_writeRun_121 : decode b_M_writeRun 121 = .ok (.if_icmp .ge 11, 3) := by decide +kernel
theorem d_M_writeRun_124 : decode b_M_writeRun 124 = .ok (.iload 4, 2) := by decide +kernel
theorem d_M_writeRun_126 : decode b_M_writeRun 126 = .ok (.iload 6, 2) := by decide +kernel
theorem d_M_writeRun_128 : decode b_M_writeRun 128 = .ok (.isub, 1) := by decide +kernel
theorem d_M_writeRun_129 : decode b_M_writeRun 129 = .ok (.goto 9, 3) := by decide +kernel
theorem d_M_writeRun_132 : decode b_M_writeRun 132 = .ok (.aload_n 0, 1) := by decide +kernel
theorem d_M_writeRun_133 : decode b_M_writeRun 133 = .ok (.getfield 26, 3) := by decide +kernel
theorem d_M_writeRun_136 : decode b_M_writeRun 136 = .ok (.iconst 2, 1) := by decide +kernel
theorem d_M_writeRun_137 : decode b_M_writeRun 137 = .ok (.isub, 1) := by decide +kernel
theorem d_M_writeRun_138 : decode b_M_writeRun 138 = .ok (.istore 8, 2) := by decide +kernel
theorem d_M_writeRun_140 : decode b_M_writeRun 140 = .ok (.iload 7, 2) := by decide +kernel
theorem d_M_writeRun_142 : decode b_M_writeRun 142 = .ok (.iload 8, 2) := by decide +kernel
theorem d_M_writeRun_144 : decode b_M_writeRun 144 = .ok (.if_icmp .ge 28, 3) := by decide +kernel
theorem d_M_writeRun_147 : decode b_M_writeRun 147 = .ok (.aload_n 0, 1) := by decide +kernel
theorem d_M_writeRun_148 : decode b_M_writeRun 148 = .ok (.iload 5, 2) := by decide +kernel
theorem d_M_writeRun_150 : decode b_M_writeRun 150 = .ok (.iload 7, 2) := by decide +kernel
theorem d_M_writeRun_152 : decode b_M_writeRun 152 = .ok (.iload 8, 2) := by decide +kernel
theorem d_M_writeRun_154 : decode b_M_writeRun 154 = .ok (.iload_n 3, 1) := by decide +kernel
theorem d_M_writeRun_155 : decode b_M_writeRun 155 = .ok (.iload 6, 2) := by decide +kernel
theorem d_M_writeRun_157 : decode b_M_writeRun 157 = .ok (.iload 7, 2) := by decide +kernel
theorem d_M_writeRun_159 : decode b_M_writeRun 159 = .ok (.iadd, 1) := by decide +kernel
theorem d_M_writeRun_160 : decode b_M_writeRun 160 = .ok (.iload_n 1, 1) := by decide +kernel
theorem d_M_writeRun_161 : decode b_M_writeRun 161 = .ok (.isub, 1) := by decide +kernel
theorem d_M_writeRun_162 : decode b_M_writeRun 162 = .ok (.iadd, 1) := by decide +kernel
theorem d_M_writeRun_163 : decode b_M_writeRun 163 = .ok (.invokevirtual 126, 3) := by decide +kernel
theorem d_M_writeRun_166 : decode b_M_writeRun 166 = .ok (.ifCond .ne 6, 3) := by decide +kernel
theorem d_M_writeRun_169 : decode b_M_writeRun 169 = .ok (.bipush (-4), 2) := by decide +kernel
theorem d_M_writeRun_171 : decode b_M_writeRun 171 = .ok (.ireturn, 1) := by decide +kernel
theorem d_M_writeRun_172 : decode b_M_writeRun 172 = .ok (.iinc 5 1, 3) := by decide +kernel
theorem d_M_writeRun_175 : decode b_M_writeRun 175 = .ok (.goto (-101), 3) := by decide +kernel
theorem d_M_writeRun_178 : decode b_M_writeRun 178 = .ok (.aload_n 0, 1) := by decide +kernel
theorem d_M_writeRun_179 : decode b_M_writeRun 179 = .ok (.getfield 76, 3) := by decide +kernel
theorem d_M_writeRun_182 : decode b_M_writeRun 182 = .ok (.ireturn, 1) := by decide +kernel
theorem d_M_writeStripe_0 : decode b_M_writeStripe 0 = .ok (.iload_n 3, 1) := by decide +kernel
theorem d_M_writeStripe_1 : decode b_M_writeStripe 1 = .ok (.iload_n 2, 1) := by decide +kernel
theorem d_M_writeStripe_2 : decode b_M_writeStripe 2 = .ok (.isub, 1) := by decide +kernel
theorem d_M_writeStripe_3 : decode b_M_writeStripe 3 = .ok (.istore 5, 2) := by decide +kernel
theorem d_M_writeStripe_5 : decode b_M_writeStripe 5 = .ok (.aload_n 0, 1) := by decide +kernel
theorem d_M_writeStripe_6 : decode b_M_writeStripe 6 = .ok (.iload_n 1, 1) := by decide +kernel
theorem d_M_writeStripe_7 : decode b_M_writeStripe 7 = .ok (.invokevirtual 112, 3) := by decide +kernel
theorem d_M_writeStripe_10 : decode b_M_writeStripe 10 = .ok (.aload_n 0, 1) := by decide +kernel
theorem d_M_writeStripe_11 : decode b_M_writeStripe 11 = .ok (.getfield 26, 3) := by decide +kernel
theorem d_M_writeStripe_14 : decode b_M_writeStripe 14 = .ok (.if_icmp .ne 7, 3) := by decide +kernel
theorem d_M_writeStripe_17 : decode b_M_writeStripe 17 = .ok (.iconst 1, 1) := by decide +kernel
theorem d_M_writeStripe_18 : decode b_M_writeStripe 18 = .ok (.goto 4, 3) := by decide +kernel
theorem d_M_writeStripe_21 : decode b_M_writeStripe 21 = .ok (.iconst 0, 1) := by decide +kernel
theorem d_M_writeStripe_22 : decode b_M_writeStripe 22 = .ok (.istore 6, 2) := by decide +kernel
theorem d_M_writeStripe_24 : decode b_M_writeStripe 24 = .ok (.iload 6, 2) := by decide +kernel
theorem d_M_writeStripe_26 : decode b_M_writeStripe 26 = .ok (.ifCond .eq 23, 3) := by decide +kernel
theorem d_M_writeStripe_29 : decode b_M_writeStripe 29 = .ok (.iload 5, 2) := by decide +kernel
theorem d_M_writeStripe_31 : decode b_M_writeStripe 31 = .ok (.iconst 2, 1) := by decide +kernel
theorem d_M_writeStripe_32 : decode b_M_writeStripe 32 = .ok (.iadd, 1) := by decide +kernel
theorem d_M_writeStripe_33 : decode b_M_writeStripe 33 = .ok (.aload_n 0, 1) := by decide +kernel
theorem d_M_writeStripe_34 : decode b_M_writeStripe 34 = .ok (.getfield 26, 3) := by decide +kernel
theorem d_M_writeStripe_37 : decode b_M_writeStripe 37 = .ok (.iconst 2, 1) := by decide +kernel
theorem d_M_writeStripe_38 : decode b_M_writeStripe 38 = .ok (.isub, 1) := by decide +kernel
theorem d_M_writeStripe_39 : decode b_M_writeStripe 39 = .ok (.iload 5, 2) := by decide +kernel
theorem d_M_writeStripe_41 : decode b_M_writeStripe 41 = .ok (.isub, 1) := by decide +kernel
theorem d_M_writeStripe_42 : decode b_M_writeStripe 42 = .ok (.if_icmp .ge 7, 3) := by decide +kernel
theorem d_M_writeStripe_45 : decode b_M_writeStripe 45 = .ok (.iconst 1, 1) := by decide +kernel
theorem d_M_writeStripe_46 : decode b_M_writeStripe 46 = .ok (.goto 4, 3) := by decide +kernel
theorem d_M_writeStripe_49 : decode b_M_writeStripe 49 = .ok (.iconst 0, 1) := by decide +kernel
theorem d_M_writeStripe_50 : decode b_M_writeStripe 50 = .ok (.istore 7, 2) := by decide +kernel
theorem d_M_writeStripe_52 : decode b_M_writeStripe 52 = .ok (.aload_n 0, 1) := by decide +kernel
theorem d_M_writeStripe_53 : decode b_M_writeStripe 53 = .ok (.dup, 1) := by decide +kernel
theorem d_M_writeStripe_54 : decode b_M_writeStripe 54 = .ok (.getfield 109, 3) := by decide +kernel
theorem d_M_writeStripe_57 : decode b_M_writeStripe 57 = .ok (.iload 6, 2) := by decide +kernel
theorem d_M_writeStripe_59 : decode b_M_writeStripe 59 = .ok (.ifCond .ne 11, 3) := by decide +kernel
theorem d_M_writeStripe_62 : decode b_M_writeStripe 62 = .ok (.aload_n 0, 1) := by decide +kernel
theorem d_M_writeStripe_63 : decode b_M_writeStripe 63 = .ok (.iload_n 1, 1) := by decide +kernel
theorem d_M_writeStripe_64 : decode b_M_writeStripe 64 = .ok (.invokevirtual 112, 3) := by decide +kernel
theorem d_M_writeStripe_67 : decode b_M_writeStripe 67 = .ok (.goto 24, 3) := by decide +kernel
theorem d_M_writeStripe_70 : decode b_M_writeStripe 70 = .ok (.iload 7, 2) := by decide +kernel
theorem d_M_writeStripe_72 : decode b_M_writeStripe 72 = .ok (.ifCond .eq 10, 3) := by decide +kernel
theorem d_M_writeStripe_75 : decode b_M_writeStripe 75 = .ok (.iload 5, 2) := by decide +kernel
theorem d_M_writeStripe_77 : decode b_M_writeStripe 77 = .ok (.iconst 2, 1) := by decide +kernel
theorem d_M_writeStripe_78 : decode b_M_writeStripe 78 = .ok (.iadd, 1) := by decide +kernel
theorem d_M_writeStripe_79 : decode b_M_writeStripe 79 = .ok (.goto 12, 3) := by decide +kernel
theorem d_M_writeStripe_82 : decode b_M_writeStripe 82 = .ok (.aload_n 0, 1) := by decide +kernel
theorem d_M_writeStripe_83 : decode b_M_writeStripe 83 = .ok (.getfield 26, 3) := by decide +kernel
theorem d_M_writeStripe_86 : decode b_M_writeStripe 86 = .ok (.iconst 2, 1) := by decide +kernel
theorem d_M_writeStripe_87 : decode b_M_writeStripe 87 = .ok (.isub, 1) := by decide +kernel
theorem d_M_writeStripe_88 : decode b_M_writeStripe 88 = .ok (.iload 5, 2) := by decide +kernel
theorem d_M_writeStripe_90 : decode b_M_writeStripe 90 = .ok (.isub, 1) := by decide +kernel
theorem d_M_writeStripe_91 : decode b_M_writeStripe 91 = .ok (.iadd, 1) := by decide +kernel
theorem d_M_writeStripe_92 : decode b_M_writeStripe 92 = .ok (.putfield 109, 3) := by decide +kernel
theorem d_M_writeStripe_95 : decode b_M_writeStripe 95 = .ok (.aload_n 0, 1) := by decide +kernel
theorem d_M_writeStripe_96 : decode b_M_writeStripe 96 = .ok (.iload_n 1, 1) := by decide +kernel
theorem d_M_writeStripe_97 : decode b_M_writeStripe 97 = .ok (.invokevirtual 116, 3) := by decide +kernel
theorem d_M_writeStripe_100 : decode b_M_writeStripe 100 = .ok (.aload_n 0, 1) := by decide +kernel
theorem d_M_writeStripe_101 : decode b_M_writeStripe 101 = .ok (.getfield 16, 3) := by decide +kernel
theorem d_M_writeStripe_104 : decode b_M_writeStripe 104 = .ok (.bipush 8, 2) := by decide +kernel
theorem d_M_writeStripe_106 : decode b_M_writeStripe 106 = .ok (.iaload, 1) := by decide +kernel
theorem d_M_writeStripe_107 : decode b_M_writeStripe 107 = .ok (.istore 8, 2) := by decide +kernel
theorem d_M_writeStripe_109 : decode b_M_writeStripe 109 = .ok (.aload_n 0, 1) := by decide +kernel
theorem d_M_writeStripe_110 : decode b_M_writeStripe 110 = .ok (.getfield 16, 3) := by decide +kernel
theorem d_M_writeStripe_113 : decode b_M_writeStripe 113 = .ok (.bipush 9, 2) := by decide +kernel
theorem d_M_writeStripe_115 : decode b_M_writeStripe 115 = .ok (.iaload, 1) := by decide +kernel
theorem d_M_writeStripe_116 : decode b_M_writeStripe 116 = .ok (.istore 9, 2) := by decide +kernel
theorem d_M_writeStripe_118 : decode b_M_writeStripe 118 = .ok (.iload_n 2, 1) := by decide +kernel
theorem d_M_writeStripe_119 : decode b_M_writeStripe 119 = .ok (.istore 10, 2) := by decide +kernel
theorem d_M_writeStripe_121 : decode b_M_writeStripe 121 = .ok (.iload 10, 2) := by decide +kernel
theorem d_M_writeStripe_123 : decode b_M_writeStripe 123 = .ok (.iload_n 3, 1) := by decide +kernel
theorem d_M_writeStripe_124 : decode b_M_writeStripe 124 = .ok (.if_icmp .ge 67, 3) := by decide +kernel
theorem d_M_writeStripe_127 : decode b_M_writeStripe 127 = .ok (.iload 4, 2) := by decide +kernel
theorem d_M_writeStripe_129 : decode b_M_writeStripe 129 = .ok (.iload 10, 2) := by decide +kernel
theorem d_M_writeStripe_131 : decode b_M_writeStripe 131 = .ok (.iload_n 2, 1) := by decide +kernel
theorem d_M_writeStripe_132 : decode b_M_writeStripe 132 = .ok (.isub, 1) := by decide +kernel
theorem d_M_writeStripe_133 : decode b_M_writeStripe 133 = .ok (.iadd, 1) := by decide +kernel
theorem d_M_writeStripe_134 : decode b_M_writeStripe 134 = .ok (.istore 11, 2) := by decide +kernel
theorem d_M_writeStripe_136 : decode b_M_writeStripe 136 = .ok (.aload_n 0, 1) := by decide +kernel
theorem d_M_writeStripe_137 : decode b_M_writeStripe 137 = .ok (.getfield 16, 3) := by decide +kernel
theorem d_M_writeStripe_140 : decode b_M_writeStripe 140 = .ok (.iload 10, 2) := by decide +kernel
theorem d_M_writeStripe_142 : decode b_M_writeStripe 142 = .ok (.iaload, 1) := by decide +kernel
theorem d_M_writeStripe_143 : decode b_M_writeStripe 143 = .ok (.iload 11, 2) := by decide +kernel
theorem d_M_writeStripe_145 : decode b_M_writeStripe 145 = .ok (.ixor, 1) := by decide +kernel
theorem d_M_writeStripe_146 : decode b_M_writeStripe 146 = .ok (.istore 12, 2) := by decide +kernel
theorem d_M_writeStripe_148 : decode b_M_writeStripe 148 = .ok (.iload 8, 2) := by decide +kernel
theorem d_M_writeStripe_150 : decode b_M_writeStripe 150 = .ok (.iload 12, 2) := by decide +kernel
theorem d_M_writeStripe_152 : decode b_M_writeStripe 152 = .ok (.ixor, 1) := by decide +kernel
theorem d_M_writeStripe_153 : decode b_M_writeStripe 153 = .ok (.istore 8, 2) := by decide +kernel
theorem d_M_writeStripe_155 : decode b_M_writeStripe 155 = .ok (.iload 9, 2) := by decide +kernel
theorem d_M_writeStripe_157 : decode b_M_writeStripe 157 = .ok (.iload 12, 2) := by decide +kernel
theorem d_M_writeStripe_159 : decode b_M_writeStripe 159 = .ok (.iload 10, 2) := by decide +kernel
theorem d_M_writeStripe_161 : decode b_M_writeStripe 161 = .ok (.invokestatic 42, 3) := by decide +kernel
theorem d_M_writeStripe_164 : decode b_M_writeStripe 164 = .ok (.ixor, 1) := by decide +kernel
theorem d_M_writeStripe_165 : decode b_M_writeStripe 165 = .ok (.istore 9, 2) := by decide +kernel
theorem d_M_writeStripe_167 : decode b_M_writeStripe 167 = .ok (.aload_n 0, 1) := by decide +kernel
theorem d_M_writeStripe_168 : decode b_M_writeStripe 168 = .ok (.getfield 16, 3) := by decide +kernel
theorem d_M_writeStripe_171 : decode b_M_writeStripe 171 = .ok (.iload 10, 2) := by decide +kernel
theorem d_M_writeStripe_173 : decode b_M_writeStripe 173 = .ok (.iload 11, 2) := by decide +kernel
theorem d_M_writeStripe_175 : decode b_M_writeStripe 175 = .ok (.iastore, 1) := by decide +kernel
theorem d_M_writeStripe_176 : decode b_M_writeStripe 176 = .ok (.aload_n 0, 1) := by decide +kernel
theorem d_M_writeStripe_177 : decode b_M_writeStripe 177 = .ok (.getfield 19, 3) := by decide +kernel
theorem d_M_writeStripe_180 : decode b_M_writeStripe 180 = .ok (.iload 10, 2) := by decide +kernel
theorem d_M_writeStripe_182 : decode b_M_writeStripe 182 = .ok (.iload 11, 2) := by decide +kernel
theorem d_M_writeStripe_184 : decode b_M_writeStripe 184 = .ok (.iastore, 1) := by decide +kernel
theorem d_M_writeStripe_185 : decode b_M_writeStripe 185 = .ok (.iinc 10 1, 3) := by decide +kernel
theorem d_M_writeStripe_188 : decode b_M_writeStripe 188 = .ok (.goto (-67), 3) := by decide +kernel
theorem d_M_writeStripe_191 : decode b_M_writeStripe 191 = .ok (.aload_n 0, 1) := by decide +kernel
theorem d_M_writeStripe_192 : decode b_M_writeStripe 192 = .ok (.getfield 19, 3) := by decide +kernel
theorem d_M_writeStripe_195 : decode b_M_writeStripe 195 = .ok (.bipush 8, 2) := by decide +kernel
theorem d_M_writeStripe_197 : decode b_M_writeStripe 197 = .ok (.iload 7, 2) := by decide +kernel
theorem d_M_writeStripe_199 : decode b_M_writeStripe 199 = .ok (.ifCond .eq 8, 3) := by decide +kernel
theorem d_M_writeStripe_202 : decode b_M_writeStripe 202 = .ok (.iload 8, 2) := by decide +kernel
theorem d_M_writeStripe_204 : decode b_M_writeStripe 204 = .ok (.goto 7, 3) := by decide +kernel
theorem d_M_writeStripe_207 : decode b_M_writeStripe 207 = .ok (.aload_n 0, 1) := by decide +kernel
theorem d_M_writeStripe_208 : decode b_M_writeStripe 208 = .ok (.invokevirtual 52, 3) := by decide +kernel
theorem d_M_writeStripe_211 : decode b_M_writeStripe 211 = .ok (.iastore, 1) := by decide +kernel
theorem d_M_writeStripe_212 : decode b_M_writeStripe 212 = .ok (.aload_n 0, 1) := by decide +kernel
theorem d_M_writeStripe_213 : decode b_M_writeStripe 213 = .ok (.getfield 19, 3) := by decide +kernel
theorem d_M_writeStripe_216 : decode b_M_writeStripe 216 = .ok (.bipush 9, 2) := by decide +kernel
theorem d_M_writeStripe_218 : decode b_M_writeStripe 218 = .ok (.iload 7, 2) := by decide +kernel
theorem d_M_writeStripe_220 : decode b_M_writeStripe 220 = .ok (.ifCond .eq 8, 3) := by decide +kernel
theorem d_M_writeStripe_223 : decode b_M_writeStripe 223 = .ok (.iload 9, 2) := by decide +kernel
theorem d_M_writeStripe_225 : decode b_M_writeStripe 225 = .ok (.goto 7, 3) := by decide +kernel
theorem d_M_writeStripe_228 : decode b_M_writeStripe 228 = .ok (.aload_n 0, 1) := by decide +kernel
theorem d_M_writeStripe_229 : decode b_M_writeStripe 229 = .ok (.invokevirtual 56, 3) := by decide +kernel
theorem d_M_writeStripe_232 : decode b_M_writeStripe 232 = .ok (.iastore, 1) := by decide +kernel
theorem d_M_writeStripe_233 : decode b_M_writeStripe 233 = .ok (.iconst 0, 1) := by decide +kernel
theorem d_M_writeStripe_234 : decode b_M_writeStripe 234 = .ok (.istore 10, 2) := by decide +kernel
theorem d_M_writeStripe_236 : decode b_M_writeStripe 236 = .ok (.iload 10, 2) := by decide +kernel
theorem d_M_writeStripe_238 : decode b_M_writeStripe 238 = .ok (.iload 5, 2) := by decide +kernel
theorem d_M_writeStripe_240 : decode b_M_writeStripe 240 = .ok (.iconst 3, 1) := by decide +kernel
theorem d_M_writeStripe_241 : decode b_M_writeStripe 241 = .ok (.iadd, 1) := by decide +kernel
theorem d_M_writeStripe_242 : decode b_M_writeStripe 242 = .ok (.if_icmp .ge 18, 3) := by decide +kernel
theorem d_M_writeStripe_245 : decode b_M_writeStripe 245 = .ok (.aload_n 0, 1) := by decide +kernel
theorem d_M_writeStripe_246 : decode b_M_writeStripe 246 = .ok (.invokevirtual 79, 3) := by decide +kernel
theorem d_M_writeStripe_249 : decode b_M_writeStripe 249 = .ok (.ifCond .ne 5, 3) := by decide +kernel
theorem d_M_writeStripe_252 : decode b_M_writeStripe 252 = .ok (.iconst 0, 1) := by decide +kernel
theorem d_M_writeStripe_253 : decode b_M_writeStripe 253 = .ok (.ireturn, 1) := by decide +kernel
theorem d_M_writeStripe_254 : decode b_M_writeStripe 254 = .ok (.iinc 10 1, 3) := by decide +kernel
theorem d_M_writeStripe_257 : decode b_M_writeStripe 257 = .ok (.goto (-21), 3) := by decide +kernel
theorem d_M_writeStripe_260 : decode b_M_writeStripe 260 = .ok (.aload_n 0, 1) := by decide +kernel
theorem d_M_writeStripe_261 : decode b_M_writeStripe 261 = .ok (.iload_n 1, 1) := by decide +kernel
theorem d_M_writeStripe_262 : decode b_M_writeStripe 262 = .ok (.putfield 22, 3) := by decide +kernel
theorem d_M_writeStripe_265 : decode b_M_writeStripe 265 = .ok (.aload_n 0, 1) := by decide +kernel
theorem d_M_writeStripe_266 : decode b_M_writeStripe 266 = .ok (.iload_n 2, 1) := by decide +kernel
theorem d_M_writeStripe_267 : decode b_M_writeStripe 267 = .ok (.putfield 86, 3) := by decide +kernel
theorem d_M_writeStripe_270 : decode b_M_writeStripe 270 = .ok (.aload_n 0, 1) := by decide +kernel
theorem d_M_writeStripe_271 : decode b_M_writeStripe 271 = .ok (.iload_n 3, 1) := by decide +kernel
theorem d_M_writeStripe_272 : decode b_M_writeStripe 272 = .ok (.putfield 89, 3) := by decide +kernel
theorem d_M_writeStripe_275 : decode b_M_writeStripe 275 = .ok (.aload_n 0, 1) := by decide +kernel
theorem d_M_writeStripe_276 : decode b_M_writeStripe 276 = .ok (.invokevirtual 130, 3) := by decide +kernel
theorem d_M_writeStripe_279 : decode b_M_writeStripe 279 = .ok (.ireturn, 1) := by decide +kernel
theorem d_M_fail_0 : decode b_M_fail 0 = .ok (.iload_n 1, 1) := by decide +kernel
theorem d_M_fail_1 : decode b_M_fail 1 = .ok (.ifCond .lt 20, 3) := by decide +kernel
theorem d_M_fail_4 : decode b_M_fail 4 = .ok (.iload_n 1, 1) := by decide +kernel
theorem d_M_fail_5 : decode b_M_fail 5 = .ok (.aload_n 0, 1) := by decide +kernel
theorem d_M_fail_6 : decode b_M_fail 6 = .ok (.getfield 26, 3) := by decide +kernel
theorem d_M_fail_9 : decode b_M_fail 9 = .ok (.if_icmp .ge 12, 3) := by decide +kernel
theorem d_M_fail_12 : decode b_M_fail 12 = .ok (.aload_n 0, 1) := by decide +kernel
theorem d_M_fail_13 : decode b_M_fail 13 = .ok (.getfield 13, 3) := by decide +kernel
theorem d_M_fail_16 : decode b_M_fail 16 = .ok (.iload_n 1, 1) := by decide +kernel
theorem d_M_fail_17 : decode b_M_fail 17 = .ok (.iaload, 1) := by decide +kernel
theorem d_M_fail_18 : decode b_M_fail 18 = .ok (.ifCond .ge 5, 3) := by decide +kernel
theorem d_M_fail_21 : decode b_M_fail 21 = .ok (.iconst 0, 1) := by decide +kernel
theorem d_M_fail_22 : decode b_M_fail 22 = .ok (.ireturn, 1) := by decide +kernel
theorem d_M_fail_23 : decode b_M_fail 23 = .ok (.aload_n 0, 1) := by decide +kernel
theorem d_M_fail_24 : decode b_M_fail 24 = .ok (.getfield 13, 3) := by decide +kernel
theorem d_M_fail_27 : decode b_M_fail 27 = .ok (.iload_n 1, 1) := by decide +kernel
theorem d_M_fail_28 : decode b_M_fail 28 = .ok (.iconst (-1), 1) := by decide +kernel
theorem d_M_fail_29 : decode b_M_fail 29 = .ok (.iastore, 1) := by decide +kernel
theorem d_M_fail_30 : decode b_M_fail 30 = .ok (.iconst 1, 1) := by decide +kernel
theorem d_M_fail_31 : decode b_M_fail 31 = .ok (.ireturn, 1) := by decide +kernel
theorem d_M_replace_0 : decode b_M_replace 0 = .ok (.iload_n 1, 1) := by decide +kernel
theorem d_M_replace_1 : decode b_M_replace 1 = .ok (.ifCond .lt 27, 3) := by decide +kernel
theorem d_M_replace_4 : decode b_M_replace 4 = .ok (.iload_n 1, 1) := by decide +kernel
theorem d_M_replace_5 : decode b_M_replace 5 = .ok (.aload_n 0, 1) := by decide +kernel
theorem d_M_replace_6 : decode b_M_replace 6 = .ok (.getfield 26, 3) := by decide +kernel
theorem d_M_replace_9 : decode b_M_replace 9 = .ok (.if_icmp .ge 19, 3) := by decide +kernel
theorem d_M_replace_12 : decode b_M_replace 12 = .ok (.aload_n 0, 1) := by decide +kernel
theorem d_M_replace_13 : decode b_M_replace 13 = .ok (.getfield 13, 3) := by decide +kernel
theorem d_M_replace_16 : decode b_M_replace 16 = .ok (.iload_n 1, 1) := by decide +kernel
theorem d_M_replace_17 : decode b_M_replace 17 = .ok (.iaload, 1) := by decide +kernel
theorem d_M_replace_18 : decode b_M_replace 18 = .ok (.ifCond .ge 10, 3) := by decide +kernel
theorem d_M_replace_21 : decode b_M_replace 21 = .ok (.aload_n 0, 1) := by decide +kernel
theorem d_M_replace_22 : decode b_M_replace 22 = .ok (.getfield 32, 3) := by decide +kernel
theorem d_M_replace_25 : decode b_M_replace 25 = .ok (.ifCond .ne 5, 3) := by decide +kernel
theorem d_M_replace_28 : decode b_M_replace 28 = .ok (.iconst 0, 1) := by decide +kernel
theorem d_M_replace_29 : decode b_M_replace 29 = .ok (.ireturn, 1) := by decide +kernel
theorem d_M_replace_30 : decode b_M_replace 30 = .ok (.aload_n 0, 1) := by decide +kernel
theorem d_M_replace_31 : decode b_M_replace 31 = .ok (.getfield 13, 3) := by decide +kernel
theorem d_M_replace_34 : decode b_M_replace 34 = .ok (.iload_n 1, 1) := by decide +kernel
theorem d_M_replace_35 : decode b_M_replace 35 = .ok (.iconst 0, 1) := by decide +kernel
theorem d_M_replace_36 : decode b_M_replace 36 = .ok (.iastore, 1) := by decide +kernel
theorem d_M_replace_37 : decode b_M_replace 37 = .ok (.aload_n 0, 1) := by decide +kernel
theorem d_M_replace_38 : decode b_M_replace 38 = .ok (.dup, 1) := by decide +kernel
theorem d_M_replace_39 : decode b_M_replace 39 = .ok (.getfield 32, 3) := by decide +kernel
theorem d_M_replace_42 : decode b_M_replace 42 = .ok (.iconst 1, 1) := by decide +kernel
theorem d_M_replace_43 : decode b_M_replace 43 = .ok (.isub, 1) := by decide +kernel
theorem d_M_replace_44 : decode b_M_replace 44 = .ok (.putfield 32, 3) := by decide +kernel
theorem d_M_replace_47 : decode b_M_replace 47 = .ok (.iconst 1, 1) := by decide +kernel
theorem d_M_replace_48 : decode b_M_replace 48 = .ok (.ireturn, 1) := by decide +kernel
theorem d_M_rebuild_0 : decode b_M_rebuild 0 = .ok (.aload_n 0, 1) := by decide +kernel
theorem d_M_rebuild_1 : decode b_M_rebuild 1 = .ok (.getfield 73, 3) := by decide +kernel
theorem d_M_rebuild_4 : decode b_M_rebuild 4 = .ok (.ifCond .ne 10, 3) := by decide +kernel
theorem d_M_rebuild_7 : decode b_M_rebuild 7 = .ok (.aload_n 0, 1) := by decide +kernel
theorem d_M_rebuild_8 : decode b_M_rebuild 8 = .ok (.invokevirtual 102, 3) := by decide +kernel
theorem d_M_rebuild_11 : decode b_M_rebuild 11 = .ok (.ifCond .eq 18, 3) := by decide +kernel
theorem d_M_rebuild_14 : decode b_M_rebuild 14 = .ok (.aload_n 0, 1) := by decide +kernel
theorem d_M_rebuild_15 : decode b_M_rebuild 15 = .ok (.getfield 73, 3) := by decide +kernel
theorem d_M_rebuild_18 : decode b_M_rebuild 18 = .ok (.ifCond .eq 8, 3) := by decide +kernel
theorem d_M_rebuild_21 : decode b_M_rebuild 21 = .ok (.bipush (-2), 2) := by decide +kernel
theorem d_M_rebuild_23 : decode b_M_rebuild 23 = .ok (.goto 5, 3) := by decide +kernel
theorem d_M_rebuild_26 : decode b_M_rebuild 26 = .ok (.bipush (-3), 2) := by decide +kernel
theorem d_M_rebuild_28 : decode b_M_rebuild 28 = .ok (.ireturn, 1) := by decide +kernel
theorem d_M_rebuild_29 : decode b_M_rebuild 29 = .ok (.iconst (-1), 1) := by decide +kernel
theorem d_M_rebuild_30 : decode b_M_rebuild 30 = .ok (.istore_n 1, 1) := by decide +kernel
theorem d_M_rebuild_31 : decode b_M_rebuild 31 = .ok (.aload_n 0, 1) := by decide +kernel
theorem d_M_rebuild_32 : decode b_M_rebuild 32 = .ok (.getfield 26, 3) := by decide +kernel
theorem d_M_rebuild_35 : decode b_M_rebuild 35 = .ok (.iconst 1, 1) := by decide +kernel
theorem d_M_rebuild_36 : decode b_M_rebuild 36 = .ok (.isub, 1) := by decide +kernel
theorem d_M_rebuild_37 : decode b_M_rebuild 37 = .ok (.istore_n 2, 1) := by decide +kernel
theorem d_M_rebuild_38 : decode b_M_rebuild 38 = .ok (.iload_n 2, 1) := by decide +kernel
theorem d_M_rebuild_39 : decode b_M_rebuild 39 = .ok (.ifCond .lt 66, 3) := by decide +kernel
theorem d_M_rebuild_42 : decode b_M_rebuild 42 = .ok (.aload_n 0, 1) := by decide +kernel
theorem d_M_rebuild_43 : decode b_M_rebuild 43 = .ok (.getfield 13, 3) := by decide +kernel
theorem d_M_rebuild_46 : decode b_M_rebuild 46 = .ok (.iload_n 2, 1) := by decide +kernel
theorem d_M_rebuild_47 : decode b_M_rebuild 47 = .ok (.iaload, 1) := by decide +kernel
theorem d_M_rebuild_48 : decode b_M_rebuild 48 = .ok (.ifCond .lt 20, 3) := by decide +kernel
theorem d_M_rebuild_51 : decode b_M_rebuild 51 = .ok (.aload_n 0, 1) := by decide +kernel
theorem d_M_rebuild_52 : decode b_M_rebuild 52 = .ok (.getfield 13, 3) := by decide +kernel
theorem d_M_rebuild_55 : decode b_M_rebuild 55 = .ok (.iload_n 2, 1) := by decide +kernel
theorem d_M_rebuild_56 : decode b_M_rebuild 56 = .ok (.iaload, 1) := by decide +kernel
theorem d_M_rebuild_57 : decode b_M_rebuild 57 = .ok (.aload_n 0, 1) := by decide +kernel
theorem d_M_rebuild_58 : decode b_M_rebuild 58 = .ok (.getfield 29, 3) := by decide +kernel
theorem d_M_rebuild_61 : decode b_M_rebuild 61 = .ok (.if_icmp .ge 7, 3) := by decide +kernel
theorem d_M_rebuild_64 : decode b_M_rebuild 64 = .ok (.iconst 1, 1) := by decide +kernel
theorem d_M_rebuild_65 : decode b_M_rebuild 65 = .ok (.goto 4, 3) := by decide +kernel
theorem d_M_rebuild_68 : decode b_M_rebuild 68 = .ok (.iconst 0, 1) := by decide +kernel
theorem d_M_rebuild_69 : decode b_M_rebuild 69 = .ok (.istore_n 3, 1) := by decide +kernel
theorem d_M_rebuild_70 : decode b_M_rebuild 70 = .ok (.iload_n 3, 1) := by decide +kernel
theorem d_M_rebuild_71 : decode b_M_rebuild 71 = .ok (.ifCond .eq 26, 3) := by decide +kernel
theorem d_M_rebuild_74 : decode b_M_rebuild 74 = .ok (.iload_n 1, 1) := by decide +kernel
theorem d_M_rebuild_75 : decode b_M_rebuild 75 = .ok (.ifCond .lt 18, 3) := by decide +kernel
theorem d_M_rebuild_78 : decode b_M_rebuild 78 = .ok (.aload_n 0, 1) := by decide +kernel
theorem d_M_rebuild_79 : decode b_M_rebuild 79 = .ok (.getfield 13, 3) := by decide +kernel
theorem d_M_rebuild_82 : decode b_M_rebuild 82 = .ok (.iload_n 2, 1) := by decide +kernel
theorem d_M_rebuild_83 : decode b_M_rebuild 83 = .ok (.iaload, 1) := by decide +kernel
theorem d_M_rebuild_84 : decode b_M_rebuild 84 = .ok (.aload_n 0, 1) := by decide +kernel
theorem d_M_rebuild_85 : decode b_M_rebuild 85 = .ok (.getfield 13, 3) := by decide +kernel
theorem d_M_rebuild_88 : decode b_M_rebuild 88 = .ok (.iload_n 1, 1) := by decide +kernel
theorem d_M_rebuild_89 : decode b_M_rebuild 89 = .ok (.iaload, 1) := by decide +kernel
theorem d_M_rebuild_90 : decode b_M_rebuild 90 = .ok (.if_icmp .gt 7, 3) := by decide +kernel
theorem d_M_rebuild_93 : decode b_M_rebuild 93 = .ok (.iload_n 2, 1) := by decide +kernel
theorem d_M_rebuild_94 : decode b_M_rebuild 94 = .ok (.goto 4, 3) := by decide +kernel
theorem d_M_rebuild_97 : decode b_M_rebuild 97 = .ok (.iload_n 1, 1) := by decide +kernel
theorem d_M_rebuild_98 : decode b_M_rebuild 98 = .ok (.istore_n 1, 1) := by decide +kernel
theorem d_M_rebuild_99 : decode b_M_rebuild 99 = .ok (.iinc 2 (-1), 3) := by decide +kernel
theorem d_M_rebuild_102 : decode b_M_rebuild 102 = .ok (.goto (-64), 3) := by decide +kernel
theorem d_M_rebuild_105 : decode b_M_rebuild 105 = .ok (.iload_n 1, 1) := by decide +kernel
theorem d_M_rebuild_106 : decode b_M_rebuild 106 = .ok (.ifCond .ge 6, 3) := by decide +kernel
theorem d_M_rebuild_109 : decode b_M_rebuild 109 = .ok (.bipush (-5), 2) := by decide +kernel
theorem d_M_rebuild_111 : decode b_M_rebuild 111 = .ok (.ireturn, 1) := by decide +kernel
theorem d_M_rebuild_112 : decode b_M_rebuild 112 = .ok (.aload_n 0, 1) := by decide +kernel
theorem d_M_rebuild_113 : decode b_M_rebuild 113 = .ok (.getfield 13, 3) := by decide +kernel
theorem d_M_rebuild_116 : decode b_M_rebuild 116 = .ok (.iload_n 1, 1) := by decide +kernel
theorem d_M_rebuild_117 : decode b_M_rebuild 117 = .ok (.iaload, 1) := by decide +kernel
theorem d_M_rebuild_118 : decode b_M_rebuild 118 = .ok (.istore_n 2, 1) := by decide +kernel
theorem d_M_rebuild_119 : decode b_M_rebuild 119 = .ok (.aload_n 0, 1) := by decide +kernel
theorem d_M_rebuild_120 : decode b_M_rebuild 120 = .ok (.dup, 1) := by decide +kernel
theorem d_M_rebuild_121 : decode b_M_rebuild 121 = .ok (.getfield 109, 3) := by decide +kernel
theorem d_M_rebuild_124 : decode b_M_rebuild 124 = .ok (.aload_n 0, 1) := by decide +kernel
theorem d_M_rebuild_125 : decode b_M_rebuild 125 = .ok (.iload_n 2, 1) := by decide +kernel
theorem d_M_rebuild_126 : decode b_M_rebuild 126 = .ok (.invokevirtual 112, 3) := by decide +kernel
theorem d_M_rebuild_129 : decode b_M_rebuild 129 = .ok (.iadd, 1) := by decide +kernel
theorem d_M_rebuild_130 : decode b_M_rebuild 130 = .ok (.putfield 109, 3) := by decide +kernel
theorem d_M_rebuild_133 : decode b_M_rebuild 133 = .ok (.aload_n 0, 1) := by decide +kernel
theorem d_M_rebuild_134 : decode b_M_rebuild 134 = .ok (.iload_n 2, 1) := by decide +kernel
theorem d_M_rebuild_135 : decode b_M_rebuild 135 = .ok (.invokevirtual 116, 3) := by decide +kernel
theorem d_M_rebuild_138 : decode b_M_rebuild 138 = .ok (.aload_n 0, 1) := by decide +kernel
theorem d_M_rebuild_139 : decode b_M_rebuild 139 = .ok (.invokevirtual 79, 3) := by decide +kernel
theorem d_M_rebuild_142 : decode b_M_rebuild 142 = .ok (.ifCond .ne 6, 3) := by decide +kernel
theorem d_M_rebuild_145 : decode b_M_rebuild 145 = .ok (.bipush (-4), 2) := by decide +kernel
theorem d_M_rebuild_147 : decode b_M_rebuild 147 = .ok (.ireturn, 1) := by decide +kernel
theorem d_M_rebuild_148 : decode b_M_rebuild 148 = .ok (.aload_n 0, 1) := by decide +kernel
theorem d_M_rebuild_149 : decode b_M_rebuild 149 = .ok (.getfield 7, 3) := by decide +kernel
theorem d_M_rebuild_152 : decode b_M_rebuild 152 = .ok (.bipush 16, 2) := by decide +kernel
theorem d_M_rebuild_154 : decode b_M_rebuild 154 = .ok (.iload_n 1, 1) := by decide +kernel
theorem d_M_rebuild_155 : decode b_M_rebuild 155 = .ok (.imul, 1) := by decide +kernel
theorem d_M_rebuild_156 : decode b_M_rebuild 156 = .ok (.iload_n 2, 1) := by decide +kernel
theorem d_M_rebuild_157 : decode b_M_rebuild 157 = .ok (.iadd, 1) := by decide +kernel
theorem d_M_rebuild_158 : decode b_M_rebuild 158 = .ok (.aload_n 0, 1) := by decide +kernel
theorem d_M_rebuild_159 : decode b_M_rebuild 159 = .ok (.iload_n 1, 1) := by decide +kernel
theorem d_M_rebuild_160 : decode b_M_rebuild 160 = .ok (.iload_n 2, 1) := by decide +kernel
theorem d_M_rebuild_161 : decode b_M_rebuild 161 = .ok (.invokevirtual 133, 3) := by decide +kernel
theorem d_M_rebuild_164 : decode b_M_rebuild 164 = .ok (.iastore, 1) := by decide +kernel
theorem d_M_rebuild_165 : decode b_M_rebuild 165 = .ok (.aload_n 0, 1) := by decide +kernel
theorem d_M_rebuild_166 : decode b_M_rebuild 166 = .ok (.dup, 1) := by decide +kernel
theorem d_M_rebuild_167 : decode b_M_rebuild 167 = .ok (.getfield 83, 3) := by decide +kernel
theorem d_M_rebuild_170 : decode b_M_rebuild 170 = .ok (.iconst 1, 1) := by decide +kernel
theorem d_M_rebuild_171 : decode b_M_rebuild 171 = .ok (.iadd, 1) := by decide +kernel
theorem d_M_rebuild_172 : decode b_M_rebuild 172 = .ok (.putfield 83, 3) := by decide +kernel
theorem d_M_rebuild_175 : decode b_M_rebuild 175 = .ok (.aload_n 0, 1) := by decide +kernel
theorem d_M_rebuild_176 : decode b_M_rebuild 176 = .ok (.invokevirtual 79, 3) := by decide +kernel
theorem d_M_rebuild_179 : decode b_M_rebuild 179 = .ok (.ifCond .ne 6, 3) := by decide +kernel
theorem d_M_rebuild_182 : decode b_M_rebuild 182 = .ok (.bipush (-4), 2) := by decide +kernel
theorem d_M_rebuild_184 : decode b_M_rebuild 184 = .ok (.ireturn, 1) := by decide +kernel
theorem d_M_rebuild_185 : decode b_M_rebuild 185 = .ok (.aload_n 0, 1) := by decide +kernel
theorem d_M_rebuild_186 : decode b_M_rebuild 186 = .ok (.getfield 13, 3) := by decide +kernel
theorem d_M_rebuild_189 : decode b_M_rebuild 189 = .ok (.iload_n 1, 1) := by decide +kernel
theorem d_M_rebuild_190 : decode b_M_rebuild 190 = .ok (.iload_n 2, 1) := by decide +kernel
theorem d_M_rebuild_191 : decode b_M_rebuild 191 = .ok (.iconst 1, 1) := by decide +kernel
theorem d_M_rebuild_192 : decode b_M_rebuild 192 = .ok (.iadd, 1) := by decide +kernel
theorem d_M_rebuild_193 : decode b_M_rebuild 193 = .ok (.iastore, 1) := by decide +kernel
theorem d_M_rebuild_194 : decode b_M_rebuild 194 = .ok (.aload_n 0, 1) := by decide +kernel
theorem d_M_rebuild_195 : decode b_M_rebuild 195 = .ok (.getfield 29, 3) := by decide +kernel
theorem d_M_rebuild_198 : decode b_M_rebuild 198 = .ok (.iconst 1, 1) := by decide +kernel
theorem d_M_rebuild_199 : decode b_M_rebuild 199 = .ok (.isub, 1) := by decide +kernel
theorem d_M_rebuild_200 : decode b_M_rebuild 200 = .ok (.iload_n 2, 1) := by decide +kernel
theorem d_M_rebuild_201 : decode b_M_rebuild 201 = .ok (.isub, 1) := by decide +kernel
theorem d_M_rebuild_202 : decode b_M_rebuild 202 = .ok (.ireturn, 1) := by decide +kernel
theorem d_M_scrub_0 : decode b_M_scrub 0 = .ok (.iload_n 1, 1) := by decide +kernel
theorem d_M_scrub_1 : decode b_M_scrub 1 = .ok (.ifCond .lt 11, 3) := by decide +kernel
theorem d_M_scrub_4 : decode b_M_scrub 4 = .ok (.iload_n 1, 1) := by decide +kernel
theorem d_M_scrub_5 : decode b_M_scrub 5 = .ok (.aload_n 0, 1) := by decide +kernel
theorem d_M_scrub_6 : decode b_M_scrub 6 = .ok (.getfield 29, 3) := by decide +kernel
theorem d_M_scrub_9 : decode b_M_scrub 9 = .ok (.if_icmp .lt 5, 3) := by decide +kernel
theorem d_M_scrub_12 : decode b_M_scrub 12 = .ok (.iconst (-1), 1) := by decide +kernel
theorem d_M_scrub_13 : decode b_M_scrub 13 = .ok (.ireturn, 1) := by decide +kernel
theorem d_M_scrub_14 : decode b_M_scrub 14 = .ok (.aload_n 0, 1) := by decide +kernel
theorem d_M_scrub_15 : decode b_M_scrub 15 = .ok (.getfield 73, 3) := by decide +kernel
theorem d_M_scrub_18 : decode b_M_scrub 18 = .ok (.ifCond .ne 10, 3) := by decide +kernel
theorem d_M_scrub_21 : decode b_M_scrub 21 = .ok (.aload_n 0, 1) := by decide +kernel
theorem d_M_scrub_22 : decode b_M_scrub 22 = .ok (.invokevirtual 102, 3) := by decide +kernel
theorem d_M_scrub_25 : decode b_M_scrub 25 = .ok (.ifCond .eq 18, 3) := by decide +kernel
theorem d_M_scrub_28 : decode b_M_scrub 28 = .ok (.aload_n 0, 1) := by decide +kernel
theorem d_M_scrub_29 : decode b_M_scrub 29 = .ok (.getfield 73, 3) := by decide +kernel
theorem d_M_scrub_32 : decode b_M_scrub 32 = .ok (.ifCond .eq 8, 3) := by decide +kernel
theorem d_M_scrub_35 : decode b_M_scrub 35 = .ok (.bipush (-2), 2) := by decide +kernel
theorem d_M_scrub_37 : decode b_M_scrub 37 = .ok (.goto 5, 3) := by decide +kernel
theorem d_M_scrub_40 : decode b_M_scrub 40 = .ok (.bipush (-3), 2) := by decide +kernel
theorem d_M_scrub_42 : decode b_M_scrub 42 = .ok (.ireturn, 1) := by decide +kernel
theorem d_M_scrub_43 : decode b_M_scrub 43 = .ok (.aload_n 0, 1) := by decide +kernel
theorem d_M_scrub_44 : decode b_M_scrub 44 = .ok (.iload_n 1, 1) := by decide +kernel
theorem d_M_scrub_45 : decode b_M_scrub 45 = .ok (.invokevirtual 112, 3) := by decide +kernel
theorem d_M_scrub_48 : decode b_M_scrub 48 = .ok (.aload_n 0, 1) := by decide +kernel
theorem d_M_scrub_49 : decode b_M_scrub 49 = .ok (.getfield 26, 3) := by decide +kernel
theorem d_M_scrub_52 : decode b_M_scrub 52 = .ok (.if_icmp .ge 6, 3) := by decide +kernel
theorem d_M_scrub_55 : decode b_M_scrub 55 = .ok (.bipush (-6), 2) := by decide +kernel
theorem d_M_scrub_57 : decode b_M_scrub 57 = .ok (.ireturn, 1) := by decide +kernel
theorem d_M_scrub_58 : decode b_M_scrub 58 = .ok (.aload_n 0, 1) := by decide +kernel
theorem d_M_scrub_59 : decode b_M_scrub 59 = .ok (.dup, 1) := by decide +kernel
theorem d_M_scrub_60 : decode b_M_scrub 60 = .ok (.getfield 109, 3) := by decide +kernel
theorem d_M_scrub_63 : decode b_M_scrub 63 = .ok (.aload_n 0, 1) := by decide +kernel
theorem d_M_scrub_64 : decode b_M_scrub 64 = .ok (.getfield 26, 3) := by decide +kernel
theorem d_M_scrub_67 : decode b_M_scrub 67 = .ok (.iadd, 1) := by decide +kernel
theorem d_M_scrub_68 : decode b_M_scrub 68 = .ok (.putfield 109, 3) := by decide +kernel
theorem d_M_scrub_71 : decode b_M_scrub 71 = .ok (.aload_n 0, 1) := by decide +kernel
theorem d_M_scrub_72 : decode b_M_scrub 72 = .ok (.iload_n 1, 1) := by decide +kernel
theorem d_M_scrub_73 : decode b_M_scrub 73 = .ok (.invokevirtual 116, 3) := by decide +kernel
theorem d_M_scrub_76 : decode b_M_scrub 76 = .ok (.aload_n 0, 1) := by decide +kernel
theorem d_M_scrub_77 : decode b_M_scrub 77 = .ok (.getfield 16, 3) := by decide +kernel
theorem d_M_scrub_80 : decode b_M_scrub 80 = .ok (.bipush 8, 2) := by decide +kernel
theorem d_M_scrub_82 : decode b_M_scrub 82 = .ok (.iaload, 1) := by decide +kernel
theorem d_M_scrub_83 : decode b_M_scrub 83 = .ok (.aload_n 0, 1) := by decide +kernel
theorem d_M_scrub_84 : decode b_M_scrub 84 = .ok (.invokevirtual 52, 3) := by decide +kernel
theorem d_M_scrub_87 : decode b_M_scrub 87 = .ok (.ixor, 1) := by decide +kernel
theorem d_M_scrub_88 : decode b_M_scrub 88 = .ok (.istore_n 2, 1) := by decide +kernel
theorem d_M_scrub_89 : decode b_M_scrub 89 = .ok (.aload_n 0, 1) := by decide +kernel
theorem d_M_scrub_90 : decode b_M_scrub 90 = .ok (.getfield 16, 3) := by decide +kernel
theorem d_M_scrub_93 : decode b_M_scrub 93 = .ok (.bipush 9, 2) := by decide +kernel
theorem d_M_scrub_95 : decode b_M_scrub 95 = .ok (.iaload, 1) := by decide +kernel
theorem d_M_scrub_96 : decode b_M_scrub 96 = .ok (.aload_n 0, 1) := by decide +kernel
theorem d_M_scrub_97 : decode b_M_scrub 97 = .ok (.invokevirtual 56, 3) := by decide +kernel
theorem d_M_scrub_100 : decode b_M_scrub 100 = .ok (.ixor, 1) := by decide +kernel
theorem d_M_scrub_101 : decode b_M_scrub 101 = .ok (.istore_n 3, 1) := by decide +kernel
theorem d_M_scrub_102 : decode b_M_scrub 102 = .ok (.iload_n 2, 1) := by decide +kernel
theorem d_M_scrub_103 : decode b_M_scrub 103 = .ok (.ifCond .ne 9, 3) := by decide +kernel
theorem d_M_scrub_106 : decode b_M_scrub 106 = .ok (.iload_n 3, 1) := by decide +kernel
theorem d_M_scrub_107 : decode b_M_scrub 107 = .ok (.ifCond .ne 5, 3) := by decide +kernel
theorem d_M_scrub_110 : decode b_M_scrub 110 = .ok (.iconst 0, 1) := by decide +kernel
theorem d_M_scrub_111 : decode b_M_scrub 111 = .ok (.ireturn, 1) := by decide +kernel
theorem d_M_scrub_112 : decode b_M_scrub 112 = .ok (.iload_n 2, 1) := by decide +kernel
theorem d_M_scrub_113 : decode b_M_scrub 113 = .ok (.ifCond .ne 8, 3) := by decide +kernel
theorem d_M_scrub_116 : decode b_M_scrub 116 = .ok (.bipush 9, 2) := by decide +kernel
theorem d_M_scrub_118 : decode b_M_scrub 118 = .ok (.goto 13, 3) := by decide +kernel
theorem d_M_scrub_121 : decode b_M_scrub 121 = .ok (.iload_n 3, 1) := by decide +kernel
theorem d_M_scrub_122 : decode b_M_scrub 122 = .ok (.ifCond .ne 8, 3) := by decide +kernel
theorem d_M_scrub_125 : decode b_M_scrub 125 = .ok (.bipush 8, 2) := by decide +kernel
theorem d_M_scrub_127 : decode b_M_scrub 127 = .ok (.goto 4, 3) := by decide +kernel
theorem d_M_scrub_130 : decode b_M_scrub 130 = .ok (.iconst (-1), 1) := by decide +kernel
theorem d_M_scrub_131 : decode b_M_scrub 131 = .ok (.istore 4, 2) := by decide +kernel
theorem d_M_scrub_133 : decode b_M_scrub 133 = .ok (.iconst 0, 1) := by decide +kernel
theorem d_M_scrub_134 : decode b_M_scrub 134 = .ok (.istore 5, 2) := by decide +kernel
theorem d_M_scrub_136 : decode b_M_scrub 136 = .ok (.iload 5, 2) := by decide +kernel
theorem d_M_scrub_138 : decode b_M_scrub 138 = .ok (.aload_n 0, 1) := by decide +kernel
theorem d_M_scrub_139 : decode b_M_scrub 139 = .ok (.getfield 26, 3) := by decide +kernel
theorem d_M_scrub_142 : decode b_M_scrub 142 = .ok (.iconst 2, 1) := by decide +kernel
theorem d_M_scrub_143 : decode b_M_scrub 143 = .ok (.isub, 1) := by decide +kernel
theorem d_M_scrub_144 : decode b_M_scrub 144 = .ok (.if_icmp .ge 32, 3) := by decide +kernel
theorem d_M_scrub_147 : decode b_M_scrub 147 = .ok (.iload 4, 2) := by decide +kernel
theorem d_M_scrub_149 : decode b_M_scrub 149 = .ok (.ifCond .ge 27, 3) := by decide +kernel
theorem d_M_scrub_152 : decode b_M_scrub 152 = .ok (.iload_n 2, 1) := by decide +kernel
theorem d_M_scrub_153 : decode b_M_scrub 153 = .ok (.iload 5, 2) := by decide +kernel
theorem d_M_scrub_155 : decode b_M_scrub 155 = .ok (.invokestatic 42, 3) := by decide +kernel
theorem d_M_scrub_158 : decode b_M_scrub 158 = .ok (.iload_n 3, 1) := by decide +kernel
theorem d_M_scrub_159 : decode b_M_scrub 159 = .ok (.if_icmp .ne 8, 3) := by decide +kernel
theorem d_M_scrub_162 : decode b_M_scrub 162 = .ok (.iload 5, 2) := by decide +kernel
theorem d_M_scrub_164 : decode b_M_scrub 164 = .ok (.goto 4, 3) := by decide +kernel
theorem d_M_scrub_167 : decode b_M_scrub 167 = .ok (.iconst (-1), 1) := by decide +kernel
theorem d_M_scrub_168 : decode b_M_scrub 168 = .ok (.istore 4, 2) := by decide +kernel
theorem d_M_scrub_170 : decode b_M_scrub 170 = .ok (.iinc 5 1, 3) := by decide +kernel
theorem d_M_scrub_173 : decode b_M_scrub 173 = .ok (.goto (-37), 3) := by decide +kernel
theorem d_M_scrub_176 : decode b_M_scrub 176 = .ok (.iload 4, 2) := by decide +kernel
theorem d_M_scrub_178 : decode b_M_scrub 178 = .ok (.ifCond .ge 6, 3) := by decide +kernel
theorem d_M_scrub_181 : decode b_M_scrub 181 = .ok (.bipush (-7), 2) := by decide +kernel
theorem d_M_scrub_183 : decode b_M_scrub 183 = .ok (.ireturn, 1) := by decide +kernel
theorem d_M_scrub_184 : decode b_M_scrub 184 = .ok (.aload_n 0, 1) := by decide +kernel
theorem d_M_scrub_185 : decode b_M_scrub 185 = .ok (.getfield 16, 3) := by decide +kernel
theorem d_M_scrub_188 : decode b_M_scrub 188 = .ok (.iload 4, 2) := by decide +kernel
theorem d_M_scrub_190 : decode b_M_scrub 190 = .ok (.iaload, 1) := by decide +kernel
theorem d_M_scrub_191 : decode b_M_scrub 191 = .ok (.iload 4, 2) := by decide +kernel
theorem d_M_scrub_193 : decode b_M_scrub 193 = .ok (.bipush 9, 2) := by decide +kernel
theorem d_M_scrub_195 : decode b_M_scrub 195 = .ok (.if_icmp .ne 7, 3) := by decide +kernel
theorem d_M_scrub_198 : decode b_M_scrub 198 = .ok (.iload_n 3, 1) := by decide +kernel
theorem d_M_scrub_199 : decode b_M_scrub 199 = .ok (.goto 4, 3) := by decide +kernel
theorem d_M_scrub_202 : decode b_M_scrub 202 = .ok (.iload_n 2, 1) := by decide +kernel
theorem d_M_scrub_203 : decode b_M_scrub 203 = .ok (.ixor, 1) := by decide +kernel
theorem d_M_scrub_204 : decode b_M_scrub 204 = .ok (.istore 5, 2) := by decide +kernel
theorem d_M_scrub_206 : decode b_M_scrub 206 = .ok (.aload_n 0, 1) := by decide +kernel
theorem d_M_scrub_207 : decode b_M_scrub 207 = .ok (.iload 4, 2) := by decide +kernel
theorem d_M_scrub_209 : decode b_M_scrub 209 = .ok (.iload_n 1, 1) := by decide +kernel
theorem d_M_scrub_210 : decode b_M_scrub 210 = .ok (.iload 5, 2) := by decide +kernel
theorem d_M_scrub_212 : decode b_M_scrub 212 = .ok (.invokevirtual 92, 3) := by decide +kernel
theorem d_M_scrub_215 : decode b_M_scrub 215 = .ok (.ifCond .eq 15, 3) := by decide +kernel
theorem d_M_scrub_218 : decode b_M_scrub 218 = .ok (.iconst 1, 1) := by decide +kernel
theorem d_M_scrub_219 : decode b_M_scrub 219 = .ok (.aload_n 0, 1) := by decide +kernel
theorem d_M_scrub_220 : decode b_M_scrub 220 = .ok (.iload 4, 2) := by decide +kernel
theorem d_M_scrub_222 : decode b_M_scrub 222 = .ok (.iload_n 1, 1) := by decide +kernel
theorem d_M_scrub_223 : decode b_M_scrub 223 = .ok (.invokevirtual 39, 3) := by decide +kernel
theorem d_M_scrub_226 : decode b_M_scrub 226 = .ok (.iadd, 1) := by decide +kernel
theorem d_M_scrub_227 : decode b_M_scrub 227 = .ok (.goto 5, 3) := by decide +kernel
theorem d_M_scrub_230 : decode b_M_scrub 230 = .ok (.bipush (-4), 2) := by decide +kernel
theorem d_M_scrub_232 : decode b_M_scrub 232 = .ok (.ireturn, 1) := by decide +kernel
theorem d_M_isCell_0 : decode b_M_isCell 0 = .ok (.iload_n 1, 1) := by decide +kernel
theorem d_M_isCell_1 : decode b_M_isCell 1 = .ok (.ifCond .lt 37, 3) := by decide +kernel
theorem d_M_isCell_4 : decode b_M_isCell 4 = .ok (.iload_n 1, 1) := by decide +kernel
theorem d_M_isCell_5 : decode b_M_isCell 5 = .ok (.aload_n 0, 1) := by decide +kernel
theorem d_M_isCell_6 : decode b_M_isCell 6 = .ok (.getfield 26, 3) := by decide +kernel
theorem d_M_isCell_9 : decode b_M_isCell 9 = .ok (.if_icmp .ge 29, 3) := by decide +kernel
theorem d_M_isCell_12 : decode b_M_isCell 12 = .ok (.iload_n 2, 1) := by decide +kernel
theorem d_M_isCell_13 : decode b_M_isCell 13 = .ok (.ifCond .lt 25, 3) := by decide +kernel
theorem d_M_isCell_16 : decode b_M_isCell 16 = .ok (.iload_n 2, 1) := by decide +kernel
theorem d_M_isCell_17 : decode b_M_isCell 17 = .ok (.aload_n 0, 1) := by decide +kernel
theorem d_M_isCell_18 : decode b_M_isCell 18 = .ok (.getfield 29, 3) := by decide +kernel
theorem d_M_isCell_21 : decode b_M_isCell 21 = .ok (.if_icmp .ge 17, 3) := by decide +kernel
theorem d_M_isCell_24 : decode b_M_isCell 24 = .ok (.aload_n 0, 1) := by decide +kernel
theorem d_M_isCell_25 : decode b_M_isCell 25 = .ok (.getfield 13, 3) := by decide +kernel
theorem d_M_isCell_28 : decode b_M_isCell 28 = .ok (.iload_n 1, 1) := by decide +kernel
theorem d_M_isCell_29 : decode b_M_isCell 29 = .ok (.iaload, 1) := by decide +kernel
theorem d_M_isCell_30 : decode b_M_isCell 30 = .ok (.iload_n 2, 1) := by decide +kernel
theorem d_M_isCell_31 : decode b_M_isCell 31 = .ok (.if_icmp .le 7, 3) := by decide +kernel
theorem d_M_isCell_34 : decode b_M_isCell 34 = .ok (.iconst 1, 1) := by decide +kernel
theorem d_M_isCell_35 : decode b_M_isCell 35 = .ok (.goto 4, 3) := by decide +kernel
theorem d_M_isCell_38 : decode b_M_isCell 38 = .ok (.iconst 0, 1) := by decide +kernel
theorem d_M_isCell_39 : decode b_M_isCell 39 = .ok (.ireturn, 1) := by decide +kernel
theorem d_M_corrupt_0 : decode b_M_corrupt 0 = .ok (.aload_n 0, 1) := by decide +kernel
theorem d_M_corrupt_1 : decode b_M_corrupt 1 = .ok (.iload_n 1, 1) := by decide +kernel
theorem d_M_corrupt_2 : decode b_M_corrupt 2 = .ok (.iload_n 2, 1) := by decide +kernel
theorem d_M_corrupt_3 : decode b_M_corrupt 3 = .ok (.invokevirtual 136, 3) := by decide +kernel
theorem d_M_corrupt_6 : decode b_M_corrupt 6 = .ok (.ifCond .ne 5, 3) := by decide +kernel
theorem d_M_corrupt_9 : decode b_M_corrupt 9 = .ok (.iconst 0, 1) := by decide +kernel
theorem d_M_corrupt_10 : decode b_M_corrupt 10 = .ok (.ireturn, 1) := by decide +kernel
theorem d_M_corrupt_11 : decode b_M_corrupt 11 = .ok (.aload_n 0, 1) := by decide +kernel
theorem d_M_corrupt_12 : decode b_M_corrupt 12 = .ok (.getfield 7, 3) := by decide +kernel
theorem d_M_corrupt_15 : decode b_M_corrupt 15 = .ok (.bipush 16, 2) := by decide +kernel
theorem d_M_corrupt_17 : decode b_M_corrupt 17 = .ok (.iload_n 1, 1) := by decide +kernel
theorem d_M_corrupt_18 : decode b_M_corrupt 18 = .ok (.imul, 1) := by decide +kernel
theorem d_M_corrupt_19 : decode b_M_corrupt 19 = .ok (.iload_n 2, 1) := by decide +kernel
theorem d_M_corrupt_20 : decode b_M_corrupt 20 = .ok (.iadd, 1) := by decide +kernel
theorem d_M_corrupt_21 : decode b_M_corrupt 21 = .ok (.dup2, 1) := by decide +kernel
theorem d_M_corrupt_22 : decode b_M_corrupt 22 = .ok (.iaload, 1) := by decide +kernel
theorem d_M_corrupt_23 : decode b_M_corrupt 23 = .ok (.iload_n 3, 1) := by decide +kernel
theorem d_M_corrupt_24 : decode b_M_corrupt 24 = .ok (.ixor, 1) := by decide +kernel
theorem d_M_corrupt_25 : decode b_M_corrupt 25 = .ok (.iastore, 1) := by decide +kernel
theorem d_M_corrupt_26 : decode b_M_corrupt 26 = .ok (.iconst 1, 1) := by decide +kernel
theorem d_M_corrupt_27 : decode b_M_corrupt 27 = .ok (.ireturn, 1) := by decide +kernel
theorem d_M_arm_0 : decode b_M_arm 0 = .ok (.iload_n 1, 1) := by decide +kernel
theorem d_M_arm_1 : decode b_M_arm 1 = .ok (.ifCond .lt 10, 3) := by decide +kernel
theorem d_M_arm_4 : decode b_M_arm 4 = .ok (.iload_n 1, 1) := by decide +kernel
theorem d_M_arm_5 : decode b_M_arm 5 = .ok (.sipush 1000, 3) := by decide +kernel
theorem d_M_arm_8 : decode b_M_arm 8 = .ok (.if_icmp .le 5, 3) := by decide +kernel
theorem d_M_arm_11 : decode b_M_arm 11 = .ok (.iconst 0, 1) := by decide +kernel
theorem d_M_arm_12 : decode b_M_arm 12 = .ok (.ireturn, 1) := by decide +kernel
theorem d_M_arm_13 : decode b_M_arm 13 = .ok (.aload_n 0, 1) := by decide +kernel
theorem d_M_arm_14 : decode b_M_arm 14 = .ok (.iconst 1, 1) := by decide +kernel
theorem d_M_arm_15 : decode b_M_arm 15 = .ok (.putfield 66, 3) := by decide +kernel
theorem d_M_arm_18 : decode b_M_arm 18 = .ok (.aload_n 0, 1) := by decide +kernel
theorem d_M_arm_19 : decode b_M_arm 19 = .ok (.iload_n 1, 1) := by decide +kernel
theorem d_M_arm_20 : decode b_M_arm 20 = .ok (.putfield 70, 3) := by decide +kernel
theorem d_M_arm_23 : decode b_M_arm 23 = .ok (.iconst 1, 1) := by decide +kernel
theorem d_M_arm_24 : decode b_M_arm 24 = .ok (.ireturn, 1) := by decide +kernel
theorem d_M_crash_0 : decode b_M_crash 0 = .ok (.aload_n 0, 1) := by decide +kernel
theorem d_M_crash_1 : decode b_M_crash 1 = .ok (.getfield 73, 3) := by decide +kernel
theorem d_M_crash_4 : decode b_M_crash 4 = .ok (.ifCond .eq 5, 3) := by decide +kernel
theorem d_M_crash_7 : decode b_M_crash 7 = .ok (.iconst 0, 1) := by decide +kernel
theorem d_M_crash_8 : decode b_M_crash 8 = .ok (.ireturn, 1) := by decide +kernel
theorem d_M_crash_9 : decode b_M_crash 9 = .ok (.aload_n 0, 1) := by decide +kernel
theorem d_M_crash_10 : decode b_M_crash 10 = .ok (.iconst 1, 1) := by decide +kernel
theorem d_M_crash_11 : decode b_M_crash 11 = .ok (.putfield 73, 3) := by decide +kernel
theorem d_M_crash_14 : decode b_M_crash 14 = .ok (.aload_n 0, 1) := by decide +kernel
theorem d_M_crash_15 : decode b_M_crash 15 = .ok (.iconst 0, 1) := by decide +kernel
theorem d_M_crash_16 : decode b_M_crash 16 = .ok (.putfield 66, 3) := by decide +kernel
theorem d_M_crash_19 : decode b_M_crash 19 = .ok (.iconst 1, 1) := by decide +kernel
theorem d_M_crash_20 : decode b_M_crash 20 = .ok (.ireturn, 1) := by decide +kernel
theorem d_M_restart_0 : decode b_M_restart 0 = .ok (.aload_n 0, 1) := by decide +kernel
theorem d_M_restart_1 : decode b_M_restart 1 = .ok (.getfield 73, 3) := by decide +kernel
theorem d_M_restart_4 : decode b_M_restart 4 = .ok (.ifCond .ne 6, 3) := by decide +kernel
theorem d_M_restart_7 : decode b_M_restart 7 = .ok (.bipush (-8), 2) := by decide +kernel
theorem d_M_restart_9 : decode b_M_restart 9 = .ok (.ireturn, 1) := by decide +kernel
theorem d_M_restart_10 : decode b_M_restart 10 = .ok (.aload_n 0, 1) := by decide +kernel
theorem d_M_restart_11 : decode b_M_restart 11 = .ok (.invokevirtual 102, 3) := by decide +kernel
theorem d_M_restart_14 : decode b_M_restart 14 = .ok (.ifCond .eq 6, 3) := by decide +kernel
theorem d_M_restart_17 : decode b_M_restart 17 = .ok (.bipush (-3), 2) := by decide +kernel
theorem d_M_restart_19 : decode b_M_restart 19 = .ok (.ireturn, 1) := by decide +kernel
theorem d_M_restart_20 : decode b_M_restart 20 = .ok (.aload_n 0, 1) := by decide +kernel
theorem d_M_restart_21 : decode b_M_restart 21 = .ok (.iconst 0, 1) := by decide +kernel
theorem d_M_restart_22 : decode b_M_restart 22 = .ok (.putfield 76, 3) := by decide +kernel
theorem d_M_restart_25 : decode b_M_restart 25 = .ok (.aload_n 0, 1) := by decide +kernel
theorem d_M_restart_26 : decode b_M_restart 26 = .ok (.getfield 22, 3) := by decide +kernel
theorem d_M_restart_29 : decode b_M_restart 29 = .ok (.ifCond .lt 13, 3) := by decide +kernel
theorem d_M_restart_32 : decode b_M_restart 32 = .ok (.aload_n 0, 1) := by decide +kernel
theorem d_M_restart_33 : decode b_M_restart 33 = .ok (.invokevirtual 130, 3) := by decide +kernel
theorem d_M_restart_36 : decode b_M_restart 36 = .ok (.ifCond .ne 6, 3) := by decide +kernel
theorem d_M_restart_39 : decode b_M_restart 39 = .ok (.bipush (-4), 2) := by decide +kernel
theorem d_M_restart_41 : decode b_M_restart 41 = .ok (.ireturn, 1) := by decide +kernel
theorem d_M_restart_42 : decode b_M_restart 42 = .ok (.aload_n 0, 1) := by decide +kernel
theorem d_M_restart_43 : decode b_M_restart 43 = .ok (.iconst 0, 1) := by decide +kernel
theorem d_M_restart_44 : decode b_M_restart 44 = .ok (.putfield 73, 3) := by decide +kernel
theorem d_M_restart_47 : decode b_M_restart 47 = .ok (.aload_n 0, 1) := by decide +kernel
theorem d_M_restart_48 : decode b_M_restart 48 = .ok (.getfield 76, 3) := by decide +kernel
theorem d_M_restart_51 : decode b_M_restart 51 = .ok (.ireturn, 1) := by decide +kernel
theorem d_M_faults_0 : decode b_M_faults 0 = .ok (.aload_n 0, 1) := by decide +kernel
theorem d_M_faults_1 : decode b_M_faults 1 = .ok (.invokevirtual 102, 3) := by decide +kernel
theorem d_M_faults_4 : decode b_M_faults 4 = .ok (.ifCond .eq 6, 3) := by decide +kernel
theorem d_M_faults_7 : decode b_M_faults 7 = .ok (.bipush (-3), 2) := by decide +kernel
theorem d_M_faults_9 : decode b_M_faults 9 = .ok (.ireturn, 1) := by decide +kernel
theorem d_M_faults_10 : decode b_M_faults 10 = .ok (.iconst 0, 1) := by decide +kernel
theorem d_M_faults_11 : decode b_M_faults 11 = .ok (.istore_n 1, 1) := by decide +kernel
theorem d_M_faults_12 : decode b_M_faults 12 = .ok (.iconst 0, 1) := by decide +kernel
theorem d_M_faults_13 : decode b_M_faults 13 = .ok (.istore_n 2, 1) := by decide +kernel
theorem d_M_faults_14 : decode b_M_faults 14 = .ok (.iload_n 2, 1) := by decide +kernel
theorem d_M_faults_15 : decode b_M_faults 15 = .ok (.aload_n 0, 1) := by decide +kernel
theorem d_M_faults_16 : decode b_M_faults 16 = .ok (.getfield 29, 3) := by decide +kernel
theorem d_M_faults_19 : decode b_M_faults 19 = .ok (.if_icmp .ge 50, 3) := by decide +kernel
theorem d_M_faults_22 : decode b_M_faults 22 = .ok (.aload_n 0, 1) := by decide +kernel
theorem d_M_faults_23 : decode b_M_faults 23 = .ok (.iload_n 2, 1) := by decide +kernel
theorem d_M_faults_24 : decode b_M_faults 24 = .ok (.invokevirtual 116, 3) := by decide +kernel
theorem d_M_faults_27 : decode b_M_faults 27 = .ok (.iload_n 1, 1) := by decide +kernel
theorem d_M_faults_28 : decode b_M_faults 28 = .ok (.aload_n 0, 1) := by decide +kernel
theorem d_M_faults_29 : decode b_M_faults 29 = .ok (.getfield 16, 3) := by decide +kernel
theorem d_M_faults_32 : decode b_M_faults 32 = .ok (.bipush 8, 2) := by decide +kernel
theorem d_M_faults_34 : decode b_M_faults 34 = .ok (.iaload, 1) := by decide +kernel
theorem d_M_faults_35 : decode b_M_faults 35 = .ok (.aload_n 0, 1) := by decide +kernel
theorem d_M_faults_36 : decode b_M_faults 36 = .ok (.invokevirtual 52, 3) := by decide +kernel
theorem d_M_faults_39 : decode b_M_faults 39 = .ok (.if_icmp .ne 17, 3) := by decide +kernel
theorem d_M_faults_42 : decode b_M_faults 42 = .ok (.aload_n 0, 1) := by decide +kernel
theorem d_M_faults_43 : decode b_M_faults 43 = .ok (.getfield 16, 3) := by decide +kernel
theorem d_M_faults_46 : decode b_M_faults 46 = .ok (.bipush 9, 2) := by decide +kernel
theorem d_M_faults_48 : decode b_M_faults 48 = .ok (.iaload, 1) := by decide +kernel
theorem d_M_faults_49 : decode b_M_faults 49 = .ok (.aload_n 0, 1) := by decide +kernel
theorem d_M_faults_50 : decode b_M_faults 50 = .ok (.invokevirtual 56, 3) := by decide +kernel
theorem d_M_faults_53 : decode b_M_faults 53 = .ok (.if_icmp .eq 7, 3) := by decide +kernel
theorem d_M_faults_56 : decode b_M_faults 56 = .ok (.iconst 1, 1) := by decide +kernel
theorem d_M_faults_57 : decode b_M_faults 57 = .ok (.goto 4, 3) := by decide +kernel
theorem d_M_faults_60 : decode b_M_faults 60 = .ok (.iconst 0, 1) := by decide +kernel
theorem d_M_faults_61 : decode b_M_faults 61 = .ok (.iadd, 1) := by decide +kernel
theorem d_M_faults_62 : decode b_M_faults 62 = .ok (.istore_n 1, 1) := by decide +kernel
theorem d_M_faults_63 : decode b_M_faults 63 = .ok (.iinc 2 1, 3) := by decide +kernel
theorem d_M_faults_66 : decode b_M_faults 66 = .ok (.goto (-52), 3) := by decide +kernel
theorem d_M_faults_69 : decode b_M_faults 69 = .ok (.iload_n 1, 1) := by decide +kernel
theorem d_M_faults_70 : decode b_M_faults 70 = .ok (.ireturn, 1) := by decide +kernel
theorem d_M_peek_0 : decode b_M_peek 0 = .ok (.aload_n 0, 1) := by decide +kernel
theorem d_M_peek_1 : decode b_M_peek 1 = .ok (.iload_n 1, 1) := by decide +kernel
theorem d_M_peek_2 : decode b_M_peek 2 = .ok (.iload_n 2, 1) := by decide +kernel
theorem d_M_peek_3 : decode b_M_peek 3 = .ok (.invokevirtual 136, 3) := by decide +kernel
theorem d_M_peek_6 : decode b_M_peek 6 = .ok (.ifCond .eq 22, 3) := by decide +kernel
theorem d_M_peek_9 : decode b_M_peek 9 = .ok (.aload_n 0, 1) := by decide +kernel
theorem d_M_peek_10 : decode b_M_peek 10 = .ok (.getfield 7, 3) := by decide +kernel
theorem d_M_peek_13 : decode b_M_peek 13 = .ok (.bipush 16, 2) := by decide +kernel
theorem d_M_peek_15 : decode b_M_peek 15 = .ok (.iload_n 1, 1) := by decide +kernel
theorem d_M_peek_16 : decode b_M_peek 16 = .ok (.imul, 1) := by decide +kernel
theorem d_M_peek_17 : decode b_M_peek 17 = .ok (.iload_n 2, 1) := by decide +kernel
theorem d_M_peek_18 : decode b_M_peek 18 = .ok (.iadd, 1) := by decide +kernel
theorem d_M_peek_19 : decode b_M_peek 19 = .ok (.iaload, 1) := by decide +kernel
theorem d_M_peek_20 : decode b_M_peek 20 = .ok (.i2l, 1) := by decide +kernel
theorem d_M_peek_21 : decode b_M_peek 21 = .ok (.ldc2_w 120, 3) := by decide +kernel
theorem d_M_peek_24 : decode b_M_peek 24 = .ok (.land, 1) := by decide +kernel
theorem d_M_peek_25 : decode b_M_peek 25 = .ok (.goto 6, 3) := by decide +kernel
theorem d_M_peek_28 : decode b_M_peek 28 = .ok (.ldc2_w 100, 3) := by decide +kernel
theorem d_M_peek_31 : decode b_M_peek 31 = .ok (.lreturn, 1) := by decide +kernel
theorem d_M_locate_0 : decode b_M_locate 0 = .ok (.aload_n 0, 1) := by decide +kernel
theorem d_M_locate_1 : decode b_M_locate 1 = .ok (.iload_n 1, 1) := by decide +kernel
theorem d_M_locate_2 : decode b_M_locate 2 = .ok (.invokevirtual 96, 3) := by decide +kernel
theorem d_M_locate_5 : decode b_M_locate 5 = .ok (.ifCond .eq 26, 3) := by decide +kernel
theorem d_M_locate_8 : decode b_M_locate 8 = .ok (.aload_n 0, 1) := by decide +kernel
theorem d_M_locate_9 : decode b_M_locate 9 = .ok (.iload_n 1, 1) := by decide +kernel
theorem d_M_locate_10 : decode b_M_locate 10 = .ok (.aload_n 0, 1) := by decide +kernel
theorem d_M_locate_11 : decode b_M_locate 11 = .ok (.getfield 26, 3) := by decide +kernel
theorem d_M_locate_14 : decode b_M_locate 14 = .ok (.iconst 2, 1) := by decide +kernel
theorem d_M_locate_15 : decode b_M_locate 15 = .ok (.isub, 1) := by decide +kernel
theorem d_M_locate_16 : decode b_M_locate 16 = .ok (.irem, 1) := by decide +kernel
theorem d_M_locate_17 : decode b_M_locate 17 = .ok (.iload_n 1, 1) := by decide +kernel
theorem d_M_locate_18 : decode b_M_locate 18 = .ok (.aload_n 0, 1) := by decide +kernel
theorem d_M_locate_19 : decode b_M_locate 19 = .ok (.getfield 26, 3) := by decide +kernel
theorem d_M_locate_22 : decode b_M_locate 22 = .ok (.iconst 2, 1) := by decide +kernel
theorem d_M_locate_23 : decode b_M_locate 23 = .ok (.isub, 1) := by decide +kernel
theorem d_M_locate_24 : decode b_M_locate 24 = .ok (.idiv, 1) := by decide +kernel
theorem d_M_locate_25 : decode b_M_locate 25 = .ok (.invokevirtual 39, 3) := by decide +kernel
theorem d_M_locate_28 : decode b_M_locate 28 = .ok (.goto 4, 3) := by decide +kernel
theorem d_M_locate_31 : decode b_M_locate 31 = .ok (.iconst (-1), 1) := by decide +kernel
theorem d_M_locate_32 : decode b_M_locate 32 = .ok (.ireturn, 1) := by decide +kernel
theorem d_M_position_0 : decode b_M_position 0 = .ok (.iload_n 1, 1) := by decide +kernel
theorem d_M_position_1 : decode b_M_position 1 = .ok (.ifCond .lt 11, 3) := by decide +kernel
theorem d_M_position_4 : decode b_M_position 4 = .ok (.iload_n 1, 1) := by decide +kernel
theorem d_M_position_5 : decode b_M_position 5 = .ok (.aload_n 0, 1) := by decide +kernel
theorem d_M_position_6 : decode b_M_position 6 = .ok (.getfield 26, 3) := by decide +kernel
theorem d_M_position_9 : decode b_M_position 9 = .ok (.if_icmp .lt 7, 3) := by decide +kernel
theorem d_M_position_12 : decode b_M_position 12 = .ok (.iconst (-1), 1) := by decide +kernel
theorem d_M_position_13 : decode b_M_position 13 = .ok (.goto 23, 3) := by decide +kernel
theorem d_M_position_16 : decode b_M_position 16 = .ok (.aload_n 0, 1) := by decide +kernel
theorem d_M_position_17 : decode b_M_position 17 = .ok (.getfield 13, 3) := by decide +kernel
theorem d_M_position_20 : decode b_M_position 20 = .ok (.iload_n 1, 1) := by decide +kernel
theorem d_M_position_21 : decode b_M_position 21 = .ok (.iaload, 1) := by decide +kernel
theorem d_M_position_22 : decode b_M_position 22 = .ok (.ifCond .ge 8, 3) := by decide +kernel
theorem d_M_position_25 : decode b_M_position 25 = .ok (.bipush (-9), 2) := by decide +kernel
theorem d_M_position_27 : decode b_M_position 27 = .ok (.goto 9, 3) := by decide +kernel
theorem d_M_position_30 : decode b_M_position 30 = .ok (.aload_n 0, 1) := by decide +kernel
theorem d_M_position_31 : decode b_M_position 31 = .ok (.getfield 13, 3) := by decide +kernel
theorem d_M_position_34 : decode b_M_position 34 = .ok (.iload_n 1, 1) := by decide +kernel
theorem d_M_position_35 : decode b_M_position 35 = .ok (.iaload, 1) := by decide +kernel
theorem d_M_position_36 : decode b_M_position 36 = .ok (.ireturn, 1) := by decide +kernel
theorem d_M_mode_0 : decode b_M_mode 0 = .ok (.aload_n 0, 1) := by decide +kernel
theorem d_M_mode_1 : decode b_M_mode 1 = .ok (.getfield 73, 3) := by decide +kernel
theorem d_M_mode_4 : decode b_M_mode 4 = .ok (.ifCond .eq 7, 3) := by decide +kernel
theorem d_M_mode_7 : decode b_M_mode 7 = .ok (.iconst 1, 1) := by decide +kernel
theorem d_M_mode_8 : decode b_M_mode 8 = .ok (.goto 4, 3) := by decide +kernel
theorem d_M_mode_11 : decode b_M_mode 11 = .ok (.iconst 0, 1) := by decide +kernel
theorem d_M_mode_12 : decode b_M_mode 12 = .ok (.aload_n 0, 1) := by decide +kernel
theorem d_M_mode_13 : decode b_M_mode 13 = .ok (.invokevirtual 102, 3) := by decide +kernel
theorem d_M_mode_16 : decode b_M_mode 16 = .ok (.ifCond .eq 7, 3) := by decide +kernel
theorem d_M_mode_19 : decode b_M_mode 19 = .ok (.iconst 2, 1) := by decide +kernel
theorem d_M_mode_20 : decode b_M_mode 20 = .ok (.goto 4, 3) := by decide +kernel
theorem d_M_mode_23 : decode b_M_mode 23 = .ok (.iconst 0, 1) := by decide +kernel
theorem d_M_mode_24 : decode b_M_mode 24 = .ok (.iadd, 1) := by decide +kernel
theorem d_M_mode_25 : decode b_M_mode 25 = .ok (.aload_n 0, 1) := by decide +kernel
theorem d_M_mode_26 : decode b_M_mode 26 = .ok (.getfield 66, 3) := by decide +kernel
theorem d_M_mode_29 : decode b_M_mode 29 = .ok (.ifCond .eq 7, 3) := by decide +kernel
theorem d_M_mode_32 : decode b_M_mode 32 = .ok (.iconst 4, 1) := by decide +kernel
theorem d_M_mode_33 : decode b_M_mode 33 = .ok (.goto 4, 3) := by decide +kernel
theorem d_M_mode_36 : decode b_M_mode 36 = .ok (.iconst 0, 1) := by decide +kernel
theorem d_M_mode_37 : decode b_M_mode 37 = .ok (.iadd, 1) := by decide +kernel
theorem d_M_mode_38 : decode b_M_mode 38 = .ok (.ireturn, 1) := by decide +kernel
theorem d_M_logged_0 : decode b_M_logged 0 = .ok (.aload_n 0, 1) := by decide +kernel
theorem d_M_logged_1 : decode b_M_logged 1 = .ok (.getfield 22, 3) := by decide +kernel
theorem d_M_logged_4 : decode b_M_logged 4 = .ok (.ireturn, 1) := by decide +kernel
theorem d_M_spares_0 : decode b_M_spares 0 = .ok (.aload_n 0, 1) := by decide +kernel
theorem d_M_spares_1 : decode b_M_spares 1 = .ok (.getfield 32, 3) := by decide +kernel
theorem d_M_spares_4 : decode b_M_spares 4 = .ok (.ireturn, 1) := by decide +kernel
theorem d_M_reads_0 : decode b_M_reads 0 = .ok (.aload_n 0, 1) := by decide +kernel
theorem d_M_reads_1 : decode b_M_reads 1 = .ok (.getfield 109, 3) := by decide +kernel
theorem d_M_reads_4 : decode b_M_reads 4 = .ok (.ireturn, 1) := by decide +kernel
theorem d_M_writes_0 : decode b_M_writes 0 = .ok (.aload_n 0, 1) := by decide +kernel
theorem d_M_writes_1 : decode b_M_writes 1 = .ok (.getfield 83, 3) := by decide +kernel
theorem d_M_writes_4 : decode b_M_writes 4 = .ok (.ireturn, 1) := by decide +kernel
