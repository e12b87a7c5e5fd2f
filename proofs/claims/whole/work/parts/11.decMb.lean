theorem d_M_grant_0 : decode b_M_grant 0 = .ok (.aload_n 0, 1) := by decide +kernel
theorem d_M_grant_1 : decode b_M_grant 1 = .ok (.getfield 70, 3) := by decide +kernel
theorem d_M_grant_4 : decode b_M_grant 4 = .ok (.iload_n 1, 1) := by decide +kernel
theorem d_M_grant_5 : decode b_M_grant 5 = .ok (.iaload, 1) := by decide +kernel
theorem d_M_grant_6 : decode b_M_grant 6 = .ok (.istore_n 2, 1) := by decide +kernel
theorem d_M_grant_7 : decode b_M_grant 7 = .ok (.aload_n 0, 1) := by decide +kernel
theorem d_M_grant_8 : decode b_M_grant 8 = .ok (.getfield 82, 3) := by decide +kernel
theorem d_M_grant_11 : decode b_M_grant 11 = .ok (.bipush 100, 2) := by decide +kernel
theorem d_M_grant_13 : decode b_M_grant 13 = .ok (.iload_n 1, 1) := by decide +kernel
theorem d_M_grant_14 : decode b_M_grant 14 = .ok (.imul, 1) := by decide +kernel
theorem d_M_grant_15 : decode b_M_grant 15 = .ok (.iload_n 2, 1) := by decide +kernel
theorem d_M_grant_16 : decode b_M_grant 16 = .ok (.iadd, 1) := by decide +kernel
theorem d_M_grant_17 : decode b_M_grant 17 = .ok (.baload, 1) := by decide +kernel
theorem d_M_grant_18 : decode b_M_grant 18 = .ok (.aload_n 0, 1) := by decide +kernel
theorem d_M_grant_19 : decode b_M_grant 19 = .ok (.getfield 73, 3) := by decide +kernel
theorem d_M_grant_22 : decode b_M_grant 22 = .ok (.iload_n 1, 1) := by decide +kernel
theorem d_M_grant_23 : decode b_M_grant 23 = .ok (.iaload, 1) := by decide +kernel
theorem d_M_grant_24 : decode b_M_grant 24 = .ok (.if_icmp .ge 21, 3) := by decide +kernel
theorem d_M_grant_27 : decode b_M_grant 27 = .ok (.aload_n 0, 1) := by decide +kernel
theorem d_M_grant_28 : decode b_M_grant 28 = .ok (.getfield 82, 3) := by decide +kernel
theorem d_M_grant_31 : decode b_M_grant 31 = .ok (.bipush 100, 2) := by decide +kernel
theorem d_M_grant_33 : decode b_M_grant 33 = .ok (.iload_n 1, 1) := by decide +kernel
theorem d_M_grant_34 : decode b_M_grant 34 = .ok (.imul, 1) := by decide +kernel
theorem d_M_grant_35 : decode b_M_grant 35 = .ok (.iload_n 2, 1) := by decide +kernel
theorem d_M_grant_36 : decode b_M_grant 36 = .ok (.iadd, 1) := by decide +kernel
theorem d_M_grant_37 : decode b_M_grant 37 = .ok (.aload_n 0, 1) := by decide +kernel
theorem d_M_grant_38 : decode b_M_grant 38 = .ok (.getfield 73, 3) := by decide +kernel
theorem d_M_grant_41 : decode b_M_grant 41 = .ok (.iload_n 1, 1) := by decide +kernel
theorem d_M_grant_42 : decode b_M_grant 42 = .ok (.iaload, 1) := by decide +kernel
theorem d_M_grant_43 : decode b_M_grant 43 = .ok (.i2b, 1) := by decide +kernel
theorem d_M_grant_44 : decode b_M_grant 44 = .ok (.bastore, 1) := by decide +kernel
theorem d_M_grant_45 : decode b_M_grant 45 = .ok (.aload_n 0, 1) := by decide +kernel
theorem d_M_grant_46 : decode b_M_grant 46 = .ok (.getfield 61, 3) := by decide +kernel
theorem d_M_grant_49 : decode b_M_grant 49 = .ok (.iload_n 1, 1) := by decide +kernel
theorem d_M_grant_50 : decode b_M_grant 50 = .ok (.iconst 1, 1) := by decide +kernel
theorem d_M_grant_51 : decode b_M_grant 51 = .ok (.iastore, 1) := by decide +kernel
theorem d_M_grant_52 : decode b_M_grant 52 = .ok (.aload_n 0, 1) := by decide +kernel
theorem d_M_grant_53 : decode b_M_grant 53 = .ok (.getfield 64, 3) := by decide +kernel
theorem d_M_grant_56 : decode b_M_grant 56 = .ok (.iload_n 1, 1) := by decide +kernel
theorem d_M_grant_57 : decode b_M_grant 57 = .ok (.iconst 0, 1) := by decide +kernel
theorem d_M_grant_58 : decode b_M_grant 58 = .ok (.iastore, 1) := by decide +kernel
theorem d_M_grant_59 : decode b_M_grant 59 = .ok (.aload_n 0, 1) := by decide +kernel
theorem d_M_grant_60 : decode b_M_grant 60 = .ok (.iload_n 2, 1) := by decide +kernel
theorem d_M_grant_61 : decode b_M_grant 61 = .ok (.invokevirtual 144, 3) := by decide +kernel
theorem d_M_grant_64 : decode b_M_grant 64 = .ok (.istore_n 3, 1) := by decide +kernel
theorem d_M_grant_65 : decode b_M_grant 65 = .ok (.aload_n 0, 1) := by decide +kernel
theorem d_M_grant_66 : decode b_M_grant 66 = .ok (.getfield 73, 3) := by decide +kernel
theorem d_M_grant_69 : decode b_M_grant 69 = .ok (.iload_n 1, 1) := by decide +kernel
theorem d_M_grant_70 : decode b_M_grant 70 = .ok (.iaload, 1) := by decide +kernel
theorem d_M_grant_71 : decode b_M_grant 71 = .ok (.iconst 1, 1) := by decide +kernel
theorem d_M_grant_72 : decode b_M_grant 72 = .ok (.if_icmp .ne 35, 3) := by decide +kernel
theorem d_M_grant_75 : decode b_M_grant 75 = .ok (.iload_n 3, 1) := by decide +kernel
theorem d_M_grant_76 : decode b_M_grant 76 = .ok (.ifCond .lt 10, 3) := by decide +kernel
theorem d_M_grant_79 : decode b_M_grant 79 = .ok (.aload_n 0, 1) := by decide +kernel
theorem d_M_grant_80 : decode b_M_grant 80 = .ok (.iload_n 3, 1) := by decide +kernel
theorem d_M_grant_81 : decode b_M_grant 81 = .ok (.iconst 4, 1) := by decide +kernel
theorem d_M_grant_82 : decode b_M_grant 82 = .ok (.idiv, 1) := by decide +kernel
theorem d_M_grant_83 : decode b_M_grant 83 = .ok (.invokevirtual 121, 3) := by decide +kernel
theorem d_M_grant_86 : decode b_M_grant 86 = .ok (.aload_n 0, 1) := by decide +kernel
theorem d_M_grant_87 : decode b_M_grant 87 = .ok (.getfield 67, 3) := by decide +kernel
theorem d_M_grant_90 : decode b_M_grant 90 = .ok (.iload_n 1, 1) := by decide +kernel
theorem d_M_grant_91 : decode b_M_grant 91 = .ok (.iload_n 3, 1) := by decide +kernel
theorem d_M_grant_92 : decode b_M_grant 92 = .ok (.ifCond .lt 12, 3) := by decide +kernel
theorem d_M_grant_95 : decode b_M_grant 95 = .ok (.aload_n 0, 1) := by decide +kernel
theorem d_M_grant_96 : decode b_M_grant 96 = .ok (.getfield 49, 3) := by decide +kernel
theorem d_M_grant_99 : decode b_M_grant 99 = .ok (.iload_n 3, 1) := by decide +kernel
theorem d_M_grant_100 : decode b_M_grant 100 = .ok (.iaload, 1) := by decide +kernel
theorem d_M_grant_101 : decode b_M_grant 101 = .ok (.goto 4, 3) := by decide +kernel
theorem d_M_grant_104 : decode b_M_grant 104 = .ok (.iconst 0, 1) := by decide +kernel
theorem d_M_grant_105 : decode b_M_grant 105 = .ok (.iastore, 1) := by decide +kernel
theorem d_M_grant_106 : decode b_M_grant 106 = .ok (.return_, 1) := by decide +kernel
theorem d_M_grant_107 : decode b_M_grant 107 = .ok (.iload_n 3, 1) := by decide +kernel
theorem d_M_grant_108 : decode b_M_grant 108 = .ok (.ifCond .ge 11, 3) := by decide +kernel
theorem d_M_grant_111 : decode b_M_grant 111 = .ok (.aload_n 0, 1) := by decide +kernel
theorem d_M_grant_112 : decode b_M_grant 112 = .ok (.iconst (-1), 1) := by decide +kernel
theorem d_M_grant_113 : decode b_M_grant 113 = .ok (.invokevirtual 144, 3) := by decide +kernel
theorem d_M_grant_116 : decode b_M_grant 116 = .ok (.goto 4, 3) := by decide +kernel
theorem d_M_grant_119 : decode b_M_grant 119 = .ok (.iload_n 3, 1) := by decide +kernel
theorem d_M_grant_120 : decode b_M_grant 120 = .ok (.istore_n 3, 1) := by decide +kernel
theorem d_M_grant_121 : decode b_M_grant 121 = .ok (.iload_n 3, 1) := by decide +kernel
theorem d_M_grant_122 : decode b_M_grant 122 = .ok (.ifCond .lt 13, 3) := by decide +kernel
theorem d_M_grant_125 : decode b_M_grant 125 = .ok (.aload_n 0, 1) := by decide +kernel
theorem d_M_grant_126 : decode b_M_grant 126 = .ok (.iconst 1, 1) := by decide +kernel
theorem d_M_grant_127 : decode b_M_grant 127 = .ok (.invokevirtual 147, 3) := by decide +kernel
theorem d_M_grant_130 : decode b_M_grant 130 = .ok (.bipush 60, 2) := by decide +kernel
theorem d_M_grant_132 : decode b_M_grant 132 = .ok (.if_icmp .lt 11, 3) := by decide +kernel
theorem d_M_grant_135 : decode b_M_grant 135 = .ok (.aload_n 0, 1) := by decide +kernel
theorem d_M_grant_136 : decode b_M_grant 136 = .ok (.getfield 64, 3) := by decide +kernel
theorem d_M_grant_139 : decode b_M_grant 139 = .ok (.iload_n 1, 1) := by decide +kernel
theorem d_M_grant_140 : decode b_M_grant 140 = .ok (.iconst 3, 1) := by decide +kernel
theorem d_M_grant_141 : decode b_M_grant 141 = .ok (.iastore, 1) := by decide +kernel
theorem d_M_grant_142 : decode b_M_grant 142 = .ok (.return_, 1) := by decide +kernel
theorem d_M_grant_143 : decode b_M_grant 143 = .ok (.aload_n 0, 1) := by decide +kernel
theorem d_M_grant_144 : decode b_M_grant 144 = .ok (.iload_n 3, 1) := by decide +kernel
theorem d_M_grant_145 : decode b_M_grant 145 = .ok (.iconst 4, 1) := by decide +kernel
theorem d_M_grant_146 : decode b_M_grant 146 = .ok (.idiv, 1) := by decide +kernel
theorem d_M_grant_147 : decode b_M_grant 147 = .ok (.invokevirtual 121, 3) := by decide +kernel
theorem d_M_grant_150 : decode b_M_grant 150 = .ok (.aload_n 0, 1) := by decide +kernel
theorem d_M_grant_151 : decode b_M_grant 151 = .ok (.iconst 1, 1) := by decide +kernel
theorem d_M_grant_152 : decode b_M_grant 152 = .ok (.iload_n 1, 1) := by decide +kernel
theorem d_M_grant_153 : decode b_M_grant 153 = .ok (.iload_n 3, 1) := by decide +kernel
theorem d_M_grant_154 : decode b_M_grant 154 = .ok (.invokevirtual 124, 3) := by decide +kernel
theorem d_M_grant_157 : decode b_M_grant 157 = .ok (.istore 4, 2) := by decide +kernel
theorem d_M_grant_159 : decode b_M_grant 159 = .ok (.aload_n 0, 1) := by decide +kernel
theorem d_M_grant_160 : decode b_M_grant 160 = .ok (.getfield 19, 3) := by decide +kernel
theorem d_M_grant_163 : decode b_M_grant 163 = .ok (.iload 4, 2) := by decide +kernel
theorem d_M_grant_165 : decode b_M_grant 165 = .ok (.aload_n 0, 1) := by decide +kernel
theorem d_M_grant_166 : decode b_M_grant 166 = .ok (.getfield 46, 3) := by decide +kernel
theorem d_M_grant_169 : decode b_M_grant 169 = .ok (.iload_n 3, 1) := by decide +kernel
theorem d_M_grant_170 : decode b_M_grant 170 = .ok (.iaload, 1) := by decide +kernel
theorem d_M_grant_171 : decode b_M_grant 171 = .ok (.iastore, 1) := by decide +kernel
theorem d_M_grant_172 : decode b_M_grant 172 = .ok (.aload_n 0, 1) := by decide +kernel
theorem d_M_grant_173 : decode b_M_grant 173 = .ok (.getfield 22, 3) := by decide +kernel
theorem d_M_grant_176 : decode b_M_grant 176 = .ok (.iload 4, 2) := by decide +kernel
theorem d_M_grant_178 : decode b_M_grant 178 = .ok (.aload_n 0, 1) := by decide +kernel
theorem d_M_grant_179 : decode b_M_grant 179 = .ok (.getfield 49, 3) := by decide +kernel
theorem d_M_grant_182 : decode b_M_grant 182 = .ok (.iload_n 3, 1) := by decide +kernel
theorem d_M_grant_183 : decode b_M_grant 183 = .ok (.iaload, 1) := by decide +kernel
theorem d_M_grant_184 : decode b_M_grant 184 = .ok (.iastore, 1) := by decide +kernel
theorem d_M_grant_185 : decode b_M_grant 185 = .ok (.aload_n 0, 1) := by decide +kernel
theorem d_M_grant_186 : decode b_M_grant 186 = .ok (.getfield 25, 3) := by decide +kernel
theorem d_M_grant_189 : decode b_M_grant 189 = .ok (.iload 4, 2) := by decide +kernel
theorem d_M_grant_191 : decode b_M_grant 191 = .ok (.iload_n 2, 1) := by decide +kernel
theorem d_M_grant_192 : decode b_M_grant 192 = .ok (.iastore, 1) := by decide +kernel
theorem d_M_grant_193 : decode b_M_grant 193 = .ok (.aload_n 0, 1) := by decide +kernel
theorem d_M_grant_194 : decode b_M_grant 194 = .ok (.getfield 28, 3) := by decide +kernel
theorem d_M_grant_197 : decode b_M_grant 197 = .ok (.iload 4, 2) := by decide +kernel
theorem d_M_grant_199 : decode b_M_grant 199 = .ok (.aload_n 0, 1) := by decide +kernel
theorem d_M_grant_200 : decode b_M_grant 200 = .ok (.getfield 76, 3) := by decide +kernel
theorem d_M_grant_203 : decode b_M_grant 203 = .ok (.iload_n 1, 1) := by decide +kernel
theorem d_M_grant_204 : decode b_M_grant 204 = .ok (.iaload, 1) := by decide +kernel
theorem d_M_grant_205 : decode b_M_grant 205 = .ok (.iastore, 1) := by decide +kernel
theorem d_M_grant_206 : decode b_M_grant 206 = .ok (.aload_n 0, 1) := by decide +kernel
theorem d_M_grant_207 : decode b_M_grant 207 = .ok (.iload 4, 2) := by decide +kernel
theorem d_M_grant_209 : decode b_M_grant 209 = .ok (.invokevirtual 128, 3) := by decide +kernel
theorem d_M_grant_212 : decode b_M_grant 212 = .ok (.return_, 1) := by decide +kernel
theorem d_M_drop_0 : decode b_M_drop 0 = .ok (.iconst 0, 1) := by decide +kernel
theorem d_M_drop_1 : decode b_M_drop 1 = .ok (.istore_n 2, 1) := by decide +kernel
theorem d_M_drop_2 : decode b_M_drop 2 = .ok (.iload_n 2, 1) := by decide +kernel
theorem d_M_drop_3 : decode b_M_drop 3 = .ok (.bipush 60, 2) := by decide +kernel
theorem d_M_drop_5 : decode b_M_drop 5 = .ok (.if_icmp .ge 26, 3) := by decide +kernel
theorem d_M_drop_8 : decode b_M_drop 8 = .ok (.aload_n 0, 1) := by decide +kernel
theorem d_M_drop_9 : decode b_M_drop 9 = .ok (.iload_n 1, 1) := by decide +kernel
theorem d_M_drop_10 : decode b_M_drop 10 = .ok (.invokevirtual 150, 3) := by decide +kernel
theorem d_M_drop_13 : decode b_M_drop 13 = .ok (.ifCond .le 18, 3) := by decide +kernel
theorem d_M_drop_16 : decode b_M_drop 16 = .ok (.aload_n 0, 1) := by decide +kernel
theorem d_M_drop_17 : decode b_M_drop 17 = .ok (.aload_n 0, 1) := by decide +kernel
theorem d_M_drop_18 : decode b_M_drop 18 = .ok (.iload_n 1, 1) := by decide +kernel
theorem d_M_drop_19 : decode b_M_drop 19 = .ok (.invokevirtual 150, 3) := by decide +kernel
theorem d_M_drop_22 : decode b_M_drop 22 = .ok (.invokevirtual 153, 3) := by decide +kernel
theorem d_M_drop_25 : decode b_M_drop 25 = .ok (.iinc 2 1, 3) := by decide +kernel
theorem d_M_drop_28 : decode b_M_drop 28 = .ok (.goto (-26), 3) := by decide +kernel
theorem d_M_drop_31 : decode b_M_drop 31 = .ok (.aload_n 0, 1) := by decide +kernel
theorem d_M_drop_32 : decode b_M_drop 32 = .ok (.getfield 61, 3) := by decide +kernel
theorem d_M_drop_35 : decode b_M_drop 35 = .ok (.iload_n 1, 1) := by decide +kernel
theorem d_M_drop_36 : decode b_M_drop 36 = .ok (.iconst 5, 1) := by decide +kernel
theorem d_M_drop_37 : decode b_M_drop 37 = .ok (.iastore, 1) := by decide +kernel
theorem d_M_drop_38 : decode b_M_drop 38 = .ok (.aload_n 0, 1) := by decide +kernel
theorem d_M_drop_39 : decode b_M_drop 39 = .ok (.iload_n 1, 1) := by decide +kernel
theorem d_M_drop_40 : decode b_M_drop 40 = .ok (.invokevirtual 156, 3) := by decide +kernel
theorem d_M_drop_43 : decode b_M_drop 43 = .ok (.return_, 1) := by decide +kernel
theorem d_M_firm_0 : decode b_M_firm 0 = .ok (.iconst 1, 1) := by decide +kernel
theorem d_M_firm_1 : decode b_M_firm 1 = .ok (.istore_n 1, 1) := by decide +kernel
theorem d_M_firm_2 : decode b_M_firm 2 = .ok (.iload_n 1, 1) := by decide +kernel
theorem d_M_firm_3 : decode b_M_firm 3 = .ok (.aload_n 0, 1) := by decide +kernel
theorem d_M_firm_4 : decode b_M_firm 4 = .ok (.getfield 97, 3) := by decide +kernel
theorem d_M_firm_7 : decode b_M_firm 7 = .ok (.if_icmp .gt 41, 3) := by decide +kernel
theorem d_M_firm_10 : decode b_M_firm 10 = .ok (.aload_n 0, 1) := by decide +kernel
theorem d_M_firm_11 : decode b_M_firm 11 = .ok (.getfield 7, 3) := by decide +kernel
theorem d_M_firm_14 : decode b_M_firm 14 = .ok (.iload_n 1, 1) := by decide +kernel
theorem d_M_firm_15 : decode b_M_firm 15 = .ok (.iaload, 1) := by decide +kernel
theorem d_M_firm_16 : decode b_M_firm 16 = .ok (.iconst 3, 1) := by decide +kernel
theorem d_M_firm_17 : decode b_M_firm 17 = .ok (.if_icmp .ne 25, 3) := by decide +kernel
theorem d_M_firm_20 : decode b_M_firm 20 = .ok (.aload_n 0, 1) := by decide +kernel
theorem d_M_firm_21 : decode b_M_firm 21 = .ok (.getfield 61, 3) := by decide +kernel
theorem d_M_firm_24 : decode b_M_firm 24 = .ok (.aload_n 0, 1) := by decide +kernel
theorem d_M_firm_25 : decode b_M_firm 25 = .ok (.getfield 13, 3) := by decide +kernel
theorem d_M_firm_28 : decode b_M_firm 28 = .ok (.iload_n 1, 1) := by decide +kernel
theorem d_M_firm_29 : decode b_M_firm 29 = .ok (.iaload, 1) := by decide +kernel
theorem d_M_firm_30 : decode b_M_firm 30 = .ok (.iaload, 1) := by decide +kernel
theorem d_M_firm_31 : decode b_M_firm 31 = .ok (.iconst 3, 1) := by decide +kernel
theorem d_M_firm_32 : decode b_M_firm 32 = .ok (.if_icmp .ne 10, 3) := by decide +kernel
theorem d_M_firm_35 : decode b_M_firm 35 = .ok (.aload_n 0, 1) := by decide +kernel
theorem d_M_firm_36 : decode b_M_firm 36 = .ok (.getfield 13, 3) := by decide +kernel
theorem d_M_firm_39 : decode b_M_firm 39 = .ok (.iload_n 1, 1) := by decide +kernel
theorem d_M_firm_40 : decode b_M_firm 40 = .ok (.iaload, 1) := by decide +kernel
theorem d_M_firm_41 : decode b_M_firm 41 = .ok (.ireturn, 1) := by decide +kernel
theorem d_M_firm_42 : decode b_M_firm 42 = .ok (.iinc 1 1, 3) := by decide +kernel
theorem d_M_firm_45 : decode b_M_firm 45 = .ok (.goto (-43), 3) := by decide +kernel
theorem d_M_firm_48 : decode b_M_firm 48 = .ok (.iconst 0, 1) := by decide +kernel
theorem d_M_firm_49 : decode b_M_firm 49 = .ok (.ireturn, 1) := by decide +kernel
theorem d_M_firstFit_0 : decode b_M_firstFit 0 = .ok (.iconst 0, 1) := by decide +kernel
theorem d_M_firstFit_1 : decode b_M_firstFit 1 = .ok (.istore_n 1, 1) := by decide +kernel
theorem d_M_firstFit_2 : decode b_M_firstFit 2 = .ok (.iconst 1, 1) := by decide +kernel
theorem d_M_firstFit_3 : decode b_M_firstFit 3 = .ok (.istore_n 2, 1) := by decide +kernel
theorem d_M_firstFit_4 : decode b_M_firstFit 4 = .ok (.iload_n 2, 1) := by decide +kernel
theorem d_M_firstFit_5 : decode b_M_firstFit 5 = .ok (.aload_n 0, 1) := by decide +kernel
theorem d_M_firstFit_6 : decode b_M_firstFit 6 = .ok (.getfield 138, 3) := by decide +kernel
theorem d_M_firstFit_9 : decode b_M_firstFit 9 = .ok (.if_icmp .gt 48, 3) := by decide +kernel
theorem d_M_firstFit_12 : decode b_M_firstFit 12 = .ok (.aload_n 0, 1) := by decide +kernel
theorem d_M_firstFit_13 : decode b_M_firstFit 13 = .ok (.getfield 61, 3) := by decide +kernel
theorem d_M_firstFit_16 : decode b_M_firstFit 16 = .ok (.iload_n 2, 1) := by decide +kernel
theorem d_M_firstFit_17 : decode b_M_firstFit 17 = .ok (.iaload, 1) := by decide +kernel
theorem d_M_firstFit_18 : decode b_M_firstFit 18 = .ok (.iconst 2, 1) := by decide +kernel
theorem d_M_firstFit_19 : decode b_M_firstFit 19 = .ok (.if_icmp .ne 32, 3) := by decide +kernel
theorem d_M_firstFit_22 : decode b_M_firstFit 22 = .ok (.iload_n 1, 1) := by decide +kernel
theorem d_M_firstFit_23 : decode b_M_firstFit 23 = .ok (.ifCond .eq 18, 3) := by decide +kernel
theorem d_M_firstFit_26 : decode b_M_firstFit 26 = .ok (.aload_n 0, 1) := by decide +kernel
theorem d_M_firstFit_27 : decode b_M_firstFit 27 = .ok (.getfield 79, 3) := by decide +kernel
theorem d_M_firstFit_30 : decode b_M_firstFit 30 = .ok (.iload_n 2, 1) := by decide +kernel
theorem d_M_firstFit_31 : decode b_M_firstFit 31 = .ok (.iaload, 1) := by decide +kernel
theorem d_M_firstFit_32 : decode b_M_firstFit 32 = .ok (.aload_n 0, 1) := by decide +kernel
theorem d_M_firstFit_33 : decode b_M_firstFit 33 = .ok (.getfield 79, 3) := by decide +kernel
theorem d_M_firstFit_36 : decode b_M_firstFit 36 = .ok (.iload_n 1, 1) := by decide +kernel
theorem d_M_firstFit_37 : decode b_M_firstFit 37 = .ok (.iaload, 1) := by decide +kernel
theorem d_M_firstFit_38 : decode b_M_firstFit 38 = .ok (.if_icmp .ge 13, 3) := by decide +kernel
theorem d_M_firstFit_41 : decode b_M_firstFit 41 = .ok (.aload_n 0, 1) := by decide +kernel
theorem d_M_firstFit_42 : decode b_M_firstFit 42 = .ok (.iload_n 2, 1) := by decide +kernel
theorem d_M_firstFit_43 : decode b_M_firstFit 43 = .ok (.invokevirtual 159, 3) := by decide +kernel
theorem d_M_firstFit_46 : decode b_M_firstFit 46 = .ok (.ifCond .eq 5, 3) := by decide +kernel
theorem d_M_firstFit_49 : decode b_M_firstFit 49 = .ok (.iload_n 2, 1) := by decide +kernel
theorem d_M_firstFit_50 : decode b_M_firstFit 50 = .ok (.istore_n 1, 1) := by decide +kernel
theorem d_M_firstFit_51 : decode b_M_firstFit 51 = .ok (.iinc 2 1, 3) := by decide +kernel
theorem d_M_firstFit_54 : decode b_M_firstFit 54 = .ok (.goto (-50), 3) := by decide +kernel
theorem d_M_firstFit_57 : decode b_M_firstFit 57 = .ok (.iload_n 1, 1) := by decide +kernel
theorem d_M_firstFit_58 : decode b_M_firstFit 58 = .ok (.ireturn, 1) := by decide +kernel
theorem d_M_settle_0 : decode b_M_settle 0 = .ok (.iconst 1, 1) := by decide +kernel
theorem d_M_settle_1 : decode b_M_settle 1 = .ok (.istore_n 1, 1) := by decide +kernel
theorem d_M_settle_2 : decode b_M_settle 2 = .ok (.iconst 0, 1) := by decide +kernel
theorem d_M_settle_3 : decode b_M_settle 3 = .ok (.istore_n 2, 1) := by decide +kernel
theorem d_M_settle_4 : decode b_M_settle 4 = .ok (.iload_n 2, 1) := by decide +kernel
theorem d_M_settle_5 : decode b_M_settle 5 = .ok (.sipush 1000, 3) := by decide +kernel
theorem d_M_settle_8 : decode b_M_settle 8 = .ok (.if_icmp .ge 72, 3) := by decide +kernel
theorem d_M_settle_11 : decode b_M_settle 11 = .ok (.iload_n 1, 1) := by decide +kernel
theorem d_M_settle_12 : decode b_M_settle 12 = .ok (.ifCond .eq 68, 3) := by decide +kernel
theorem d_M_settle_15 : decode b_M_settle 15 = .ok (.aload_n 0, 1) := by decide +kernel
theorem d_M_settle_16 : decode b_M_settle 16 = .ok (.invokevirtual 162, 3) := by decide +kernel
theorem d_M_settle_19 : decode b_M_settle 19 = .ok (.istore_n 3, 1) := by decide +kernel
theorem d_M_settle_20 : decode b_M_settle 20 = .ok (.iload_n 3, 1) := by decide +kernel
theorem d_M_settle_21 : decode b_M_settle 21 = .ok (.ifCond .le 7, 3) := by decide +kernel
theorem d_M_settle_24 : decode b_M_settle 24 = .ok (.iconst 0, 1) := by decide +kernel
theorem d_M_settle_25 : decode b_M_settle 25 = .ok (.goto 7, 3) := by decide +kernel
theorem d_M_settle_28 : decode b_M_settle 28 = .ok (.aload_n 0, 1) := by decide +kernel
theorem d_M_settle_29 : decode b_M_settle 29 = .ok (.invokevirtual 166, 3) := by decide +kernel
theorem d_M_settle_32 : decode b_M_settle 32 = .ok (.istore 4, 2) := by decide +kernel
theorem d_M_settle_34 : decode b_M_settle 34 = .ok (.iload_n 3, 1) := by decide +kernel
theorem d_M_settle_35 : decode b_M_settle 35 = .ok (.ifCond .le 15, 3) := by decide +kernel
theorem d_M_settle_38 : decode b_M_settle 38 = .ok (.aload_n 0, 1) := by decide +kernel
theorem d_M_settle_39 : decode b_M_settle 39 = .ok (.getfield 61, 3) := by decide +kernel
theorem d_M_settle_42 : decode b_M_settle 42 = .ok (.iload_n 3, 1) := by decide +kernel
theorem d_M_settle_43 : decode b_M_settle 43 = .ok (.iconst 4, 1) := by decide +kernel
theorem d_M_settle_44 : decode b_M_settle 44 = .ok (.iastore, 1) := by decide +kernel
theorem d_M_settle_45 : decode b_M_settle 45 = .ok (.aload_n 0, 1) := by decide +kernel
theorem d_M_settle_46 : decode b_M_settle 46 = .ok (.iload_n 3, 1) := by decide +kernel
theorem d_M_settle_47 : decode b_M_settle 47 = .ok (.invokevirtual 156, 3) := by decide +kernel
theorem d_M_settle_50 : decode b_M_settle 50 = .ok (.iload 4, 2) := by decide +kernel
theorem d_M_settle_52 : decode b_M_settle 52 = .ok (.ifCond .le 9, 3) := by decide +kernel
theorem d_M_settle_55 : decode b_M_settle 55 = .ok (.aload_n 0, 1) := by decide +kernel
theorem d_M_settle_56 : decode b_M_settle 56 = .ok (.iload 4, 2) := by decide +kernel
theorem d_M_settle_58 : decode b_M_settle 58 = .ok (.invokevirtual 169, 3) := by decide +kernel
theorem d_M_settle_61 : decode b_M_settle 61 = .ok (.iload_n 3, 1) := by decide +kernel
theorem d_M_settle_62 : decode b_M_settle 62 = .ok (.iload 4, 2) := by decide +kernel
theorem d_M_settle_64 : decode b_M_settle 64 = .ok (.iadd, 1) := by decide +kernel
theorem d_M_settle_65 : decode b_M_settle 65 = .ok (.ifCond .le 7, 3) := by decide +kernel
theorem d_M_settle_68 : decode b_M_settle 68 = .ok (.iconst 1, 1) := by decide +kernel
theorem d_M_settle_69 : decode b_M_settle 69 = .ok (.goto 4, 3) := by decide +kernel
theorem d_M_settle_72 : decode b_M_settle 72 = .ok (.iconst 0, 1) := by decide +kernel
theorem d_M_settle_73 : decode b_M_settle 73 = .ok (.istore_n 1, 1) := by decide +kernel
theorem d_M_settle_74 : decode b_M_settle 74 = .ok (.iinc 2 1, 3) := by decide +kernel
theorem d_M_settle_77 : decode b_M_settle 77 = .ok (.goto (-73), 3) := by decide +kernel
theorem d_M_settle_80 : decode b_M_settle 80 = .ok (.return_, 1) := by decide +kernel
theorem d_M_isIn_0 : decode b_M_isIn 0 = .ok (.aload_n 0, 1) := by decide +kernel
theorem d_M_isIn_1 : decode b_M_isIn 1 = .ok (.getfield 172, 3) := by decide +kernel
theorem d_M_isIn_4 : decode b_M_isIn 4 = .ok (.ifCond .ne 30, 3) := by decide +kernel
theorem d_M_isIn_7 : decode b_M_isIn 7 = .ok (.iload_n 1, 1) := by decide +kernel
theorem d_M_isIn_8 : decode b_M_isIn 8 = .ok (.iconst 1, 1) := by decide +kernel
theorem d_M_isIn_9 : decode b_M_isIn 9 = .ok (.if_icmp .lt 25, 3) := by decide +kernel
theorem d_M_isIn_12 : decode b_M_isIn 12 = .ok (.iload_n 1, 1) := by decide +kernel
theorem d_M_isIn_13 : decode b_M_isIn 13 = .ok (.aload_n 0, 1) := by decide +kernel
theorem d_M_isIn_14 : decode b_M_isIn 14 = .ok (.getfield 138, 3) := by decide +kernel
theorem d_M_isIn_17 : decode b_M_isIn 17 = .ok (.if_icmp .gt 17, 3) := by decide +kernel
theorem d_M_isIn_20 : decode b_M_isIn 20 = .ok (.aload_n 0, 1) := by decide +kernel
theorem d_M_isIn_21 : decode b_M_isIn 21 = .ok (.getfield 61, 3) := by decide +kernel
theorem d_M_isIn_24 : decode b_M_isIn 24 = .ok (.iload_n 1, 1) := by decide +kernel
theorem d_M_isIn_25 : decode b_M_isIn 25 = .ok (.iaload, 1) := by decide +kernel
theorem d_M_isIn_26 : decode b_M_isIn 26 = .ok (.iload_n 2, 1) := by decide +kernel
theorem d_M_isIn_27 : decode b_M_isIn 27 = .ok (.if_icmp .ne 7, 3) := by decide +kernel
theorem d_M_isIn_30 : decode b_M_isIn 30 = .ok (.iconst 1, 1) := by decide +kernel
theorem d_M_isIn_31 : decode b_M_isIn 31 = .ok (.goto 4, 3) := by decide +kernel
theorem d_M_isIn_34 : decode b_M_isIn 34 = .ok (.iconst 0, 1) := by decide +kernel
theorem d_M_isIn_35 : decode b_M_isIn 35 = .ok (.ireturn, 1) := by decide +kernel
theorem d_M_begin_0 : decode b_M_begin 0 = .ok (.iconst 0, 1) := by decide +kernel
theorem d_M_begin_1 : decode b_M_begin 1 = .ok (.istore_n 1, 1) := by decide +kernel
theorem d_M_begin_2 : decode b_M_begin 2 = .ok (.iconst 1, 1) := by decide +kernel
theorem d_M_begin_3 : decode b_M_begin 3 = .ok (.istore_n 2, 1) := by decide +kernel
theorem d_M_begin_4 : decode b_M_begin 4 = .ok (.iload_n 2, 1) := by decide +kernel
theorem d_M_begin_5 : decode b_M_begin 5 = .ok (.aload_n 0, 1) := by decide +kernel
theorem d_M_begin_6 : decode b_M_begin 6 = .ok (.getfield 138, 3) := by decide +kernel
theorem d_M_begin_9 : decode b_M_begin 9 = .ok (.if_icmp .gt 25, 3) := by decide +kernel
theorem d_M_begin_12 : decode b_M_begin 12 = .ok (.iload_n 1, 1) := by decide +kernel
theorem d_M_begin_13 : decode b_M_begin 13 = .ok (.aload_n 0, 1) := by decide +kernel
theorem d_M_begin_14 : decode b_M_begin 14 = .ok (.iload_n 2, 1) := by decide +kernel
theorem d_M_begin_15 : decode b_M_begin 15 = .ok (.invokevirtual 176, 3) := by decide +kernel
theorem d_M_begin_18 : decode b_M_begin 18 = .ok (.ifCond .eq 7, 3) := by decide +kernel
theorem d_M_begin_21 : decode b_M_begin 21 = .ok (.iconst 1, 1) := by decide +kernel
theorem d_M_begin_22 : decode b_M_begin 22 = .ok (.goto 4, 3) := by decide +kernel
theorem d_M_begin_25 : decode b_M_begin 25 = .ok (.iconst 0, 1) := by decide +kernel
theorem d_M_begin_26 : decode b_M_begin 26 = .ok (.iadd, 1) := by decide +kernel
theorem d_M_begin_27 : decode b_M_begin 27 = .ok (.istore_n 1, 1) := by decide +kernel
theorem d_M_begin_28 : decode b_M_begin 28 = .ok (.iinc 2 1, 3) := by decide +kernel
theorem d_M_begin_31 : decode b_M_begin 31 = .ok (.goto (-27), 3) := by decide +kernel
theorem d_M_begin_34 : decode b_M_begin 34 = .ok (.aload_n 0, 1) := by decide +kernel
theorem d_M_begin_35 : decode b_M_begin 35 = .ok (.getfield 172, 3) := by decide +kernel
theorem d_M_begin_38 : decode b_M_begin 38 = .ok (.ifCond .ne 17, 3) := by decide +kernel
theorem d_M_begin_41 : decode b_M_begin 41 = .ok (.iload_n 1, 1) := by decide +kernel
theorem d_M_begin_42 : decode b_M_begin 42 = .ok (.iconst 4, 1) := by decide +kernel
theorem d_M_begin_43 : decode b_M_begin 43 = .ok (.if_icmp .ge 12, 3) := by decide +kernel
theorem d_M_begin_46 : decode b_M_begin 46 = .ok (.aload_n 0, 1) := by decide +kernel
theorem d_M_begin_47 : decode b_M_begin 47 = .ok (.getfield 138, 3) := by decide +kernel
theorem d_M_begin_50 : decode b_M_begin 50 = .ok (.bipush 60, 2) := by decide +kernel
theorem d_M_begin_52 : decode b_M_begin 52 = .ok (.if_icmp .lt 5, 3) := by decide +kernel
theorem d_M_begin_55 : decode b_M_begin 55 = .ok (.iconst (-1), 1) := by decide +kernel
theorem d_M_begin_56 : decode b_M_begin 56 = .ok (.ireturn, 1) := by decide +kernel
theorem d_M_begin_57 : decode b_M_begin 57 = .ok (.aload_n 0, 1) := by decide +kernel
theorem d_M_begin_58 : decode b_M_begin 58 = .ok (.dup, 1) := by decide +kernel
theorem d_M_begin_59 : decode b_M_begin 59 = .ok (.getfield 138, 3) := by decide +kernel
theorem d_M_begin_62 : decode b_M_begin 62 = .ok (.iconst 1, 1) := by decide +kernel
theorem d_M_begin_63 : decode b_M_begin 63 = .ok (.iadd, 1) := by decide +kernel
theorem d_M_begin_64 : decode b_M_begin 64 = .ok (.putfield 138, 3) := by decide +kernel
theorem d_M_begin_67 : decode b_M_begin 67 = .ok (.aload_n 0, 1) := by decide +kernel
theorem d_M_begin_68 : decode b_M_begin 68 = .ok (.getfield 61, 3) := by decide +kernel
theorem d_M_begin_71 : decode b_M_begin 71 = .ok (.aload_n 0, 1) := by decide +kernel
theorem d_M_begin_72 : decode b_M_begin 72 = .ok (.getfield 138, 3) := by decide +kernel
theorem d_M_begin_75 : decode b_M_begin 75 = .ok (.iconst 1, 1) := by decide +kernel
theorem d_M_begin_76 : decode b_M_begin 76 = .ok (.iastore, 1) := by decide +kernel
theorem d_M_begin_77 : decode b_M_begin 77 = .ok (.aload_n 0, 1) := by decide +kernel
theorem d_M_begin_78 : decode b_M_begin 78 = .ok (.getfield 64, 3) := by decide +kernel
theorem d_M_begin_81 : decode b_M_begin 81 = .ok (.aload_n 0, 1) := by decide +kernel
theorem d_M_begin_82 : decode b_M_begin 82 = .ok (.getfield 138, 3) := by decide +kernel
theorem d_M_begin_85 : decode b_M_begin 85 = .ok (.iconst (-1), 1) := by decide +kernel
theorem d_M_begin_86 : decode b_M_begin 86 = .ok (.iastore, 1) := by decide +kernel
theorem d_M_begin_87 : decode b_M_begin 87 = .ok (.aload_n 0, 1) := by decide +kernel
theorem d_M_begin_88 : decode b_M_begin 88 = .ok (.getfield 138, 3) := by decide +kernel
theorem d_M_begin_91 : decode b_M_begin 91 = .ok (.ireturn, 1) := by decide +kernel
theorem d_M_request_0 : decode b_M_request 0 = .ok (.aload_n 0, 1) := by decide +kernel
theorem d_M_request_1 : decode b_M_request 1 = .ok (.iload_n 1, 1) := by decide +kernel
theorem d_M_request_2 : decode b_M_request 2 = .ok (.iconst 1, 1) := by decide +kernel
theorem d_M_request_3 : decode b_M_request 3 = .ok (.invokevirtual 179, 3) := by decide +kernel
theorem d_M_request_6 : decode b_M_request 6 = .ok (.ifCond .eq 13, 3) := by decide +kernel
theorem d_M_request_9 : decode b_M_request 9 = .ok (.iload_n 2, 1) := by decide +kernel
theorem d_M_request_10 : decode b_M_request 10 = .ok (.ifCond .lt 9, 3) := by decide +kernel
theorem d_M_request_13 : decode b_M_request 13 = .ok (.iload_n 2, 1) := by decide +kernel
theorem d_M_request_14 : decode b_M_request 14 = .ok (.bipush 99, 2) := by decide +kernel
theorem d_M_request_16 : decode b_M_request 16 = .ok (.if_icmp .le 5, 3) := by decide +kernel
theorem d_M_request_19 : decode b_M_request 19 = .ok (.iconst (-1), 1) := by decide +kernel
theorem d_M_request_20 : decode b_M_request 20 = .ok (.ireturn, 1) := by decide +kernel
theorem d_M_request_21 : decode b_M_request 21 = .ok (.aload_n 0, 1) := by decide +kernel
theorem d_M_request_22 : decode b_M_request 22 = .ok (.dup, 1) := by decide +kernel
theorem d_M_request_23 : decode b_M_request 23 = .ok (.getfield 104, 3) := by decide +kernel
theorem d_M_request_26 : decode b_M_request 26 = .ok (.iconst 1, 1) := by decide +kernel
theorem d_M_request_27 : decode b_M_request 27 = .ok (.iadd, 1) := by decide +kernel
theorem d_M_request_28 : decode b_M_request 28 = .ok (.putfield 104, 3) := by decide +kernel
theorem d_M_request_31 : decode b_M_request 31 = .ok (.aload_n 0, 1) := by decide +kernel
theorem d_M_request_32 : decode b_M_request 32 = .ok (.getfield 70, 3) := by decide +kernel
theorem d_M_request_35 : decode b_M_request 35 = .ok (.iload_n 1, 1) := by decide +kernel
theorem d_M_request_36 : decode b_M_request 36 = .ok (.iload_n 2, 1) := by decide +kernel
theorem d_M_request_37 : decode b_M_request 37 = .ok (.iastore, 1) := by decide +kernel
theorem d_M_request_38 : decode b_M_request 38 = .ok (.aload_n 0, 1) := by decide +kernel
theorem d_M_request_39 : decode b_M_request 39 = .ok (.getfield 73, 3) := by decide +kernel
theorem d_M_request_42 : decode b_M_request 42 = .ok (.iload_n 1, 1) := by decide +kernel
theorem d_M_request_43 : decode b_M_request 43 = .ok (.iload_n 3, 1) := by decide +kernel
theorem d_M_request_44 : decode b_M_request 44 = .ok (.iastore, 1) := by decide +kernel
theorem d_M_request_45 : decode b_M_request 45 = .ok (.aload_n 0, 1) := by decide +kernel
theorem d_M_request_46 : decode b_M_request 46 = .ok (.getfield 76, 3) := by decide +kernel
theorem d_M_request_49 : decode b_M_request 49 = .ok (.iload_n 1, 1) := by decide +kernel
theorem d_M_request_50 : decode b_M_request 50 = .ok (.iload 4, 2) := by decide +kernel
theorem d_M_request_52 : decode b_M_request 52 = .ok (.iastore, 1) := by decide +kernel
theorem d_M_request_53 : decode b_M_request 53 = .ok (.aload_n 0, 1) := by decide +kernel
theorem d_M_request_54 : decode b_M_request 54 = .ok (.getfield 79, 3) := by decide +kernel
theorem d_M_request_57 : decode b_M_request 57 = .ok (.iload_n 1, 1) := by decide +kernel
theorem d_M_request_58 : decode b_M_request 58 = .ok (.aload_n 0, 1) := by decide +kernel
theorem d_M_request_59 : decode b_M_request 59 = .ok (.getfield 104, 3) := by decide +kernel
theorem d_M_request_62 : decode b_M_request 62 = .ok (.iastore, 1) := by decide +kernel
theorem d_M_request_63 : decode b_M_request 63 = .ok (.aload_n 0, 1) := by decide +kernel
theorem d_M_request_64 : decode b_M_request 64 = .ok (.iload_n 1, 1) := by decide +kernel
theorem d_M_request_65 : decode b_M_request 65 = .ok (.invokevirtual 159, 3) := by decide +kernel
theorem d_M_request_68 : decode b_M_request 68 = .ok (.ifCond .eq 11, 3) := by decide +kernel
theorem d_M_request_71 : decode b_M_request 71 = .ok (.aload_n 0, 1) := by decide +kernel
theorem d_M_request_72 : decode b_M_request 72 = .ok (.iload_n 1, 1) := by decide +kernel
theorem d_M_request_73 : decode b_M_request 73 = .ok (.invokevirtual 169, 3) := by decide +kernel
theorem d_M_request_76 : decode b_M_request 76 = .ok (.goto 37, 3) := by decide +kernel
theorem d_M_request_79 : decode b_M_request 79 = .ok (.aload_n 0, 1) := by decide +kernel
theorem d_M_request_80 : decode b_M_request 80 = .ok (.getfield 61, 3) := by decide +kernel
theorem d_M_request_83 : decode b_M_request 83 = .ok (.iload_n 1, 1) := by decide +kernel
theorem d_M_request_84 : decode b_M_request 84 = .ok (.iconst 2, 1) := by decide +kernel
theorem d_M_request_85 : decode b_M_request 85 = .ok (.iastore, 1) := by decide +kernel
theorem d_M_request_86 : decode b_M_request 86 = .ok (.aload_n 0, 1) := by decide +kernel
theorem d_M_request_87 : decode b_M_request 87 = .ok (.getfield 64, 3) := by decide +kernel
theorem d_M_request_90 : decode b_M_request 90 = .ok (.iload_n 1, 1) := by decide +kernel
theorem d_M_request_91 : decode b_M_request 91 = .ok (.iconst 1, 1) := by decide +kernel
theorem d_M_request_92 : decode b_M_request 92 = .ok (.iastore, 1) := by decide +kernel
theorem d_M_request_93 : decode b_M_request 93 = .ok (.aload_n 0, 1) := by decide +kernel
theorem d_M_request_94 : decode b_M_request 94 = .ok (.iload_n 1, 1) := by decide +kernel
theorem d_M_request_95 : decode b_M_request 95 = .ok (.invokevirtual 182, 3) := by decide +kernel
theorem d_M_request_98 : decode b_M_request 98 = .ok (.ifCond .eq 15, 3) := by decide +kernel
theorem d_M_request_101 : decode b_M_request 101 = .ok (.aload_n 0, 1) := by decide +kernel
theorem d_M_request_102 : decode b_M_request 102 = .ok (.getfield 64, 3) := by decide +kernel
theorem d_M_request_105 : decode b_M_request 105 = .ok (.iload_n 1, 1) := by decide +kernel
theorem d_M_request_106 : decode b_M_request 106 = .ok (.iconst 2, 1) := by decide +kernel
theorem d_M_request_107 : decode b_M_request 107 = .ok (.iastore, 1) := by decide +kernel
theorem d_M_request_108 : decode b_M_request 108 = .ok (.aload_n 0, 1) := by decide +kernel
theorem d_M_request_109 : decode b_M_request 109 = .ok (.iload_n 1, 1) := by decide +kernel
theorem d_M_request_110 : decode b_M_request 110 = .ok (.invokevirtual 185, 3) := by decide +kernel
theorem d_M_request_113 : decode b_M_request 113 = .ok (.aload_n 0, 1) := by decide +kernel
theorem d_M_request_114 : decode b_M_request 114 = .ok (.getfield 64, 3) := by decide +kernel
theorem d_M_request_117 : decode b_M_request 117 = .ok (.iload_n 1, 1) := by decide +kernel
theorem d_M_request_118 : decode b_M_request 118 = .ok (.iaload, 1) := by decide +kernel
theorem d_M_request_119 : decode b_M_request 119 = .ok (.istore 5, 2) := by decide +kernel
theorem d_M_request_121 : decode b_M_request 121 = .ok (.aload_n 0, 1) := by decide +kernel
theorem d_M_request_122 : decode b_M_request 122 = .ok (.invokevirtual 188, 3) := by decide +kernel
theorem d_M_request_125 : decode b_M_request 125 = .ok (.iload 5, 2) := by decide +kernel
theorem d_M_request_127 : decode b_M_request 127 = .ok (.ireturn, 1) := by decide +kernel
theorem d_M_read_0 : decode b_M_read 0 = .ok (.aload_n 0, 1) := by decide +kernel
theorem d_M_read_1 : decode b_M_read 1 = .ok (.iload_n 1, 1) := by decide +kernel
theorem d_M_read_2 : decode b_M_read 2 = .ok (.iload_n 2, 1) := by decide +kernel
theorem d_M_read_3 : decode b_M_read 3 = .ok (.iconst 1, 1) := by decide +kernel
theorem d_M_read_4 : decode b_M_read 4 = .ok (.iconst 0, 1) := by decide +kernel
theorem d_M_read_5 : decode b_M_read 5 = .ok (.invokevirtual 191, 3) := by decide +kernel
theorem d_M_read_8 : decode b_M_read 8 = .ok (.ireturn, 1) := by decide +kernel
theorem d_M_write_0 : decode b_M_write 0 = .ok (.aload_n 0, 1) := by decide +kernel
theorem d_M_write_1 : decode b_M_write 1 = .ok (.iload_n 1, 1) := by decide +kernel
theorem d_M_write_2 : decode b_M_write 2 = .ok (.iload_n 2, 1) := by decide +kernel
theorem d_M_write_3 : decode b_M_write 3 = .ok (.iconst 2, 1) := by decide +kernel
theorem d_M_write_4 : decode b_M_write 4 = .ok (.iload_n 3, 1) := by decide +kernel
theorem d_M_write_5 : decode b_M_write 5 = .ok (.invokevirtual 191, 3) := by decide +kernel
theorem d_M_write_8 : decode b_M_write 8 = .ok (.ireturn, 1) := by decide +kernel
theorem d_M_commit_0 : decode b_M_commit 0 = .ok (.aload_n 0, 1) := by decide +kernel
theorem d_M_commit_1 : decode b_M_commit 1 = .ok (.iload_n 1, 1) := by decide +kernel
theorem d_M_commit_2 : decode b_M_commit 2 = .ok (.iconst 1, 1) := by decide +kernel
theorem d_M_commit_3 : decode b_M_commit 3 = .ok (.invokevirtual 179, 3) := by decide +kernel
theorem d_M_commit_6 : decode b_M_commit 6 = .ok (.ifCond .ne 5, 3) := by decide +kernel
theorem d_M_commit_9 : decode b_M_commit 9 = .ok (.iconst 0, 1) := by decide +kernel
theorem d_M_commit_10 : decode b_M_commit 10 = .ok (.ireturn, 1) := by decide +kernel
theorem d_M_commit_11 : decode b_M_commit 11 = .ok (.aload_n 0, 1) := by decide +kernel
theorem d_M_commit_12 : decode b_M_commit 12 = .ok (.iconst 3, 1) := by decide +kernel
theorem d_M_commit_13 : decode b_M_commit 13 = .ok (.iload_n 1, 1) := by decide +kernel
theorem d_M_commit_14 : decode b_M_commit 14 = .ok (.iconst 0, 1) := by decide +kernel
theorem d_M_commit_15 : decode b_M_commit 15 = .ok (.invokevirtual 124, 3) := by decide +kernel
theorem d_M_commit_18 : decode b_M_commit 18 = .ok (.pop, 1) := by decide +kernel
theorem d_M_commit_19 : decode b_M_commit 19 = .ok (.aload_n 0, 1) := by decide +kernel
theorem d_M_commit_20 : decode b_M_commit 20 = .ok (.getfield 61, 3) := by decide +kernel
theorem d_M_commit_23 : decode b_M_commit 23 = .ok (.iload_n 1, 1) := by decide +kernel
theorem d_M_commit_24 : decode b_M_commit 24 = .ok (.iconst 3, 1) := by decide +kernel
theorem d_M_commit_25 : decode b_M_commit 25 = .ok (.iastore, 1) := by decide +kernel
theorem d_M_commit_26 : decode b_M_commit 26 = .ok (.aload_n 0, 1) := by decide +kernel
theorem d_M_commit_27 : decode b_M_commit 27 = .ok (.invokevirtual 188, 3) := by decide +kernel
theorem d_M_commit_30 : decode b_M_commit 30 = .ok (.iconst 1, 1) := by decide +kernel
theorem d_M_commit_31 : decode b_M_commit 31 = .ok (.ireturn, 1) := by decide +kernel
theorem d_M_abort_0 : decode b_M_abort 0 = .ok (.aload_n 0, 1) := by decide +kernel
theorem d_M_abort_1 : decode b_M_abort 1 = .ok (.iload_n 1, 1) := by decide +kernel
theorem d_M_abort_2 : decode b_M_abort 2 = .ok (.iconst 1, 1) := by decide +kernel
theorem d_M_abort_3 : decode b_M_abort 3 = .ok (.invokevirtual 179, 3) := by decide +kernel
theorem d_M_abort_6 : decode b_M_abort 6 = .ok (.ifCond .ne 14, 3) := by decide +kernel
theorem d_M_abort_9 : decode b_M_abort 9 = .ok (.aload_n 0, 1) := by decide +kernel
theorem d_M_abort_10 : decode b_M_abort 10 = .ok (.iload_n 1, 1) := by decide +kernel
theorem d_M_abort_11 : decode b_M_abort 11 = .ok (.iconst 2, 1) := by decide +kernel
theorem d_M_abort_12 : decode b_M_abort 12 = .ok (.invokevirtual 179, 3) := by decide +kernel
theorem d_M_abort_15 : decode b_M_abort 15 = .ok (.ifCond .ne 5, 3) := by decide +kernel
theorem d_M_abort_18 : decode b_M_abort 18 = .ok (.iconst 0, 1) := by decide +kernel
theorem d_M_abort_19 : decode b_M_abort 19 = .ok (.ireturn, 1) := by decide +kernel
theorem d_M_abort_20 : decode b_M_abort 20 = .ok (.aload_n 0, 1) := by decide +kernel
theorem d_M_abort_21 : decode b_M_abort 21 = .ok (.iload_n 1, 1) := by decide +kernel
theorem d_M_abort_22 : decode b_M_abort 22 = .ok (.invokevirtual 185, 3) := by decide +kernel
theorem d_M_abort_25 : decode b_M_abort 25 = .ok (.aload_n 0, 1) := by decide +kernel
theorem d_M_abort_26 : decode b_M_abort 26 = .ok (.invokevirtual 188, 3) := by decide +kernel
theorem d_M_abort_29 : decode b_M_abort 29 = .ok (.iconst 1, 1) := by decide +kernel
theorem d_M_abort_30 : decode b_M_abort 30 = .ok (.ireturn, 1) := by decide +kernel
theorem d_M_force_0 : decode b_M_force 0 = .ok (.aload_n 0, 1) := by decide +kernel
theorem d_M_force_1 : decode b_M_force 1 = .ok (.getfield 172, 3) := by decide +kernel
theorem d_M_force_4 : decode b_M_force 4 = .ok (.ifCond .eq 5, 3) := by decide +kernel
theorem d_M_force_7 : decode b_M_force 7 = .ok (.iconst 0, 1) := by decide +kernel
theorem d_M_force_8 : decode b_M_force 8 = .ok (.ireturn, 1) := by decide +kernel
theorem d_M_force_9 : decode b_M_force 9 = .ok (.aload_n 0, 1) := by decide +kernel
theorem d_M_force_10 : decode b_M_force 10 = .ok (.aload_n 0, 1) := by decide +kernel
theorem d_M_force_11 : decode b_M_force 11 = .ok (.getfield 114, 3) := by decide +kernel
theorem d_M_force_14 : decode b_M_force 14 = .ok (.putfield 97, 3) := by decide +kernel
theorem d_M_force_17 : decode b_M_force 17 = .ok (.aload_n 0, 1) := by decide +kernel
theorem d_M_force_18 : decode b_M_force 18 = .ok (.invokevirtual 188, 3) := by decide +kernel
theorem d_M_force_21 : decode b_M_force 21 = .ok (.iconst 1, 1) := by decide +kernel
theorem d_M_force_22 : decode b_M_force 22 = .ok (.ireturn, 1) := by decide +kernel
theorem d_M_checkpoint_0 : decode b_M_checkpoint 0 = .ok (.aload_n 0, 1) := by decide +kernel
theorem d_M_checkpoint_1 : decode b_M_checkpoint 1 = .ok (.getfield 172, 3) := by decide +kernel
theorem d_M_checkpoint_4 : decode b_M_checkpoint 4 = .ok (.ifCond .ne 13, 3) := by decide +kernel
theorem d_M_checkpoint_7 : decode b_M_checkpoint 7 = .ok (.aload_n 0, 1) := by decide +kernel
theorem d_M_checkpoint_8 : decode b_M_checkpoint 8 = .ok (.iconst 4, 1) := by decide +kernel
theorem d_M_checkpoint_9 : decode b_M_checkpoint 9 = .ok (.invokevirtual 147, 3) := by decide +kernel
theorem d_M_checkpoint_12 : decode b_M_checkpoint 12 = .ok (.bipush 20, 2) := by decide +kernel
theorem d_M_checkpoint_14 : decode b_M_checkpoint 14 = .ok (.if_icmp .lt 5, 3) := by decide +kernel
theorem d_M_checkpoint_17 : decode b_M_checkpoint 17 = .ok (.iconst (-1), 1) := by decide +kernel
theorem d_M_checkpoint_18 : decode b_M_checkpoint 18 = .ok (.ireturn, 1) := by decide +kernel
theorem d_M_checkpoint_19 : decode b_M_checkpoint 19 = .ok (.aload_n 0, 1) := by decide +kernel
theorem d_M_checkpoint_20 : decode b_M_checkpoint 20 = .ok (.iconst 4, 1) := by decide +kernel
theorem d_M_checkpoint_21 : decode b_M_checkpoint 21 = .ok (.iconst 0, 1) := by decide +kernel
theorem d_M_checkpoint_22 : decode b_M_checkpoint 22 = .ok (.iconst 0, 1) := by decide +kernel
theorem d_M_checkpoint_23 : decode b_M_checkpoint 23 = .ok (.invokevirtual 124, 3) := by decide +kernel
theorem d_M_checkpoint_26 : decode b_M_checkpoint 26 = .ok (.istore_n 1, 1) := by decide +kernel
theorem d_M_checkpoint_27 : decode b_M_checkpoint 27 = .ok (.iconst 0, 1) := by decide +kernel
theorem d_M_checkpoint_28 : decode b_M_checkpoint 28 = .ok (.istore_n 2, 1) := by decide +kernel
theorem d_M_checkpoint_29 : decode b_M_checkpoint 29 = .ok (.iload_n 2, 1) := by decide +kernel
theorem d_M_checkpoint_30 : decode b_M_checkpoint 30 = .ok (.bipush 6, 2) := by decide +kernel
theorem d_M_checkpoint_32 : decode b_M_checkpoint 32 = .ok (.if_icmp .ge 39, 3) := by decide +kernel
theorem d_M_checkpoint_35 : decode b_M_checkpoint 35 = .ok (.aload_n 0, 1) := by decide +kernel
theorem d_M_checkpoint_36 : decode b_M_checkpoint 36 = .ok (.getfield 34, 3) := by decide +kernel
theorem d_M_checkpoint_39 : decode b_M_checkpoint 39 = .ok (.bipush 6, 2) := by decide +kernel
theorem d_M_checkpoint_41 : decode b_M_checkpoint 41 = .ok (.iload_n 1, 1) := by decide +kernel
theorem d_M_checkpoint_42 : decode b_M_checkpoint 42 = .ok (.imul, 1) := by decide +kernel
theorem d_M_checkpoint_43 : decode b_M_checkpoint 43 = .ok (.iload_n 2, 1) := by decide +kernel
theorem d_M_checkpoint_44 : decode b_M_checkpoint 44 = .ok (.iadd, 1) := by decide +kernel
theorem d_M_checkpoint_45 : decode b_M_checkpoint 45 = .ok (.aload_n 0, 1) := by decide +kernel
theorem d_M_checkpoint_46 : decode b_M_checkpoint 46 = .ok (.getfield 58, 3) := by decide +kernel
theorem d_M_checkpoint_49 : decode b_M_checkpoint 49 = .ok (.iload_n 2, 1) := by decide +kernel
theorem d_M_checkpoint_50 : decode b_M_checkpoint 50 = .ok (.iaload, 1) := by decide +kernel
theorem d_M_checkpoint_51 : decode b_M_checkpoint 51 = .ok (.ifCond .le 12, 3) := by decide +kernel
theorem d_M_checkpoint_54 : decode b_M_checkpoint 54 = .ok (.aload_n 0, 1) := by decide +kernel
theorem d_M_checkpoint_55 : decode b_M_checkpoint 55 = .ok (.getfield 55, 3) := by decide +kernel
theorem d_M_checkpoint_58 : decode b_M_checkpoint 58 = .ok (.iload_n 2, 1) := by decide +kernel
theorem d_M_checkpoint_59 : decode b_M_checkpoint 59 = .ok (.iaload, 1) := by decide +kernel
theorem d_M_checkpoint_60 : decode b_M_checkpoint 60 = .ok (.goto 4, 3) := by decide +kernel
theorem d_M_checkpoint_63 : decode b_M_checkpoint 63 = .ok (.iconst 0, 1) := by decide +kernel
theorem d_M_checkpoint_64 : decode b_M_checkpoint 64 = .ok (.iastore, 1) := by decide +kernel
theorem d_M_checkpoint_65 : decode b_M_checkpoint 65 = .ok (.iinc 2 1, 3) := by decide +kernel
theorem d_M_checkpoint_68 : decode b_M_checkpoint 68 = .ok (.goto (-39), 3) := by decide +kernel
theorem d_M_checkpoint_71 : decode b_M_checkpoint 71 = .ok (.aload_n 0, 1) := by decide +kernel
theorem d_M_checkpoint_72 : decode b_M_checkpoint 72 = .ok (.invokevirtual 188, 3) := by decide +kernel
theorem d_M_checkpoint_75 : decode b_M_checkpoint 75 = .ok (.iload_n 1, 1) := by decide +kernel
theorem d_M_checkpoint_76 : decode b_M_checkpoint 76 = .ok (.ireturn, 1) := by decide +kernel
theorem d_M_flush_0 : decode b_M_flush 0 = .ok (.aload_n 0, 1) := by decide +kernel
theorem d_M_flush_1 : decode b_M_flush 1 = .ok (.getfield 172, 3) := by decide +kernel
theorem d_M_flush_4 : decode b_M_flush 4 = .ok (.ifCond .ne 30, 3) := by decide +kernel
theorem d_M_flush_7 : decode b_M_flush 7 = .ok (.iload_n 1, 1) := by decide +kernel
theorem d_M_flush_8 : decode b_M_flush 8 = .ok (.ifCond .lt 26, 3) := by decide +kernel
theorem d_M_flush_11 : decode b_M_flush 11 = .ok (.iload_n 1, 1) := by decide +kernel
theorem d_M_flush_12 : decode b_M_flush 12 = .ok (.iconst 5, 1) := by decide +kernel
theorem d_M_flush_13 : decode b_M_flush 13 = .ok (.if_icmp .gt 21, 3) := by decide +kernel
theorem d_M_flush_16 : decode b_M_flush 16 = .ok (.aload_n 0, 1) := by decide +kernel
theorem d_M_flush_17 : decode b_M_flush 17 = .ok (.getfield 58, 3) := by decide +kernel
theorem d_M_flush_20 : decode b_M_flush 20 = .ok (.iload_n 1, 1) := by decide +kernel
theorem d_M_flush_21 : decode b_M_flush 21 = .ok (.iaload, 1) := by decide +kernel
theorem d_M_flush_22 : decode b_M_flush 22 = .ok (.ifCond .eq 12, 3) := by decide +kernel
theorem d_M_flush_25 : decode b_M_flush 25 = .ok (.aload_n 0, 1) := by decide +kernel
theorem d_M_flush_26 : decode b_M_flush 26 = .ok (.getfield 55, 3) := by decide +kernel
theorem d_M_flush_29 : decode b_M_flush 29 = .ok (.iload_n 1, 1) := by decide +kernel
theorem d_M_flush_30 : decode b_M_flush 30 = .ok (.iaload, 1) := by decide +kernel
theorem d_M_flush_31 : decode b_M_flush 31 = .ok (.ifCond .ne 5, 3) := by decide +kernel
theorem d_M_flush_34 : decode b_M_flush 34 = .ok (.iconst 0, 1) := by decide +kernel
theorem d_M_flush_35 : decode b_M_flush 35 = .ok (.ireturn, 1) := by decide +kernel
theorem d_M_flush_36 : decode b_M_flush 36 = .ok (.aload_n 0, 1) := by decide +kernel
theorem d_M_flush_37 : decode b_M_flush 37 = .ok (.iload_n 1, 1) := by decide +kernel
theorem d_M_flush_38 : decode b_M_flush 38 = .ok (.invokevirtual 107, 3) := by decide +kernel
theorem d_M_flush_41 : decode b_M_flush 41 = .ok (.aload_n 0, 1) := by decide +kernel
theorem d_M_flush_42 : decode b_M_flush 42 = .ok (.invokevirtual 188, 3) := by decide +kernel
theorem d_M_flush_45 : decode b_M_flush 45 = .ok (.iconst 1, 1) := by decide +kernel
theorem d_M_flush_46 : decode b_M_flush 46 = .ok (.ireturn, 1) := by decide +kernel
theorem d_M_crash_0 : decode b_M_crash 0 = .ok (.iload_n 1, 1) := by decide +kernel
theorem d_M_crash_1 : decode b_M_crash 1 = .ok (.ifCond .lt 12, 3) := by decide +kernel
theorem d_M_crash_4 : decode b_M_crash 4 = .ok (.aload_n 0, 1) := by decide +kernel
theorem d_M_crash_5 : decode b_M_crash 5 = .ok (.getfield 195, 3) := by decide +kernel
theorem d_M_crash_8 : decode b_M_crash 8 = .ok (.bipush 8, 2) := by decide +kernel
theorem d_M_crash_10 : decode b_M_crash 10 = .ok (.if_icmp .lt 5, 3) := by decide +kernel
theorem d_M_crash_13 : decode b_M_crash 13 = .ok (.iconst (-1), 1) := by decide +kernel
theorem d_M_crash_14 : decode b_M_crash 14 = .ok (.ireturn, 1) := by decide +kernel
theorem d_M_crash_15 : decode b_M_crash 15 = .ok (.aload_n 0, 1) := by decide +kernel
theorem d_M_crash_16 : decode b_M_crash 16 = .ok (.dup, 1) := by decide +kernel
theorem d_M_crash_17 : decode b_M_crash 17 = .ok (.getfield 195, 3) := by decide +kernel
theorem d_M_crash_20 : decode b_M_crash 20 = .ok (.iconst 1, 1) := by decide +kernel
theorem d_M_crash_21 : decode b_M_crash 21 = .ok (.iadd, 1) := by decide +kernel
theorem d_M_crash_22 : decode b_M_crash 22 = .ok (.putfield 195, 3) := by decide +kernel
theorem d_M_crash_25 : decode b_M_crash 25 = .ok (.aload_n 0, 1) := by decide +kernel
theorem d_M_crash_26 : decode b_M_crash 26 = .ok (.iload_n 1, 1) := by decide +kernel
theorem d_M_crash_27 : decode b_M_crash 27 = .ok (.aload_n 0, 1) := by decide +kernel
theorem d_M_crash_28 : decode b_M_crash 28 = .ok (.getfield 114, 3) := by decide +kernel
theorem d_M_crash_31 : decode b_M_crash 31 = .ok (.aload_n 0, 1) := by decide +kernel
theorem d_M_crash_32 : decode b_M_crash 32 = .ok (.getfield 97, 3) := by decide +kernel
theorem d_M_crash_35 : decode b_M_crash 35 = .ok (.isub, 1) := by decide +kernel
theorem d_M_crash_36 : decode b_M_crash 36 = .ok (.if_icmp .le 10, 3) := by decide +kernel
theorem d_M_crash_39 : decode b_M_crash 39 = .ok (.aload_n 0, 1) := by decide +kernel
theorem d_M_crash_40 : decode b_M_crash 40 = .ok (.getfield 114, 3) := by decide +kernel
theorem d_M_crash_43 : decode b_M_crash 43 = .ok (.goto 9, 3) := by decide +kernel
theorem d_M_crash_46 : decode b_M_crash 46 = .ok (.aload_n 0, 1) := by decide +kernel
theorem d_M_crash_47 : decode b_M_crash 47 = .ok (.getfield 97, 3) := by decide +kernel
theorem d_M_crash_50 : decode b_M_crash 50 = .ok (.iload_n 1, 1) := by decide +kernel
theorem d_M_crash_51 : decode b_M_crash 51 = .ok (.iadd, 1) := by decide +kernel
theorem d_M_crash_52 : decode b_M_crash 52 = .ok (.putfield 97, 3) := by decide +kernel
theorem d_M_crash_55 : decode b_M_crash 55 = .ok (.aload_n 0, 1) := by decide +kernel
theorem d_M_crash_56 : decode b_M_crash 56 = .ok (.aload_n 0, 1) := by decide +kernel
theorem d_M_crash_57 : decode b_M_crash 57 = .ok (.getfield 97, 3) := by decide +kernel
theorem d_M_crash_60 : decode b_M_crash 60 = .ok (.putfield 114, 3) := by decide +kernel
theorem d_M_crash_63 : decode b_M_crash 63 = .ok (.aload_n 0, 1) := by decide +kernel
theorem d_M_crash_64 : decode b_M_crash 64 = .ok (.iconst 1, 1) := by decide +kernel
theorem d_M_crash_65 : decode b_M_crash 65 = .ok (.putfield 172, 3) := by decide +kernel
theorem d_M_crash_68 : decode b_M_crash 68 = .ok (.aload_n 0, 1) := by decide +kernel
theorem d_M_crash_69 : decode b_M_crash 69 = .ok (.iconst 0, 1) := by decide +kernel
theorem d_M_crash_70 : decode b_M_crash 70 = .ok (.putfield 198, 3) := by decide +kernel
theorem d_M_crash_73 : decode b_M_crash 73 = .ok (.iconst 0, 1) := by decide +kernel
theorem d_M_crash_74 : decode b_M_crash 74 = .ok (.istore_n 2, 1) := by decide +kernel
theorem d_M_crash_75 : decode b_M_crash 75 = .ok (.iload_n 2, 1) := by decide +kernel
theorem d_M_crash_76 : decode b_M_crash 76 = .ok (.bipush 6, 2) := by decide +kernel
theorem d_M_crash_78 : decode b_M_crash 78 = .ok (.if_icmp .ge 23, 3) := by decide +kernel
theorem d_M_crash_81 : decode b_M_crash 81 = .ok (.aload_n 0, 1) := by decide +kernel
theorem d_M_crash_82 : decode b_M_crash 82 = .ok (.getfield 58, 3) := by decide +kernel
theorem d_M_crash_85 : decode b_M_crash 85 = .ok (.iload_n 2, 1) := by decide +kernel
theorem d_M_crash_86 : decode b_M_crash 86 = .ok (.iconst 0, 1) := by decide +kernel
theorem d_M_crash_87 : decode b_M_crash 87 = .ok (.iastore, 1) := by decide +kernel
theorem d_M_crash_88 : decode b_M_crash 88 = .ok (.aload_n 0, 1) := by decide +kernel
theorem d_M_crash_89 : decode b_M_crash 89 = .ok (.getfield 55, 3) := by decide +kernel
theorem d_M_crash_92 : decode b_M_crash 92 = .ok (.iload_n 2, 1) := by decide +kernel
theorem d_M_crash_93 : decode b_M_crash 93 = .ok (.iconst 0, 1) := by decide +kernel
theorem d_M_crash_94 : decode b_M_crash 94 = .ok (.iastore, 1) := by decide +kernel
theorem d_M_crash_95 : decode b_M_crash 95 = .ok (.iinc 2 1, 3) := by decide +kernel
theorem d_M_crash_98 : decode b_M_crash 98 = .ok (.goto (-23), 3) := by decide +kernel
theorem d_M_crash_101 : decode b_M_crash 101 = .ok (.iconst 1, 1) := by decide +kernel
theorem d_M_crash_102 : decode b_M_crash 102 = .ok (.istore_n 2, 1) := by decide +kernel
theorem d_M_crash_103 : decode b_M_crash 103 = .ok (.iload_n 2, 1) := by decide +kernel
theorem d_M_crash_104 : decode b_M_crash 104 = .ok (.aload_n 0, 1) := by decide +kernel
theorem d_M_crash_105 : decode b_M_crash 105 = .ok (.getfield 138, 3) := by decide +kernel
theorem d_M_crash_108 : decode b_M_crash 108 = .ok (.if_icmp .gt 30, 3) := by decide +kernel
theorem d_M_crash_111 : decode b_M_crash 111 = .ok (.aload_n 0, 1) := by decide +kernel
theorem d_M_crash_112 : decode b_M_crash 112 = .ok (.iload_n 2, 1) := by decide +kernel
theorem d_M_crash_113 : decode b_M_crash 113 = .ok (.invokevirtual 176, 3) := by decide +kernel
theorem d_M_crash_116 : decode b_M_crash 116 = .ok (.ifCond .eq 16, 3) := by decide +kernel
theorem d_M_crash_119 : decode b_M_crash 119 = .ok (.aload_n 0, 1) := by decide +kernel
theorem d_M_crash_120 : decode b_M_crash 120 = .ok (.getfield 61, 3) := by decide +kernel
theorem d_M_crash_123 : decode b_M_crash 123 = .ok (.iload_n 2, 1) := by decide +kernel
theorem d_M_crash_124 : decode b_M_crash 124 = .ok (.bipush 6, 2) := by decide +kernel
theorem d_M_crash_126 : decode b_M_crash 126 = .ok (.iastore, 1) := by decide +kernel
theorem d_M_crash_127 : decode b_M_crash 127 = .ok (.aload_n 0, 1) := by decide +kernel
theorem d_M_crash_128 : decode b_M_crash 128 = .ok (.iload_n 2, 1) := by decide +kernel
theorem d_M_crash_129 : decode b_M_crash 129 = .ok (.invokevirtual 156, 3) := by decide +kernel
theorem d_M_crash_132 : decode b_M_crash 132 = .ok (.iinc 2 1, 3) := by decide +kernel
theorem d_M_crash_135 : decode b_M_crash 135 = .ok (.goto (-32), 3) := by decide +kernel
theorem d_M_crash_138 : decode b_M_crash 138 = .ok (.aload_n 0, 1) := by decide +kernel
theorem d_M_crash_139 : decode b_M_crash 139 = .ok (.getfield 114, 3) := by decide +kernel
theorem d_M_crash_142 : decode b_M_crash 142 = .ok (.ireturn, 1) := by decide +kernel
theorem d_M_analyse_0 : decode b_M_analyse 0 = .ok (.iconst 0, 1) := by decide +kernel
theorem d_M_analyse_1 : decode b_M_analyse 1 = .ok (.istore_n 1, 1) := by decide +kernel
theorem d_M_analyse_2 : decode b_M_analyse 2 = .ok (.iconst 1, 1) := by decide +kernel
theorem d_M_analyse_3 : decode b_M_analyse 3 = .ok (.istore_n 2, 1) := by decide +kernel
theorem d_M_analyse_4 : decode b_M_analyse 4 = .ok (.iload_n 2, 1) := by decide +kernel
theorem d_M_analyse_5 : decode b_M_analyse 5 = .ok (.aload_n 0, 1) := by decide +kernel
theorem d_M_analyse_6 : decode b_M_analyse 6 = .ok (.getfield 114, 3) := by decide +kernel
theorem d_M_analyse_9 : decode b_M_analyse 9 = .ok (.if_icmp .gt 25, 3) := by decide +kernel
theorem d_M_analyse_12 : decode b_M_analyse 12 = .ok (.aload_n 0, 1) := by decide +kernel
theorem d_M_analyse_13 : decode b_M_analyse 13 = .ok (.getfield 7, 3) := by decide +kernel
theorem d_M_analyse_16 : decode b_M_analyse 16 = .ok (.iload_n 2, 1) := by decide +kernel
theorem d_M_analyse_17 : decode b_M_analyse 17 = .ok (.iaload, 1) := by decide +kernel
theorem d_M_analyse_18 : decode b_M_analyse 18 = .ok (.iconst 4, 1) := by decide +kernel
theorem d_M_analyse_19 : decode b_M_analyse 19 = .ok (.if_icmp .ne 7, 3) := by decide +kernel
theorem d_M_analyse_22 : decode b_M_analyse 22 = .ok (.iload_n 2, 1) := by decide +kernel
theorem d_M_analyse_23 : decode b_M_analyse 23 = .ok (.goto 4, 3) := by decide +kernel
theorem d_M_analyse_26 : decode b_M_analyse 26 = .ok (.iload_n 1, 1) := by decide +kernel
theorem d_M_analyse_27 : decode b_M_analyse 27 = .ok (.istore_n 1, 1) := by decide +kernel
theorem d_M_analyse_28 : decode b_M_analyse 28 = .ok (.iinc 2 1, 3) := by decide +kernel
theorem d_M_analyse_31 : decode b_M_analyse 31 = .ok (.goto (-27), 3) := by decide +kernel
theorem d_M_analyse_34 : decode b_M_analyse 34 = .ok (.aload_n 0, 1) := by decide +kernel
theorem d_M_analyse_35 : decode b_M_analyse 35 = .ok (.aload_n 0, 1) := by decide +kernel
theorem d_M_analyse_36 : decode b_M_analyse 36 = .ok (.getfield 114, 3) := by decide +kernel
theorem d_M_analyse_39 : decode b_M_analyse 39 = .ok (.iconst 1, 1) := by decide +kernel
theorem d_M_analyse_40 : decode b_M_analyse 40 = .ok (.iadd, 1) := by decide +kernel
theorem d_M_analyse_41 : decode b_M_analyse 41 = .ok (.putfield 201, 3) := by decide +kernel
theorem d_M_analyse_44 : decode b_M_analyse 44 = .ok (.iconst 0, 1) := by decide +kernel
theorem d_M_analyse_45 : decode b_M_analyse 45 = .ok (.istore_n 2, 1) := by decide +kernel
theorem d_M_analyse_46 : decode b_M_analyse 46 = .ok (.iload_n 2, 1) := by decide +kernel
theorem d_M_analyse_47 : decode b_M_analyse 47 = .ok (.bipush 6, 2) := by decide +kernel
theorem d_M_analyse_49 : decode b_M_analyse 49 = .ok (.if_icmp .ge 145, 3) := by decide +kernel
theorem d_M_analyse_52 : decode b_M_analyse 52 = .ok (.aload_n 0, 1) := by decide +kernel
theorem d_M_analyse_53 : decode b_M_analyse 53 = .ok (.getfield 90, 3) := by decide +kernel
theorem d_M_analyse_56 : decode b_M_analyse 56 = .ok (.iload_n 2, 1) := by decide +kernel
theorem d_M_analyse_57 : decode b_M_analyse 57 = .ok (.iload_n 1, 1) := by decide +kernel
theorem d_M_analyse_58 : decode b_M_analyse 58 = .ok (.ifCond .le 17, 3) := by decide +kernel
theorem d_M_analyse_61 : decode b_M_analyse 61 = .ok (.aload_n 0, 1) := by decide +kernel
theorem d_M_analyse_62 : decode b_M_analyse 62 = .ok (.getfield 34, 3) := by decide +kernel
theorem d_M_analyse_65 : decode b_M_analyse 65 = .ok (.bipush 6, 2) := by decide +kernel
theorem d_M_analyse_67 : decode b_M_analyse 67 = .ok (.iload_n 1, 1) := by decide +kernel
theorem d_M_analyse_68 : decode b_M_analyse 68 = .ok (.imul, 1) := by decide +kernel
theorem d_M_analyse_69 : decode b_M_analyse 69 = .ok (.iload_n 2, 1) := by decide +kernel
theorem d_M_analyse_70 : decode b_M_analyse 70 = .ok (.iadd, 1) := by decide +kernel
theorem d_M_analyse_71 : decode b_M_analyse 71 = .ok (.iaload, 1) := by decide +kernel
theorem d_M_analyse_72 : decode b_M_analyse 72 = .ok (.goto 4, 3) := by decide +kernel
theorem d_M_analyse_75 : decode b_M_analyse 75 = .ok (.iconst 0, 1) := by decide +kernel
theorem d_M_analyse_76 : decode b_M_analyse 76 = .ok (.iastore, 1) := by decide +kernel
theorem d_M_analyse_77 : decode b_M_analyse 77 = .ok (.aload_n 0, 1) := by decide +kernel
theorem d_M_analyse_78 : decode b_M_analyse 78 = .ok (.getfield 114, 3) := by decide +kernel
theorem d_M_analyse_81 : decode b_M_analyse 81 = .ok (.istore_n 3, 1) := by decide +kernel
theorem d_M_analyse_82 : decode b_M_analyse 82 = .ok (.iload_n 3, 1) := by decide +kernel
theorem d_M_analyse_83 : decode b_M_analyse 83 = .ok (.iload_n 1, 1) := by decide +kernel
theorem d_M_analyse_84 : decode b_M_analyse 84 = .ok (.if_icmp .le 65, 3) := by decide +kernel
theorem d_M_analyse_87 : decode b_M_analyse 87 = .ok (.iload_n 1, 1) := by decide +kernel
theorem d_M_analyse_88 : decode b_M_analyse 88 = .ok (.ifCond .eq 17, 3) := by decide +kernel
theorem d_M_analyse_91 : decode b_M_analyse 91 = .ok (.aload_n 0, 1) := by decide +kernel
theorem d_M_analyse_92 : decode b_M_analyse 92 = .ok (.getfield 34, 3) := by decide +kernel
theorem d_M_analyse_95 : decode b_M_analyse 95 = .ok (.bipush 6, 2) := by decide +kernel
theorem d_M_analyse_97 : decode b_M_analyse 97 = .ok (.iload_n 1, 1) := by decide +kernel
theorem d_M_analyse_98 : decode b_M_analyse 98 = .ok (.imul, 1) := by decide +kernel
theorem d_M_analyse_99 : decode b_M_analyse 99 = .ok (.iload_n 2, 1) := by decide +kernel
theorem d_M_analyse_100 : decode b_M_analyse 100 = .ok (.iadd, 1) := by decide +kernel
theorem d_M_analyse_101 : decode b_M_analyse 101 = .ok (.iaload, 1) := by decide +kernel
theorem d_M_analyse_102 : decode b_M_analyse 102 = .ok (.ifCond .ne 47, 3) := by decide +kernel
theorem d_M_analyse_105 : decode b_M_analyse 105 = .ok (.aload_n 0, 1) := by decide +kernel
theorem d_M_analyse_106 : decode b_M_analyse 106 = .ok (.getfield 90, 3) := by decide +kernel
theorem d_M_analyse_109 : decode b_M_analyse 109 = .ok (.iload_n 2, 1) := by decide +kernel
theorem d_M_analyse_110 : decode b_M_analyse 110 = .ok (.aload_n 0, 1) := by decide +kernel
theorem d_M_analyse_111 : decode b_M_analyse 111 = .ok (.getfield 7, 3) := by decide +kernel
theorem d_M_analyse_114 : decode b_M_analyse 114 = .ok (.iload_n 3, 1) := by decide +kernel
theorem d_M_analyse_115 : decode b_M_analyse 115 = .ok (.iaload, 1) := by decide +kernel
theorem d_M_analyse_116 : decode b_M_analyse 116 = .ok (.iconst 3, 1) := by decide +kernel
theorem d_M_analyse_117 : decode b_M_analyse 117 = .ok (.if_icmp .ge 19, 3) := by decide +kernel
theorem d_M_analyse_120 : decode b_M_analyse 120 = .ok (.aload_n 0, 1) := by decide +kernel
theorem d_M_analyse_121 : decode b_M_analyse 121 = .ok (.getfield 16, 3) := by decide +kernel
theorem d_M_analyse_124 : decode b_M_analyse 124 = .ok (.iload_n 3, 1) := by decide +kernel
theorem d_M_analyse_125 : decode b_M_analyse 125 = .ok (.iaload, 1) := by decide +kernel
theorem d_M_analyse_126 : decode b_M_analyse 126 = .ok (.iconst 4, 1) := by decide +kernel
theorem d_M_analyse_127 : decode b_M_analyse 127 = .ok (.idiv, 1) := by decide +kernel
theorem d_M_analyse_128 : decode b_M_analyse 128 = .ok (.iload_n 2, 1) := by decide +kernel
theorem d_M_analyse_129 : decode b_M_analyse 129 = .ok (.if_icmp .ne 7, 3) := by decide +kernel
theorem d_M_analyse_132 : decode b_M_analyse 132 = .ok (.iload_n 3, 1) := by decide +kernel
theorem d_M_analyse_133 : decode b_M_analyse 133 = .ok (.goto 9, 3) := by decide +kernel
theorem d_M_analyse_136 : decode b_M_analyse 136 = .ok (.aload_n 0, 1) := by decide +kernel
theorem d_M_analyse_137 : decode b_M_analyse 137 = .ok (.getfield 90, 3) := by decide +kernel
theorem d_M_analyse_140 : decode b_M_analyse 140 = .ok (.iload_n 2, 1) := by decide +kernel
theorem d_M_analyse_141 : decode b_M_analyse 141 = .ok (.iaload, 1) := by decide +kernel
theorem d_M_analyse_142 : decode b_M_analyse 142 = .ok (.iastore, 1) := by decide +kernel
theorem d_M_analyse_143 : decode b_M_analyse 143 = .ok (.iinc 3 (-1), 3) := by decide +kernel
theorem d_M_analyse_146 : decode b_M_analyse 146 = .ok (.goto (-64), 3) := by decide +kernel
theorem d_M_analyse_149 : decode b_M_analyse 149 = .ok (.aload_n 0, 1) := by decide +kernel
theorem d_M_analyse_150 : decode b_M_analyse 150 = .ok (.aload_n 0, 1) := by decide +kernel
theorem d_M_analyse_151 : decode b_M_analyse 151 = .ok (.getfield 90, 3) := by decide +kernel
theorem d_M_analyse_154 : decode b_M_analyse 154 = .ok (.iload_n 2, 1) := by decide +kernel
theorem d_M_analyse_155 : decode b_M_analyse 155 = .ok (.iaload, 1) := by decide +kernel
theorem d_M_analyse_156 : decode b_M_analyse 156 = .ok (.ifCond .le 25, 3) := by decide +kernel
theorem d_M_analyse_159 : decode b_M_analyse 159 = .ok (.aload_n 0, 1) := by decide +kernel
theorem d_M_analyse_160 : decode b_M_analyse 160 = .ok (.getfield 90, 3) := by decide +kernel
theorem d_M_analyse_163 : decode b_M_analyse 163 = .ok (.iload_n 2, 1) := by decide +kernel
theorem d_M_analyse_164 : decode b_M_analyse 164 = .ok (.iaload, 1) := by decide +kernel
theorem d_M_analyse_165 : decode b_M_analyse 165 = .ok (.aload_n 0, 1) := by decide +kernel
theorem d_M_analyse_166 : decode b_M_analyse 166 = .ok (.getfield 201, 3) := by decide +kernel
theorem d_M_analyse_169 : decode b_M_analyse 169 = .ok (.if_icmp .ge 12, 3) := by decide +kernel
theorem d_M_analyse_172 : decode b_M_analyse 172 = .ok (.aload_n 0, 1) := by decide +kernel
theorem d_M_analyse_173 : decode b_M_analyse 173 = .ok (.getfield 90, 3) := by decide +kernel
theorem d_M_analyse_176 : decode b_M_analyse 176 = .ok (.iload_n 2, 1) := by decide +kernel
theorem d_M_analyse_177 : decode b_M_analyse 177 = .ok (.iaload, 1) := by decide +kernel
theorem d_M_analyse_178 : decode b_M_analyse 178 = .ok (.goto 7, 3) := by decide +kernel
theorem d_M_analyse_181 : decode b_M_analyse 181 = .ok (.aload_n 0, 1) := by decide +kernel
theorem d_M_analyse_182 : decode b_M_analyse 182 = .ok (.getfield 201, 3) := by decide +kernel
theorem d_M_analyse_185 : decode b_M_analyse 185 = .ok (.putfield 201, 3) := by decide +kernel
theorem d_M_analyse_188 : decode b_M_analyse 188 = .ok (.iinc 2 1, 3) := by decide +kernel
theorem d_M_analyse_191 : decode b_M_analyse 191 = .ok (.goto (-145), 3) := by decide +kernel
theorem d_M_analyse_194 : decode b_M_analyse 194 = .ok (.aload_n 0, 1) := by decide +kernel
theorem d_M_analyse_195 : decode b_M_analyse 195 = .ok (.iconst 1, 1) := by decide +kernel
theorem d_M_analyse_196 : decode b_M_analyse 196 = .ok (.putfield 198, 3) := by decide +kernel
theorem d_M_analyse_199 : decode b_M_analyse 199 = .ok (.return_, 1) := by decide +kernel
theorem d_M_redo_0 : decode b_M_redo 0 = .ok (.aload_n 0, 1) := by decide +kernel
theorem d_M_redo_1 : decode b_M_redo 1 = .ok (.getfield 16, 3) := by decide +kernel
theorem d_M_redo_4 : decode b_M_redo 4 = .ok (.iload_n 1, 1) := by decide +kernel
theorem d_M_redo_5 : decode b_M_redo 5 = .ok (.iaload, 1) := by decide +kernel
theorem d_M_redo_6 : decode b_M_redo 6 = .ok (.iconst 4, 1) := by decide +kernel
theorem d_M_redo_7 : decode b_M_redo 7 = .ok (.idiv, 1) := by decide +kernel
theorem d_M_redo_8 : decode b_M_redo 8 = .ok (.istore_n 2, 1) := by decide +kernel
theorem d_M_redo_9 : decode b_M_redo 9 = .ok (.aload_n 0, 1) := by decide +kernel
theorem d_M_redo_10 : decode b_M_redo 10 = .ok (.getfield 7, 3) := by decide +kernel
theorem d_M_redo_13 : decode b_M_redo 13 = .ok (.iload_n 1, 1) := by decide +kernel
theorem d_M_redo_14 : decode b_M_redo 14 = .ok (.iaload, 1) := by decide +kernel
theorem d_M_redo_15 : decode b_M_redo 15 = .ok (.iconst 3, 1) := by decide +kernel
theorem d_M_redo_16 : decode b_M_redo 16 = .ok (.if_icmp .ge 42, 3) := by decide +kernel
theorem d_M_redo_19 : decode b_M_redo 19 = .ok (.aload_n 0, 1) := by decide +kernel
theorem d_M_redo_20 : decode b_M_redo 20 = .ok (.getfield 90, 3) := by decide +kernel
theorem d_M_redo_23 : decode b_M_redo 23 = .ok (.iload_n 2, 1) := by decide +kernel
theorem d_M_redo_24 : decode b_M_redo 24 = .ok (.iaload, 1) := by decide +kernel
theorem d_M_redo_25 : decode b_M_redo 25 = .ok (.ifCond .le 33, 3) := by decide +kernel
theorem d_M_redo_28 : decode b_M_redo 28 = .ok (.aload_n 0, 1) := by decide +kernel
theorem d_M_redo_29 : decode b_M_redo 29 = .ok (.getfield 90, 3) := by decide +kernel
theorem d_M_redo_32 : decode b_M_redo 32 = .ok (.iload_n 2, 1) := by decide +kernel
theorem d_M_redo_33 : decode b_M_redo 33 = .ok (.iaload, 1) := by decide +kernel
theorem d_M_redo_34 : decode b_M_redo 34 = .ok (.iload_n 1, 1) := by decide +kernel
theorem d_M_redo_35 : decode b_M_redo 35 = .ok (.if_icmp .gt 23, 3) := by decide +kernel
theorem d_M_redo_38 : decode b_M_redo 38 = .ok (.aload_n 0, 1) := by decide +kernel
theorem d_M_redo_39 : decode b_M_redo 39 = .ok (.iload_n 2, 1) := by decide +kernel
theorem d_M_redo_40 : decode b_M_redo 40 = .ok (.invokevirtual 121, 3) := by decide +kernel
theorem d_M_redo_43 : decode b_M_redo 43 = .ok (.aload_n 0, 1) := by decide +kernel
theorem d_M_redo_44 : decode b_M_redo 44 = .ok (.getfield 52, 3) := by decide +kernel
theorem d_M_redo_47 : decode b_M_redo 47 = .ok (.iload_n 2, 1) := by decide +kernel
theorem d_M_redo_48 : decode b_M_redo 48 = .ok (.iaload, 1) := by decide +kernel
theorem d_M_redo_49 : decode b_M_redo 49 = .ok (.iload_n 1, 1) := by decide +kernel
theorem d_M_redo_50 : decode b_M_redo 50 = .ok (.if_icmp .ge 8, 3) := by decide +kernel
theorem d_M_redo_53 : decode b_M_redo 53 = .ok (.aload_n 0, 1) := by decide +kernel
theorem d_M_redo_54 : decode b_M_redo 54 = .ok (.iload_n 1, 1) := by decide +kernel
theorem d_M_redo_55 : decode b_M_redo 55 = .ok (.invokevirtual 128, 3) := by decide +kernel
theorem d_M_redo_58 : decode b_M_redo 58 = .ok (.return_, 1) := by decide +kernel
theorem d_M_finish_0 : decode b_M_finish 0 = .ok (.aload_n 0, 1) := by decide +kernel
theorem d_M_finish_1 : decode b_M_finish 1 = .ok (.iconst 0, 1) := by decide +kernel
theorem d_M_finish_2 : decode b_M_finish 2 = .ok (.putfield 172, 3) := by decide +kernel
theorem d_M_finish_5 : decode b_M_finish 5 = .ok (.iconst 1, 1) := by decide +kernel
theorem d_M_finish_6 : decode b_M_finish 6 = .ok (.istore_n 1, 1) := by decide +kernel
theorem d_M_finish_7 : decode b_M_finish 7 = .ok (.iload_n 1, 1) := by decide +kernel
theorem d_M_finish_8 : decode b_M_finish 8 = .ok (.aload_n 0, 1) := by decide +kernel
theorem d_M_finish_9 : decode b_M_finish 9 = .ok (.getfield 138, 3) := by decide +kernel
theorem d_M_finish_12 : decode b_M_finish 12 = .ok (.if_icmp .gt 39, 3) := by decide +kernel
theorem d_M_finish_15 : decode b_M_finish 15 = .ok (.aload_n 0, 1) := by decide +kernel
theorem d_M_finish_16 : decode b_M_finish 16 = .ok (.getfield 61, 3) := by decide +kernel
theorem d_M_finish_19 : decode b_M_finish 19 = .ok (.iload_n 1, 1) := by decide +kernel
theorem d_M_finish_20 : decode b_M_finish 20 = .ok (.iaload, 1) := by decide +kernel
theorem d_M_finish_21 : decode b_M_finish 21 = .ok (.bipush 6, 2) := by decide +kernel
theorem d_M_finish_23 : decode b_M_finish 23 = .ok (.if_icmp .ne 22, 3) := by decide +kernel
theorem d_M_finish_26 : decode b_M_finish 26 = .ok (.aload_n 0, 1) := by decide +kernel
theorem d_M_finish_27 : decode b_M_finish 27 = .ok (.getfield 61, 3) := by decide +kernel
theorem d_M_finish_30 : decode b_M_finish 30 = .ok (.iload_n 1, 1) := by decide +kernel
theorem d_M_finish_31 : decode b_M_finish 31 = .ok (.aload_n 0, 1) := by decide +kernel
theorem d_M_finish_32 : decode b_M_finish 32 = .ok (.iload_n 1, 1) := by decide +kernel
theorem d_M_finish_33 : decode b_M_finish 33 = .ok (.invokevirtual 117, 3) := by decide +kernel
theorem d_M_finish_36 : decode b_M_finish 36 = .ok (.ifCond .eq 7, 3) := by decide +kernel
theorem d_M_finish_39 : decode b_M_finish 39 = .ok (.iconst 4, 1) := by decide +kernel
theorem d_M_finish_40 : decode b_M_finish 40 = .ok (.goto 4, 3) := by decide +kernel
theorem d_M_finish_43 : decode b_M_finish 43 = .ok (.iconst 5, 1) := by decide +kernel
theorem d_M_finish_44 : decode b_M_finish 44 = .ok (.iastore, 1) := by decide +kernel
theorem d_M_finish_45 : decode b_M_finish 45 = .ok (.iinc 1 1, 3) := by decide +kernel
theorem d_M_finish_48 : decode b_M_finish 48 = .ok (.goto (-41), 3) := by decide +kernel
theorem d_M_finish_51 : decode b_M_finish 51 = .ok (.return_, 1) := by decide +kernel
theorem d_M_unit_0 : decode b_M_unit 0 = .ok (.aload_n 0, 1) := by decide +kernel
theorem d_M_unit_1 : decode b_M_unit 1 = .ok (.getfield 198, 3) := by decide +kernel
theorem d_M_unit_4 : decode b_M_unit 4 = .ok (.ifCond .ne 10, 3) := by decide +kernel
theorem d_M_unit_7 : decode b_M_unit 7 = .ok (.aload_n 0, 1) := by decide +kernel
theorem d_M_unit_8 : decode b_M_unit 8 = .ok (.invokevirtual 204, 3) := by decide +kernel
theorem d_M_unit_11 : decode b_M_unit 11 = .ok (.goto 54, 3) := by decide +kernel
theorem d_M_unit_14 : decode b_M_unit 14 = .ok (.aload_n 0, 1) := by decide +kernel
theorem d_M_unit_15 : decode b_M_unit 15 = .ok (.getfield 201, 3) := by decide +kernel
theorem d_M_unit_18 : decode b_M_unit 18 = .ok (.aload_n 0, 1) := by decide +kernel
theorem d_M_unit_19 : decode b_M_unit 19 = .ok (.getfield 114, 3) := by decide +kernel
theorem d_M_unit_22 : decode b_M_unit 22 = .ok (.if_icmp .gt 34, 3) := by decide +kernel
theorem d_M_unit_25 : decode b_M_unit 25 = .ok (.aload_n 0, 1) := by decide +kernel
theorem d_M_unit_26 : decode b_M_unit 26 = .ok (.getfield 201, 3) := by decide +kernel
theorem d_M_unit_29 : decode b_M_unit 29 = .ok (.sipush 1000, 3) := by decide +kernel
theorem d_M_unit_32 : decode b_M_unit 32 = .ok (.if_icmp .ge 24, 3) := by decide +kernel
theorem d_M_unit_35 : decode b_M_unit 35 = .ok (.aload_n 0, 1) := by decide +kernel
theorem d_M_unit_36 : decode b_M_unit 36 = .ok (.aload_n 0, 1) := by decide +kernel
theorem d_M_unit_37 : decode b_M_unit 37 = .ok (.getfield 201, 3) := by decide +kernel
theorem d_M_unit_40 : decode b_M_unit 40 = .ok (.invokevirtual 207, 3) := by decide +kernel
theorem d_M_unit_43 : decode b_M_unit 43 = .ok (.aload_n 0, 1) := by decide +kernel
theorem d_M_unit_44 : decode b_M_unit 44 = .ok (.dup, 1) := by decide +kernel
theorem d_M_unit_45 : decode b_M_unit 45 = .ok (.getfield 201, 3) := by decide +kernel
theorem d_M_unit_48 : decode b_M_unit 48 = .ok (.iconst 1, 1) := by decide +kernel
theorem d_M_unit_49 : decode b_M_unit 49 = .ok (.iadd, 1) := by decide +kernel
theorem d_M_unit_50 : decode b_M_unit 50 = .ok (.putfield 201, 3) := by decide +kernel
theorem d_M_unit_53 : decode b_M_unit 53 = .ok (.goto 12, 3) := by decide +kernel
theorem d_M_unit_56 : decode b_M_unit 56 = .ok (.aload_n 0, 1) := by decide +kernel
theorem d_M_unit_57 : decode b_M_unit 57 = .ok (.aload_n 0, 1) := by decide +kernel
theorem d_M_unit_58 : decode b_M_unit 58 = .ok (.iconst 0, 1) := by decide +kernel
theorem d_M_unit_59 : decode b_M_unit 59 = .ok (.invokevirtual 150, 3) := by decide +kernel
theorem d_M_unit_62 : decode b_M_unit 62 = .ok (.invokevirtual 153, 3) := by decide +kernel
theorem d_M_unit_65 : decode b_M_unit 65 = .ok (.aload_n 0, 1) := by decide +kernel
theorem d_M_unit_66 : decode b_M_unit 66 = .ok (.aload_n 0, 1) := by decide +kernel
theorem d_M_unit_67 : decode b_M_unit 67 = .ok (.getfield 201, 3) := by decide +kernel
theorem d_M_unit_70 : decode b_M_unit 70 = .ok (.aload_n 0, 1) := by decide +kernel
theorem d_M_unit_71 : decode b_M_unit 71 = .ok (.getfield 114, 3) := by decide +kernel
theorem d_M_unit_74 : decode b_M_unit 74 = .ok (.if_icmp .le 9, 3) := by decide +kernel
theorem d_M_unit_77 : decode b_M_unit 77 = .ok (.sipush 1000, 3) := by decide +kernel
theorem d_M_unit_80 : decode b_M_unit 80 = .ok (.goto 7, 3) := by decide +kernel
theorem d_M_unit_83 : decode b_M_unit 83 = .ok (.aload_n 0, 1) := by decide +kernel
theorem d_M_unit_84 : decode b_M_unit 84 = .ok (.getfield 201, 3) := by decide +kernel
theorem d_M_unit_87 : decode b_M_unit 87 = .ok (.putfield 201, 3) := by decide +kernel
theorem d_M_unit_90 : decode b_M_unit 90 = .ok (.aload_n 0, 1) := by decide +kernel
theorem d_M_unit_91 : decode b_M_unit 91 = .ok (.getfield 201, 3) := by decide +kernel
theorem d_M_unit_94 : decode b_M_unit 94 = .ok (.sipush 1000, 3) := by decide +kernel
theorem d_M_unit_97 : decode b_M_unit 97 = .ok (.if_icmp .ne 15, 3) := by decide +kernel
theorem d_M_unit_100 : decode b_M_unit 100 = .ok (.aload_n 0, 1) := by decide +kernel
theorem d_M_unit_101 : decode b_M_unit 101 = .ok (.iconst 0, 1) := by decide +kernel
theorem d_M_unit_102 : decode b_M_unit 102 = .ok (.invokevirtual 150, 3) := by decide +kernel
theorem d_M_unit_105 : decode b_M_unit 105 = .ok (.ifCond .ne 7, 3) := by decide +kernel
theorem d_M_unit_108 : decode b_M_unit 108 = .ok (.aload_n 0, 1) := by decide +kernel
theorem d_M_unit_109 : decode b_M_unit 109 = .ok (.invokevirtual 210, 3) := by decide +kernel
theorem d_M_unit_112 : decode b_M_unit 112 = .ok (.return_, 1) := by decide +kernel
theorem d_M_restart_0 : decode b_M_restart 0 = .ok (.aload_n 0, 1) := by decide +kernel
theorem d_M_restart_1 : decode b_M_restart 1 = .ok (.getfield 172, 3) := by decide +kernel
theorem d_M_restart_4 : decode b_M_restart 4 = .ok (.ifCond .eq 14, 3) := by decide +kernel
theorem d_M_restart_7 : decode b_M_restart 7 = .ok (.iload_n 1, 1) := by decide +kernel
theorem d_M_restart_8 : decode b_M_restart 8 = .ok (.iconst 1, 1) := by decide +kernel
theorem d_M_restart_9 : decode b_M_restart 9 = .ok (.if_icmp .lt 9, 3) := by decide +kernel
theorem d_M_restart_12 : decode b_M_restart 12 = .ok (.iload_n 1, 1) := by decide +kernel
theorem d_M_restart_13 : decode b_M_restart 13 = .ok (.bipush 100, 2) := by decide +kernel
theorem d_M_restart_15 : decode b_M_restart 15 = .ok (.if_icmp .le 5, 3) := by decide +kernel
theorem d_M_restart_18 : decode b_M_restart 18 = .ok (.iconst (-1), 1) := by decide +kernel
theorem d_M_restart_19 : decode b_M_restart 19 = .ok (.ireturn, 1) := by decide +kernel
theorem d_M_restart_20 : decode b_M_restart 20 = .ok (.iconst 0, 1) := by decide +kernel
theorem d_M_restart_21 : decode b_M_restart 21 = .ok (.istore_n 2, 1) := by decide +kernel
theorem d_M_restart_22 : decode b_M_restart 22 = .ok (.iload_n 2, 1) := by decide +kernel
theorem d_M_restart_23 : decode b_M_restart 23 = .ok (.iload_n 1, 1) := by decide +kernel
theorem d_M_restart_24 : decode b_M_restart 24 = .ok (.if_icmp .ge 20, 3) := by decide +kernel
theorem d_M_restart_27 : decode b_M_restart 27 = .ok (.aload_n 0, 1) := by decide +kernel
theorem d_M_restart_28 : decode b_M_restart 28 = .ok (.getfield 172, 3) := by decide +kernel
theorem d_M_restart_31 : decode b_M_restart 31 = .ok (.ifCond .eq 13, 3) := by decide +kernel
theorem d_M_restart_34 : decode b_M_restart 34 = .ok (.aload_n 0, 1) := by decide +kernel
theorem d_M_restart_35 : decode b_M_restart 35 = .ok (.invokevirtual 213, 3) := by decide +kernel
theorem d_M_restart_38 : decode b_M_restart 38 = .ok (.iinc 2 1, 3) := by decide +kernel
theorem d_M_restart_41 : decode b_M_restart 41 = .ok (.goto (-19), 3) := by decide +kernel
theorem d_M_restart_44 : decode b_M_restart 44 = .ok (.iload_n 2, 1) := by decide +kernel
theorem d_M_restart_45 : decode b_M_restart 45 = .ok (.ireturn, 1) := by decide +kernel
theorem d_M_up_0 : decode b_M_up 0 = .ok (.aload_n 0, 1) := by decide +kernel
theorem d_M_up_1 : decode b_M_up 1 = .ok (.getfield 172, 3) := by decide +kernel
theorem d_M_up_4 : decode b_M_up 4 = .ok (.ifCond .ne 7, 3) := by decide +kernel
theorem d_M_up_7 : decode b_M_up 7 = .ok (.iconst 1, 1) := by decide +kernel
theorem d_M_up_8 : decode b_M_up 8 = .ok (.goto 4, 3) := by decide +kernel
theorem d_M_up_11 : decode b_M_up 11 = .ok (.iconst 0, 1) := by decide +kernel
theorem d_M_up_12 : decode b_M_up 12 = .ok (.ireturn, 1) := by decide +kernel
theorem d_M_known_0 : decode b_M_known 0 = .ok (.iload_n 1, 1) := by decide +kernel
theorem d_M_known_1 : decode b_M_known 1 = .ok (.iconst 1, 1) := by decide +kernel
theorem d_M_known_2 : decode b_M_known 2 = .ok (.if_icmp .lt 15, 3) := by decide +kernel
theorem d_M_known_5 : decode b_M_known 5 = .ok (.iload_n 1, 1) := by decide +kernel
theorem d_M_known_6 : decode b_M_known 6 = .ok (.aload_n 0, 1) := by decide +kernel
theorem d_M_known_7 : decode b_M_known 7 = .ok (.getfield 138, 3) := by decide +kernel
theorem d_M_known_10 : decode b_M_known 10 = .ok (.if_icmp .gt 7, 3) := by decide +kernel
theorem d_M_known_13 : decode b_M_known 13 = .ok (.iconst 1, 1) := by decide +kernel
theorem d_M_known_14 : decode b_M_known 14 = .ok (.goto 4, 3) := by decide +kernel
theorem d_M_known_17 : decode b_M_known 17 = .ok (.iconst 0, 1) := by decide +kernel
theorem d_M_known_18 : decode b_M_known 18 = .ok (.ireturn, 1) := by decide +kernel
theorem d_M_state_0 : decode b_M_state 0 = .ok (.aload_n 0, 1) := by decide +kernel
theorem d_M_state_1 : decode b_M_state 1 = .ok (.iload_n 1, 1) := by decide +kernel
theorem d_M_state_2 : decode b_M_state 2 = .ok (.invokevirtual 216, 3) := by decide +kernel
theorem d_M_state_5 : decode b_M_state 5 = .ok (.ifCond .eq 12, 3) := by decide +kernel
theorem d_M_state_8 : decode b_M_state 8 = .ok (.aload_n 0, 1) := by decide +kernel
theorem d_M_state_9 : decode b_M_state 9 = .ok (.getfield 61, 3) := by decide +kernel
theorem d_M_state_12 : decode b_M_state 12 = .ok (.iload_n 1, 1) := by decide +kernel
theorem d_M_state_13 : decode b_M_state 13 = .ok (.iaload, 1) := by decide +kernel
theorem d_M_state_14 : decode b_M_state 14 = .ok (.goto 4, 3) := by decide +kernel
theorem d_M_state_17 : decode b_M_state 17 = .ok (.iconst 0, 1) := by decide +kernel
theorem d_M_state_18 : decode b_M_state 18 = .ok (.ireturn, 1) := by decide +kernel
theorem d_M_outcome_0 : decode b_M_outcome 0 = .ok (.aload_n 0, 1) := by decide +kernel
theorem d_M_outcome_1 : decode b_M_outcome 1 = .ok (.iload_n 1, 1) := by decide +kernel
theorem d_M_outcome_2 : decode b_M_outcome 2 = .ok (.invokevirtual 216, 3) := by decide +kernel
theorem d_M_outcome_5 : decode b_M_outcome 5 = .ok (.ifCond .eq 12, 3) := by decide +kernel
theorem d_M_outcome_8 : decode b_M_outcome 8 = .ok (.aload_n 0, 1) := by decide +kernel
theorem d_M_outcome_9 : decode b_M_outcome 9 = .ok (.getfield 64, 3) := by decide +kernel
theorem d_M_outcome_12 : decode b_M_outcome 12 = .ok (.iload_n 1, 1) := by decide +kernel
theorem d_M_outcome_13 : decode b_M_outcome 13 = .ok (.iaload, 1) := by decide +kernel
theorem d_M_outcome_14 : decode b_M_outcome 14 = .ok (.goto 4, 3) := by decide +kernel
theorem d_M_outcome_17 : decode b_M_outcome 17 = .ok (.iconst (-1), 1) := by decide +kernel
theorem d_M_outcome_18 : decode b_M_outcome 18 = .ok (.ireturn, 1) := by decide +kernel
theorem d_M_value_0 : decode b_M_value 0 = .ok (.aload_n 0, 1) := by decide +kernel
theorem d_M_value_1 : decode b_M_value 1 = .ok (.iload_n 1, 1) := by decide +kernel
theorem d_M_value_2 : decode b_M_value 2 = .ok (.invokevirtual 216, 3) := by decide +kernel
theorem d_M_value_5 : decode b_M_value 5 = .ok (.ifCond .eq 12, 3) := by decide +kernel
theorem d_M_value_8 : decode b_M_value 8 = .ok (.aload_n 0, 1) := by decide +kernel
theorem d_M_value_9 : decode b_M_value 9 = .ok (.getfield 67, 3) := by decide +kernel
theorem d_M_value_12 : decode b_M_value 12 = .ok (.iload_n 1, 1) := by decide +kernel
theorem d_M_value_13 : decode b_M_value 13 = .ok (.iaload, 1) := by decide +kernel
theorem d_M_value_14 : decode b_M_value 14 = .ok (.goto 4, 3) := by decide +kernel
theorem d_M_value_17 : decode b_M_value 17 = .ok (.iconst 0, 1) := by decide +kernel
theorem d_M_value_18 : decode b_M_value 18 = .ok (.ireturn, 1) := by decide +kernel
theorem d_M_stored_0 : decode b_M_stored 0 = .ok (.aload_n 0, 1) := by decide +kernel
theorem d_M_stored_1 : decode b_M_stored 1 = .ok (.iload_n 1, 1) := by decide +kernel
theorem d_M_stored_2 : decode b_M_stored 2 = .ok (.invokevirtual 219, 3) := by decide +kernel
theorem d_M_stored_5 : decode b_M_stored 5 = .ok (.istore_n 2, 1) := by decide +kernel
theorem d_M_stored_6 : decode b_M_stored 6 = .ok (.iload_n 2, 1) := by decide +kernel
theorem d_M_stored_7 : decode b_M_stored 7 = .ok (.ifCond .ge 7, 3) := by decide +kernel
theorem d_M_stored_10 : decode b_M_stored 10 = .ok (.iconst 0, 1) := by decide +kernel
theorem d_M_stored_11 : decode b_M_stored 11 = .ok (.goto 8, 3) := by decide +kernel
theorem d_M_stored_14 : decode b_M_stored 14 = .ok (.aload_n 0, 1) := by decide +kernel
theorem d_M_stored_15 : decode b_M_stored 15 = .ok (.iload_n 2, 1) := by decide +kernel
theorem d_M_stored_16 : decode b_M_stored 16 = .ok (.invokevirtual 222, 3) := by decide +kernel
theorem d_M_stored_19 : decode b_M_stored 19 = .ok (.ireturn, 1) := by decide +kernel
theorem d_M_place_0 : decode b_M_place 0 = .ok (.iload_n 1, 1) := by decide +kernel
theorem d_M_place_1 : decode b_M_place 1 = .ok (.ifCond .lt 9, 3) := by decide +kernel
theorem d_M_place_4 : decode b_M_place 4 = .ok (.iload_n 1, 1) := by decide +kernel
theorem d_M_place_5 : decode b_M_place 5 = .ok (.bipush 99, 2) := by decide +kernel
theorem d_M_place_7 : decode b_M_place 7 = .ok (.if_icmp .le 7, 3) := by decide +kernel
theorem d_M_place_10 : decode b_M_place 10 = .ok (.iconst (-1), 1) := by decide +kernel
theorem d_M_place_11 : decode b_M_place 11 = .ok (.goto 8, 3) := by decide +kernel
theorem d_M_place_14 : decode b_M_place 14 = .ok (.aload_n 0, 1) := by decide +kernel
theorem d_M_place_15 : decode b_M_place 15 = .ok (.iload_n 1, 1) := by decide +kernel
theorem d_M_place_16 : decode b_M_place 16 = .ok (.invokevirtual 144, 3) := by decide +kernel
theorem d_M_place_19 : decode b_M_place 19 = .ok (.ireturn, 1) := by decide +kernel
theorem d_M_after_0 : decode b_M_after 0 = .ok (.iload_n 1, 1) := by decide +kernel
theorem d_M_after_1 : decode b_M_after 1 = .ok (.ifCond .ge 7, 3) := by decide +kernel
theorem d_M_after_4 : decode b_M_after 4 = .ok (.iconst 0, 1) := by decide +kernel
theorem d_M_after_5 : decode b_M_after 5 = .ok (.goto 17, 3) := by decide +kernel
theorem d_M_after_8 : decode b_M_after 8 = .ok (.iload_n 1, 1) := by decide +kernel
theorem d_M_after_9 : decode b_M_after 9 = .ok (.bipush 99, 2) := by decide +kernel
theorem d_M_after_11 : decode b_M_after 11 = .ok (.if_icmp .lt 8, 3) := by decide +kernel
theorem d_M_after_14 : decode b_M_after 14 = .ok (.bipush 100, 2) := by decide +kernel
theorem d_M_after_16 : decode b_M_after 16 = .ok (.goto 6, 3) := by decide +kernel
theorem d_M_after_19 : decode b_M_after 19 = .ok (.iload_n 1, 1) := by decide +kernel
theorem d_M_after_20 : decode b_M_after 20 = .ok (.iconst 1, 1) := by decide +kernel
theorem d_M_after_21 : decode b_M_after 21 = .ok (.iadd, 1) := by decide +kernel
theorem d_M_after_22 : decode b_M_after 22 = .ok (.istore_n 2, 1) := by decide +kernel
theorem d_M_after_23 : decode b_M_after 23 = .ok (.iload_n 2, 1) := by decide +kernel
theorem d_M_after_24 : decode b_M_after 24 = .ok (.bipush 100, 2) := by decide +kernel
theorem d_M_after_26 : decode b_M_after 26 = .ok (.if_icmp .ge 26, 3) := by decide +kernel
theorem d_M_after_29 : decode b_M_after 29 = .ok (.aload_n 0, 1) := by decide +kernel
theorem d_M_after_30 : decode b_M_after 30 = .ok (.getfield 172, 3) := by decide +kernel
theorem d_M_after_33 : decode b_M_after 33 = .ok (.ifCond .ne 19, 3) := by decide +kernel
theorem d_M_after_36 : decode b_M_after 36 = .ok (.aload_n 0, 1) := by decide +kernel
theorem d_M_after_37 : decode b_M_after 37 = .ok (.iload_n 2, 1) := by decide +kernel
theorem d_M_after_38 : decode b_M_after 38 = .ok (.invokevirtual 144, 3) := by decide +kernel
theorem d_M_after_41 : decode b_M_after 41 = .ok (.ifCond .lt 5, 3) := by decide +kernel
theorem d_M_after_44 : decode b_M_after 44 = .ok (.iload_n 2, 1) := by decide +kernel
theorem d_M_after_45 : decode b_M_after 45 = .ok (.ireturn, 1) := by decide +kernel
theorem d_M_after_46 : decode b_M_after 46 = .ok (.iinc 2 1, 3) := by decide +kernel
theorem d_M_after_49 : decode b_M_after 49 = .ok (.goto (-26), 3) := by decide +kernel
theorem d_M_after_52 : decode b_M_after 52 = .ok (.iconst (-1), 1) := by decide +kernel
theorem d_M_after_53 : decode b_M_after 53 = .ok (.ireturn, 1) := by decide +kernel
theorem d_M_count_0 : decode b_M_count 0 = .ok (.iload_n 1, 1) := by decide +kernel
theorem d_M_count_1 : decode b_M_count 1 = .ok (.ifCond .ne 10, 3) := by decide +kernel
theorem d_M_count_4 : decode b_M_count 4 = .ok (.aload_n 0, 1) := by decide +kernel
theorem d_M_count_5 : decode b_M_count 5 = .ok (.getfield 114, 3) := by decide +kernel
theorem d_M_count_8 : decode b_M_count 8 = .ok (.goto 40, 3) := by decide +kernel
theorem d_M_count_11 : decode b_M_count 11 = .ok (.iload_n 1, 1) := by decide +kernel
theorem d_M_count_12 : decode b_M_count 12 = .ok (.iconst 1, 1) := by decide +kernel
theorem d_M_count_13 : decode b_M_count 13 = .ok (.if_icmp .ne 10, 3) := by decide +kernel
theorem d_M_count_16 : decode b_M_count 16 = .ok (.aload_n 0, 1) := by decide +kernel
theorem d_M_count_17 : decode b_M_count 17 = .ok (.getfield 97, 3) := by decide +kernel
theorem d_M_count_20 : decode b_M_count 20 = .ok (.goto 28, 3) := by decide +kernel
theorem d_M_count_23 : decode b_M_count 23 = .ok (.iload_n 1, 1) := by decide +kernel
theorem d_M_count_24 : decode b_M_count 24 = .ok (.iconst 2, 1) := by decide +kernel
theorem d_M_count_25 : decode b_M_count 25 = .ok (.if_icmp .ne 10, 3) := by decide +kernel
theorem d_M_count_28 : decode b_M_count 28 = .ok (.aload_n 0, 1) := by decide +kernel
theorem d_M_count_29 : decode b_M_count 29 = .ok (.getfield 111, 3) := by decide +kernel
theorem d_M_count_32 : decode b_M_count 32 = .ok (.goto 16, 3) := by decide +kernel
theorem d_M_count_35 : decode b_M_count 35 = .ok (.iload_n 1, 1) := by decide +kernel
theorem d_M_count_36 : decode b_M_count 36 = .ok (.iconst 3, 1) := by decide +kernel
theorem d_M_count_37 : decode b_M_count 37 = .ok (.if_icmp .ne 10, 3) := by decide +kernel
theorem d_M_count_40 : decode b_M_count 40 = .ok (.aload_n 0, 1) := by decide +kernel
theorem d_M_count_41 : decode b_M_count 41 = .ok (.getfield 101, 3) := by decide +kernel
theorem d_M_count_44 : decode b_M_count 44 = .ok (.goto 4, 3) := by decide +kernel
theorem d_M_count_47 : decode b_M_count 47 = .ok (.iconst (-1), 1) := by decide +kernel
theorem d_M_count_48 : decode b_M_count 48 = .ok (.ireturn, 1) := by decide +kernel
theorem d_M_page_0 : decode b_M_page 0 = .ok (.iload_n 1, 1) := by decide +kernel
theorem d_M_page_1 : decode b_M_page 1 = .ok (.ifCond .lt 17, 3) := by decide +kernel
theorem d_M_page_4 : decode b_M_page 4 = .ok (.iload_n 1, 1) := by decide +kernel
theorem d_M_page_5 : decode b_M_page 5 = .ok (.iconst 5, 1) := by decide +kernel
theorem d_M_page_6 : decode b_M_page 6 = .ok (.if_icmp .gt 12, 3) := by decide +kernel
theorem d_M_page_9 : decode b_M_page 9 = .ok (.iload_n 2, 1) := by decide +kernel
theorem d_M_page_10 : decode b_M_page 10 = .ok (.ifCond .lt 8, 3) := by decide +kernel
theorem d_M_page_13 : decode b_M_page 13 = .ok (.iload_n 2, 1) := by decide +kernel
theorem d_M_page_14 : decode b_M_page 14 = .ok (.iconst 2, 1) := by decide +kernel
theorem d_M_page_15 : decode b_M_page 15 = .ok (.if_icmp .le 5, 3) := by decide +kernel
theorem d_M_page_18 : decode b_M_page 18 = .ok (.iconst (-1), 1) := by decide +kernel
theorem d_M_page_19 : decode b_M_page 19 = .ok (.ireturn, 1) := by decide +kernel
theorem d_M_page_20 : decode b_M_page 20 = .ok (.iload_n 2, 1) := by decide +kernel
theorem d_M_page_21 : decode b_M_page 21 = .ok (.iconst 2, 1) := by decide +kernel
theorem d_M_page_22 : decode b_M_page 22 = .ok (.if_icmp .ne 10, 3) := by decide +kernel
theorem d_M_page_25 : decode b_M_page 25 = .ok (.aload_n 0, 1) := by decide +kernel
theorem d_M_page_26 : decode b_M_page 26 = .ok (.getfield 43, 3) := by decide +kernel
theorem d_M_page_29 : decode b_M_page 29 = .ok (.iload_n 1, 1) := by decide +kernel
theorem d_M_page_30 : decode b_M_page 30 = .ok (.iaload, 1) := by decide +kernel
theorem d_M_page_31 : decode b_M_page 31 = .ok (.ireturn, 1) := by decide +kernel
theorem d_M_page_32 : decode b_M_page 32 = .ok (.aload_n 0, 1) := by decide +kernel
theorem d_M_page_33 : decode b_M_page 33 = .ok (.getfield 58, 3) := by decide +kernel
theorem d_M_page_36 : decode b_M_page 36 = .ok (.iload_n 1, 1) := by decide +kernel
theorem d_M_page_37 : decode b_M_page 37 = .ok (.iaload, 1) := by decide +kernel
theorem d_M_page_38 : decode b_M_page 38 = .ok (.ifCond .ne 7, 3) := by decide +kernel
theorem d_M_page_41 : decode b_M_page 41 = .ok (.iconst (-1), 1) := by decide +kernel
theorem d_M_page_42 : decode b_M_page 42 = .ok (.goto 22, 3) := by decide +kernel
theorem d_M_page_45 : decode b_M_page 45 = .ok (.iload_n 2, 1) := by decide +kernel
theorem d_M_page_46 : decode b_M_page 46 = .ok (.ifCond .ne 12, 3) := by decide +kernel
theorem d_M_page_49 : decode b_M_page 49 = .ok (.aload_n 0, 1) := by decide +kernel
theorem d_M_page_50 : decode b_M_page 50 = .ok (.getfield 55, 3) := by decide +kernel
theorem d_M_page_53 : decode b_M_page 53 = .ok (.iload_n 1, 1) := by decide +kernel
theorem d_M_page_54 : decode b_M_page 54 = .ok (.iaload, 1) := by decide +kernel
theorem d_M_page_55 : decode b_M_page 55 = .ok (.goto 9, 3) := by decide +kernel
theorem d_M_page_58 : decode b_M_page 58 = .ok (.aload_n 0, 1) := by decide +kernel
theorem d_M_page_59 : decode b_M_page 59 = .ok (.getfield 52, 3) := by decide +kernel
theorem d_M_page_62 : decode b_M_page 62 = .ok (.iload_n 1, 1) := by decide +kernel
theorem d_M_page_63 : decode b_M_page 63 = .ok (.iaload, 1) := by decide +kernel
theorem d_M_page_64 : decode b_M_page 64 = .ok (.ireturn, 1) := by decide +kernel

