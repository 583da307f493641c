theorem dX4_listen_30 : decode cX4_listen 30 = .ok (.iconst 5, 1) := by decide +kernel
theorem dX4_listen_31 : decode cX4_listen 31 = .ok (.if_icmp .ge 69, 3) := by decide +kernel
theorem dX4_listen_34 : decode cX4_listen 34 = .ok (.iload_n 2, 1) := by decide +kernel
theorem dX4_listen_35 : decode cX4_listen 35 = .ok (.ifCond .eq 65, 3) := by decide +kernel
theorem dX4_listen_38 : decode cX4_listen 38 = .ok (.iconst 0, 1) := by decide +kernel
theorem dX4_listen_39 : decode cX4_listen 39 = .ok (.istore 6, 2) := by decide +kernel
theorem dX4_listen_41 : decode cX4_listen 41 = .ok (.iload 6, 2) := by decide +kernel
theorem dX4_listen_43 : decode cX4_listen 43 = .ok (.iconst 2, 1) := by decide +kernel
theorem dX4_listen_44 : decode cX4_listen 44 = .ok (.if_icmp .ge 50, 3) := by decide +kernel
theorem dX4_listen_47 : decode cX4_listen 47 = .ok (.aload_n 0, 1) := by decide +kernel
theorem dX4_listen_48 : decode cX4_listen 48 = .ok (.iload_n 1, 1) := by decide +kernel
theorem dX4_listen_49 : decode cX4_listen 49 = .ok (.iload_n 2, 1) := by decide +kernel
theorem dX4_listen_50 : decode cX4_listen 50 = .ok (.iload 5, 2) := by decide +kernel
theorem dX4_listen_52 : decode cX4_listen 52 = .ok (.iload 6, 2) := by decide +kernel
theorem dX4_listen_54 : decode cX4_listen 54 = .ok (.invokevirtual 248, 3) := by decide +kernel
theorem dX4_listen_57 : decode cX4_listen 57 = .ok (.istore 7, 2) := by decide +kernel
theorem dX4_listen_59 : decode cX4_listen 59 = .ok (.iload 7, 2) := by decide +kernel
theorem dX4_listen_61 : decode cX4_listen 61 = .ok (.iload 4, 2) := by decide +kernel
theorem dX4_listen_63 : decode cX4_listen 63 = .ok (.if_icmp .ge 14, 3) := by decide +kernel
theorem dX4_listen_66 : decode cX4_listen 66 = .ok (.bipush 10, 2) := by decide +kernel
theorem dX4_listen_68 : decode cX4_listen 68 = .ok (.iload 5, 2) := by decide +kernel
theorem dX4_listen_70 : decode cX4_listen 70 = .ok (.imul, 1) := by decide +kernel
theorem dX4_listen_71 : decode cX4_listen 71 = .ok (.iload 6, 2) := by decide +kernel
theorem dX4_listen_73 : decode cX4_listen 73 = .ok (.iadd, 1) := by decide +kernel
theorem dX4_listen_74 : decode cX4_listen 74 = .ok (.goto 4, 3) := by decide +kernel
theorem dX4_listen_77 : decode cX4_listen 77 = .ok (.iload_n 3, 1) := by decide +kernel
theorem dX4_listen_78 : decode cX4_listen 78 = .ok (.istore_n 3, 1) := by decide +kernel
theorem dX4_listen_79 : decode cX4_listen 79 = .ok (.iload 4, 2) := by decide +kernel
theorem dX4_listen_81 : decode cX4_listen 81 = .ok (.iload 7, 2) := by decide +kernel
theorem dX4_listen_83 : decode cX4_listen 83 = .ok (.invokestatic 173, 3) := by decide +kernel
theorem dX4_listen_86 : decode cX4_listen 86 = .ok (.istore 4, 2) := by decide +kernel
theorem dX4_listen_88 : decode cX4_listen 88 = .ok (.iinc 6 1, 3) := by decide +kernel
theorem dX4_listen_91 : decode cX4_listen 91 = .ok (.goto (-50), 3) := by decide +kernel
theorem dX4_listen_94 : decode cX4_listen 94 = .ok (.iinc 5 1, 3) := by decide +kernel
theorem dX4_listen_97 : decode cX4_listen 97 = .ok (.goto (-69), 3) := by decide +kernel
theorem dX4_listen_100 : decode cX4_listen 100 = .ok (.iload_n 3, 1) := by decide +kernel
theorem dX4_listen_101 : decode cX4_listen 101 = .ok (.ireturn, 1) := by decide +kernel
theorem dX4_whose_0 : decode cX4_whose 0 = .ok (.iload_n 1, 1) := by decide +kernel
theorem dX4_whose_1 : decode cX4_whose 1 = .ok (.iconst 0, 1) := by decide +kernel
theorem dX4_whose_2 : decode cX4_whose 2 = .ok (.bipush 9, 2) := by decide +kernel
theorem dX4_whose_4 : decode cX4_whose 4 = .ok (.invokestatic 93, 3) := by decide +kernel
theorem dX4_whose_7 : decode cX4_whose 7 = .ok (.ifCond .ne 8, 3) := by decide +kernel
theorem dX4_whose_10 : decode cX4_whose 10 = .ok (.aload_n 0, 1) := by decide +kernel
theorem dX4_whose_11 : decode cX4_whose 11 = .ok (.invokevirtual 97, 3) := by decide +kernel
theorem dX4_whose_14 : decode cX4_whose 14 = .ok (.ireturn, 1) := by decide +kernel
theorem dX4_whose_15 : decode cX4_whose 15 = .ok (.iconst 0, 1) := by decide +kernel
theorem dX4_whose_16 : decode cX4_whose 16 = .ok (.istore_n 2, 1) := by decide +kernel
theorem dX4_whose_17 : decode cX4_whose 17 = .ok (.iconst 0, 1) := by decide +kernel
theorem dX4_whose_18 : decode cX4_whose 18 = .ok (.istore_n 3, 1) := by decide +kernel
theorem dX4_whose_19 : decode cX4_whose 19 = .ok (.iload_n 3, 1) := by decide +kernel
theorem dX4_whose_20 : decode cX4_whose 20 = .ok (.aload_n 0, 1) := by decide +kernel
theorem dX4_whose_21 : decode cX4_whose 21 = .ok (.getfield 80, 3) := by decide +kernel
theorem dX4_whose_24 : decode cX4_whose 24 = .ok (.if_icmp .ge 28, 3) := by decide +kernel
theorem dX4_whose_27 : decode cX4_whose 27 = .ok (.iload_n 2, 1) := by decide +kernel
theorem dX4_whose_28 : decode cX4_whose 28 = .ok (.aload_n 0, 1) := by decide +kernel
theorem dX4_whose_29 : decode cX4_whose 29 = .ok (.iload_n 3, 1) := by decide +kernel
theorem dX4_whose_30 : decode cX4_whose 30 = .ok (.invokevirtual 180, 3) := by decide +kernel
theorem dX4_whose_33 : decode cX4_whose 33 = .ok (.iload_n 1, 1) := by decide +kernel
theorem dX4_whose_34 : decode cX4_whose 34 = .ok (.if_icmp .ne 9, 3) := by decide +kernel
theorem dX4_whose_37 : decode cX4_whose 37 = .ok (.iconst 1, 1) := by decide +kernel
theorem dX4_whose_38 : decode cX4_whose 38 = .ok (.iload_n 3, 1) := by decide +kernel
theorem dX4_whose_39 : decode cX4_whose 39 = .ok (.ishl, 1) := by decide +kernel
theorem dX4_whose_40 : decode cX4_whose 40 = .ok (.goto 4, 3) := by decide +kernel
theorem dX4_whose_43 : decode cX4_whose 43 = .ok (.iconst 0, 1) := by decide +kernel
theorem dX4_whose_44 : decode cX4_whose 44 = .ok (.ior, 1) := by decide +kernel
theorem dX4_whose_45 : decode cX4_whose 45 = .ok (.istore_n 2, 1) := by decide +kernel
theorem dX4_whose_46 : decode cX4_whose 46 = .ok (.iinc 3 1, 3) := by decide +kernel
theorem dX4_whose_49 : decode cX4_whose 49 = .ok (.goto (-30), 3) := by decide +kernel
theorem dX4_whose_52 : decode cX4_whose 52 = .ok (.iload_n 2, 1) := by decide +kernel
theorem dX4_whose_53 : decode cX4_whose 53 = .ok (.ireturn, 1) := by decide +kernel
theorem dX4_gets_0 : decode cX4_gets 0 = .ok (.iload_n 3, 1) := by decide +kernel
theorem dX4_gets_1 : decode cX4_gets 1 = .ok (.ifCond .eq 17, 3) := by decide +kernel
theorem dX4_gets_4 : decode cX4_gets 4 = .ok (.iload 5, 2) := by decide +kernel
theorem dX4_gets_6 : decode cX4_gets 6 = .ok (.ifCond .ne 8, 3) := by decide +kernel
theorem dX4_gets_9 : decode cX4_gets 9 = .ok (.iload 4, 2) := by decide +kernel
theorem dX4_gets_11 : decode cX4_gets 11 = .ok (.ifCond .ne 7, 3) := by decide +kernel
theorem dX4_gets_14 : decode cX4_gets 14 = .ok (.iconst 1, 1) := by decide +kernel
theorem dX4_gets_15 : decode cX4_gets 15 = .ok (.goto 4, 3) := by decide +kernel
theorem dX4_gets_18 : decode cX4_gets 18 = .ok (.iconst 0, 1) := by decide +kernel
theorem dX4_gets_19 : decode cX4_gets 19 = .ok (.istore 6, 2) := by decide +kernel
theorem dX4_gets_21 : decode cX4_gets 21 = .ok (.iload 6, 2) := by decide +kernel
theorem dX4_gets_23 : decode cX4_gets 23 = .ok (.ifCond .eq 12, 3) := by decide +kernel
theorem dX4_gets_26 : decode cX4_gets 26 = .ok (.aload_n 0, 1) := by decide +kernel
theorem dX4_gets_27 : decode cX4_gets 27 = .ok (.iload_n 1, 1) := by decide +kernel
theorem dX4_gets_28 : decode cX4_gets 28 = .ok (.iload_n 2, 1) := by decide +kernel
theorem dX4_gets_29 : decode cX4_gets 29 = .ok (.invokevirtual 186, 3) := by decide +kernel
theorem dX4_gets_32 : decode cX4_gets 32 = .ok (.goto 8, 3) := by decide +kernel
theorem dX4_gets_35 : decode cX4_gets 35 = .ok (.aload_n 0, 1) := by decide +kernel
theorem dX4_gets_36 : decode cX4_gets 36 = .ok (.iload_n 1, 1) := by decide +kernel
theorem dX4_gets_37 : decode cX4_gets 37 = .ok (.invokevirtual 221, 3) := by decide +kernel
theorem dX4_gets_40 : decode cX4_gets 40 = .ok (.iload_n 3, 1) := by decide +kernel
theorem dX4_gets_41 : decode cX4_gets 41 = .ok (.ifCond .eq 7, 3) := by decide +kernel
theorem dX4_gets_44 : decode cX4_gets 44 = .ok (.iconst 1, 1) := by decide +kernel
theorem dX4_gets_45 : decode cX4_gets 45 = .ok (.goto 4, 3) := by decide +kernel
theorem dX4_gets_48 : decode cX4_gets 48 = .ok (.iconst 0, 1) := by decide +kernel
theorem dX4_gets_49 : decode cX4_gets 49 = .ok (.isub, 1) := by decide +kernel
theorem dX4_gets_50 : decode cX4_gets 50 = .ok (.ireturn, 1) := by decide +kernel
theorem dX4_asks_0 : decode cX4_asks 0 = .ok (.aload_n 0, 1) := by decide +kernel
theorem dX4_asks_1 : decode cX4_asks 1 = .ok (.iload_n 1, 1) := by decide +kernel
theorem dX4_asks_2 : decode cX4_asks 2 = .ok (.invokevirtual 203, 3) := by decide +kernel
theorem dX4_asks_5 : decode cX4_asks 5 = .ok (.ifCond .eq 24, 3) := by decide +kernel
theorem dX4_asks_8 : decode cX4_asks 8 = .ok (.aload_n 0, 1) := by decide +kernel
theorem dX4_asks_9 : decode cX4_asks 9 = .ok (.iload_n 2, 1) := by decide +kernel
theorem dX4_asks_10 : decode cX4_asks 10 = .ok (.invokevirtual 203, 3) := by decide +kernel
theorem dX4_asks_13 : decode cX4_asks 13 = .ok (.ifCond .eq 16, 3) := by decide +kernel
theorem dX4_asks_16 : decode cX4_asks 16 = .ok (.iload_n 1, 1) := by decide +kernel
theorem dX4_asks_17 : decode cX4_asks 17 = .ok (.iload_n 2, 1) := by decide +kernel
theorem dX4_asks_18 : decode cX4_asks 18 = .ok (.if_icmp .eq 11, 3) := by decide +kernel
theorem dX4_asks_21 : decode cX4_asks 21 = .ok (.aload_n 0, 1) := by decide +kernel
theorem dX4_asks_22 : decode cX4_asks 22 = .ok (.iload_n 3, 1) := by decide +kernel
theorem dX4_asks_23 : decode cX4_asks 23 = .ok (.invokevirtual 203, 3) := by decide +kernel
theorem dX4_asks_26 : decode cX4_asks 26 = .ok (.ifCond .ne 8, 3) := by decide +kernel
theorem dX4_asks_29 : decode cX4_asks 29 = .ok (.aload_n 0, 1) := by decide +kernel
theorem dX4_asks_30 : decode cX4_asks 30 = .ok (.invokevirtual 97, 3) := by decide +kernel
theorem dX4_asks_33 : decode cX4_asks 33 = .ok (.ireturn, 1) := by decide +kernel
theorem dX4_asks_34 : decode cX4_asks 34 = .ok (.aload_n 0, 1) := by decide +kernel
theorem dX4_asks_35 : decode cX4_asks 35 = .ok (.getfield 22, 3) := by decide +kernel
theorem dX4_asks_38 : decode cX4_asks 38 = .ok (.iload_n 3, 1) := by decide +kernel
theorem dX4_asks_39 : decode cX4_asks 39 = .ok (.iaload, 1) := by decide +kernel
theorem dX4_asks_40 : decode cX4_asks 40 = .ok (.iconst (-1), 1) := by decide +kernel
theorem dX4_asks_41 : decode cX4_asks 41 = .ok (.if_icmp .eq 8, 3) := by decide +kernel
theorem dX4_asks_44 : decode cX4_asks 44 = .ok (.aload_n 0, 1) := by decide +kernel
theorem dX4_asks_45 : decode cX4_asks 45 = .ok (.invokevirtual 209, 3) := by decide +kernel
theorem dX4_asks_48 : decode cX4_asks 48 = .ok (.ireturn, 1) := by decide +kernel
theorem dX4_asks_49 : decode cX4_asks 49 = .ok (.iconst 0, 1) := by decide +kernel
theorem dX4_asks_50 : decode cX4_asks 50 = .ok (.istore 4, 2) := by decide +kernel
theorem dX4_asks_52 : decode cX4_asks 52 = .ok (.iconst 0, 1) := by decide +kernel
theorem dX4_asks_53 : decode cX4_asks 53 = .ok (.istore 5, 2) := by decide +kernel
theorem dX4_asks_55 : decode cX4_asks 55 = .ok (.iload 5, 2) := by decide +kernel
theorem dX4_asks_57 : decode cX4_asks 57 = .ok (.iconst 4, 1) := by decide +kernel
theorem dX4_asks_58 : decode cX4_asks 58 = .ok (.if_icmp .ge 164, 3) := by decide +kernel
theorem dX4_asks_61 : decode cX4_asks 61 = .ok (.iload 5, 2) := by decide +kernel
theorem dX4_asks_63 : decode cX4_asks 63 = .ok (.iconst 2, 1) := by decide +kernel
theorem dX4_asks_64 : decode cX4_asks 64 = .ok (.irem, 1) := by decide +kernel
theorem dX4_asks_65 : decode cX4_asks 65 = .ok (.iconst 1, 1) := by decide +kernel
theorem dX4_asks_66 : decode cX4_asks 66 = .ok (.if_icmp .ne 7, 3) := by decide +kernel
theorem dX4_asks_69 : decode cX4_asks 69 = .ok (.iconst 1, 1) := by decide +kernel
theorem dX4_asks_70 : decode cX4_asks 70 = .ok (.goto 4, 3) := by decide +kernel
theorem dX4_asks_73 : decode cX4_asks 73 = .ok (.iconst 0, 1) := by decide +kernel
theorem dX4_asks_74 : decode cX4_asks 74 = .ok (.istore 6, 2) := by decide +kernel
theorem dX4_asks_76 : decode cX4_asks 76 = .ok (.iload 5, 2) := by decide +kernel
theorem dX4_asks_78 : decode cX4_asks 78 = .ok (.iconst 1, 1) := by decide +kernel
theorem dX4_asks_79 : decode cX4_asks 79 = .ok (.if_icmp .le 7, 3) := by decide +kernel
theorem dX4_asks_82 : decode cX4_asks 82 = .ok (.iconst 1, 1) := by decide +kernel
theorem dX4_asks_83 : decode cX4_asks 83 = .ok (.goto 4, 3) := by decide +kernel
theorem dX4_asks_86 : decode cX4_asks 86 = .ok (.iconst 0, 1) := by decide +kernel
theorem dX4_asks_87 : decode cX4_asks 87 = .ok (.istore 7, 2) := by decide +kernel
theorem dX4_asks_89 : decode cX4_asks 89 = .ok (.aload_n 0, 1) := by decide +kernel
theorem dX4_asks_90 : decode cX4_asks 90 = .ok (.iload_n 1, 1) := by decide +kernel
theorem dX4_asks_91 : decode cX4_asks 91 = .ok (.iload_n 3, 1) := by decide +kernel
theorem dX4_asks_92 : decode cX4_asks 92 = .ok (.iload 6, 2) := by decide +kernel
theorem dX4_asks_94 : decode cX4_asks 94 = .ok (.iload 7, 2) := by decide +kernel
theorem dX4_asks_96 : decode cX4_asks 96 = .ok (.iload_n 1, 1) := by decide +kernel
theorem dX4_asks_97 : decode cX4_asks 97 = .ok (.iload_n 2, 1) := by decide +kernel
theorem dX4_asks_98 : decode cX4_asks 98 = .ok (.if_icmp .ge 7, 3) := by decide +kernel
theorem dX4_asks_101 : decode cX4_asks 101 = .ok (.iconst 1, 1) := by decide +kernel
theorem dX4_asks_102 : decode cX4_asks 102 = .ok (.goto 4, 3) := by decide +kernel
theorem dX4_asks_105 : decode cX4_asks 105 = .ok (.iconst 0, 1) := by decide +kernel
theorem dX4_asks_106 : decode cX4_asks 106 = .ok (.invokevirtual 252, 3) := by decide +kernel
theorem dX4_asks_109 : decode cX4_asks 109 = .ok (.aload_n 0, 1) := by decide +kernel
theorem dX4_asks_110 : decode cX4_asks 110 = .ok (.iload_n 1, 1) := by decide +kernel
theorem dX4_asks_111 : decode cX4_asks 111 = .ok (.iload_n 3, 1) := by decide +kernel
theorem dX4_asks_112 : decode cX4_asks 112 = .ok (.iload 6, 2) := by decide +kernel
theorem dX4_asks_114 : decode cX4_asks 114 = .ok (.ifCond .ne 7, 3) := by decide +kernel
theorem dX4_asks_117 : decode cX4_asks 117 = .ok (.iconst 1, 1) := by decide +kernel
theorem dX4_asks_118 : decode cX4_asks 118 = .ok (.goto 4, 3) := by decide +kernel
theorem dX4_asks_121 : decode cX4_asks 121 = .ok (.iconst 0, 1) := by decide +kernel
theorem dX4_asks_122 : decode cX4_asks 122 = .ok (.iload 7, 2) := by decide +kernel
theorem dX4_asks_124 : decode cX4_asks 124 = .ok (.iload_n 1, 1) := by decide +kernel
theorem dX4_asks_125 : decode cX4_asks 125 = .ok (.iload_n 2, 1) := by decide +kernel
theorem dX4_asks_126 : decode cX4_asks 126 = .ok (.if_icmp .ge 7, 3) := by decide +kernel
theorem dX4_asks_129 : decode cX4_asks 129 = .ok (.iconst 1, 1) := by decide +kernel
theorem dX4_asks_130 : decode cX4_asks 130 = .ok (.goto 4, 3) := by decide +kernel
theorem dX4_asks_133 : decode cX4_asks 133 = .ok (.iconst 0, 1) := by decide +kernel
theorem dX4_asks_134 : decode cX4_asks 134 = .ok (.invokevirtual 252, 3) := by decide +kernel
theorem dX4_asks_137 : decode cX4_asks 137 = .ok (.if_icmp .lt 58, 3) := by decide +kernel
theorem dX4_asks_140 : decode cX4_asks 140 = .ok (.aload_n 0, 1) := by decide +kernel
theorem dX4_asks_141 : decode cX4_asks 141 = .ok (.iload_n 2, 1) := by decide +kernel
theorem dX4_asks_142 : decode cX4_asks 142 = .ok (.iload_n 3, 1) := by decide +kernel
theorem dX4_asks_143 : decode cX4_asks 143 = .ok (.iload 7, 2) := by decide +kernel
theorem dX4_asks_145 : decode cX4_asks 145 = .ok (.iload 6, 2) := by decide +kernel
theorem dX4_asks_147 : decode cX4_asks 147 = .ok (.iload_n 2, 1) := by decide +kernel
theorem dX4_asks_148 : decode cX4_asks 148 = .ok (.iload_n 1, 1) := by decide +kernel
theorem dX4_asks_149 : decode cX4_asks 149 = .ok (.if_icmp .ge 7, 3) := by decide +kernel
theorem dX4_asks_152 : decode cX4_asks 152 = .ok (.iconst 1, 1) := by decide +kernel
theorem dX4_asks_153 : decode cX4_asks 153 = .ok (.goto 4, 3) := by decide +kernel
theorem dX4_asks_156 : decode cX4_asks 156 = .ok (.iconst 0, 1) := by decide +kernel
theorem dX4_asks_157 : decode cX4_asks 157 = .ok (.invokevirtual 252, 3) := by decide +kernel
theorem dX4_asks_160 : decode cX4_asks 160 = .ok (.aload_n 0, 1) := by decide +kernel
theorem dX4_asks_161 : decode cX4_asks 161 = .ok (.iload_n 2, 1) := by decide +kernel
theorem dX4_asks_162 : decode cX4_asks 162 = .ok (.iload_n 3, 1) := by decide +kernel
theorem dX4_asks_163 : decode cX4_asks 163 = .ok (.iload 7, 2) := by decide +kernel
theorem dX4_asks_165 : decode cX4_asks 165 = .ok (.ifCond .ne 7, 3) := by decide +kernel
theorem dX4_asks_168 : decode cX4_asks 168 = .ok (.iconst 1, 1) := by decide +kernel
theorem dX4_asks_169 : decode cX4_asks 169 = .ok (.goto 4, 3) := by decide +kernel
theorem dX4_asks_172 : decode cX4_asks 172 = .ok (.iconst 0, 1) := by decide +kernel
theorem dX4_asks_173 : decode cX4_asks 173 = .ok (.iload 6, 2) := by decide +kernel
theorem dX4_asks_175 : decode cX4_asks 175 = .ok (.iload_n 2, 1) := by decide +kernel
theorem dX4_asks_176 : decode cX4_asks 176 = .ok (.iload_n 1, 1) := by decide +kernel
theorem dX4_asks_177 : decode cX4_asks 177 = .ok (.if_icmp .ge 7, 3) := by decide +kernel
theorem dX4_asks_180 : decode cX4_asks 180 = .ok (.iconst 1, 1) := by decide +kernel
theorem dX4_asks_181 : decode cX4_asks 181 = .ok (.goto 4, 3) := by decide +kernel
theorem dX4_asks_184 : decode cX4_asks 184 = .ok (.iconst 0, 1) := by decide +kernel
theorem dX4_asks_185 : decode cX4_asks 185 = .ok (.invokevirtual 252, 3) := by decide +kernel
theorem dX4_asks_188 : decode cX4_asks 188 = .ok (.if_icmp .lt 7, 3) := by decide +kernel
theorem dX4_asks_191 : decode cX4_asks 191 = .ok (.iconst 1, 1) := by decide +kernel
theorem dX4_asks_192 : decode cX4_asks 192 = .ok (.goto 4, 3) := by decide +kernel
theorem dX4_asks_195 : decode cX4_asks 195 = .ok (.iconst 0, 1) := by decide +kernel
theorem dX4_asks_196 : decode cX4_asks 196 = .ok (.istore 8, 2) := by decide +kernel
theorem dX4_asks_198 : decode cX4_asks 198 = .ok (.iload 4, 2) := by decide +kernel
theorem dX4_asks_200 : decode cX4_asks 200 = .ok (.iload 8, 2) := by decide +kernel
theorem dX4_asks_202 : decode cX4_asks 202 = .ok (.ifCond .eq 10, 3) := by decide +kernel
theorem dX4_asks_205 : decode cX4_asks 205 = .ok (.iconst 1, 1) := by decide +kernel
theorem dX4_asks_206 : decode cX4_asks 206 = .ok (.iload 5, 2) := by decide +kernel
theorem dX4_asks_208 : decode cX4_asks 208 = .ok (.ishl, 1) := by decide +kernel
theorem dX4_asks_209 : decode cX4_asks 209 = .ok (.goto 4, 3) := by decide +kernel
theorem dX4_asks_212 : decode cX4_asks 212 = .ok (.iconst 0, 1) := by decide +kernel
theorem dX4_asks_213 : decode cX4_asks 213 = .ok (.ior, 1) := by decide +kernel
theorem dX4_asks_214 : decode cX4_asks 214 = .ok (.istore 4, 2) := by decide +kernel
theorem dX4_asks_216 : decode cX4_asks 216 = .ok (.iinc 5 1, 3) := by decide +kernel
theorem dX4_asks_219 : decode cX4_asks 219 = .ok (.goto (-164), 3) := by decide +kernel
theorem dX4_asks_222 : decode cX4_asks 222 = .ok (.iload 4, 2) := by decide +kernel
theorem dX4_asks_224 : decode cX4_asks 224 = .ok (.ireturn, 1) := by decide +kernel
theorem dX4_lay_0 : decode cX4_lay 0 = .ok (.lload_n 1, 1) := by decide +kernel
theorem dX4_lay_1 : decode cX4_lay 1 = .ok (.lstore 5, 2) := by decide +kernel
theorem dX4_lay_3 : decode cX4_lay 3 = .ok (.lload_n 3, 1) := by decide +kernel
theorem dX4_lay_4 : decode cX4_lay 4 = .ok (.lstore 7, 2) := by decide +kernel
theorem dX4_lay_6 : decode cX4_lay 6 = .ok (.lload 7, 2) := by decide +kernel
theorem dX4_lay_8 : decode cX4_lay 8 = .ok (.lconst 0, 1) := by decide +kernel
theorem dX4_lay_9 : decode cX4_lay 9 = .ok (.lcmp, 1) := by decide +kernel
theorem dX4_lay_10 : decode cX4_lay 10 = .ok (.ifCond .eq 21, 3) := by decide +kernel
theorem dX4_lay_13 : decode cX4_lay 13 = .ok (.lload 5, 2) := by decide +kernel
theorem dX4_lay_15 : decode cX4_lay 15 = .ok (.lload 7, 2) := by decide +kernel
theorem dX4_lay_17 : decode cX4_lay 17 = .ok (.lrem, 1) := by decide +kernel
theorem dX4_lay_18 : decode cX4_lay 18 = .ok (.lstore 9, 2) := by decide +kernel
theorem dX4_lay_20 : decode cX4_lay 20 = .ok (.lload 7, 2) := by decide +kernel
theorem dX4_lay_22 : decode cX4_lay 22 = .ok (.lstore 5, 2) := by decide +kernel
theorem dX4_lay_24 : decode cX4_lay 24 = .ok (.lload 9, 2) := by decide +kernel
theorem dX4_lay_26 : decode cX4_lay 26 = .ok (.lstore 7, 2) := by decide +kernel
theorem dX4_lay_28 : decode cX4_lay 28 = .ok (.goto (-22), 3) := by decide +kernel
theorem dX4_lay_31 : decode cX4_lay 31 = .ok (.aload_n 0, 1) := by decide +kernel
theorem dX4_lay_32 : decode cX4_lay 32 = .ok (.lload_n 1, 1) := by decide +kernel
theorem dX4_lay_33 : decode cX4_lay 33 = .ok (.lload 5, 2) := by decide +kernel
theorem dX4_lay_35 : decode cX4_lay 35 = .ok (.ldiv, 1) := by decide +kernel
theorem dX4_lay_36 : decode cX4_lay 36 = .ok (.putfield 256, 3) := by decide +kernel
theorem dX4_lay_39 : decode cX4_lay 39 = .ok (.aload_n 0, 1) := by decide +kernel
theorem dX4_lay_40 : decode cX4_lay 40 = .ok (.lload_n 3, 1) := by decide +kernel
theorem dX4_lay_41 : decode cX4_lay 41 = .ok (.lload 5, 2) := by decide +kernel
theorem dX4_lay_43 : decode cX4_lay 43 = .ok (.ldiv, 1) := by decide +kernel
theorem dX4_lay_44 : decode cX4_lay 44 = .ok (.putfield 67, 3) := by decide +kernel
theorem dX4_lay_47 : decode cX4_lay 47 = .ok (.return_, 1) := by decide +kernel
theorem dX4_atCounter_0 : decode cX4_atCounter 0 = .ok (.iconst 0, 1) := by decide +kernel
theorem dX4_atCounter_1 : decode cX4_atCounter 1 = .ok (.istore_n 1, 1) := by decide +kernel
theorem dX4_atCounter_2 : decode cX4_atCounter 2 = .ok (.iconst 0, 1) := by decide +kernel
theorem dX4_atCounter_3 : decode cX4_atCounter 3 = .ok (.istore_n 2, 1) := by decide +kernel
theorem dX4_atCounter_4 : decode cX4_atCounter 4 = .ok (.iload_n 2, 1) := by decide +kernel
theorem dX4_atCounter_5 : decode cX4_atCounter 5 = .ok (.aload_n 0, 1) := by decide +kernel
theorem dX4_atCounter_6 : decode cX4_atCounter 6 = .ok (.getfield 80, 3) := by decide +kernel
theorem dX4_atCounter_9 : decode cX4_atCounter 9 = .ok (.if_icmp .ge 29, 3) := by decide +kernel
theorem dX4_atCounter_12 : decode cX4_atCounter 12 = .ok (.iload_n 1, 1) := by decide +kernel
theorem dX4_atCounter_13 : decode cX4_atCounter 13 = .ok (.aload_n 0, 1) := by decide +kernel
theorem dX4_atCounter_14 : decode cX4_atCounter 14 = .ok (.getfield 22, 3) := by decide +kernel
theorem dX4_atCounter_17 : decode cX4_atCounter 17 = .ok (.iload_n 2, 1) := by decide +kernel
theorem dX4_atCounter_18 : decode cX4_atCounter 18 = .ok (.iaload, 1) := by decide +kernel
theorem dX4_atCounter_19 : decode cX4_atCounter 19 = .ok (.iconst (-1), 1) := by decide +kernel
theorem dX4_atCounter_20 : decode cX4_atCounter 20 = .ok (.if_icmp .ne 9, 3) := by decide +kernel
theorem dX4_atCounter_23 : decode cX4_atCounter 23 = .ok (.iconst 1, 1) := by decide +kernel
theorem dX4_atCounter_24 : decode cX4_atCounter 24 = .ok (.iload_n 2, 1) := by decide +kernel
theorem dX4_atCounter_25 : decode cX4_atCounter 25 = .ok (.ishl, 1) := by decide +kernel
theorem dX4_atCounter_26 : decode cX4_atCounter 26 = .ok (.goto 4, 3) := by decide +kernel
theorem dX4_atCounter_29 : decode cX4_atCounter 29 = .ok (.iconst 0, 1) := by decide +kernel
theorem dX4_atCounter_30 : decode cX4_atCounter 30 = .ok (.ior, 1) := by decide +kernel
theorem dX4_atCounter_31 : decode cX4_atCounter 31 = .ok (.istore_n 1, 1) := by decide +kernel
theorem dX4_atCounter_32 : decode cX4_atCounter 32 = .ok (.iinc 2 1, 3) := by decide +kernel
theorem dX4_atCounter_35 : decode cX4_atCounter 35 = .ok (.goto (-31), 3) := by decide +kernel
theorem dX4_atCounter_38 : decode cX4_atCounter 38 = .ok (.iload_n 1, 1) := by decide +kernel
theorem dX4_atCounter_39 : decode cX4_atCounter 39 = .ok (.ireturn, 1) := by decide +kernel
theorem dX4_bits_0 : decode cX4_bits 0 = .ok (.iconst 0, 1) := by decide +kernel
theorem dX4_bits_1 : decode cX4_bits 1 = .ok (.istore_n 1, 1) := by decide +kernel
theorem dX4_bits_2 : decode cX4_bits 2 = .ok (.iconst 0, 1) := by decide +kernel
theorem dX4_bits_3 : decode cX4_bits 3 = .ok (.istore_n 2, 1) := by decide +kernel
theorem dX4_bits_4 : decode cX4_bits 4 = .ok (.iload_n 2, 1) := by decide +kernel
theorem dX4_bits_5 : decode cX4_bits 5 = .ok (.bipush 6, 2) := by decide +kernel
theorem dX4_bits_7 : decode cX4_bits 7 = .ok (.if_icmp .ge 17, 3) := by decide +kernel
theorem dX4_bits_10 : decode cX4_bits 10 = .ok (.iload_n 1, 1) := by decide +kernel
theorem dX4_bits_11 : decode cX4_bits 11 = .ok (.iload_n 0, 1) := by decide +kernel
theorem dX4_bits_12 : decode cX4_bits 12 = .ok (.iload_n 2, 1) := by decide +kernel
theorem dX4_bits_13 : decode cX4_bits 13 = .ok (.ishr, 1) := by decide +kernel
theorem dX4_bits_14 : decode cX4_bits 14 = .ok (.iconst 1, 1) := by decide +kernel
theorem dX4_bits_15 : decode cX4_bits 15 = .ok (.iand, 1) := by decide +kernel
theorem dX4_bits_16 : decode cX4_bits 16 = .ok (.iadd, 1) := by decide +kernel
theorem dX4_bits_17 : decode cX4_bits 17 = .ok (.istore_n 1, 1) := by decide +kernel
theorem dX4_bits_18 : decode cX4_bits 18 = .ok (.iinc 2 1, 3) := by decide +kernel
theorem dX4_bits_21 : decode cX4_bits 21 = .ok (.goto (-17), 3) := by decide +kernel
theorem dX4_bits_24 : decode cX4_bits 24 = .ok (.iload_n 1, 1) := by decide +kernel
theorem dX4_bits_25 : decode cX4_bits 25 = .ok (.ireturn, 1) := by decide +kernel
theorem dX4_thieves_0 : decode cX4_thieves 0 = .ok (.iload_n 1, 1) := by decide +kernel
theorem dX4_thieves_1 : decode cX4_thieves 1 = .ok (.iconst 0, 1) := by decide +kernel
theorem dX4_thieves_2 : decode cX4_thieves 2 = .ok (.bipush 6, 2) := by decide +kernel
theorem dX4_thieves_4 : decode cX4_thieves 4 = .ok (.invokestatic 93, 3) := by decide +kernel
theorem dX4_thieves_7 : decode cX4_thieves 7 = .ok (.ifCond .eq 13, 3) := by decide +kernel
theorem dX4_thieves_10 : decode cX4_thieves 10 = .ok (.iload_n 2, 1) := by decide +kernel
theorem dX4_thieves_11 : decode cX4_thieves 11 = .ok (.iconst 0, 1) := by decide +kernel
theorem dX4_thieves_12 : decode cX4_thieves 12 = .ok (.bipush 10, 2) := by decide +kernel
theorem dX4_thieves_14 : decode cX4_thieves 14 = .ok (.invokestatic 93, 3) := by decide +kernel
theorem dX4_thieves_17 : decode cX4_thieves 17 = .ok (.ifCond .ne 8, 3) := by decide +kernel
theorem dX4_thieves_20 : decode cX4_thieves 20 = .ok (.aload_n 0, 1) := by decide +kernel
theorem dX4_thieves_21 : decode cX4_thieves 21 = .ok (.invokevirtual 97, 3) := by decide +kernel
theorem dX4_thieves_24 : decode cX4_thieves 24 = .ok (.ireturn, 1) := by decide +kernel
theorem dX4_thieves_25 : decode cX4_thieves 25 = .ok (.aload_n 0, 1) := by decide +kernel
theorem dX4_thieves_26 : decode cX4_thieves 26 = .ok (.invokevirtual 259, 3) := by decide +kernel
theorem dX4_thieves_29 : decode cX4_thieves 29 = .ok (.istore_n 3, 1) := by decide +kernel
theorem dX4_thieves_30 : decode cX4_thieves 30 = .ok (.lconst 0, 1) := by decide +kernel
theorem dX4_thieves_31 : decode cX4_thieves 31 = .ok (.lstore 4, 2) := by decide +kernel
theorem dX4_thieves_33 : decode cX4_thieves 33 = .ok (.lconst 1, 1) := by decide +kernel
theorem dX4_thieves_34 : decode cX4_thieves 34 = .ok (.lstore 6, 2) := by decide +kernel
theorem dX4_thieves_36 : decode cX4_thieves 36 = .ok (.iconst 0, 1) := by decide +kernel
theorem dX4_thieves_37 : decode cX4_thieves 37 = .ok (.istore 8, 2) := by decide +kernel
theorem dX4_thieves_39 : decode cX4_thieves 39 = .ok (.iload 8, 2) := by decide +kernel
theorem dX4_thieves_41 : decode cX4_thieves 41 = .ok (.aload_n 0, 1) := by decide +kernel
theorem dX4_thieves_42 : decode cX4_thieves 42 = .ok (.getfield 80, 3) := by decide +kernel
theorem dX4_thieves_45 : decode cX4_thieves 45 = .ok (.if_icmp .ge 30, 3) := by decide +kernel
theorem dX4_thieves_48 : decode cX4_thieves 48 = .ok (.lload 6, 2) := by decide +kernel
theorem dX4_thieves_50 : decode cX4_thieves 50 = .ok (.iload_n 3, 1) := by decide +kernel
theorem dX4_thieves_51 : decode cX4_thieves 51 = .ok (.iload 8, 2) := by decide +kernel
theorem dX4_thieves_53 : decode cX4_thieves 53 = .ok (.invokestatic 245, 3) := by decide +kernel
theorem dX4_thieves_56 : decode cX4_thieves 56 = .ok (.ifCond .eq 9, 3) := by decide +kernel
theorem dX4_thieves_59 : decode cX4_thieves 59 = .ok (.ldc2_w 262, 3) := by decide +kernel
theorem dX4_thieves_62 : decode cX4_thieves 62 = .ok (.goto 4, 3) := by decide +kernel
theorem dX4_thieves_65 : decode cX4_thieves 65 = .ok (.lconst 1, 1) := by decide +kernel
theorem dX4_thieves_66 : decode cX4_thieves 66 = .ok (.lmul, 1) := by decide +kernel
theorem dX4_thieves_67 : decode cX4_thieves 67 = .ok (.lstore 6, 2) := by decide +kernel
theorem dX4_thieves_69 : decode cX4_thieves 69 = .ok (.iinc 8 1, 3) := by decide +kernel
theorem dX4_thieves_72 : decode cX4_thieves 72 = .ok (.goto (-33), 3) := by decide +kernel
theorem dX4_thieves_75 : decode cX4_thieves 75 = .ok (.iconst 0, 1) := by decide +kernel
theorem dX4_thieves_76 : decode cX4_thieves 76 = .ok (.istore 8, 2) := by decide +kernel
theorem dX4_thieves_78 : decode cX4_thieves 78 = .ok (.iload 8, 2) := by decide +kernel
theorem dX4_thieves_80 : decode cX4_thieves 80 = .ok (.iload_n 3, 1) := by decide +kernel
theorem dX4_thieves_81 : decode cX4_thieves 81 = .ok (.if_icmp .gt 93, 3) := by decide +kernel
theorem dX4_thieves_84 : decode cX4_thieves 84 = .ok (.iload 8, 2) := by decide +kernel
theorem dX4_thieves_86 : decode cX4_thieves 86 = .ok (.iload_n 3, 1) := by decide +kernel
theorem dX4_thieves_87 : decode cX4_thieves 87 = .ok (.iconst (-1), 1) := by decide +kernel
theorem dX4_thieves_88 : decode cX4_thieves 88 = .ok (.ixor, 1) := by decide +kernel
theorem dX4_thieves_89 : decode cX4_thieves 89 = .ok (.iand, 1) := by decide +kernel
theorem dX4_thieves_90 : decode cX4_thieves 90 = .ok (.ifCond .ne 78, 3) := by decide +kernel
theorem dX4_thieves_93 : decode cX4_thieves 93 = .ok (.iload 8, 2) := by decide +kernel
theorem dX4_thieves_95 : decode cX4_thieves 95 = .ok (.invokestatic 264, 3) := by decide +kernel
theorem dX4_thieves_98 : decode cX4_thieves 98 = .ok (.iload_n 1, 1) := by decide +kernel
theorem dX4_thieves_99 : decode cX4_thieves 99 = .ok (.if_icmp .lt 69, 3) := by decide +kernel
theorem dX4_thieves_102 : decode cX4_thieves 102 = .ok (.lconst 1, 1) := by decide +kernel
theorem dX4_thieves_103 : decode cX4_thieves 103 = .ok (.lstore 9, 2) := by decide +kernel
theorem dX4_thieves_105 : decode cX4_thieves 105 = .ok (.iconst 0, 1) := by decide +kernel
theorem dX4_thieves_106 : decode cX4_thieves 106 = .ok (.istore 11, 2) := by decide +kernel
theorem dX4_thieves_108 : decode cX4_thieves 108 = .ok (.iload 11, 2) := by decide +kernel
theorem dX4_thieves_110 : decode cX4_thieves 110 = .ok (.aload_n 0, 1) := by decide +kernel
theorem dX4_thieves_111 : decode cX4_thieves 111 = .ok (.getfield 80, 3) := by decide +kernel
theorem dX4_thieves_114 : decode cX4_thieves 114 = .ok (.if_icmp .ge 47, 3) := by decide +kernel
theorem dX4_thieves_117 : decode cX4_thieves 117 = .ok (.lload 9, 2) := by decide +kernel
theorem dX4_thieves_119 : decode cX4_thieves 119 = .ok (.iload_n 3, 1) := by decide +kernel
theorem dX4_thieves_120 : decode cX4_thieves 120 = .ok (.iload 11, 2) := by decide +kernel
theorem dX4_thieves_122 : decode cX4_thieves 122 = .ok (.invokestatic 245, 3) := by decide +kernel
theorem dX4_thieves_125 : decode cX4_thieves 125 = .ok (.ifCond .ne 7, 3) := by decide +kernel
theorem dX4_thieves_128 : decode cX4_thieves 128 = .ok (.lconst 1, 1) := by decide +kernel
theorem dX4_thieves_129 : decode cX4_thieves 129 = .ok (.goto 23, 3) := by decide +kernel
theorem dX4_thieves_132 : decode cX4_thieves 132 = .ok (.iload 8, 2) := by decide +kernel
theorem dX4_thieves_134 : decode cX4_thieves 134 = .ok (.iload 11, 2) := by decide +kernel
theorem dX4_thieves_136 : decode cX4_thieves 136 = .ok (.invokestatic 245, 3) := by decide +kernel
theorem dX4_thieves_139 : decode cX4_thieves 139 = .ok (.ifCond .eq 11, 3) := by decide +kernel
theorem dX4_thieves_142 : decode cX4_thieves 142 = .ok (.bipush 10, 2) := by decide +kernel
theorem dX4_thieves_144 : decode cX4_thieves 144 = .ok (.iload_n 2, 1) := by decide +kernel
theorem dX4_thieves_145 : decode cX4_thieves 145 = .ok (.isub, 1) := by decide +kernel
theorem dX4_thieves_146 : decode cX4_thieves 146 = .ok (.i2l, 1) := by decide +kernel
theorem dX4_thieves_147 : decode cX4_thieves 147 = .ok (.goto 5, 3) := by decide +kernel
theorem dX4_thieves_150 : decode cX4_thieves 150 = .ok (.iload_n 2, 1) := by decide +kernel
theorem dX4_thieves_151 : decode cX4_thieves 151 = .ok (.i2l, 1) := by decide +kernel
theorem dX4_thieves_152 : decode cX4_thieves 152 = .ok (.lmul, 1) := by decide +kernel
theorem dX4_thieves_153 : decode cX4_thieves 153 = .ok (.lstore 9, 2) := by decide +kernel
theorem dX4_thieves_155 : decode cX4_thieves 155 = .ok (.iinc 11 1, 3) := by decide +kernel
theorem dX4_thieves_158 : decode cX4_thieves 158 = .ok (.goto (-50), 3) := by decide +kernel
theorem dX4_thieves_161 : decode cX4_thieves 161 = .ok (.lload 4, 2) := by decide +kernel
theorem dX4_thieves_163 : decode cX4_thieves 163 = .ok (.lload 9, 2) := by decide +kernel
theorem dX4_thieves_165 : decode cX4_thieves 165 = .ok (.ladd, 1) := by decide +kernel
theorem dX4_thieves_166 : decode cX4_thieves 166 = .ok (.lstore 4, 2) := by decide +kernel
theorem dX4_thieves_168 : decode cX4_thieves 168 = .ok (.iinc 8 1, 3) := by decide +kernel
theorem dX4_thieves_171 : decode cX4_thieves 171 = .ok (.goto (-93), 3) := by decide +kernel
theorem dX4_thieves_174 : decode cX4_thieves 174 = .ok (.aload_n 0, 1) := by decide +kernel
theorem dX4_thieves_175 : decode cX4_thieves 175 = .ok (.lload 4, 2) := by decide +kernel
theorem dX4_thieves_177 : decode cX4_thieves 177 = .ok (.lload 6, 2) := by decide +kernel
theorem dX4_thieves_179 : decode cX4_thieves 179 = .ok (.invokevirtual 267, 3) := by decide +kernel
theorem dX4_thieves_182 : decode cX4_thieves 182 = .ok (.iconst 1, 1) := by decide +kernel
theorem dX4_thieves_183 : decode cX4_thieves 183 = .ok (.ireturn, 1) := by decide +kernel
theorem dX4_lents_0 : decode cX4_lents 0 = .ok (.iload_n 1, 1) := by decide +kernel
theorem dX4_lents_1 : decode cX4_lents 1 = .ok (.iconst 0, 1) := by decide +kernel
theorem dX4_lents_2 : decode cX4_lents 2 = .ok (.ldc_w 271, 3) := by decide +kernel
theorem dX4_lents_5 : decode cX4_lents 5 = .ok (.invokestatic 93, 3) := by decide +kernel
theorem dX4_lents_8 : decode cX4_lents 8 = .ok (.ifCond .eq 13, 3) := by decide +kernel
theorem dX4_lents_11 : decode cX4_lents 11 = .ok (.iload_n 2, 1) := by decide +kernel
theorem dX4_lents_12 : decode cX4_lents 12 = .ok (.iconst 0, 1) := by decide +kernel
theorem dX4_lents_13 : decode cX4_lents 13 = .ok (.bipush 60, 2) := by decide +kernel
theorem dX4_lents_15 : decode cX4_lents 15 = .ok (.invokestatic 93, 3) := by decide +kernel
theorem dX4_lents_18 : decode cX4_lents 18 = .ok (.ifCond .ne 8, 3) := by decide +kernel
theorem dX4_lents_21 : decode cX4_lents 21 = .ok (.aload_n 0, 1) := by decide +kernel
theorem dX4_lents_22 : decode cX4_lents 22 = .ok (.invokevirtual 97, 3) := by decide +kernel
theorem dX4_lents_25 : decode cX4_lents 25 = .ok (.ireturn, 1) := by decide +kernel
theorem dX4_lents_26 : decode cX4_lents 26 = .ok (.aload_n 0, 1) := by decide +kernel
theorem dX4_lents_27 : decode cX4_lents 27 = .ok (.getfield 80, 3) := by decide +kernel
theorem dX4_lents_30 : decode cX4_lents 30 = .ok (.ifCond .ne 8, 3) := by decide +kernel
theorem dX4_lents_33 : decode cX4_lents 33 = .ok (.aload_n 0, 1) := by decide +kernel
theorem dX4_lents_34 : decode cX4_lents 34 = .ok (.invokevirtual 209, 3) := by decide +kernel
theorem dX4_lents_37 : decode cX4_lents 37 = .ok (.ireturn, 1) := by decide +kernel
theorem dX4_lents_38 : decode cX4_lents 38 = .ok (.aload_n 0, 1) := by decide +kernel
theorem dX4_lents_39 : decode cX4_lents 39 = .ok (.invokevirtual 233, 3) := by decide +kernel
theorem dX4_lents_42 : decode cX4_lents 42 = .ok (.iload_n 1, 1) := by decide +kernel
theorem dX4_lents_43 : decode cX4_lents 43 = .ok (.i2l, 1) := by decide +kernel
theorem dX4_lents_44 : decode cX4_lents 44 = .ok (.lstore_n 3, 1) := by decide +kernel
theorem dX4_lents_45 : decode cX4_lents 45 = .ok (.iconst 0, 1) := by decide +kernel
theorem dX4_lents_46 : decode cX4_lents 46 = .ok (.istore 5, 2) := by decide +kernel
theorem dX4_lents_48 : decode cX4_lents 48 = .ok (.iconst 0, 1) := by decide +kernel
theorem dX4_lents_49 : decode cX4_lents 49 = .ok (.istore 6, 2) := by decide +kernel
theorem dX4_lents_51 : decode cX4_lents 51 = .ok (.iload 6, 2) := by decide +kernel
theorem dX4_lents_53 : decode cX4_lents 53 = .ok (.iload_n 2, 1) := by decide +kernel
theorem dX4_lents_54 : decode cX4_lents 54 = .ok (.if_icmp .ge 121, 3) := by decide +kernel
theorem dX4_lents_57 : decode cX4_lents 57 = .ok (.lload_n 3, 1) := by decide +kernel
theorem dX4_lents_58 : decode cX4_lents 58 = .ok (.ldc2_w 272, 3) := by decide +kernel
theorem dX4_lents_61 : decode cX4_lents 61 = .ok (.lmul, 1) := by decide +kernel
theorem dX4_lents_62 : decode cX4_lents 62 = .ok (.ldc2_w 274, 3) := by decide +kernel
theorem dX4_lents_65 : decode cX4_lents 65 = .ok (.ladd, 1) := by decide +kernel
theorem dX4_lents_66 : decode cX4_lents 66 = .ok (.ldc2_w 276, 3) := by decide +kernel
theorem dX4_lents_69 : decode cX4_lents 69 = .ok (.lrem, 1) := by decide +kernel
theorem dX4_lents_70 : decode cX4_lents 70 = .ok (.lstore_n 3, 1) := by decide +kernel
theorem dX4_lents_71 : decode cX4_lents 71 = .ok (.lload_n 3, 1) := by decide +kernel
theorem dX4_lents_72 : decode cX4_lents 72 = .ok (.ldc2_w 278, 3) := by decide +kernel
theorem dX4_lents_75 : decode cX4_lents 75 = .ok (.ldiv, 1) := by decide +kernel
theorem dX4_lents_76 : decode cX4_lents 76 = .ok (.aload_n 0, 1) := by decide +kernel
theorem dX4_lents_77 : decode cX4_lents 77 = .ok (.getfield 80, 3) := by decide +kernel
theorem dX4_lents_80 : decode cX4_lents 80 = .ok (.i2l, 1) := by decide +kernel
theorem dX4_lents_81 : decode cX4_lents 81 = .ok (.lrem, 1) := by decide +kernel
theorem dX4_lents_82 : decode cX4_lents 82 = .ok (.l2i, 1) := by decide +kernel
theorem dX4_lents_83 : decode cX4_lents 83 = .ok (.istore 7, 2) := by decide +kernel
theorem dX4_lents_85 : decode cX4_lents 85 = .ok (.lload_n 3, 1) := by decide +kernel
theorem dX4_lents_86 : decode cX4_lents 86 = .ok (.ldc2_w 272, 3) := by decide +kernel
theorem dX4_lents_89 : decode cX4_lents 89 = .ok (.lmul, 1) := by decide +kernel
theorem dX4_lents_90 : decode cX4_lents 90 = .ok (.ldc2_w 274, 3) := by decide +kernel
theorem dX4_lents_93 : decode cX4_lents 93 = .ok (.ladd, 1) := by decide +kernel
theorem dX4_lents_94 : decode cX4_lents 94 = .ok (.ldc2_w 276, 3) := by decide +kernel
theorem dX4_lents_97 : decode cX4_lents 97 = .ok (.lrem, 1) := by decide +kernel
theorem dX4_lents_98 : decode cX4_lents 98 = .ok (.lstore_n 3, 1) := by decide +kernel
theorem dX4_lents_99 : decode cX4_lents 99 = .ok (.lload_n 3, 1) := by decide +kernel
theorem dX4_lents_100 : decode cX4_lents 100 = .ok (.ldc2_w 278, 3) := by decide +kernel
theorem dX4_lents_103 : decode cX4_lents 103 = .ok (.ldiv, 1) := by decide +kernel
theorem dX4_lents_104 : decode cX4_lents 104 = .ok (.aload_n 0, 1) := by decide +kernel
theorem dX4_lents_105 : decode cX4_lents 105 = .ok (.getfield 80, 3) := by decide +kernel
theorem dX4_lents_108 : decode cX4_lents 108 = .ok (.i2l, 1) := by decide +kernel
theorem dX4_lents_109 : decode cX4_lents 109 = .ok (.lrem, 1) := by decide +kernel
theorem dX4_lents_110 : decode cX4_lents 110 = .ok (.l2i, 1) := by decide +kernel
theorem dX4_lents_111 : decode cX4_lents 111 = .ok (.istore 8, 2) := by decide +kernel
theorem dX4_lents_113 : decode cX4_lents 113 = .ok (.aload_n 0, 1) := by decide +kernel
theorem dX4_lents_114 : decode cX4_lents 114 = .ok (.getfield 22, 3) := by decide +kernel
theorem dX4_lents_117 : decode cX4_lents 117 = .ok (.iload 8, 2) := by decide +kernel
theorem dX4_lents_119 : decode cX4_lents 119 = .ok (.iaload, 1) := by decide +kernel
theorem dX4_lents_120 : decode cX4_lents 120 = .ok (.iconst (-1), 1) := by decide +kernel
theorem dX4_lents_121 : decode cX4_lents 121 = .ok (.if_icmp .ne 15, 3) := by decide +kernel
theorem dX4_lents_124 : decode cX4_lents 124 = .ok (.aload_n 0, 1) := by decide +kernel
theorem dX4_lents_125 : decode cX4_lents 125 = .ok (.iload 8, 2) := by decide +kernel
theorem dX4_lents_127 : decode cX4_lents 127 = .ok (.iload 7, 2) := by decide +kernel
theorem dX4_lents_129 : decode cX4_lents 129 = .ok (.invokevirtual 215, 3) := by decide +kernel
theorem dX4_lents_132 : decode cX4_lents 132 = .ok (.pop, 1) := by decide +kernel
theorem dX4_lents_133 : decode cX4_lents 133 = .ok (.goto 23, 3) := by decide +kernel
theorem dX4_lents_136 : decode cX4_lents 136 = .ok (.aload_n 0, 1) := by decide +kernel
theorem dX4_lents_137 : decode cX4_lents 137 = .ok (.iload 7, 2) := by decide +kernel
theorem dX4_lents_139 : decode cX4_lents 139 = .ok (.invokevirtual 183, 3) := by decide +kernel
theorem dX4_lents_142 : decode cX4_lents 142 = .ok (.iconst (-1), 1) := by decide +kernel
theorem dX4_lents_143 : decode cX4_lents 143 = .ok (.if_icmp .eq 13, 3) := by decide +kernel
theorem dX4_lents_146 : decode cX4_lents 146 = .ok (.aload_n 0, 1) := by decide +kernel
theorem dX4_lents_147 : decode cX4_lents 147 = .ok (.aload_n 0, 1) := by decide +kernel
theorem dX4_lents_148 : decode cX4_lents 148 = .ok (.iload 7, 2) := by decide +kernel
theorem dX4_lents_150 : decode cX4_lents 150 = .ok (.invokevirtual 183, 3) := by decide +kernel
theorem dX4_lents_153 : decode cX4_lents 153 = .ok (.invokevirtual 196, 3) := by decide +kernel
theorem dX4_lents_156 : decode cX4_lents 156 = .ok (.aload_n 0, 1) := by decide +kernel
theorem dX4_lents_157 : decode cX4_lents 157 = .ok (.invokevirtual 218, 3) := by decide +kernel
theorem dX4_lents_160 : decode cX4_lents 160 = .ok (.istore 9, 2) := by decide +kernel
theorem dX4_lents_162 : decode cX4_lents 162 = .ok (.iload 5, 2) := by decide +kernel
theorem dX4_lents_164 : decode cX4_lents 164 = .ok (.iload 9, 2) := by decide +kernel
theorem dX4_lents_166 : decode cX4_lents 166 = .ok (.iadd, 1) := by decide +kernel
theorem dX4_lents_167 : decode cX4_lents 167 = .ok (.istore 5, 2) := by decide +kernel
theorem dX4_lents_169 : decode cX4_lents 169 = .ok (.iinc 6 1, 3) := by decide +kernel
theorem dX4_lents_172 : decode cX4_lents 172 = .ok (.goto (-121), 3) := by decide +kernel
theorem dX4_lents_175 : decode cX4_lents 175 = .ok (.aload_n 0, 1) := by decide +kernel
theorem dX4_lents_176 : decode cX4_lents 176 = .ok (.invokevirtual 239, 3) := by decide +kernel
theorem dX4_lents_179 : decode cX4_lents 179 = .ok (.iload 5, 2) := by decide +kernel
theorem dX4_lents_181 : decode cX4_lents 181 = .ok (.ireturn, 1) := by decide +kernel
theorem dX4_part_0 : decode cX4_part 0 = .ok (.iload_n 1, 1) := by decide +kernel
theorem dX4_part_1 : decode cX4_part 1 = .ok (.ifCond .ne 10, 3) := by decide +kernel
theorem dX4_part_4 : decode cX4_part 4 = .ok (.aload_n 0, 1) := by decide +kernel
theorem dX4_part_5 : decode cX4_part 5 = .ok (.getfield 256, 3) := by decide +kernel
theorem dX4_part_8 : decode cX4_part 8 = .ok (.goto 20, 3) := by decide +kernel
theorem dX4_part_11 : decode cX4_part 11 = .ok (.iload_n 1, 1) := by decide +kernel
theorem dX4_part_12 : decode cX4_part 12 = .ok (.iconst 1, 1) := by decide +kernel
theorem dX4_part_13 : decode cX4_part 13 = .ok (.if_icmp .ne 10, 3) := by decide +kernel
theorem dX4_part_16 : decode cX4_part 16 = .ok (.aload_n 0, 1) := by decide +kernel
theorem dX4_part_17 : decode cX4_part 17 = .ok (.getfield 67, 3) := by decide +kernel
theorem dX4_part_20 : decode cX4_part 20 = .ok (.goto 8, 3) := by decide +kernel
theorem dX4_part_23 : decode cX4_part 23 = .ok (.aload_n 0, 1) := by decide +kernel
theorem dX4_part_24 : decode cX4_part 24 = .ok (.invokevirtual 97, 3) := by decide +kernel
theorem dX4_part_27 : decode cX4_part 27 = .ok (.i2l, 1) := by decide +kernel
theorem dX4_part_28 : decode cX4_part 28 = .ok (.lreturn, 1) := by decide +kernel
theorem dX4_image_0 : decode cX4_image 0 = .ok (.iload_n 1, 1) := by decide +kernel
theorem dX4_image_1 : decode cX4_image 1 = .ok (.iconst 0, 1) := by decide +kernel
theorem dX4_image_2 : decode cX4_image 2 = .ok (.iconst 1, 1) := by decide +kernel
theorem dX4_image_3 : decode cX4_image 3 = .ok (.invokestatic 93, 3) := by decide +kernel
theorem dX4_image_6 : decode cX4_image 6 = .ok (.ifCond .ne 8, 3) := by decide +kernel
theorem dX4_image_9 : decode cX4_image 9 = .ok (.aload_n 0, 1) := by decide +kernel
theorem dX4_image_10 : decode cX4_image 10 = .ok (.invokevirtual 97, 3) := by decide +kernel
theorem dX4_image_13 : decode cX4_image 13 = .ok (.ireturn, 1) := by decide +kernel
theorem dX4_image_14 : decode cX4_image 14 = .ok (.sipush 230, 3) := by decide +kernel
theorem dX4_image_17 : decode cX4_image 17 = .ok (.iload_n 1, 1) := by decide +kernel
theorem dX4_image_18 : decode cX4_image 18 = .ok (.imul, 1) := by decide +kernel
theorem dX4_image_19 : decode cX4_image 19 = .ok (.istore_n 2, 1) := by decide +kernel
theorem dX4_image_20 : decode cX4_image 20 = .ok (.aload_n 0, 1) := by decide +kernel
theorem dX4_image_21 : decode cX4_image 21 = .ok (.getfield 74, 3) := by decide +kernel
theorem dX4_image_24 : decode cX4_image 24 = .ok (.iload_n 1, 1) := by decide +kernel
theorem dX4_image_25 : decode cX4_image 25 = .ok (.iconst 1, 1) := by decide +kernel
theorem dX4_image_26 : decode cX4_image 26 = .ok (.iastore, 1) := by decide +kernel
theorem dX4_image_27 : decode cX4_image 27 = .ok (.aload_n 0, 1) := by decide +kernel
theorem dX4_image_28 : decode cX4_image 28 = .ok (.getfield 71, 3) := by decide +kernel
theorem dX4_image_31 : decode cX4_image 31 = .ok (.iload_n 2, 1) := by decide +kernel
theorem dX4_image_32 : decode cX4_image 32 = .ok (.aload_n 0, 1) := by decide +kernel
theorem dX4_image_33 : decode cX4_image 33 = .ok (.getfield 80, 3) := by decide +kernel
theorem dX4_image_36 : decode cX4_image 36 = .ok (.iastore, 1) := by decide +kernel
theorem dX4_image_37 : decode cX4_image 37 = .ok (.aload_n 0, 1) := by decide +kernel
theorem dX4_image_38 : decode cX4_image 38 = .ok (.getfield 71, 3) := by decide +kernel
theorem dX4_image_41 : decode cX4_image 41 = .ok (.iload_n 2, 1) := by decide +kernel
theorem dX4_image_42 : decode cX4_image 42 = .ok (.iconst 1, 1) := by decide +kernel
theorem dX4_image_43 : decode cX4_image 43 = .ok (.iadd, 1) := by decide +kernel
theorem dX4_image_44 : decode cX4_image 44 = .ok (.aload_n 0, 1) := by decide +kernel
theorem dX4_image_45 : decode cX4_image 45 = .ok (.getfield 87, 3) := by decide +kernel
theorem dX4_image_48 : decode cX4_image 48 = .ok (.iastore, 1) := by decide +kernel
theorem dX4_image_49 : decode cX4_image 49 = .ok (.aload_n 0, 1) := by decide +kernel
theorem dX4_image_50 : decode cX4_image 50 = .ok (.getfield 71, 3) := by decide +kernel
theorem dX4_image_53 : decode cX4_image 53 = .ok (.iload_n 2, 1) := by decide +kernel
theorem dX4_image_54 : decode cX4_image 54 = .ok (.iconst 2, 1) := by decide +kernel
theorem dX4_image_55 : decode cX4_image 55 = .ok (.iadd, 1) := by decide +kernel
theorem dX4_image_56 : decode cX4_image 56 = .ok (.aload_n 0, 1) := by decide +kernel
theorem dX4_image_57 : decode cX4_image 57 = .ok (.getfield 90, 3) := by decide +kernel
theorem dX4_image_60 : decode cX4_image 60 = .ok (.iastore, 1) := by decide +kernel
theorem dX4_image_61 : decode cX4_image 61 = .ok (.aload_n 0, 1) := by decide +kernel
theorem dX4_image_62 : decode cX4_image 62 = .ok (.aload_n 0, 1) := by decide +kernel
theorem dX4_image_63 : decode cX4_image 63 = .ok (.getfield 71, 3) := by decide +kernel
theorem dX4_image_66 : decode cX4_image 66 = .ok (.iload_n 2, 1) := by decide +kernel
theorem dX4_image_67 : decode cX4_image 67 = .ok (.iconst 3, 1) := by decide +kernel
theorem dX4_image_68 : decode cX4_image 68 = .ok (.iadd, 1) := by decide +kernel
theorem dX4_image_69 : decode cX4_image 69 = .ok (.invokevirtual 189, 3) := by decide +kernel
theorem dX4_image_72 : decode cX4_image 72 = .ok (.iconst 0, 1) := by decide +kernel
theorem dX4_image_73 : decode cX4_image 73 = .ok (.istore_n 3, 1) := by decide +kernel
theorem dX4_image_74 : decode cX4_image 74 = .ok (.iload_n 3, 1) := by decide +kernel
theorem dX4_image_75 : decode cX4_image 75 = .ok (.bipush 6, 2) := by decide +kernel
theorem dX4_image_77 : decode cX4_image 77 = .ok (.if_icmp .ge 145, 3) := by decide +kernel
theorem dX4_image_80 : decode cX4_image 80 = .ok (.aload_n 0, 1) := by decide +kernel
theorem dX4_image_81 : decode cX4_image 81 = .ok (.getfield 71, 3) := by decide +kernel
theorem dX4_image_84 : decode cX4_image 84 = .ok (.iload_n 2, 1) := by decide +kernel
theorem dX4_image_85 : decode cX4_image 85 = .ok (.bipush 22, 2) := by decide +kernel
theorem dX4_image_87 : decode cX4_image 87 = .ok (.iadd, 1) := by decide +kernel
theorem dX4_image_88 : decode cX4_image 88 = .ok (.iload_n 3, 1) := by decide +kernel
theorem dX4_image_89 : decode cX4_image 89 = .ok (.iadd, 1) := by decide +kernel
theorem dX4_image_90 : decode cX4_image 90 = .ok (.aload_n 0, 1) := by decide +kernel
theorem dX4_image_91 : decode cX4_image 91 = .ok (.getfield 13, 3) := by decide +kernel
theorem dX4_image_94 : decode cX4_image 94 = .ok (.iload_n 3, 1) := by decide +kernel
theorem dX4_image_95 : decode cX4_image 95 = .ok (.iaload, 1) := by decide +kernel
theorem dX4_image_96 : decode cX4_image 96 = .ok (.iastore, 1) := by decide +kernel
theorem dX4_image_97 : decode cX4_image 97 = .ok (.aload_n 0, 1) := by decide +kernel
theorem dX4_image_98 : decode cX4_image 98 = .ok (.getfield 71, 3) := by decide +kernel
theorem dX4_image_101 : decode cX4_image 101 = .ok (.iload_n 2, 1) := by decide +kernel
theorem dX4_image_102 : decode cX4_image 102 = .ok (.bipush 28, 2) := by decide +kernel
theorem dX4_image_104 : decode cX4_image 104 = .ok (.iadd, 1) := by decide +kernel
theorem dX4_image_105 : decode cX4_image 105 = .ok (.iload_n 3, 1) := by decide +kernel
theorem dX4_image_106 : decode cX4_image 106 = .ok (.iadd, 1) := by decide +kernel
theorem dX4_image_107 : decode cX4_image 107 = .ok (.aload_n 0, 1) := by decide +kernel
theorem dX4_image_108 : decode cX4_image 108 = .ok (.getfield 16, 3) := by decide +kernel
theorem dX4_image_111 : decode cX4_image 111 = .ok (.iload_n 3, 1) := by decide +kernel
theorem dX4_image_112 : decode cX4_image 112 = .ok (.iaload, 1) := by decide +kernel
theorem dX4_image_113 : decode cX4_image 113 = .ok (.iastore, 1) := by decide +kernel
theorem dX4_image_114 : decode cX4_image 114 = .ok (.aload_n 0, 1) := by decide +kernel
theorem dX4_image_115 : decode cX4_image 115 = .ok (.getfield 71, 3) := by decide +kernel
theorem dX4_image_118 : decode cX4_image 118 = .ok (.iload_n 2, 1) := by decide +kernel
theorem dX4_image_119 : decode cX4_image 119 = .ok (.bipush 34, 2) := by decide +kernel
theorem dX4_image_121 : decode cX4_image 121 = .ok (.iadd, 1) := by decide +kernel
theorem dX4_image_122 : decode cX4_image 122 = .ok (.iload_n 3, 1) := by decide +kernel
theorem dX4_image_123 : decode cX4_image 123 = .ok (.iadd, 1) := by decide +kernel
theorem dX4_image_124 : decode cX4_image 124 = .ok (.aload_n 0, 1) := by decide +kernel
theorem dX4_image_125 : decode cX4_image 125 = .ok (.getfield 19, 3) := by decide +kernel
theorem dX4_image_128 : decode cX4_image 128 = .ok (.iload_n 3, 1) := by decide +kernel
theorem dX4_image_129 : decode cX4_image 129 = .ok (.iaload, 1) := by decide +kernel
theorem dX4_image_130 : decode cX4_image 130 = .ok (.iastore, 1) := by decide +kernel
theorem dX4_image_131 : decode cX4_image 131 = .ok (.aload_n 0, 1) := by decide +kernel
theorem dX4_image_132 : decode cX4_image 132 = .ok (.getfield 71, 3) := by decide +kernel
theorem dX4_image_135 : decode cX4_image 135 = .ok (.iload_n 2, 1) := by decide +kernel
theorem dX4_image_136 : decode cX4_image 136 = .ok (.bipush 40, 2) := by decide +kernel
theorem dX4_image_138 : decode cX4_image 138 = .ok (.iadd, 1) := by decide +kernel
theorem dX4_image_139 : decode cX4_image 139 = .ok (.iload_n 3, 1) := by decide +kernel
theorem dX4_image_140 : decode cX4_image 140 = .ok (.iadd, 1) := by decide +kernel
theorem dX4_image_141 : decode cX4_image 141 = .ok (.aload_n 0, 1) := by decide +kernel
theorem dX4_image_142 : decode cX4_image 142 = .ok (.getfield 31, 3) := by decide +kernel
theorem dX4_image_145 : decode cX4_image 145 = .ok (.iload_n 3, 1) := by decide +kernel
theorem dX4_image_146 : decode cX4_image 146 = .ok (.iaload, 1) := by decide +kernel
theorem dX4_image_147 : decode cX4_image 147 = .ok (.iastore, 1) := by decide +kernel
theorem dX4_image_148 : decode cX4_image 148 = .ok (.aload_n 0, 1) := by decide +kernel
theorem dX4_image_149 : decode cX4_image 149 = .ok (.getfield 71, 3) := by decide +kernel
theorem dX4_image_152 : decode cX4_image 152 = .ok (.iload_n 2, 1) := by decide +kernel
theorem dX4_image_153 : decode cX4_image 153 = .ok (.bipush 46, 2) := by decide +kernel
theorem dX4_image_155 : decode cX4_image 155 = .ok (.iadd, 1) := by decide +kernel
theorem dX4_image_156 : decode cX4_image 156 = .ok (.iload_n 3, 1) := by decide +kernel
theorem dX4_image_157 : decode cX4_image 157 = .ok (.iadd, 1) := by decide +kernel
theorem dX4_image_158 : decode cX4_image 158 = .ok (.aload_n 0, 1) := by decide +kernel
theorem dX4_image_159 : decode cX4_image 159 = .ok (.getfield 34, 3) := by decide +kernel
theorem dX4_image_162 : decode cX4_image 162 = .ok (.iload_n 3, 1) := by decide +kernel
theorem dX4_image_163 : decode cX4_image 163 = .ok (.iaload, 1) := by decide +kernel
theorem dX4_image_164 : decode cX4_image 164 = .ok (.iastore, 1) := by decide +kernel
theorem dX4_image_165 : decode cX4_image 165 = .ok (.aload_n 0, 1) := by decide +kernel
theorem dX4_image_166 : decode cX4_image 166 = .ok (.getfield 71, 3) := by decide +kernel
theorem dX4_image_169 : decode cX4_image 169 = .ok (.iload_n 2, 1) := by decide +kernel
theorem dX4_image_170 : decode cX4_image 170 = .ok (.bipush 52, 2) := by decide +kernel
theorem dX4_image_172 : decode cX4_image 172 = .ok (.iadd, 1) := by decide +kernel
theorem dX4_image_173 : decode cX4_image 173 = .ok (.iload_n 3, 1) := by decide +kernel
theorem dX4_image_174 : decode cX4_image 174 = .ok (.iadd, 1) := by decide +kernel
theorem dX4_image_175 : decode cX4_image 175 = .ok (.aload_n 0, 1) := by decide +kernel
theorem dX4_image_176 : decode cX4_image 176 = .ok (.getfield 37, 3) := by decide +kernel
theorem dX4_image_179 : decode cX4_image 179 = .ok (.iload_n 3, 1) := by decide +kernel
theorem dX4_image_180 : decode cX4_image 180 = .ok (.iaload, 1) := by decide +kernel
theorem dX4_image_181 : decode cX4_image 181 = .ok (.iastore, 1) := by decide +kernel
theorem dX4_image_182 : decode cX4_image 182 = .ok (.aload_n 0, 1) := by decide +kernel
theorem dX4_image_183 : decode cX4_image 183 = .ok (.getfield 71, 3) := by decide +kernel
theorem dX4_image_186 : decode cX4_image 186 = .ok (.iload_n 2, 1) := by decide +kernel
theorem dX4_image_187 : decode cX4_image 187 = .ok (.bipush 58, 2) := by decide +kernel
theorem dX4_image_189 : decode cX4_image 189 = .ok (.iadd, 1) := by decide +kernel
theorem dX4_image_190 : decode cX4_image 190 = .ok (.iload_n 3, 1) := by decide +kernel
theorem dX4_image_191 : decode cX4_image 191 = .ok (.iadd, 1) := by decide +kernel
theorem dX4_image_192 : decode cX4_image 192 = .ok (.aload_n 0, 1) := by decide +kernel
theorem dX4_image_193 : decode cX4_image 193 = .ok (.getfield 40, 3) := by decide +kernel
theorem dX4_image_196 : decode cX4_image 196 = .ok (.iload_n 3, 1) := by decide +kernel
theorem dX4_image_197 : decode cX4_image 197 = .ok (.iaload, 1) := by decide +kernel
theorem dX4_image_198 : decode cX4_image 198 = .ok (.iastore, 1) := by decide +kernel
theorem dX4_image_199 : decode cX4_image 199 = .ok (.aload_n 0, 1) := by decide +kernel
theorem dX4_image_200 : decode cX4_image 200 = .ok (.getfield 71, 3) := by decide +kernel
theorem dX4_image_203 : decode cX4_image 203 = .ok (.iload_n 2, 1) := by decide +kernel
theorem dX4_image_204 : decode cX4_image 204 = .ok (.bipush 64, 2) := by decide +kernel
theorem dX4_image_206 : decode cX4_image 206 = .ok (.iadd, 1) := by decide +kernel
theorem dX4_image_207 : decode cX4_image 207 = .ok (.iload_n 3, 1) := by decide +kernel
theorem dX4_image_208 : decode cX4_image 208 = .ok (.iadd, 1) := by decide +kernel
theorem dX4_image_209 : decode cX4_image 209 = .ok (.aload_n 0, 1) := by decide +kernel
theorem dX4_image_210 : decode cX4_image 210 = .ok (.getfield 43, 3) := by decide +kernel
theorem dX4_image_213 : decode cX4_image 213 = .ok (.iload_n 3, 1) := by decide +kernel
theorem dX4_image_214 : decode cX4_image 214 = .ok (.iaload, 1) := by decide +kernel
theorem dX4_image_215 : decode cX4_image 215 = .ok (.iastore, 1) := by decide +kernel
theorem dX4_image_216 : decode cX4_image 216 = .ok (.iinc 3 1, 3) := by decide +kernel
theorem dX4_image_219 : decode cX4_image 219 = .ok (.goto (-145), 3) := by decide +kernel
theorem dX4_image_222 : decode cX4_image 222 = .ok (.iconst 0, 1) := by decide +kernel
theorem dX4_image_223 : decode cX4_image 223 = .ok (.istore_n 3, 1) := by decide +kernel
theorem dX4_image_224 : decode cX4_image 224 = .ok (.iload_n 3, 1) := by decide +kernel
theorem dX4_image_225 : decode cX4_image 225 = .ok (.sipush 152, 3) := by decide +kernel
theorem dX4_image_228 : decode cX4_image 228 = .ok (.if_icmp .ge 26, 3) := by decide +kernel
theorem dX4_image_231 : decode cX4_image 231 = .ok (.aload_n 0, 1) := by decide +kernel
theorem dX4_image_232 : decode cX4_image 232 = .ok (.getfield 71, 3) := by decide +kernel
theorem dX4_image_235 : decode cX4_image 235 = .ok (.iload_n 2, 1) := by decide +kernel
theorem dX4_image_236 : decode cX4_image 236 = .ok (.bipush 70, 2) := by decide +kernel
theorem dX4_image_238 : decode cX4_image 238 = .ok (.iadd, 1) := by decide +kernel
theorem dX4_image_239 : decode cX4_image 239 = .ok (.iload_n 3, 1) := by decide +kernel
theorem dX4_image_240 : decode cX4_image 240 = .ok (.iadd, 1) := by decide +kernel
theorem dX4_image_241 : decode cX4_image 241 = .ok (.aload_n 0, 1) := by decide +kernel
theorem dX4_image_242 : decode cX4_image 242 = .ok (.getfield 55, 3) := by decide +kernel
theorem dX4_image_245 : decode cX4_image 245 = .ok (.iload_n 3, 1) := by decide +kernel
theorem dX4_image_246 : decode cX4_image 246 = .ok (.iaload, 1) := by decide +kernel
theorem dX4_image_247 : decode cX4_image 247 = .ok (.iastore, 1) := by decide +kernel
theorem dX4_image_248 : decode cX4_image 248 = .ok (.iinc 3 1, 3) := by decide +kernel
theorem dX4_image_251 : decode cX4_image 251 = .ok (.goto (-27), 3) := by decide +kernel
theorem dX4_image_254 : decode cX4_image 254 = .ok (.iconst 1, 1) := by decide +kernel
theorem dX4_image_255 : decode cX4_image 255 = .ok (.ireturn, 1) := by decide +kernel
theorem dX4_from_0 : decode cX4_from 0 = .ok (.iload_n 1, 1) := by decide +kernel
theorem dX4_from_1 : decode cX4_from 1 = .ok (.iconst 0, 1) := by decide +kernel
theorem dX4_from_2 : decode cX4_from 2 = .ok (.iconst 1, 1) := by decide +kernel
theorem dX4_from_3 : decode cX4_from 3 = .ok (.invokestatic 93, 3) := by decide +kernel
theorem dX4_from_6 : decode cX4_from 6 = .ok (.ifCond .ne 8, 3) := by decide +kernel
theorem dX4_from_9 : decode cX4_from 9 = .ok (.aload_n 0, 1) := by decide +kernel
theorem dX4_from_10 : decode cX4_from 10 = .ok (.invokevirtual 97, 3) := by decide +kernel
theorem dX4_from_13 : decode cX4_from 13 = .ok (.ireturn, 1) := by decide +kernel
theorem dX4_from_14 : decode cX4_from 14 = .ok (.aload_n 0, 1) := by decide +kernel
theorem dX4_from_15 : decode cX4_from 15 = .ok (.getfield 74, 3) := by decide +kernel
theorem dX4_from_18 : decode cX4_from 18 = .ok (.iload_n 1, 1) := by decide +kernel
theorem dX4_from_19 : decode cX4_from 19 = .ok (.iaload, 1) := by decide +kernel
theorem dX4_from_20 : decode cX4_from 20 = .ok (.ifCond .ne 8, 3) := by decide +kernel
theorem dX4_from_23 : decode cX4_from 23 = .ok (.aload_n 0, 1) := by decide +kernel
theorem dX4_from_24 : decode cX4_from 24 = .ok (.invokevirtual 209, 3) := by decide +kernel
theorem dX4_from_27 : decode cX4_from 27 = .ok (.ireturn, 1) := by decide +kernel
theorem dX4_from_28 : decode cX4_from 28 = .ok (.sipush 230, 3) := by decide +kernel
theorem dX4_from_31 : decode cX4_from 31 = .ok (.iload_n 1, 1) := by decide +kernel
theorem dX4_from_32 : decode cX4_from 32 = .ok (.imul, 1) := by decide +kernel
theorem dX4_from_33 : decode cX4_from 33 = .ok (.istore_n 2, 1) := by decide +kernel
theorem dX4_from_34 : decode cX4_from 34 = .ok (.aload_n 0, 1) := by decide +kernel
theorem dX4_from_35 : decode cX4_from 35 = .ok (.aload_n 0, 1) := by decide +kernel
theorem dX4_from_36 : decode cX4_from 36 = .ok (.getfield 71, 3) := by decide +kernel
theorem dX4_from_39 : decode cX4_from 39 = .ok (.iload_n 2, 1) := by decide +kernel
theorem dX4_from_40 : decode cX4_from 40 = .ok (.iaload, 1) := by decide +kernel
theorem dX4_from_41 : decode cX4_from 41 = .ok (.putfield 80, 3) := by decide +kernel
theorem dX4_from_44 : decode cX4_from 44 = .ok (.aload_n 0, 1) := by decide +kernel
theorem dX4_from_45 : decode cX4_from 45 = .ok (.aload_n 0, 1) := by decide +kernel
theorem dX4_from_46 : decode cX4_from 46 = .ok (.getfield 71, 3) := by decide +kernel
theorem dX4_from_49 : decode cX4_from 49 = .ok (.iload_n 2, 1) := by decide +kernel
theorem dX4_from_50 : decode cX4_from 50 = .ok (.iconst 1, 1) := by decide +kernel
theorem dX4_from_51 : decode cX4_from 51 = .ok (.iadd, 1) := by decide +kernel
theorem dX4_from_52 : decode cX4_from 52 = .ok (.iaload, 1) := by decide +kernel
theorem dX4_from_53 : decode cX4_from 53 = .ok (.putfield 87, 3) := by decide +kernel
theorem dX4_from_56 : decode cX4_from 56 = .ok (.aload_n 0, 1) := by decide +kernel
theorem dX4_from_57 : decode cX4_from 57 = .ok (.aload_n 0, 1) := by decide +kernel
theorem dX4_from_58 : decode cX4_from 58 = .ok (.getfield 71, 3) := by decide +kernel
theorem dX4_from_61 : decode cX4_from 61 = .ok (.iload_n 2, 1) := by decide +kernel
theorem dX4_from_62 : decode cX4_from 62 = .ok (.iconst 2, 1) := by decide +kernel
theorem dX4_from_63 : decode cX4_from 63 = .ok (.iadd, 1) := by decide +kernel
theorem dX4_from_64 : decode cX4_from 64 = .ok (.iaload, 1) := by decide +kernel
theorem dX4_from_65 : decode cX4_from 65 = .ok (.putfield 90, 3) := by decide +kernel
theorem dX4_from_68 : decode cX4_from 68 = .ok (.aload_n 0, 1) := by decide +kernel
theorem dX4_from_69 : decode cX4_from 69 = .ok (.aload_n 0, 1) := by decide +kernel
theorem dX4_from_70 : decode cX4_from 70 = .ok (.getfield 71, 3) := by decide +kernel
theorem dX4_from_73 : decode cX4_from 73 = .ok (.iload_n 2, 1) := by decide +kernel
theorem dX4_from_74 : decode cX4_from 74 = .ok (.iconst 3, 1) := by decide +kernel
theorem dX4_from_75 : decode cX4_from 75 = .ok (.iadd, 1) := by decide +kernel
theorem dX4_from_76 : decode cX4_from 76 = .ok (.invokevirtual 193, 3) := by decide +kernel
theorem dX4_from_79 : decode cX4_from 79 = .ok (.iconst 0, 1) := by decide +kernel
theorem dX4_from_80 : decode cX4_from 80 = .ok (.istore_n 3, 1) := by decide +kernel
theorem dX4_from_81 : decode cX4_from 81 = .ok (.iload_n 3, 1) := by decide +kernel
theorem dX4_from_82 : decode cX4_from 82 = .ok (.bipush 6, 2) := by decide +kernel
theorem dX4_from_84 : decode cX4_from 84 = .ok (.if_icmp .ge 145, 3) := by decide +kernel
theorem dX4_from_87 : decode cX4_from 87 = .ok (.aload_n 0, 1) := by decide +kernel
theorem dX4_from_88 : decode cX4_from 88 = .ok (.getfield 13, 3) := by decide +kernel
theorem dX4_from_91 : decode cX4_from 91 = .ok (.iload_n 3, 1) := by decide +kernel
theorem dX4_from_92 : decode cX4_from 92 = .ok (.aload_n 0, 1) := by decide +kernel
theorem dX4_from_93 : decode cX4_from 93 = .ok (.getfield 71, 3) := by decide +kernel
theorem dX4_from_96 : decode cX4_from 96 = .ok (.iload_n 2, 1) := by decide +kernel
theorem dX4_from_97 : decode cX4_from 97 = .ok (.bipush 22, 2) := by decide +kernel
theorem dX4_from_99 : decode cX4_from 99 = .ok (.iadd, 1) := by decide +kernel
theorem dX4_from_100 : decode cX4_from 100 = .ok (.iload_n 3, 1) := by decide +kernel
theorem dX4_from_101 : decode cX4_from 101 = .ok (.iadd, 1) := by decide +kernel
theorem dX4_from_102 : decode cX4_from 102 = .ok (.iaload, 1) := by decide +kernel
theorem dX4_from_103 : decode cX4_from 103 = .ok (.iastore, 1) := by decide +kernel
theorem dX4_from_104 : decode cX4_from 104 = .ok (.aload_n 0, 1) := by decide +kernel
theorem dX4_from_105 : decode cX4_from 105 = .ok (.getfield 16, 3) := by decide +kernel
theorem dX4_from_108 : decode cX4_from 108 = .ok (.iload_n 3, 1) := by decide +kernel
theorem dX4_from_109 : decode cX4_from 109 = .ok (.aload_n 0, 1) := by decide +kernel
theorem dX4_from_110 : decode cX4_from 110 = .ok (.getfield 71, 3) := by decide +kernel
theorem dX4_from_113 : decode cX4_from 113 = .ok (.iload_n 2, 1) := by decide +kernel
theorem dX4_from_114 : decode cX4_from 114 = .ok (.bipush 28, 2) := by decide +kernel
theorem dX4_from_116 : decode cX4_from 116 = .ok (.iadd, 1) := by decide +kernel
theorem dX4_from_117 : decode cX4_from 117 = .ok (.iload_n 3, 1) := by decide +kernel
theorem dX4_from_118 : decode cX4_from 118 = .ok (.iadd, 1) := by decide +kernel
theorem dX4_from_119 : decode cX4_from 119 = .ok (.iaload, 1) := by decide +kernel
theorem dX4_from_120 : decode cX4_from 120 = .ok (.iastore, 1) := by decide +kernel
theorem dX4_from_121 : decode cX4_from 121 = .ok (.aload_n 0, 1) := by decide +kernel
theorem dX4_from_122 : decode cX4_from 122 = .ok (.getfield 19, 3) := by decide +kernel
theorem dX4_from_125 : decode cX4_from 125 = .ok (.iload_n 3, 1) := by decide +kernel
theorem dX4_from_126 : decode cX4_from 126 = .ok (.aload_n 0, 1) := by decide +kernel
theorem dX4_from_127 : decode cX4_from 127 = .ok (.getfield 71, 3) := by decide +kernel
theorem dX4_from_130 : decode cX4_from 130 = .ok (.iload_n 2, 1) := by decide +kernel
theorem dX4_from_131 : decode cX4_from 131 = .ok (.bipush 34, 2) := by decide +kernel
theorem dX4_from_133 : decode cX4_from 133 = .ok (.iadd, 1) := by decide +kernel
theorem dX4_from_134 : decode cX4_from 134 = .ok (.iload_n 3, 1) := by decide +kernel
theorem dX4_from_135 : decode cX4_from 135 = .ok (.iadd, 1) := by decide +kernel
theorem dX4_from_136 : decode cX4_from 136 = .ok (.iaload, 1) := by decide +kernel
theorem dX4_from_137 : decode cX4_from 137 = .ok (.iastore, 1) := by decide +kernel
theorem dX4_from_138 : decode cX4_from 138 = .ok (.aload_n 0, 1) := by decide +kernel
theorem dX4_from_139 : decode cX4_from 139 = .ok (.getfield 31, 3) := by decide +kernel
theorem dX4_from_142 : decode cX4_from 142 = .ok (.iload_n 3, 1) := by decide +kernel
theorem dX4_from_143 : decode cX4_from 143 = .ok (.aload_n 0, 1) := by decide +kernel
theorem dX4_from_144 : decode cX4_from 144 = .ok (.getfield 71, 3) := by decide +kernel
theorem dX4_from_147 : decode cX4_from 147 = .ok (.iload_n 2, 1) := by decide +kernel
theorem dX4_from_148 : decode cX4_from 148 = .ok (.bipush 40, 2) := by decide +kernel
theorem dX4_from_150 : decode cX4_from 150 = .ok (.iadd, 1) := by decide +kernel
theorem dX4_from_151 : decode cX4_from 151 = .ok (.iload_n 3, 1) := by decide +kernel
theorem dX4_from_152 : decode cX4_from 152 = .ok (.iadd, 1) := by decide +kernel
theorem dX4_from_153 : decode cX4_from 153 = .ok (.iaload, 1) := by decide +kernel
theorem dX4_from_154 : decode cX4_from 154 = .ok (.iastore, 1) := by decide +kernel
theorem dX4_from_155 : decode cX4_from 155 = .ok (.aload_n 0, 1) := by decide +kernel
theorem dX4_from_156 : decode cX4_from 156 = .ok (.getfield 34, 3) := by decide +kernel
theorem dX4_from_159 : decode cX4_from 159 = .ok (.iload_n 3, 1) := by decide +kernel
theorem dX4_from_160 : decode cX4_from 160 = .ok (.aload_n 0, 1) := by decide +kernel
theorem dX4_from_161 : decode cX4_from 161 = .ok (.getfield 71, 3) := by decide +kernel
theorem dX4_from_164 : decode cX4_from 164 = .ok (.iload_n 2, 1) := by decide +kernel
theorem dX4_from_165 : decode cX4_from 165 = .ok (.bipush 46, 2) := by decide +kernel
theorem dX4_from_167 : decode cX4_from 167 = .ok (.iadd, 1) := by decide +kernel
theorem dX4_from_168 : decode cX4_from 168 = .ok (.iload_n 3, 1) := by decide +kernel
theorem dX4_from_169 : decode cX4_from 169 = .ok (.iadd, 1) := by decide +kernel
theorem dX4_from_170 : decode cX4_from 170 = .ok (.iaload, 1) := by decide +kernel
theorem dX4_from_171 : decode cX4_from 171 = .ok (.iastore, 1) := by decide +kernel
theorem dX4_from_172 : decode cX4_from 172 = .ok (.aload_n 0, 1) := by decide +kernel
theorem dX4_from_173 : decode cX4_from 173 = .ok (.getfield 37, 3) := by decide +kernel
theorem dX4_from_176 : decode cX4_from 176 = .ok (.iload_n 3, 1) := by decide +kernel
theorem dX4_from_177 : decode cX4_from 177 = .ok (.aload_n 0, 1) := by decide +kernel
theorem dX4_from_178 : decode cX4_from 178 = .ok (.getfield 71, 3) := by decide +kernel
theorem dX4_from_181 : decode cX4_from 181 = .ok (.iload_n 2, 1) := by decide +kernel
theorem dX4_from_182 : decode cX4_from 182 = .ok (.bipush 52, 2) := by decide +kernel
theorem dX4_from_184 : decode cX4_from 184 = .ok (.iadd, 1) := by decide +kernel
theorem dX4_from_185 : decode cX4_from 185 = .ok (.iload_n 3, 1) := by decide +kernel
theorem dX4_from_186 : decode cX4_from 186 = .ok (.iadd, 1) := by decide +kernel
theorem dX4_from_187 : decode cX4_from 187 = .ok (.iaload, 1) := by decide +kernel
theorem dX4_from_188 : decode cX4_from 188 = .ok (.iastore, 1) := by decide +kernel
theorem dX4_from_189 : decode cX4_from 189 = .ok (.aload_n 0, 1) := by decide +kernel
theorem dX4_from_190 : decode cX4_from 190 = .ok (.getfield 40, 3) := by decide +kernel
theorem dX4_from_193 : decode cX4_from 193 = .ok (.iload_n 3, 1) := by decide +kernel
theorem dX4_from_194 : decode cX4_from 194 = .ok (.aload_n 0, 1) := by decide +kernel
theorem dX4_from_195 : decode cX4_from 195 = .ok (.getfield 71, 3) := by decide +kernel
theorem dX4_from_198 : decode cX4_from 198 = .ok (.iload_n 2, 1) := by decide +kernel
theorem dX4_from_199 : decode cX4_from 199 = .ok (.bipush 58, 2) := by decide +kernel
theorem dX4_from_201 : decode cX4_from 201 = .ok (.iadd, 1) := by decide +kernel
theorem dX4_from_202 : decode cX4_from 202 = .ok (.iload_n 3, 1) := by decide +kernel
theorem dX4_from_203 : decode cX4_from 203 = .ok (.iadd, 1) := by decide +kernel
theorem dX4_from_204 : decode cX4_from 204 = .ok (.iaload, 1) := by decide +kernel
theorem dX4_from_205 : decode cX4_from 205 = .ok (.iastore, 1) := by decide +kernel
theorem dX4_from_206 : decode cX4_from 206 = .ok (.aload_n 0, 1) := by decide +kernel
theorem dX4_from_207 : decode cX4_from 207 = .ok (.getfield 43, 3) := by decide +kernel
theorem dX4_from_210 : decode cX4_from 210 = .ok (.iload_n 3, 1) := by decide +kernel
theorem dX4_from_211 : decode cX4_from 211 = .ok (.aload_n 0, 1) := by decide +kernel
theorem dX4_from_212 : decode cX4_from 212 = .ok (.getfield 71, 3) := by decide +kernel
theorem dX4_from_215 : decode cX4_from 215 = .ok (.iload_n 2, 1) := by decide +kernel
theorem dX4_from_216 : decode cX4_from 216 = .ok (.bipush 64, 2) := by decide +kernel
theorem dX4_from_218 : decode cX4_from 218 = .ok (.iadd, 1) := by decide +kernel
theorem dX4_from_219 : decode cX4_from 219 = .ok (.iload_n 3, 1) := by decide +kernel
theorem dX4_from_220 : decode cX4_from 220 = .ok (.iadd, 1) := by decide +kernel
theorem dX4_from_221 : decode cX4_from 221 = .ok (.iaload, 1) := by decide +kernel
theorem dX4_from_222 : decode cX4_from 222 = .ok (.iastore, 1) := by decide +kernel
theorem dX4_from_223 : decode cX4_from 223 = .ok (.iinc 3 1, 3) := by decide +kernel
theorem dX4_from_226 : decode cX4_from 226 = .ok (.goto (-145), 3) := by decide +kernel
theorem dX4_from_229 : decode cX4_from 229 = .ok (.iconst 0, 1) := by decide +kernel
theorem dX4_from_230 : decode cX4_from 230 = .ok (.istore_n 3, 1) := by decide +kernel
theorem dX4_from_231 : decode cX4_from 231 = .ok (.iload_n 3, 1) := by decide +kernel
theorem dX4_from_232 : decode cX4_from 232 = .ok (.sipush 152, 3) := by decide +kernel
theorem dX4_from_235 : decode cX4_from 235 = .ok (.if_icmp .ge 26, 3) := by decide +kernel
theorem dX4_from_238 : decode cX4_from 238 = .ok (.aload_n 0, 1) := by decide +kernel
theorem dX4_from_239 : decode cX4_from 239 = .ok (.getfield 55, 3) := by decide +kernel
theorem dX4_from_242 : decode cX4_from 242 = .ok (.iload_n 3, 1) := by decide +kernel
theorem dX4_from_243 : decode cX4_from 243 = .ok (.aload_n 0, 1) := by decide +kernel
theorem dX4_from_244 : decode cX4_from 244 = .ok (.getfield 71, 3) := by decide +kernel
theorem dX4_from_247 : decode cX4_from 247 = .ok (.iload_n 2, 1) := by decide +kernel
theorem dX4_from_248 : decode cX4_from 248 = .ok (.bipush 70, 2) := by decide +kernel
theorem dX4_from_250 : decode cX4_from 250 = .ok (.iadd, 1) := by decide +kernel
theorem dX4_from_251 : decode cX4_from 251 = .ok (.iload_n 3, 1) := by decide +kernel
theorem dX4_from_252 : decode cX4_from 252 = .ok (.iadd, 1) := by decide +kernel
theorem dX4_from_253 : decode cX4_from 253 = .ok (.iaload, 1) := by decide +kernel
theorem dX4_from_254 : decode cX4_from 254 = .ok (.iastore, 1) := by decide +kernel
theorem dX4_from_255 : decode cX4_from 255 = .ok (.iinc 3 1, 3) := by decide +kernel
theorem dX4_from_258 : decode cX4_from 258 = .ok (.goto (-27), 3) := by decide +kernel
theorem dX4_from_261 : decode cX4_from 261 = .ok (.iconst 1, 1) := by decide +kernel
theorem dX4_from_262 : decode cX4_from 262 = .ok (.ireturn, 1) := by decide +kernel
theorem dX4_status_0 : decode cX4_status 0 = .ok (.iload_n 1, 1) := by decide +kernel
theorem dX4_status_1 : decode cX4_status 1 = .ok (.iconst 0, 1) := by decide +kernel
theorem dX4_status_2 : decode cX4_status 2 = .ok (.iconst 2, 1) := by decide +kernel
theorem dX4_status_3 : decode cX4_status 3 = .ok (.invokestatic 93, 3) := by decide +kernel
theorem dX4_status_6 : decode cX4_status 6 = .ok (.ifCond .ne 15, 3) := by decide +kernel
theorem dX4_status_9 : decode cX4_status 9 = .ok (.aload_n 0, 1) := by decide +kernel
theorem dX4_status_10 : decode cX4_status 10 = .ok (.getfield 1, 3) := by decide +kernel
theorem dX4_status_13 : decode cX4_status 13 = .ok (.iconst 0, 1) := by decide +kernel
theorem dX4_status_14 : decode cX4_status 14 = .ok (.dup2, 1) := by decide +kernel
theorem dX4_status_15 : decode cX4_status 15 = .ok (.iaload, 1) := by decide +kernel
theorem dX4_status_16 : decode cX4_status 16 = .ok (.iconst 1, 1) := by decide +kernel
theorem dX4_status_17 : decode cX4_status 17 = .ok (.iadd, 1) := by decide +kernel
theorem dX4_status_18 : decode cX4_status 18 = .ok (.iastore, 1) := by decide +kernel
theorem dX4_status_19 : decode cX4_status 19 = .ok (.iconst (-1), 1) := by decide +kernel
theorem dX4_status_20 : decode cX4_status 20 = .ok (.ireturn, 1) := by decide +kernel
theorem dX4_status_21 : decode cX4_status 21 = .ok (.aload_n 0, 1) := by decide +kernel
theorem dX4_status_22 : decode cX4_status 22 = .ok (.getfield 1, 3) := by decide +kernel
theorem dX4_status_25 : decode cX4_status 25 = .ok (.iload_n 1, 1) := by decide +kernel
theorem dX4_status_26 : decode cX4_status 26 = .ok (.iaload, 1) := by decide +kernel
theorem dX4_status_27 : decode cX4_status 27 = .ok (.ireturn, 1) := by decide +kernel
theorem dX4_allSlipped_0 : decode cX4_allSlipped 0 = .ok (.iconst 0, 1) := by decide +kernel
theorem dX4_allSlipped_1 : decode cX4_allSlipped 1 = .ok (.istore_n 1, 1) := by decide +kernel
theorem dX4_allSlipped_2 : decode cX4_allSlipped 2 = .ok (.iconst 0, 1) := by decide +kernel
theorem dX4_allSlipped_3 : decode cX4_allSlipped 3 = .ok (.istore_n 2, 1) := by decide +kernel
theorem dX4_allSlipped_4 : decode cX4_allSlipped 4 = .ok (.iload_n 2, 1) := by decide +kernel
theorem dX4_allSlipped_5 : decode cX4_allSlipped 5 = .ok (.aload_n 0, 1) := by decide +kernel
theorem dX4_allSlipped_6 : decode cX4_allSlipped 6 = .ok (.getfield 80, 3) := by decide +kernel
theorem dX4_allSlipped_9 : decode cX4_allSlipped 9 = .ok (.if_icmp .ge 18, 3) := by decide +kernel
theorem dX4_allSlipped_12 : decode cX4_allSlipped 12 = .ok (.iload_n 1, 1) := by decide +kernel
theorem dX4_allSlipped_13 : decode cX4_allSlipped 13 = .ok (.aload_n 0, 1) := by decide +kernel
theorem dX4_allSlipped_14 : decode cX4_allSlipped 14 = .ok (.getfield 28, 3) := by decide +kernel
theorem dX4_allSlipped_17 : decode cX4_allSlipped 17 = .ok (.iload_n 2, 1) := by decide +kernel
theorem dX4_allSlipped_18 : decode cX4_allSlipped 18 = .ok (.iaload, 1) := by decide +kernel
theorem dX4_allSlipped_19 : decode cX4_allSlipped 19 = .ok (.iadd, 1) := by decide +kernel
theorem dX4_allSlipped_20 : decode cX4_allSlipped 20 = .ok (.istore_n 1, 1) := by decide +kernel
theorem dX4_allSlipped_21 : decode cX4_allSlipped 21 = .ok (.iinc 2 1, 3) := by decide +kernel
theorem dX4_allSlipped_24 : decode cX4_allSlipped 24 = .ok (.goto (-20), 3) := by decide +kernel
theorem dX4_allSlipped_27 : decode cX4_allSlipped 27 = .ok (.iload_n 1, 1) := by decide +kernel
theorem dX4_allSlipped_28 : decode cX4_allSlipped 28 = .ok (.ireturn, 1) := by decide +kernel
theorem dX4_countOf_0 : decode cX4_countOf 0 = .ok (.iload_n 1, 1) := by decide +kernel
theorem dX4_countOf_1 : decode cX4_countOf 1 = .ok (.tableswitch 72 0 5 #[39, 44, 49, 57, 62, 67], 39) := by decide +kernel
theorem dX4_countOf_40 : decode cX4_countOf 40 = .ok (.aload_n 0, 1) := by decide +kernel
theorem dX4_countOf_41 : decode cX4_countOf 41 = .ok (.getfield 80, 3) := by decide +kernel
theorem dX4_countOf_44 : decode cX4_countOf 44 = .ok (.ireturn, 1) := by decide +kernel
theorem dX4_countOf_45 : decode cX4_countOf 45 = .ok (.aload_n 0, 1) := by decide +kernel
theorem dX4_countOf_46 : decode cX4_countOf 46 = .ok (.getfield 84, 3) := by decide +kernel
theorem dX4_countOf_49 : decode cX4_countOf 49 = .ok (.ireturn, 1) := by decide +kernel
theorem dX4_countOf_50 : decode cX4_countOf 50 = .ok (.aload_n 0, 1) := by decide +kernel
theorem dX4_countOf_51 : decode cX4_countOf 51 = .ok (.invokevirtual 259, 3) := by decide +kernel
theorem dX4_countOf_54 : decode cX4_countOf 54 = .ok (.invokestatic 264, 3) := by decide +kernel
theorem dX4_countOf_57 : decode cX4_countOf 57 = .ok (.ireturn, 1) := by decide +kernel
theorem dX4_countOf_58 : decode cX4_countOf 58 = .ok (.aload_n 0, 1) := by decide +kernel
theorem dX4_countOf_59 : decode cX4_countOf 59 = .ok (.invokevirtual 280, 3) := by decide +kernel
theorem dX4_countOf_62 : decode cX4_countOf 62 = .ok (.ireturn, 1) := by decide +kernel
theorem dX4_countOf_63 : decode cX4_countOf 63 = .ok (.aload_n 0, 1) := by decide +kernel
theorem dX4_countOf_64 : decode cX4_countOf 64 = .ok (.getfield 87, 3) := by decide +kernel
theorem dX4_countOf_67 : decode cX4_countOf 67 = .ok (.ireturn, 1) := by decide +kernel
theorem dX4_countOf_68 : decode cX4_countOf 68 = .ok (.aload_n 0, 1) := by decide +kernel
theorem dX4_countOf_69 : decode cX4_countOf 69 = .ok (.getfield 90, 3) := by decide +kernel
theorem dX4_countOf_72 : decode cX4_countOf 72 = .ok (.ireturn, 1) := by decide +kernel
theorem dX4_countOf_73 : decode cX4_countOf 73 = .ok (.aload_n 0, 1) := by decide +kernel
theorem dX4_countOf_74 : decode cX4_countOf 74 = .ok (.getfield 108, 3) := by decide +kernel
theorem dX4_countOf_77 : decode cX4_countOf 77 = .ok (.ireturn, 1) := by decide +kernel
theorem dX4_count_0 : decode cX4_count 0 = .ok (.iload_n 1, 1) := by decide +kernel
theorem dX4_count_1 : decode cX4_count 1 = .ok (.iconst 0, 1) := by decide +kernel
theorem dX4_count_2 : decode cX4_count 2 = .ok (.bipush 6, 2) := by decide +kernel
theorem dX4_count_4 : decode cX4_count 4 = .ok (.invokestatic 93, 3) := by decide +kernel
theorem dX4_count_7 : decode cX4_count 7 = .ok (.ifCond .eq 11, 3) := by decide +kernel
theorem dX4_count_10 : decode cX4_count 10 = .ok (.aload_n 0, 1) := by decide +kernel
theorem dX4_count_11 : decode cX4_count 11 = .ok (.iload_n 1, 1) := by decide +kernel
theorem dX4_count_12 : decode cX4_count 12 = .ok (.invokevirtual 283, 3) := by decide +kernel
theorem dX4_count_15 : decode cX4_count 15 = .ok (.goto 7, 3) := by decide +kernel
theorem dX4_count_18 : decode cX4_count 18 = .ok (.aload_n 0, 1) := by decide +kernel
theorem dX4_count_19 : decode cX4_count 19 = .ok (.invokevirtual 97, 3) := by decide +kernel
theorem dX4_count_22 : decode cX4_count 22 = .ok (.ireturn, 1) := by decide +kernel
theorem dX4_mix_0 : decode cX4_mix 0 = .ok (.aload_n 0, 1) := by decide +kernel
theorem dX4_mix_1 : decode cX4_mix 1 = .ok (.ldc2_w 286, 3) := by decide +kernel
theorem dX4_mix_4 : decode cX4_mix 4 = .ok (.aload_n 0, 1) := by decide +kernel
theorem dX4_mix_5 : decode cX4_mix 5 = .ok (.getfield 288, 3) := by decide +kernel
theorem dX4_mix_8 : decode cX4_mix 8 = .ok (.lmul, 1) := by decide +kernel
theorem dX4_mix_9 : decode cX4_mix 9 = .ok (.lload_n 1, 1) := by decide +kernel
theorem dX4_mix_10 : decode cX4_mix 10 = .ok (.ladd, 1) := by decide +kernel
theorem dX4_mix_11 : decode cX4_mix 11 = .ok (.putfield 288, 3) := by decide +kernel
theorem dX4_mix_14 : decode cX4_mix 14 = .ok (.return_, 1) := by decide +kernel
theorem dX4_digest_0 : decode cX4_digest 0 = .ok (.aload_n 0, 1) := by decide +kernel
theorem dX4_digest_1 : decode cX4_digest 1 = .ok (.ldc2_w 291, 3) := by decide +kernel
theorem dX4_digest_4 : decode cX4_digest 4 = .ok (.putfield 288, 3) := by decide +kernel
theorem dX4_digest_7 : decode cX4_digest 7 = .ok (.iconst 0, 1) := by decide +kernel
theorem dX4_digest_8 : decode cX4_digest 8 = .ok (.istore_n 1, 1) := by decide +kernel
theorem dX4_digest_9 : decode cX4_digest 9 = .ok (.iload_n 1, 1) := by decide +kernel
theorem dX4_digest_10 : decode cX4_digest 10 = .ok (.bipush 6, 2) := by decide +kernel
theorem dX4_digest_12 : decode cX4_digest 12 = .ok (.if_icmp .gt 19, 3) := by decide +kernel
theorem dX4_digest_15 : decode cX4_digest 15 = .ok (.aload_n 0, 1) := by decide +kernel
theorem dX4_digest_16 : decode cX4_digest 16 = .ok (.aload_n 0, 1) := by decide +kernel
theorem dX4_digest_17 : decode cX4_digest 17 = .ok (.iload_n 1, 1) := by decide +kernel
theorem dX4_digest_18 : decode cX4_digest 18 = .ok (.invokevirtual 283, 3) := by decide +kernel
theorem dX4_digest_21 : decode cX4_digest 21 = .ok (.i2l, 1) := by decide +kernel
theorem dX4_digest_22 : decode cX4_digest 22 = .ok (.invokevirtual 293, 3) := by decide +kernel
theorem dX4_digest_25 : decode cX4_digest 25 = .ok (.iinc 1 1, 3) := by decide +kernel
theorem dX4_digest_28 : decode cX4_digest 28 = .ok (.goto (-19), 3) := by decide +kernel
theorem dX4_digest_31 : decode cX4_digest 31 = .ok (.iconst 0, 1) := by decide +kernel
theorem dX4_digest_32 : decode cX4_digest 32 = .ok (.istore_n 1, 1) := by decide +kernel
theorem dX4_digest_33 : decode cX4_digest 33 = .ok (.iload_n 1, 1) := by decide +kernel
theorem dX4_digest_34 : decode cX4_digest 34 = .ok (.aload_n 0, 1) := by decide +kernel
theorem dX4_digest_35 : decode cX4_digest 35 = .ok (.getfield 80, 3) := by decide +kernel
theorem dX4_digest_38 : decode cX4_digest 38 = .ok (.if_icmp .ge 20, 3) := by decide +kernel
theorem dX4_digest_41 : decode cX4_digest 41 = .ok (.aload_n 0, 1) := by decide +kernel
theorem dX4_digest_42 : decode cX4_digest 42 = .ok (.aload_n 0, 1) := by decide +kernel
theorem dX4_digest_43 : decode cX4_digest 43 = .ok (.getfield 19, 3) := by decide +kernel
theorem dX4_digest_46 : decode cX4_digest 46 = .ok (.iload_n 1, 1) := by decide +kernel
theorem dX4_digest_47 : decode cX4_digest 47 = .ok (.iaload, 1) := by decide +kernel
theorem dX4_digest_48 : decode cX4_digest 48 = .ok (.i2l, 1) := by decide +kernel
theorem dX4_digest_49 : decode cX4_digest 49 = .ok (.invokevirtual 293, 3) := by decide +kernel
theorem dX4_digest_52 : decode cX4_digest 52 = .ok (.iinc 1 1, 3) := by decide +kernel
theorem dX4_digest_55 : decode cX4_digest 55 = .ok (.goto (-22), 3) := by decide +kernel
theorem dX4_digest_58 : decode cX4_digest 58 = .ok (.iconst 0, 1) := by decide +kernel
theorem dX4_digest_59 : decode cX4_digest 59 = .ok (.istore_n 1, 1) := by decide +kernel
theorem dX4_digest_60 : decode cX4_digest 60 = .ok (.iload_n 1, 1) := by decide +kernel
theorem dX4_digest_61 : decode cX4_digest 61 = .ok (.aload_n 0, 1) := by decide +kernel
theorem dX4_digest_62 : decode cX4_digest 62 = .ok (.getfield 80, 3) := by decide +kernel
theorem dX4_digest_65 : decode cX4_digest 65 = .ok (.if_icmp .ge 64, 3) := by decide +kernel
theorem dX4_digest_68 : decode cX4_digest 68 = .ok (.aload_n 0, 1) := by decide +kernel
theorem dX4_digest_69 : decode cX4_digest 69 = .ok (.aload_n 0, 1) := by decide +kernel
theorem dX4_digest_70 : decode cX4_digest 70 = .ok (.getfield 13, 3) := by decide +kernel
theorem dX4_digest_73 : decode cX4_digest 73 = .ok (.iload_n 1, 1) := by decide +kernel
theorem dX4_digest_74 : decode cX4_digest 74 = .ok (.iaload, 1) := by decide +kernel
theorem dX4_digest_75 : decode cX4_digest 75 = .ok (.i2l, 1) := by decide +kernel
theorem dX4_digest_76 : decode cX4_digest 76 = .ok (.invokevirtual 293, 3) := by decide +kernel
theorem dX4_digest_79 : decode cX4_digest 79 = .ok (.aload_n 0, 1) := by decide +kernel
theorem dX4_digest_80 : decode cX4_digest 80 = .ok (.aload_n 0, 1) := by decide +kernel
theorem dX4_digest_81 : decode cX4_digest 81 = .ok (.getfield 16, 3) := by decide +kernel
theorem dX4_digest_84 : decode cX4_digest 84 = .ok (.iload_n 1, 1) := by decide +kernel
theorem dX4_digest_85 : decode cX4_digest 85 = .ok (.iaload, 1) := by decide +kernel
theorem dX4_digest_86 : decode cX4_digest 86 = .ok (.i2l, 1) := by decide +kernel
theorem dX4_digest_87 : decode cX4_digest 87 = .ok (.invokevirtual 293, 3) := by decide +kernel
theorem dX4_digest_90 : decode cX4_digest 90 = .ok (.aload_n 0, 1) := by decide +kernel
theorem dX4_digest_91 : decode cX4_digest 91 = .ok (.aload_n 0, 1) := by decide +kernel
theorem dX4_digest_92 : decode cX4_digest 92 = .ok (.getfield 22, 3) := by decide +kernel
theorem dX4_digest_95 : decode cX4_digest 95 = .ok (.iload_n 1, 1) := by decide +kernel
theorem dX4_digest_96 : decode cX4_digest 96 = .ok (.iaload, 1) := by decide +kernel
theorem dX4_digest_97 : decode cX4_digest 97 = .ok (.i2l, 1) := by decide +kernel
theorem dX4_digest_98 : decode cX4_digest 98 = .ok (.invokevirtual 293, 3) := by decide +kernel
theorem dX4_digest_101 : decode cX4_digest 101 = .ok (.aload_n 0, 1) := by decide +kernel
theorem dX4_digest_102 : decode cX4_digest 102 = .ok (.aload_n 0, 1) := by decide +kernel
theorem dX4_digest_103 : decode cX4_digest 103 = .ok (.getfield 25, 3) := by decide +kernel
theorem dX4_digest_106 : decode cX4_digest 106 = .ok (.iload_n 1, 1) := by decide +kernel
theorem dX4_digest_107 : decode cX4_digest 107 = .ok (.iaload, 1) := by decide +kernel
theorem dX4_digest_108 : decode cX4_digest 108 = .ok (.i2l, 1) := by decide +kernel
theorem dX4_digest_109 : decode cX4_digest 109 = .ok (.invokevirtual 293, 3) := by decide +kernel
theorem dX4_digest_112 : decode cX4_digest 112 = .ok (.aload_n 0, 1) := by decide +kernel
theorem dX4_digest_113 : decode cX4_digest 113 = .ok (.aload_n 0, 1) := by decide +kernel
theorem dX4_digest_114 : decode cX4_digest 114 = .ok (.getfield 28, 3) := by decide +kernel
theorem dX4_digest_117 : decode cX4_digest 117 = .ok (.iload_n 1, 1) := by decide +kernel
theorem dX4_digest_118 : decode cX4_digest 118 = .ok (.iaload, 1) := by decide +kernel
theorem dX4_digest_119 : decode cX4_digest 119 = .ok (.i2l, 1) := by decide +kernel
theorem dX4_digest_120 : decode cX4_digest 120 = .ok (.invokevirtual 293, 3) := by decide +kernel
theorem dX4_digest_123 : decode cX4_digest 123 = .ok (.iinc 1 1, 3) := by decide +kernel
theorem dX4_digest_126 : decode cX4_digest 126 = .ok (.goto (-66), 3) := by decide +kernel
theorem dX4_digest_129 : decode cX4_digest 129 = .ok (.iconst 0, 1) := by decide +kernel
theorem dX4_digest_130 : decode cX4_digest 130 = .ok (.istore_n 1, 1) := by decide +kernel
theorem dX4_digest_131 : decode cX4_digest 131 = .ok (.iload_n 1, 1) := by decide +kernel
theorem dX4_digest_132 : decode cX4_digest 132 = .ok (.aload_n 0, 1) := by decide +kernel
theorem dX4_digest_133 : decode cX4_digest 133 = .ok (.getfield 87, 3) := by decide +kernel
theorem dX4_digest_136 : decode cX4_digest 136 = .ok (.if_icmp .ge 64, 3) := by decide +kernel
theorem dX4_digest_139 : decode cX4_digest 139 = .ok (.aload_n 0, 1) := by decide +kernel
theorem dX4_digest_140 : decode cX4_digest 140 = .ok (.aload_n 0, 1) := by decide +kernel
theorem dX4_digest_141 : decode cX4_digest 141 = .ok (.getfield 31, 3) := by decide +kernel
theorem dX4_digest_144 : decode cX4_digest 144 = .ok (.iload_n 1, 1) := by decide +kernel
theorem dX4_digest_145 : decode cX4_digest 145 = .ok (.iaload, 1) := by decide +kernel
theorem dX4_digest_146 : decode cX4_digest 146 = .ok (.i2l, 1) := by decide +kernel
theorem dX4_digest_147 : decode cX4_digest 147 = .ok (.invokevirtual 293, 3) := by decide +kernel
theorem dX4_digest_150 : decode cX4_digest 150 = .ok (.aload_n 0, 1) := by decide +kernel
theorem dX4_digest_151 : decode cX4_digest 151 = .ok (.aload_n 0, 1) := by decide +kernel
theorem dX4_digest_152 : decode cX4_digest 152 = .ok (.getfield 34, 3) := by decide +kernel
theorem dX4_digest_155 : decode cX4_digest 155 = .ok (.iload_n 1, 1) := by decide +kernel
theorem dX4_digest_156 : decode cX4_digest 156 = .ok (.iaload, 1) := by decide +kernel
theorem dX4_digest_157 : decode cX4_digest 157 = .ok (.i2l, 1) := by decide +kernel
theorem dX4_digest_158 : decode cX4_digest 158 = .ok (.invokevirtual 293, 3) := by decide +kernel
theorem dX4_digest_161 : decode cX4_digest 161 = .ok (.aload_n 0, 1) := by decide +kernel
theorem dX4_digest_162 : decode cX4_digest 162 = .ok (.aload_n 0, 1) := by decide +kernel
theorem dX4_digest_163 : decode cX4_digest 163 = .ok (.getfield 37, 3) := by decide +kernel
theorem dX4_digest_166 : decode cX4_digest 166 = .ok (.iload_n 1, 1) := by decide +kernel
theorem dX4_digest_167 : decode cX4_digest 167 = .ok (.iaload, 1) := by decide +kernel
theorem dX4_digest_168 : decode cX4_digest 168 = .ok (.i2l, 1) := by decide +kernel
theorem dX4_digest_169 : decode cX4_digest 169 = .ok (.invokevirtual 293, 3) := by decide +kernel
theorem dX4_digest_172 : decode cX4_digest 172 = .ok (.aload_n 0, 1) := by decide +kernel
theorem dX4_digest_173 : decode cX4_digest 173 = .ok (.aload_n 0, 1) := by decide +kernel
theorem dX4_digest_174 : decode cX4_digest 174 = .ok (.getfield 40, 3) := by decide +kernel
theorem dX4_digest_177 : decode cX4_digest 177 = .ok (.iload_n 1, 1) := by decide +kernel
theorem dX4_digest_178 : decode cX4_digest 178 = .ok (.iaload, 1) := by decide +kernel
theorem dX4_digest_179 : decode cX4_digest 179 = .ok (.i2l, 1) := by decide +kernel
theorem dX4_digest_180 : decode cX4_digest 180 = .ok (.invokevirtual 293, 3) := by decide +kernel
theorem dX4_digest_183 : decode cX4_digest 183 = .ok (.aload_n 0, 1) := by decide +kernel
theorem dX4_digest_184 : decode cX4_digest 184 = .ok (.aload_n 0, 1) := by decide +kernel
theorem dX4_digest_185 : decode cX4_digest 185 = .ok (.getfield 43, 3) := by decide +kernel
theorem dX4_digest_188 : decode cX4_digest 188 = .ok (.iload_n 1, 1) := by decide +kernel
theorem dX4_digest_189 : decode cX4_digest 189 = .ok (.iaload, 1) := by decide +kernel
theorem dX4_digest_190 : decode cX4_digest 190 = .ok (.i2l, 1) := by decide +kernel
theorem dX4_digest_191 : decode cX4_digest 191 = .ok (.invokevirtual 293, 3) := by decide +kernel
theorem dX4_digest_194 : decode cX4_digest 194 = .ok (.iinc 1 1, 3) := by decide +kernel
theorem dX4_digest_197 : decode cX4_digest 197 = .ok (.goto (-66), 3) := by decide +kernel
theorem dX4_digest_200 : decode cX4_digest 200 = .ok (.aload_n 0, 1) := by decide +kernel
theorem dX4_digest_201 : decode cX4_digest 201 = .ok (.aload_n 0, 1) := by decide +kernel
theorem dX4_digest_202 : decode cX4_digest 202 = .ok (.getfield 256, 3) := by decide +kernel
theorem dX4_digest_205 : decode cX4_digest 205 = .ok (.invokevirtual 293, 3) := by decide +kernel
theorem dX4_digest_208 : decode cX4_digest 208 = .ok (.aload_n 0, 1) := by decide +kernel
theorem dX4_digest_209 : decode cX4_digest 209 = .ok (.aload_n 0, 1) := by decide +kernel
theorem dX4_digest_210 : decode cX4_digest 210 = .ok (.getfield 67, 3) := by decide +kernel
theorem dX4_digest_213 : decode cX4_digest 213 = .ok (.invokevirtual 293, 3) := by decide +kernel
theorem dX4_digest_216 : decode cX4_digest 216 = .ok (.aload_n 0, 1) := by decide +kernel
theorem dX4_digest_217 : decode cX4_digest 217 = .ok (.getfield 288, 3) := by decide +kernel
theorem dX4_digest_220 : decode cX4_digest 220 = .ok (.lreturn, 1) := by decide +kernel
theorem dJ6_bitCount_0f7a4_0 : decode cJ6_bitCount_0f7a4 0 = .ok (.iload_n 0, 1) := by decide +kernel
theorem dJ6_bitCount_0f7a4_1 : decode cJ6_bitCount_0f7a4 1 = .ok (.iload_n 0, 1) := by decide +kernel
theorem dJ6_bitCount_0f7a4_2 : decode cJ6_bitCount_0f7a4 2 = .ok (.iconst 1, 1) := by decide +kernel
theorem dJ6_bitCount_0f7a4_3 : decode cJ6_bitCount_0f7a4 3 = .ok (.iushr, 1) := by decide +kernel
theorem dJ6_bitCount_0f7a4_4 : decode cJ6_bitCount_0f7a4 4 = .ok (.ldc_w 265, 3) := by decide +kernel
theorem dJ6_bitCount_0f7a4_7 : decode cJ6_bitCount_0f7a4 7 = .ok (.iand, 1) := by decide +kernel
theorem dJ6_bitCount_0f7a4_8 : decode cJ6_bitCount_0f7a4 8 = .ok (.isub, 1) := by decide +kernel
theorem dJ6_bitCount_0f7a4_9 : decode cJ6_bitCount_0f7a4 9 = .ok (.istore_n 0, 1) := by decide +kernel
theorem dJ6_bitCount_0f7a4_10 : decode cJ6_bitCount_0f7a4 10 = .ok (.iload_n 0, 1) := by decide +kernel
theorem dJ6_bitCount_0f7a4_11 : decode cJ6_bitCount_0f7a4 11 = .ok (.ldc_w 266, 3) := by decide +kernel
theorem dJ6_bitCount_0f7a4_14 : decode cJ6_bitCount_0f7a4 14 = .ok (.iand, 1) := by decide +kernel
theorem dJ6_bitCount_0f7a4_15 : decode cJ6_bitCount_0f7a4 15 = .ok (.iload_n 0, 1) := by decide +kernel
theorem dJ6_bitCount_0f7a4_16 : decode cJ6_bitCount_0f7a4 16 = .ok (.iconst 2, 1) := by decide +kernel
theorem dJ6_bitCount_0f7a4_17 : decode cJ6_bitCount_0f7a4 17 = .ok (.iushr, 1) := by decide +kernel
theorem dJ6_bitCount_0f7a4_18 : decode cJ6_bitCount_0f7a4 18 = .ok (.ldc_w 266, 3) := by decide +kernel
theorem dJ6_bitCount_0f7a4_21 : decode cJ6_bitCount_0f7a4 21 = .ok (.iand, 1) := by decide +kernel
theorem dJ6_bitCount_0f7a4_22 : decode cJ6_bitCount_0f7a4 22 = .ok (.iadd, 1) := by decide +kernel
theorem dJ6_bitCount_0f7a4_23 : decode cJ6_bitCount_0f7a4 23 = .ok (.istore_n 0, 1) := by decide +kernel
theorem dJ6_bitCount_0f7a4_24 : decode cJ6_bitCount_0f7a4 24 = .ok (.iload_n 0, 1) := by decide +kernel
theorem dJ6_bitCount_0f7a4_25 : decode cJ6_bitCount_0f7a4 25 = .ok (.iload_n 0, 1) := by decide +kernel
theorem dJ6_bitCount_0f7a4_26 : decode cJ6_bitCount_0f7a4 26 = .ok (.iconst 4, 1) := by decide +kernel
theorem dJ6_bitCount_0f7a4_27 : decode cJ6_bitCount_0f7a4 27 = .ok (.iushr, 1) := by decide +kernel
theorem dJ6_bitCount_0f7a4_28 : decode cJ6_bitCount_0f7a4 28 = .ok (.iadd, 1) := by decide +kernel
theorem dJ6_bitCount_0f7a4_29 : decode cJ6_bitCount_0f7a4 29 = .ok (.ldc_w 267, 3) := by decide +kernel
theorem dJ6_bitCount_0f7a4_32 : decode cJ6_bitCount_0f7a4 32 = .ok (.iand, 1) := by decide +kernel
theorem dJ6_bitCount_0f7a4_33 : decode cJ6_bitCount_0f7a4 33 = .ok (.istore_n 0, 1) := by decide +kernel
theorem dJ6_bitCount_0f7a4_34 : decode cJ6_bitCount_0f7a4 34 = .ok (.iload_n 0, 1) := by decide +kernel
theorem dJ6_bitCount_0f7a4_35 : decode cJ6_bitCount_0f7a4 35 = .ok (.iload_n 0, 1) := by decide +kernel
theorem dJ6_bitCount_0f7a4_36 : decode cJ6_bitCount_0f7a4 36 = .ok (.bipush 8, 2) := by decide +kernel
theorem dJ6_bitCount_0f7a4_38 : decode cJ6_bitCount_0f7a4 38 = .ok (.iushr, 1) := by decide +kernel
theorem dJ6_bitCount_0f7a4_39 : decode cJ6_bitCount_0f7a4 39 = .ok (.iadd, 1) := by decide +kernel
theorem dJ6_bitCount_0f7a4_40 : decode cJ6_bitCount_0f7a4 40 = .ok (.istore_n 0, 1) := by decide +kernel
theorem dJ6_bitCount_0f7a4_41 : decode cJ6_bitCount_0f7a4 41 = .ok (.iload_n 0, 1) := by decide +kernel
theorem dJ6_bitCount_0f7a4_42 : decode cJ6_bitCount_0f7a4 42 = .ok (.iload_n 0, 1) := by decide +kernel
theorem dJ6_bitCount_0f7a4_43 : decode cJ6_bitCount_0f7a4 43 = .ok (.bipush 16, 2) := by decide +kernel
theorem dJ6_bitCount_0f7a4_45 : decode cJ6_bitCount_0f7a4 45 = .ok (.iushr, 1) := by decide +kernel
theorem dJ6_bitCount_0f7a4_46 : decode cJ6_bitCount_0f7a4 46 = .ok (.iadd, 1) := by decide +kernel
theorem dJ6_bitCount_0f7a4_47 : decode cJ6_bitCount_0f7a4 47 = .ok (.istore_n 0, 1) := by decide +kernel
theorem dJ6_bitCount_0f7a4_48 : decode cJ6_bitCount_0f7a4 48 = .ok (.iload_n 0, 1) := by decide +kernel
theorem dJ6_bitCount_0f7a4_49 : decode cJ6_bitCount_0f7a4 49 = .ok (.bipush 63, 2) := by decide +kernel
theorem dJ6_bitCount_0f7a4_51 : decode cJ6_bitCount_0f7a4 51 = .ok (.iand, 1) := by decide +kernel
theorem dJ6_bitCount_0f7a4_52 : decode cJ6_bitCount_0f7a4 52 = .ok (.ireturn, 1) := by decide +kernel
theorem dJ9_abs_0f7a4_0 : decode cJ9_abs_0f7a4 0 = .ok (.iload_n 0, 1) := by decide +kernel
theorem dJ9_abs_0f7a4_1 : decode cJ9_abs_0f7a4 1 = .ok (.ifCond .ge 8, 3) := by decide +kernel
theorem dJ9_abs_0f7a4_4 : decode cJ9_abs_0f7a4 4 = .ok (.iload_n 0, 1) := by decide +kernel
theorem dJ9_abs_0f7a4_5 : decode cJ9_abs_0f7a4 5 = .ok (.ineg, 1) := by decide +kernel
theorem dJ9_abs_0f7a4_6 : decode cJ9_abs_0f7a4 6 = .ok (.goto 4, 3) := by decide +kernel
theorem dJ9_abs_0f7a4_9 : decode cJ9_abs_0f7a4 9 = .ok (.iload_n 0, 1) := by decide +kernel
theorem dJ9_abs_0f7a4_10 : decode cJ9_abs_0f7a4 10 = .ok (.ireturn, 1) := by decide +kernel
theorem dJ9_max_7cf53_0 : decode cJ9_max_7cf53 0 = .ok (.iload_n 0, 1) := by decide +kernel
theorem dJ9_max_7cf53_1 : decode cJ9_max_7cf53 1 = .ok (.iload_n 1, 1) := by decide +kernel
theorem dJ9_max_7cf53_2 : decode cJ9_max_7cf53 2 = .ok (.if_icmp .lt 7, 3) := by decide +kernel
theorem dJ9_max_7cf53_5 : decode cJ9_max_7cf53 5 = .ok (.iload_n 0, 1) := by decide +kernel
theorem dJ9_max_7cf53_6 : decode cJ9_max_7cf53 6 = .ok (.goto 4, 3) := by decide +kernel
theorem dJ9_max_7cf53_9 : decode cJ9_max_7cf53 9 = .ok (.iload_n 1, 1) := by decide +kernel
theorem dJ9_max_7cf53_10 : decode cJ9_max_7cf53 10 = .ok (.ireturn, 1) := by decide +kernel
theorem dJ9_min_7cf53_0 : decode cJ9_min_7cf53 0 = .ok (.iload_n 0, 1) := by decide +kernel
theorem dJ9_min_7cf53_1 : decode cJ9_min_7cf53 1 = .ok (.iload_n 1, 1) := by decide +kernel
theorem dJ9_min_7cf53_2 : decode cJ9_min_7cf53 2 = .ok (.if_icmp .gt 7, 3) := by decide +kernel
theorem dJ9_min_7cf53_5 : decode cJ9_min_7cf53 5 = .ok (.iload_n 0, 1) := by decide +kernel
theorem dJ9_min_7cf53_6 : decode cJ9_min_7cf53 6 = .ok (.goto 4, 3) := by decide +kernel
theorem dJ9_min_7cf53_9 : decode cJ9_min_7cf53 9 = .ok (.iload_n 1, 1) := by decide +kernel
theorem dJ9_min_7cf53_10 : decode cJ9_min_7cf53 10 = .ok (.ireturn, 1) := by decide +kernel
theorem dJ0_length_8abf5_0 : decode cJ0_length_8abf5 0 = .ok (.aload_n 0, 1) := by decide +kernel
theorem dJ0_length_8abf5_1 : decode cJ0_length_8abf5 1 = .ok (.getfield 9, 3) := by decide +kernel
theorem dJ0_length_8abf5_4 : decode cJ0_length_8abf5 4 = .ok (.arraylength, 1) := by decide +kernel
theorem dJ0_length_8abf5_5 : decode cJ0_length_8abf5 5 = .ok (.aload_n 0, 1) := by decide +kernel
theorem dJ0_length_8abf5_6 : decode cJ0_length_8abf5 6 = .ok (.invokevirtual 335, 3) := by decide +kernel
theorem dJ0_length_8abf5_9 : decode cJ0_length_8abf5 9 = .ok (.ishr, 1) := by decide +kernel
theorem dJ0_length_8abf5_10 : decode cJ0_length_8abf5 10 = .ok (.ireturn, 1) := by decide +kernel
theorem dJ0_charAt_5068e_0 : decode cJ0_charAt_5068e 0 = .ok (.aload_n 0, 1) := by decide +kernel
theorem dJ0_charAt_5068e_1 : decode cJ0_charAt_5068e 1 = .ok (.invokevirtual 492, 3) := by decide +kernel
theorem dJ0_charAt_5068e_4 : decode cJ0_charAt_5068e 4 = .ok (.ifCond .eq 12, 3) := by decide +kernel
theorem dJ0_charAt_5068e_7 : decode cJ0_charAt_5068e 7 = .ok (.aload_n 0, 1) := by decide +kernel
theorem dJ0_charAt_5068e_8 : decode cJ0_charAt_5068e 8 = .ok (.getfield 9, 3) := by decide +kernel
theorem dJ0_charAt_5068e_11 : decode cJ0_charAt_5068e 11 = .ok (.iload_n 1, 1) := by decide +kernel
theorem dJ0_charAt_5068e_12 : decode cJ0_charAt_5068e 12 = .ok (.invokestatic 495, 3) := by decide +kernel
theorem dJ0_charAt_5068e_15 : decode cJ0_charAt_5068e 15 = .ok (.ireturn, 1) := by decide +kernel
theorem dJ0_charAt_5068e_16 : decode cJ0_charAt_5068e 16 = .ok (.aload_n 0, 1) := by decide +kernel
theorem dJ0_charAt_5068e_17 : decode cJ0_charAt_5068e 17 = .ok (.getfield 9, 3) := by decide +kernel
theorem dJ0_charAt_5068e_20 : decode cJ0_charAt_5068e 20 = .ok (.iload_n 1, 1) := by decide +kernel
theorem dJ0_charAt_5068e_21 : decode cJ0_charAt_5068e 21 = .ok (.invokestatic 498, 3) := by decide +kernel
theorem dJ0_charAt_5068e_24 : decode cJ0_charAt_5068e 24 = .ok (.ireturn, 1) := by decide +kernel
theorem dJ0_coder_7d493_0 : decode cJ0_coder_7d493 0 = .ok (.getstatic 38, 3) := by decide +kernel
theorem dJ0_coder_7d493_3 : decode cJ0_coder_7d493 3 = .ok (.ifCond .eq 10, 3) := by decide +kernel
theorem dJ0_coder_7d493_6 : decode cJ0_coder_7d493 6 = .ok (.aload_n 0, 1) := by decide +kernel
theorem dJ0_coder_7d493_7 : decode cJ0_coder_7d493 7 = .ok (.getfield 15, 3) := by decide +kernel
theorem dJ0_coder_7d493_10 : decode cJ0_coder_7d493 10 = .ok (.goto 4, 3) := by decide +kernel
theorem dJ0_coder_7d493_13 : decode cJ0_coder_7d493 13 = .ok (.iconst 1, 1) := by decide +kernel
theorem dJ0_coder_7d493_14 : decode cJ0_coder_7d493 14 = .ok (.ireturn, 1) := by decide +kernel
theorem dJ0_isLatin1_aae02_0 : decode cJ0_isLatin1_aae02 0 = .ok (.getstatic 38, 3) := by decide +kernel
theorem dJ0_isLatin1_aae02_3 : decode cJ0_isLatin1_aae02 3 = .ok (.ifCond .eq 14, 3) := by decide +kernel
theorem dJ0_isLatin1_aae02_6 : decode cJ0_isLatin1_aae02 6 = .ok (.aload_n 0, 1) := by decide +kernel
theorem dJ0_isLatin1_aae02_7 : decode cJ0_isLatin1_aae02 7 = .ok (.getfield 15, 3) := by decide +kernel
theorem dJ0_isLatin1_aae02_10 : decode cJ0_isLatin1_aae02 10 = .ok (.ifCond .ne 7, 3) := by decide +kernel
theorem dJ0_isLatin1_aae02_13 : decode cJ0_isLatin1_aae02 13 = .ok (.iconst 1, 1) := by decide +kernel
theorem dJ0_isLatin1_aae02_14 : decode cJ0_isLatin1_aae02 14 = .ok (.goto 4, 3) := by decide +kernel
theorem dJ0_isLatin1_aae02_17 : decode cJ0_isLatin1_aae02 17 = .ok (.iconst 0, 1) := by decide +kernel
theorem dJ0_isLatin1_aae02_18 : decode cJ0_isLatin1_aae02 18 = .ok (.ireturn, 1) := by decide +kernel
theorem dJ0_checkIndex_df160_0 : decode cJ0_checkIndex_df160 0 = .ok (.iload_n 0, 1) := by decide +kernel
theorem dJ0_checkIndex_df160_1 : decode cJ0_checkIndex_df160 1 = .ok (.iload_n 1, 1) := by decide +kernel
theorem dJ0_checkIndex_df160_2 : decode cJ0_checkIndex_df160 2 = .ok (.getstatic 1053, 3) := by decide +kernel
theorem dJ0_checkIndex_df160_5 : decode cJ0_checkIndex_df160 5 = .ok (.invokestatic 1059, 3) := by decide +kernel
theorem dJ0_checkIndex_df160_8 : decode cJ0_checkIndex_df160 8 = .ok (.pop, 1) := by decide +kernel
theorem dJ0_checkIndex_df160_9 : decode cJ0_checkIndex_df160 9 = .ok (.return_, 1) := by decide +kernel
theorem dJ1_charAt_3b067_0 : decode cJ1_charAt_3b067 0 = .ok (.iload_n 1, 1) := by decide +kernel
theorem dJ1_charAt_3b067_1 : decode cJ1_charAt_3b067 1 = .ok (.aload_n 0, 1) := by decide +kernel
theorem dJ1_charAt_3b067_2 : decode cJ1_charAt_3b067 2 = .ok (.arraylength, 1) := by decide +kernel
theorem dJ1_charAt_3b067_3 : decode cJ1_charAt_3b067 3 = .ok (.invokestatic 9, 3) := by decide +kernel
theorem dJ1_charAt_3b067_6 : decode cJ1_charAt_3b067 6 = .ok (.aload_n 0, 1) := by decide +kernel
theorem dJ1_charAt_3b067_7 : decode cJ1_charAt_3b067 7 = .ok (.iload_n 1, 1) := by decide +kernel
theorem dJ1_charAt_3b067_8 : decode cJ1_charAt_3b067 8 = .ok (.baload, 1) := by decide +kernel
theorem dJ1_charAt_3b067_9 : decode cJ1_charAt_3b067 9 = .ok (.sipush 255, 3) := by decide +kernel
theorem dJ1_charAt_3b067_12 : decode cJ1_charAt_3b067 12 = .ok (.iand, 1) := by decide +kernel
theorem dJ1_charAt_3b067_13 : decode cJ1_charAt_3b067 13 = .ok (.i2c, 1) := by decide +kernel
theorem dJ1_charAt_3b067_14 : decode cJ1_charAt_3b067 14 = .ok (.ireturn, 1) := by decide +kernel
theorem dJ2_getChar_3b067_0 : decode cJ2_getChar_3b067 0 = .ok (.getstatic 44, 3) := by decide +kernel
theorem dJ2_getChar_3b067_3 : decode cJ2_getChar_3b067 3 = .ok (.ifCond .ne 25, 3) := by decide +kernel
theorem dJ2_getChar_3b067_6 : decode cJ2_getChar_3b067 6 = .ok (.iload_n 1, 1) := by decide +kernel
theorem dJ2_getChar_3b067_7 : decode cJ2_getChar_3b067 7 = .ok (.ifCond .lt 11, 3) := by decide +kernel
theorem dJ2_getChar_3b067_10 : decode cJ2_getChar_3b067 10 = .ok (.iload_n 1, 1) := by decide +kernel
theorem dJ2_getChar_3b067_11 : decode cJ2_getChar_3b067 11 = .ok (.aload_n 0, 1) := by decide +kernel
theorem dJ2_getChar_3b067_12 : decode cJ2_getChar_3b067 12 = .ok (.invokestatic 48, 3) := by decide +kernel
theorem dJ2_getChar_3b067_15 : decode cJ2_getChar_3b067 15 = .ok (.if_icmp .lt 13, 3) := by decide +kernel
theorem dJ2_getChar_3b067_18 : decode cJ2_getChar_3b067 18 = .ok (.new 52, 3) := by decide +kernel
theorem dJ2_getChar_3b067_21 : decode cJ2_getChar_3b067 21 = .ok (.dup, 1) := by decide +kernel
theorem dJ2_getChar_3b067_22 : decode cJ2_getChar_3b067 22 = .ok (.ldc 54, 2) := by decide +kernel
theorem dJ2_getChar_3b067_24 : decode cJ2_getChar_3b067 24 = .ok (.invokespecial 56, 3) := by decide +kernel
theorem dJ2_getChar_3b067_27 : decode cJ2_getChar_3b067 27 = .ok (.athrow, 1) := by decide +kernel
theorem dJ2_getChar_3b067_28 : decode cJ2_getChar_3b067 28 = .ok (.iload_n 1, 1) := by decide +kernel
theorem dJ2_getChar_3b067_29 : decode cJ2_getChar_3b067 29 = .ok (.iconst 1, 1) := by decide +kernel
theorem dJ2_getChar_3b067_30 : decode cJ2_getChar_3b067 30 = .ok (.ishl, 1) := by decide +kernel
theorem dJ2_getChar_3b067_31 : decode cJ2_getChar_3b067 31 = .ok (.istore_n 1, 1) := by decide +kernel
theorem dJ2_getChar_3b067_32 : decode cJ2_getChar_3b067 32 = .ok (.aload_n 0, 1) := by decide +kernel
theorem dJ2_getChar_3b067_33 : decode cJ2_getChar_3b067 33 = .ok (.iload_n 1, 1) := by decide +kernel
theorem dJ2_getChar_3b067_34 : decode cJ2_getChar_3b067 34 = .ok (.iinc 1 1, 3) := by decide +kernel
theorem dJ2_getChar_3b067_37 : decode cJ2_getChar_3b067 37 = .ok (.baload, 1) := by decide +kernel
theorem dJ2_getChar_3b067_38 : decode cJ2_getChar_3b067 38 = .ok (.sipush 255, 3) := by decide +kernel
theorem dJ2_getChar_3b067_41 : decode cJ2_getChar_3b067 41 = .ok (.iand, 1) := by decide +kernel
theorem dJ2_getChar_3b067_42 : decode cJ2_getChar_3b067 42 = .ok (.getstatic 59, 3) := by decide +kernel
theorem dJ2_getChar_3b067_45 : decode cJ2_getChar_3b067 45 = .ok (.ishl, 1) := by decide +kernel
theorem dJ2_getChar_3b067_46 : decode cJ2_getChar_3b067 46 = .ok (.aload_n 0, 1) := by decide +kernel
theorem dJ2_getChar_3b067_47 : decode cJ2_getChar_3b067 47 = .ok (.iload_n 1, 1) := by decide +kernel
theorem dJ2_getChar_3b067_48 : decode cJ2_getChar_3b067 48 = .ok (.baload, 1) := by decide +kernel
theorem dJ2_getChar_3b067_49 : decode cJ2_getChar_3b067 49 = .ok (.sipush 255, 3) := by decide +kernel
theorem dJ2_getChar_3b067_52 : decode cJ2_getChar_3b067 52 = .ok (.iand, 1) := by decide +kernel
theorem dJ2_getChar_3b067_53 : decode cJ2_getChar_3b067 53 = .ok (.getstatic 63, 3) := by decide +kernel
theorem dJ2_getChar_3b067_56 : decode cJ2_getChar_3b067 56 = .ok (.ishl, 1) := by decide +kernel
theorem dJ2_getChar_3b067_57 : decode cJ2_getChar_3b067 57 = .ok (.ior, 1) := by decide +kernel
theorem dJ2_getChar_3b067_58 : decode cJ2_getChar_3b067 58 = .ok (.i2c, 1) := by decide +kernel
theorem dJ2_getChar_3b067_59 : decode cJ2_getChar_3b067 59 = .ok (.ireturn, 1) := by decide +kernel
theorem dJ2_length_9d52b_0 : decode cJ2_length_9d52b 0 = .ok (.aload_n 0, 1) := by decide +kernel
theorem dJ2_length_9d52b_1 : decode cJ2_length_9d52b 1 = .ok (.arraylength, 1) := by decide +kernel
theorem dJ2_length_9d52b_2 : decode cJ2_length_9d52b 2 = .ok (.iconst 1, 1) := by decide +kernel
theorem dJ2_length_9d52b_3 : decode cJ2_length_9d52b 3 = .ok (.ishr, 1) := by decide +kernel
theorem dJ2_length_9d52b_4 : decode cJ2_length_9d52b 4 = .ok (.ireturn, 1) := by decide +kernel
theorem dJ2_charAt_3b067_0 : decode cJ2_charAt_3b067 0 = .ok (.iload_n 1, 1) := by decide +kernel
theorem dJ2_charAt_3b067_1 : decode cJ2_charAt_3b067 1 = .ok (.aload_n 0, 1) := by decide +kernel
theorem dJ2_charAt_3b067_2 : decode cJ2_charAt_3b067 2 = .ok (.invokestatic 67, 3) := by decide +kernel
theorem dJ2_charAt_3b067_5 : decode cJ2_charAt_3b067 5 = .ok (.aload_n 0, 1) := by decide +kernel
theorem dJ2_charAt_3b067_6 : decode cJ2_charAt_3b067 6 = .ok (.iload_n 1, 1) := by decide +kernel
theorem dJ2_charAt_3b067_7 : decode cJ2_charAt_3b067 7 = .ok (.invokestatic 71, 3) := by decide +kernel
theorem dJ2_charAt_3b067_10 : decode cJ2_charAt_3b067 10 = .ok (.ireturn, 1) := by decide +kernel
theorem dJ2_checkIndex_2214a_0 : decode cJ2_checkIndex_2214a 0 = .ok (.iload_n 0, 1) := by decide +kernel
theorem dJ2_checkIndex_2214a_1 : decode cJ2_checkIndex_2214a 1 = .ok (.aload_n 1, 1) := by decide +kernel
theorem dJ2_checkIndex_2214a_2 : decode cJ2_checkIndex_2214a 2 = .ok (.invokestatic 48, 3) := by decide +kernel
theorem dJ2_checkIndex_2214a_5 : decode cJ2_checkIndex_2214a 5 = .ok (.invokestatic 414, 3) := by decide +kernel
theorem dJ2_checkIndex_2214a_8 : decode cJ2_checkIndex_2214a 8 = .ok (.return_, 1) := by decide +kernel
theorem dJ3_checkIndex_8e157_0 : decode cJ3_checkIndex_8e157 0 = .ok (.iload_n 0, 1) := by decide +kernel
theorem dJ3_checkIndex_8e157_1 : decode cJ3_checkIndex_8e157 1 = .ok (.ifCond .lt 8, 3) := by decide +kernel
theorem dJ3_checkIndex_8e157_4 : decode cJ3_checkIndex_8e157 4 = .ok (.iload_n 0, 1) := by decide +kernel
theorem dJ3_checkIndex_8e157_5 : decode cJ3_checkIndex_8e157 5 = .ok (.iload_n 1, 1) := by decide +kernel
theorem dJ3_checkIndex_8e157_6 : decode cJ3_checkIndex_8e157 6 = .ok (.if_icmp .lt 10, 3) := by decide +kernel
theorem dJ3_checkIndex_8e157_9 : decode cJ3_checkIndex_8e157 9 = .ok (.aload_n 2, 1) := by decide +kernel
theorem dJ3_checkIndex_8e157_10 : decode cJ3_checkIndex_8e157 10 = .ok (.iload_n 0, 1) := by decide +kernel
theorem dJ3_checkIndex_8e157_11 : decode cJ3_checkIndex_8e157 11 = .ok (.iload_n 1, 1) := by decide +kernel
theorem dJ3_checkIndex_8e157_12 : decode cJ3_checkIndex_8e157 12 = .ok (.invokestatic 95, 3) := by decide +kernel
theorem dJ3_checkIndex_8e157_15 : decode cJ3_checkIndex_8e157 15 = .ok (.athrow, 1) := by decide +kernel
theorem dJ3_checkIndex_8e157_16 : decode cJ3_checkIndex_8e157 16 = .ok (.iload_n 0, 1) := by decide +kernel
theorem dJ3_checkIndex_8e157_17 : decode cJ3_checkIndex_8e157 17 = .ok (.ireturn, 1) := by decide +kernel
