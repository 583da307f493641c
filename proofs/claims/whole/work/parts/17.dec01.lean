theorem dX2_isLend_11 : decode cX2_isLend 11 = .ok (.aload_n 1, 1) := by decide +kernel
theorem dX2_isLend_12 : decode cX2_isLend 12 = .ok (.getfield 92, 3) := by decide +kernel
theorem dX2_isLend_15 : decode cX2_isLend 15 = .ok (.aload_n 0, 1) := by decide +kernel
theorem dX2_isLend_16 : decode cX2_isLend 16 = .ok (.getfield 28, 3) := by decide +kernel
theorem dX2_isLend_19 : decode cX2_isLend 19 = .ok (.iaload, 1) := by decide +kernel
theorem dX2_isLend_20 : decode cX2_isLend 20 = .ok (.iconst (-1), 1) := by decide +kernel
theorem dX2_isLend_21 : decode cX2_isLend 21 = .ok (.if_icmp .eq 5, 3) := by decide +kernel
theorem dX2_isLend_24 : decode cX2_isLend 24 = .ok (.iconst 0, 1) := by decide +kernel
theorem dX2_isLend_25 : decode cX2_isLend 25 = .ok (.ireturn, 1) := by decide +kernel
theorem dX2_isLend_26 : decode cX2_isLend 26 = .ok (.aload_n 0, 1) := by decide +kernel
theorem dX2_isLend_27 : decode cX2_isLend 27 = .ok (.getfield 28, 3) := by decide +kernel
theorem dX2_isLend_30 : decode cX2_isLend 30 = .ok (.istore_n 2, 1) := by decide +kernel
theorem dX2_isLend_31 : decode cX2_isLend 31 = .ok (.aload_n 0, 1) := by decide +kernel
theorem dX2_isLend_32 : decode cX2_isLend 32 = .ok (.aload_n 1, 1) := by decide +kernel
theorem dX2_isLend_33 : decode cX2_isLend 33 = .ok (.getfield 71, 3) := by decide +kernel
theorem dX2_isLend_36 : decode cX2_isLend 36 = .ok (.invokevirtual 76, 3) := by decide +kernel
theorem dX2_isLend_39 : decode cX2_isLend 39 = .ok (.ifCond .ne 5, 3) := by decide +kernel
theorem dX2_isLend_42 : decode cX2_isLend 42 = .ok (.iconst 0, 1) := by decide +kernel
theorem dX2_isLend_43 : decode cX2_isLend 43 = .ok (.ireturn, 1) := by decide +kernel
theorem dX2_isLend_44 : decode cX2_isLend 44 = .ok (.aload_n 1, 1) := by decide +kernel
theorem dX2_isLend_45 : decode cX2_isLend 45 = .ok (.iload_n 2, 1) := by decide +kernel
theorem dX2_isLend_46 : decode cX2_isLend 46 = .ok (.aload_n 0, 1) := by decide +kernel
theorem dX2_isLend_47 : decode cX2_isLend 47 = .ok (.getfield 28, 3) := by decide +kernel
theorem dX2_isLend_50 : decode cX2_isLend 50 = .ok (.invokevirtual 96, 3) := by decide +kernel
theorem dX2_isLend_53 : decode cX2_isLend 53 = .ok (.pop, 1) := by decide +kernel
theorem dX2_isLend_54 : decode cX2_isLend 54 = .ok (.aload_n 0, 1) := by decide +kernel
theorem dX2_isLend_55 : decode cX2_isLend 55 = .ok (.invokevirtual 53, 3) := by decide +kernel
theorem dX2_isLend_58 : decode cX2_isLend 58 = .ok (.ireturn, 1) := by decide +kernel
theorem dX2_isNumberBelow_0 : decode cX2_isNumberBelow 0 = .ok (.aload_n 0, 1) := by decide +kernel
theorem dX2_isNumberBelow_1 : decode cX2_isNumberBelow 1 = .ok (.invokevirtual 36, 3) := by decide +kernel
theorem dX2_isNumberBelow_4 : decode cX2_isNumberBelow 4 = .ok (.aload_n 0, 1) := by decide +kernel
theorem dX2_isNumberBelow_5 : decode cX2_isNumberBelow 5 = .ok (.getfield 19, 3) := by decide +kernel
theorem dX2_isNumberBelow_8 : decode cX2_isNumberBelow 8 = .ok (.iconst 2, 1) := by decide +kernel
theorem dX2_isNumberBelow_9 : decode cX2_isNumberBelow 9 = .ok (.if_icmp .ne 15, 3) := by decide +kernel
theorem dX2_isNumberBelow_12 : decode cX2_isNumberBelow 12 = .ok (.aload_n 0, 1) := by decide +kernel
theorem dX2_isNumberBelow_13 : decode cX2_isNumberBelow 13 = .ok (.getfield 28, 3) := by decide +kernel
theorem dX2_isNumberBelow_16 : decode cX2_isNumberBelow 16 = .ok (.iload_n 1, 1) := by decide +kernel
theorem dX2_isNumberBelow_17 : decode cX2_isNumberBelow 17 = .ok (.if_icmp .ge 7, 3) := by decide +kernel
theorem dX2_isNumberBelow_20 : decode cX2_isNumberBelow 20 = .ok (.iconst 1, 1) := by decide +kernel
theorem dX2_isNumberBelow_21 : decode cX2_isNumberBelow 21 = .ok (.goto 4, 3) := by decide +kernel
theorem dX2_isNumberBelow_24 : decode cX2_isNumberBelow 24 = .ok (.iconst 0, 1) := by decide +kernel
theorem dX2_isNumberBelow_25 : decode cX2_isNumberBelow 25 = .ok (.ireturn, 1) := by decide +kernel
theorem dX2_isStop_0 : decode cX2_isStop 0 = .ok (.aload_n 0, 1) := by decide +kernel
theorem dX2_isStop_1 : decode cX2_isStop 1 = .ok (.invokevirtual 36, 3) := by decide +kernel
theorem dX2_isStop_4 : decode cX2_isStop 4 = .ok (.aload_n 0, 1) := by decide +kernel
theorem dX2_isStop_5 : decode cX2_isStop 5 = .ok (.getfield 19, 3) := by decide +kernel
theorem dX2_isStop_8 : decode cX2_isStop 8 = .ok (.iconst 3, 1) := by decide +kernel
theorem dX2_isStop_9 : decode cX2_isStop 9 = .ok (.if_icmp .ne 7, 3) := by decide +kernel
theorem dX2_isStop_12 : decode cX2_isStop 12 = .ok (.iconst 1, 1) := by decide +kernel
theorem dX2_isStop_13 : decode cX2_isStop 13 = .ok (.goto 4, 3) := by decide +kernel
theorem dX2_isStop_16 : decode cX2_isStop 16 = .ok (.iconst 0, 1) := by decide +kernel
theorem dX2_isStop_17 : decode cX2_isStop 17 = .ok (.ireturn, 1) := by decide +kernel
theorem dX2_isWord_0 : decode cX2_isWord 0 = .ok (.aload_n 0, 1) := by decide +kernel
theorem dX2_isWord_1 : decode cX2_isWord 1 = .ok (.getfield 19, 3) := by decide +kernel
theorem dX2_isWord_4 : decode cX2_isWord 4 = .ok (.iconst 1, 1) := by decide +kernel
theorem dX2_isWord_5 : decode cX2_isWord 5 = .ok (.if_icmp .ne 19, 3) := by decide +kernel
theorem dX2_isWord_8 : decode cX2_isWord 8 = .ok (.aload_n 0, 1) := by decide +kernel
theorem dX2_isWord_9 : decode cX2_isWord 9 = .ok (.getfield 25, 3) := by decide +kernel
theorem dX2_isWord_12 : decode cX2_isWord 12 = .ok (.aload_n 0, 1) := by decide +kernel
theorem dX2_isWord_13 : decode cX2_isWord 13 = .ok (.getfield 22, 3) := by decide +kernel
theorem dX2_isWord_16 : decode cX2_isWord 16 = .ok (.isub, 1) := by decide +kernel
theorem dX2_isWord_17 : decode cX2_isWord 17 = .ok (.aload_n 1, 1) := by decide +kernel
theorem dX2_isWord_18 : decode cX2_isWord 18 = .ok (.invokevirtual 100, 3) := by decide +kernel
theorem dX2_isWord_21 : decode cX2_isWord 21 = .ok (.if_icmp .eq 5, 3) := by decide +kernel
theorem dX2_isWord_24 : decode cX2_isWord 24 = .ok (.iconst 0, 1) := by decide +kernel
theorem dX2_isWord_25 : decode cX2_isWord 25 = .ok (.ireturn, 1) := by decide +kernel
theorem dX2_isWord_26 : decode cX2_isWord 26 = .ok (.iconst 0, 1) := by decide +kernel
theorem dX2_isWord_27 : decode cX2_isWord 27 = .ok (.istore_n 2, 1) := by decide +kernel
theorem dX2_isWord_28 : decode cX2_isWord 28 = .ok (.iload_n 2, 1) := by decide +kernel
theorem dX2_isWord_29 : decode cX2_isWord 29 = .ok (.aload_n 1, 1) := by decide +kernel
theorem dX2_isWord_30 : decode cX2_isWord 30 = .ok (.invokevirtual 100, 3) := by decide +kernel
theorem dX2_isWord_33 : decode cX2_isWord 33 = .ok (.if_icmp .ge 30, 3) := by decide +kernel
theorem dX2_isWord_36 : decode cX2_isWord 36 = .ok (.aload_n 0, 1) := by decide +kernel
theorem dX2_isWord_37 : decode cX2_isWord 37 = .ok (.getfield 9, 3) := by decide +kernel
theorem dX2_isWord_40 : decode cX2_isWord 40 = .ok (.aload_n 0, 1) := by decide +kernel
theorem dX2_isWord_41 : decode cX2_isWord 41 = .ok (.getfield 22, 3) := by decide +kernel
theorem dX2_isWord_44 : decode cX2_isWord 44 = .ok (.iload_n 2, 1) := by decide +kernel
theorem dX2_isWord_45 : decode cX2_isWord 45 = .ok (.iadd, 1) := by decide +kernel
theorem dX2_isWord_46 : decode cX2_isWord 46 = .ok (.baload, 1) := by decide +kernel
theorem dX2_isWord_47 : decode cX2_isWord 47 = .ok (.aload_n 1, 1) := by decide +kernel
theorem dX2_isWord_48 : decode cX2_isWord 48 = .ok (.iload_n 2, 1) := by decide +kernel
theorem dX2_isWord_49 : decode cX2_isWord 49 = .ok (.invokevirtual 105, 3) := by decide +kernel
theorem dX2_isWord_52 : decode cX2_isWord 52 = .ok (.if_icmp .eq 5, 3) := by decide +kernel
theorem dX2_isWord_55 : decode cX2_isWord 55 = .ok (.iconst 0, 1) := by decide +kernel
theorem dX2_isWord_56 : decode cX2_isWord 56 = .ok (.ireturn, 1) := by decide +kernel
theorem dX2_isWord_57 : decode cX2_isWord 57 = .ok (.iinc 2 1, 3) := by decide +kernel
theorem dX2_isWord_60 : decode cX2_isWord 60 = .ok (.goto (-32), 3) := by decide +kernel
theorem dX2_isWord_63 : decode cX2_isWord 63 = .ok (.iconst 1, 1) := by decide +kernel
theorem dX2_isWord_64 : decode cX2_isWord 64 = .ok (.ireturn, 1) := by decide +kernel
theorem dX2_step_0 : decode cX2_step 0 = .ok (.aload_n 0, 1) := by decide +kernel
theorem dX2_step_1 : decode cX2_step 1 = .ok (.aload_n 0, 1) := by decide +kernel
theorem dX2_step_2 : decode cX2_step 2 = .ok (.getfield 25, 3) := by decide +kernel
theorem dX2_step_5 : decode cX2_step 5 = .ok (.putfield 22, 3) := by decide +kernel
theorem dX2_step_8 : decode cX2_step 8 = .ok (.aload_n 0, 1) := by decide +kernel
theorem dX2_step_9 : decode cX2_step 9 = .ok (.getfield 22, 3) := by decide +kernel
theorem dX2_step_12 : decode cX2_step 12 = .ok (.aload_n 0, 1) := by decide +kernel
theorem dX2_step_13 : decode cX2_step 13 = .ok (.getfield 15, 3) := by decide +kernel
theorem dX2_step_16 : decode cX2_step 16 = .ok (.if_icmp .ge 30, 3) := by decide +kernel
theorem dX2_step_19 : decode cX2_step 19 = .ok (.aload_n 0, 1) := by decide +kernel
theorem dX2_step_20 : decode cX2_step 20 = .ok (.getfield 9, 3) := by decide +kernel
theorem dX2_step_23 : decode cX2_step 23 = .ok (.aload_n 0, 1) := by decide +kernel
theorem dX2_step_24 : decode cX2_step 24 = .ok (.getfield 22, 3) := by decide +kernel
theorem dX2_step_27 : decode cX2_step 27 = .ok (.baload, 1) := by decide +kernel
theorem dX2_step_28 : decode cX2_step 28 = .ok (.bipush 32, 2) := by decide +kernel
theorem dX2_step_30 : decode cX2_step 30 = .ok (.if_icmp .ne 16, 3) := by decide +kernel
theorem dX2_step_33 : decode cX2_step 33 = .ok (.aload_n 0, 1) := by decide +kernel
theorem dX2_step_34 : decode cX2_step 34 = .ok (.dup, 1) := by decide +kernel
theorem dX2_step_35 : decode cX2_step 35 = .ok (.getfield 22, 3) := by decide +kernel
theorem dX2_step_38 : decode cX2_step 38 = .ok (.iconst 1, 1) := by decide +kernel
theorem dX2_step_39 : decode cX2_step 39 = .ok (.iadd, 1) := by decide +kernel
theorem dX2_step_40 : decode cX2_step 40 = .ok (.putfield 22, 3) := by decide +kernel
theorem dX2_step_43 : decode cX2_step 43 = .ok (.goto (-35), 3) := by decide +kernel
theorem dX2_step_46 : decode cX2_step 46 = .ok (.aload_n 0, 1) := by decide +kernel
theorem dX2_step_47 : decode cX2_step 47 = .ok (.aload_n 0, 1) := by decide +kernel
theorem dX2_step_48 : decode cX2_step 48 = .ok (.getfield 22, 3) := by decide +kernel
theorem dX2_step_51 : decode cX2_step 51 = .ok (.putfield 25, 3) := by decide +kernel
theorem dX2_step_54 : decode cX2_step 54 = .ok (.aload_n 0, 1) := by decide +kernel
theorem dX2_step_55 : decode cX2_step 55 = .ok (.iconst 0, 1) := by decide +kernel
theorem dX2_step_56 : decode cX2_step 56 = .ok (.putfield 19, 3) := by decide +kernel
theorem dX2_step_59 : decode cX2_step 59 = .ok (.aload_n 0, 1) := by decide +kernel
theorem dX2_step_60 : decode cX2_step 60 = .ok (.getfield 22, 3) := by decide +kernel
theorem dX2_step_63 : decode cX2_step 63 = .ok (.aload_n 0, 1) := by decide +kernel
theorem dX2_step_64 : decode cX2_step 64 = .ok (.getfield 15, 3) := by decide +kernel
theorem dX2_step_67 : decode cX2_step 67 = .ok (.if_icmp .lt 4, 3) := by decide +kernel
theorem dX2_step_70 : decode cX2_step 70 = .ok (.return_, 1) := by decide +kernel
theorem dX2_step_71 : decode cX2_step 71 = .ok (.aload_n 0, 1) := by decide +kernel
theorem dX2_step_72 : decode cX2_step 72 = .ok (.aload_n 0, 1) := by decide +kernel
theorem dX2_step_73 : decode cX2_step 73 = .ok (.getfield 9, 3) := by decide +kernel
theorem dX2_step_76 : decode cX2_step 76 = .ok (.aload_n 0, 1) := by decide +kernel
theorem dX2_step_77 : decode cX2_step 77 = .ok (.getfield 22, 3) := by decide +kernel
theorem dX2_step_80 : decode cX2_step 80 = .ok (.baload, 1) := by decide +kernel
theorem dX2_step_81 : decode cX2_step 81 = .ok (.invokestatic 109, 3) := by decide +kernel
theorem dX2_step_84 : decode cX2_step 84 = .ok (.putfield 19, 3) := by decide +kernel
theorem dX2_step_87 : decode cX2_step 87 = .ok (.aload_n 0, 1) := by decide +kernel
theorem dX2_step_88 : decode cX2_step 88 = .ok (.dup, 1) := by decide +kernel
theorem dX2_step_89 : decode cX2_step 89 = .ok (.getfield 25, 3) := by decide +kernel
theorem dX2_step_92 : decode cX2_step 92 = .ok (.iconst 1, 1) := by decide +kernel
theorem dX2_step_93 : decode cX2_step 93 = .ok (.iadd, 1) := by decide +kernel
theorem dX2_step_94 : decode cX2_step 94 = .ok (.putfield 25, 3) := by decide +kernel
theorem dX2_step_97 : decode cX2_step 97 = .ok (.aload_n 0, 1) := by decide +kernel
theorem dX2_step_98 : decode cX2_step 98 = .ok (.getfield 19, 3) := by decide +kernel
theorem dX2_step_101 : decode cX2_step 101 = .ok (.iconst 1, 1) := by decide +kernel
theorem dX2_step_102 : decode cX2_step 102 = .ok (.if_icmp .eq 11, 3) := by decide +kernel
theorem dX2_step_105 : decode cX2_step 105 = .ok (.aload_n 0, 1) := by decide +kernel
theorem dX2_step_106 : decode cX2_step 106 = .ok (.getfield 19, 3) := by decide +kernel
theorem dX2_step_109 : decode cX2_step 109 = .ok (.iconst 2, 1) := by decide +kernel
theorem dX2_step_110 : decode cX2_step 110 = .ok (.if_icmp .ne 46, 3) := by decide +kernel
theorem dX2_step_113 : decode cX2_step 113 = .ok (.aload_n 0, 1) := by decide +kernel
theorem dX2_step_114 : decode cX2_step 114 = .ok (.getfield 25, 3) := by decide +kernel
theorem dX2_step_117 : decode cX2_step 117 = .ok (.aload_n 0, 1) := by decide +kernel
theorem dX2_step_118 : decode cX2_step 118 = .ok (.getfield 15, 3) := by decide +kernel
theorem dX2_step_121 : decode cX2_step 121 = .ok (.if_icmp .ge 35, 3) := by decide +kernel
theorem dX2_step_124 : decode cX2_step 124 = .ok (.aload_n 0, 1) := by decide +kernel
theorem dX2_step_125 : decode cX2_step 125 = .ok (.getfield 9, 3) := by decide +kernel
theorem dX2_step_128 : decode cX2_step 128 = .ok (.aload_n 0, 1) := by decide +kernel
theorem dX2_step_129 : decode cX2_step 129 = .ok (.getfield 25, 3) := by decide +kernel
theorem dX2_step_132 : decode cX2_step 132 = .ok (.baload, 1) := by decide +kernel
theorem dX2_step_133 : decode cX2_step 133 = .ok (.invokestatic 109, 3) := by decide +kernel
theorem dX2_step_136 : decode cX2_step 136 = .ok (.aload_n 0, 1) := by decide +kernel
theorem dX2_step_137 : decode cX2_step 137 = .ok (.getfield 19, 3) := by decide +kernel
theorem dX2_step_140 : decode cX2_step 140 = .ok (.if_icmp .ne 16, 3) := by decide +kernel
theorem dX2_step_143 : decode cX2_step 143 = .ok (.aload_n 0, 1) := by decide +kernel
theorem dX2_step_144 : decode cX2_step 144 = .ok (.dup, 1) := by decide +kernel
theorem dX2_step_145 : decode cX2_step 145 = .ok (.getfield 25, 3) := by decide +kernel
theorem dX2_step_148 : decode cX2_step 148 = .ok (.iconst 1, 1) := by decide +kernel
theorem dX2_step_149 : decode cX2_step 149 = .ok (.iadd, 1) := by decide +kernel
theorem dX2_step_150 : decode cX2_step 150 = .ok (.putfield 25, 3) := by decide +kernel
theorem dX2_step_153 : decode cX2_step 153 = .ok (.goto (-40), 3) := by decide +kernel
theorem dX2_step_156 : decode cX2_step 156 = .ok (.aload_n 0, 1) := by decide +kernel
theorem dX2_step_157 : decode cX2_step 157 = .ok (.getfield 19, 3) := by decide +kernel
theorem dX2_step_160 : decode cX2_step 160 = .ok (.iconst 2, 1) := by decide +kernel
theorem dX2_step_161 : decode cX2_step 161 = .ok (.if_icmp .ne 7, 3) := by decide +kernel
theorem dX2_step_164 : decode cX2_step 164 = .ok (.aload_n 0, 1) := by decide +kernel
theorem dX2_step_165 : decode cX2_step 165 = .ok (.invokevirtual 112, 3) := by decide +kernel
theorem dX2_step_168 : decode cX2_step 168 = .ok (.return_, 1) := by decide +kernel
theorem dX2_tokenBegunBy_0 : decode cX2_tokenBegunBy 0 = .ok (.iload_n 0, 1) := by decide +kernel
theorem dX2_tokenBegunBy_1 : decode cX2_tokenBegunBy 1 = .ok (.bipush 97, 2) := by decide +kernel
theorem dX2_tokenBegunBy_3 : decode cX2_tokenBegunBy 3 = .ok (.if_icmp .lt 11, 3) := by decide +kernel
theorem dX2_tokenBegunBy_6 : decode cX2_tokenBegunBy 6 = .ok (.iload_n 0, 1) := by decide +kernel
theorem dX2_tokenBegunBy_7 : decode cX2_tokenBegunBy 7 = .ok (.bipush 122, 2) := by decide +kernel
theorem dX2_tokenBegunBy_9 : decode cX2_tokenBegunBy 9 = .ok (.if_icmp .gt 5, 3) := by decide +kernel
theorem dX2_tokenBegunBy_12 : decode cX2_tokenBegunBy 12 = .ok (.iconst 1, 1) := by decide +kernel
theorem dX2_tokenBegunBy_13 : decode cX2_tokenBegunBy 13 = .ok (.ireturn, 1) := by decide +kernel
theorem dX2_tokenBegunBy_14 : decode cX2_tokenBegunBy 14 = .ok (.iload_n 0, 1) := by decide +kernel
theorem dX2_tokenBegunBy_15 : decode cX2_tokenBegunBy 15 = .ok (.bipush 48, 2) := by decide +kernel
theorem dX2_tokenBegunBy_17 : decode cX2_tokenBegunBy 17 = .ok (.if_icmp .lt 11, 3) := by decide +kernel
theorem dX2_tokenBegunBy_20 : decode cX2_tokenBegunBy 20 = .ok (.iload_n 0, 1) := by decide +kernel
theorem dX2_tokenBegunBy_21 : decode cX2_tokenBegunBy 21 = .ok (.bipush 57, 2) := by decide +kernel
theorem dX2_tokenBegunBy_23 : decode cX2_tokenBegunBy 23 = .ok (.if_icmp .gt 5, 3) := by decide +kernel
theorem dX2_tokenBegunBy_26 : decode cX2_tokenBegunBy 26 = .ok (.iconst 2, 1) := by decide +kernel
theorem dX2_tokenBegunBy_27 : decode cX2_tokenBegunBy 27 = .ok (.ireturn, 1) := by decide +kernel
theorem dX2_tokenBegunBy_28 : decode cX2_tokenBegunBy 28 = .ok (.iload_n 0, 1) := by decide +kernel
theorem dX2_tokenBegunBy_29 : decode cX2_tokenBegunBy 29 = .ok (.bipush 59, 2) := by decide +kernel
theorem dX2_tokenBegunBy_31 : decode cX2_tokenBegunBy 31 = .ok (.if_icmp .ne 7, 3) := by decide +kernel
theorem dX2_tokenBegunBy_34 : decode cX2_tokenBegunBy 34 = .ok (.iconst 3, 1) := by decide +kernel
theorem dX2_tokenBegunBy_35 : decode cX2_tokenBegunBy 35 = .ok (.goto 4, 3) := by decide +kernel
theorem dX2_tokenBegunBy_38 : decode cX2_tokenBegunBy 38 = .ok (.iconst 4, 1) := by decide +kernel
theorem dX2_tokenBegunBy_39 : decode cX2_tokenBegunBy 39 = .ok (.ireturn, 1) := by decide +kernel
theorem dX2_takeValue_0 : decode cX2_takeValue 0 = .ok (.aload_n 0, 1) := by decide +kernel
theorem dX2_takeValue_1 : decode cX2_takeValue 1 = .ok (.getfield 25, 3) := by decide +kernel
theorem dX2_takeValue_4 : decode cX2_takeValue 4 = .ok (.aload_n 0, 1) := by decide +kernel
theorem dX2_takeValue_5 : decode cX2_takeValue 5 = .ok (.getfield 22, 3) := by decide +kernel
theorem dX2_takeValue_8 : decode cX2_takeValue 8 = .ok (.isub, 1) := by decide +kernel
theorem dX2_takeValue_9 : decode cX2_takeValue 9 = .ok (.iconst 2, 1) := by decide +kernel
theorem dX2_takeValue_10 : decode cX2_takeValue 10 = .ok (.if_icmp .le 9, 3) := by decide +kernel
theorem dX2_takeValue_13 : decode cX2_takeValue 13 = .ok (.aload_n 0, 1) := by decide +kernel
theorem dX2_takeValue_14 : decode cX2_takeValue 14 = .ok (.iconst 4, 1) := by decide +kernel
theorem dX2_takeValue_15 : decode cX2_takeValue 15 = .ok (.putfield 19, 3) := by decide +kernel
theorem dX2_takeValue_18 : decode cX2_takeValue 18 = .ok (.return_, 1) := by decide +kernel
theorem dX2_takeValue_19 : decode cX2_takeValue 19 = .ok (.aload_n 0, 1) := by decide +kernel
theorem dX2_takeValue_20 : decode cX2_takeValue 20 = .ok (.iconst 0, 1) := by decide +kernel
theorem dX2_takeValue_21 : decode cX2_takeValue 21 = .ok (.putfield 28, 3) := by decide +kernel
theorem dX2_takeValue_24 : decode cX2_takeValue 24 = .ok (.aload_n 0, 1) := by decide +kernel
theorem dX2_takeValue_25 : decode cX2_takeValue 25 = .ok (.getfield 22, 3) := by decide +kernel
theorem dX2_takeValue_28 : decode cX2_takeValue 28 = .ok (.istore_n 1, 1) := by decide +kernel
theorem dX2_takeValue_29 : decode cX2_takeValue 29 = .ok (.iload_n 1, 1) := by decide +kernel
theorem dX2_takeValue_30 : decode cX2_takeValue 30 = .ok (.aload_n 0, 1) := by decide +kernel
theorem dX2_takeValue_31 : decode cX2_takeValue 31 = .ok (.getfield 25, 3) := by decide +kernel
theorem dX2_takeValue_34 : decode cX2_takeValue 34 = .ok (.if_icmp .ge 30, 3) := by decide +kernel
theorem dX2_takeValue_37 : decode cX2_takeValue 37 = .ok (.aload_n 0, 1) := by decide +kernel
theorem dX2_takeValue_38 : decode cX2_takeValue 38 = .ok (.bipush 10, 2) := by decide +kernel
theorem dX2_takeValue_40 : decode cX2_takeValue 40 = .ok (.aload_n 0, 1) := by decide +kernel
theorem dX2_takeValue_41 : decode cX2_takeValue 41 = .ok (.getfield 28, 3) := by decide +kernel
theorem dX2_takeValue_44 : decode cX2_takeValue 44 = .ok (.imul, 1) := by decide +kernel
theorem dX2_takeValue_45 : decode cX2_takeValue 45 = .ok (.aload_n 0, 1) := by decide +kernel
theorem dX2_takeValue_46 : decode cX2_takeValue 46 = .ok (.getfield 9, 3) := by decide +kernel
theorem dX2_takeValue_49 : decode cX2_takeValue 49 = .ok (.iload_n 1, 1) := by decide +kernel
theorem dX2_takeValue_50 : decode cX2_takeValue 50 = .ok (.baload, 1) := by decide +kernel
theorem dX2_takeValue_51 : decode cX2_takeValue 51 = .ok (.iadd, 1) := by decide +kernel
theorem dX2_takeValue_52 : decode cX2_takeValue 52 = .ok (.bipush 48, 2) := by decide +kernel
theorem dX2_takeValue_54 : decode cX2_takeValue 54 = .ok (.isub, 1) := by decide +kernel
theorem dX2_takeValue_55 : decode cX2_takeValue 55 = .ok (.putfield 28, 3) := by decide +kernel
theorem dX2_takeValue_58 : decode cX2_takeValue 58 = .ok (.iinc 1 1, 3) := by decide +kernel
theorem dX2_takeValue_61 : decode cX2_takeValue 61 = .ok (.goto (-32), 3) := by decide +kernel
theorem dX2_takeValue_64 : decode cX2_takeValue 64 = .ok (.return_, 1) := by decide +kernel
theorem dX3_init_0 : decode cX3_init 0 = .ok (.aload_n 0, 1) := by decide +kernel
theorem dX3_init_1 : decode cX3_init 1 = .ok (.invokespecial 1, 3) := by decide +kernel
theorem dX3_init_4 : decode cX3_init 4 = .ok (.aload_n 0, 1) := by decide +kernel
theorem dX3_init_5 : decode cX3_init 5 = .ok (.new 7, 3) := by decide +kernel
theorem dX3_init_8 : decode cX3_init 8 = .ok (.dup, 1) := by decide +kernel
theorem dX3_init_9 : decode cX3_init 9 = .ok (.invokespecial 9, 3) := by decide +kernel
theorem dX3_init_12 : decode cX3_init 12 = .ok (.putfield 10, 3) := by decide +kernel
theorem dX3_init_15 : decode cX3_init 15 = .ok (.aload_n 0, 1) := by decide +kernel
theorem dX3_init_16 : decode cX3_init 16 = .ok (.new 7, 3) := by decide +kernel
theorem dX3_init_19 : decode cX3_init 19 = .ok (.dup, 1) := by decide +kernel
theorem dX3_init_20 : decode cX3_init 20 = .ok (.invokespecial 9, 3) := by decide +kernel
theorem dX3_init_23 : decode cX3_init 23 = .ok (.putfield 16, 3) := by decide +kernel
theorem dX3_init_26 : decode cX3_init 26 = .ok (.aload_n 0, 1) := by decide +kernel
theorem dX3_init_27 : decode cX3_init 27 = .ok (.new 7, 3) := by decide +kernel
theorem dX3_init_30 : decode cX3_init 30 = .ok (.dup, 1) := by decide +kernel
theorem dX3_init_31 : decode cX3_init 31 = .ok (.invokespecial 9, 3) := by decide +kernel
theorem dX3_init_34 : decode cX3_init 34 = .ok (.putfield 19, 3) := by decide +kernel
theorem dX3_init_37 : decode cX3_init 37 = .ok (.aload_n 0, 1) := by decide +kernel
theorem dX3_init_38 : decode cX3_init 38 = .ok (.new 7, 3) := by decide +kernel
theorem dX3_init_41 : decode cX3_init 41 = .ok (.dup, 1) := by decide +kernel
theorem dX3_init_42 : decode cX3_init 42 = .ok (.invokespecial 9, 3) := by decide +kernel
theorem dX3_init_45 : decode cX3_init 45 = .ok (.putfield 22, 3) := by decide +kernel
theorem dX3_init_48 : decode cX3_init 48 = .ok (.aload_n 0, 1) := by decide +kernel
theorem dX3_init_49 : decode cX3_init 49 = .ok (.iconst 0, 1) := by decide +kernel
theorem dX3_init_50 : decode cX3_init 50 = .ok (.putfield 25, 3) := by decide +kernel
theorem dX3_init_53 : decode cX3_init 53 = .ok (.aload_n 0, 1) := by decide +kernel
theorem dX3_init_54 : decode cX3_init 54 = .ok (.iconst 0, 1) := by decide +kernel
theorem dX3_init_55 : decode cX3_init 55 = .ok (.putfield 29, 3) := by decide +kernel
theorem dX3_init_58 : decode cX3_init 58 = .ok (.aload_n 0, 1) := by decide +kernel
theorem dX3_init_59 : decode cX3_init 59 = .ok (.new 32, 3) := by decide +kernel
theorem dX3_init_62 : decode cX3_init 62 = .ok (.dup, 1) := by decide +kernel
theorem dX3_init_63 : decode cX3_init 63 = .ok (.invokespecial 34, 3) := by decide +kernel
theorem dX3_init_66 : decode cX3_init 66 = .ok (.putfield 35, 3) := by decide +kernel
theorem dX3_init_69 : decode cX3_init 69 = .ok (.aload_n 0, 1) := by decide +kernel
theorem dX3_init_70 : decode cX3_init 70 = .ok (.bipush 64, 2) := by decide +kernel
theorem dX3_init_72 : decode cX3_init 72 = .ok (.newarray .int, 2) := by decide +kernel
theorem dX3_init_74 : decode cX3_init 74 = .ok (.putfield 39, 3) := by decide +kernel
theorem dX3_init_77 : decode cX3_init 77 = .ok (.aload_n 0, 1) := by decide +kernel
theorem dX3_init_78 : decode cX3_init 78 = .ok (.bipush 64, 2) := by decide +kernel
theorem dX3_init_80 : decode cX3_init 80 = .ok (.newarray .int, 2) := by decide +kernel
theorem dX3_init_82 : decode cX3_init 82 = .ok (.putfield 43, 3) := by decide +kernel
theorem dX3_init_85 : decode cX3_init 85 = .ok (.aload_n 0, 1) := by decide +kernel
theorem dX3_init_86 : decode cX3_init 86 = .ok (.lconst 0, 1) := by decide +kernel
theorem dX3_init_87 : decode cX3_init 87 = .ok (.putfield 46, 3) := by decide +kernel
theorem dX3_init_90 : decode cX3_init 90 = .ok (.aload_n 0, 1) := by decide +kernel
theorem dX3_init_91 : decode cX3_init 91 = .ok (.lconst 1, 1) := by decide +kernel
theorem dX3_init_92 : decode cX3_init 92 = .ok (.putfield 50, 3) := by decide +kernel
theorem dX3_init_95 : decode cX3_init 95 = .ok (.aload_n 0, 1) := by decide +kernel
theorem dX3_init_96 : decode cX3_init 96 = .ok (.iconst 0, 1) := by decide +kernel
theorem dX3_init_97 : decode cX3_init 97 = .ok (.putfield 53, 3) := by decide +kernel
theorem dX3_init_100 : decode cX3_init 100 = .ok (.aload_n 0, 1) := by decide +kernel
theorem dX3_init_101 : decode cX3_init 101 = .ok (.iconst 0, 1) := by decide +kernel
theorem dX3_init_102 : decode cX3_init 102 = .ok (.putfield 57, 3) := by decide +kernel
theorem dX3_init_105 : decode cX3_init 105 = .ok (.aload_n 0, 1) := by decide +kernel
theorem dX3_init_106 : decode cX3_init 106 = .ok (.iconst 0, 1) := by decide +kernel
theorem dX3_init_107 : decode cX3_init 107 = .ok (.putfield 60, 3) := by decide +kernel
theorem dX3_init_110 : decode cX3_init 110 = .ok (.return_, 1) := by decide +kernel
theorem dX3_counter_0 : decode cX3_counter 0 = .ok (.aload_n 0, 1) := by decide +kernel
theorem dX3_counter_1 : decode cX3_counter 1 = .ok (.getfield 10, 3) := by decide +kernel
theorem dX3_counter_4 : decode cX3_counter 4 = .ok (.getfield 63, 3) := by decide +kernel
theorem dX3_counter_7 : decode cX3_counter 7 = .ok (.istore_n 1, 1) := by decide +kernel
theorem dX3_counter_8 : decode cX3_counter 8 = .ok (.aload_n 0, 1) := by decide +kernel
theorem dX3_counter_9 : decode cX3_counter 9 = .ok (.getfield 10, 3) := by decide +kernel
theorem dX3_counter_12 : decode cX3_counter 12 = .ok (.invokevirtual 66, 3) := by decide +kernel
theorem dX3_counter_15 : decode cX3_counter 15 = .ok (.iload_n 1, 1) := by decide +kernel
theorem dX3_counter_16 : decode cX3_counter 16 = .ok (.ireturn, 1) := by decide +kernel
theorem dX3_one_0 : decode cX3_one 0 = .ok (.iload_n 1, 1) := by decide +kernel
theorem dX3_one_1 : decode cX3_one 1 = .ok (.iconst 0, 1) := by decide +kernel
theorem dX3_one_2 : decode cX3_one 2 = .ok (.iconst 5, 1) := by decide +kernel
theorem dX3_one_3 : decode cX3_one 3 = .ok (.invokestatic 71, 3) := by decide +kernel
theorem dX3_one_6 : decode cX3_one 6 = .ok (.ifCond .eq 17, 3) := by decide +kernel
theorem dX3_one_9 : decode cX3_one 9 = .ok (.iload_n 2, 1) := by decide +kernel
theorem dX3_one_10 : decode cX3_one 10 = .ok (.invokestatic 75, 3) := by decide +kernel
theorem dX3_one_13 : decode cX3_one 13 = .ok (.ifCond .eq 10, 3) := by decide +kernel
theorem dX3_one_16 : decode cX3_one 16 = .ok (.iload_n 3, 1) := by decide +kernel
theorem dX3_one_17 : decode cX3_one 17 = .ok (.invokestatic 75, 3) := by decide +kernel
theorem dX3_one_20 : decode cX3_one 20 = .ok (.ifCond .ne 8, 3) := by decide +kernel
theorem dX3_one_23 : decode cX3_one 23 = .ok (.aload_n 0, 1) := by decide +kernel
theorem dX3_one_24 : decode cX3_one 24 = .ok (.invokevirtual 79, 3) := by decide +kernel
theorem dX3_one_27 : decode cX3_one 27 = .ok (.ireturn, 1) := by decide +kernel
theorem dX3_one_28 : decode cX3_one 28 = .ok (.aload_n 0, 1) := by decide +kernel
theorem dX3_one_29 : decode cX3_one 29 = .ok (.getfield 10, 3) := by decide +kernel
theorem dX3_one_32 : decode cX3_one 32 = .ok (.getfield 63, 3) := by decide +kernel
theorem dX3_one_35 : decode cX3_one 35 = .ok (.bipush 6, 2) := by decide +kernel
theorem dX3_one_37 : decode cX3_one 37 = .ok (.if_icmp .lt 8, 3) := by decide +kernel
theorem dX3_one_40 : decode cX3_one 40 = .ok (.aload_n 0, 1) := by decide +kernel
theorem dX3_one_41 : decode cX3_one 41 = .ok (.invokevirtual 83, 3) := by decide +kernel
theorem dX3_one_44 : decode cX3_one 44 = .ok (.ireturn, 1) := by decide +kernel
theorem dX3_one_45 : decode cX3_one 45 = .ok (.aload_n 0, 1) := by decide +kernel
theorem dX3_one_46 : decode cX3_one 46 = .ok (.getfield 10, 3) := by decide +kernel
theorem dX3_one_49 : decode cX3_one 49 = .ok (.iload_n 1, 1) := by decide +kernel
theorem dX3_one_50 : decode cX3_one 50 = .ok (.iload_n 2, 1) := by decide +kernel
theorem dX3_one_51 : decode cX3_one 51 = .ok (.iload_n 3, 1) := by decide +kernel
theorem dX3_one_52 : decode cX3_one 52 = .ok (.invokevirtual 86, 3) := by decide +kernel
theorem dX3_one_55 : decode cX3_one 55 = .ok (.ireturn, 1) := by decide +kernel
theorem dX3_type_0 : decode cX3_type 0 = .ok (.iload_n 1, 1) := by decide +kernel
theorem dX3_type_1 : decode cX3_type 1 = .ok (.iconst 0, 1) := by decide +kernel
theorem dX3_type_2 : decode cX3_type 2 = .ok (.bipush 127, 2) := by decide +kernel
theorem dX3_type_4 : decode cX3_type 4 = .ok (.invokestatic 71, 3) := by decide +kernel
theorem dX3_type_7 : decode cX3_type 7 = .ok (.ifCond .ne 8, 3) := by decide +kernel
theorem dX3_type_10 : decode cX3_type 10 = .ok (.aload_n 0, 1) := by decide +kernel
theorem dX3_type_11 : decode cX3_type 11 = .ok (.invokevirtual 79, 3) := by decide +kernel
theorem dX3_type_14 : decode cX3_type 14 = .ok (.ireturn, 1) := by decide +kernel
theorem dX3_type_15 : decode cX3_type 15 = .ok (.aload_n 0, 1) := by decide +kernel
theorem dX3_type_16 : decode cX3_type 16 = .ok (.getfield 35, 3) := by decide +kernel
theorem dX3_type_19 : decode cX3_type 19 = .ok (.getfield 90, 3) := by decide +kernel
theorem dX3_type_22 : decode cX3_type 22 = .ok (.sipush 150, 3) := by decide +kernel
theorem dX3_type_25 : decode cX3_type 25 = .ok (.if_icmp .lt 8, 3) := by decide +kernel
theorem dX3_type_28 : decode cX3_type 28 = .ok (.aload_n 0, 1) := by decide +kernel
theorem dX3_type_29 : decode cX3_type 29 = .ok (.invokevirtual 83, 3) := by decide +kernel
theorem dX3_type_32 : decode cX3_type 32 = .ok (.ireturn, 1) := by decide +kernel
theorem dX3_type_33 : decode cX3_type 33 = .ok (.aload_n 0, 1) := by decide +kernel
theorem dX3_type_34 : decode cX3_type 34 = .ok (.getfield 35, 3) := by decide +kernel
theorem dX3_type_37 : decode cX3_type 37 = .ok (.iload_n 1, 1) := by decide +kernel
theorem dX3_type_38 : decode cX3_type 38 = .ok (.invokevirtual 93, 3) := by decide +kernel
theorem dX3_type_41 : decode cX3_type 41 = .ok (.ireturn, 1) := by decide +kernel
theorem dX3_clear_0 : decode cX3_clear 0 = .ok (.aload_n 0, 1) := by decide +kernel
theorem dX3_clear_1 : decode cX3_clear 1 = .ok (.getfield 35, 3) := by decide +kernel
theorem dX3_clear_4 : decode cX3_clear 4 = .ok (.getfield 90, 3) := by decide +kernel
theorem dX3_clear_7 : decode cX3_clear 7 = .ok (.istore_n 1, 1) := by decide +kernel
theorem dX3_clear_8 : decode cX3_clear 8 = .ok (.aload_n 0, 1) := by decide +kernel
theorem dX3_clear_9 : decode cX3_clear 9 = .ok (.getfield 35, 3) := by decide +kernel
theorem dX3_clear_12 : decode cX3_clear 12 = .ok (.iconst 0, 1) := by decide +kernel
theorem dX3_clear_13 : decode cX3_clear 13 = .ok (.putfield 90, 3) := by decide +kernel
theorem dX3_clear_16 : decode cX3_clear 16 = .ok (.iload_n 1, 1) := by decide +kernel
theorem dX3_clear_17 : decode cX3_clear 17 = .ok (.ireturn, 1) := by decide +kernel
theorem dX3_read_0 : decode cX3_read 0 = .ok (.aload_n 0, 1) := by decide +kernel
theorem dX3_read_1 : decode cX3_read 1 = .ok (.getfield 35, 3) := by decide +kernel
theorem dX3_read_4 : decode cX3_read 4 = .ok (.aload_n 0, 1) := by decide +kernel
theorem dX3_read_5 : decode cX3_read 5 = .ok (.getfield 16, 3) := by decide +kernel
theorem dX3_read_8 : decode cX3_read 8 = .ok (.invokevirtual 97, 3) := by decide +kernel
theorem dX3_read_11 : decode cX3_read 11 = .ok (.istore_n 1, 1) := by decide +kernel
theorem dX3_read_12 : decode cX3_read 12 = .ok (.iload_n 1, 1) := by decide +kernel
theorem dX3_read_13 : decode cX3_read 13 = .ok (.ifCond .le 14, 3) := by decide +kernel
theorem dX3_read_16 : decode cX3_read 16 = .ok (.aload_n 0, 1) := by decide +kernel
theorem dX3_read_17 : decode cX3_read 17 = .ok (.getfield 10, 3) := by decide +kernel
theorem dX3_read_20 : decode cX3_read 20 = .ok (.aload_n 0, 1) := by decide +kernel
theorem dX3_read_21 : decode cX3_read 21 = .ok (.getfield 16, 3) := by decide +kernel
theorem dX3_read_24 : decode cX3_read 24 = .ok (.invokevirtual 101, 3) := by decide +kernel
theorem dX3_read_27 : decode cX3_read 27 = .ok (.iload_n 1, 1) := by decide +kernel
theorem dX3_read_28 : decode cX3_read 28 = .ok (.ireturn, 1) := by decide +kernel
theorem dX3_lend_0 : decode cX3_lend 0 = .ok (.aload_n 0, 1) := by decide +kernel
theorem dX3_lend_1 : decode cX3_lend 1 = .ok (.iload_n 1, 1) := by decide +kernel
theorem dX3_lend_2 : decode cX3_lend 2 = .ok (.invokevirtual 105, 3) := by decide +kernel
theorem dX3_lend_5 : decode cX3_lend 5 = .ok (.ifCond .eq 11, 3) := by decide +kernel
theorem dX3_lend_8 : decode cX3_lend 8 = .ok (.aload_n 0, 1) := by decide +kernel
theorem dX3_lend_9 : decode cX3_lend 9 = .ok (.iload_n 2, 1) := by decide +kernel
theorem dX3_lend_10 : decode cX3_lend 10 = .ok (.invokevirtual 105, 3) := by decide +kernel
theorem dX3_lend_13 : decode cX3_lend 13 = .ok (.ifCond .ne 8, 3) := by decide +kernel
theorem dX3_lend_16 : decode cX3_lend 16 = .ok (.aload_n 0, 1) := by decide +kernel
theorem dX3_lend_17 : decode cX3_lend 17 = .ok (.invokevirtual 108, 3) := by decide +kernel
theorem dX3_lend_20 : decode cX3_lend 20 = .ok (.ireturn, 1) := by decide +kernel
theorem dX3_lend_21 : decode cX3_lend 21 = .ok (.aload_n 0, 1) := by decide +kernel
theorem dX3_lend_22 : decode cX3_lend 22 = .ok (.getfield 10, 3) := by decide +kernel
theorem dX3_lend_25 : decode cX3_lend 25 = .ok (.getfield 111, 3) := by decide +kernel
theorem dX3_lend_28 : decode cX3_lend 28 = .ok (.iload_n 1, 1) := by decide +kernel
theorem dX3_lend_29 : decode cX3_lend 29 = .ok (.iaload, 1) := by decide +kernel
theorem dX3_lend_30 : decode cX3_lend 30 = .ok (.iconst (-1), 1) := by decide +kernel
theorem dX3_lend_31 : decode cX3_lend 31 = .ok (.if_icmp .eq 8, 3) := by decide +kernel
theorem dX3_lend_34 : decode cX3_lend 34 = .ok (.aload_n 0, 1) := by decide +kernel
theorem dX3_lend_35 : decode cX3_lend 35 = .ok (.invokevirtual 114, 3) := by decide +kernel
theorem dX3_lend_38 : decode cX3_lend 38 = .ok (.ireturn, 1) := by decide +kernel
theorem dX3_lend_39 : decode cX3_lend 39 = .ok (.aload_n 0, 1) := by decide +kernel
theorem dX3_lend_40 : decode cX3_lend 40 = .ok (.getfield 10, 3) := by decide +kernel
theorem dX3_lend_43 : decode cX3_lend 43 = .ok (.invokevirtual 117, 3) := by decide +kernel
theorem dX3_lend_46 : decode cX3_lend 46 = .ok (.aload_n 0, 1) := by decide +kernel
theorem dX3_lend_47 : decode cX3_lend 47 = .ok (.getfield 10, 3) := by decide +kernel
theorem dX3_lend_50 : decode cX3_lend 50 = .ok (.iload_n 1, 1) := by decide +kernel
theorem dX3_lend_51 : decode cX3_lend 51 = .ok (.iload_n 2, 1) := by decide +kernel
theorem dX3_lend_52 : decode cX3_lend 52 = .ok (.invokevirtual 120, 3) := by decide +kernel
theorem dX3_lend_55 : decode cX3_lend 55 = .ok (.ireturn, 1) := by decide +kernel
theorem dX3_leave_0 : decode cX3_leave 0 = .ok (.aload_n 0, 1) := by decide +kernel
theorem dX3_leave_1 : decode cX3_leave 1 = .ok (.iload_n 1, 1) := by decide +kernel
theorem dX3_leave_2 : decode cX3_leave 2 = .ok (.invokevirtual 105, 3) := by decide +kernel
theorem dX3_leave_5 : decode cX3_leave 5 = .ok (.ifCond .ne 8, 3) := by decide +kernel
theorem dX3_leave_8 : decode cX3_leave 8 = .ok (.aload_n 0, 1) := by decide +kernel
theorem dX3_leave_9 : decode cX3_leave 9 = .ok (.invokevirtual 79, 3) := by decide +kernel
theorem dX3_leave_12 : decode cX3_leave 12 = .ok (.ireturn, 1) := by decide +kernel
theorem dX3_leave_13 : decode cX3_leave 13 = .ok (.aload_n 0, 1) := by decide +kernel
theorem dX3_leave_14 : decode cX3_leave 14 = .ok (.getfield 10, 3) := by decide +kernel
theorem dX3_leave_17 : decode cX3_leave 17 = .ok (.iload_n 1, 1) := by decide +kernel
theorem dX3_leave_18 : decode cX3_leave 18 = .ok (.invokevirtual 124, 3) := by decide +kernel
theorem dX3_leave_21 : decode cX3_leave 21 = .ok (.istore_n 2, 1) := by decide +kernel
theorem dX3_leave_22 : decode cX3_leave 22 = .ok (.iload_n 2, 1) := by decide +kernel
theorem dX3_leave_23 : decode cX3_leave 23 = .ok (.iconst (-1), 1) := by decide +kernel
theorem dX3_leave_24 : decode cX3_leave 24 = .ok (.if_icmp .ne 8, 3) := by decide +kernel
theorem dX3_leave_27 : decode cX3_leave 27 = .ok (.aload_n 0, 1) := by decide +kernel
theorem dX3_leave_28 : decode cX3_leave 28 = .ok (.invokevirtual 114, 3) := by decide +kernel
theorem dX3_leave_31 : decode cX3_leave 31 = .ok (.ireturn, 1) := by decide +kernel
theorem dX3_leave_32 : decode cX3_leave 32 = .ok (.aload_n 0, 1) := by decide +kernel
theorem dX3_leave_33 : decode cX3_leave 33 = .ok (.getfield 10, 3) := by decide +kernel
theorem dX3_leave_36 : decode cX3_leave 36 = .ok (.invokevirtual 117, 3) := by decide +kernel
theorem dX3_leave_39 : decode cX3_leave 39 = .ok (.aload_n 0, 1) := by decide +kernel
theorem dX3_leave_40 : decode cX3_leave 40 = .ok (.getfield 10, 3) := by decide +kernel
theorem dX3_leave_43 : decode cX3_leave 43 = .ok (.iload_n 2, 1) := by decide +kernel
theorem dX3_leave_44 : decode cX3_leave 44 = .ok (.invokevirtual 127, 3) := by decide +kernel
theorem dX3_leave_47 : decode cX3_leave 47 = .ok (.iload_n 2, 1) := by decide +kernel
theorem dX3_leave_48 : decode cX3_leave 48 = .ok (.ireturn, 1) := by decide +kernel
theorem dX3_evening_0 : decode cX3_evening 0 = .ok (.iload_n 1, 1) := by decide +kernel
theorem dX3_evening_1 : decode cX3_evening 1 = .ok (.iconst 1, 1) := by decide +kernel
theorem dX3_evening_2 : decode cX3_evening 2 = .ok (.bipush 30, 2) := by decide +kernel
theorem dX3_evening_4 : decode cX3_evening 4 = .ok (.invokestatic 71, 3) := by decide +kernel
theorem dX3_evening_7 : decode cX3_evening 7 = .ok (.ifCond .ne 8, 3) := by decide +kernel
theorem dX3_evening_10 : decode cX3_evening 10 = .ok (.aload_n 0, 1) := by decide +kernel
theorem dX3_evening_11 : decode cX3_evening 11 = .ok (.invokevirtual 79, 3) := by decide +kernel
theorem dX3_evening_14 : decode cX3_evening 14 = .ok (.ireturn, 1) := by decide +kernel
theorem dX3_evening_15 : decode cX3_evening 15 = .ok (.aload_n 0, 1) := by decide +kernel
theorem dX3_evening_16 : decode cX3_evening 16 = .ok (.getfield 10, 3) := by decide +kernel
theorem dX3_evening_19 : decode cX3_evening 19 = .ok (.invokevirtual 117, 3) := by decide +kernel
theorem dX3_evening_22 : decode cX3_evening 22 = .ok (.iconst 0, 1) := by decide +kernel
theorem dX3_evening_23 : decode cX3_evening 23 = .ok (.istore_n 2, 1) := by decide +kernel
theorem dX3_evening_24 : decode cX3_evening 24 = .ok (.iconst 0, 1) := by decide +kernel
theorem dX3_evening_25 : decode cX3_evening 25 = .ok (.istore_n 3, 1) := by decide +kernel
theorem dX3_evening_26 : decode cX3_evening 26 = .ok (.iload_n 3, 1) := by decide +kernel
theorem dX3_evening_27 : decode cX3_evening 27 = .ok (.iload_n 1, 1) := by decide +kernel
theorem dX3_evening_28 : decode cX3_evening 28 = .ok (.if_icmp .ge 19, 3) := by decide +kernel
theorem dX3_evening_31 : decode cX3_evening 31 = .ok (.iload_n 2, 1) := by decide +kernel
theorem dX3_evening_32 : decode cX3_evening 32 = .ok (.aload_n 0, 1) := by decide +kernel
theorem dX3_evening_33 : decode cX3_evening 33 = .ok (.getfield 10, 3) := by decide +kernel
theorem dX3_evening_36 : decode cX3_evening 36 = .ok (.invokevirtual 131, 3) := by decide +kernel
theorem dX3_evening_39 : decode cX3_evening 39 = .ok (.iadd, 1) := by decide +kernel
theorem dX3_evening_40 : decode cX3_evening 40 = .ok (.istore_n 2, 1) := by decide +kernel
theorem dX3_evening_41 : decode cX3_evening 41 = .ok (.iinc 3 1, 3) := by decide +kernel
theorem dX3_evening_44 : decode cX3_evening 44 = .ok (.goto (-18), 3) := by decide +kernel
theorem dX3_evening_47 : decode cX3_evening 47 = .ok (.iload_n 2, 1) := by decide +kernel
theorem dX3_evening_48 : decode cX3_evening 48 = .ok (.ireturn, 1) := by decide +kernel
theorem dX3_undo_0 : decode cX3_undo 0 = .ok (.aload_n 0, 1) := by decide +kernel
theorem dX3_undo_1 : decode cX3_undo 1 = .ok (.getfield 10, 3) := by decide +kernel
theorem dX3_undo_4 : decode cX3_undo 4 = .ok (.getfield 134, 3) := by decide +kernel
theorem dX3_undo_7 : decode cX3_undo 7 = .ok (.ifCond .ne 8, 3) := by decide +kernel
theorem dX3_undo_10 : decode cX3_undo 10 = .ok (.aload_n 0, 1) := by decide +kernel
theorem dX3_undo_11 : decode cX3_undo 11 = .ok (.invokevirtual 114, 3) := by decide +kernel
theorem dX3_undo_14 : decode cX3_undo 14 = .ok (.ireturn, 1) := by decide +kernel
theorem dX3_undo_15 : decode cX3_undo 15 = .ok (.aload_n 0, 1) := by decide +kernel
theorem dX3_undo_16 : decode cX3_undo 16 = .ok (.getfield 10, 3) := by decide +kernel
theorem dX3_undo_19 : decode cX3_undo 19 = .ok (.invokevirtual 137, 3) := by decide +kernel
theorem dX3_undo_22 : decode cX3_undo 22 = .ok (.aload_n 0, 1) := by decide +kernel
theorem dX3_undo_23 : decode cX3_undo 23 = .ok (.getfield 10, 3) := by decide +kernel
theorem dX3_undo_26 : decode cX3_undo 26 = .ok (.getfield 140, 3) := by decide +kernel
theorem dX3_undo_29 : decode cX3_undo 29 = .ok (.ireturn, 1) := by decide +kernel
theorem dX3_of_0 : decode cX3_of 0 = .ok (.aload_n 0, 1) := by decide +kernel
theorem dX3_of_1 : decode cX3_of 1 = .ok (.iload_n 1, 1) := by decide +kernel
theorem dX3_of_2 : decode cX3_of 2 = .ok (.invokevirtual 105, 3) := by decide +kernel
theorem dX3_of_5 : decode cX3_of 5 = .ok (.ifCond .eq 12, 3) := by decide +kernel
theorem dX3_of_8 : decode cX3_of 8 = .ok (.iload_n 2, 1) := by decide +kernel
theorem dX3_of_9 : decode cX3_of 9 = .ok (.iconst 0, 1) := by decide +kernel
theorem dX3_of_10 : decode cX3_of 10 = .ok (.iconst 2, 1) := by decide +kernel
theorem dX3_of_11 : decode cX3_of 11 = .ok (.invokestatic 71, 3) := by decide +kernel
theorem dX3_of_14 : decode cX3_of 14 = .ok (.ifCond .ne 8, 3) := by decide +kernel
theorem dX3_of_17 : decode cX3_of 17 = .ok (.aload_n 0, 1) := by decide +kernel
theorem dX3_of_18 : decode cX3_of 18 = .ok (.invokevirtual 108, 3) := by decide +kernel
theorem dX3_of_21 : decode cX3_of 21 = .ok (.ireturn, 1) := by decide +kernel
theorem dX3_of_22 : decode cX3_of 22 = .ok (.iload_n 2, 1) := by decide +kernel
theorem dX3_of_23 : decode cX3_of 23 = .ok (.lookupswitch 44 #[(0, 25), (1, 35)], 25) := by decide +kernel
theorem dX3_of_48 : decode cX3_of 48 = .ok (.aload_n 0, 1) := by decide +kernel
theorem dX3_of_49 : decode cX3_of 49 = .ok (.getfield 10, 3) := by decide +kernel
theorem dX3_of_52 : decode cX3_of 52 = .ok (.getfield 143, 3) := by decide +kernel
theorem dX3_of_55 : decode cX3_of 55 = .ok (.iload_n 1, 1) := by decide +kernel
theorem dX3_of_56 : decode cX3_of 56 = .ok (.iaload, 1) := by decide +kernel
theorem dX3_of_57 : decode cX3_of 57 = .ok (.ireturn, 1) := by decide +kernel
theorem dX3_of_58 : decode cX3_of 58 = .ok (.aload_n 0, 1) := by decide +kernel
theorem dX3_of_59 : decode cX3_of 59 = .ok (.getfield 10, 3) := by decide +kernel
theorem dX3_of_62 : decode cX3_of 62 = .ok (.iload_n 1, 1) := by decide +kernel
theorem dX3_of_63 : decode cX3_of 63 = .ok (.invokevirtual 124, 3) := by decide +kernel
theorem dX3_of_66 : decode cX3_of 66 = .ok (.ireturn, 1) := by decide +kernel
theorem dX3_of_67 : decode cX3_of 67 = .ok (.aload_n 0, 1) := by decide +kernel
theorem dX3_of_68 : decode cX3_of 68 = .ok (.getfield 10, 3) := by decide +kernel
theorem dX3_of_71 : decode cX3_of 71 = .ok (.iload_n 1, 1) := by decide +kernel
theorem dX3_of_72 : decode cX3_of 72 = .ok (.invokevirtual 146, 3) := by decide +kernel
theorem dX3_of_75 : decode cX3_of 75 = .ok (.ireturn, 1) := by decide +kernel
theorem dX3_about_0 : decode cX3_about 0 = .ok (.aload_n 0, 1) := by decide +kernel
theorem dX3_about_1 : decode cX3_about 1 = .ok (.iload_n 1, 1) := by decide +kernel
theorem dX3_about_2 : decode cX3_about 2 = .ok (.invokevirtual 105, 3) := by decide +kernel
theorem dX3_about_5 : decode cX3_about 5 = .ok (.ifCond .eq 12, 3) := by decide +kernel
theorem dX3_about_8 : decode cX3_about 8 = .ok (.iload_n 2, 1) := by decide +kernel
theorem dX3_about_9 : decode cX3_about 9 = .ok (.iconst 0, 1) := by decide +kernel
theorem dX3_about_10 : decode cX3_about 10 = .ok (.iconst 5, 1) := by decide +kernel
theorem dX3_about_11 : decode cX3_about 11 = .ok (.invokestatic 71, 3) := by decide +kernel
theorem dX3_about_14 : decode cX3_about 14 = .ok (.ifCond .ne 8, 3) := by decide +kernel
theorem dX3_about_17 : decode cX3_about 17 = .ok (.aload_n 0, 1) := by decide +kernel
theorem dX3_about_18 : decode cX3_about 18 = .ok (.invokevirtual 108, 3) := by decide +kernel
theorem dX3_about_21 : decode cX3_about 21 = .ok (.ireturn, 1) := by decide +kernel
theorem dX3_about_22 : decode cX3_about 22 = .ok (.iload_n 2, 1) := by decide +kernel
theorem dX3_about_23 : decode cX3_about 23 = .ok (.tableswitch 83 0 4 #[33, 43, 53, 63, 73], 33) := by decide +kernel
theorem dX3_about_56 : decode cX3_about 56 = .ok (.aload_n 0, 1) := by decide +kernel
theorem dX3_about_57 : decode cX3_about 57 = .ok (.getfield 10, 3) := by decide +kernel
theorem dX3_about_60 : decode cX3_about 60 = .ok (.getfield 149, 3) := by decide +kernel
theorem dX3_about_63 : decode cX3_about 63 = .ok (.iload_n 1, 1) := by decide +kernel
theorem dX3_about_64 : decode cX3_about 64 = .ok (.iaload, 1) := by decide +kernel
theorem dX3_about_65 : decode cX3_about 65 = .ok (.ireturn, 1) := by decide +kernel
theorem dX3_about_66 : decode cX3_about 66 = .ok (.aload_n 0, 1) := by decide +kernel
theorem dX3_about_67 : decode cX3_about 67 = .ok (.getfield 10, 3) := by decide +kernel
theorem dX3_about_70 : decode cX3_about 70 = .ok (.getfield 152, 3) := by decide +kernel
theorem dX3_about_73 : decode cX3_about 73 = .ok (.iload_n 1, 1) := by decide +kernel
theorem dX3_about_74 : decode cX3_about 74 = .ok (.iaload, 1) := by decide +kernel
theorem dX3_about_75 : decode cX3_about 75 = .ok (.ireturn, 1) := by decide +kernel
theorem dX3_about_76 : decode cX3_about 76 = .ok (.aload_n 0, 1) := by decide +kernel
theorem dX3_about_77 : decode cX3_about 77 = .ok (.getfield 10, 3) := by decide +kernel
theorem dX3_about_80 : decode cX3_about 80 = .ok (.getfield 111, 3) := by decide +kernel
theorem dX3_about_83 : decode cX3_about 83 = .ok (.iload_n 1, 1) := by decide +kernel
theorem dX3_about_84 : decode cX3_about 84 = .ok (.iaload, 1) := by decide +kernel
theorem dX3_about_85 : decode cX3_about 85 = .ok (.ireturn, 1) := by decide +kernel
theorem dX3_about_86 : decode cX3_about 86 = .ok (.aload_n 0, 1) := by decide +kernel
theorem dX3_about_87 : decode cX3_about 87 = .ok (.getfield 10, 3) := by decide +kernel
theorem dX3_about_90 : decode cX3_about 90 = .ok (.getfield 155, 3) := by decide +kernel
theorem dX3_about_93 : decode cX3_about 93 = .ok (.iload_n 1, 1) := by decide +kernel
theorem dX3_about_94 : decode cX3_about 94 = .ok (.iaload, 1) := by decide +kernel
theorem dX3_about_95 : decode cX3_about 95 = .ok (.ireturn, 1) := by decide +kernel
theorem dX3_about_96 : decode cX3_about 96 = .ok (.aload_n 0, 1) := by decide +kernel
theorem dX3_about_97 : decode cX3_about 97 = .ok (.getfield 10, 3) := by decide +kernel
theorem dX3_about_100 : decode cX3_about 100 = .ok (.getfield 158, 3) := by decide +kernel
theorem dX3_about_103 : decode cX3_about 103 = .ok (.iload_n 1, 1) := by decide +kernel
theorem dX3_about_104 : decode cX3_about 104 = .ok (.iaload, 1) := by decide +kernel
theorem dX3_about_105 : decode cX3_about 105 = .ok (.ireturn, 1) := by decide +kernel
theorem dX3_about_106 : decode cX3_about 106 = .ok (.aload_n 0, 1) := by decide +kernel
theorem dX3_about_107 : decode cX3_about 107 = .ok (.getfield 10, 3) := by decide +kernel
theorem dX3_about_110 : decode cX3_about 110 = .ok (.iload_n 1, 1) := by decide +kernel
theorem dX3_about_111 : decode cX3_about 111 = .ok (.invokevirtual 161, 3) := by decide +kernel
theorem dX3_about_114 : decode cX3_about 114 = .ok (.ireturn, 1) := by decide +kernel
theorem dX3_fit_0 : decode cX3_fit 0 = .ok (.aload_n 0, 1) := by decide +kernel
theorem dX3_fit_1 : decode cX3_fit 1 = .ok (.iload_n 1, 1) := by decide +kernel
theorem dX3_fit_2 : decode cX3_fit 2 = .ok (.invokevirtual 105, 3) := by decide +kernel
theorem dX3_fit_5 : decode cX3_fit 5 = .ok (.ifCond .eq 11, 3) := by decide +kernel
theorem dX3_fit_8 : decode cX3_fit 8 = .ok (.aload_n 0, 1) := by decide +kernel
theorem dX3_fit_9 : decode cX3_fit 9 = .ok (.iload_n 2, 1) := by decide +kernel
theorem dX3_fit_10 : decode cX3_fit 10 = .ok (.invokevirtual 105, 3) := by decide +kernel
theorem dX3_fit_13 : decode cX3_fit 13 = .ok (.ifCond .ne 8, 3) := by decide +kernel
theorem dX3_fit_16 : decode cX3_fit 16 = .ok (.aload_n 0, 1) := by decide +kernel
theorem dX3_fit_17 : decode cX3_fit 17 = .ok (.invokevirtual 79, 3) := by decide +kernel
theorem dX3_fit_20 : decode cX3_fit 20 = .ok (.ireturn, 1) := by decide +kernel
theorem dX3_fit_21 : decode cX3_fit 21 = .ok (.aload_n 0, 1) := by decide +kernel
theorem dX3_fit_22 : decode cX3_fit 22 = .ok (.getfield 10, 3) := by decide +kernel
theorem dX3_fit_25 : decode cX3_fit 25 = .ok (.iload_n 1, 1) := by decide +kernel
theorem dX3_fit_26 : decode cX3_fit 26 = .ok (.iload_n 2, 1) := by decide +kernel
theorem dX3_fit_27 : decode cX3_fit 27 = .ok (.invokevirtual 164, 3) := by decide +kernel
theorem dX3_fit_30 : decode cX3_fit 30 = .ok (.ireturn, 1) := by decide +kernel
theorem dX3_best_0 : decode cX3_best 0 = .ok (.iload_n 1, 1) := by decide +kernel
theorem dX3_best_1 : decode cX3_best 1 = .ok (.iconst (-1), 1) := by decide +kernel
theorem dX3_best_2 : decode cX3_best 2 = .ok (.if_icmp .eq 16, 3) := by decide +kernel
theorem dX3_best_5 : decode cX3_best 5 = .ok (.aload_n 0, 1) := by decide +kernel
theorem dX3_best_6 : decode cX3_best 6 = .ok (.iload_n 1, 1) := by decide +kernel
theorem dX3_best_7 : decode cX3_best 7 = .ok (.invokevirtual 105, 3) := by decide +kernel
theorem dX3_best_10 : decode cX3_best 10 = .ok (.ifCond .ne 8, 3) := by decide +kernel
theorem dX3_best_13 : decode cX3_best 13 = .ok (.aload_n 0, 1) := by decide +kernel
theorem dX3_best_14 : decode cX3_best 14 = .ok (.invokevirtual 108, 3) := by decide +kernel
theorem dX3_best_17 : decode cX3_best 17 = .ok (.ireturn, 1) := by decide +kernel
theorem dX3_best_18 : decode cX3_best 18 = .ok (.aload_n 0, 1) := by decide +kernel
theorem dX3_best_19 : decode cX3_best 19 = .ok (.invokevirtual 167, 3) := by decide +kernel
theorem dX3_best_22 : decode cX3_best 22 = .ok (.iload_n 1, 1) := by decide +kernel
theorem dX3_best_23 : decode cX3_best 23 = .ok (.iconst (-1), 1) := by decide +kernel
theorem dX3_best_24 : decode cX3_best 24 = .ok (.if_icmp .ne 12, 3) := by decide +kernel
theorem dX3_best_27 : decode cX3_best 27 = .ok (.aload_n 0, 1) := by decide +kernel
theorem dX3_best_28 : decode cX3_best 28 = .ok (.getfield 39, 3) := by decide +kernel
theorem dX3_best_31 : decode cX3_best 31 = .ok (.iconst 0, 1) := by decide +kernel
theorem dX3_best_32 : decode cX3_best 32 = .ok (.iaload, 1) := by decide +kernel
theorem dX3_best_33 : decode cX3_best 33 = .ok (.goto 8, 3) := by decide +kernel
theorem dX3_best_36 : decode cX3_best 36 = .ok (.aload_n 0, 1) := by decide +kernel
theorem dX3_best_37 : decode cX3_best 37 = .ok (.iload_n 1, 1) := by decide +kernel
theorem dX3_best_38 : decode cX3_best 38 = .ok (.invokevirtual 170, 3) := by decide +kernel
theorem dX3_best_41 : decode cX3_best 41 = .ok (.ireturn, 1) := by decide +kernel
theorem dX3_dumb_0 : decode cX3_dumb 0 = .ok (.iconst 0, 1) := by decide +kernel
theorem dX3_dumb_1 : decode cX3_dumb 1 = .ok (.istore_n 1, 1) := by decide +kernel
theorem dX3_dumb_2 : decode cX3_dumb 2 = .ok (.iconst 0, 1) := by decide +kernel
theorem dX3_dumb_3 : decode cX3_dumb 3 = .ok (.istore_n 2, 1) := by decide +kernel
theorem dX3_dumb_4 : decode cX3_dumb 4 = .ok (.iload_n 2, 1) := by decide +kernel
theorem dX3_dumb_5 : decode cX3_dumb 5 = .ok (.aload_n 0, 1) := by decide +kernel
theorem dX3_dumb_6 : decode cX3_dumb 6 = .ok (.getfield 10, 3) := by decide +kernel
theorem dX3_dumb_9 : decode cX3_dumb 9 = .ok (.getfield 63, 3) := by decide +kernel
theorem dX3_dumb_12 : decode cX3_dumb 12 = .ok (.if_icmp .ge 27, 3) := by decide +kernel
theorem dX3_dumb_15 : decode cX3_dumb 15 = .ok (.aload_n 0, 1) := by decide +kernel
theorem dX3_dumb_16 : decode cX3_dumb 16 = .ok (.getfield 10, 3) := by decide +kernel
theorem dX3_dumb_19 : decode cX3_dumb 19 = .ok (.iload_n 2, 1) := by decide +kernel
theorem dX3_dumb_20 : decode cX3_dumb 20 = .ok (.invokevirtual 124, 3) := by decide +kernel
theorem dX3_dumb_23 : decode cX3_dumb 23 = .ok (.iconst (-1), 1) := by decide +kernel
theorem dX3_dumb_24 : decode cX3_dumb 24 = .ok (.if_icmp .ne 9, 3) := by decide +kernel
theorem dX3_dumb_27 : decode cX3_dumb 27 = .ok (.iload_n 1, 1) := by decide +kernel
theorem dX3_dumb_28 : decode cX3_dumb 28 = .ok (.iconst 1, 1) := by decide +kernel
theorem dX3_dumb_29 : decode cX3_dumb 29 = .ok (.iload_n 2, 1) := by decide +kernel
theorem dX3_dumb_30 : decode cX3_dumb 30 = .ok (.ishl, 1) := by decide +kernel
theorem dX3_dumb_31 : decode cX3_dumb 31 = .ok (.ior, 1) := by decide +kernel
theorem dX3_dumb_32 : decode cX3_dumb 32 = .ok (.istore_n 1, 1) := by decide +kernel
theorem dX3_dumb_33 : decode cX3_dumb 33 = .ok (.iinc 2 1, 3) := by decide +kernel
theorem dX3_dumb_36 : decode cX3_dumb 36 = .ok (.goto (-32), 3) := by decide +kernel
theorem dX3_dumb_39 : decode cX3_dumb 39 = .ok (.iload_n 1, 1) := by decide +kernel
theorem dX3_dumb_40 : decode cX3_dumb 40 = .ok (.ireturn, 1) := by decide +kernel
theorem dX3_own_0 : decode cX3_own 0 = .ok (.aload_n 0, 1) := by decide +kernel
theorem dX3_own_1 : decode cX3_own 1 = .ok (.getfield 10, 3) := by decide +kernel
theorem dX3_own_4 : decode cX3_own 4 = .ok (.invokevirtual 173, 3) := by decide +kernel
theorem dX3_own_7 : decode cX3_own 7 = .ok (.istore_n 1, 1) := by decide +kernel
theorem dX3_own_8 : decode cX3_own 8 = .ok (.iconst 0, 1) := by decide +kernel
theorem dX3_own_9 : decode cX3_own 9 = .ok (.istore_n 2, 1) := by decide +kernel
theorem dX3_own_10 : decode cX3_own 10 = .ok (.iload_n 2, 1) := by decide +kernel
theorem dX3_own_11 : decode cX3_own 11 = .ok (.aload_n 0, 1) := by decide +kernel
theorem dX3_own_12 : decode cX3_own 12 = .ok (.getfield 10, 3) := by decide +kernel
theorem dX3_own_15 : decode cX3_own 15 = .ok (.getfield 63, 3) := by decide +kernel
theorem dX3_own_18 : decode cX3_own 18 = .ok (.if_icmp .ge 25, 3) := by decide +kernel
theorem dX3_own_21 : decode cX3_own 21 = .ok (.aload_n 0, 1) := by decide +kernel
theorem dX3_own_22 : decode cX3_own 22 = .ok (.getfield 10, 3) := by decide +kernel
theorem dX3_own_25 : decode cX3_own 25 = .ok (.getfield 111, 3) := by decide +kernel
theorem dX3_own_28 : decode cX3_own 28 = .ok (.iload_n 2, 1) := by decide +kernel
theorem dX3_own_29 : decode cX3_own 29 = .ok (.iaload, 1) := by decide +kernel
theorem dX3_own_30 : decode cX3_own 30 = .ok (.iload_n 2, 1) := by decide +kernel
theorem dX3_own_31 : decode cX3_own 31 = .ok (.if_icmp .eq 6, 3) := by decide +kernel
theorem dX3_own_34 : decode cX3_own 34 = .ok (.iinc 1 1, 3) := by decide +kernel
theorem dX3_own_37 : decode cX3_own 37 = .ok (.iinc 2 1, 3) := by decide +kernel
theorem dX3_own_40 : decode cX3_own 40 = .ok (.goto (-30), 3) := by decide +kernel
theorem dX3_own_43 : decode cX3_own 43 = .ok (.iload_n 1, 1) := by decide +kernel
theorem dX3_own_44 : decode cX3_own 44 = .ok (.ireturn, 1) := by decide +kernel
theorem dX3_ring_0 : decode cX3_ring 0 = .ok (.aload_n 0, 1) := by decide +kernel
theorem dX3_ring_1 : decode cX3_ring 1 = .ok (.iload_n 1, 1) := by decide +kernel
theorem dX3_ring_2 : decode cX3_ring 2 = .ok (.invokevirtual 105, 3) := by decide +kernel
theorem dX3_ring_5 : decode cX3_ring 5 = .ok (.ifCond .ne 8, 3) := by decide +kernel
theorem dX3_ring_8 : decode cX3_ring 8 = .ok (.aload_n 0, 1) := by decide +kernel
theorem dX3_ring_9 : decode cX3_ring 9 = .ok (.invokevirtual 79, 3) := by decide +kernel
theorem dX3_ring_12 : decode cX3_ring 12 = .ok (.ireturn, 1) := by decide +kernel
theorem dX3_ring_13 : decode cX3_ring 13 = .ok (.aload_n 0, 1) := by decide +kernel
theorem dX3_ring_14 : decode cX3_ring 14 = .ok (.getfield 10, 3) := by decide +kernel
theorem dX3_ring_17 : decode cX3_ring 17 = .ok (.iload_n 1, 1) := by decide +kernel
theorem dX3_ring_18 : decode cX3_ring 18 = .ok (.invokevirtual 176, 3) := by decide +kernel
theorem dX3_ring_21 : decode cX3_ring 21 = .ok (.ireturn, 1) := by decide +kernel
theorem dX3_swaps_0 : decode cX3_swaps 0 = .ok (.iload_n 1, 1) := by decide +kernel
theorem dX3_swaps_1 : decode cX3_swaps 1 = .ok (.iconst (-1), 1) := by decide +kernel
theorem dX3_swaps_2 : decode cX3_swaps 2 = .ok (.if_icmp .ge 8, 3) := by decide +kernel
theorem dX3_swaps_5 : decode cX3_swaps 5 = .ok (.aload_n 0, 1) := by decide +kernel
theorem dX3_swaps_6 : decode cX3_swaps 6 = .ok (.invokevirtual 108, 3) := by decide +kernel
theorem dX3_swaps_9 : decode cX3_swaps 9 = .ok (.ireturn, 1) := by decide +kernel
theorem dX3_swaps_10 : decode cX3_swaps 10 = .ok (.iload_n 1, 1) := by decide +kernel
theorem dX3_swaps_11 : decode cX3_swaps 11 = .ok (.iconst (-1), 1) := by decide +kernel
theorem dX3_swaps_12 : decode cX3_swaps 12 = .ok (.if_icmp .ne 11, 3) := by decide +kernel
theorem dX3_swaps_15 : decode cX3_swaps 15 = .ok (.aload_n 0, 1) := by decide +kernel
theorem dX3_swaps_16 : decode cX3_swaps 16 = .ok (.getfield 10, 3) := by decide +kernel
theorem dX3_swaps_19 : decode cX3_swaps 19 = .ok (.invokevirtual 179, 3) := by decide +kernel
theorem dX3_swaps_22 : decode cX3_swaps 22 = .ok (.ireturn, 1) := by decide +kernel
theorem dX3_swaps_23 : decode cX3_swaps 23 = .ok (.aload_n 0, 1) := by decide +kernel
theorem dX3_swaps_24 : decode cX3_swaps 24 = .ok (.getfield 10, 3) := by decide +kernel
theorem dX3_swaps_27 : decode cX3_swaps 27 = .ok (.iload_n 1, 1) := by decide +kernel
theorem dX3_swaps_28 : decode cX3_swaps 28 = .ok (.invokevirtual 182, 3) := by decide +kernel
theorem dX3_swaps_31 : decode cX3_swaps 31 = .ok (.istore_n 2, 1) := by decide +kernel
theorem dX3_swaps_32 : decode cX3_swaps 32 = .ok (.iload_n 2, 1) := by decide +kernel
theorem dX3_swaps_33 : decode cX3_swaps 33 = .ok (.iconst (-1), 1) := by decide +kernel
theorem dX3_swaps_34 : decode cX3_swaps 34 = .ok (.if_icmp .ne 8, 3) := by decide +kernel
theorem dX3_swaps_37 : decode cX3_swaps 37 = .ok (.bipush (-5), 2) := by decide +kernel
theorem dX3_swaps_39 : decode cX3_swaps 39 = .ok (.goto 4, 3) := by decide +kernel
theorem dX3_swaps_42 : decode cX3_swaps 42 = .ok (.iload_n 2, 1) := by decide +kernel
theorem dX3_swaps_43 : decode cX3_swaps 43 = .ok (.ireturn, 1) := by decide +kernel
theorem dX3_steps_0 : decode cX3_steps 0 = .ok (.aload_n 0, 1) := by decide +kernel
theorem dX3_steps_1 : decode cX3_steps 1 = .ok (.getfield 16, 3) := by decide +kernel
theorem dX3_steps_4 : decode cX3_steps 4 = .ok (.aload_n 0, 1) := by decide +kernel
theorem dX3_steps_5 : decode cX3_steps 5 = .ok (.getfield 10, 3) := by decide +kernel
theorem dX3_steps_8 : decode cX3_steps 8 = .ok (.invokevirtual 101, 3) := by decide +kernel
theorem dX3_steps_11 : decode cX3_steps 11 = .ok (.iconst 0, 1) := by decide +kernel
theorem dX3_steps_12 : decode cX3_steps 12 = .ok (.istore_n 1, 1) := by decide +kernel
theorem dX3_steps_13 : decode cX3_steps 13 = .ok (.iconst 0, 1) := by decide +kernel
theorem dX3_steps_14 : decode cX3_steps 14 = .ok (.istore_n 2, 1) := by decide +kernel
theorem dX3_steps_15 : decode cX3_steps 15 = .ok (.iload_n 2, 1) := by decide +kernel
theorem dX3_steps_16 : decode cX3_steps 16 = .ok (.bipush 60, 2) := by decide +kernel
theorem dX3_steps_18 : decode cX3_steps 18 = .ok (.if_icmp .ge 44, 3) := by decide +kernel
theorem dX3_steps_21 : decode cX3_steps 21 = .ok (.aload_n 0, 1) := by decide +kernel
theorem dX3_steps_22 : decode cX3_steps 22 = .ok (.getfield 16, 3) := by decide +kernel
theorem dX3_steps_25 : decode cX3_steps 25 = .ok (.iconst 0, 1) := by decide +kernel
theorem dX3_steps_26 : decode cX3_steps 26 = .ok (.invokevirtual 182, 3) := by decide +kernel
theorem dX3_steps_29 : decode cX3_steps 29 = .ok (.istore_n 3, 1) := by decide +kernel
theorem dX3_steps_30 : decode cX3_steps 30 = .ok (.iload_n 3, 1) := by decide +kernel
theorem dX3_steps_31 : decode cX3_steps 31 = .ok (.iconst (-1), 1) := by decide +kernel
theorem dX3_steps_32 : decode cX3_steps 32 = .ok (.if_icmp .ne 6, 3) := by decide +kernel
theorem dX3_steps_35 : decode cX3_steps 35 = .ok (.goto 27, 3) := by decide +kernel
theorem dX3_steps_38 : decode cX3_steps 38 = .ok (.aload_n 0, 1) := by decide +kernel
theorem dX3_steps_39 : decode cX3_steps 39 = .ok (.getfield 16, 3) := by decide +kernel
theorem dX3_steps_42 : decode cX3_steps 42 = .ok (.iload_n 3, 1) := by decide +kernel
theorem dX3_steps_43 : decode cX3_steps 43 = .ok (.bipush 10, 2) := by decide +kernel
theorem dX3_steps_45 : decode cX3_steps 45 = .ok (.idiv, 1) := by decide +kernel
theorem dX3_steps_46 : decode cX3_steps 46 = .ok (.iload_n 3, 1) := by decide +kernel
theorem dX3_steps_47 : decode cX3_steps 47 = .ok (.bipush 10, 2) := by decide +kernel
theorem dX3_steps_49 : decode cX3_steps 49 = .ok (.irem, 1) := by decide +kernel
theorem dX3_steps_50 : decode cX3_steps 50 = .ok (.invokevirtual 185, 3) := by decide +kernel
theorem dX3_steps_53 : decode cX3_steps 53 = .ok (.iinc 1 1, 3) := by decide +kernel
theorem dX3_steps_56 : decode cX3_steps 56 = .ok (.iinc 2 1, 3) := by decide +kernel
theorem dX3_steps_59 : decode cX3_steps 59 = .ok (.goto (-44), 3) := by decide +kernel
theorem dX3_steps_62 : decode cX3_steps 62 = .ok (.iload_n 1, 1) := by decide +kernel
theorem dX3_steps_63 : decode cX3_steps 63 = .ok (.ireturn, 1) := by decide +kernel
theorem dX3_worst_0 : decode cX3_worst 0 = .ok (.iload_n 1, 1) := by decide +kernel
theorem dX3_worst_1 : decode cX3_worst 1 = .ok (.iconst 0, 1) := by decide +kernel
theorem dX3_worst_2 : decode cX3_worst 2 = .ok (.iconst 1, 1) := by decide +kernel
theorem dX3_worst_3 : decode cX3_worst 3 = .ok (.invokestatic 71, 3) := by decide +kernel
theorem dX3_worst_6 : decode cX3_worst 6 = .ok (.ifCond .ne 8, 3) := by decide +kernel
theorem dX3_worst_9 : decode cX3_worst 9 = .ok (.aload_n 0, 1) := by decide +kernel
theorem dX3_worst_10 : decode cX3_worst 10 = .ok (.invokevirtual 79, 3) := by decide +kernel
theorem dX3_worst_13 : decode cX3_worst 13 = .ok (.ireturn, 1) := by decide +kernel
theorem dX3_worst_14 : decode cX3_worst 14 = .ok (.aload_n 0, 1) := by decide +kernel
theorem dX3_worst_15 : decode cX3_worst 15 = .ok (.getfield 10, 3) := by decide +kernel
theorem dX3_worst_18 : decode cX3_worst 18 = .ok (.invokevirtual 189, 3) := by decide +kernel
theorem dX3_worst_21 : decode cX3_worst 21 = .ok (.istore_n 2, 1) := by decide +kernel
theorem dX3_worst_22 : decode cX3_worst 22 = .ok (.iload_n 2, 1) := by decide +kernel
theorem dX3_worst_23 : decode cX3_worst 23 = .ok (.iconst (-1), 1) := by decide +kernel
theorem dX3_worst_24 : decode cX3_worst 24 = .ok (.if_icmp .eq 7, 3) := by decide +kernel
theorem dX3_worst_27 : decode cX3_worst 27 = .ok (.iload_n 1, 1) := by decide +kernel
theorem dX3_worst_28 : decode cX3_worst 28 = .ok (.ifCond .ne 5, 3) := by decide +kernel
theorem dX3_worst_31 : decode cX3_worst 31 = .ok (.iload_n 2, 1) := by decide +kernel
theorem dX3_worst_32 : decode cX3_worst 32 = .ok (.ireturn, 1) := by decide +kernel
theorem dX3_worst_33 : decode cX3_worst 33 = .ok (.aload_n 0, 1) := by decide +kernel
theorem dX3_worst_34 : decode cX3_worst 34 = .ok (.getfield 10, 3) := by decide +kernel
theorem dX3_worst_37 : decode cX3_worst 37 = .ok (.iload_n 2, 1) := by decide +kernel
theorem dX3_worst_38 : decode cX3_worst 38 = .ok (.invokevirtual 146, 3) := by decide +kernel
theorem dX3_worst_41 : decode cX3_worst 41 = .ok (.ireturn, 1) := by decide +kernel
theorem dX3_slips_0 : decode cX3_slips 0 = .ok (.aload_n 0, 1) := by decide +kernel
theorem dX3_slips_1 : decode cX3_slips 1 = .ok (.iload_n 1, 1) := by decide +kernel
theorem dX3_slips_2 : decode cX3_slips 2 = .ok (.invokevirtual 105, 3) := by decide +kernel
theorem dX3_slips_5 : decode cX3_slips 5 = .ok (.ifCond .eq 13, 3) := by decide +kernel
theorem dX3_slips_8 : decode cX3_slips 8 = .ok (.iload_n 2, 1) := by decide +kernel
theorem dX3_slips_9 : decode cX3_slips 9 = .ok (.iconst 0, 1) := by decide +kernel
theorem dX3_slips_10 : decode cX3_slips 10 = .ok (.bipush 60, 2) := by decide +kernel
theorem dX3_slips_12 : decode cX3_slips 12 = .ok (.invokestatic 71, 3) := by decide +kernel
theorem dX3_slips_15 : decode cX3_slips 15 = .ok (.ifCond .ne 8, 3) := by decide +kernel
theorem dX3_slips_18 : decode cX3_slips 18 = .ok (.aload_n 0, 1) := by decide +kernel
theorem dX3_slips_19 : decode cX3_slips 19 = .ok (.invokevirtual 79, 3) := by decide +kernel
theorem dX3_slips_22 : decode cX3_slips 22 = .ok (.ireturn, 1) := by decide +kernel
theorem dX3_slips_23 : decode cX3_slips 23 = .ok (.aload_n 0, 1) := by decide +kernel
theorem dX3_slips_24 : decode cX3_slips 24 = .ok (.getfield 10, 3) := by decide +kernel
theorem dX3_slips_27 : decode cX3_slips 27 = .ok (.getfield 158, 3) := by decide +kernel
theorem dX3_slips_30 : decode cX3_slips 30 = .ok (.iload_n 1, 1) := by decide +kernel
theorem dX3_slips_31 : decode cX3_slips 31 = .ok (.iaload, 1) := by decide +kernel
theorem dX3_slips_32 : decode cX3_slips 32 = .ok (.istore_n 3, 1) := by decide +kernel
theorem dX3_slips_33 : decode cX3_slips 33 = .ok (.aload_n 0, 1) := by decide +kernel
theorem dX3_slips_34 : decode cX3_slips 34 = .ok (.getfield 10, 3) := by decide +kernel
theorem dX3_slips_37 : decode cX3_slips 37 = .ok (.iload_n 1, 1) := by decide +kernel
theorem dX3_slips_38 : decode cX3_slips 38 = .ok (.invokevirtual 192, 3) := by decide +kernel
theorem dX3_slips_41 : decode cX3_slips 41 = .ok (.ifCond .eq 45, 3) := by decide +kernel
theorem dX3_slips_44 : decode cX3_slips 44 = .ok (.iconst 0, 1) := by decide +kernel
theorem dX3_slips_45 : decode cX3_slips 45 = .ok (.istore 4, 2) := by decide +kernel
theorem dX3_slips_47 : decode cX3_slips 47 = .ok (.iload 4, 2) := by decide +kernel
theorem dX3_slips_49 : decode cX3_slips 49 = .ok (.iload_n 2, 1) := by decide +kernel
theorem dX3_slips_50 : decode cX3_slips 50 = .ok (.if_icmp .ge 36, 3) := by decide +kernel
theorem dX3_slips_53 : decode cX3_slips 53 = .ok (.iload_n 3, 1) := by decide +kernel
theorem dX3_slips_54 : decode cX3_slips 54 = .ok (.aload_n 0, 1) := by decide +kernel
theorem dX3_slips_55 : decode cX3_slips 55 = .ok (.getfield 10, 3) := by decide +kernel
theorem dX3_slips_58 : decode cX3_slips 58 = .ok (.getfield 149, 3) := by decide +kernel
theorem dX3_slips_61 : decode cX3_slips 61 = .ok (.iload_n 1, 1) := by decide +kernel
theorem dX3_slips_62 : decode cX3_slips 62 = .ok (.iaload, 1) := by decide +kernel
theorem dX3_slips_63 : decode cX3_slips 63 = .ok (.aload_n 0, 1) := by decide +kernel
theorem dX3_slips_64 : decode cX3_slips 64 = .ok (.getfield 10, 3) := by decide +kernel
theorem dX3_slips_67 : decode cX3_slips 67 = .ok (.getfield 155, 3) := by decide +kernel
theorem dX3_slips_70 : decode cX3_slips 70 = .ok (.iload_n 1, 1) := by decide +kernel
theorem dX3_slips_71 : decode cX3_slips 71 = .ok (.iaload, 1) := by decide +kernel
theorem dX3_slips_72 : decode cX3_slips 72 = .ok (.iload 4, 2) := by decide +kernel
theorem dX3_slips_74 : decode cX3_slips 74 = .ok (.iadd, 1) := by decide +kernel
theorem dX3_slips_75 : decode cX3_slips 75 = .ok (.invokestatic 195, 3) := by decide +kernel
theorem dX3_slips_78 : decode cX3_slips 78 = .ok (.iadd, 1) := by decide +kernel
theorem dX3_slips_79 : decode cX3_slips 79 = .ok (.istore_n 3, 1) := by decide +kernel
theorem dX3_slips_80 : decode cX3_slips 80 = .ok (.iinc 4 1, 3) := by decide +kernel
theorem dX3_slips_83 : decode cX3_slips 83 = .ok (.goto (-36), 3) := by decide +kernel
theorem dX3_slips_86 : decode cX3_slips 86 = .ok (.iload_n 3, 1) := by decide +kernel
theorem dX3_slips_87 : decode cX3_slips 87 = .ok (.ireturn, 1) := by decide +kernel
theorem dX3_note_0 : decode cX3_note 0 = .ok (.aload_n 0, 1) := by decide +kernel
theorem dX3_note_1 : decode cX3_note 1 = .ok (.iload_n 1, 1) := by decide +kernel
theorem dX3_note_2 : decode cX3_note 2 = .ok (.invokevirtual 105, 3) := by decide +kernel
theorem dX3_note_5 : decode cX3_note 5 = .ok (.ifCond .eq 46, 3) := by decide +kernel
theorem dX3_note_8 : decode cX3_note 8 = .ok (.iload_n 2, 1) := by decide +kernel
theorem dX3_note_9 : decode cX3_note 9 = .ok (.iconst 0, 1) := by decide +kernel
theorem dX3_note_10 : decode cX3_note 10 = .ok (.bipush 20, 2) := by decide +kernel
theorem dX3_note_12 : decode cX3_note 12 = .ok (.invokestatic 71, 3) := by decide +kernel
theorem dX3_note_15 : decode cX3_note 15 = .ok (.ifCond .eq 36, 3) := by decide +kernel
theorem dX3_note_18 : decode cX3_note 18 = .ok (.iload_n 3, 1) := by decide +kernel
theorem dX3_note_19 : decode cX3_note 19 = .ok (.iconst 0, 1) := by decide +kernel
theorem dX3_note_20 : decode cX3_note 20 = .ok (.bipush 99, 2) := by decide +kernel
theorem dX3_note_22 : decode cX3_note 22 = .ok (.invokestatic 71, 3) := by decide +kernel
theorem dX3_note_25 : decode cX3_note 25 = .ok (.ifCond .eq 26, 3) := by decide +kernel
theorem dX3_note_28 : decode cX3_note 28 = .ok (.iload 4, 2) := by decide +kernel
theorem dX3_note_30 : decode cX3_note 30 = .ok (.invokestatic 75, 3) := by decide +kernel
theorem dX3_note_33 : decode cX3_note 33 = .ok (.ifCond .eq 18, 3) := by decide +kernel
theorem dX3_note_36 : decode cX3_note 36 = .ok (.iload 5, 2) := by decide +kernel
theorem dX3_note_38 : decode cX3_note 38 = .ok (.iconst 0, 1) := by decide +kernel
theorem dX3_note_39 : decode cX3_note 39 = .ok (.bipush 9, 2) := by decide +kernel
theorem dX3_note_41 : decode cX3_note 41 = .ok (.invokestatic 71, 3) := by decide +kernel
theorem dX3_note_44 : decode cX3_note 44 = .ok (.ifCond .eq 7, 3) := by decide +kernel
theorem dX3_note_47 : decode cX3_note 47 = .ok (.iconst 1, 1) := by decide +kernel
theorem dX3_note_48 : decode cX3_note 48 = .ok (.goto 4, 3) := by decide +kernel
theorem dX3_note_51 : decode cX3_note 51 = .ok (.iconst 0, 1) := by decide +kernel
theorem dX3_note_52 : decode cX3_note 52 = .ok (.istore 6, 2) := by decide +kernel
theorem dX3_note_54 : decode cX3_note 54 = .ok (.iload 6, 2) := by decide +kernel
theorem dX3_note_56 : decode cX3_note 56 = .ok (.ifCond .ne 8, 3) := by decide +kernel
theorem dX3_note_59 : decode cX3_note 59 = .ok (.aload_n 0, 1) := by decide +kernel
theorem dX3_note_60 : decode cX3_note 60 = .ok (.invokevirtual 79, 3) := by decide +kernel
theorem dX3_note_63 : decode cX3_note 63 = .ok (.ireturn, 1) := by decide +kernel
theorem dX3_note_64 : decode cX3_note 64 = .ok (.aload_n 0, 1) := by decide +kernel
theorem dX3_note_65 : decode cX3_note 65 = .ok (.getfield 10, 3) := by decide +kernel
theorem dX3_note_68 : decode cX3_note 68 = .ok (.getfield 198, 3) := by decide +kernel
theorem dX3_note_71 : decode cX3_note 71 = .ok (.bipush 6, 2) := by decide +kernel
theorem dX3_note_73 : decode cX3_note 73 = .ok (.if_icmp .lt 8, 3) := by decide +kernel
theorem dX3_note_76 : decode cX3_note 76 = .ok (.aload_n 0, 1) := by decide +kernel
theorem dX3_note_77 : decode cX3_note 77 = .ok (.invokevirtual 83, 3) := by decide +kernel
theorem dX3_note_80 : decode cX3_note 80 = .ok (.ireturn, 1) := by decide +kernel
theorem dX3_note_81 : decode cX3_note 81 = .ok (.aload_n 0, 1) := by decide +kernel
theorem dX3_note_82 : decode cX3_note 82 = .ok (.getfield 10, 3) := by decide +kernel
theorem dX3_note_85 : decode cX3_note 85 = .ok (.iload_n 1, 1) := by decide +kernel
theorem dX3_note_86 : decode cX3_note 86 = .ok (.iload_n 2, 1) := by decide +kernel
theorem dX3_note_87 : decode cX3_note 87 = .ok (.iload_n 3, 1) := by decide +kernel
theorem dX3_note_88 : decode cX3_note 88 = .ok (.iload 4, 2) := by decide +kernel
theorem dX3_note_90 : decode cX3_note 90 = .ok (.iload 5, 2) := by decide +kernel
theorem dX3_note_92 : decode cX3_note 92 = .ok (.invokevirtual 201, 3) := by decide +kernel
theorem dX3_note_95 : decode cX3_note 95 = .ok (.ireturn, 1) := by decide +kernel
theorem dX3_forget_0 : decode cX3_forget 0 = .ok (.aload_n 0, 1) := by decide +kernel
theorem dX3_forget_1 : decode cX3_forget 1 = .ok (.getfield 10, 3) := by decide +kernel
theorem dX3_forget_4 : decode cX3_forget 4 = .ok (.getfield 198, 3) := by decide +kernel
theorem dX3_forget_7 : decode cX3_forget 7 = .ok (.istore_n 1, 1) := by decide +kernel
theorem dX3_forget_8 : decode cX3_forget 8 = .ok (.aload_n 0, 1) := by decide +kernel
theorem dX3_forget_9 : decode cX3_forget 9 = .ok (.getfield 10, 3) := by decide +kernel
theorem dX3_forget_12 : decode cX3_forget 12 = .ok (.iconst 0, 1) := by decide +kernel
theorem dX3_forget_13 : decode cX3_forget 13 = .ok (.putfield 198, 3) := by decide +kernel
theorem dX3_forget_16 : decode cX3_forget 16 = .ok (.iload_n 1, 1) := by decide +kernel
theorem dX3_forget_17 : decode cX3_forget 17 = .ok (.ireturn, 1) := by decide +kernel
theorem dX3_is_0 : decode cX3_is 0 = .ok (.aload_n 0, 1) := by decide +kernel
theorem dX3_is_1 : decode cX3_is 1 = .ok (.iload_n 1, 1) := by decide +kernel
theorem dX3_is_2 : decode cX3_is 2 = .ok (.invokevirtual 105, 3) := by decide +kernel
theorem dX3_is_5 : decode cX3_is 5 = .ok (.ifCond .ne 8, 3) := by decide +kernel
theorem dX3_is_8 : decode cX3_is 8 = .ok (.aload_n 0, 1) := by decide +kernel
theorem dX3_is_9 : decode cX3_is 9 = .ok (.invokevirtual 79, 3) := by decide +kernel
theorem dX3_is_12 : decode cX3_is 12 = .ok (.ireturn, 1) := by decide +kernel
theorem dX3_is_13 : decode cX3_is 13 = .ok (.aload_n 0, 1) := by decide +kernel
theorem dX3_is_14 : decode cX3_is 14 = .ok (.getfield 10, 3) := by decide +kernel
theorem dX3_is_17 : decode cX3_is 17 = .ok (.iload_n 1, 1) := by decide +kernel
theorem dX3_is_18 : decode cX3_is 18 = .ok (.invokevirtual 205, 3) := by decide +kernel
theorem dX3_is_21 : decode cX3_is 21 = .ok (.ireturn, 1) := by decide +kernel
theorem dX3_listen_0 : decode cX3_listen 0 = .ok (.aload_n 0, 1) := by decide +kernel
theorem dX3_listen_1 : decode cX3_listen 1 = .ok (.iload_n 1, 1) := by decide +kernel
theorem dX3_listen_2 : decode cX3_listen 2 = .ok (.invokevirtual 105, 3) := by decide +kernel
theorem dX3_listen_5 : decode cX3_listen 5 = .ok (.ifCond .ne 8, 3) := by decide +kernel
theorem dX3_listen_8 : decode cX3_listen 8 = .ok (.aload_n 0, 1) := by decide +kernel
theorem dX3_listen_9 : decode cX3_listen 9 = .ok (.invokevirtual 79, 3) := by decide +kernel
theorem dX3_listen_12 : decode cX3_listen 12 = .ok (.ireturn, 1) := by decide +kernel
theorem dX3_listen_13 : decode cX3_listen 13 = .ok (.aload_n 0, 1) := by decide +kernel
theorem dX3_listen_14 : decode cX3_listen 14 = .ok (.getfield 10, 3) := by decide +kernel
theorem dX3_listen_17 : decode cX3_listen 17 = .ok (.iload_n 1, 1) := by decide +kernel
theorem dX3_listen_18 : decode cX3_listen 18 = .ok (.invokevirtual 205, 3) := by decide +kernel
theorem dX3_listen_21 : decode cX3_listen 21 = .ok (.istore_n 2, 1) := by decide +kernel
theorem dX3_listen_22 : decode cX3_listen 22 = .ok (.iload_n 2, 1) := by decide +kernel
theorem dX3_listen_23 : decode cX3_listen 23 = .ok (.ifCond .ne 5, 3) := by decide +kernel
theorem dX3_listen_26 : decode cX3_listen 26 = .ok (.iconst (-1), 1) := by decide +kernel
theorem dX3_listen_27 : decode cX3_listen 27 = .ok (.ireturn, 1) := by decide +kernel
theorem dX3_listen_28 : decode cX3_listen 28 = .ok (.iconst (-1), 1) := by decide +kernel
theorem dX3_listen_29 : decode cX3_listen 29 = .ok (.istore_n 3, 1) := by decide +kernel
theorem dX3_listen_30 : decode cX3_listen 30 = .ok (.bipush 7, 2) := by decide +kernel
theorem dX3_listen_32 : decode cX3_listen 32 = .ok (.istore 4, 2) := by decide +kernel
theorem dX3_listen_34 : decode cX3_listen 34 = .ok (.iconst 0, 1) := by decide +kernel
theorem dX3_listen_35 : decode cX3_listen 35 = .ok (.istore 5, 2) := by decide +kernel
theorem dX3_listen_37 : decode cX3_listen 37 = .ok (.iload 5, 2) := by decide +kernel
theorem dX3_listen_39 : decode cX3_listen 39 = .ok (.iconst 4, 1) := by decide +kernel
theorem dX3_listen_40 : decode cX3_listen 40 = .ok (.if_icmp .gt 63, 3) := by decide +kernel
theorem dX3_listen_43 : decode cX3_listen 43 = .ok (.iconst 0, 1) := by decide +kernel
theorem dX3_listen_44 : decode cX3_listen 44 = .ok (.istore 6, 2) := by decide +kernel
theorem dX3_listen_46 : decode cX3_listen 46 = .ok (.iload 6, 2) := by decide +kernel
theorem dX3_listen_48 : decode cX3_listen 48 = .ok (.iconst 1, 1) := by decide +kernel
theorem dX3_listen_49 : decode cX3_listen 49 = .ok (.if_icmp .gt 48, 3) := by decide +kernel
theorem dX3_listen_52 : decode cX3_listen 52 = .ok (.iload_n 2, 1) := by decide +kernel
theorem dX3_listen_53 : decode cX3_listen 53 = .ok (.aload_n 0, 1) := by decide +kernel
theorem dX3_listen_54 : decode cX3_listen 54 = .ok (.getfield 10, 3) := by decide +kernel
theorem dX3_listen_57 : decode cX3_listen 57 = .ok (.getfield 152, 3) := by decide +kernel
theorem dX3_listen_60 : decode cX3_listen 60 = .ok (.iload_n 1, 1) := by decide +kernel
theorem dX3_listen_61 : decode cX3_listen 61 = .ok (.iaload, 1) := by decide +kernel
theorem dX3_listen_62 : decode cX3_listen 62 = .ok (.iload 5, 2) := by decide +kernel
theorem dX3_listen_64 : decode cX3_listen 64 = .ok (.iload 6, 2) := by decide +kernel
theorem dX3_listen_66 : decode cX3_listen 66 = .ok (.invokestatic 208, 3) := by decide +kernel
theorem dX3_listen_69 : decode cX3_listen 69 = .ok (.istore 7, 2) := by decide +kernel
theorem dX3_listen_71 : decode cX3_listen 71 = .ok (.iload 7, 2) := by decide +kernel
theorem dX3_listen_73 : decode cX3_listen 73 = .ok (.iload 4, 2) := by decide +kernel
theorem dX3_listen_75 : decode cX3_listen 75 = .ok (.if_icmp .ge 16, 3) := by decide +kernel
theorem dX3_listen_78 : decode cX3_listen 78 = .ok (.iload 7, 2) := by decide +kernel
theorem dX3_listen_80 : decode cX3_listen 80 = .ok (.istore 4, 2) := by decide +kernel
theorem dX3_listen_82 : decode cX3_listen 82 = .ok (.bipush 10, 2) := by decide +kernel
theorem dX3_listen_84 : decode cX3_listen 84 = .ok (.iload 5, 2) := by decide +kernel
theorem dX3_listen_86 : decode cX3_listen 86 = .ok (.imul, 1) := by decide +kernel
theorem dX3_listen_87 : decode cX3_listen 87 = .ok (.iload 6, 2) := by decide +kernel
theorem dX3_listen_89 : decode cX3_listen 89 = .ok (.iadd, 1) := by decide +kernel
theorem dX3_listen_90 : decode cX3_listen 90 = .ok (.istore_n 3, 1) := by decide +kernel
theorem dX3_listen_91 : decode cX3_listen 91 = .ok (.iinc 6 1, 3) := by decide +kernel
theorem dX3_listen_94 : decode cX3_listen 94 = .ok (.goto (-48), 3) := by decide +kernel
theorem dX3_listen_97 : decode cX3_listen 97 = .ok (.iinc 5 1, 3) := by decide +kernel
theorem dX3_listen_100 : decode cX3_listen 100 = .ok (.goto (-63), 3) := by decide +kernel
theorem dX3_listen_103 : decode cX3_listen 103 = .ok (.iload_n 3, 1) := by decide +kernel
theorem dX3_listen_104 : decode cX3_listen 104 = .ok (.ireturn, 1) := by decide +kernel
theorem dX3_whose_0 : decode cX3_whose 0 = .ok (.iload_n 1, 1) := by decide +kernel
theorem dX3_whose_1 : decode cX3_whose 1 = .ok (.invokestatic 75, 3) := by decide +kernel
theorem dX3_whose_4 : decode cX3_whose 4 = .ok (.ifCond .ne 8, 3) := by decide +kernel
theorem dX3_whose_7 : decode cX3_whose 7 = .ok (.aload_n 0, 1) := by decide +kernel
theorem dX3_whose_8 : decode cX3_whose 8 = .ok (.invokevirtual 79, 3) := by decide +kernel
theorem dX3_whose_11 : decode cX3_whose 11 = .ok (.ireturn, 1) := by decide +kernel
theorem dX3_whose_12 : decode cX3_whose 12 = .ok (.iconst 0, 1) := by decide +kernel
theorem dX3_whose_13 : decode cX3_whose 13 = .ok (.istore_n 2, 1) := by decide +kernel
theorem dX3_whose_14 : decode cX3_whose 14 = .ok (.iconst 0, 1) := by decide +kernel
theorem dX3_whose_15 : decode cX3_whose 15 = .ok (.istore_n 3, 1) := by decide +kernel
theorem dX3_whose_16 : decode cX3_whose 16 = .ok (.iload_n 3, 1) := by decide +kernel
theorem dX3_whose_17 : decode cX3_whose 17 = .ok (.aload_n 0, 1) := by decide +kernel
theorem dX3_whose_18 : decode cX3_whose 18 = .ok (.getfield 10, 3) := by decide +kernel
theorem dX3_whose_21 : decode cX3_whose 21 = .ok (.getfield 63, 3) := by decide +kernel
theorem dX3_whose_24 : decode cX3_whose 24 = .ok (.if_icmp .ge 27, 3) := by decide +kernel
theorem dX3_whose_27 : decode cX3_whose 27 = .ok (.aload_n 0, 1) := by decide +kernel
theorem dX3_whose_28 : decode cX3_whose 28 = .ok (.getfield 10, 3) := by decide +kernel
theorem dX3_whose_31 : decode cX3_whose 31 = .ok (.iload_n 3, 1) := by decide +kernel
theorem dX3_whose_32 : decode cX3_whose 32 = .ok (.invokevirtual 161, 3) := by decide +kernel
theorem dX3_whose_35 : decode cX3_whose 35 = .ok (.iload_n 1, 1) := by decide +kernel
theorem dX3_whose_36 : decode cX3_whose 36 = .ok (.if_icmp .ne 9, 3) := by decide +kernel
theorem dX3_whose_39 : decode cX3_whose 39 = .ok (.iload_n 2, 1) := by decide +kernel
theorem dX3_whose_40 : decode cX3_whose 40 = .ok (.iconst 1, 1) := by decide +kernel
theorem dX3_whose_41 : decode cX3_whose 41 = .ok (.iload_n 3, 1) := by decide +kernel
theorem dX3_whose_42 : decode cX3_whose 42 = .ok (.ishl, 1) := by decide +kernel
theorem dX3_whose_43 : decode cX3_whose 43 = .ok (.ior, 1) := by decide +kernel
theorem dX3_whose_44 : decode cX3_whose 44 = .ok (.istore_n 2, 1) := by decide +kernel
theorem dX3_whose_45 : decode cX3_whose 45 = .ok (.iinc 3 1, 3) := by decide +kernel
theorem dX3_whose_48 : decode cX3_whose 48 = .ok (.goto (-32), 3) := by decide +kernel
theorem dX3_whose_51 : decode cX3_whose 51 = .ok (.iload_n 2, 1) := by decide +kernel
theorem dX3_whose_52 : decode cX3_whose 52 = .ok (.ireturn, 1) := by decide +kernel
theorem dX3_asks_0 : decode cX3_asks 0 = .ok (.aload_n 0, 1) := by decide +kernel
theorem dX3_asks_1 : decode cX3_asks 1 = .ok (.iload_n 1, 1) := by decide +kernel
theorem dX3_asks_2 : decode cX3_asks 2 = .ok (.invokevirtual 105, 3) := by decide +kernel
theorem dX3_asks_5 : decode cX3_asks 5 = .ok (.ifCond .eq 24, 3) := by decide +kernel
theorem dX3_asks_8 : decode cX3_asks 8 = .ok (.aload_n 0, 1) := by decide +kernel
theorem dX3_asks_9 : decode cX3_asks 9 = .ok (.iload_n 2, 1) := by decide +kernel
theorem dX3_asks_10 : decode cX3_asks 10 = .ok (.invokevirtual 105, 3) := by decide +kernel
theorem dX3_asks_13 : decode cX3_asks 13 = .ok (.ifCond .eq 16, 3) := by decide +kernel
theorem dX3_asks_16 : decode cX3_asks 16 = .ok (.iload_n 1, 1) := by decide +kernel
theorem dX3_asks_17 : decode cX3_asks 17 = .ok (.iload_n 2, 1) := by decide +kernel
theorem dX3_asks_18 : decode cX3_asks 18 = .ok (.if_icmp .eq 11, 3) := by decide +kernel
theorem dX3_asks_21 : decode cX3_asks 21 = .ok (.aload_n 0, 1) := by decide +kernel
theorem dX3_asks_22 : decode cX3_asks 22 = .ok (.iload_n 3, 1) := by decide +kernel
theorem dX3_asks_23 : decode cX3_asks 23 = .ok (.invokevirtual 105, 3) := by decide +kernel
theorem dX3_asks_26 : decode cX3_asks 26 = .ok (.ifCond .ne 8, 3) := by decide +kernel
theorem dX3_asks_29 : decode cX3_asks 29 = .ok (.aload_n 0, 1) := by decide +kernel
theorem dX3_asks_30 : decode cX3_asks 30 = .ok (.invokevirtual 79, 3) := by decide +kernel
theorem dX3_asks_33 : decode cX3_asks 33 = .ok (.ireturn, 1) := by decide +kernel
theorem dX3_asks_34 : decode cX3_asks 34 = .ok (.aload_n 0, 1) := by decide +kernel
theorem dX3_asks_35 : decode cX3_asks 35 = .ok (.getfield 10, 3) := by decide +kernel
theorem dX3_asks_38 : decode cX3_asks 38 = .ok (.getfield 111, 3) := by decide +kernel
theorem dX3_asks_41 : decode cX3_asks 41 = .ok (.iload_n 3, 1) := by decide +kernel
theorem dX3_asks_42 : decode cX3_asks 42 = .ok (.iaload, 1) := by decide +kernel
theorem dX3_asks_43 : decode cX3_asks 43 = .ok (.iconst (-1), 1) := by decide +kernel
theorem dX3_asks_44 : decode cX3_asks 44 = .ok (.if_icmp .eq 8, 3) := by decide +kernel
theorem dX3_asks_47 : decode cX3_asks 47 = .ok (.aload_n 0, 1) := by decide +kernel
theorem dX3_asks_48 : decode cX3_asks 48 = .ok (.invokevirtual 114, 3) := by decide +kernel
theorem dX3_asks_51 : decode cX3_asks 51 = .ok (.ireturn, 1) := by decide +kernel
theorem dX3_asks_52 : decode cX3_asks 52 = .ok (.aload_n 0, 1) := by decide +kernel
theorem dX3_asks_53 : decode cX3_asks 53 = .ok (.getfield 10, 3) := by decide +kernel
theorem dX3_asks_56 : decode cX3_asks 56 = .ok (.iload_n 1, 1) := by decide +kernel
theorem dX3_asks_57 : decode cX3_asks 57 = .ok (.invokevirtual 146, 3) := by decide +kernel
theorem dX3_asks_60 : decode cX3_asks 60 = .ok (.istore 4, 2) := by decide +kernel
theorem dX3_asks_62 : decode cX3_asks 62 = .ok (.aload_n 0, 1) := by decide +kernel
theorem dX3_asks_63 : decode cX3_asks 63 = .ok (.getfield 10, 3) := by decide +kernel
theorem dX3_asks_66 : decode cX3_asks 66 = .ok (.iload_n 2, 1) := by decide +kernel
theorem dX3_asks_67 : decode cX3_asks 67 = .ok (.invokevirtual 146, 3) := by decide +kernel
theorem dX3_asks_70 : decode cX3_asks 70 = .ok (.istore 5, 2) := by decide +kernel
theorem dX3_asks_72 : decode cX3_asks 72 = .ok (.iconst 0, 1) := by decide +kernel
theorem dX3_asks_73 : decode cX3_asks 73 = .ok (.istore 6, 2) := by decide +kernel
theorem dX3_asks_75 : decode cX3_asks 75 = .ok (.iconst 0, 1) := by decide +kernel
theorem dX3_asks_76 : decode cX3_asks 76 = .ok (.istore 7, 2) := by decide +kernel
theorem dX3_asks_78 : decode cX3_asks 78 = .ok (.iload 7, 2) := by decide +kernel
theorem dX3_asks_80 : decode cX3_asks 80 = .ok (.iconst 4, 1) := by decide +kernel
theorem dX3_asks_81 : decode cX3_asks 81 = .ok (.if_icmp .ge 122, 3) := by decide +kernel
theorem dX3_asks_84 : decode cX3_asks 84 = .ok (.iload 7, 2) := by decide +kernel
theorem dX3_asks_86 : decode cX3_asks 86 = .ok (.iconst 1, 1) := by decide +kernel
theorem dX3_asks_87 : decode cX3_asks 87 = .ok (.iand, 1) := by decide +kernel
theorem dX3_asks_88 : decode cX3_asks 88 = .ok (.ifCond .eq 7, 3) := by decide +kernel
theorem dX3_asks_91 : decode cX3_asks 91 = .ok (.iconst 1, 1) := by decide +kernel
theorem dX3_asks_92 : decode cX3_asks 92 = .ok (.goto 4, 3) := by decide +kernel
theorem dX3_asks_95 : decode cX3_asks 95 = .ok (.iconst 0, 1) := by decide +kernel
theorem dX3_asks_96 : decode cX3_asks 96 = .ok (.istore 8, 2) := by decide +kernel
theorem dX3_asks_98 : decode cX3_asks 98 = .ok (.iload 7, 2) := by decide +kernel
theorem dX3_asks_100 : decode cX3_asks 100 = .ok (.iconst 2, 1) := by decide +kernel
theorem dX3_asks_101 : decode cX3_asks 101 = .ok (.iand, 1) := by decide +kernel
theorem dX3_asks_102 : decode cX3_asks 102 = .ok (.ifCond .eq 7, 3) := by decide +kernel
theorem dX3_asks_105 : decode cX3_asks 105 = .ok (.iconst 1, 1) := by decide +kernel
theorem dX3_asks_106 : decode cX3_asks 106 = .ok (.goto 4, 3) := by decide +kernel
theorem dX3_asks_109 : decode cX3_asks 109 = .ok (.iconst 0, 1) := by decide +kernel
theorem dX3_asks_110 : decode cX3_asks 110 = .ok (.istore 9, 2) := by decide +kernel
theorem dX3_asks_112 : decode cX3_asks 112 = .ok (.iload 9, 2) := by decide +kernel
theorem dX3_asks_114 : decode cX3_asks 114 = .ok (.ifCond .eq 13, 3) := by decide +kernel
theorem dX3_asks_117 : decode cX3_asks 117 = .ok (.iload_n 2, 1) := by decide +kernel
theorem dX3_asks_118 : decode cX3_asks 118 = .ok (.iload_n 1, 1) := by decide +kernel
theorem dX3_asks_119 : decode cX3_asks 119 = .ok (.if_icmp .ge 8, 3) := by decide +kernel
theorem dX3_asks_122 : decode cX3_asks 122 = .ok (.iload 4, 2) := by decide +kernel
theorem dX3_asks_124 : decode cX3_asks 124 = .ok (.goto 12, 3) := by decide +kernel
theorem dX3_asks_127 : decode cX3_asks 127 = .ok (.aload_n 0, 1) := by decide +kernel
theorem dX3_asks_128 : decode cX3_asks 128 = .ok (.getfield 10, 3) := by decide +kernel
theorem dX3_asks_131 : decode cX3_asks 131 = .ok (.iload_n 1, 1) := by decide +kernel
theorem dX3_asks_132 : decode cX3_asks 132 = .ok (.iload_n 3, 1) := by decide +kernel
theorem dX3_asks_133 : decode cX3_asks 133 = .ok (.invokevirtual 164, 3) := by decide +kernel
theorem dX3_asks_136 : decode cX3_asks 136 = .ok (.istore 10, 2) := by decide +kernel
theorem dX3_asks_138 : decode cX3_asks 138 = .ok (.iload 8, 2) := by decide +kernel
theorem dX3_asks_140 : decode cX3_asks 140 = .ok (.ifCond .eq 13, 3) := by decide +kernel
theorem dX3_asks_143 : decode cX3_asks 143 = .ok (.iload_n 1, 1) := by decide +kernel
theorem dX3_asks_144 : decode cX3_asks 144 = .ok (.iload_n 2, 1) := by decide +kernel
theorem dX3_asks_145 : decode cX3_asks 145 = .ok (.if_icmp .ge 8, 3) := by decide +kernel
theorem dX3_asks_148 : decode cX3_asks 148 = .ok (.iload 5, 2) := by decide +kernel
theorem dX3_asks_150 : decode cX3_asks 150 = .ok (.goto 12, 3) := by decide +kernel
theorem dX3_asks_153 : decode cX3_asks 153 = .ok (.aload_n 0, 1) := by decide +kernel
theorem dX3_asks_154 : decode cX3_asks 154 = .ok (.getfield 10, 3) := by decide +kernel
theorem dX3_asks_157 : decode cX3_asks 157 = .ok (.iload_n 2, 1) := by decide +kernel
theorem dX3_asks_158 : decode cX3_asks 158 = .ok (.iload_n 3, 1) := by decide +kernel
theorem dX3_asks_159 : decode cX3_asks 159 = .ok (.invokevirtual 164, 3) := by decide +kernel
theorem dX3_asks_162 : decode cX3_asks 162 = .ok (.istore 11, 2) := by decide +kernel
theorem dX3_asks_164 : decode cX3_asks 164 = .ok (.iload 8, 2) := by decide +kernel
theorem dX3_asks_166 : decode cX3_asks 166 = .ok (.iload 10, 2) := by decide +kernel
theorem dX3_asks_168 : decode cX3_asks 168 = .ok (.iload 4, 2) := by decide +kernel
theorem dX3_asks_170 : decode cX3_asks 170 = .ok (.invokestatic 212, 3) := by decide +kernel
theorem dX3_asks_173 : decode cX3_asks 173 = .ok (.ifCond .eq 24, 3) := by decide +kernel
theorem dX3_asks_176 : decode cX3_asks 176 = .ok (.iload 9, 2) := by decide +kernel
theorem dX3_asks_178 : decode cX3_asks 178 = .ok (.iload 11, 2) := by decide +kernel
theorem dX3_asks_180 : decode cX3_asks 180 = .ok (.iload 5, 2) := by decide +kernel
theorem dX3_asks_182 : decode cX3_asks 182 = .ok (.invokestatic 212, 3) := by decide +kernel
theorem dX3_asks_185 : decode cX3_asks 185 = .ok (.ifCond .eq 12, 3) := by decide +kernel
theorem dX3_asks_188 : decode cX3_asks 188 = .ok (.iload 6, 2) := by decide +kernel
theorem dX3_asks_190 : decode cX3_asks 190 = .ok (.iconst 1, 1) := by decide +kernel
theorem dX3_asks_191 : decode cX3_asks 191 = .ok (.iload 7, 2) := by decide +kernel
theorem dX3_asks_193 : decode cX3_asks 193 = .ok (.ishl, 1) := by decide +kernel
theorem dX3_asks_194 : decode cX3_asks 194 = .ok (.ior, 1) := by decide +kernel
theorem dX3_asks_195 : decode cX3_asks 195 = .ok (.istore 6, 2) := by decide +kernel
theorem dX3_asks_197 : decode cX3_asks 197 = .ok (.iinc 7 1, 3) := by decide +kernel
theorem dX3_asks_200 : decode cX3_asks 200 = .ok (.goto (-122), 3) := by decide +kernel
theorem dX3_asks_203 : decode cX3_asks 203 = .ok (.iload 6, 2) := by decide +kernel
theorem dX3_asks_205 : decode cX3_asks 205 = .ok (.ireturn, 1) := by decide +kernel
theorem dX3_thieves_0 : decode cX3_thieves 0 = .ok (.iload_n 1, 1) := by decide +kernel
theorem dX3_thieves_1 : decode cX3_thieves 1 = .ok (.iconst 0, 1) := by decide +kernel
theorem dX3_thieves_2 : decode cX3_thieves 2 = .ok (.bipush 6, 2) := by decide +kernel
theorem dX3_thieves_4 : decode cX3_thieves 4 = .ok (.invokestatic 71, 3) := by decide +kernel
theorem dX3_thieves_7 : decode cX3_thieves 7 = .ok (.ifCond .eq 13, 3) := by decide +kernel
theorem dX3_thieves_10 : decode cX3_thieves 10 = .ok (.iload_n 2, 1) := by decide +kernel
theorem dX3_thieves_11 : decode cX3_thieves 11 = .ok (.iconst 0, 1) := by decide +kernel
theorem dX3_thieves_12 : decode cX3_thieves 12 = .ok (.bipush 10, 2) := by decide +kernel
theorem dX3_thieves_14 : decode cX3_thieves 14 = .ok (.invokestatic 71, 3) := by decide +kernel
theorem dX3_thieves_17 : decode cX3_thieves 17 = .ok (.ifCond .ne 8, 3) := by decide +kernel
theorem dX3_thieves_20 : decode cX3_thieves 20 = .ok (.aload_n 0, 1) := by decide +kernel
theorem dX3_thieves_21 : decode cX3_thieves 21 = .ok (.invokevirtual 79, 3) := by decide +kernel
theorem dX3_thieves_24 : decode cX3_thieves 24 = .ok (.ireturn, 1) := by decide +kernel
theorem dX3_thieves_25 : decode cX3_thieves 25 = .ok (.aload_n 0, 1) := by decide +kernel
theorem dX3_thieves_26 : decode cX3_thieves 26 = .ok (.getfield 10, 3) := by decide +kernel
theorem dX3_thieves_29 : decode cX3_thieves 29 = .ok (.invokevirtual 216, 3) := by decide +kernel
theorem dX3_thieves_32 : decode cX3_thieves 32 = .ok (.istore_n 3, 1) := by decide +kernel
theorem dX3_thieves_33 : decode cX3_thieves 33 = .ok (.lconst 0, 1) := by decide +kernel
theorem dX3_thieves_34 : decode cX3_thieves 34 = .ok (.lstore 4, 2) := by decide +kernel
theorem dX3_thieves_36 : decode cX3_thieves 36 = .ok (.lconst 1, 1) := by decide +kernel
theorem dX3_thieves_37 : decode cX3_thieves 37 = .ok (.lstore 6, 2) := by decide +kernel
theorem dX3_thieves_39 : decode cX3_thieves 39 = .ok (.iconst 0, 1) := by decide +kernel
theorem dX3_thieves_40 : decode cX3_thieves 40 = .ok (.istore 8, 2) := by decide +kernel
theorem dX3_thieves_42 : decode cX3_thieves 42 = .ok (.iload 8, 2) := by decide +kernel
theorem dX3_thieves_44 : decode cX3_thieves 44 = .ok (.iload_n 3, 1) := by decide +kernel
theorem dX3_thieves_45 : decode cX3_thieves 45 = .ok (.if_icmp .gt 57, 3) := by decide +kernel
theorem dX3_thieves_48 : decode cX3_thieves 48 = .ok (.iload 8, 2) := by decide +kernel
theorem dX3_thieves_50 : decode cX3_thieves 50 = .ok (.iload_n 1, 1) := by decide +kernel
theorem dX3_thieves_51 : decode cX3_thieves 51 = .ok (.if_icmp .lt 29, 3) := by decide +kernel
theorem dX3_thieves_54 : decode cX3_thieves 54 = .ok (.lload 4, 2) := by decide +kernel
theorem dX3_thieves_56 : decode cX3_thieves 56 = .ok (.lload 6, 2) := by decide +kernel
theorem dX3_thieves_58 : decode cX3_thieves 58 = .ok (.bipush 10, 2) := by decide +kernel
theorem dX3_thieves_60 : decode cX3_thieves 60 = .ok (.iload_n 2, 1) := by decide +kernel
theorem dX3_thieves_61 : decode cX3_thieves 61 = .ok (.isub, 1) := by decide +kernel
theorem dX3_thieves_62 : decode cX3_thieves 62 = .ok (.iload 8, 2) := by decide +kernel
theorem dX3_thieves_64 : decode cX3_thieves 64 = .ok (.invokestatic 219, 3) := by decide +kernel
theorem dX3_thieves_67 : decode cX3_thieves 67 = .ok (.lmul, 1) := by decide +kernel
theorem dX3_thieves_68 : decode cX3_thieves 68 = .ok (.iload_n 2, 1) := by decide +kernel
theorem dX3_thieves_69 : decode cX3_thieves 69 = .ok (.iload_n 3, 1) := by decide +kernel
theorem dX3_thieves_70 : decode cX3_thieves 70 = .ok (.iload 8, 2) := by decide +kernel
theorem dX3_thieves_72 : decode cX3_thieves 72 = .ok (.isub, 1) := by decide +kernel
theorem dX3_thieves_73 : decode cX3_thieves 73 = .ok (.invokestatic 219, 3) := by decide +kernel
theorem dX3_thieves_76 : decode cX3_thieves 76 = .ok (.lmul, 1) := by decide +kernel
theorem dX3_thieves_77 : decode cX3_thieves 77 = .ok (.ladd, 1) := by decide +kernel
theorem dX3_thieves_78 : decode cX3_thieves 78 = .ok (.lstore 4, 2) := by decide +kernel
theorem dX3_thieves_80 : decode cX3_thieves 80 = .ok (.lload 6, 2) := by decide +kernel
theorem dX3_thieves_82 : decode cX3_thieves 82 = .ok (.iload_n 3, 1) := by decide +kernel
theorem dX3_thieves_83 : decode cX3_thieves 83 = .ok (.iload 8, 2) := by decide +kernel
theorem dX3_thieves_85 : decode cX3_thieves 85 = .ok (.isub, 1) := by decide +kernel
theorem dX3_thieves_86 : decode cX3_thieves 86 = .ok (.i2l, 1) := by decide +kernel
theorem dX3_thieves_87 : decode cX3_thieves 87 = .ok (.lmul, 1) := by decide +kernel
theorem dX3_thieves_88 : decode cX3_thieves 88 = .ok (.iload 8, 2) := by decide +kernel
theorem dX3_thieves_90 : decode cX3_thieves 90 = .ok (.iconst 1, 1) := by decide +kernel
theorem dX3_thieves_91 : decode cX3_thieves 91 = .ok (.iadd, 1) := by decide +kernel
theorem dX3_thieves_92 : decode cX3_thieves 92 = .ok (.i2l, 1) := by decide +kernel
theorem dX3_thieves_93 : decode cX3_thieves 93 = .ok (.ldiv, 1) := by decide +kernel
theorem dX3_thieves_94 : decode cX3_thieves 94 = .ok (.lstore 6, 2) := by decide +kernel
theorem dX3_thieves_96 : decode cX3_thieves 96 = .ok (.iinc 8 1, 3) := by decide +kernel
theorem dX3_thieves_99 : decode cX3_thieves 99 = .ok (.goto (-57), 3) := by decide +kernel
theorem dX3_thieves_102 : decode cX3_thieves 102 = .ok (.aload_n 0, 1) := by decide +kernel
theorem dX3_thieves_103 : decode cX3_thieves 103 = .ok (.lload 4, 2) := by decide +kernel
theorem dX3_thieves_105 : decode cX3_thieves 105 = .ok (.bipush 10, 2) := by decide +kernel
theorem dX3_thieves_107 : decode cX3_thieves 107 = .ok (.iload_n 3, 1) := by decide +kernel
theorem dX3_thieves_108 : decode cX3_thieves 108 = .ok (.invokestatic 219, 3) := by decide +kernel
theorem dX3_thieves_111 : decode cX3_thieves 111 = .ok (.invokevirtual 223, 3) := by decide +kernel
theorem dX3_thieves_114 : decode cX3_thieves 114 = .ok (.iconst 1, 1) := by decide +kernel
theorem dX3_thieves_115 : decode cX3_thieves 115 = .ok (.ireturn, 1) := by decide +kernel
theorem dX3_lents_0 : decode cX3_lents 0 = .ok (.iload_n 1, 1) := by decide +kernel
theorem dX3_lents_1 : decode cX3_lents 1 = .ok (.iconst 0, 1) := by decide +kernel
theorem dX3_lents_2 : decode cX3_lents 2 = .ok (.ldc 227, 2) := by decide +kernel
theorem dX3_lents_4 : decode cX3_lents 4 = .ok (.invokestatic 71, 3) := by decide +kernel
theorem dX3_lents_7 : decode cX3_lents 7 = .ok (.ifCond .eq 13, 3) := by decide +kernel
theorem dX3_lents_10 : decode cX3_lents 10 = .ok (.iload_n 2, 1) := by decide +kernel
theorem dX3_lents_11 : decode cX3_lents 11 = .ok (.iconst 0, 1) := by decide +kernel
theorem dX3_lents_12 : decode cX3_lents 12 = .ok (.bipush 60, 2) := by decide +kernel
theorem dX3_lents_14 : decode cX3_lents 14 = .ok (.invokestatic 71, 3) := by decide +kernel
theorem dX3_lents_17 : decode cX3_lents 17 = .ok (.ifCond .ne 8, 3) := by decide +kernel
theorem dX3_lents_20 : decode cX3_lents 20 = .ok (.aload_n 0, 1) := by decide +kernel
theorem dX3_lents_21 : decode cX3_lents 21 = .ok (.invokevirtual 79, 3) := by decide +kernel
theorem dX3_lents_24 : decode cX3_lents 24 = .ok (.ireturn, 1) := by decide +kernel
theorem dX3_lents_25 : decode cX3_lents 25 = .ok (.aload_n 0, 1) := by decide +kernel
theorem dX3_lents_26 : decode cX3_lents 26 = .ok (.getfield 10, 3) := by decide +kernel
theorem dX3_lents_29 : decode cX3_lents 29 = .ok (.getfield 63, 3) := by decide +kernel
theorem dX3_lents_32 : decode cX3_lents 32 = .ok (.istore_n 3, 1) := by decide +kernel
theorem dX3_lents_33 : decode cX3_lents 33 = .ok (.iload_n 3, 1) := by decide +kernel
theorem dX3_lents_34 : decode cX3_lents 34 = .ok (.ifCond .ne 8, 3) := by decide +kernel
theorem dX3_lents_37 : decode cX3_lents 37 = .ok (.aload_n 0, 1) := by decide +kernel
theorem dX3_lents_38 : decode cX3_lents 38 = .ok (.invokevirtual 114, 3) := by decide +kernel
theorem dX3_lents_41 : decode cX3_lents 41 = .ok (.ireturn, 1) := by decide +kernel
theorem dX3_lents_42 : decode cX3_lents 42 = .ok (.aload_n 0, 1) := by decide +kernel
theorem dX3_lents_43 : decode cX3_lents 43 = .ok (.getfield 16, 3) := by decide +kernel
theorem dX3_lents_46 : decode cX3_lents 46 = .ok (.aload_n 0, 1) := by decide +kernel
theorem dX3_lents_47 : decode cX3_lents 47 = .ok (.getfield 10, 3) := by decide +kernel
theorem dX3_lents_50 : decode cX3_lents 50 = .ok (.invokevirtual 101, 3) := by decide +kernel
theorem dX3_lents_53 : decode cX3_lents 53 = .ok (.iconst 0, 1) := by decide +kernel
theorem dX3_lents_54 : decode cX3_lents 54 = .ok (.istore 4, 2) := by decide +kernel
theorem dX3_lents_56 : decode cX3_lents 56 = .ok (.iload_n 1, 1) := by decide +kernel
theorem dX3_lents_57 : decode cX3_lents 57 = .ok (.i2l, 1) := by decide +kernel
theorem dX3_lents_58 : decode cX3_lents 58 = .ok (.lstore 5, 2) := by decide +kernel
theorem dX3_lents_60 : decode cX3_lents 60 = .ok (.iconst 0, 1) := by decide +kernel
theorem dX3_lents_61 : decode cX3_lents 61 = .ok (.istore 7, 2) := by decide +kernel
theorem dX3_lents_63 : decode cX3_lents 63 = .ok (.iload 7, 2) := by decide +kernel
theorem dX3_lents_65 : decode cX3_lents 65 = .ok (.iload_n 2, 1) := by decide +kernel
theorem dX3_lents_66 : decode cX3_lents 66 = .ok (.if_icmp .ge 70, 3) := by decide +kernel
theorem dX3_lents_69 : decode cX3_lents 69 = .ok (.lload 5, 2) := by decide +kernel
theorem dX3_lents_71 : decode cX3_lents 71 = .ok (.invokestatic 228, 3) := by decide +kernel
theorem dX3_lents_74 : decode cX3_lents 74 = .ok (.lstore 5, 2) := by decide +kernel
theorem dX3_lents_76 : decode cX3_lents 76 = .ok (.lload 5, 2) := by decide +kernel
theorem dX3_lents_78 : decode cX3_lents 78 = .ok (.ldc2_w 232, 3) := by decide +kernel
theorem dX3_lents_81 : decode cX3_lents 81 = .ok (.ldiv, 1) := by decide +kernel
theorem dX3_lents_82 : decode cX3_lents 82 = .ok (.iload_n 3, 1) := by decide +kernel
theorem dX3_lents_83 : decode cX3_lents 83 = .ok (.i2l, 1) := by decide +kernel
theorem dX3_lents_84 : decode cX3_lents 84 = .ok (.lrem, 1) := by decide +kernel
theorem dX3_lents_85 : decode cX3_lents 85 = .ok (.l2i, 1) := by decide +kernel
theorem dX3_lents_86 : decode cX3_lents 86 = .ok (.istore 8, 2) := by decide +kernel
theorem dX3_lents_88 : decode cX3_lents 88 = .ok (.lload 5, 2) := by decide +kernel
theorem dX3_lents_90 : decode cX3_lents 90 = .ok (.invokestatic 228, 3) := by decide +kernel
theorem dX3_lents_93 : decode cX3_lents 93 = .ok (.lstore 5, 2) := by decide +kernel
theorem dX3_lents_95 : decode cX3_lents 95 = .ok (.lload 5, 2) := by decide +kernel
theorem dX3_lents_97 : decode cX3_lents 97 = .ok (.ldc2_w 232, 3) := by decide +kernel
theorem dX3_lents_100 : decode cX3_lents 100 = .ok (.ldiv, 1) := by decide +kernel
theorem dX3_lents_101 : decode cX3_lents 101 = .ok (.iload_n 3, 1) := by decide +kernel
theorem dX3_lents_102 : decode cX3_lents 102 = .ok (.i2l, 1) := by decide +kernel
theorem dX3_lents_103 : decode cX3_lents 103 = .ok (.lrem, 1) := by decide +kernel
theorem dX3_lents_104 : decode cX3_lents 104 = .ok (.l2i, 1) := by decide +kernel
theorem dX3_lents_105 : decode cX3_lents 105 = .ok (.istore 9, 2) := by decide +kernel
theorem dX3_lents_107 : decode cX3_lents 107 = .ok (.aload_n 0, 1) := by decide +kernel
theorem dX3_lents_108 : decode cX3_lents 108 = .ok (.getfield 16, 3) := by decide +kernel
theorem dX3_lents_111 : decode cX3_lents 111 = .ok (.iload 9, 2) := by decide +kernel
theorem dX3_lents_113 : decode cX3_lents 113 = .ok (.iload 8, 2) := by decide +kernel
theorem dX3_lents_115 : decode cX3_lents 115 = .ok (.invokevirtual 234, 3) := by decide +kernel
theorem dX3_lents_118 : decode cX3_lents 118 = .ok (.iload 4, 2) := by decide +kernel
theorem dX3_lents_120 : decode cX3_lents 120 = .ok (.aload_n 0, 1) := by decide +kernel
theorem dX3_lents_121 : decode cX3_lents 121 = .ok (.getfield 16, 3) := by decide +kernel
theorem dX3_lents_124 : decode cX3_lents 124 = .ok (.invokevirtual 131, 3) := by decide +kernel
theorem dX3_lents_127 : decode cX3_lents 127 = .ok (.iadd, 1) := by decide +kernel
theorem dX3_lents_128 : decode cX3_lents 128 = .ok (.istore 4, 2) := by decide +kernel
theorem dX3_lents_130 : decode cX3_lents 130 = .ok (.iinc 7 1, 3) := by decide +kernel
theorem dX3_lents_133 : decode cX3_lents 133 = .ok (.goto (-70), 3) := by decide +kernel
theorem dX3_lents_136 : decode cX3_lents 136 = .ok (.iload 4, 2) := by decide +kernel
theorem dX3_lents_138 : decode cX3_lents 138 = .ok (.ireturn, 1) := by decide +kernel
theorem dX3_part_0 : decode cX3_part 0 = .ok (.iload_n 1, 1) := by decide +kernel
theorem dX3_part_1 : decode cX3_part 1 = .ok (.iconst 0, 1) := by decide +kernel
theorem dX3_part_2 : decode cX3_part 2 = .ok (.iconst 1, 1) := by decide +kernel
theorem dX3_part_3 : decode cX3_part 3 = .ok (.invokestatic 71, 3) := by decide +kernel
theorem dX3_part_6 : decode cX3_part 6 = .ok (.ifCond .ne 9, 3) := by decide +kernel
theorem dX3_part_9 : decode cX3_part 9 = .ok (.aload_n 0, 1) := by decide +kernel
theorem dX3_part_10 : decode cX3_part 10 = .ok (.invokevirtual 79, 3) := by decide +kernel
theorem dX3_part_13 : decode cX3_part 13 = .ok (.i2l, 1) := by decide +kernel
theorem dX3_part_14 : decode cX3_part 14 = .ok (.lreturn, 1) := by decide +kernel
theorem dX3_part_15 : decode cX3_part 15 = .ok (.iload_n 1, 1) := by decide +kernel
theorem dX3_part_16 : decode cX3_part 16 = .ok (.ifCond .ne 10, 3) := by decide +kernel
theorem dX3_part_19 : decode cX3_part 19 = .ok (.aload_n 0, 1) := by decide +kernel
theorem dX3_part_20 : decode cX3_part 20 = .ok (.getfield 46, 3) := by decide +kernel
theorem dX3_part_23 : decode cX3_part 23 = .ok (.goto 7, 3) := by decide +kernel
theorem dX3_part_26 : decode cX3_part 26 = .ok (.aload_n 0, 1) := by decide +kernel
theorem dX3_part_27 : decode cX3_part 27 = .ok (.getfield 50, 3) := by decide +kernel
theorem dX3_part_30 : decode cX3_part 30 = .ok (.lreturn, 1) := by decide +kernel
theorem dX3_image_0 : decode cX3_image 0 = .ok (.iload_n 1, 1) := by decide +kernel
theorem dX3_image_1 : decode cX3_image 1 = .ok (.iconst 0, 1) := by decide +kernel
theorem dX3_image_2 : decode cX3_image 2 = .ok (.iconst 1, 1) := by decide +kernel
theorem dX3_image_3 : decode cX3_image 3 = .ok (.invokestatic 71, 3) := by decide +kernel
theorem dX3_image_6 : decode cX3_image 6 = .ok (.ifCond .ne 8, 3) := by decide +kernel
theorem dX3_image_9 : decode cX3_image 9 = .ok (.aload_n 0, 1) := by decide +kernel
theorem dX3_image_10 : decode cX3_image 10 = .ok (.invokevirtual 79, 3) := by decide +kernel
theorem dX3_image_13 : decode cX3_image 13 = .ok (.ireturn, 1) := by decide +kernel
theorem dX3_image_14 : decode cX3_image 14 = .ok (.iload_n 1, 1) := by decide +kernel
theorem dX3_image_15 : decode cX3_image 15 = .ok (.ifCond .ne 22, 3) := by decide +kernel
theorem dX3_image_18 : decode cX3_image 18 = .ok (.aload_n 0, 1) := by decide +kernel
theorem dX3_image_19 : decode cX3_image 19 = .ok (.getfield 19, 3) := by decide +kernel
theorem dX3_image_22 : decode cX3_image 22 = .ok (.aload_n 0, 1) := by decide +kernel
theorem dX3_image_23 : decode cX3_image 23 = .ok (.getfield 10, 3) := by decide +kernel
theorem dX3_image_26 : decode cX3_image 26 = .ok (.invokevirtual 101, 3) := by decide +kernel
theorem dX3_image_29 : decode cX3_image 29 = .ok (.aload_n 0, 1) := by decide +kernel
theorem dX3_image_30 : decode cX3_image 30 = .ok (.iconst 1, 1) := by decide +kernel
theorem dX3_image_31 : decode cX3_image 31 = .ok (.putfield 25, 3) := by decide +kernel
theorem dX3_image_34 : decode cX3_image 34 = .ok (.goto 19, 3) := by decide +kernel
theorem dX3_image_37 : decode cX3_image 37 = .ok (.aload_n 0, 1) := by decide +kernel
theorem dX3_image_38 : decode cX3_image 38 = .ok (.getfield 22, 3) := by decide +kernel
theorem dX3_image_41 : decode cX3_image 41 = .ok (.aload_n 0, 1) := by decide +kernel
theorem dX3_image_42 : decode cX3_image 42 = .ok (.getfield 10, 3) := by decide +kernel
theorem dX3_image_45 : decode cX3_image 45 = .ok (.invokevirtual 101, 3) := by decide +kernel
theorem dX3_image_48 : decode cX3_image 48 = .ok (.aload_n 0, 1) := by decide +kernel
theorem dX3_image_49 : decode cX3_image 49 = .ok (.iconst 1, 1) := by decide +kernel
theorem dX3_image_50 : decode cX3_image 50 = .ok (.putfield 29, 3) := by decide +kernel
theorem dX3_image_53 : decode cX3_image 53 = .ok (.iconst 1, 1) := by decide +kernel
theorem dX3_image_54 : decode cX3_image 54 = .ok (.ireturn, 1) := by decide +kernel
theorem dX3_from_0 : decode cX3_from 0 = .ok (.iload_n 1, 1) := by decide +kernel
theorem dX3_from_1 : decode cX3_from 1 = .ok (.iconst 0, 1) := by decide +kernel
theorem dX3_from_2 : decode cX3_from 2 = .ok (.iconst 1, 1) := by decide +kernel
theorem dX3_from_3 : decode cX3_from 3 = .ok (.invokestatic 71, 3) := by decide +kernel
theorem dX3_from_6 : decode cX3_from 6 = .ok (.ifCond .ne 8, 3) := by decide +kernel
theorem dX3_from_9 : decode cX3_from 9 = .ok (.aload_n 0, 1) := by decide +kernel
theorem dX3_from_10 : decode cX3_from 10 = .ok (.invokevirtual 79, 3) := by decide +kernel
theorem dX3_from_13 : decode cX3_from 13 = .ok (.ireturn, 1) := by decide +kernel
theorem dX3_from_14 : decode cX3_from 14 = .ok (.iload_n 1, 1) := by decide +kernel
theorem dX3_from_15 : decode cX3_from 15 = .ok (.ifCond .ne 13, 3) := by decide +kernel
theorem dX3_from_18 : decode cX3_from 18 = .ok (.aload_n 0, 1) := by decide +kernel
theorem dX3_from_19 : decode cX3_from 19 = .ok (.getfield 25, 3) := by decide +kernel
theorem dX3_from_22 : decode cX3_from 22 = .ok (.ifCond .eq 13, 3) := by decide +kernel
theorem dX3_from_25 : decode cX3_from 25 = .ok (.goto 15, 3) := by decide +kernel
theorem dX3_from_28 : decode cX3_from 28 = .ok (.aload_n 0, 1) := by decide +kernel
theorem dX3_from_29 : decode cX3_from 29 = .ok (.getfield 29, 3) := by decide +kernel
theorem dX3_from_32 : decode cX3_from 32 = .ok (.ifCond .ne 8, 3) := by decide +kernel
theorem dX3_from_35 : decode cX3_from 35 = .ok (.aload_n 0, 1) := by decide +kernel
theorem dX3_from_36 : decode cX3_from 36 = .ok (.invokevirtual 114, 3) := by decide +kernel
theorem dX3_from_39 : decode cX3_from 39 = .ok (.ireturn, 1) := by decide +kernel
theorem dX3_from_40 : decode cX3_from 40 = .ok (.aload_n 0, 1) := by decide +kernel
theorem dX3_from_41 : decode cX3_from 41 = .ok (.getfield 10, 3) := by decide +kernel
theorem dX3_from_44 : decode cX3_from 44 = .ok (.iload_n 1, 1) := by decide +kernel
theorem dX3_from_45 : decode cX3_from 45 = .ok (.ifCond .ne 10, 3) := by decide +kernel
theorem dX3_from_48 : decode cX3_from 48 = .ok (.aload_n 0, 1) := by decide +kernel
theorem dX3_from_49 : decode cX3_from 49 = .ok (.getfield 19, 3) := by decide +kernel
theorem dX3_from_52 : decode cX3_from 52 = .ok (.goto 7, 3) := by decide +kernel
theorem dX3_from_55 : decode cX3_from 55 = .ok (.aload_n 0, 1) := by decide +kernel
theorem dX3_from_56 : decode cX3_from 56 = .ok (.getfield 22, 3) := by decide +kernel
theorem dX3_from_59 : decode cX3_from 59 = .ok (.invokevirtual 101, 3) := by decide +kernel
theorem dX3_from_62 : decode cX3_from 62 = .ok (.iconst 1, 1) := by decide +kernel
theorem dX3_from_63 : decode cX3_from 63 = .ok (.ireturn, 1) := by decide +kernel
theorem dX3_status_0 : decode cX3_status 0 = .ok (.iload_n 1, 1) := by decide +kernel
theorem dX3_status_1 : decode cX3_status 1 = .ok (.tableswitch 42 0 2 #[27, 32, 37], 27) := by decide +kernel
theorem dX3_status_28 : decode cX3_status 28 = .ok (.aload_n 0, 1) := by decide +kernel
theorem dX3_status_29 : decode cX3_status 29 = .ok (.getfield 53, 3) := by decide +kernel
theorem dX3_status_32 : decode cX3_status 32 = .ok (.ireturn, 1) := by decide +kernel
theorem dX3_status_33 : decode cX3_status 33 = .ok (.aload_n 0, 1) := by decide +kernel
theorem dX3_status_34 : decode cX3_status 34 = .ok (.getfield 57, 3) := by decide +kernel
theorem dX3_status_37 : decode cX3_status 37 = .ok (.ireturn, 1) := by decide +kernel
theorem dX3_status_38 : decode cX3_status 38 = .ok (.aload_n 0, 1) := by decide +kernel
theorem dX3_status_39 : decode cX3_status 39 = .ok (.getfield 60, 3) := by decide +kernel
theorem dX3_status_42 : decode cX3_status 42 = .ok (.ireturn, 1) := by decide +kernel
theorem dX3_status_43 : decode cX3_status 43 = .ok (.aload_n 0, 1) := by decide +kernel
theorem dX3_status_44 : decode cX3_status 44 = .ok (.dup, 1) := by decide +kernel
theorem dX3_status_45 : decode cX3_status 45 = .ok (.getfield 53, 3) := by decide +kernel
theorem dX3_status_48 : decode cX3_status 48 = .ok (.iconst 1, 1) := by decide +kernel
theorem dX3_status_49 : decode cX3_status 49 = .ok (.iadd, 1) := by decide +kernel
theorem dX3_status_50 : decode cX3_status 50 = .ok (.putfield 53, 3) := by decide +kernel
theorem dX3_status_53 : decode cX3_status 53 = .ok (.iconst (-1), 1) := by decide +kernel
theorem dX3_status_54 : decode cX3_status 54 = .ok (.ireturn, 1) := by decide +kernel
theorem dX3_count_0 : decode cX3_count 0 = .ok (.iload_n 1, 1) := by decide +kernel
theorem dX3_count_1 : decode cX3_count 1 = .ok (.iconst 0, 1) := by decide +kernel
theorem dX3_count_2 : decode cX3_count 2 = .ok (.bipush 6, 2) := by decide +kernel
theorem dX3_count_4 : decode cX3_count 4 = .ok (.invokestatic 71, 3) := by decide +kernel
theorem dX3_count_7 : decode cX3_count 7 = .ok (.ifCond .eq 11, 3) := by decide +kernel
theorem dX3_count_10 : decode cX3_count 10 = .ok (.aload_n 0, 1) := by decide +kernel
theorem dX3_count_11 : decode cX3_count 11 = .ok (.iload_n 1, 1) := by decide +kernel
theorem dX3_count_12 : decode cX3_count 12 = .ok (.invokevirtual 237, 3) := by decide +kernel
theorem dX3_count_15 : decode cX3_count 15 = .ok (.goto 7, 3) := by decide +kernel
theorem dX3_count_18 : decode cX3_count 18 = .ok (.aload_n 0, 1) := by decide +kernel
